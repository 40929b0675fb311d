section CASES
variable {p : Program} {l : Launch} {e : Env} {s : State} {m : MethodId} {below : List Frame} {meth : Method} {c : Code} {D : va_G} {z : Nat → ClassId} {ts : Nat → Nat} {b L : Nat} {xs : Nat → Int32} {a aM : Nat → Nat} {n n' : Nat} {ρ ρ' : Nat → Mm} {σX σX' σM σM' : Mm} {o : Nat} {g : Nat → Int64} {H : Heap} {locs : List Loc} {ls : Array Slot} {Q : State → Prop} {cells slots mc ms i : Nat} {r : Int32}
theorem lt_36 (hl9 : l.stackTraces = false) (hL : Lc p s m c D z ts b L xs) (hi : i + 6 ≤ L) (hl : lv_has ls 7 [(0, .ref b), (1, .ref (a 0)), (2, .ref (aM 0)), (3, .ref o), (4, .int (Int32.ofNat i))]) (hP : va_P D vwCl (LwS z a n ρ σX aM σM o g) H) (hD : va_D (fun q => s.heap.size ≤ q) (LwS z a n ρ σX aM σM o g)) (hS : va_S (fun q => s.heap.size ≤ q) s.heap H locs) (hf : cells ≤ 601024 ∧ slots ≤ 7293034) (hfx : f_X6_finishWithoutIron [.inr (.inl 0), .inl (xs (i + 1))] σX = some (some (some (.inl r)), σX')) (hfm : f_X7_finishWithoutIron [.inr (.inl 0), .inl (xs (i + 1))] σM = some (some (some (.inl r)), σM')) (hth : σM' 0 0 = 0)
    (kk : ∀ (H1 : Heap) (locs1 : List Loc) (ls1 : Array Slot), lv_has ls1 7 [(0, .ref b), (1, .ref (a 0)), (2, .ref (aM 0)), (3, .ref o), (4, .int (Int32.ofNat i))] → va_P D vwCl (LwS z a n ρ σX' aM σM' o (vp_updL g 0 r.toInt64)) H1 → va_D (fun q => s.heap.size ≤ q) (LwS z a n ρ σX' aM σM' o (vp_updL g 0 r.toInt64)) → va_S (fun q => s.heap.size ≤ q) s.heap H1 locs1 → W p l e roomL s m #[Value.ref b] below meth c H1 locs1 cells slots Q (F0 m 2687 ls1 [])) : W p l e roomL s m #[Value.ref b] below meth c H locs cells slots Q (F0 m 1878 ls []) := by
  obtain ⟨hF, hX, hbl, hL3⟩ := id hL
  obtain ⟨hx, hb, hml, hown, hts, hK, hA, hA0, hSt⟩ := id hF
  refine lv_aload_n hx hb dL_law_1878 rfl (lv_at hl 1 rfl) ?_
  refine ld_arg hL hl hS (k := 1) (by omega) (by decide) (by decide) dL_law_1879 dL_law_1880 dL_law_1882 dL_law_1883 dL_law_1884 ?_
  refine lv_aload_n hx hb dL_law_1885 rfl (lv_at hl 3 rfl) ?_
  refine lcH (nA := 3) (mc := 0) (ms := 0) (As := [.ref (a 0), .int (xs (i + 1)), .ref o]) (rest := []) hF (fun sz => hhr_finishWithoutIron l hl9 D z ts s.heap.size sz a (ktl z a n ρ) σX σX' o g (xs (i + 1)) r hfx) wh_c_finishWithoutIron wq_1095 wq_1096 wq_86 (by decide +kernel) (by decide) hP hD hS hl.1 (Nat.le_of_ble_eq_true rfl) rfl rfl dL_law_1886 hf (fun H locs hP hD hS => ?_)
  refine lv_istore hx hb dL_law_1889 hl (by decide) rfl (fun ls5 hl => ?_)
  have hl : lv_has ls5 7 [(5, .int 0), (0, .ref b), (1, .ref (a 0)), (2, .ref (aM 0)), (3, .ref o), (4, .int (Int32.ofNat i))] := hl
  have hl : lv_has ls5 7 [(0, .ref b), (1, .ref (a 0)), (2, .ref (aM 0)), (3, .ref o), (4, .int (Int32.ofNat i)), (5, .int 0)] := lv_sb9 hl (by intro q hq; simp only [List.mem_cons, List.not_mem_nil, or_false] at hq ⊢; rcases hq with h | h | h | h | h | h <;> simp [h])
  refine lv_aload_n hx hb dL_law_1891 rfl (lv_at hl 2 rfl) ?_
  refine ld_arg hL hl hS (k := 1) (by omega) (by decide) (by decide) dL_law_1892 dL_law_1893 dL_law_1895 dL_law_1896 dL_law_1897 ?_
  refine lcM (nA := 1) (vs' := [.inl (xs (i + 1))]) (rest := []) hF (ct_X7_finishWithoutIron l) wq_1704 wq_1701 wq_1702 wq_1703 wq_95 (by decide +kernel) (by decide) rfl hfm hP hD hS hl.1 (Nat.le_of_ble_eq_true rfl) rfl rfl dL_law_1898 hf (fun H locs hP hD hS => ?_)
  refine lv_istore hx hb dL_law_1901 hl (by decide) rfl (fun ls6 hl => ?_)
  have hl : lv_has ls6 7 [(6, .int r), (0, .ref b), (1, .ref (a 0)), (2, .ref (aM 0)), (3, .ref o), (4, .int (Int32.ofNat i)), (5, .int 0)] := hl
  have hl : lv_has ls6 7 [(0, .ref b), (1, .ref (a 0)), (2, .ref (aM 0)), (3, .ref o), (4, .int (Int32.ofNat i)), (5, .int 0), (6, .int r)] := lv_sb9 hl (by intro q hq; simp only [List.mem_cons, List.not_mem_nil, or_false] at hq ⊢; rcases hq with h | h | h | h | h | h | h <;> simp [h])
  refine lv_aload_n hx hb dL_law_1903 rfl (lv_at hl 2 rfl) ?_
  refine lcM (nA := 0) (vs' := []) (rest := []) (σM' := σM') (r := σM' 0 0) hF (ct_X7_thrown l) wq_1304 wq_1301 wq_1302 wq_1303 wq_95 (by decide +kernel) (by decide) rfl (e_X7_thrown σM') hP hD hS hl.1 (Nat.le_of_ble_eq_true rfl) rfl rfl dL_law_1904 hf (fun H locs hP hD hS => ?_)
  refine lv_iload hx hb dL_law_1907 (lv_at hl 5 rfl) ?_
  refine lv_icmp_eq hx hb dL_law_1909 (tgt := 1914) (by decide) (fun _ => ?_) (fun h9 => absurd hth h9)
  refine lv_iload hx hb dL_law_1914 (lv_at hl 5 rfl) ?_
  refine lv_if_ne hx hb dL_law_1916 (tgt := 1931) (by decide) (fun h9 => absurd rfl h9) (fun _ => ?_)
  refine lv_aload_n hx hb dL_law_1919 rfl (lv_at hl 3 rfl) ?_
  refine lv_iconst (v := 0) hx hb dL_law_1920 (by decide) ?_
  refine va_lald hx hb hK hP 22 3 lw22 rfl (inb_vp rfl) dL_law_1921 ?_
  refine lv_iload hx hb dL_law_1922 (lv_at hl 6 rfl) ?_
  refine lv_i2l hx hb dL_law_1924 rfl ?_
  refine W.lcmp hx hb dL_law_1925 ?_
  rw [lcmp_same]
  refine lv_if_eq hx hb dL_law_1926 (tgt := 1931) (by decide) (fun _ => ?_) (fun h9 => absurd rfl h9)
  refine lv_goto hx hb dL_law_1931 (tgt := 2687) (by decide) ?_
  exact kk H locs ls6 (lv_sb9 hl (by intro q hq; simp only [List.mem_cons, List.not_mem_nil, or_false] at hq ⊢; rcases hq with h | h | h | h | h <;> simp [h])) hP hD hS
theorem lu_36 (hl9 : l.stackTraces = false) (hL : Lc p s m c D z ts b L xs) (hi : i + 6 ≤ L) (hl : lv_has ls 7 [(0, .ref b), (1, .ref (a 0)), (2, .ref (aM 0)), (3, .ref o), (4, .int (Int32.ofNat i))]) (hP : va_P D vwCl (LwS z a n ρ σX aM σM o g) H) (hD : va_D (fun q => s.heap.size ≤ q) (LwS z a n ρ σX aM σM o g)) (hS : va_S (fun q => s.heap.size ≤ q) s.heap H locs) (hf : (cells + 1) ≤ 601024 ∧ (slots + 6) ≤ 7293034) (hfx : f_X6_finishWithoutIron [.inr (.inl 0), .inl (xs (i + 1))] σX = some (none, σX')) (hfm : f_X7_finishWithoutIron [.inr (.inl 0), .inl (xs (i + 1))] σM = some (some (some (.inl r)), σM')) (hth : σM' 0 0 = 1)
    (kk : ∀ (H1 : Heap) (locs1 : List Loc) (ls1 : Array Slot), lv_has ls1 7 [(0, .ref b), (1, .ref (a 0)), (2, .ref (aM 0)), (3, .ref o), (4, .int (Int32.ofNat i))] → va_P D vwCl (LwS z a n ρ σX' aM σM' o g) H1 → va_D (fun q => s.heap.size ≤ q) (LwS z a n ρ σX' aM σM' o g) → va_S (fun q => s.heap.size ≤ q) s.heap H1 locs1 → W p l e roomL s m #[Value.ref b] below meth c H1 locs1 (cells + 1) (slots + 6) Q (F0 m 2687 ls1 [])) : W p l e roomL s m #[Value.ref b] below meth c H locs cells slots Q (F0 m 1878 ls []) := by
  obtain ⟨hF, hX, hbl, hL3⟩ := id hL
  obtain ⟨hx, hb, hml, hown, hts, hK, hA, hA0, hSt⟩ := id hF
  refine lv_aload_n hx hb dL_law_1878 rfl (lv_at hl 1 rfl) ?_
  refine ld_arg hL hl hS (k := 1) (by omega) (by decide) (by decide) dL_law_1879 dL_law_1880 dL_law_1882 dL_law_1883 dL_law_1884 ?_
  refine lv_aload_n hx hb dL_law_1885 rfl (lv_at hl 3 rfl) ?_
  refine lcH (nA := 3) (mc := 1) (ms := 6) (As := [.ref (a 0), .int (xs (i + 1)), .ref o]) (rest := []) hF (fun sz => hht_finishWithoutIron l hl9 D z ts s.heap.size sz a (ktl z a n ρ) σX σX' o g (xs (i + 1)) hfx) wh_c_finishWithoutIron wq_1095 wq_1096 wq_86 (by decide +kernel) (by decide) hP hD hS hl.1 (Nat.le_of_ble_eq_true rfl) rfl rfl dL_law_1886 hf (fun H locs hP hD hS => ?_)
  refine lv_istore hx hb dL_law_1889 hl (by decide) rfl (fun ls5 hl => ?_)
  have hl : lv_has ls5 7 [(5, .int 1), (0, .ref b), (1, .ref (a 0)), (2, .ref (aM 0)), (3, .ref o), (4, .int (Int32.ofNat i))] := hl
  have hl : lv_has ls5 7 [(0, .ref b), (1, .ref (a 0)), (2, .ref (aM 0)), (3, .ref o), (4, .int (Int32.ofNat i)), (5, .int 1)] := lv_sb9 hl (by intro q hq; simp only [List.mem_cons, List.not_mem_nil, or_false] at hq ⊢; rcases hq with h | h | h | h | h | h <;> simp [h])
  refine lv_aload_n hx hb dL_law_1891 rfl (lv_at hl 2 rfl) ?_
  refine ld_arg hL hl hS (k := 1) (by omega) (by decide) (by decide) dL_law_1892 dL_law_1893 dL_law_1895 dL_law_1896 dL_law_1897 ?_
  refine lcM (nA := 1) (vs' := [.inl (xs (i + 1))]) (rest := []) hF (ct_X7_finishWithoutIron l) wq_1704 wq_1701 wq_1702 wq_1703 wq_95 (by decide +kernel) (by decide) rfl hfm hP hD hS hl.1 (Nat.le_of_ble_eq_true rfl) rfl rfl dL_law_1898 hf (fun H locs hP hD hS => ?_)
  refine lv_istore hx hb dL_law_1901 hl (by decide) rfl (fun ls6 hl => ?_)
  have hl : lv_has ls6 7 [(6, .int r), (0, .ref b), (1, .ref (a 0)), (2, .ref (aM 0)), (3, .ref o), (4, .int (Int32.ofNat i)), (5, .int 1)] := hl
  have hl : lv_has ls6 7 [(0, .ref b), (1, .ref (a 0)), (2, .ref (aM 0)), (3, .ref o), (4, .int (Int32.ofNat i)), (5, .int 1), (6, .int r)] := lv_sb9 hl (by intro q hq; simp only [List.mem_cons, List.not_mem_nil, or_false] at hq ⊢; rcases hq with h | h | h | h | h | h | h <;> simp [h])
  refine lv_aload_n hx hb dL_law_1903 rfl (lv_at hl 2 rfl) ?_
  refine lcM (nA := 0) (vs' := []) (rest := []) (σM' := σM') (r := σM' 0 0) hF (ct_X7_thrown l) wq_1304 wq_1301 wq_1302 wq_1303 wq_95 (by decide +kernel) (by decide) rfl (e_X7_thrown σM') hP hD hS hl.1 (Nat.le_of_ble_eq_true rfl) rfl rfl dL_law_1904 hf (fun H locs hP hD hS => ?_)
  refine lv_iload hx hb dL_law_1907 (lv_at hl 5 rfl) ?_
  refine lv_icmp_eq hx hb dL_law_1909 (tgt := 1914) (by decide) (fun _ => ?_) (fun h9 => absurd hth h9)
  refine lv_iload hx hb dL_law_1914 (lv_at hl 5 rfl) ?_
  refine lv_if_ne hx hb dL_law_1916 (tgt := 1931) (by decide) (fun _ => ?_) (fun h9 => absurd h9 (by decide))
  refine lv_goto hx hb dL_law_1931 (tgt := 2687) (by decide) ?_
  exact kk H locs ls6 (lv_sb9 hl (by intro q hq; simp only [List.mem_cons, List.not_mem_nil, or_false] at hq ⊢; rcases hq with h | h | h | h | h <;> simp [h])) hP hD hS
theorem lt_37 (hl9 : l.stackTraces = false) (hL : Lc p s m c D z ts b L xs) (hi : i + 6 ≤ L) (hl : lv_has ls 7 [(0, .ref b), (1, .ref (a 0)), (2, .ref (aM 0)), (3, .ref o), (4, .int (Int32.ofNat i))]) (hP : va_P D vwCl (LwS z a n ρ σX aM σM o g) H) (hD : va_D (fun q => s.heap.size ≤ q) (LwS z a n ρ σX aM σM o g)) (hS : va_S (fun q => s.heap.size ≤ q) s.heap H locs) (hf : cells ≤ 601024 ∧ slots ≤ 7293034) (hfx : f_X6_finishAlone [.inr (.inl 0), .inl (xs (i + 1))] σX = some (some (some (.inl r)), σX')) (hfm : f_X7_finishAlone [.inr (.inl 0), .inl (xs (i + 1))] σM = some (some (some (.inl r)), σM')) (hth : σM' 0 0 = 0)
    (kk : ∀ (H1 : Heap) (locs1 : List Loc) (ls1 : Array Slot), lv_has ls1 7 [(0, .ref b), (1, .ref (a 0)), (2, .ref (aM 0)), (3, .ref o), (4, .int (Int32.ofNat i))] → va_P D vwCl (LwS z a n ρ σX' aM σM' o (vp_updL g 0 r.toInt64)) H1 → va_D (fun q => s.heap.size ≤ q) (LwS z a n ρ σX' aM σM' o (vp_updL g 0 r.toInt64)) → va_S (fun q => s.heap.size ≤ q) s.heap H1 locs1 → W p l e roomL s m #[Value.ref b] below meth c H1 locs1 cells slots Q (F0 m 2687 ls1 [])) : W p l e roomL s m #[Value.ref b] below meth c H locs cells slots Q (F0 m 1934 ls []) := by
  obtain ⟨hF, hX, hbl, hL3⟩ := id hL
  obtain ⟨hx, hb, hml, hown, hts, hK, hA, hA0, hSt⟩ := id hF
  refine lv_aload_n hx hb dL_law_1934 rfl (lv_at hl 1 rfl) ?_
  refine ld_arg hL hl hS (k := 1) (by omega) (by decide) (by decide) dL_law_1935 dL_law_1936 dL_law_1938 dL_law_1939 dL_law_1940 ?_
  refine lv_aload_n hx hb dL_law_1941 rfl (lv_at hl 3 rfl) ?_
  refine lcH (nA := 3) (mc := 0) (ms := 0) (As := [.ref (a 0), .int (xs (i + 1)), .ref o]) (rest := []) hF (fun sz => hhr_finishAlone l hl9 D z ts s.heap.size sz a (ktl z a n ρ) σX σX' o g (xs (i + 1)) r hfx) wh_c_finishAlone wq_1102 wq_1103 wq_86 (by decide +kernel) (by decide) hP hD hS hl.1 (Nat.le_of_ble_eq_true rfl) rfl rfl dL_law_1942 hf (fun H locs hP hD hS => ?_)
  refine lv_istore hx hb dL_law_1945 hl (by decide) rfl (fun ls5 hl => ?_)
  have hl : lv_has ls5 7 [(5, .int 0), (0, .ref b), (1, .ref (a 0)), (2, .ref (aM 0)), (3, .ref o), (4, .int (Int32.ofNat i))] := hl
  have hl : lv_has ls5 7 [(0, .ref b), (1, .ref (a 0)), (2, .ref (aM 0)), (3, .ref o), (4, .int (Int32.ofNat i)), (5, .int 0)] := lv_sb9 hl (by intro q hq; simp only [List.mem_cons, List.not_mem_nil, or_false] at hq ⊢; rcases hq with h | h | h | h | h | h <;> simp [h])
  refine lv_aload_n hx hb dL_law_1947 rfl (lv_at hl 2 rfl) ?_
  refine ld_arg hL hl hS (k := 1) (by omega) (by decide) (by decide) dL_law_1948 dL_law_1949 dL_law_1951 dL_law_1952 dL_law_1953 ?_
  refine lcM (nA := 1) (vs' := [.inl (xs (i + 1))]) (rest := []) hF (ct_X7_finishAlone l) wq_1708 wq_1705 wq_1706 wq_1707 wq_95 (by decide +kernel) (by decide) rfl hfm hP hD hS hl.1 (Nat.le_of_ble_eq_true rfl) rfl rfl dL_law_1954 hf (fun H locs hP hD hS => ?_)
  refine lv_istore hx hb dL_law_1957 hl (by decide) rfl (fun ls6 hl => ?_)
  have hl : lv_has ls6 7 [(6, .int r), (0, .ref b), (1, .ref (a 0)), (2, .ref (aM 0)), (3, .ref o), (4, .int (Int32.ofNat i)), (5, .int 0)] := hl
  have hl : lv_has ls6 7 [(0, .ref b), (1, .ref (a 0)), (2, .ref (aM 0)), (3, .ref o), (4, .int (Int32.ofNat i)), (5, .int 0), (6, .int r)] := lv_sb9 hl (by intro q hq; simp only [List.mem_cons, List.not_mem_nil, or_false] at hq ⊢; rcases hq with h | h | h | h | h | h | h <;> simp [h])
  refine lv_aload_n hx hb dL_law_1959 rfl (lv_at hl 2 rfl) ?_
  refine lcM (nA := 0) (vs' := []) (rest := []) (σM' := σM') (r := σM' 0 0) hF (ct_X7_thrown l) wq_1304 wq_1301 wq_1302 wq_1303 wq_95 (by decide +kernel) (by decide) rfl (e_X7_thrown σM') hP hD hS hl.1 (Nat.le_of_ble_eq_true rfl) rfl rfl dL_law_1960 hf (fun H locs hP hD hS => ?_)
  refine lv_iload hx hb dL_law_1963 (lv_at hl 5 rfl) ?_
  refine lv_icmp_eq hx hb dL_law_1965 (tgt := 1970) (by decide) (fun _ => ?_) (fun h9 => absurd hth h9)
  refine lv_iload hx hb dL_law_1970 (lv_at hl 5 rfl) ?_
  refine lv_if_ne hx hb dL_law_1972 (tgt := 1987) (by decide) (fun h9 => absurd rfl h9) (fun _ => ?_)
  refine lv_aload_n hx hb dL_law_1975 rfl (lv_at hl 3 rfl) ?_
  refine lv_iconst (v := 0) hx hb dL_law_1976 (by decide) ?_
  refine va_lald hx hb hK hP 22 3 lw22 rfl (inb_vp rfl) dL_law_1977 ?_
  refine lv_iload hx hb dL_law_1978 (lv_at hl 6 rfl) ?_
  refine lv_i2l hx hb dL_law_1980 rfl ?_
  refine W.lcmp hx hb dL_law_1981 ?_
  rw [lcmp_same]
  refine lv_if_eq hx hb dL_law_1982 (tgt := 1987) (by decide) (fun _ => ?_) (fun h9 => absurd rfl h9)
  refine lv_goto hx hb dL_law_1987 (tgt := 2687) (by decide) ?_
  exact kk H locs ls6 (lv_sb9 hl (by intro q hq; simp only [List.mem_cons, List.not_mem_nil, or_false] at hq ⊢; rcases hq with h | h | h | h | h <;> simp [h])) hP hD hS
theorem lu_37 (hl9 : l.stackTraces = false) (hL : Lc p s m c D z ts b L xs) (hi : i + 6 ≤ L) (hl : lv_has ls 7 [(0, .ref b), (1, .ref (a 0)), (2, .ref (aM 0)), (3, .ref o), (4, .int (Int32.ofNat i))]) (hP : va_P D vwCl (LwS z a n ρ σX aM σM o g) H) (hD : va_D (fun q => s.heap.size ≤ q) (LwS z a n ρ σX aM σM o g)) (hS : va_S (fun q => s.heap.size ≤ q) s.heap H locs) (hf : (cells + 1) ≤ 601024 ∧ (slots + 6) ≤ 7293034) (hfx : f_X6_finishAlone [.inr (.inl 0), .inl (xs (i + 1))] σX = some (none, σX')) (hfm : f_X7_finishAlone [.inr (.inl 0), .inl (xs (i + 1))] σM = some (some (some (.inl r)), σM')) (hth : σM' 0 0 = 1)
    (kk : ∀ (H1 : Heap) (locs1 : List Loc) (ls1 : Array Slot), lv_has ls1 7 [(0, .ref b), (1, .ref (a 0)), (2, .ref (aM 0)), (3, .ref o), (4, .int (Int32.ofNat i))] → va_P D vwCl (LwS z a n ρ σX' aM σM' o g) H1 → va_D (fun q => s.heap.size ≤ q) (LwS z a n ρ σX' aM σM' o g) → va_S (fun q => s.heap.size ≤ q) s.heap H1 locs1 → W p l e roomL s m #[Value.ref b] below meth c H1 locs1 (cells + 1) (slots + 6) Q (F0 m 2687 ls1 [])) : W p l e roomL s m #[Value.ref b] below meth c H locs cells slots Q (F0 m 1934 ls []) := by
  obtain ⟨hF, hX, hbl, hL3⟩ := id hL
  obtain ⟨hx, hb, hml, hown, hts, hK, hA, hA0, hSt⟩ := id hF
  refine lv_aload_n hx hb dL_law_1934 rfl (lv_at hl 1 rfl) ?_
  refine ld_arg hL hl hS (k := 1) (by omega) (by decide) (by decide) dL_law_1935 dL_law_1936 dL_law_1938 dL_law_1939 dL_law_1940 ?_
  refine lv_aload_n hx hb dL_law_1941 rfl (lv_at hl 3 rfl) ?_
  refine lcH (nA := 3) (mc := 1) (ms := 6) (As := [.ref (a 0), .int (xs (i + 1)), .ref o]) (rest := []) hF (fun sz => hht_finishAlone l hl9 D z ts s.heap.size sz a (ktl z a n ρ) σX σX' o g (xs (i + 1)) hfx) wh_c_finishAlone wq_1102 wq_1103 wq_86 (by decide +kernel) (by decide) hP hD hS hl.1 (Nat.le_of_ble_eq_true rfl) rfl rfl dL_law_1942 hf (fun H locs hP hD hS => ?_)
  refine lv_istore hx hb dL_law_1945 hl (by decide) rfl (fun ls5 hl => ?_)
  have hl : lv_has ls5 7 [(5, .int 1), (0, .ref b), (1, .ref (a 0)), (2, .ref (aM 0)), (3, .ref o), (4, .int (Int32.ofNat i))] := hl
  have hl : lv_has ls5 7 [(0, .ref b), (1, .ref (a 0)), (2, .ref (aM 0)), (3, .ref o), (4, .int (Int32.ofNat i)), (5, .int 1)] := lv_sb9 hl (by intro q hq; simp only [List.mem_cons, List.not_mem_nil, or_false] at hq ⊢; rcases hq with h | h | h | h | h | h <;> simp [h])
  refine lv_aload_n hx hb dL_law_1947 rfl (lv_at hl 2 rfl) ?_
  refine ld_arg hL hl hS (k := 1) (by omega) (by decide) (by decide) dL_law_1948 dL_law_1949 dL_law_1951 dL_law_1952 dL_law_1953 ?_
  refine lcM (nA := 1) (vs' := [.inl (xs (i + 1))]) (rest := []) hF (ct_X7_finishAlone l) wq_1708 wq_1705 wq_1706 wq_1707 wq_95 (by decide +kernel) (by decide) rfl hfm hP hD hS hl.1 (Nat.le_of_ble_eq_true rfl) rfl rfl dL_law_1954 hf (fun H locs hP hD hS => ?_)
  refine lv_istore hx hb dL_law_1957 hl (by decide) rfl (fun ls6 hl => ?_)
  have hl : lv_has ls6 7 [(6, .int r), (0, .ref b), (1, .ref (a 0)), (2, .ref (aM 0)), (3, .ref o), (4, .int (Int32.ofNat i)), (5, .int 1)] := hl
  have hl : lv_has ls6 7 [(0, .ref b), (1, .ref (a 0)), (2, .ref (aM 0)), (3, .ref o), (4, .int (Int32.ofNat i)), (5, .int 1), (6, .int r)] := lv_sb9 hl (by intro q hq; simp only [List.mem_cons, List.not_mem_nil, or_false] at hq ⊢; rcases hq with h | h | h | h | h | h | h <;> simp [h])
  refine lv_aload_n hx hb dL_law_1959 rfl (lv_at hl 2 rfl) ?_
  refine lcM (nA := 0) (vs' := []) (rest := []) (σM' := σM') (r := σM' 0 0) hF (ct_X7_thrown l) wq_1304 wq_1301 wq_1302 wq_1303 wq_95 (by decide +kernel) (by decide) rfl (e_X7_thrown σM') hP hD hS hl.1 (Nat.le_of_ble_eq_true rfl) rfl rfl dL_law_1960 hf (fun H locs hP hD hS => ?_)
  refine lv_iload hx hb dL_law_1963 (lv_at hl 5 rfl) ?_
  refine lv_icmp_eq hx hb dL_law_1965 (tgt := 1970) (by decide) (fun _ => ?_) (fun h9 => absurd hth h9)
  refine lv_iload hx hb dL_law_1970 (lv_at hl 5 rfl) ?_
  refine lv_if_ne hx hb dL_law_1972 (tgt := 1987) (by decide) (fun _ => ?_) (fun h9 => absurd h9 (by decide))
  refine lv_goto hx hb dL_law_1987 (tgt := 2687) (by decide) ?_
  exact kk H locs ls6 (lv_sb9 hl (by intro q hq; simp only [List.mem_cons, List.not_mem_nil, or_false] at hq ⊢; rcases hq with h | h | h | h | h <;> simp [h])) hP hD hS
theorem lc_38 (hl9 : l.stackTraces = false) (hL : Lc p s m c D z ts b L xs) (hi : i + 6 ≤ L) (hl : lv_has ls 7 [(0, .ref b), (1, .ref (a 0)), (2, .ref (aM 0)), (3, .ref o), (4, .int (Int32.ofNat i))]) (hP : va_P D vwCl (LwS z a n ρ σX aM σM o g) H) (hD : va_D (fun q => s.heap.size ≤ q) (LwS z a n ρ σX aM σM o g)) (hS : va_S (fun q => s.heap.size ≤ q) s.heap H locs) (hf : cells ≤ 601024 ∧ slots ≤ 7293034) (hfx : f_X6_orderCode [.inr (.inl 0)] σX = some (some (some (.inl r)), σX')) (hfm : f_X7_orderCode [.inr (.inl 0)] σM = some (some (some (.inl r)), σM'))
    (kk : ∀ (H1 : Heap) (locs1 : List Loc), va_P D vwCl (LwS z a n ρ σX' aM σM' o g) H1 → va_D (fun q => s.heap.size ≤ q) (LwS z a n ρ σX' aM σM' o g) → va_S (fun q => s.heap.size ≤ q) s.heap H1 locs1 → W p l e roomL s m #[Value.ref b] below meth c H1 locs1 cells slots Q (F0 m 2687 ls [])) : W p l e roomL s m #[Value.ref b] below meth c H locs cells slots Q (F0 m 1990 ls []) := by
  obtain ⟨hF, hX, hbl, hL3⟩ := id hL
  obtain ⟨hx, hb, hml, hown, hts, hK, hA, hA0, hSt⟩ := id hF
  refine lv_aload_n hx hb dL_law_1990 rfl (lv_at hl 1 rfl) ?_
  refine lcX (nA := 0) (vs' := []) (rest := []) hF (ct_X6_orderCode l hl9) wq_712 wq_709 wq_710 wq_711 wq_87 (by decide +kernel) (by decide) rfl hfx hP hD hS hl.1 (Nat.le_of_ble_eq_true rfl) rfl rfl dL_law_1991 hf (fun H locs hP hD hS => ?_)
  refine lv_aload_n hx hb dL_law_1994 rfl (lv_at hl 2 rfl) ?_
  refine lcM (nA := 0) (vs' := []) (rest := [.int r]) hF (ct_X7_orderCode l) wq_1737 wq_1734 wq_1735 wq_1736 wq_95 (by decide +kernel) (by decide) rfl hfm hP hD hS hl.1 (Nat.le_of_ble_eq_true rfl) rfl rfl dL_law_1995 hf (fun H locs hP hD hS => ?_)
  exact lv_icmp_eq hx hb dL_law_1998 (tgt := 2687) (by decide) (fun _ => kk H locs hP hD hS) (fun h9 => absurd rfl h9)
theorem lc_39 (hl9 : l.stackTraces = false) (hL : Lc p s m c D z ts b L xs) (hi : i + 6 ≤ L) (hl : lv_has ls 7 [(0, .ref b), (1, .ref (a 0)), (2, .ref (aM 0)), (3, .ref o), (4, .int (Int32.ofNat i))]) (hP : va_P D vwCl (LwS z a n ρ σX aM σM o g) H) (hD : va_D (fun q => s.heap.size ≤ q) (LwS z a n ρ σX aM σM o g)) (hS : va_S (fun q => s.heap.size ≤ q) s.heap H locs) (hf : cells ≤ 601024 ∧ slots ≤ 7293034) (hfx : f_X6_setSetting [.inr (.inl 0), .inl (xs (i + 1)), .inl (xs (i + 2))] σX = some (some (some (.inl r)), σX')) (hfm : f_X7_setSetting [.inr (.inl 0), .inl (xs (i + 1)), .inl (xs (i + 2))] σM = some (some (some (.inl r)), σM'))
    (kk : ∀ (H1 : Heap) (locs1 : List Loc), va_P D vwCl (LwS z a n ρ σX' aM σM' o g) H1 → va_D (fun q => s.heap.size ≤ q) (LwS z a n ρ σX' aM σM' o g) → va_S (fun q => s.heap.size ≤ q) s.heap H1 locs1 → W p l e roomL s m #[Value.ref b] below meth c H1 locs1 cells slots Q (F0 m 2687 ls [])) : W p l e roomL s m #[Value.ref b] below meth c H locs cells slots Q (F0 m 2003 ls []) := by
  obtain ⟨hF, hX, hbl, hL3⟩ := id hL
  obtain ⟨hx, hb, hml, hown, hts, hK, hA, hA0, hSt⟩ := id hF
  refine lv_aload_n hx hb dL_law_2003 rfl (lv_at hl 1 rfl) ?_
  refine ld_arg hL hl hS (k := 1) (by omega) (by decide) (by decide) dL_law_2004 dL_law_2005 dL_law_2007 dL_law_2008 dL_law_2009 ?_
  refine ld_arg hL hl hS (k := 2) (by omega) (by decide) (by decide) dL_law_2010 dL_law_2011 dL_law_2013 dL_law_2014 dL_law_2015 ?_
  refine lcX (nA := 2) (vs' := [.inl (xs (i + 1)), .inl (xs (i + 2))]) (rest := []) hF (ct_X6_setSetting l hl9) wq_716 wq_713 wq_714 wq_715 wq_87 (by decide +kernel) (by decide) rfl hfx hP hD hS hl.1 (Nat.le_of_ble_eq_true rfl) rfl rfl dL_law_2016 hf (fun H locs hP hD hS => ?_)
  refine lv_aload_n hx hb dL_law_2019 rfl (lv_at hl 2 rfl) ?_
  refine ld_arg hL hl hS (k := 1) (by omega) (by decide) (by decide) dL_law_2020 dL_law_2021 dL_law_2023 dL_law_2024 dL_law_2025 ?_
  refine ld_arg hL hl hS (k := 2) (by omega) (by decide) (by decide) dL_law_2026 dL_law_2027 dL_law_2029 dL_law_2030 dL_law_2031 ?_
  refine lcM (nA := 2) (vs' := [.inl (xs (i + 1)), .inl (xs (i + 2))]) (rest := [.int r]) hF (ct_X7_setSetting l) wq_1745 wq_1742 wq_1743 wq_1744 wq_95 (by decide +kernel) (by decide) rfl hfm hP hD hS hl.1 (Nat.le_of_ble_eq_true rfl) rfl rfl dL_law_2032 hf (fun H locs hP hD hS => ?_)
  exact lv_icmp_eq hx hb dL_law_2035 (tgt := 2687) (by decide) (fun _ => kk H locs hP hD hS) (fun h9 => absurd rfl h9)
theorem lk_39 (hl9 : l.stackTraces = false) (hL : Lc p s m c D z ts b L xs) (hi : i + 6 ≤ L) (hl : lv_has ls 7 [(0, .ref b), (1, .ref (a 0)), (2, .ref (aM 0)), (3, .ref o), (4, .int (Int32.ofNat i))]) (hP : va_P D vwCl (LwS z a n ρ σX aM σM o g) H) (hD : va_D (fun q => s.heap.size ≤ q) (LwS z a n ρ σX aM σM o g)) (hS : va_S (fun q => s.heap.size ≤ q) s.heap H locs) (hf : cells + mc ≤ 601024 ∧ slots + ms ≤ 7293034) (hmet : ∀ sz, Met l yX6_setSetting (.code yX6_setSetting cX6_setSetting 4 (some .int) :: gtb) (rmD 7 mc ms) (va_Pc (.ref (a 0) :: ([.inl (xs (i + 1)), .inl (xs (i + 2))] : List Vv).map (cv a ts)) (Pr D z ts s.heap.size (wT z layX a (ktl z a n ρ) σX) sz)) (Qk D z n' ρ' σX' (some (.int r)) a n (va_A (wT z layX a (ktl z a n ρ) σX) sz)) mc ms (va_A (wT z layX a (ktl z a n ρ) σX) sz)) (hfm : f_X7_setSetting [.inr (.inl 0), .inl (xs (i + 1)), .inl (xs (i + 2))] σM = some (some (some (.inl r)), σM'))
    (kk : ∀ (a' : Nat → Nat) (H1 : Heap) (locs1 : List Loc), (∀ j, j < 69 + 11 * n → a' j = a j) → va_P D vwCl (LwS z a' n' ρ' σX' aM σM' o g) H1 → va_D (fun q => s.heap.size ≤ q) (LwS z a' n' ρ' σX' aM σM' o g) → va_S (fun q => s.heap.size ≤ q) s.heap H1 locs1 → W p l e roomL s m #[Value.ref b] below meth c H1 locs1 (cells + mc) (slots + ms) Q (F0 m 2687 ls [])) : W p l e roomL s m #[Value.ref b] below meth c H locs cells slots Q (F0 m 2003 ls []) := by
  obtain ⟨hF, hX, hbl, hL3⟩ := id hL
  obtain ⟨hx, hb, hml, hown, hts, hK, hA, hA0, hSt⟩ := id hF
  refine lv_aload_n hx hb dL_law_2003 rfl (lv_at hl 1 rfl) ?_
  refine ld_arg hL hl hS (k := 1) (by omega) (by decide) (by decide) dL_law_2004 dL_law_2005 dL_law_2007 dL_law_2008 dL_law_2009 ?_
  refine ld_arg hL hl hS (k := 2) (by omega) (by decide) (by decide) dL_law_2010 dL_law_2011 dL_law_2013 dL_law_2014 dL_law_2015 ?_
  refine lcK (nA := 2) (vs' := [.inl (xs (i + 1)), .inl (xs (i + 2))]) (rest := []) hF hmet wq_716 wq_713 wq_714 wq_715 wq_87 (by decide +kernel) (by decide) rfl hP hD hS hl.1 (Nat.le_of_ble_eq_true rfl) rfl rfl dL_law_2016 hf (fun a' H locs hag hP hD hS => ?_)
  have hl : lv_has ls 7 [(0, .ref b), (1, .ref (a' 0)), (2, .ref (aM 0)), (3, .ref o), (4, .int (Int32.ofNat i))] := by
    rw [hag 0 (by omega)]
    exact hl
  refine lv_aload_n hx hb dL_law_2019 rfl (lv_at hl 2 rfl) ?_
  refine ld_arg hL hl hS (k := 1) (by omega) (by decide) (by decide) dL_law_2020 dL_law_2021 dL_law_2023 dL_law_2024 dL_law_2025 ?_
  refine ld_arg hL hl hS (k := 2) (by omega) (by decide) (by decide) dL_law_2026 dL_law_2027 dL_law_2029 dL_law_2030 dL_law_2031 ?_
  refine lcM (nA := 2) (vs' := [.inl (xs (i + 1)), .inl (xs (i + 2))]) (rest := [.int r]) hF (ct_X7_setSetting l) wq_1745 wq_1742 wq_1743 wq_1744 wq_95 (by decide +kernel) (by decide) rfl hfm hP hD hS hl.1 (Nat.le_of_ble_eq_true rfl) rfl rfl dL_law_2032 hf (fun H locs hP hD hS => ?_)
  exact lv_icmp_eq hx hb dL_law_2035 (tgt := 2687) (by decide) (fun _ => kk a' H locs hag hP hD hS) (fun h9 => absurd rfl h9)
theorem lc_40 (hl9 : l.stackTraces = false) (hL : Lc p s m c D z ts b L xs) (hi : i + 6 ≤ L) (hl : lv_has ls 7 [(0, .ref b), (1, .ref (a 0)), (2, .ref (aM 0)), (3, .ref o), (4, .int (Int32.ofNat i))]) (hP : va_P D vwCl (LwS z a n ρ σX aM σM o g) H) (hD : va_D (fun q => s.heap.size ≤ q) (LwS z a n ρ σX aM σM o g)) (hS : va_S (fun q => s.heap.size ≤ q) s.heap H locs) (hf : cells ≤ 601024 ∧ slots ≤ 7293034) (hfx : f_X6_swap [.inr (.inl 0), .inl (xs (i + 1)), .inl (xs (i + 2))] σX = some (some (some (.inl r)), σX')) (hfm : f_X7_swap [.inr (.inl 0), .inl (xs (i + 1)), .inl (xs (i + 2))] σM = some (some (some (.inl r)), σM'))
    (kk : ∀ (H1 : Heap) (locs1 : List Loc), va_P D vwCl (LwS z a n ρ σX' aM σM' o g) H1 → va_D (fun q => s.heap.size ≤ q) (LwS z a n ρ σX' aM σM' o g) → va_S (fun q => s.heap.size ≤ q) s.heap H1 locs1 → W p l e roomL s m #[Value.ref b] below meth c H1 locs1 cells slots Q (F0 m 2687 ls [])) : W p l e roomL s m #[Value.ref b] below meth c H locs cells slots Q (F0 m 2040 ls []) := by
  obtain ⟨hF, hX, hbl, hL3⟩ := id hL
  obtain ⟨hx, hb, hml, hown, hts, hK, hA, hA0, hSt⟩ := id hF
  refine lv_aload_n hx hb dL_law_2040 rfl (lv_at hl 1 rfl) ?_
  refine ld_arg hL hl hS (k := 1) (by omega) (by decide) (by decide) dL_law_2041 dL_law_2042 dL_law_2044 dL_law_2045 dL_law_2046 ?_
  refine ld_arg hL hl hS (k := 2) (by omega) (by decide) (by decide) dL_law_2047 dL_law_2048 dL_law_2050 dL_law_2051 dL_law_2052 ?_
  refine lcX (nA := 2) (vs' := [.inl (xs (i + 1)), .inl (xs (i + 2))]) (rest := []) hF (ct_X6_swap l hl9) wq_731 wq_728 wq_729 wq_730 wq_87 (by decide +kernel) (by decide) rfl hfx hP hD hS hl.1 (Nat.le_of_ble_eq_true rfl) rfl rfl dL_law_2053 hf (fun H locs hP hD hS => ?_)
  refine lv_aload_n hx hb dL_law_2056 rfl (lv_at hl 2 rfl) ?_
  refine ld_arg hL hl hS (k := 1) (by omega) (by decide) (by decide) dL_law_2057 dL_law_2058 dL_law_2060 dL_law_2061 dL_law_2062 ?_
  refine ld_arg hL hl hS (k := 2) (by omega) (by decide) (by decide) dL_law_2063 dL_law_2064 dL_law_2066 dL_law_2067 dL_law_2068 ?_
  refine lcM (nA := 2) (vs' := [.inl (xs (i + 1)), .inl (xs (i + 2))]) (rest := [.int r]) hF (ct_X7_swap l) wq_1753 wq_1750 wq_1751 wq_1752 wq_95 (by decide +kernel) (by decide) rfl hfm hP hD hS hl.1 (Nat.le_of_ble_eq_true rfl) rfl rfl dL_law_2069 hf (fun H locs hP hD hS => ?_)
  exact lv_icmp_eq hx hb dL_law_2072 (tgt := 2687) (by decide) (fun _ => kk H locs hP hD hS) (fun h9 => absurd rfl h9)
theorem lk_40 (hl9 : l.stackTraces = false) (hL : Lc p s m c D z ts b L xs) (hi : i + 6 ≤ L) (hl : lv_has ls 7 [(0, .ref b), (1, .ref (a 0)), (2, .ref (aM 0)), (3, .ref o), (4, .int (Int32.ofNat i))]) (hP : va_P D vwCl (LwS z a n ρ σX aM σM o g) H) (hD : va_D (fun q => s.heap.size ≤ q) (LwS z a n ρ σX aM σM o g)) (hS : va_S (fun q => s.heap.size ≤ q) s.heap H locs) (hf : cells + mc ≤ 601024 ∧ slots + ms ≤ 7293034) (hmet : ∀ sz, Met l yX6_swap (.code yX6_swap cX6_swap 3 (some .boolean) :: gtb) (rmD 7 mc ms) (va_Pc (.ref (a 0) :: ([.inl (xs (i + 1)), .inl (xs (i + 2))] : List Vv).map (cv a ts)) (Pr D z ts s.heap.size (wT z layX a (ktl z a n ρ) σX) sz)) (Qk D z n' ρ' σX' (some (.int r)) a n (va_A (wT z layX a (ktl z a n ρ) σX) sz)) mc ms (va_A (wT z layX a (ktl z a n ρ) σX) sz)) (hfm : f_X7_swap [.inr (.inl 0), .inl (xs (i + 1)), .inl (xs (i + 2))] σM = some (some (some (.inl r)), σM'))
    (kk : ∀ (a' : Nat → Nat) (H1 : Heap) (locs1 : List Loc), (∀ j, j < 69 + 11 * n → a' j = a j) → va_P D vwCl (LwS z a' n' ρ' σX' aM σM' o g) H1 → va_D (fun q => s.heap.size ≤ q) (LwS z a' n' ρ' σX' aM σM' o g) → va_S (fun q => s.heap.size ≤ q) s.heap H1 locs1 → W p l e roomL s m #[Value.ref b] below meth c H1 locs1 (cells + mc) (slots + ms) Q (F0 m 2687 ls [])) : W p l e roomL s m #[Value.ref b] below meth c H locs cells slots Q (F0 m 2040 ls []) := by
  obtain ⟨hF, hX, hbl, hL3⟩ := id hL
  obtain ⟨hx, hb, hml, hown, hts, hK, hA, hA0, hSt⟩ := id hF
  refine lv_aload_n hx hb dL_law_2040 rfl (lv_at hl 1 rfl) ?_
  refine ld_arg hL hl hS (k := 1) (by omega) (by decide) (by decide) dL_law_2041 dL_law_2042 dL_law_2044 dL_law_2045 dL_law_2046 ?_
  refine ld_arg hL hl hS (k := 2) (by omega) (by decide) (by decide) dL_law_2047 dL_law_2048 dL_law_2050 dL_law_2051 dL_law_2052 ?_
  refine lcK (nA := 2) (vs' := [.inl (xs (i + 1)), .inl (xs (i + 2))]) (rest := []) hF hmet wq_731 wq_728 wq_729 wq_730 wq_87 (by decide +kernel) (by decide) rfl hP hD hS hl.1 (Nat.le_of_ble_eq_true rfl) rfl rfl dL_law_2053 hf (fun a' H locs hag hP hD hS => ?_)
  have hl : lv_has ls 7 [(0, .ref b), (1, .ref (a' 0)), (2, .ref (aM 0)), (3, .ref o), (4, .int (Int32.ofNat i))] := by
    rw [hag 0 (by omega)]
    exact hl
  refine lv_aload_n hx hb dL_law_2056 rfl (lv_at hl 2 rfl) ?_
  refine ld_arg hL hl hS (k := 1) (by omega) (by decide) (by decide) dL_law_2057 dL_law_2058 dL_law_2060 dL_law_2061 dL_law_2062 ?_
  refine ld_arg hL hl hS (k := 2) (by omega) (by decide) (by decide) dL_law_2063 dL_law_2064 dL_law_2066 dL_law_2067 dL_law_2068 ?_
  refine lcM (nA := 2) (vs' := [.inl (xs (i + 1)), .inl (xs (i + 2))]) (rest := [.int r]) hF (ct_X7_swap l) wq_1753 wq_1750 wq_1751 wq_1752 wq_95 (by decide +kernel) (by decide) rfl hfm hP hD hS hl.1 (Nat.le_of_ble_eq_true rfl) rfl rfl dL_law_2069 hf (fun H locs hP hD hS => ?_)
  exact lv_icmp_eq hx hb dL_law_2072 (tgt := 2687) (by decide) (fun _ => kk a' H locs hag hP hD hS) (fun h9 => absurd rfl h9)
theorem lc_41 (hl9 : l.stackTraces = false) (hL : Lc p s m c D z ts b L xs) (hi : i + 6 ≤ L) (hl : lv_has ls 7 [(0, .ref b), (1, .ref (a 0)), (2, .ref (aM 0)), (3, .ref o), (4, .int (Int32.ofNat i))]) (hP : va_P D vwCl (LwS z a n ρ σX aM σM o g) H) (hD : va_D (fun q => s.heap.size ≤ q) (LwS z a n ρ σX aM σM o g)) (hS : va_S (fun q => s.heap.size ≤ q) s.heap H locs) (hf : cells ≤ 601024 ∧ slots ≤ 7293034) (hfx : f_X6_useBestOrder [.inr (.inl 0)] σX = some (some (some (.inl r)), σX')) (hfm : f_X7_useBestOrder [.inr (.inl 0)] σM = some (some (some (.inl r)), σM'))
    (kk : ∀ (H1 : Heap) (locs1 : List Loc), va_P D vwCl (LwS z a n ρ σX' aM σM' o g) H1 → va_D (fun q => s.heap.size ≤ q) (LwS z a n ρ σX' aM σM' o g) → va_S (fun q => s.heap.size ≤ q) s.heap H1 locs1 → W p l e roomL s m #[Value.ref b] below meth c H1 locs1 cells slots Q (F0 m 2687 ls [])) : W p l e roomL s m #[Value.ref b] below meth c H locs cells slots Q (F0 m 2077 ls []) := by
  obtain ⟨hF, hX, hbl, hL3⟩ := id hL
  obtain ⟨hx, hb, hml, hown, hts, hK, hA, hA0, hSt⟩ := id hF
  refine lv_aload_n hx hb dL_law_2077 rfl (lv_at hl 1 rfl) ?_
  refine lcX (nA := 0) (vs' := []) (rest := []) hF (ct_X6_useBestOrder l hl9) wq_740 wq_737 wq_738 wq_739 wq_87 (by decide +kernel) (by decide) rfl hfx hP hD hS hl.1 (Nat.le_of_ble_eq_true rfl) rfl rfl dL_law_2078 hf (fun H locs hP hD hS => ?_)
  refine lv_aload_n hx hb dL_law_2081 rfl (lv_at hl 2 rfl) ?_
  refine lcM (nA := 0) (vs' := []) (rest := [.int r]) hF (ct_X7_useBestOrder l) wq_1757 wq_1754 wq_1755 wq_1756 wq_95 (by decide +kernel) (by decide) rfl hfm hP hD hS hl.1 (Nat.le_of_ble_eq_true rfl) rfl rfl dL_law_2082 hf (fun H locs hP hD hS => ?_)
  exact lv_icmp_eq hx hb dL_law_2085 (tgt := 2687) (by decide) (fun _ => kk H locs hP hD hS) (fun h9 => absurd rfl h9)
theorem lk_41 (hl9 : l.stackTraces = false) (hL : Lc p s m c D z ts b L xs) (hi : i + 6 ≤ L) (hl : lv_has ls 7 [(0, .ref b), (1, .ref (a 0)), (2, .ref (aM 0)), (3, .ref o), (4, .int (Int32.ofNat i))]) (hP : va_P D vwCl (LwS z a n ρ σX aM σM o g) H) (hD : va_D (fun q => s.heap.size ≤ q) (LwS z a n ρ σX aM σM o g)) (hS : va_S (fun q => s.heap.size ≤ q) s.heap H locs) (hf : cells + mc ≤ 601024 ∧ slots + ms ≤ 7293034) (hmet : ∀ sz, Met l yX6_useBestOrder (.code yX6_useBestOrder cX6_useBestOrder 2 (some .int) :: gtb) (rmD 9 mc ms) (va_Pc (.ref (a 0) :: ([] : List Vv).map (cv a ts)) (Pr D z ts s.heap.size (wT z layX a (ktl z a n ρ) σX) sz)) (Qk D z n' ρ' σX' (some (.int r)) a n (va_A (wT z layX a (ktl z a n ρ) σX) sz)) mc ms (va_A (wT z layX a (ktl z a n ρ) σX) sz)) (hfm : f_X7_useBestOrder [.inr (.inl 0)] σM = some (some (some (.inl r)), σM'))
    (kk : ∀ (a' : Nat → Nat) (H1 : Heap) (locs1 : List Loc), (∀ j, j < 69 + 11 * n → a' j = a j) → va_P D vwCl (LwS z a' n' ρ' σX' aM σM' o g) H1 → va_D (fun q => s.heap.size ≤ q) (LwS z a' n' ρ' σX' aM σM' o g) → va_S (fun q => s.heap.size ≤ q) s.heap H1 locs1 → W p l e roomL s m #[Value.ref b] below meth c H1 locs1 (cells + mc) (slots + ms) Q (F0 m 2687 ls [])) : W p l e roomL s m #[Value.ref b] below meth c H locs cells slots Q (F0 m 2077 ls []) := by
  obtain ⟨hF, hX, hbl, hL3⟩ := id hL
  obtain ⟨hx, hb, hml, hown, hts, hK, hA, hA0, hSt⟩ := id hF
  refine lv_aload_n hx hb dL_law_2077 rfl (lv_at hl 1 rfl) ?_
  refine lcK (nA := 0) (vs' := []) (rest := []) hF hmet wq_740 wq_737 wq_738 wq_739 wq_87 (by decide +kernel) (by decide) rfl hP hD hS hl.1 (Nat.le_of_ble_eq_true rfl) rfl rfl dL_law_2078 hf (fun a' H locs hag hP hD hS => ?_)
  have hl : lv_has ls 7 [(0, .ref b), (1, .ref (a' 0)), (2, .ref (aM 0)), (3, .ref o), (4, .int (Int32.ofNat i))] := by
    rw [hag 0 (by omega)]
    exact hl
  refine lv_aload_n hx hb dL_law_2081 rfl (lv_at hl 2 rfl) ?_
  refine lcM (nA := 0) (vs' := []) (rest := [.int r]) hF (ct_X7_useBestOrder l) wq_1757 wq_1754 wq_1755 wq_1756 wq_95 (by decide +kernel) (by decide) rfl hfm hP hD hS hl.1 (Nat.le_of_ble_eq_true rfl) rfl rfl dL_law_2082 hf (fun H locs hP hD hS => ?_)
  exact lv_icmp_eq hx hb dL_law_2085 (tgt := 2687) (by decide) (fun _ => kk a' H locs hag hP hD hS) (fun h9 => absurd rfl h9)
theorem lc_42 (hl9 : l.stackTraces = false) (hL : Lc p s m c D z ts b L xs) (hi : i + 6 ≤ L) (hl : lv_has ls 7 [(0, .ref b), (1, .ref (a 0)), (2, .ref (aM 0)), (3, .ref o), (4, .int (Int32.ofNat i))]) (hP : va_P D vwCl (LwS z a n ρ σX aM σM o g) H) (hD : va_D (fun q => s.heap.size ≤ q) (LwS z a n ρ σX aM σM o g)) (hS : va_S (fun q => s.heap.size ≤ q) s.heap H locs) (hf : cells ≤ 601024 ∧ slots ≤ 7293034) (hfx : f_X6_setPlace [.inr (.inl 0), .inl (xs (i + 1)), .inl (xs (i + 2)), .inl (xs (i + 3))] σX = some (some (some (.inl r)), σX')) (hfm : f_X7_setPlace [.inr (.inl 0), .inl (xs (i + 1)), .inl (xs (i + 2)), .inl (xs (i + 3))] σM = some (some (some (.inl r)), σM'))
    (kk : ∀ (H1 : Heap) (locs1 : List Loc), va_P D vwCl (LwS z a n ρ σX' aM σM' o g) H1 → va_D (fun q => s.heap.size ≤ q) (LwS z a n ρ σX' aM σM' o g) → va_S (fun q => s.heap.size ≤ q) s.heap H1 locs1 → W p l e roomL s m #[Value.ref b] below meth c H1 locs1 cells slots Q (F0 m 2687 ls [])) : W p l e roomL s m #[Value.ref b] below meth c H locs cells slots Q (F0 m 2090 ls []) := by
  obtain ⟨hF, hX, hbl, hL3⟩ := id hL
  obtain ⟨hx, hb, hml, hown, hts, hK, hA, hA0, hSt⟩ := id hF
  refine lv_aload_n hx hb dL_law_2090 rfl (lv_at hl 1 rfl) ?_
  refine ld_arg hL hl hS (k := 1) (by omega) (by decide) (by decide) dL_law_2091 dL_law_2092 dL_law_2094 dL_law_2095 dL_law_2096 ?_
  refine ld_arg hL hl hS (k := 2) (by omega) (by decide) (by decide) dL_law_2097 dL_law_2098 dL_law_2100 dL_law_2101 dL_law_2102 ?_
  refine ld_arg hL hl hS (k := 3) (by omega) (by decide) (by decide) dL_law_2103 dL_law_2104 dL_law_2106 dL_law_2107 dL_law_2108 ?_
  refine lcX (nA := 3) (vs' := [.inl (xs (i + 1)), .inl (xs (i + 2)), .inl (xs (i + 3))]) (rest := []) hF (ct_X6_setPlace l hl9) wq_745 wq_742 wq_743 wq_744 wq_87 (by decide +kernel) (by decide) rfl hfx hP hD hS hl.1 (Nat.le_of_ble_eq_true rfl) rfl rfl dL_law_2109 hf (fun H locs hP hD hS => ?_)
  refine lv_aload_n hx hb dL_law_2112 rfl (lv_at hl 2 rfl) ?_
  refine ld_arg hL hl hS (k := 1) (by omega) (by decide) (by decide) dL_law_2113 dL_law_2114 dL_law_2116 dL_law_2117 dL_law_2118 ?_
  refine ld_arg hL hl hS (k := 2) (by omega) (by decide) (by decide) dL_law_2119 dL_law_2120 dL_law_2122 dL_law_2123 dL_law_2124 ?_
  refine ld_arg hL hl hS (k := 3) (by omega) (by decide) (by decide) dL_law_2125 dL_law_2126 dL_law_2128 dL_law_2129 dL_law_2130 ?_
  refine lcM (nA := 3) (vs' := [.inl (xs (i + 1)), .inl (xs (i + 2)), .inl (xs (i + 3))]) (rest := [.int r]) hF (ct_X7_setPlace l) wq_1761 wq_1758 wq_1759 wq_1760 wq_95 (by decide +kernel) (by decide) rfl hfm hP hD hS hl.1 (Nat.le_of_ble_eq_true rfl) rfl rfl dL_law_2131 hf (fun H locs hP hD hS => ?_)
  exact lv_icmp_eq hx hb dL_law_2134 (tgt := 2687) (by decide) (fun _ => kk H locs hP hD hS) (fun h9 => absurd rfl h9)
theorem lk_42 (hl9 : l.stackTraces = false) (hL : Lc p s m c D z ts b L xs) (hi : i + 6 ≤ L) (hl : lv_has ls 7 [(0, .ref b), (1, .ref (a 0)), (2, .ref (aM 0)), (3, .ref o), (4, .int (Int32.ofNat i))]) (hP : va_P D vwCl (LwS z a n ρ σX aM σM o g) H) (hD : va_D (fun q => s.heap.size ≤ q) (LwS z a n ρ σX aM σM o g)) (hS : va_S (fun q => s.heap.size ≤ q) s.heap H locs) (hf : cells + mc ≤ 601024 ∧ slots + ms ≤ 7293034) (hmet : ∀ sz, Met l yX6_setPlace (.code yX6_setPlace cX6_setPlace 4 (some .boolean) :: gtb) (rmD 7 mc ms) (va_Pc (.ref (a 0) :: ([.inl (xs (i + 1)), .inl (xs (i + 2)), .inl (xs (i + 3))] : List Vv).map (cv a ts)) (Pr D z ts s.heap.size (wT z layX a (ktl z a n ρ) σX) sz)) (Qk D z n' ρ' σX' (some (.int r)) a n (va_A (wT z layX a (ktl z a n ρ) σX) sz)) mc ms (va_A (wT z layX a (ktl z a n ρ) σX) sz)) (hfm : f_X7_setPlace [.inr (.inl 0), .inl (xs (i + 1)), .inl (xs (i + 2)), .inl (xs (i + 3))] σM = some (some (some (.inl r)), σM'))
    (kk : ∀ (a' : Nat → Nat) (H1 : Heap) (locs1 : List Loc), (∀ j, j < 69 + 11 * n → a' j = a j) → va_P D vwCl (LwS z a' n' ρ' σX' aM σM' o g) H1 → va_D (fun q => s.heap.size ≤ q) (LwS z a' n' ρ' σX' aM σM' o g) → va_S (fun q => s.heap.size ≤ q) s.heap H1 locs1 → W p l e roomL s m #[Value.ref b] below meth c H1 locs1 (cells + mc) (slots + ms) Q (F0 m 2687 ls [])) : W p l e roomL s m #[Value.ref b] below meth c H locs cells slots Q (F0 m 2090 ls []) := by
  obtain ⟨hF, hX, hbl, hL3⟩ := id hL
  obtain ⟨hx, hb, hml, hown, hts, hK, hA, hA0, hSt⟩ := id hF
  refine lv_aload_n hx hb dL_law_2090 rfl (lv_at hl 1 rfl) ?_
  refine ld_arg hL hl hS (k := 1) (by omega) (by decide) (by decide) dL_law_2091 dL_law_2092 dL_law_2094 dL_law_2095 dL_law_2096 ?_
  refine ld_arg hL hl hS (k := 2) (by omega) (by decide) (by decide) dL_law_2097 dL_law_2098 dL_law_2100 dL_law_2101 dL_law_2102 ?_
  refine ld_arg hL hl hS (k := 3) (by omega) (by decide) (by decide) dL_law_2103 dL_law_2104 dL_law_2106 dL_law_2107 dL_law_2108 ?_
  refine lcK (nA := 3) (vs' := [.inl (xs (i + 1)), .inl (xs (i + 2)), .inl (xs (i + 3))]) (rest := []) hF hmet wq_745 wq_742 wq_743 wq_744 wq_87 (by decide +kernel) (by decide) rfl hP hD hS hl.1 (Nat.le_of_ble_eq_true rfl) rfl rfl dL_law_2109 hf (fun a' H locs hag hP hD hS => ?_)
  have hl : lv_has ls 7 [(0, .ref b), (1, .ref (a' 0)), (2, .ref (aM 0)), (3, .ref o), (4, .int (Int32.ofNat i))] := by
    rw [hag 0 (by omega)]
    exact hl
  refine lv_aload_n hx hb dL_law_2112 rfl (lv_at hl 2 rfl) ?_
  refine ld_arg hL hl hS (k := 1) (by omega) (by decide) (by decide) dL_law_2113 dL_law_2114 dL_law_2116 dL_law_2117 dL_law_2118 ?_
  refine ld_arg hL hl hS (k := 2) (by omega) (by decide) (by decide) dL_law_2119 dL_law_2120 dL_law_2122 dL_law_2123 dL_law_2124 ?_
  refine ld_arg hL hl hS (k := 3) (by omega) (by decide) (by decide) dL_law_2125 dL_law_2126 dL_law_2128 dL_law_2129 dL_law_2130 ?_
  refine lcM (nA := 3) (vs' := [.inl (xs (i + 1)), .inl (xs (i + 2)), .inl (xs (i + 3))]) (rest := [.int r]) hF (ct_X7_setPlace l) wq_1761 wq_1758 wq_1759 wq_1760 wq_95 (by decide +kernel) (by decide) rfl hfm hP hD hS hl.1 (Nat.le_of_ble_eq_true rfl) rfl rfl dL_law_2131 hf (fun H locs hP hD hS => ?_)
  exact lv_icmp_eq hx hb dL_law_2134 (tgt := 2687) (by decide) (fun _ => kk a' H locs hag hP hD hS) (fun h9 => absurd rfl h9)
theorem lc_43 (hl9 : l.stackTraces = false) (hL : Lc p s m c D z ts b L xs) (hi : i + 6 ≤ L) (hl : lv_has ls 7 [(0, .ref b), (1, .ref (a 0)), (2, .ref (aM 0)), (3, .ref o), (4, .int (Int32.ofNat i))]) (hP : va_P D vwCl (LwS z a n ρ σX aM σM o g) H) (hD : va_D (fun q => s.heap.size ≤ q) (LwS z a n ρ σX aM σM o g)) (hS : va_S (fun q => s.heap.size ≤ q) s.heap H locs) (hf : cells ≤ 601024 ∧ slots ≤ 7293034) (hfx : f_X6_addStep [.inr (.inl 0), .inl (xs (i + 1)), .inl (xs (i + 2)), .inl (xs (i + 3))] σX = some (some (some (.inl r)), σX')) (hfm : f_X7_addStep [.inr (.inl 0), .inl (xs (i + 1)), .inl (xs (i + 2)), .inl (xs (i + 3))] σM = some (some (some (.inl r)), σM'))
    (kk : ∀ (H1 : Heap) (locs1 : List Loc), va_P D vwCl (LwS z a n ρ σX' aM σM' o g) H1 → va_D (fun q => s.heap.size ≤ q) (LwS z a n ρ σX' aM σM' o g) → va_S (fun q => s.heap.size ≤ q) s.heap H1 locs1 → W p l e roomL s m #[Value.ref b] below meth c H1 locs1 cells slots Q (F0 m 2687 ls [])) : W p l e roomL s m #[Value.ref b] below meth c H locs cells slots Q (F0 m 2139 ls []) := by
  obtain ⟨hF, hX, hbl, hL3⟩ := id hL
  obtain ⟨hx, hb, hml, hown, hts, hK, hA, hA0, hSt⟩ := id hF
  refine lv_aload_n hx hb dL_law_2139 rfl (lv_at hl 1 rfl) ?_
  refine ld_arg hL hl hS (k := 1) (by omega) (by decide) (by decide) dL_law_2140 dL_law_2141 dL_law_2143 dL_law_2144 dL_law_2145 ?_
  refine ld_arg hL hl hS (k := 2) (by omega) (by decide) (by decide) dL_law_2146 dL_law_2147 dL_law_2149 dL_law_2150 dL_law_2151 ?_
  refine ld_arg hL hl hS (k := 3) (by omega) (by decide) (by decide) dL_law_2152 dL_law_2153 dL_law_2155 dL_law_2156 dL_law_2157 ?_
  refine lcX (nA := 3) (vs' := [.inl (xs (i + 1)), .inl (xs (i + 2)), .inl (xs (i + 3))]) (rest := []) hF (ct_X6_addStep l hl9) wq_753 wq_750 wq_751 wq_752 wq_87 (by decide +kernel) (by decide) rfl hfx hP hD hS hl.1 (Nat.le_of_ble_eq_true rfl) rfl rfl dL_law_2158 hf (fun H locs hP hD hS => ?_)
  refine lv_aload_n hx hb dL_law_2161 rfl (lv_at hl 2 rfl) ?_
  refine ld_arg hL hl hS (k := 1) (by omega) (by decide) (by decide) dL_law_2162 dL_law_2163 dL_law_2165 dL_law_2166 dL_law_2167 ?_
  refine ld_arg hL hl hS (k := 2) (by omega) (by decide) (by decide) dL_law_2168 dL_law_2169 dL_law_2171 dL_law_2172 dL_law_2173 ?_
  refine ld_arg hL hl hS (k := 3) (by omega) (by decide) (by decide) dL_law_2174 dL_law_2175 dL_law_2177 dL_law_2178 dL_law_2179 ?_
  refine lcM (nA := 3) (vs' := [.inl (xs (i + 1)), .inl (xs (i + 2)), .inl (xs (i + 3))]) (rest := [.int r]) hF (ct_X7_addStep l) wq_1765 wq_1762 wq_1763 wq_1764 wq_95 (by decide +kernel) (by decide) rfl hfm hP hD hS hl.1 (Nat.le_of_ble_eq_true rfl) rfl rfl dL_law_2180 hf (fun H locs hP hD hS => ?_)
  exact lv_icmp_eq hx hb dL_law_2183 (tgt := 2687) (by decide) (fun _ => kk H locs hP hD hS) (fun h9 => absurd rfl h9)
theorem lk_43 (hl9 : l.stackTraces = false) (hL : Lc p s m c D z ts b L xs) (hi : i + 6 ≤ L) (hl : lv_has ls 7 [(0, .ref b), (1, .ref (a 0)), (2, .ref (aM 0)), (3, .ref o), (4, .int (Int32.ofNat i))]) (hP : va_P D vwCl (LwS z a n ρ σX aM σM o g) H) (hD : va_D (fun q => s.heap.size ≤ q) (LwS z a n ρ σX aM σM o g)) (hS : va_S (fun q => s.heap.size ≤ q) s.heap H locs) (hf : cells + mc ≤ 601024 ∧ slots + ms ≤ 7293034) (hmet : ∀ sz, Met l yX6_addStep (.code yX6_addStep cX6_addStep 4 (some .int) :: gtb) (rmD 7 mc ms) (va_Pc (.ref (a 0) :: ([.inl (xs (i + 1)), .inl (xs (i + 2)), .inl (xs (i + 3))] : List Vv).map (cv a ts)) (Pr D z ts s.heap.size (wT z layX a (ktl z a n ρ) σX) sz)) (Qk D z n' ρ' σX' (some (.int r)) a n (va_A (wT z layX a (ktl z a n ρ) σX) sz)) mc ms (va_A (wT z layX a (ktl z a n ρ) σX) sz)) (hfm : f_X7_addStep [.inr (.inl 0), .inl (xs (i + 1)), .inl (xs (i + 2)), .inl (xs (i + 3))] σM = some (some (some (.inl r)), σM'))
    (kk : ∀ (a' : Nat → Nat) (H1 : Heap) (locs1 : List Loc), (∀ j, j < 69 + 11 * n → a' j = a j) → va_P D vwCl (LwS z a' n' ρ' σX' aM σM' o g) H1 → va_D (fun q => s.heap.size ≤ q) (LwS z a' n' ρ' σX' aM σM' o g) → va_S (fun q => s.heap.size ≤ q) s.heap H1 locs1 → W p l e roomL s m #[Value.ref b] below meth c H1 locs1 (cells + mc) (slots + ms) Q (F0 m 2687 ls [])) : W p l e roomL s m #[Value.ref b] below meth c H locs cells slots Q (F0 m 2139 ls []) := by
  obtain ⟨hF, hX, hbl, hL3⟩ := id hL
  obtain ⟨hx, hb, hml, hown, hts, hK, hA, hA0, hSt⟩ := id hF
  refine lv_aload_n hx hb dL_law_2139 rfl (lv_at hl 1 rfl) ?_
  refine ld_arg hL hl hS (k := 1) (by omega) (by decide) (by decide) dL_law_2140 dL_law_2141 dL_law_2143 dL_law_2144 dL_law_2145 ?_
  refine ld_arg hL hl hS (k := 2) (by omega) (by decide) (by decide) dL_law_2146 dL_law_2147 dL_law_2149 dL_law_2150 dL_law_2151 ?_
  refine ld_arg hL hl hS (k := 3) (by omega) (by decide) (by decide) dL_law_2152 dL_law_2153 dL_law_2155 dL_law_2156 dL_law_2157 ?_
  refine lcK (nA := 3) (vs' := [.inl (xs (i + 1)), .inl (xs (i + 2)), .inl (xs (i + 3))]) (rest := []) hF hmet wq_753 wq_750 wq_751 wq_752 wq_87 (by decide +kernel) (by decide) rfl hP hD hS hl.1 (Nat.le_of_ble_eq_true rfl) rfl rfl dL_law_2158 hf (fun a' H locs hag hP hD hS => ?_)
  have hl : lv_has ls 7 [(0, .ref b), (1, .ref (a' 0)), (2, .ref (aM 0)), (3, .ref o), (4, .int (Int32.ofNat i))] := by
    rw [hag 0 (by omega)]
    exact hl
  refine lv_aload_n hx hb dL_law_2161 rfl (lv_at hl 2 rfl) ?_
  refine ld_arg hL hl hS (k := 1) (by omega) (by decide) (by decide) dL_law_2162 dL_law_2163 dL_law_2165 dL_law_2166 dL_law_2167 ?_
  refine ld_arg hL hl hS (k := 2) (by omega) (by decide) (by decide) dL_law_2168 dL_law_2169 dL_law_2171 dL_law_2172 dL_law_2173 ?_
  refine ld_arg hL hl hS (k := 3) (by omega) (by decide) (by decide) dL_law_2174 dL_law_2175 dL_law_2177 dL_law_2178 dL_law_2179 ?_
  refine lcM (nA := 3) (vs' := [.inl (xs (i + 1)), .inl (xs (i + 2)), .inl (xs (i + 3))]) (rest := [.int r]) hF (ct_X7_addStep l) wq_1765 wq_1762 wq_1763 wq_1764 wq_95 (by decide +kernel) (by decide) rfl hfm hP hD hS hl.1 (Nat.le_of_ble_eq_true rfl) rfl rfl dL_law_2180 hf (fun H locs hP hD hS => ?_)
  exact lv_icmp_eq hx hb dL_law_2183 (tgt := 2687) (by decide) (fun _ => kk a' H locs hag hP hD hS) (fun h9 => absurd rfl h9)
theorem lc_44 (hl9 : l.stackTraces = false) (hL : Lc p s m c D z ts b L xs) (hi : i + 6 ≤ L) (hl : lv_has ls 7 [(0, .ref b), (1, .ref (a 0)), (2, .ref (aM 0)), (3, .ref o), (4, .int (Int32.ofNat i))]) (hP : va_P D vwCl (LwS z a n ρ σX aM σM o g) H) (hD : va_D (fun q => s.heap.size ≤ q) (LwS z a n ρ σX aM σM o g)) (hS : va_S (fun q => s.heap.size ≤ q) s.heap H locs) (hf : cells ≤ 601024 ∧ slots ≤ 7293034) (hfx : f_X6_removeStep [.inr (.inl 0), .inl (xs (i + 1))] σX = some (some (some (.inl r)), σX')) (hfm : f_X7_removeStep [.inr (.inl 0), .inl (xs (i + 1))] σM = some (some (some (.inl r)), σM'))
    (kk : ∀ (H1 : Heap) (locs1 : List Loc), va_P D vwCl (LwS z a n ρ σX' aM σM' o g) H1 → va_D (fun q => s.heap.size ≤ q) (LwS z a n ρ σX' aM σM' o g) → va_S (fun q => s.heap.size ≤ q) s.heap H1 locs1 → W p l e roomL s m #[Value.ref b] below meth c H1 locs1 cells slots Q (F0 m 2687 ls [])) : W p l e roomL s m #[Value.ref b] below meth c H locs cells slots Q (F0 m 2188 ls []) := by
  obtain ⟨hF, hX, hbl, hL3⟩ := id hL
  obtain ⟨hx, hb, hml, hown, hts, hK, hA, hA0, hSt⟩ := id hF
  refine lv_aload_n hx hb dL_law_2188 rfl (lv_at hl 1 rfl) ?_
  refine ld_arg hL hl hS (k := 1) (by omega) (by decide) (by decide) dL_law_2189 dL_law_2190 dL_law_2192 dL_law_2193 dL_law_2194 ?_
  refine lcX (nA := 1) (vs' := [.inl (xs (i + 1))]) (rest := []) hF (ct_X6_removeStep l hl9) wq_758 wq_755 wq_756 wq_757 wq_87 (by decide +kernel) (by decide) rfl hfx hP hD hS hl.1 (Nat.le_of_ble_eq_true rfl) rfl rfl dL_law_2195 hf (fun H locs hP hD hS => ?_)
  refine lv_aload_n hx hb dL_law_2198 rfl (lv_at hl 2 rfl) ?_
  refine ld_arg hL hl hS (k := 1) (by omega) (by decide) (by decide) dL_law_2199 dL_law_2200 dL_law_2202 dL_law_2203 dL_law_2204 ?_
  refine lcM (nA := 1) (vs' := [.inl (xs (i + 1))]) (rest := [.int r]) hF (ct_X7_removeStep l) wq_1769 wq_1766 wq_1767 wq_1768 wq_95 (by decide +kernel) (by decide) rfl hfm hP hD hS hl.1 (Nat.le_of_ble_eq_true rfl) rfl rfl dL_law_2205 hf (fun H locs hP hD hS => ?_)
  exact lv_icmp_eq hx hb dL_law_2208 (tgt := 2687) (by decide) (fun _ => kk H locs hP hD hS) (fun h9 => absurd rfl h9)
theorem lk_44 (hl9 : l.stackTraces = false) (hL : Lc p s m c D z ts b L xs) (hi : i + 6 ≤ L) (hl : lv_has ls 7 [(0, .ref b), (1, .ref (a 0)), (2, .ref (aM 0)), (3, .ref o), (4, .int (Int32.ofNat i))]) (hP : va_P D vwCl (LwS z a n ρ σX aM σM o g) H) (hD : va_D (fun q => s.heap.size ≤ q) (LwS z a n ρ σX aM σM o g)) (hS : va_S (fun q => s.heap.size ≤ q) s.heap H locs) (hf : cells + mc ≤ 601024 ∧ slots + ms ≤ 7293034) (hmet : ∀ sz, Met l yX6_removeStep (.code yX6_removeStep cX6_removeStep 2 (some .int) :: gtb) (rmD 7 mc ms) (va_Pc (.ref (a 0) :: ([.inl (xs (i + 1))] : List Vv).map (cv a ts)) (Pr D z ts s.heap.size (wT z layX a (ktl z a n ρ) σX) sz)) (Qk D z n' ρ' σX' (some (.int r)) a n (va_A (wT z layX a (ktl z a n ρ) σX) sz)) mc ms (va_A (wT z layX a (ktl z a n ρ) σX) sz)) (hfm : f_X7_removeStep [.inr (.inl 0), .inl (xs (i + 1))] σM = some (some (some (.inl r)), σM'))
    (kk : ∀ (a' : Nat → Nat) (H1 : Heap) (locs1 : List Loc), (∀ j, j < 69 + 11 * n → a' j = a j) → va_P D vwCl (LwS z a' n' ρ' σX' aM σM' o g) H1 → va_D (fun q => s.heap.size ≤ q) (LwS z a' n' ρ' σX' aM σM' o g) → va_S (fun q => s.heap.size ≤ q) s.heap H1 locs1 → W p l e roomL s m #[Value.ref b] below meth c H1 locs1 (cells + mc) (slots + ms) Q (F0 m 2687 ls [])) : W p l e roomL s m #[Value.ref b] below meth c H locs cells slots Q (F0 m 2188 ls []) := by
  obtain ⟨hF, hX, hbl, hL3⟩ := id hL
  obtain ⟨hx, hb, hml, hown, hts, hK, hA, hA0, hSt⟩ := id hF
  refine lv_aload_n hx hb dL_law_2188 rfl (lv_at hl 1 rfl) ?_
  refine ld_arg hL hl hS (k := 1) (by omega) (by decide) (by decide) dL_law_2189 dL_law_2190 dL_law_2192 dL_law_2193 dL_law_2194 ?_
  refine lcK (nA := 1) (vs' := [.inl (xs (i + 1))]) (rest := []) hF hmet wq_758 wq_755 wq_756 wq_757 wq_87 (by decide +kernel) (by decide) rfl hP hD hS hl.1 (Nat.le_of_ble_eq_true rfl) rfl rfl dL_law_2195 hf (fun a' H locs hag hP hD hS => ?_)
  have hl : lv_has ls 7 [(0, .ref b), (1, .ref (a' 0)), (2, .ref (aM 0)), (3, .ref o), (4, .int (Int32.ofNat i))] := by
    rw [hag 0 (by omega)]
    exact hl
  refine lv_aload_n hx hb dL_law_2198 rfl (lv_at hl 2 rfl) ?_
  refine ld_arg hL hl hS (k := 1) (by omega) (by decide) (by decide) dL_law_2199 dL_law_2200 dL_law_2202 dL_law_2203 dL_law_2204 ?_
  refine lcM (nA := 1) (vs' := [.inl (xs (i + 1))]) (rest := [.int r]) hF (ct_X7_removeStep l) wq_1769 wq_1766 wq_1767 wq_1768 wq_95 (by decide +kernel) (by decide) rfl hfm hP hD hS hl.1 (Nat.le_of_ble_eq_true rfl) rfl rfl dL_law_2205 hf (fun H locs hP hD hS => ?_)
  exact lv_icmp_eq hx hb dL_law_2208 (tgt := 2687) (by decide) (fun _ => kk a' H locs hag hP hD hS) (fun h9 => absurd rfl h9)
theorem lc_45 (hl9 : l.stackTraces = false) (hL : Lc p s m c D z ts b L xs) (hi : i + 6 ≤ L) (hl : lv_has ls 7 [(0, .ref b), (1, .ref (a 0)), (2, .ref (aM 0)), (3, .ref o), (4, .int (Int32.ofNat i))]) (hP : va_P D vwCl (LwS z a n ρ σX aM σM o g) H) (hD : va_D (fun q => s.heap.size ≤ q) (LwS z a n ρ σX aM σM o g)) (hS : va_S (fun q => s.heap.size ≤ q) s.heap H locs) (hf : cells ≤ 601024 ∧ slots ≤ 7293034) (hfx : f_X6_undo [.inr (.inl 0)] σX = some (some (some (.inl r)), σX')) (hfm : f_X7_undo [.inr (.inl 0)] σM = some (some (some (.inl r)), σM'))
    (kk : ∀ (H1 : Heap) (locs1 : List Loc), va_P D vwCl (LwS z a n ρ σX' aM σM' o g) H1 → va_D (fun q => s.heap.size ≤ q) (LwS z a n ρ σX' aM σM' o g) → va_S (fun q => s.heap.size ≤ q) s.heap H1 locs1 → W p l e roomL s m #[Value.ref b] below meth c H1 locs1 cells slots Q (F0 m 2687 ls [])) : W p l e roomL s m #[Value.ref b] below meth c H locs cells slots Q (F0 m 2213 ls []) := by
  obtain ⟨hF, hX, hbl, hL3⟩ := id hL
  obtain ⟨hx, hb, hml, hown, hts, hK, hA, hA0, hSt⟩ := id hF
  refine lv_aload_n hx hb dL_law_2213 rfl (lv_at hl 1 rfl) ?_
  refine lcX (nA := 0) (vs' := []) (rest := []) hF (ct_X6_undo l hl9) wq_762 wq_759 wq_760 wq_761 wq_87 (by decide +kernel) (by decide) rfl hfx hP hD hS hl.1 (Nat.le_of_ble_eq_true rfl) rfl rfl dL_law_2214 hf (fun H locs hP hD hS => ?_)
  refine lv_aload_n hx hb dL_law_2217 rfl (lv_at hl 2 rfl) ?_
  refine lcM (nA := 0) (vs' := []) (rest := [.int r]) hF (ct_X7_undo l) wq_1741 wq_1738 wq_1739 wq_1740 wq_95 (by decide +kernel) (by decide) rfl hfm hP hD hS hl.1 (Nat.le_of_ble_eq_true rfl) rfl rfl dL_law_2218 hf (fun H locs hP hD hS => ?_)
  exact lv_icmp_eq hx hb dL_law_2221 (tgt := 2687) (by decide) (fun _ => kk H locs hP hD hS) (fun h9 => absurd rfl h9)
theorem lk_45 (hl9 : l.stackTraces = false) (hL : Lc p s m c D z ts b L xs) (hi : i + 6 ≤ L) (hl : lv_has ls 7 [(0, .ref b), (1, .ref (a 0)), (2, .ref (aM 0)), (3, .ref o), (4, .int (Int32.ofNat i))]) (hP : va_P D vwCl (LwS z a n ρ σX aM σM o g) H) (hD : va_D (fun q => s.heap.size ≤ q) (LwS z a n ρ σX aM σM o g)) (hS : va_S (fun q => s.heap.size ≤ q) s.heap H locs) (hf : cells + mc ≤ 601024 ∧ slots + ms ≤ 7293034) (hmet : ∀ sz, Met l yX6_undo (.code yX6_undo cX6_undo 1 (some .int) :: gtb) (rmD 6 mc ms) (va_Pc (.ref (a 0) :: ([] : List Vv).map (cv a ts)) (Pr D z ts s.heap.size (wT z layX a (ktl z a n ρ) σX) sz)) (Qk D z n' ρ' σX' (some (.int r)) a n (va_A (wT z layX a (ktl z a n ρ) σX) sz)) mc ms (va_A (wT z layX a (ktl z a n ρ) σX) sz)) (hfm : f_X7_undo [.inr (.inl 0)] σM = some (some (some (.inl r)), σM'))
    (kk : ∀ (a' : Nat → Nat) (H1 : Heap) (locs1 : List Loc), (∀ j, j < 69 + 11 * n → a' j = a j) → va_P D vwCl (LwS z a' n' ρ' σX' aM σM' o g) H1 → va_D (fun q => s.heap.size ≤ q) (LwS z a' n' ρ' σX' aM σM' o g) → va_S (fun q => s.heap.size ≤ q) s.heap H1 locs1 → W p l e roomL s m #[Value.ref b] below meth c H1 locs1 (cells + mc) (slots + ms) Q (F0 m 2687 ls [])) : W p l e roomL s m #[Value.ref b] below meth c H locs cells slots Q (F0 m 2213 ls []) := by
  obtain ⟨hF, hX, hbl, hL3⟩ := id hL
  obtain ⟨hx, hb, hml, hown, hts, hK, hA, hA0, hSt⟩ := id hF
  refine lv_aload_n hx hb dL_law_2213 rfl (lv_at hl 1 rfl) ?_
  refine lcK (nA := 0) (vs' := []) (rest := []) hF hmet wq_762 wq_759 wq_760 wq_761 wq_87 (by decide +kernel) (by decide) rfl hP hD hS hl.1 (Nat.le_of_ble_eq_true rfl) rfl rfl dL_law_2214 hf (fun a' H locs hag hP hD hS => ?_)
  have hl : lv_has ls 7 [(0, .ref b), (1, .ref (a' 0)), (2, .ref (aM 0)), (3, .ref o), (4, .int (Int32.ofNat i))] := by
    rw [hag 0 (by omega)]
    exact hl
  refine lv_aload_n hx hb dL_law_2217 rfl (lv_at hl 2 rfl) ?_
  refine lcM (nA := 0) (vs' := []) (rest := [.int r]) hF (ct_X7_undo l) wq_1741 wq_1738 wq_1739 wq_1740 wq_95 (by decide +kernel) (by decide) rfl hfm hP hD hS hl.1 (Nat.le_of_ble_eq_true rfl) rfl rfl dL_law_2218 hf (fun H locs hP hD hS => ?_)
  exact lv_icmp_eq hx hb dL_law_2221 (tgt := 2687) (by decide) (fun _ => kk a' H locs hag hP hD hS) (fun h9 => absurd rfl h9)
theorem lt_46 (hl9 : l.stackTraces = false) (hL : Lc p s m c D z ts b L xs) (hi : i + 6 ≤ L) (hl : lv_has ls 7 [(0, .ref b), (1, .ref (a 0)), (2, .ref (aM 0)), (3, .ref o), (4, .int (Int32.ofNat i))]) (hP : va_P D vwCl (LwS z a n ρ σX aM σM o g) H) (hD : va_D (fun q => s.heap.size ≤ q) (LwS z a n ρ σX aM σM o g)) (hS : va_S (fun q => s.heap.size ≤ q) s.heap H locs) (hf : cells ≤ 601024 ∧ slots ≤ 7293034) (hfx : f_X6_rackMinutes [.inr (.inl 0), .inl (xs (i + 1))] σX = some (some (some (.inl r)), σX')) (hfm : f_X7_rackMinutes [.inr (.inl 0), .inl (xs (i + 1))] σM = some (some (some (.inl r)), σM')) (hth : σM' 0 0 = 0)
    (kk : ∀ (H1 : Heap) (locs1 : List Loc) (ls1 : Array Slot), lv_has ls1 7 [(0, .ref b), (1, .ref (a 0)), (2, .ref (aM 0)), (3, .ref o), (4, .int (Int32.ofNat i))] → va_P D vwCl (LwS z a n ρ σX' aM σM' o (vp_updL g 0 r.toInt64)) H1 → va_D (fun q => s.heap.size ≤ q) (LwS z a n ρ σX' aM σM' o (vp_updL g 0 r.toInt64)) → va_S (fun q => s.heap.size ≤ q) s.heap H1 locs1 → W p l e roomL s m #[Value.ref b] below meth c H1 locs1 cells slots Q (F0 m 2687 ls1 [])) : W p l e roomL s m #[Value.ref b] below meth c H locs cells slots Q (F0 m 2226 ls []) := by
  obtain ⟨hF, hX, hbl, hL3⟩ := id hL
  obtain ⟨hx, hb, hml, hown, hts, hK, hA, hA0, hSt⟩ := id hF
  refine lv_aload_n hx hb dL_law_2226 rfl (lv_at hl 1 rfl) ?_
  refine ld_arg hL hl hS (k := 1) (by omega) (by decide) (by decide) dL_law_2227 dL_law_2228 dL_law_2230 dL_law_2231 dL_law_2232 ?_
  refine lv_aload_n hx hb dL_law_2233 rfl (lv_at hl 3 rfl) ?_
  refine lcH (nA := 3) (mc := 0) (ms := 0) (As := [.ref (a 0), .int (xs (i + 1)), .ref o]) (rest := []) hF (fun sz => hhr_rackMinutes l hl9 D z ts s.heap.size sz a (ktl z a n ρ) σX σX' o g (xs (i + 1)) r hfx) wh_c_rackMinutes wq_1109 wq_1110 wq_86 (by decide +kernel) (by decide) hP hD hS hl.1 (Nat.le_of_ble_eq_true rfl) rfl rfl dL_law_2234 hf (fun H locs hP hD hS => ?_)
  refine lv_istore hx hb dL_law_2237 hl (by decide) rfl (fun ls5 hl => ?_)
  have hl : lv_has ls5 7 [(5, .int 0), (0, .ref b), (1, .ref (a 0)), (2, .ref (aM 0)), (3, .ref o), (4, .int (Int32.ofNat i))] := hl
  have hl : lv_has ls5 7 [(0, .ref b), (1, .ref (a 0)), (2, .ref (aM 0)), (3, .ref o), (4, .int (Int32.ofNat i)), (5, .int 0)] := lv_sb9 hl (by intro q hq; simp only [List.mem_cons, List.not_mem_nil, or_false] at hq ⊢; rcases hq with h | h | h | h | h | h <;> simp [h])
  refine lv_aload_n hx hb dL_law_2239 rfl (lv_at hl 2 rfl) ?_
  refine ld_arg hL hl hS (k := 1) (by omega) (by decide) (by decide) dL_law_2240 dL_law_2241 dL_law_2243 dL_law_2244 dL_law_2245 ?_
  refine lcM (nA := 1) (vs' := [.inl (xs (i + 1))]) (rest := []) hF (ct_X7_rackMinutes l) wq_1617 wq_1614 wq_1615 wq_1616 wq_95 (by decide +kernel) (by decide) rfl hfm hP hD hS hl.1 (Nat.le_of_ble_eq_true rfl) rfl rfl dL_law_2246 hf (fun H locs hP hD hS => ?_)
  refine lv_istore hx hb dL_law_2249 hl (by decide) rfl (fun ls6 hl => ?_)
  have hl : lv_has ls6 7 [(6, .int r), (0, .ref b), (1, .ref (a 0)), (2, .ref (aM 0)), (3, .ref o), (4, .int (Int32.ofNat i)), (5, .int 0)] := hl
  have hl : lv_has ls6 7 [(0, .ref b), (1, .ref (a 0)), (2, .ref (aM 0)), (3, .ref o), (4, .int (Int32.ofNat i)), (5, .int 0), (6, .int r)] := lv_sb9 hl (by intro q hq; simp only [List.mem_cons, List.not_mem_nil, or_false] at hq ⊢; rcases hq with h | h | h | h | h | h | h <;> simp [h])
  refine lv_aload_n hx hb dL_law_2251 rfl (lv_at hl 2 rfl) ?_
  refine lcM (nA := 0) (vs' := []) (rest := []) (σM' := σM') (r := σM' 0 0) hF (ct_X7_thrown l) wq_1304 wq_1301 wq_1302 wq_1303 wq_95 (by decide +kernel) (by decide) rfl (e_X7_thrown σM') hP hD hS hl.1 (Nat.le_of_ble_eq_true rfl) rfl rfl dL_law_2252 hf (fun H locs hP hD hS => ?_)
  refine lv_iload hx hb dL_law_2255 (lv_at hl 5 rfl) ?_
  refine lv_icmp_eq hx hb dL_law_2257 (tgt := 2262) (by decide) (fun _ => ?_) (fun h9 => absurd hth h9)
  refine lv_iload hx hb dL_law_2262 (lv_at hl 5 rfl) ?_
  refine lv_if_ne hx hb dL_law_2264 (tgt := 2279) (by decide) (fun h9 => absurd rfl h9) (fun _ => ?_)
  refine lv_aload_n hx hb dL_law_2267 rfl (lv_at hl 3 rfl) ?_
  refine lv_iconst (v := 0) hx hb dL_law_2268 (by decide) ?_
  refine va_lald hx hb hK hP 22 3 lw22 rfl (inb_vp rfl) dL_law_2269 ?_
  refine lv_iload hx hb dL_law_2270 (lv_at hl 6 rfl) ?_
  refine lv_i2l hx hb dL_law_2272 rfl ?_
  refine W.lcmp hx hb dL_law_2273 ?_
  rw [lcmp_same]
  refine lv_if_eq hx hb dL_law_2274 (tgt := 2279) (by decide) (fun _ => ?_) (fun h9 => absurd rfl h9)
  refine lv_goto hx hb dL_law_2279 (tgt := 2687) (by decide) ?_
  exact kk H locs ls6 (lv_sb9 hl (by intro q hq; simp only [List.mem_cons, List.not_mem_nil, or_false] at hq ⊢; rcases hq with h | h | h | h | h <;> simp [h])) hP hD hS
theorem lu_46 (hl9 : l.stackTraces = false) (hL : Lc p s m c D z ts b L xs) (hi : i + 6 ≤ L) (hl : lv_has ls 7 [(0, .ref b), (1, .ref (a 0)), (2, .ref (aM 0)), (3, .ref o), (4, .int (Int32.ofNat i))]) (hP : va_P D vwCl (LwS z a n ρ σX aM σM o g) H) (hD : va_D (fun q => s.heap.size ≤ q) (LwS z a n ρ σX aM σM o g)) (hS : va_S (fun q => s.heap.size ≤ q) s.heap H locs) (hf : (cells + 1) ≤ 601024 ∧ (slots + 6) ≤ 7293034) (hfx : f_X6_rackMinutes [.inr (.inl 0), .inl (xs (i + 1))] σX = some (none, σX')) (hfm : f_X7_rackMinutes [.inr (.inl 0), .inl (xs (i + 1))] σM = some (some (some (.inl r)), σM')) (hth : σM' 0 0 = 1)
    (kk : ∀ (H1 : Heap) (locs1 : List Loc) (ls1 : Array Slot), lv_has ls1 7 [(0, .ref b), (1, .ref (a 0)), (2, .ref (aM 0)), (3, .ref o), (4, .int (Int32.ofNat i))] → va_P D vwCl (LwS z a n ρ σX' aM σM' o g) H1 → va_D (fun q => s.heap.size ≤ q) (LwS z a n ρ σX' aM σM' o g) → va_S (fun q => s.heap.size ≤ q) s.heap H1 locs1 → W p l e roomL s m #[Value.ref b] below meth c H1 locs1 (cells + 1) (slots + 6) Q (F0 m 2687 ls1 [])) : W p l e roomL s m #[Value.ref b] below meth c H locs cells slots Q (F0 m 2226 ls []) := by
  obtain ⟨hF, hX, hbl, hL3⟩ := id hL
  obtain ⟨hx, hb, hml, hown, hts, hK, hA, hA0, hSt⟩ := id hF
  refine lv_aload_n hx hb dL_law_2226 rfl (lv_at hl 1 rfl) ?_
  refine ld_arg hL hl hS (k := 1) (by omega) (by decide) (by decide) dL_law_2227 dL_law_2228 dL_law_2230 dL_law_2231 dL_law_2232 ?_
  refine lv_aload_n hx hb dL_law_2233 rfl (lv_at hl 3 rfl) ?_
  refine lcH (nA := 3) (mc := 1) (ms := 6) (As := [.ref (a 0), .int (xs (i + 1)), .ref o]) (rest := []) hF (fun sz => hht_rackMinutes l hl9 D z ts s.heap.size sz a (ktl z a n ρ) σX σX' o g (xs (i + 1)) hfx) wh_c_rackMinutes wq_1109 wq_1110 wq_86 (by decide +kernel) (by decide) hP hD hS hl.1 (Nat.le_of_ble_eq_true rfl) rfl rfl dL_law_2234 hf (fun H locs hP hD hS => ?_)
  refine lv_istore hx hb dL_law_2237 hl (by decide) rfl (fun ls5 hl => ?_)
  have hl : lv_has ls5 7 [(5, .int 1), (0, .ref b), (1, .ref (a 0)), (2, .ref (aM 0)), (3, .ref o), (4, .int (Int32.ofNat i))] := hl
  have hl : lv_has ls5 7 [(0, .ref b), (1, .ref (a 0)), (2, .ref (aM 0)), (3, .ref o), (4, .int (Int32.ofNat i)), (5, .int 1)] := lv_sb9 hl (by intro q hq; simp only [List.mem_cons, List.not_mem_nil, or_false] at hq ⊢; rcases hq with h | h | h | h | h | h <;> simp [h])
  refine lv_aload_n hx hb dL_law_2239 rfl (lv_at hl 2 rfl) ?_
  refine ld_arg hL hl hS (k := 1) (by omega) (by decide) (by decide) dL_law_2240 dL_law_2241 dL_law_2243 dL_law_2244 dL_law_2245 ?_
  refine lcM (nA := 1) (vs' := [.inl (xs (i + 1))]) (rest := []) hF (ct_X7_rackMinutes l) wq_1617 wq_1614 wq_1615 wq_1616 wq_95 (by decide +kernel) (by decide) rfl hfm hP hD hS hl.1 (Nat.le_of_ble_eq_true rfl) rfl rfl dL_law_2246 hf (fun H locs hP hD hS => ?_)
  refine lv_istore hx hb dL_law_2249 hl (by decide) rfl (fun ls6 hl => ?_)
  have hl : lv_has ls6 7 [(6, .int r), (0, .ref b), (1, .ref (a 0)), (2, .ref (aM 0)), (3, .ref o), (4, .int (Int32.ofNat i)), (5, .int 1)] := hl
  have hl : lv_has ls6 7 [(0, .ref b), (1, .ref (a 0)), (2, .ref (aM 0)), (3, .ref o), (4, .int (Int32.ofNat i)), (5, .int 1), (6, .int r)] := lv_sb9 hl (by intro q hq; simp only [List.mem_cons, List.not_mem_nil, or_false] at hq ⊢; rcases hq with h | h | h | h | h | h | h <;> simp [h])
  refine lv_aload_n hx hb dL_law_2251 rfl (lv_at hl 2 rfl) ?_
  refine lcM (nA := 0) (vs' := []) (rest := []) (σM' := σM') (r := σM' 0 0) hF (ct_X7_thrown l) wq_1304 wq_1301 wq_1302 wq_1303 wq_95 (by decide +kernel) (by decide) rfl (e_X7_thrown σM') hP hD hS hl.1 (Nat.le_of_ble_eq_true rfl) rfl rfl dL_law_2252 hf (fun H locs hP hD hS => ?_)
  refine lv_iload hx hb dL_law_2255 (lv_at hl 5 rfl) ?_
  refine lv_icmp_eq hx hb dL_law_2257 (tgt := 2262) (by decide) (fun _ => ?_) (fun h9 => absurd hth h9)
  refine lv_iload hx hb dL_law_2262 (lv_at hl 5 rfl) ?_
  refine lv_if_ne hx hb dL_law_2264 (tgt := 2279) (by decide) (fun _ => ?_) (fun h9 => absurd h9 (by decide))
  refine lv_goto hx hb dL_law_2279 (tgt := 2687) (by decide) ?_
  exact kk H locs ls6 (lv_sb9 hl (by intro q hq; simp only [List.mem_cons, List.not_mem_nil, or_false] at hq ⊢; rcases hq with h | h | h | h | h <;> simp [h])) hP hD hS
theorem lt_47 (hl9 : l.stackTraces = false) (hL : Lc p s m c D z ts b L xs) (hi : i + 6 ≤ L) (hl : lv_has ls 7 [(0, .ref b), (1, .ref (a 0)), (2, .ref (aM 0)), (3, .ref o), (4, .int (Int32.ofNat i))]) (hP : va_P D vwCl (LwS z a n ρ σX aM σM o g) H) (hD : va_D (fun q => s.heap.size ≤ q) (LwS z a n ρ σX aM σM o g)) (hS : va_S (fun q => s.heap.size ≤ q) s.heap H locs) (hf : cells ≤ 601024 ∧ slots ≤ 7293034) (hfx : f_X6_firstWork [.inr (.inl 0), .inl (xs (i + 1))] σX = some (some (some (.inl r)), σX')) (hfm : f_X7_firstWork [.inr (.inl 0), .inl (xs (i + 1))] σM = some (some (some (.inl r)), σM')) (hth : σM' 0 0 = 0)
    (kk : ∀ (H1 : Heap) (locs1 : List Loc) (ls1 : Array Slot), lv_has ls1 7 [(0, .ref b), (1, .ref (a 0)), (2, .ref (aM 0)), (3, .ref o), (4, .int (Int32.ofNat i))] → va_P D vwCl (LwS z a n ρ σX' aM σM' o (vp_updL g 0 r.toInt64)) H1 → va_D (fun q => s.heap.size ≤ q) (LwS z a n ρ σX' aM σM' o (vp_updL g 0 r.toInt64)) → va_S (fun q => s.heap.size ≤ q) s.heap H1 locs1 → W p l e roomL s m #[Value.ref b] below meth c H1 locs1 cells slots Q (F0 m 2687 ls1 [])) : W p l e roomL s m #[Value.ref b] below meth c H locs cells slots Q (F0 m 2282 ls []) := by
  obtain ⟨hF, hX, hbl, hL3⟩ := id hL
  obtain ⟨hx, hb, hml, hown, hts, hK, hA, hA0, hSt⟩ := id hF
  refine lv_aload_n hx hb dL_law_2282 rfl (lv_at hl 1 rfl) ?_
  refine ld_arg hL hl hS (k := 1) (by omega) (by decide) (by decide) dL_law_2283 dL_law_2284 dL_law_2286 dL_law_2287 dL_law_2288 ?_
  refine lv_aload_n hx hb dL_law_2289 rfl (lv_at hl 3 rfl) ?_
  refine lcH (nA := 3) (mc := 0) (ms := 0) (As := [.ref (a 0), .int (xs (i + 1)), .ref o]) (rest := []) hF (fun sz => hhr_firstWork l hl9 D z ts s.heap.size sz a (ktl z a n ρ) σX σX' o g (xs (i + 1)) r hfx) wh_c_firstWork wq_1120 wq_1121 wq_86 (by decide +kernel) (by decide) hP hD hS hl.1 (Nat.le_of_ble_eq_true rfl) rfl rfl dL_law_2290 hf (fun H locs hP hD hS => ?_)
  refine lv_istore hx hb dL_law_2293 hl (by decide) rfl (fun ls5 hl => ?_)
  have hl : lv_has ls5 7 [(5, .int 0), (0, .ref b), (1, .ref (a 0)), (2, .ref (aM 0)), (3, .ref o), (4, .int (Int32.ofNat i))] := hl
  have hl : lv_has ls5 7 [(0, .ref b), (1, .ref (a 0)), (2, .ref (aM 0)), (3, .ref o), (4, .int (Int32.ofNat i)), (5, .int 0)] := lv_sb9 hl (by intro q hq; simp only [List.mem_cons, List.not_mem_nil, or_false] at hq ⊢; rcases hq with h | h | h | h | h | h <;> simp [h])
  refine lv_aload_n hx hb dL_law_2295 rfl (lv_at hl 2 rfl) ?_
  refine ld_arg hL hl hS (k := 1) (by omega) (by decide) (by decide) dL_law_2296 dL_law_2297 dL_law_2299 dL_law_2300 dL_law_2301 ?_
  refine lcM (nA := 1) (vs' := [.inl (xs (i + 1))]) (rest := []) hF (ct_X7_firstWork l) wq_1625 wq_1622 wq_1623 wq_1624 wq_95 (by decide +kernel) (by decide) rfl hfm hP hD hS hl.1 (Nat.le_of_ble_eq_true rfl) rfl rfl dL_law_2302 hf (fun H locs hP hD hS => ?_)
  refine lv_istore hx hb dL_law_2305 hl (by decide) rfl (fun ls6 hl => ?_)
  have hl : lv_has ls6 7 [(6, .int r), (0, .ref b), (1, .ref (a 0)), (2, .ref (aM 0)), (3, .ref o), (4, .int (Int32.ofNat i)), (5, .int 0)] := hl
  have hl : lv_has ls6 7 [(0, .ref b), (1, .ref (a 0)), (2, .ref (aM 0)), (3, .ref o), (4, .int (Int32.ofNat i)), (5, .int 0), (6, .int r)] := lv_sb9 hl (by intro q hq; simp only [List.mem_cons, List.not_mem_nil, or_false] at hq ⊢; rcases hq with h | h | h | h | h | h | h <;> simp [h])
  refine lv_aload_n hx hb dL_law_2307 rfl (lv_at hl 2 rfl) ?_
  refine lcM (nA := 0) (vs' := []) (rest := []) (σM' := σM') (r := σM' 0 0) hF (ct_X7_thrown l) wq_1304 wq_1301 wq_1302 wq_1303 wq_95 (by decide +kernel) (by decide) rfl (e_X7_thrown σM') hP hD hS hl.1 (Nat.le_of_ble_eq_true rfl) rfl rfl dL_law_2308 hf (fun H locs hP hD hS => ?_)
  refine lv_iload hx hb dL_law_2311 (lv_at hl 5 rfl) ?_
  refine lv_icmp_eq hx hb dL_law_2313 (tgt := 2318) (by decide) (fun _ => ?_) (fun h9 => absurd hth h9)
  refine lv_iload hx hb dL_law_2318 (lv_at hl 5 rfl) ?_
  refine lv_if_ne hx hb dL_law_2320 (tgt := 2335) (by decide) (fun h9 => absurd rfl h9) (fun _ => ?_)
  refine lv_aload_n hx hb dL_law_2323 rfl (lv_at hl 3 rfl) ?_
  refine lv_iconst (v := 0) hx hb dL_law_2324 (by decide) ?_
  refine va_lald hx hb hK hP 22 3 lw22 rfl (inb_vp rfl) dL_law_2325 ?_
  refine lv_iload hx hb dL_law_2326 (lv_at hl 6 rfl) ?_
  refine lv_i2l hx hb dL_law_2328 rfl ?_
  refine W.lcmp hx hb dL_law_2329 ?_
  rw [lcmp_same]
  refine lv_if_eq hx hb dL_law_2330 (tgt := 2335) (by decide) (fun _ => ?_) (fun h9 => absurd rfl h9)
  refine lv_goto hx hb dL_law_2335 (tgt := 2687) (by decide) ?_
  exact kk H locs ls6 (lv_sb9 hl (by intro q hq; simp only [List.mem_cons, List.not_mem_nil, or_false] at hq ⊢; rcases hq with h | h | h | h | h <;> simp [h])) hP hD hS
theorem lu_47 (hl9 : l.stackTraces = false) (hL : Lc p s m c D z ts b L xs) (hi : i + 6 ≤ L) (hl : lv_has ls 7 [(0, .ref b), (1, .ref (a 0)), (2, .ref (aM 0)), (3, .ref o), (4, .int (Int32.ofNat i))]) (hP : va_P D vwCl (LwS z a n ρ σX aM σM o g) H) (hD : va_D (fun q => s.heap.size ≤ q) (LwS z a n ρ σX aM σM o g)) (hS : va_S (fun q => s.heap.size ≤ q) s.heap H locs) (hf : (cells + 1) ≤ 601024 ∧ (slots + 6) ≤ 7293034) (hfx : f_X6_firstWork [.inr (.inl 0), .inl (xs (i + 1))] σX = some (none, σX')) (hfm : f_X7_firstWork [.inr (.inl 0), .inl (xs (i + 1))] σM = some (some (some (.inl r)), σM')) (hth : σM' 0 0 = 1)
    (kk : ∀ (H1 : Heap) (locs1 : List Loc) (ls1 : Array Slot), lv_has ls1 7 [(0, .ref b), (1, .ref (a 0)), (2, .ref (aM 0)), (3, .ref o), (4, .int (Int32.ofNat i))] → va_P D vwCl (LwS z a n ρ σX' aM σM' o g) H1 → va_D (fun q => s.heap.size ≤ q) (LwS z a n ρ σX' aM σM' o g) → va_S (fun q => s.heap.size ≤ q) s.heap H1 locs1 → W p l e roomL s m #[Value.ref b] below meth c H1 locs1 (cells + 1) (slots + 6) Q (F0 m 2687 ls1 [])) : W p l e roomL s m #[Value.ref b] below meth c H locs cells slots Q (F0 m 2282 ls []) := by
  obtain ⟨hF, hX, hbl, hL3⟩ := id hL
  obtain ⟨hx, hb, hml, hown, hts, hK, hA, hA0, hSt⟩ := id hF
  refine lv_aload_n hx hb dL_law_2282 rfl (lv_at hl 1 rfl) ?_
  refine ld_arg hL hl hS (k := 1) (by omega) (by decide) (by decide) dL_law_2283 dL_law_2284 dL_law_2286 dL_law_2287 dL_law_2288 ?_
  refine lv_aload_n hx hb dL_law_2289 rfl (lv_at hl 3 rfl) ?_
  refine lcH (nA := 3) (mc := 1) (ms := 6) (As := [.ref (a 0), .int (xs (i + 1)), .ref o]) (rest := []) hF (fun sz => hht_firstWork l hl9 D z ts s.heap.size sz a (ktl z a n ρ) σX σX' o g (xs (i + 1)) hfx) wh_c_firstWork wq_1120 wq_1121 wq_86 (by decide +kernel) (by decide) hP hD hS hl.1 (Nat.le_of_ble_eq_true rfl) rfl rfl dL_law_2290 hf (fun H locs hP hD hS => ?_)
  refine lv_istore hx hb dL_law_2293 hl (by decide) rfl (fun ls5 hl => ?_)
  have hl : lv_has ls5 7 [(5, .int 1), (0, .ref b), (1, .ref (a 0)), (2, .ref (aM 0)), (3, .ref o), (4, .int (Int32.ofNat i))] := hl
  have hl : lv_has ls5 7 [(0, .ref b), (1, .ref (a 0)), (2, .ref (aM 0)), (3, .ref o), (4, .int (Int32.ofNat i)), (5, .int 1)] := lv_sb9 hl (by intro q hq; simp only [List.mem_cons, List.not_mem_nil, or_false] at hq ⊢; rcases hq with h | h | h | h | h | h <;> simp [h])
  refine lv_aload_n hx hb dL_law_2295 rfl (lv_at hl 2 rfl) ?_
  refine ld_arg hL hl hS (k := 1) (by omega) (by decide) (by decide) dL_law_2296 dL_law_2297 dL_law_2299 dL_law_2300 dL_law_2301 ?_
  refine lcM (nA := 1) (vs' := [.inl (xs (i + 1))]) (rest := []) hF (ct_X7_firstWork l) wq_1625 wq_1622 wq_1623 wq_1624 wq_95 (by decide +kernel) (by decide) rfl hfm hP hD hS hl.1 (Nat.le_of_ble_eq_true rfl) rfl rfl dL_law_2302 hf (fun H locs hP hD hS => ?_)
  refine lv_istore hx hb dL_law_2305 hl (by decide) rfl (fun ls6 hl => ?_)
  have hl : lv_has ls6 7 [(6, .int r), (0, .ref b), (1, .ref (a 0)), (2, .ref (aM 0)), (3, .ref o), (4, .int (Int32.ofNat i)), (5, .int 1)] := hl
  have hl : lv_has ls6 7 [(0, .ref b), (1, .ref (a 0)), (2, .ref (aM 0)), (3, .ref o), (4, .int (Int32.ofNat i)), (5, .int 1), (6, .int r)] := lv_sb9 hl (by intro q hq; simp only [List.mem_cons, List.not_mem_nil, or_false] at hq ⊢; rcases hq with h | h | h | h | h | h | h <;> simp [h])
  refine lv_aload_n hx hb dL_law_2307 rfl (lv_at hl 2 rfl) ?_
  refine lcM (nA := 0) (vs' := []) (rest := []) (σM' := σM') (r := σM' 0 0) hF (ct_X7_thrown l) wq_1304 wq_1301 wq_1302 wq_1303 wq_95 (by decide +kernel) (by decide) rfl (e_X7_thrown σM') hP hD hS hl.1 (Nat.le_of_ble_eq_true rfl) rfl rfl dL_law_2308 hf (fun H locs hP hD hS => ?_)
  refine lv_iload hx hb dL_law_2311 (lv_at hl 5 rfl) ?_
  refine lv_icmp_eq hx hb dL_law_2313 (tgt := 2318) (by decide) (fun _ => ?_) (fun h9 => absurd hth h9)
  refine lv_iload hx hb dL_law_2318 (lv_at hl 5 rfl) ?_
  refine lv_if_ne hx hb dL_law_2320 (tgt := 2335) (by decide) (fun _ => ?_) (fun h9 => absurd h9 (by decide))
  refine lv_goto hx hb dL_law_2335 (tgt := 2687) (by decide) ?_
  exact kk H locs ls6 (lv_sb9 hl (by intro q hq; simp only [List.mem_cons, List.not_mem_nil, or_false] at hq ⊢; rcases hq with h | h | h | h | h <;> simp [h])) hP hD hS
end CASES
