section CASES
variable {p : Program} {l : Launch} {e : Env} {s : State} {m : MethodId} {below : List Frame} {meth : Method} {c : Code} {D : va_G} {z : Nat → ClassId} {ts : Nat → Nat} {b L : Nat} {xs : Nat → Int32} {a aM : Nat → Nat} {n n' : Nat} {ρ ρ' : Nat → Mm} {σX σX' σM σM' : Mm} {o : Nat} {g : Nat → Int64} {H : Heap} {locs : List Loc} {ls : Array Slot} {Q : State → Prop} {cells slots mc ms i : Nat} {r : Int32}
theorem lt_12 (hl9 : l.stackTraces = false) (hL : Lc p s m c D z ts b L xs) (hi : i + 6 ≤ L) (hl : lv_has ls 7 [(0, .ref b), (1, .ref (a 0)), (2, .ref (aM 0)), (3, .ref o), (4, .int (Int32.ofNat i))]) (hP : va_P D vwCl (LwS z a n ρ σX aM σM o g) H) (hD : va_D (fun q => s.heap.size ≤ q) (LwS z a n ρ σX aM σM o g)) (hS : va_S (fun q => s.heap.size ≤ q) s.heap H locs) (hf : cells ≤ 601024 ∧ slots ≤ 7293034) (hfx : f_X6_placeRate [.inr (.inl 0), .inl (xs (i + 1))] σX = some (some (some (.inl r)), σX')) (hfm : f_X7_placeRate [.inr (.inl 0), .inl (xs (i + 1))] σM = some (some (some (.inl r)), σM')) (hth : σM' 0 0 = 0)
    (kk : ∀ (H1 : Heap) (locs1 : List Loc) (ls1 : Array Slot), lv_has ls1 7 [(0, .ref b), (1, .ref (a 0)), (2, .ref (aM 0)), (3, .ref o), (4, .int (Int32.ofNat i))] → va_P D vwCl (LwS z a n ρ σX' aM σM' o (vp_updL g 0 r.toInt64)) H1 → va_D (fun q => s.heap.size ≤ q) (LwS z a n ρ σX' aM σM' o (vp_updL g 0 r.toInt64)) → va_S (fun q => s.heap.size ≤ q) s.heap H1 locs1 → W p l e roomL s m #[Value.ref b] below meth c H1 locs1 cells slots Q (F0 m 2687 ls1 [])) : W p l e roomL s m #[Value.ref b] below meth c H locs cells slots Q (F0 m 763 ls []) := by
  obtain ⟨hF, hX, hbl, hL3⟩ := id hL
  obtain ⟨hx, hb, hml, hown, hts, hK, hA, hA0, hSt⟩ := id hF
  refine lv_aload_n hx hb dL_law_763 rfl (lv_at hl 1 rfl) ?_
  refine ld_arg hL hl hS (k := 1) (by omega) (by decide) (by decide) dL_law_764 dL_law_765 dL_law_767 dL_law_768 dL_law_769 ?_
  refine lv_aload_n hx hb dL_law_770 rfl (lv_at hl 3 rfl) ?_
  refine lcH (nA := 3) (mc := 0) (ms := 0) (As := [.ref (a 0), .int (xs (i + 1)), .ref o]) (rest := []) hF (fun sz => hhr_placeRate l hl9 D z ts s.heap.size sz a (ktl z a n ρ) σX σX' o g (xs (i + 1)) r hfx) wh_c_placeRate wq_931 wq_932 wq_86 (by decide +kernel) (by decide) hP hD hS hl.1 (Nat.le_of_ble_eq_true rfl) rfl rfl dL_law_771 hf (fun H locs hP hD hS => ?_)
  refine lv_istore hx hb dL_law_774 hl (by decide) rfl (fun ls5 hl => ?_)
  have hl : lv_has ls5 7 [(5, .int 0), (0, .ref b), (1, .ref (a 0)), (2, .ref (aM 0)), (3, .ref o), (4, .int (Int32.ofNat i))] := hl
  have hl : lv_has ls5 7 [(0, .ref b), (1, .ref (a 0)), (2, .ref (aM 0)), (3, .ref o), (4, .int (Int32.ofNat i)), (5, .int 0)] := lv_sb9 hl (by intro q hq; simp only [List.mem_cons, List.not_mem_nil, or_false] at hq ⊢; rcases hq with h | h | h | h | h | h <;> simp [h])
  refine lv_aload_n hx hb dL_law_776 rfl (lv_at hl 2 rfl) ?_
  refine ld_arg hL hl hS (k := 1) (by omega) (by decide) (by decide) dL_law_777 dL_law_778 dL_law_780 dL_law_781 dL_law_782 ?_
  refine lcM (nA := 1) (vs' := [.inl (xs (i + 1))]) (rest := []) hF (ct_X7_placeRate l) wq_1484 wq_1481 wq_1482 wq_1483 wq_95 (by decide +kernel) (by decide) rfl hfm hP hD hS hl.1 (Nat.le_of_ble_eq_true rfl) rfl rfl dL_law_783 hf (fun H locs hP hD hS => ?_)
  refine lv_istore hx hb dL_law_786 hl (by decide) rfl (fun ls6 hl => ?_)
  have hl : lv_has ls6 7 [(6, .int r), (0, .ref b), (1, .ref (a 0)), (2, .ref (aM 0)), (3, .ref o), (4, .int (Int32.ofNat i)), (5, .int 0)] := hl
  have hl : lv_has ls6 7 [(0, .ref b), (1, .ref (a 0)), (2, .ref (aM 0)), (3, .ref o), (4, .int (Int32.ofNat i)), (5, .int 0), (6, .int r)] := lv_sb9 hl (by intro q hq; simp only [List.mem_cons, List.not_mem_nil, or_false] at hq ⊢; rcases hq with h | h | h | h | h | h | h <;> simp [h])
  refine lv_aload_n hx hb dL_law_788 rfl (lv_at hl 2 rfl) ?_
  refine lcM (nA := 0) (vs' := []) (rest := []) (σM' := σM') (r := σM' 0 0) hF (ct_X7_thrown l) wq_1304 wq_1301 wq_1302 wq_1303 wq_95 (by decide +kernel) (by decide) rfl (e_X7_thrown σM') hP hD hS hl.1 (Nat.le_of_ble_eq_true rfl) rfl rfl dL_law_789 hf (fun H locs hP hD hS => ?_)
  refine lv_iload hx hb dL_law_792 (lv_at hl 5 rfl) ?_
  refine lv_icmp_eq hx hb dL_law_794 (tgt := 799) (by decide) (fun _ => ?_) (fun h9 => absurd hth h9)
  refine lv_iload hx hb dL_law_799 (lv_at hl 5 rfl) ?_
  refine lv_if_ne hx hb dL_law_801 (tgt := 816) (by decide) (fun h9 => absurd rfl h9) (fun _ => ?_)
  refine lv_aload_n hx hb dL_law_804 rfl (lv_at hl 3 rfl) ?_
  refine lv_iconst (v := 0) hx hb dL_law_805 (by decide) ?_
  refine va_lald hx hb hK hP 22 3 lw22 rfl (inb_vp rfl) dL_law_806 ?_
  refine lv_iload hx hb dL_law_807 (lv_at hl 6 rfl) ?_
  refine lv_i2l hx hb dL_law_809 rfl ?_
  refine W.lcmp hx hb dL_law_810 ?_
  rw [lcmp_same]
  refine lv_if_eq hx hb dL_law_811 (tgt := 816) (by decide) (fun _ => ?_) (fun h9 => absurd rfl h9)
  refine lv_goto hx hb dL_law_816 (tgt := 2687) (by decide) ?_
  exact kk H locs ls6 (lv_sb9 hl (by intro q hq; simp only [List.mem_cons, List.not_mem_nil, or_false] at hq ⊢; rcases hq with h | h | h | h | h <;> simp [h])) hP hD hS
theorem lu_12 (hl9 : l.stackTraces = false) (hL : Lc p s m c D z ts b L xs) (hi : i + 6 ≤ L) (hl : lv_has ls 7 [(0, .ref b), (1, .ref (a 0)), (2, .ref (aM 0)), (3, .ref o), (4, .int (Int32.ofNat i))]) (hP : va_P D vwCl (LwS z a n ρ σX aM σM o g) H) (hD : va_D (fun q => s.heap.size ≤ q) (LwS z a n ρ σX aM σM o g)) (hS : va_S (fun q => s.heap.size ≤ q) s.heap H locs) (hf : (cells + 1) ≤ 601024 ∧ (slots + 6) ≤ 7293034) (hfx : f_X6_placeRate [.inr (.inl 0), .inl (xs (i + 1))] σX = some (none, σX')) (hfm : f_X7_placeRate [.inr (.inl 0), .inl (xs (i + 1))] σM = some (some (some (.inl r)), σM')) (hth : σM' 0 0 = 1)
    (kk : ∀ (H1 : Heap) (locs1 : List Loc) (ls1 : Array Slot), lv_has ls1 7 [(0, .ref b), (1, .ref (a 0)), (2, .ref (aM 0)), (3, .ref o), (4, .int (Int32.ofNat i))] → va_P D vwCl (LwS z a n ρ σX' aM σM' o g) H1 → va_D (fun q => s.heap.size ≤ q) (LwS z a n ρ σX' aM σM' o g) → va_S (fun q => s.heap.size ≤ q) s.heap H1 locs1 → W p l e roomL s m #[Value.ref b] below meth c H1 locs1 (cells + 1) (slots + 6) Q (F0 m 2687 ls1 [])) : W p l e roomL s m #[Value.ref b] below meth c H locs cells slots Q (F0 m 763 ls []) := by
  obtain ⟨hF, hX, hbl, hL3⟩ := id hL
  obtain ⟨hx, hb, hml, hown, hts, hK, hA, hA0, hSt⟩ := id hF
  refine lv_aload_n hx hb dL_law_763 rfl (lv_at hl 1 rfl) ?_
  refine ld_arg hL hl hS (k := 1) (by omega) (by decide) (by decide) dL_law_764 dL_law_765 dL_law_767 dL_law_768 dL_law_769 ?_
  refine lv_aload_n hx hb dL_law_770 rfl (lv_at hl 3 rfl) ?_
  refine lcH (nA := 3) (mc := 1) (ms := 6) (As := [.ref (a 0), .int (xs (i + 1)), .ref o]) (rest := []) hF (fun sz => hht_placeRate l hl9 D z ts s.heap.size sz a (ktl z a n ρ) σX σX' o g (xs (i + 1)) hfx) wh_c_placeRate wq_931 wq_932 wq_86 (by decide +kernel) (by decide) hP hD hS hl.1 (Nat.le_of_ble_eq_true rfl) rfl rfl dL_law_771 hf (fun H locs hP hD hS => ?_)
  refine lv_istore hx hb dL_law_774 hl (by decide) rfl (fun ls5 hl => ?_)
  have hl : lv_has ls5 7 [(5, .int 1), (0, .ref b), (1, .ref (a 0)), (2, .ref (aM 0)), (3, .ref o), (4, .int (Int32.ofNat i))] := hl
  have hl : lv_has ls5 7 [(0, .ref b), (1, .ref (a 0)), (2, .ref (aM 0)), (3, .ref o), (4, .int (Int32.ofNat i)), (5, .int 1)] := lv_sb9 hl (by intro q hq; simp only [List.mem_cons, List.not_mem_nil, or_false] at hq ⊢; rcases hq with h | h | h | h | h | h <;> simp [h])
  refine lv_aload_n hx hb dL_law_776 rfl (lv_at hl 2 rfl) ?_
  refine ld_arg hL hl hS (k := 1) (by omega) (by decide) (by decide) dL_law_777 dL_law_778 dL_law_780 dL_law_781 dL_law_782 ?_
  refine lcM (nA := 1) (vs' := [.inl (xs (i + 1))]) (rest := []) hF (ct_X7_placeRate l) wq_1484 wq_1481 wq_1482 wq_1483 wq_95 (by decide +kernel) (by decide) rfl hfm hP hD hS hl.1 (Nat.le_of_ble_eq_true rfl) rfl rfl dL_law_783 hf (fun H locs hP hD hS => ?_)
  refine lv_istore hx hb dL_law_786 hl (by decide) rfl (fun ls6 hl => ?_)
  have hl : lv_has ls6 7 [(6, .int r), (0, .ref b), (1, .ref (a 0)), (2, .ref (aM 0)), (3, .ref o), (4, .int (Int32.ofNat i)), (5, .int 1)] := hl
  have hl : lv_has ls6 7 [(0, .ref b), (1, .ref (a 0)), (2, .ref (aM 0)), (3, .ref o), (4, .int (Int32.ofNat i)), (5, .int 1), (6, .int r)] := lv_sb9 hl (by intro q hq; simp only [List.mem_cons, List.not_mem_nil, or_false] at hq ⊢; rcases hq with h | h | h | h | h | h | h <;> simp [h])
  refine lv_aload_n hx hb dL_law_788 rfl (lv_at hl 2 rfl) ?_
  refine lcM (nA := 0) (vs' := []) (rest := []) (σM' := σM') (r := σM' 0 0) hF (ct_X7_thrown l) wq_1304 wq_1301 wq_1302 wq_1303 wq_95 (by decide +kernel) (by decide) rfl (e_X7_thrown σM') hP hD hS hl.1 (Nat.le_of_ble_eq_true rfl) rfl rfl dL_law_789 hf (fun H locs hP hD hS => ?_)
  refine lv_iload hx hb dL_law_792 (lv_at hl 5 rfl) ?_
  refine lv_icmp_eq hx hb dL_law_794 (tgt := 799) (by decide) (fun _ => ?_) (fun h9 => absurd hth h9)
  refine lv_iload hx hb dL_law_799 (lv_at hl 5 rfl) ?_
  refine lv_if_ne hx hb dL_law_801 (tgt := 816) (by decide) (fun _ => ?_) (fun h9 => absurd h9 (by decide))
  refine lv_goto hx hb dL_law_816 (tgt := 2687) (by decide) ?_
  exact kk H locs ls6 (lv_sb9 hl (by intro q hq; simp only [List.mem_cons, List.not_mem_nil, or_false] at hq ⊢; rcases hq with h | h | h | h | h <;> simp [h])) hP hD hS
theorem lt_13 (hl9 : l.stackTraces = false) (hL : Lc p s m c D z ts b L xs) (hi : i + 6 ≤ L) (hl : lv_has ls 7 [(0, .ref b), (1, .ref (a 0)), (2, .ref (aM 0)), (3, .ref o), (4, .int (Int32.ofNat i))]) (hP : va_P D vwCl (LwS z a n ρ σX aM σM o g) H) (hD : va_D (fun q => s.heap.size ≤ q) (LwS z a n ρ σX aM σM o g)) (hS : va_S (fun q => s.heap.size ≤ q) s.heap H locs) (hf : cells ≤ 601024 ∧ slots ≤ 7293034) (hfx : f_X6_placeLimit [.inr (.inl 0), .inl (xs (i + 1))] σX = some (some (some (.inl r)), σX')) (hfm : f_X7_placeLimit [.inr (.inl 0), .inl (xs (i + 1))] σM = some (some (some (.inl r)), σM')) (hth : σM' 0 0 = 0)
    (kk : ∀ (H1 : Heap) (locs1 : List Loc) (ls1 : Array Slot), lv_has ls1 7 [(0, .ref b), (1, .ref (a 0)), (2, .ref (aM 0)), (3, .ref o), (4, .int (Int32.ofNat i))] → va_P D vwCl (LwS z a n ρ σX' aM σM' o (vp_updL g 0 r.toInt64)) H1 → va_D (fun q => s.heap.size ≤ q) (LwS z a n ρ σX' aM σM' o (vp_updL g 0 r.toInt64)) → va_S (fun q => s.heap.size ≤ q) s.heap H1 locs1 → W p l e roomL s m #[Value.ref b] below meth c H1 locs1 cells slots Q (F0 m 2687 ls1 [])) : W p l e roomL s m #[Value.ref b] below meth c H locs cells slots Q (F0 m 819 ls []) := by
  obtain ⟨hF, hX, hbl, hL3⟩ := id hL
  obtain ⟨hx, hb, hml, hown, hts, hK, hA, hA0, hSt⟩ := id hF
  refine lv_aload_n hx hb dL_law_819 rfl (lv_at hl 1 rfl) ?_
  refine ld_arg hL hl hS (k := 1) (by omega) (by decide) (by decide) dL_law_820 dL_law_821 dL_law_823 dL_law_824 dL_law_825 ?_
  refine lv_aload_n hx hb dL_law_826 rfl (lv_at hl 3 rfl) ?_
  refine lcH (nA := 3) (mc := 0) (ms := 0) (As := [.ref (a 0), .int (xs (i + 1)), .ref o]) (rest := []) hF (fun sz => hhr_placeLimit l hl9 D z ts s.heap.size sz a (ktl z a n ρ) σX σX' o g (xs (i + 1)) r hfx) wh_c_placeLimit wq_943 wq_944 wq_86 (by decide +kernel) (by decide) hP hD hS hl.1 (Nat.le_of_ble_eq_true rfl) rfl rfl dL_law_827 hf (fun H locs hP hD hS => ?_)
  refine lv_istore hx hb dL_law_830 hl (by decide) rfl (fun ls5 hl => ?_)
  have hl : lv_has ls5 7 [(5, .int 0), (0, .ref b), (1, .ref (a 0)), (2, .ref (aM 0)), (3, .ref o), (4, .int (Int32.ofNat i))] := hl
  have hl : lv_has ls5 7 [(0, .ref b), (1, .ref (a 0)), (2, .ref (aM 0)), (3, .ref o), (4, .int (Int32.ofNat i)), (5, .int 0)] := lv_sb9 hl (by intro q hq; simp only [List.mem_cons, List.not_mem_nil, or_false] at hq ⊢; rcases hq with h | h | h | h | h | h <;> simp [h])
  refine lv_aload_n hx hb dL_law_832 rfl (lv_at hl 2 rfl) ?_
  refine ld_arg hL hl hS (k := 1) (by omega) (by decide) (by decide) dL_law_833 dL_law_834 dL_law_836 dL_law_837 dL_law_838 ?_
  refine lcM (nA := 1) (vs' := [.inl (xs (i + 1))]) (rest := []) hF (ct_X7_placeLimit l) wq_1492 wq_1489 wq_1490 wq_1491 wq_95 (by decide +kernel) (by decide) rfl hfm hP hD hS hl.1 (Nat.le_of_ble_eq_true rfl) rfl rfl dL_law_839 hf (fun H locs hP hD hS => ?_)
  refine lv_istore hx hb dL_law_842 hl (by decide) rfl (fun ls6 hl => ?_)
  have hl : lv_has ls6 7 [(6, .int r), (0, .ref b), (1, .ref (a 0)), (2, .ref (aM 0)), (3, .ref o), (4, .int (Int32.ofNat i)), (5, .int 0)] := hl
  have hl : lv_has ls6 7 [(0, .ref b), (1, .ref (a 0)), (2, .ref (aM 0)), (3, .ref o), (4, .int (Int32.ofNat i)), (5, .int 0), (6, .int r)] := lv_sb9 hl (by intro q hq; simp only [List.mem_cons, List.not_mem_nil, or_false] at hq ⊢; rcases hq with h | h | h | h | h | h | h <;> simp [h])
  refine lv_aload_n hx hb dL_law_844 rfl (lv_at hl 2 rfl) ?_
  refine lcM (nA := 0) (vs' := []) (rest := []) (σM' := σM') (r := σM' 0 0) hF (ct_X7_thrown l) wq_1304 wq_1301 wq_1302 wq_1303 wq_95 (by decide +kernel) (by decide) rfl (e_X7_thrown σM') hP hD hS hl.1 (Nat.le_of_ble_eq_true rfl) rfl rfl dL_law_845 hf (fun H locs hP hD hS => ?_)
  refine lv_iload hx hb dL_law_848 (lv_at hl 5 rfl) ?_
  refine lv_icmp_eq hx hb dL_law_850 (tgt := 855) (by decide) (fun _ => ?_) (fun h9 => absurd hth h9)
  refine lv_iload hx hb dL_law_855 (lv_at hl 5 rfl) ?_
  refine lv_if_ne hx hb dL_law_857 (tgt := 872) (by decide) (fun h9 => absurd rfl h9) (fun _ => ?_)
  refine lv_aload_n hx hb dL_law_860 rfl (lv_at hl 3 rfl) ?_
  refine lv_iconst (v := 0) hx hb dL_law_861 (by decide) ?_
  refine va_lald hx hb hK hP 22 3 lw22 rfl (inb_vp rfl) dL_law_862 ?_
  refine lv_iload hx hb dL_law_863 (lv_at hl 6 rfl) ?_
  refine lv_i2l hx hb dL_law_865 rfl ?_
  refine W.lcmp hx hb dL_law_866 ?_
  rw [lcmp_same]
  refine lv_if_eq hx hb dL_law_867 (tgt := 872) (by decide) (fun _ => ?_) (fun h9 => absurd rfl h9)
  refine lv_goto hx hb dL_law_872 (tgt := 2687) (by decide) ?_
  exact kk H locs ls6 (lv_sb9 hl (by intro q hq; simp only [List.mem_cons, List.not_mem_nil, or_false] at hq ⊢; rcases hq with h | h | h | h | h <;> simp [h])) hP hD hS
theorem lu_13 (hl9 : l.stackTraces = false) (hL : Lc p s m c D z ts b L xs) (hi : i + 6 ≤ L) (hl : lv_has ls 7 [(0, .ref b), (1, .ref (a 0)), (2, .ref (aM 0)), (3, .ref o), (4, .int (Int32.ofNat i))]) (hP : va_P D vwCl (LwS z a n ρ σX aM σM o g) H) (hD : va_D (fun q => s.heap.size ≤ q) (LwS z a n ρ σX aM σM o g)) (hS : va_S (fun q => s.heap.size ≤ q) s.heap H locs) (hf : (cells + 1) ≤ 601024 ∧ (slots + 6) ≤ 7293034) (hfx : f_X6_placeLimit [.inr (.inl 0), .inl (xs (i + 1))] σX = some (none, σX')) (hfm : f_X7_placeLimit [.inr (.inl 0), .inl (xs (i + 1))] σM = some (some (some (.inl r)), σM')) (hth : σM' 0 0 = 1)
    (kk : ∀ (H1 : Heap) (locs1 : List Loc) (ls1 : Array Slot), lv_has ls1 7 [(0, .ref b), (1, .ref (a 0)), (2, .ref (aM 0)), (3, .ref o), (4, .int (Int32.ofNat i))] → va_P D vwCl (LwS z a n ρ σX' aM σM' o g) H1 → va_D (fun q => s.heap.size ≤ q) (LwS z a n ρ σX' aM σM' o g) → va_S (fun q => s.heap.size ≤ q) s.heap H1 locs1 → W p l e roomL s m #[Value.ref b] below meth c H1 locs1 (cells + 1) (slots + 6) Q (F0 m 2687 ls1 [])) : W p l e roomL s m #[Value.ref b] below meth c H locs cells slots Q (F0 m 819 ls []) := by
  obtain ⟨hF, hX, hbl, hL3⟩ := id hL
  obtain ⟨hx, hb, hml, hown, hts, hK, hA, hA0, hSt⟩ := id hF
  refine lv_aload_n hx hb dL_law_819 rfl (lv_at hl 1 rfl) ?_
  refine ld_arg hL hl hS (k := 1) (by omega) (by decide) (by decide) dL_law_820 dL_law_821 dL_law_823 dL_law_824 dL_law_825 ?_
  refine lv_aload_n hx hb dL_law_826 rfl (lv_at hl 3 rfl) ?_
  refine lcH (nA := 3) (mc := 1) (ms := 6) (As := [.ref (a 0), .int (xs (i + 1)), .ref o]) (rest := []) hF (fun sz => hht_placeLimit l hl9 D z ts s.heap.size sz a (ktl z a n ρ) σX σX' o g (xs (i + 1)) hfx) wh_c_placeLimit wq_943 wq_944 wq_86 (by decide +kernel) (by decide) hP hD hS hl.1 (Nat.le_of_ble_eq_true rfl) rfl rfl dL_law_827 hf (fun H locs hP hD hS => ?_)
  refine lv_istore hx hb dL_law_830 hl (by decide) rfl (fun ls5 hl => ?_)
  have hl : lv_has ls5 7 [(5, .int 1), (0, .ref b), (1, .ref (a 0)), (2, .ref (aM 0)), (3, .ref o), (4, .int (Int32.ofNat i))] := hl
  have hl : lv_has ls5 7 [(0, .ref b), (1, .ref (a 0)), (2, .ref (aM 0)), (3, .ref o), (4, .int (Int32.ofNat i)), (5, .int 1)] := lv_sb9 hl (by intro q hq; simp only [List.mem_cons, List.not_mem_nil, or_false] at hq ⊢; rcases hq with h | h | h | h | h | h <;> simp [h])
  refine lv_aload_n hx hb dL_law_832 rfl (lv_at hl 2 rfl) ?_
  refine ld_arg hL hl hS (k := 1) (by omega) (by decide) (by decide) dL_law_833 dL_law_834 dL_law_836 dL_law_837 dL_law_838 ?_
  refine lcM (nA := 1) (vs' := [.inl (xs (i + 1))]) (rest := []) hF (ct_X7_placeLimit l) wq_1492 wq_1489 wq_1490 wq_1491 wq_95 (by decide +kernel) (by decide) rfl hfm hP hD hS hl.1 (Nat.le_of_ble_eq_true rfl) rfl rfl dL_law_839 hf (fun H locs hP hD hS => ?_)
  refine lv_istore hx hb dL_law_842 hl (by decide) rfl (fun ls6 hl => ?_)
  have hl : lv_has ls6 7 [(6, .int r), (0, .ref b), (1, .ref (a 0)), (2, .ref (aM 0)), (3, .ref o), (4, .int (Int32.ofNat i)), (5, .int 1)] := hl
  have hl : lv_has ls6 7 [(0, .ref b), (1, .ref (a 0)), (2, .ref (aM 0)), (3, .ref o), (4, .int (Int32.ofNat i)), (5, .int 1), (6, .int r)] := lv_sb9 hl (by intro q hq; simp only [List.mem_cons, List.not_mem_nil, or_false] at hq ⊢; rcases hq with h | h | h | h | h | h | h <;> simp [h])
  refine lv_aload_n hx hb dL_law_844 rfl (lv_at hl 2 rfl) ?_
  refine lcM (nA := 0) (vs' := []) (rest := []) (σM' := σM') (r := σM' 0 0) hF (ct_X7_thrown l) wq_1304 wq_1301 wq_1302 wq_1303 wq_95 (by decide +kernel) (by decide) rfl (e_X7_thrown σM') hP hD hS hl.1 (Nat.le_of_ble_eq_true rfl) rfl rfl dL_law_845 hf (fun H locs hP hD hS => ?_)
  refine lv_iload hx hb dL_law_848 (lv_at hl 5 rfl) ?_
  refine lv_icmp_eq hx hb dL_law_850 (tgt := 855) (by decide) (fun _ => ?_) (fun h9 => absurd hth h9)
  refine lv_iload hx hb dL_law_855 (lv_at hl 5 rfl) ?_
  refine lv_if_ne hx hb dL_law_857 (tgt := 872) (by decide) (fun _ => ?_) (fun h9 => absurd h9 (by decide))
  refine lv_goto hx hb dL_law_872 (tgt := 2687) (by decide) ?_
  exact kk H locs ls6 (lv_sb9 hl (by intro q hq; simp only [List.mem_cons, List.not_mem_nil, or_false] at hq ⊢; rcases hq with h | h | h | h | h <;> simp [h])) hP hD hS
theorem lc_14 (hl9 : l.stackTraces = false) (hL : Lc p s m c D z ts b L xs) (hi : i + 6 ≤ L) (hl : lv_has ls 7 [(0, .ref b), (1, .ref (a 0)), (2, .ref (aM 0)), (3, .ref o), (4, .int (Int32.ofNat i))]) (hP : va_P D vwCl (LwS z a n ρ σX aM σM o g) H) (hD : va_D (fun q => s.heap.size ≤ q) (LwS z a n ρ σX aM σM o g)) (hS : va_S (fun q => s.heap.size ≤ q) s.heap H locs) (hf : cells ≤ 601024 ∧ slots ≤ 7293034) (hfx : f_X6_getSetting [.inr (.inl 0), .inl (xs (i + 1))] σX = some (some (some (.inl r)), σX')) (hfm : f_X7_getSetting [.inr (.inl 0), .inl (xs (i + 1))] σM = some (some (some (.inl r)), σM'))
    (kk : ∀ (H1 : Heap) (locs1 : List Loc), va_P D vwCl (LwS z a n ρ σX' aM σM' o g) H1 → va_D (fun q => s.heap.size ≤ q) (LwS z a n ρ σX' aM σM' o g) → va_S (fun q => s.heap.size ≤ q) s.heap H1 locs1 → W p l e roomL s m #[Value.ref b] below meth c H1 locs1 cells slots Q (F0 m 2687 ls [])) : W p l e roomL s m #[Value.ref b] below meth c H locs cells slots Q (F0 m 875 ls []) := by
  obtain ⟨hF, hX, hbl, hL3⟩ := id hL
  obtain ⟨hx, hb, hml, hown, hts, hK, hA, hA0, hSt⟩ := id hF
  refine lv_aload_n hx hb dL_law_875 rfl (lv_at hl 1 rfl) ?_
  refine ld_arg hL hl hS (k := 1) (by omega) (by decide) (by decide) dL_law_876 dL_law_877 dL_law_879 dL_law_880 dL_law_881 ?_
  refine lcX (nA := 1) (vs' := [.inl (xs (i + 1))]) (rest := []) hF (ct_X6_getSetting l hl9) wq_530 wq_527 wq_528 wq_529 wq_87 (by decide +kernel) (by decide) rfl hfx hP hD hS hl.1 (Nat.le_of_ble_eq_true rfl) rfl rfl dL_law_882 hf (fun H locs hP hD hS => ?_)
  refine lv_aload_n hx hb dL_law_885 rfl (lv_at hl 2 rfl) ?_
  refine ld_arg hL hl hS (k := 1) (by omega) (by decide) (by decide) dL_law_886 dL_law_887 dL_law_889 dL_law_890 dL_law_891 ?_
  refine lcM (nA := 1) (vs' := [.inl (xs (i + 1))]) (rest := [.int r]) hF (ct_X7_getSetting l) wq_1496 wq_1493 wq_1494 wq_1495 wq_95 (by decide +kernel) (by decide) rfl hfm hP hD hS hl.1 (Nat.le_of_ble_eq_true rfl) rfl rfl dL_law_892 hf (fun H locs hP hD hS => ?_)
  exact lv_icmp_eq hx hb dL_law_895 (tgt := 2687) (by decide) (fun _ => kk H locs hP hD hS) (fun h9 => absurd rfl h9)
theorem lt_15 (hl9 : l.stackTraces = false) (hL : Lc p s m c D z ts b L xs) (hi : i + 6 ≤ L) (hl : lv_has ls 7 [(0, .ref b), (1, .ref (a 0)), (2, .ref (aM 0)), (3, .ref o), (4, .int (Int32.ofNat i))]) (hP : va_P D vwCl (LwS z a n ρ σX aM σM o g) H) (hD : va_D (fun q => s.heap.size ≤ q) (LwS z a n ρ σX aM σM o g)) (hS : va_S (fun q => s.heap.size ≤ q) s.heap H locs) (hf : cells ≤ 601024 ∧ slots ≤ 7293034) (hfx : f_X6_ironAt [.inr (.inl 0), .inl (xs (i + 1))] σX = some (some (some (.inl r)), σX')) (hfm : f_X7_ironAt [.inr (.inl 0), .inl (xs (i + 1))] σM = some (some (some (.inl r)), σM')) (hth : σM' 0 0 = 0)
    (kk : ∀ (H1 : Heap) (locs1 : List Loc) (ls1 : Array Slot), lv_has ls1 7 [(0, .ref b), (1, .ref (a 0)), (2, .ref (aM 0)), (3, .ref o), (4, .int (Int32.ofNat i))] → va_P D vwCl (LwS z a n ρ σX' aM σM' o (vp_updL g 0 r.toInt64)) H1 → va_D (fun q => s.heap.size ≤ q) (LwS z a n ρ σX' aM σM' o (vp_updL g 0 r.toInt64)) → va_S (fun q => s.heap.size ≤ q) s.heap H1 locs1 → W p l e roomL s m #[Value.ref b] below meth c H1 locs1 cells slots Q (F0 m 2687 ls1 [])) : W p l e roomL s m #[Value.ref b] below meth c H locs cells slots Q (F0 m 900 ls []) := by
  obtain ⟨hF, hX, hbl, hL3⟩ := id hL
  obtain ⟨hx, hb, hml, hown, hts, hK, hA, hA0, hSt⟩ := id hF
  refine lv_aload_n hx hb dL_law_900 rfl (lv_at hl 1 rfl) ?_
  refine ld_arg hL hl hS (k := 1) (by omega) (by decide) (by decide) dL_law_901 dL_law_902 dL_law_904 dL_law_905 dL_law_906 ?_
  refine lv_aload_n hx hb dL_law_907 rfl (lv_at hl 3 rfl) ?_
  refine lcH (nA := 3) (mc := 0) (ms := 0) (As := [.ref (a 0), .int (xs (i + 1)), .ref o]) (rest := []) hF (fun sz => hhr_ironAt l hl9 D z ts s.heap.size sz a (ktl z a n ρ) σX σX' o g (xs (i + 1)) r hfx) wh_c_ironAt wq_950 wq_951 wq_86 (by decide +kernel) (by decide) hP hD hS hl.1 (Nat.le_of_ble_eq_true rfl) rfl rfl dL_law_908 hf (fun H locs hP hD hS => ?_)
  refine lv_istore hx hb dL_law_911 hl (by decide) rfl (fun ls5 hl => ?_)
  have hl : lv_has ls5 7 [(5, .int 0), (0, .ref b), (1, .ref (a 0)), (2, .ref (aM 0)), (3, .ref o), (4, .int (Int32.ofNat i))] := hl
  have hl : lv_has ls5 7 [(0, .ref b), (1, .ref (a 0)), (2, .ref (aM 0)), (3, .ref o), (4, .int (Int32.ofNat i)), (5, .int 0)] := lv_sb9 hl (by intro q hq; simp only [List.mem_cons, List.not_mem_nil, or_false] at hq ⊢; rcases hq with h | h | h | h | h | h <;> simp [h])
  refine lv_aload_n hx hb dL_law_913 rfl (lv_at hl 2 rfl) ?_
  refine ld_arg hL hl hS (k := 1) (by omega) (by decide) (by decide) dL_law_914 dL_law_915 dL_law_917 dL_law_918 dL_law_919 ?_
  refine lcM (nA := 1) (vs' := [.inl (xs (i + 1))]) (rest := []) hF (ct_X7_ironAt l) wq_1503 wq_1500 wq_1501 wq_1502 wq_95 (by decide +kernel) (by decide) rfl hfm hP hD hS hl.1 (Nat.le_of_ble_eq_true rfl) rfl rfl dL_law_920 hf (fun H locs hP hD hS => ?_)
  refine lv_istore hx hb dL_law_923 hl (by decide) rfl (fun ls6 hl => ?_)
  have hl : lv_has ls6 7 [(6, .int r), (0, .ref b), (1, .ref (a 0)), (2, .ref (aM 0)), (3, .ref o), (4, .int (Int32.ofNat i)), (5, .int 0)] := hl
  have hl : lv_has ls6 7 [(0, .ref b), (1, .ref (a 0)), (2, .ref (aM 0)), (3, .ref o), (4, .int (Int32.ofNat i)), (5, .int 0), (6, .int r)] := lv_sb9 hl (by intro q hq; simp only [List.mem_cons, List.not_mem_nil, or_false] at hq ⊢; rcases hq with h | h | h | h | h | h | h <;> simp [h])
  refine lv_aload_n hx hb dL_law_925 rfl (lv_at hl 2 rfl) ?_
  refine lcM (nA := 0) (vs' := []) (rest := []) (σM' := σM') (r := σM' 0 0) hF (ct_X7_thrown l) wq_1304 wq_1301 wq_1302 wq_1303 wq_95 (by decide +kernel) (by decide) rfl (e_X7_thrown σM') hP hD hS hl.1 (Nat.le_of_ble_eq_true rfl) rfl rfl dL_law_926 hf (fun H locs hP hD hS => ?_)
  refine lv_iload hx hb dL_law_929 (lv_at hl 5 rfl) ?_
  refine lv_icmp_eq hx hb dL_law_931 (tgt := 936) (by decide) (fun _ => ?_) (fun h9 => absurd hth h9)
  refine lv_iload hx hb dL_law_936 (lv_at hl 5 rfl) ?_
  refine lv_if_ne hx hb dL_law_938 (tgt := 953) (by decide) (fun h9 => absurd rfl h9) (fun _ => ?_)
  refine lv_aload_n hx hb dL_law_941 rfl (lv_at hl 3 rfl) ?_
  refine lv_iconst (v := 0) hx hb dL_law_942 (by decide) ?_
  refine va_lald hx hb hK hP 22 3 lw22 rfl (inb_vp rfl) dL_law_943 ?_
  refine lv_iload hx hb dL_law_944 (lv_at hl 6 rfl) ?_
  refine lv_i2l hx hb dL_law_946 rfl ?_
  refine W.lcmp hx hb dL_law_947 ?_
  rw [lcmp_same]
  refine lv_if_eq hx hb dL_law_948 (tgt := 953) (by decide) (fun _ => ?_) (fun h9 => absurd rfl h9)
  refine lv_goto hx hb dL_law_953 (tgt := 2687) (by decide) ?_
  exact kk H locs ls6 (lv_sb9 hl (by intro q hq; simp only [List.mem_cons, List.not_mem_nil, or_false] at hq ⊢; rcases hq with h | h | h | h | h <;> simp [h])) hP hD hS
theorem lu_15 (hl9 : l.stackTraces = false) (hL : Lc p s m c D z ts b L xs) (hi : i + 6 ≤ L) (hl : lv_has ls 7 [(0, .ref b), (1, .ref (a 0)), (2, .ref (aM 0)), (3, .ref o), (4, .int (Int32.ofNat i))]) (hP : va_P D vwCl (LwS z a n ρ σX aM σM o g) H) (hD : va_D (fun q => s.heap.size ≤ q) (LwS z a n ρ σX aM σM o g)) (hS : va_S (fun q => s.heap.size ≤ q) s.heap H locs) (hf : (cells + 1) ≤ 601024 ∧ (slots + 6) ≤ 7293034) (hfx : f_X6_ironAt [.inr (.inl 0), .inl (xs (i + 1))] σX = some (none, σX')) (hfm : f_X7_ironAt [.inr (.inl 0), .inl (xs (i + 1))] σM = some (some (some (.inl r)), σM')) (hth : σM' 0 0 = 1)
    (kk : ∀ (H1 : Heap) (locs1 : List Loc) (ls1 : Array Slot), lv_has ls1 7 [(0, .ref b), (1, .ref (a 0)), (2, .ref (aM 0)), (3, .ref o), (4, .int (Int32.ofNat i))] → va_P D vwCl (LwS z a n ρ σX' aM σM' o g) H1 → va_D (fun q => s.heap.size ≤ q) (LwS z a n ρ σX' aM σM' o g) → va_S (fun q => s.heap.size ≤ q) s.heap H1 locs1 → W p l e roomL s m #[Value.ref b] below meth c H1 locs1 (cells + 1) (slots + 6) Q (F0 m 2687 ls1 [])) : W p l e roomL s m #[Value.ref b] below meth c H locs cells slots Q (F0 m 900 ls []) := by
  obtain ⟨hF, hX, hbl, hL3⟩ := id hL
  obtain ⟨hx, hb, hml, hown, hts, hK, hA, hA0, hSt⟩ := id hF
  refine lv_aload_n hx hb dL_law_900 rfl (lv_at hl 1 rfl) ?_
  refine ld_arg hL hl hS (k := 1) (by omega) (by decide) (by decide) dL_law_901 dL_law_902 dL_law_904 dL_law_905 dL_law_906 ?_
  refine lv_aload_n hx hb dL_law_907 rfl (lv_at hl 3 rfl) ?_
  refine lcH (nA := 3) (mc := 1) (ms := 6) (As := [.ref (a 0), .int (xs (i + 1)), .ref o]) (rest := []) hF (fun sz => hht_ironAt l hl9 D z ts s.heap.size sz a (ktl z a n ρ) σX σX' o g (xs (i + 1)) hfx) wh_c_ironAt wq_950 wq_951 wq_86 (by decide +kernel) (by decide) hP hD hS hl.1 (Nat.le_of_ble_eq_true rfl) rfl rfl dL_law_908 hf (fun H locs hP hD hS => ?_)
  refine lv_istore hx hb dL_law_911 hl (by decide) rfl (fun ls5 hl => ?_)
  have hl : lv_has ls5 7 [(5, .int 1), (0, .ref b), (1, .ref (a 0)), (2, .ref (aM 0)), (3, .ref o), (4, .int (Int32.ofNat i))] := hl
  have hl : lv_has ls5 7 [(0, .ref b), (1, .ref (a 0)), (2, .ref (aM 0)), (3, .ref o), (4, .int (Int32.ofNat i)), (5, .int 1)] := lv_sb9 hl (by intro q hq; simp only [List.mem_cons, List.not_mem_nil, or_false] at hq ⊢; rcases hq with h | h | h | h | h | h <;> simp [h])
  refine lv_aload_n hx hb dL_law_913 rfl (lv_at hl 2 rfl) ?_
  refine ld_arg hL hl hS (k := 1) (by omega) (by decide) (by decide) dL_law_914 dL_law_915 dL_law_917 dL_law_918 dL_law_919 ?_
  refine lcM (nA := 1) (vs' := [.inl (xs (i + 1))]) (rest := []) hF (ct_X7_ironAt l) wq_1503 wq_1500 wq_1501 wq_1502 wq_95 (by decide +kernel) (by decide) rfl hfm hP hD hS hl.1 (Nat.le_of_ble_eq_true rfl) rfl rfl dL_law_920 hf (fun H locs hP hD hS => ?_)
  refine lv_istore hx hb dL_law_923 hl (by decide) rfl (fun ls6 hl => ?_)
  have hl : lv_has ls6 7 [(6, .int r), (0, .ref b), (1, .ref (a 0)), (2, .ref (aM 0)), (3, .ref o), (4, .int (Int32.ofNat i)), (5, .int 1)] := hl
  have hl : lv_has ls6 7 [(0, .ref b), (1, .ref (a 0)), (2, .ref (aM 0)), (3, .ref o), (4, .int (Int32.ofNat i)), (5, .int 1), (6, .int r)] := lv_sb9 hl (by intro q hq; simp only [List.mem_cons, List.not_mem_nil, or_false] at hq ⊢; rcases hq with h | h | h | h | h | h | h <;> simp [h])
  refine lv_aload_n hx hb dL_law_925 rfl (lv_at hl 2 rfl) ?_
  refine lcM (nA := 0) (vs' := []) (rest := []) (σM' := σM') (r := σM' 0 0) hF (ct_X7_thrown l) wq_1304 wq_1301 wq_1302 wq_1303 wq_95 (by decide +kernel) (by decide) rfl (e_X7_thrown σM') hP hD hS hl.1 (Nat.le_of_ble_eq_true rfl) rfl rfl dL_law_926 hf (fun H locs hP hD hS => ?_)
  refine lv_iload hx hb dL_law_929 (lv_at hl 5 rfl) ?_
  refine lv_icmp_eq hx hb dL_law_931 (tgt := 936) (by decide) (fun _ => ?_) (fun h9 => absurd hth h9)
  refine lv_iload hx hb dL_law_936 (lv_at hl 5 rfl) ?_
  refine lv_if_ne hx hb dL_law_938 (tgt := 953) (by decide) (fun _ => ?_) (fun h9 => absurd h9 (by decide))
  refine lv_goto hx hb dL_law_953 (tgt := 2687) (by decide) ?_
  exact kk H locs ls6 (lv_sb9 hl (by intro q hq; simp only [List.mem_cons, List.not_mem_nil, or_false] at hq ⊢; rcases hq with h | h | h | h | h <;> simp [h])) hP hD hS
theorem lt_16 (hl9 : l.stackTraces = false) (hL : Lc p s m c D z ts b L xs) (hi : i + 6 ≤ L) (hl : lv_has ls 7 [(0, .ref b), (1, .ref (a 0)), (2, .ref (aM 0)), (3, .ref o), (4, .int (Int32.ofNat i))]) (hP : va_P D vwCl (LwS z a n ρ σX aM σM o g) H) (hD : va_D (fun q => s.heap.size ≤ q) (LwS z a n ρ σX aM σM o g)) (hS : va_S (fun q => s.heap.size ≤ q) s.heap H locs) (hf : cells ≤ 601024 ∧ slots ≤ 7293034) (hfx : f_X6_positionOf [.inr (.inl 0), .inl (xs (i + 1))] σX = some (some (some (.inl r)), σX')) (hfm : f_X7_positionOf [.inr (.inl 0), .inl (xs (i + 1))] σM = some (some (some (.inl r)), σM')) (hth : σM' 0 0 = 0)
    (kk : ∀ (H1 : Heap) (locs1 : List Loc) (ls1 : Array Slot), lv_has ls1 7 [(0, .ref b), (1, .ref (a 0)), (2, .ref (aM 0)), (3, .ref o), (4, .int (Int32.ofNat i))] → va_P D vwCl (LwS z a n ρ σX' aM σM' o (vp_updL g 0 r.toInt64)) H1 → va_D (fun q => s.heap.size ≤ q) (LwS z a n ρ σX' aM σM' o (vp_updL g 0 r.toInt64)) → va_S (fun q => s.heap.size ≤ q) s.heap H1 locs1 → W p l e roomL s m #[Value.ref b] below meth c H1 locs1 cells slots Q (F0 m 2687 ls1 [])) : W p l e roomL s m #[Value.ref b] below meth c H locs cells slots Q (F0 m 956 ls []) := by
  obtain ⟨hF, hX, hbl, hL3⟩ := id hL
  obtain ⟨hx, hb, hml, hown, hts, hK, hA, hA0, hSt⟩ := id hF
  refine lv_aload_n hx hb dL_law_956 rfl (lv_at hl 1 rfl) ?_
  refine ld_arg hL hl hS (k := 1) (by omega) (by decide) (by decide) dL_law_957 dL_law_958 dL_law_960 dL_law_961 dL_law_962 ?_
  refine lv_aload_n hx hb dL_law_963 rfl (lv_at hl 3 rfl) ?_
  refine lcH (nA := 3) (mc := 0) (ms := 0) (As := [.ref (a 0), .int (xs (i + 1)), .ref o]) (rest := []) hF (fun sz => hhr_positionOf l hl9 D z ts s.heap.size sz a (ktl z a n ρ) σX σX' o g (xs (i + 1)) r hfx) wh_c_positionOf wq_957 wq_958 wq_86 (by decide +kernel) (by decide) hP hD hS hl.1 (Nat.le_of_ble_eq_true rfl) rfl rfl dL_law_964 hf (fun H locs hP hD hS => ?_)
  refine lv_istore hx hb dL_law_967 hl (by decide) rfl (fun ls5 hl => ?_)
  have hl : lv_has ls5 7 [(5, .int 0), (0, .ref b), (1, .ref (a 0)), (2, .ref (aM 0)), (3, .ref o), (4, .int (Int32.ofNat i))] := hl
  have hl : lv_has ls5 7 [(0, .ref b), (1, .ref (a 0)), (2, .ref (aM 0)), (3, .ref o), (4, .int (Int32.ofNat i)), (5, .int 0)] := lv_sb9 hl (by intro q hq; simp only [List.mem_cons, List.not_mem_nil, or_false] at hq ⊢; rcases hq with h | h | h | h | h | h <;> simp [h])
  refine lv_aload_n hx hb dL_law_969 rfl (lv_at hl 2 rfl) ?_
  refine ld_arg hL hl hS (k := 1) (by omega) (by decide) (by decide) dL_law_970 dL_law_971 dL_law_973 dL_law_974 dL_law_975 ?_
  refine lcM (nA := 1) (vs' := [.inl (xs (i + 1))]) (rest := []) hF (ct_X7_positionOf l) wq_1507 wq_1504 wq_1505 wq_1506 wq_95 (by decide +kernel) (by decide) rfl hfm hP hD hS hl.1 (Nat.le_of_ble_eq_true rfl) rfl rfl dL_law_976 hf (fun H locs hP hD hS => ?_)
  refine lv_istore hx hb dL_law_979 hl (by decide) rfl (fun ls6 hl => ?_)
  have hl : lv_has ls6 7 [(6, .int r), (0, .ref b), (1, .ref (a 0)), (2, .ref (aM 0)), (3, .ref o), (4, .int (Int32.ofNat i)), (5, .int 0)] := hl
  have hl : lv_has ls6 7 [(0, .ref b), (1, .ref (a 0)), (2, .ref (aM 0)), (3, .ref o), (4, .int (Int32.ofNat i)), (5, .int 0), (6, .int r)] := lv_sb9 hl (by intro q hq; simp only [List.mem_cons, List.not_mem_nil, or_false] at hq ⊢; rcases hq with h | h | h | h | h | h | h <;> simp [h])
  refine lv_aload_n hx hb dL_law_981 rfl (lv_at hl 2 rfl) ?_
  refine lcM (nA := 0) (vs' := []) (rest := []) (σM' := σM') (r := σM' 0 0) hF (ct_X7_thrown l) wq_1304 wq_1301 wq_1302 wq_1303 wq_95 (by decide +kernel) (by decide) rfl (e_X7_thrown σM') hP hD hS hl.1 (Nat.le_of_ble_eq_true rfl) rfl rfl dL_law_982 hf (fun H locs hP hD hS => ?_)
  refine lv_iload hx hb dL_law_985 (lv_at hl 5 rfl) ?_
  refine lv_icmp_eq hx hb dL_law_987 (tgt := 992) (by decide) (fun _ => ?_) (fun h9 => absurd hth h9)
  refine lv_iload hx hb dL_law_992 (lv_at hl 5 rfl) ?_
  refine lv_if_ne hx hb dL_law_994 (tgt := 1009) (by decide) (fun h9 => absurd rfl h9) (fun _ => ?_)
  refine lv_aload_n hx hb dL_law_997 rfl (lv_at hl 3 rfl) ?_
  refine lv_iconst (v := 0) hx hb dL_law_998 (by decide) ?_
  refine va_lald hx hb hK hP 22 3 lw22 rfl (inb_vp rfl) dL_law_999 ?_
  refine lv_iload hx hb dL_law_1000 (lv_at hl 6 rfl) ?_
  refine lv_i2l hx hb dL_law_1002 rfl ?_
  refine W.lcmp hx hb dL_law_1003 ?_
  rw [lcmp_same]
  refine lv_if_eq hx hb dL_law_1004 (tgt := 1009) (by decide) (fun _ => ?_) (fun h9 => absurd rfl h9)
  refine lv_goto hx hb dL_law_1009 (tgt := 2687) (by decide) ?_
  exact kk H locs ls6 (lv_sb9 hl (by intro q hq; simp only [List.mem_cons, List.not_mem_nil, or_false] at hq ⊢; rcases hq with h | h | h | h | h <;> simp [h])) hP hD hS
theorem lu_16 (hl9 : l.stackTraces = false) (hL : Lc p s m c D z ts b L xs) (hi : i + 6 ≤ L) (hl : lv_has ls 7 [(0, .ref b), (1, .ref (a 0)), (2, .ref (aM 0)), (3, .ref o), (4, .int (Int32.ofNat i))]) (hP : va_P D vwCl (LwS z a n ρ σX aM σM o g) H) (hD : va_D (fun q => s.heap.size ≤ q) (LwS z a n ρ σX aM σM o g)) (hS : va_S (fun q => s.heap.size ≤ q) s.heap H locs) (hf : (cells + 1) ≤ 601024 ∧ (slots + 6) ≤ 7293034) (hfx : f_X6_positionOf [.inr (.inl 0), .inl (xs (i + 1))] σX = some (none, σX')) (hfm : f_X7_positionOf [.inr (.inl 0), .inl (xs (i + 1))] σM = some (some (some (.inl r)), σM')) (hth : σM' 0 0 = 1)
    (kk : ∀ (H1 : Heap) (locs1 : List Loc) (ls1 : Array Slot), lv_has ls1 7 [(0, .ref b), (1, .ref (a 0)), (2, .ref (aM 0)), (3, .ref o), (4, .int (Int32.ofNat i))] → va_P D vwCl (LwS z a n ρ σX' aM σM' o g) H1 → va_D (fun q => s.heap.size ≤ q) (LwS z a n ρ σX' aM σM' o g) → va_S (fun q => s.heap.size ≤ q) s.heap H1 locs1 → W p l e roomL s m #[Value.ref b] below meth c H1 locs1 (cells + 1) (slots + 6) Q (F0 m 2687 ls1 [])) : W p l e roomL s m #[Value.ref b] below meth c H locs cells slots Q (F0 m 956 ls []) := by
  obtain ⟨hF, hX, hbl, hL3⟩ := id hL
  obtain ⟨hx, hb, hml, hown, hts, hK, hA, hA0, hSt⟩ := id hF
  refine lv_aload_n hx hb dL_law_956 rfl (lv_at hl 1 rfl) ?_
  refine ld_arg hL hl hS (k := 1) (by omega) (by decide) (by decide) dL_law_957 dL_law_958 dL_law_960 dL_law_961 dL_law_962 ?_
  refine lv_aload_n hx hb dL_law_963 rfl (lv_at hl 3 rfl) ?_
  refine lcH (nA := 3) (mc := 1) (ms := 6) (As := [.ref (a 0), .int (xs (i + 1)), .ref o]) (rest := []) hF (fun sz => hht_positionOf l hl9 D z ts s.heap.size sz a (ktl z a n ρ) σX σX' o g (xs (i + 1)) hfx) wh_c_positionOf wq_957 wq_958 wq_86 (by decide +kernel) (by decide) hP hD hS hl.1 (Nat.le_of_ble_eq_true rfl) rfl rfl dL_law_964 hf (fun H locs hP hD hS => ?_)
  refine lv_istore hx hb dL_law_967 hl (by decide) rfl (fun ls5 hl => ?_)
  have hl : lv_has ls5 7 [(5, .int 1), (0, .ref b), (1, .ref (a 0)), (2, .ref (aM 0)), (3, .ref o), (4, .int (Int32.ofNat i))] := hl
  have hl : lv_has ls5 7 [(0, .ref b), (1, .ref (a 0)), (2, .ref (aM 0)), (3, .ref o), (4, .int (Int32.ofNat i)), (5, .int 1)] := lv_sb9 hl (by intro q hq; simp only [List.mem_cons, List.not_mem_nil, or_false] at hq ⊢; rcases hq with h | h | h | h | h | h <;> simp [h])
  refine lv_aload_n hx hb dL_law_969 rfl (lv_at hl 2 rfl) ?_
  refine ld_arg hL hl hS (k := 1) (by omega) (by decide) (by decide) dL_law_970 dL_law_971 dL_law_973 dL_law_974 dL_law_975 ?_
  refine lcM (nA := 1) (vs' := [.inl (xs (i + 1))]) (rest := []) hF (ct_X7_positionOf l) wq_1507 wq_1504 wq_1505 wq_1506 wq_95 (by decide +kernel) (by decide) rfl hfm hP hD hS hl.1 (Nat.le_of_ble_eq_true rfl) rfl rfl dL_law_976 hf (fun H locs hP hD hS => ?_)
  refine lv_istore hx hb dL_law_979 hl (by decide) rfl (fun ls6 hl => ?_)
  have hl : lv_has ls6 7 [(6, .int r), (0, .ref b), (1, .ref (a 0)), (2, .ref (aM 0)), (3, .ref o), (4, .int (Int32.ofNat i)), (5, .int 1)] := hl
  have hl : lv_has ls6 7 [(0, .ref b), (1, .ref (a 0)), (2, .ref (aM 0)), (3, .ref o), (4, .int (Int32.ofNat i)), (5, .int 1), (6, .int r)] := lv_sb9 hl (by intro q hq; simp only [List.mem_cons, List.not_mem_nil, or_false] at hq ⊢; rcases hq with h | h | h | h | h | h | h <;> simp [h])
  refine lv_aload_n hx hb dL_law_981 rfl (lv_at hl 2 rfl) ?_
  refine lcM (nA := 0) (vs' := []) (rest := []) (σM' := σM') (r := σM' 0 0) hF (ct_X7_thrown l) wq_1304 wq_1301 wq_1302 wq_1303 wq_95 (by decide +kernel) (by decide) rfl (e_X7_thrown σM') hP hD hS hl.1 (Nat.le_of_ble_eq_true rfl) rfl rfl dL_law_982 hf (fun H locs hP hD hS => ?_)
  refine lv_iload hx hb dL_law_985 (lv_at hl 5 rfl) ?_
  refine lv_icmp_eq hx hb dL_law_987 (tgt := 992) (by decide) (fun _ => ?_) (fun h9 => absurd hth h9)
  refine lv_iload hx hb dL_law_992 (lv_at hl 5 rfl) ?_
  refine lv_if_ne hx hb dL_law_994 (tgt := 1009) (by decide) (fun _ => ?_) (fun h9 => absurd h9 (by decide))
  refine lv_goto hx hb dL_law_1009 (tgt := 2687) (by decide) ?_
  exact kk H locs ls6 (lv_sb9 hl (by intro q hq; simp only [List.mem_cons, List.not_mem_nil, or_false] at hq ⊢; rcases hq with h | h | h | h | h <;> simp [h])) hP hD hS
theorem lc_17 (hl9 : l.stackTraces = false) (hL : Lc p s m c D z ts b L xs) (hi : i + 6 ≤ L) (hl : lv_has ls 7 [(0, .ref b), (1, .ref (a 0)), (2, .ref (aM 0)), (3, .ref o), (4, .int (Int32.ofNat i))]) (hP : va_P D vwCl (LwS z a n ρ σX aM σM o g) H) (hD : va_D (fun q => s.heap.size ≤ q) (LwS z a n ρ σX aM σM o g)) (hS : va_S (fun q => s.heap.size ≤ q) s.heap H locs) (hf : cells ≤ 601024 ∧ slots ≤ 7293034) (hfx : f_X6_finish [.inr (.inl 0)] σX = some (some (some (.inl r)), σX')) (hfm : f_X7_finish [.inr (.inl 0)] σM = some (some (some (.inl r)), σM'))
    (kk : ∀ (H1 : Heap) (locs1 : List Loc), va_P D vwCl (LwS z a n ρ σX' aM σM' o g) H1 → va_D (fun q => s.heap.size ≤ q) (LwS z a n ρ σX' aM σM' o g) → va_S (fun q => s.heap.size ≤ q) s.heap H1 locs1 → W p l e roomL s m #[Value.ref b] below meth c H1 locs1 cells slots Q (F0 m 2687 ls [])) : W p l e roomL s m #[Value.ref b] below meth c H locs cells slots Q (F0 m 1012 ls []) := by
  obtain ⟨hF, hX, hbl, hL3⟩ := id hL
  obtain ⟨hx, hb, hml, hown, hts, hK, hA, hA0, hSt⟩ := id hF
  refine lv_aload_n hx hb dL_law_1012 rfl (lv_at hl 1 rfl) ?_
  refine lcX (nA := 0) (vs' := []) (rest := []) hF (ct_X6_finish l hl9) wq_537 wq_534 wq_535 wq_536 wq_87 (by decide +kernel) (by decide) rfl hfx hP hD hS hl.1 (Nat.le_of_ble_eq_true rfl) rfl rfl dL_law_1013 hf (fun H locs hP hD hS => ?_)
  refine lv_aload_n hx hb dL_law_1016 rfl (lv_at hl 2 rfl) ?_
  refine lcM (nA := 0) (vs' := []) (rest := [.int r]) hF (ct_X7_finish l) wq_1511 wq_1508 wq_1509 wq_1510 wq_95 (by decide +kernel) (by decide) rfl hfm hP hD hS hl.1 (Nat.le_of_ble_eq_true rfl) rfl rfl dL_law_1017 hf (fun H locs hP hD hS => ?_)
  exact lv_icmp_eq hx hb dL_law_1020 (tgt := 2687) (by decide) (fun _ => kk H locs hP hD hS) (fun h9 => absurd rfl h9)
theorem lt_18 (hl9 : l.stackTraces = false) (hL : Lc p s m c D z ts b L xs) (hi : i + 6 ≤ L) (hl : lv_has ls 7 [(0, .ref b), (1, .ref (a 0)), (2, .ref (aM 0)), (3, .ref o), (4, .int (Int32.ofNat i))]) (hP : va_P D vwCl (LwS z a n ρ σX aM σM o g) H) (hD : va_D (fun q => s.heap.size ≤ q) (LwS z a n ρ σX aM σM o g)) (hS : va_S (fun q => s.heap.size ≤ q) s.heap H locs) (hf : cells ≤ 601024 ∧ slots ≤ 7293034) (hfx : f_X6_finishOf [.inr (.inl 0), .inl (xs (i + 1))] σX = some (some (some (.inl r)), σX')) (hfm : f_X7_finishOf [.inr (.inl 0), .inl (xs (i + 1))] σM = some (some (some (.inl r)), σM')) (hth : σM' 0 0 = 0)
    (kk : ∀ (H1 : Heap) (locs1 : List Loc) (ls1 : Array Slot), lv_has ls1 7 [(0, .ref b), (1, .ref (a 0)), (2, .ref (aM 0)), (3, .ref o), (4, .int (Int32.ofNat i))] → va_P D vwCl (LwS z a n ρ σX' aM σM' o (vp_updL g 0 r.toInt64)) H1 → va_D (fun q => s.heap.size ≤ q) (LwS z a n ρ σX' aM σM' o (vp_updL g 0 r.toInt64)) → va_S (fun q => s.heap.size ≤ q) s.heap H1 locs1 → W p l e roomL s m #[Value.ref b] below meth c H1 locs1 cells slots Q (F0 m 2687 ls1 [])) : W p l e roomL s m #[Value.ref b] below meth c H locs cells slots Q (F0 m 1025 ls []) := by
  obtain ⟨hF, hX, hbl, hL3⟩ := id hL
  obtain ⟨hx, hb, hml, hown, hts, hK, hA, hA0, hSt⟩ := id hF
  refine lv_aload_n hx hb dL_law_1025 rfl (lv_at hl 1 rfl) ?_
  refine ld_arg hL hl hS (k := 1) (by omega) (by decide) (by decide) dL_law_1026 dL_law_1027 dL_law_1029 dL_law_1030 dL_law_1031 ?_
  refine lv_aload_n hx hb dL_law_1032 rfl (lv_at hl 3 rfl) ?_
  refine lcH (nA := 3) (mc := 0) (ms := 0) (As := [.ref (a 0), .int (xs (i + 1)), .ref o]) (rest := []) hF (fun sz => hhr_finishOf l hl9 D z ts s.heap.size sz a (ktl z a n ρ) σX σX' o g (xs (i + 1)) r hfx) wh_c_finishOf wq_968 wq_969 wq_86 (by decide +kernel) (by decide) hP hD hS hl.1 (Nat.le_of_ble_eq_true rfl) rfl rfl dL_law_1033 hf (fun H locs hP hD hS => ?_)
  refine lv_istore hx hb dL_law_1036 hl (by decide) rfl (fun ls5 hl => ?_)
  have hl : lv_has ls5 7 [(5, .int 0), (0, .ref b), (1, .ref (a 0)), (2, .ref (aM 0)), (3, .ref o), (4, .int (Int32.ofNat i))] := hl
  have hl : lv_has ls5 7 [(0, .ref b), (1, .ref (a 0)), (2, .ref (aM 0)), (3, .ref o), (4, .int (Int32.ofNat i)), (5, .int 0)] := lv_sb9 hl (by intro q hq; simp only [List.mem_cons, List.not_mem_nil, or_false] at hq ⊢; rcases hq with h | h | h | h | h | h <;> simp [h])
  refine lv_aload_n hx hb dL_law_1038 rfl (lv_at hl 2 rfl) ?_
  refine ld_arg hL hl hS (k := 1) (by omega) (by decide) (by decide) dL_law_1039 dL_law_1040 dL_law_1042 dL_law_1043 dL_law_1044 ?_
  refine lcM (nA := 1) (vs' := [.inl (xs (i + 1))]) (rest := []) hF (ct_X7_finishOf l) wq_1573 wq_1570 wq_1571 wq_1572 wq_95 (by decide +kernel) (by decide) rfl hfm hP hD hS hl.1 (Nat.le_of_ble_eq_true rfl) rfl rfl dL_law_1045 hf (fun H locs hP hD hS => ?_)
  refine lv_istore hx hb dL_law_1048 hl (by decide) rfl (fun ls6 hl => ?_)
  have hl : lv_has ls6 7 [(6, .int r), (0, .ref b), (1, .ref (a 0)), (2, .ref (aM 0)), (3, .ref o), (4, .int (Int32.ofNat i)), (5, .int 0)] := hl
  have hl : lv_has ls6 7 [(0, .ref b), (1, .ref (a 0)), (2, .ref (aM 0)), (3, .ref o), (4, .int (Int32.ofNat i)), (5, .int 0), (6, .int r)] := lv_sb9 hl (by intro q hq; simp only [List.mem_cons, List.not_mem_nil, or_false] at hq ⊢; rcases hq with h | h | h | h | h | h | h <;> simp [h])
  refine lv_aload_n hx hb dL_law_1050 rfl (lv_at hl 2 rfl) ?_
  refine lcM (nA := 0) (vs' := []) (rest := []) (σM' := σM') (r := σM' 0 0) hF (ct_X7_thrown l) wq_1304 wq_1301 wq_1302 wq_1303 wq_95 (by decide +kernel) (by decide) rfl (e_X7_thrown σM') hP hD hS hl.1 (Nat.le_of_ble_eq_true rfl) rfl rfl dL_law_1051 hf (fun H locs hP hD hS => ?_)
  refine lv_iload hx hb dL_law_1054 (lv_at hl 5 rfl) ?_
  refine lv_icmp_eq hx hb dL_law_1056 (tgt := 1061) (by decide) (fun _ => ?_) (fun h9 => absurd hth h9)
  refine lv_iload hx hb dL_law_1061 (lv_at hl 5 rfl) ?_
  refine lv_if_ne hx hb dL_law_1063 (tgt := 1078) (by decide) (fun h9 => absurd rfl h9) (fun _ => ?_)
  refine lv_aload_n hx hb dL_law_1066 rfl (lv_at hl 3 rfl) ?_
  refine lv_iconst (v := 0) hx hb dL_law_1067 (by decide) ?_
  refine va_lald hx hb hK hP 22 3 lw22 rfl (inb_vp rfl) dL_law_1068 ?_
  refine lv_iload hx hb dL_law_1069 (lv_at hl 6 rfl) ?_
  refine lv_i2l hx hb dL_law_1071 rfl ?_
  refine W.lcmp hx hb dL_law_1072 ?_
  rw [lcmp_same]
  refine lv_if_eq hx hb dL_law_1073 (tgt := 1078) (by decide) (fun _ => ?_) (fun h9 => absurd rfl h9)
  refine lv_goto hx hb dL_law_1078 (tgt := 2687) (by decide) ?_
  exact kk H locs ls6 (lv_sb9 hl (by intro q hq; simp only [List.mem_cons, List.not_mem_nil, or_false] at hq ⊢; rcases hq with h | h | h | h | h <;> simp [h])) hP hD hS
theorem lu_18 (hl9 : l.stackTraces = false) (hL : Lc p s m c D z ts b L xs) (hi : i + 6 ≤ L) (hl : lv_has ls 7 [(0, .ref b), (1, .ref (a 0)), (2, .ref (aM 0)), (3, .ref o), (4, .int (Int32.ofNat i))]) (hP : va_P D vwCl (LwS z a n ρ σX aM σM o g) H) (hD : va_D (fun q => s.heap.size ≤ q) (LwS z a n ρ σX aM σM o g)) (hS : va_S (fun q => s.heap.size ≤ q) s.heap H locs) (hf : (cells + 1) ≤ 601024 ∧ (slots + 6) ≤ 7293034) (hfx : f_X6_finishOf [.inr (.inl 0), .inl (xs (i + 1))] σX = some (none, σX')) (hfm : f_X7_finishOf [.inr (.inl 0), .inl (xs (i + 1))] σM = some (some (some (.inl r)), σM')) (hth : σM' 0 0 = 1)
    (kk : ∀ (H1 : Heap) (locs1 : List Loc) (ls1 : Array Slot), lv_has ls1 7 [(0, .ref b), (1, .ref (a 0)), (2, .ref (aM 0)), (3, .ref o), (4, .int (Int32.ofNat i))] → va_P D vwCl (LwS z a n ρ σX' aM σM' o g) H1 → va_D (fun q => s.heap.size ≤ q) (LwS z a n ρ σX' aM σM' o g) → va_S (fun q => s.heap.size ≤ q) s.heap H1 locs1 → W p l e roomL s m #[Value.ref b] below meth c H1 locs1 (cells + 1) (slots + 6) Q (F0 m 2687 ls1 [])) : W p l e roomL s m #[Value.ref b] below meth c H locs cells slots Q (F0 m 1025 ls []) := by
  obtain ⟨hF, hX, hbl, hL3⟩ := id hL
  obtain ⟨hx, hb, hml, hown, hts, hK, hA, hA0, hSt⟩ := id hF
  refine lv_aload_n hx hb dL_law_1025 rfl (lv_at hl 1 rfl) ?_
  refine ld_arg hL hl hS (k := 1) (by omega) (by decide) (by decide) dL_law_1026 dL_law_1027 dL_law_1029 dL_law_1030 dL_law_1031 ?_
  refine lv_aload_n hx hb dL_law_1032 rfl (lv_at hl 3 rfl) ?_
  refine lcH (nA := 3) (mc := 1) (ms := 6) (As := [.ref (a 0), .int (xs (i + 1)), .ref o]) (rest := []) hF (fun sz => hht_finishOf l hl9 D z ts s.heap.size sz a (ktl z a n ρ) σX σX' o g (xs (i + 1)) hfx) wh_c_finishOf wq_968 wq_969 wq_86 (by decide +kernel) (by decide) hP hD hS hl.1 (Nat.le_of_ble_eq_true rfl) rfl rfl dL_law_1033 hf (fun H locs hP hD hS => ?_)
  refine lv_istore hx hb dL_law_1036 hl (by decide) rfl (fun ls5 hl => ?_)
  have hl : lv_has ls5 7 [(5, .int 1), (0, .ref b), (1, .ref (a 0)), (2, .ref (aM 0)), (3, .ref o), (4, .int (Int32.ofNat i))] := hl
  have hl : lv_has ls5 7 [(0, .ref b), (1, .ref (a 0)), (2, .ref (aM 0)), (3, .ref o), (4, .int (Int32.ofNat i)), (5, .int 1)] := lv_sb9 hl (by intro q hq; simp only [List.mem_cons, List.not_mem_nil, or_false] at hq ⊢; rcases hq with h | h | h | h | h | h <;> simp [h])
  refine lv_aload_n hx hb dL_law_1038 rfl (lv_at hl 2 rfl) ?_
  refine ld_arg hL hl hS (k := 1) (by omega) (by decide) (by decide) dL_law_1039 dL_law_1040 dL_law_1042 dL_law_1043 dL_law_1044 ?_
  refine lcM (nA := 1) (vs' := [.inl (xs (i + 1))]) (rest := []) hF (ct_X7_finishOf l) wq_1573 wq_1570 wq_1571 wq_1572 wq_95 (by decide +kernel) (by decide) rfl hfm hP hD hS hl.1 (Nat.le_of_ble_eq_true rfl) rfl rfl dL_law_1045 hf (fun H locs hP hD hS => ?_)
  refine lv_istore hx hb dL_law_1048 hl (by decide) rfl (fun ls6 hl => ?_)
  have hl : lv_has ls6 7 [(6, .int r), (0, .ref b), (1, .ref (a 0)), (2, .ref (aM 0)), (3, .ref o), (4, .int (Int32.ofNat i)), (5, .int 1)] := hl
  have hl : lv_has ls6 7 [(0, .ref b), (1, .ref (a 0)), (2, .ref (aM 0)), (3, .ref o), (4, .int (Int32.ofNat i)), (5, .int 1), (6, .int r)] := lv_sb9 hl (by intro q hq; simp only [List.mem_cons, List.not_mem_nil, or_false] at hq ⊢; rcases hq with h | h | h | h | h | h | h <;> simp [h])
  refine lv_aload_n hx hb dL_law_1050 rfl (lv_at hl 2 rfl) ?_
  refine lcM (nA := 0) (vs' := []) (rest := []) (σM' := σM') (r := σM' 0 0) hF (ct_X7_thrown l) wq_1304 wq_1301 wq_1302 wq_1303 wq_95 (by decide +kernel) (by decide) rfl (e_X7_thrown σM') hP hD hS hl.1 (Nat.le_of_ble_eq_true rfl) rfl rfl dL_law_1051 hf (fun H locs hP hD hS => ?_)
  refine lv_iload hx hb dL_law_1054 (lv_at hl 5 rfl) ?_
  refine lv_icmp_eq hx hb dL_law_1056 (tgt := 1061) (by decide) (fun _ => ?_) (fun h9 => absurd hth h9)
  refine lv_iload hx hb dL_law_1061 (lv_at hl 5 rfl) ?_
  refine lv_if_ne hx hb dL_law_1063 (tgt := 1078) (by decide) (fun _ => ?_) (fun h9 => absurd h9 (by decide))
  refine lv_goto hx hb dL_law_1078 (tgt := 2687) (by decide) ?_
  exact kk H locs ls6 (lv_sb9 hl (by intro q hq; simp only [List.mem_cons, List.not_mem_nil, or_false] at hq ⊢; rcases hq with h | h | h | h | h <;> simp [h])) hP hD hS
theorem lt_19 (hl9 : l.stackTraces = false) (hL : Lc p s m c D z ts b L xs) (hi : i + 6 ≤ L) (hl : lv_has ls 7 [(0, .ref b), (1, .ref (a 0)), (2, .ref (aM 0)), (3, .ref o), (4, .int (Int32.ofNat i))]) (hP : va_P D vwCl (LwS z a n ρ σX aM σM o g) H) (hD : va_D (fun q => s.heap.size ≤ q) (LwS z a n ρ σX aM σM o g)) (hS : va_S (fun q => s.heap.size ≤ q) s.heap H locs) (hf : cells ≤ 601024 ∧ slots ≤ 7293034) (hfx : f_X6_heatAfter [.inr (.inl 0), .inl (xs (i + 1)), .inl (xs (i + 2))] σX = some (some (some (.inl r)), σX')) (hfm : f_X7_heatAfter [.inr (.inl 0), .inl (xs (i + 1)), .inl (xs (i + 2))] σM = some (some (some (.inl r)), σM')) (hth : σM' 0 0 = 0)
    (kk : ∀ (H1 : Heap) (locs1 : List Loc) (ls1 : Array Slot), lv_has ls1 7 [(0, .ref b), (1, .ref (a 0)), (2, .ref (aM 0)), (3, .ref o), (4, .int (Int32.ofNat i))] → va_P D vwCl (LwS z a n ρ σX' aM σM' o (vp_updL g 0 r.toInt64)) H1 → va_D (fun q => s.heap.size ≤ q) (LwS z a n ρ σX' aM σM' o (vp_updL g 0 r.toInt64)) → va_S (fun q => s.heap.size ≤ q) s.heap H1 locs1 → W p l e roomL s m #[Value.ref b] below meth c H1 locs1 cells slots Q (F0 m 2687 ls1 [])) : W p l e roomL s m #[Value.ref b] below meth c H locs cells slots Q (F0 m 1081 ls []) := by
  obtain ⟨hF, hX, hbl, hL3⟩ := id hL
  obtain ⟨hx, hb, hml, hown, hts, hK, hA, hA0, hSt⟩ := id hF
  refine lv_aload_n hx hb dL_law_1081 rfl (lv_at hl 1 rfl) ?_
  refine ld_arg hL hl hS (k := 1) (by omega) (by decide) (by decide) dL_law_1082 dL_law_1083 dL_law_1085 dL_law_1086 dL_law_1087 ?_
  refine ld_arg hL hl hS (k := 2) (by omega) (by decide) (by decide) dL_law_1088 dL_law_1089 dL_law_1091 dL_law_1092 dL_law_1093 ?_
  refine lv_aload_n hx hb dL_law_1094 rfl (lv_at hl 3 rfl) ?_
  refine lcH (nA := 4) (mc := 0) (ms := 0) (As := [.ref (a 0), .int (xs (i + 1)), .int (xs (i + 2)), .ref o]) (rest := []) hF (fun sz => hhr_heatAfter l hl9 D z ts s.heap.size sz a (ktl z a n ρ) σX σX' o g (xs (i + 1)) (xs (i + 2)) r hfx) wh_c_heatAfter wq_975 wq_976 wq_86 (by decide +kernel) (by decide) hP hD hS hl.1 (Nat.le_of_ble_eq_true rfl) rfl rfl dL_law_1095 hf (fun H locs hP hD hS => ?_)
  refine lv_istore hx hb dL_law_1098 hl (by decide) rfl (fun ls5 hl => ?_)
  have hl : lv_has ls5 7 [(5, .int 0), (0, .ref b), (1, .ref (a 0)), (2, .ref (aM 0)), (3, .ref o), (4, .int (Int32.ofNat i))] := hl
  have hl : lv_has ls5 7 [(0, .ref b), (1, .ref (a 0)), (2, .ref (aM 0)), (3, .ref o), (4, .int (Int32.ofNat i)), (5, .int 0)] := lv_sb9 hl (by intro q hq; simp only [List.mem_cons, List.not_mem_nil, or_false] at hq ⊢; rcases hq with h | h | h | h | h | h <;> simp [h])
  refine lv_aload_n hx hb dL_law_1100 rfl (lv_at hl 2 rfl) ?_
  refine ld_arg hL hl hS (k := 1) (by omega) (by decide) (by decide) dL_law_1101 dL_law_1102 dL_law_1104 dL_law_1105 dL_law_1106 ?_
  refine ld_arg hL hl hS (k := 2) (by omega) (by decide) (by decide) dL_law_1107 dL_law_1108 dL_law_1110 dL_law_1111 dL_law_1112 ?_
  refine lcM (nA := 2) (vs' := [.inl (xs (i + 1)), .inl (xs (i + 2))]) (rest := []) hF (ct_X7_heatAfter l) wq_1581 wq_1578 wq_1579 wq_1580 wq_95 (by decide +kernel) (by decide) rfl hfm hP hD hS hl.1 (Nat.le_of_ble_eq_true rfl) rfl rfl dL_law_1113 hf (fun H locs hP hD hS => ?_)
  refine lv_istore hx hb dL_law_1116 hl (by decide) rfl (fun ls6 hl => ?_)
  have hl : lv_has ls6 7 [(6, .int r), (0, .ref b), (1, .ref (a 0)), (2, .ref (aM 0)), (3, .ref o), (4, .int (Int32.ofNat i)), (5, .int 0)] := hl
  have hl : lv_has ls6 7 [(0, .ref b), (1, .ref (a 0)), (2, .ref (aM 0)), (3, .ref o), (4, .int (Int32.ofNat i)), (5, .int 0), (6, .int r)] := lv_sb9 hl (by intro q hq; simp only [List.mem_cons, List.not_mem_nil, or_false] at hq ⊢; rcases hq with h | h | h | h | h | h | h <;> simp [h])
  refine lv_aload_n hx hb dL_law_1118 rfl (lv_at hl 2 rfl) ?_
  refine lcM (nA := 0) (vs' := []) (rest := []) (σM' := σM') (r := σM' 0 0) hF (ct_X7_thrown l) wq_1304 wq_1301 wq_1302 wq_1303 wq_95 (by decide +kernel) (by decide) rfl (e_X7_thrown σM') hP hD hS hl.1 (Nat.le_of_ble_eq_true rfl) rfl rfl dL_law_1119 hf (fun H locs hP hD hS => ?_)
  refine lv_iload hx hb dL_law_1122 (lv_at hl 5 rfl) ?_
  refine lv_icmp_eq hx hb dL_law_1124 (tgt := 1129) (by decide) (fun _ => ?_) (fun h9 => absurd hth h9)
  refine lv_iload hx hb dL_law_1129 (lv_at hl 5 rfl) ?_
  refine lv_if_ne hx hb dL_law_1131 (tgt := 1146) (by decide) (fun h9 => absurd rfl h9) (fun _ => ?_)
  refine lv_aload_n hx hb dL_law_1134 rfl (lv_at hl 3 rfl) ?_
  refine lv_iconst (v := 0) hx hb dL_law_1135 (by decide) ?_
  refine va_lald hx hb hK hP 22 3 lw22 rfl (inb_vp rfl) dL_law_1136 ?_
  refine lv_iload hx hb dL_law_1137 (lv_at hl 6 rfl) ?_
  refine lv_i2l hx hb dL_law_1139 rfl ?_
  refine W.lcmp hx hb dL_law_1140 ?_
  rw [lcmp_same]
  refine lv_if_eq hx hb dL_law_1141 (tgt := 1146) (by decide) (fun _ => ?_) (fun h9 => absurd rfl h9)
  refine lv_goto hx hb dL_law_1146 (tgt := 2687) (by decide) ?_
  exact kk H locs ls6 (lv_sb9 hl (by intro q hq; simp only [List.mem_cons, List.not_mem_nil, or_false] at hq ⊢; rcases hq with h | h | h | h | h <;> simp [h])) hP hD hS
theorem lu_19 (hl9 : l.stackTraces = false) (hL : Lc p s m c D z ts b L xs) (hi : i + 6 ≤ L) (hl : lv_has ls 7 [(0, .ref b), (1, .ref (a 0)), (2, .ref (aM 0)), (3, .ref o), (4, .int (Int32.ofNat i))]) (hP : va_P D vwCl (LwS z a n ρ σX aM σM o g) H) (hD : va_D (fun q => s.heap.size ≤ q) (LwS z a n ρ σX aM σM o g)) (hS : va_S (fun q => s.heap.size ≤ q) s.heap H locs) (hf : (cells + 1) ≤ 601024 ∧ (slots + 6) ≤ 7293034) (hfx : f_X6_heatAfter [.inr (.inl 0), .inl (xs (i + 1)), .inl (xs (i + 2))] σX = some (none, σX')) (hfm : f_X7_heatAfter [.inr (.inl 0), .inl (xs (i + 1)), .inl (xs (i + 2))] σM = some (some (some (.inl r)), σM')) (hth : σM' 0 0 = 1)
    (kk : ∀ (H1 : Heap) (locs1 : List Loc) (ls1 : Array Slot), lv_has ls1 7 [(0, .ref b), (1, .ref (a 0)), (2, .ref (aM 0)), (3, .ref o), (4, .int (Int32.ofNat i))] → va_P D vwCl (LwS z a n ρ σX' aM σM' o g) H1 → va_D (fun q => s.heap.size ≤ q) (LwS z a n ρ σX' aM σM' o g) → va_S (fun q => s.heap.size ≤ q) s.heap H1 locs1 → W p l e roomL s m #[Value.ref b] below meth c H1 locs1 (cells + 1) (slots + 6) Q (F0 m 2687 ls1 [])) : W p l e roomL s m #[Value.ref b] below meth c H locs cells slots Q (F0 m 1081 ls []) := by
  obtain ⟨hF, hX, hbl, hL3⟩ := id hL
  obtain ⟨hx, hb, hml, hown, hts, hK, hA, hA0, hSt⟩ := id hF
  refine lv_aload_n hx hb dL_law_1081 rfl (lv_at hl 1 rfl) ?_
  refine ld_arg hL hl hS (k := 1) (by omega) (by decide) (by decide) dL_law_1082 dL_law_1083 dL_law_1085 dL_law_1086 dL_law_1087 ?_
  refine ld_arg hL hl hS (k := 2) (by omega) (by decide) (by decide) dL_law_1088 dL_law_1089 dL_law_1091 dL_law_1092 dL_law_1093 ?_
  refine lv_aload_n hx hb dL_law_1094 rfl (lv_at hl 3 rfl) ?_
  refine lcH (nA := 4) (mc := 1) (ms := 6) (As := [.ref (a 0), .int (xs (i + 1)), .int (xs (i + 2)), .ref o]) (rest := []) hF (fun sz => hht_heatAfter l hl9 D z ts s.heap.size sz a (ktl z a n ρ) σX σX' o g (xs (i + 1)) (xs (i + 2)) hfx) wh_c_heatAfter wq_975 wq_976 wq_86 (by decide +kernel) (by decide) hP hD hS hl.1 (Nat.le_of_ble_eq_true rfl) rfl rfl dL_law_1095 hf (fun H locs hP hD hS => ?_)
  refine lv_istore hx hb dL_law_1098 hl (by decide) rfl (fun ls5 hl => ?_)
  have hl : lv_has ls5 7 [(5, .int 1), (0, .ref b), (1, .ref (a 0)), (2, .ref (aM 0)), (3, .ref o), (4, .int (Int32.ofNat i))] := hl
  have hl : lv_has ls5 7 [(0, .ref b), (1, .ref (a 0)), (2, .ref (aM 0)), (3, .ref o), (4, .int (Int32.ofNat i)), (5, .int 1)] := lv_sb9 hl (by intro q hq; simp only [List.mem_cons, List.not_mem_nil, or_false] at hq ⊢; rcases hq with h | h | h | h | h | h <;> simp [h])
  refine lv_aload_n hx hb dL_law_1100 rfl (lv_at hl 2 rfl) ?_
  refine ld_arg hL hl hS (k := 1) (by omega) (by decide) (by decide) dL_law_1101 dL_law_1102 dL_law_1104 dL_law_1105 dL_law_1106 ?_
  refine ld_arg hL hl hS (k := 2) (by omega) (by decide) (by decide) dL_law_1107 dL_law_1108 dL_law_1110 dL_law_1111 dL_law_1112 ?_
  refine lcM (nA := 2) (vs' := [.inl (xs (i + 1)), .inl (xs (i + 2))]) (rest := []) hF (ct_X7_heatAfter l) wq_1581 wq_1578 wq_1579 wq_1580 wq_95 (by decide +kernel) (by decide) rfl hfm hP hD hS hl.1 (Nat.le_of_ble_eq_true rfl) rfl rfl dL_law_1113 hf (fun H locs hP hD hS => ?_)
  refine lv_istore hx hb dL_law_1116 hl (by decide) rfl (fun ls6 hl => ?_)
  have hl : lv_has ls6 7 [(6, .int r), (0, .ref b), (1, .ref (a 0)), (2, .ref (aM 0)), (3, .ref o), (4, .int (Int32.ofNat i)), (5, .int 1)] := hl
  have hl : lv_has ls6 7 [(0, .ref b), (1, .ref (a 0)), (2, .ref (aM 0)), (3, .ref o), (4, .int (Int32.ofNat i)), (5, .int 1), (6, .int r)] := lv_sb9 hl (by intro q hq; simp only [List.mem_cons, List.not_mem_nil, or_false] at hq ⊢; rcases hq with h | h | h | h | h | h | h <;> simp [h])
  refine lv_aload_n hx hb dL_law_1118 rfl (lv_at hl 2 rfl) ?_
  refine lcM (nA := 0) (vs' := []) (rest := []) (σM' := σM') (r := σM' 0 0) hF (ct_X7_thrown l) wq_1304 wq_1301 wq_1302 wq_1303 wq_95 (by decide +kernel) (by decide) rfl (e_X7_thrown σM') hP hD hS hl.1 (Nat.le_of_ble_eq_true rfl) rfl rfl dL_law_1119 hf (fun H locs hP hD hS => ?_)
  refine lv_iload hx hb dL_law_1122 (lv_at hl 5 rfl) ?_
  refine lv_icmp_eq hx hb dL_law_1124 (tgt := 1129) (by decide) (fun _ => ?_) (fun h9 => absurd hth h9)
  refine lv_iload hx hb dL_law_1129 (lv_at hl 5 rfl) ?_
  refine lv_if_ne hx hb dL_law_1131 (tgt := 1146) (by decide) (fun _ => ?_) (fun h9 => absurd h9 (by decide))
  refine lv_goto hx hb dL_law_1146 (tgt := 2687) (by decide) ?_
  exact kk H locs ls6 (lv_sb9 hl (by intro q hq; simp only [List.mem_cons, List.not_mem_nil, or_false] at hq ⊢; rcases hq with h | h | h | h | h <;> simp [h])) hP hD hS
theorem lt_20 (hl9 : l.stackTraces = false) (hL : Lc p s m c D z ts b L xs) (hi : i + 6 ≤ L) (hl : lv_has ls 7 [(0, .ref b), (1, .ref (a 0)), (2, .ref (aM 0)), (3, .ref o), (4, .int (Int32.ofNat i))]) (hP : va_P D vwCl (LwS z a n ρ σX aM σM o g) H) (hD : va_D (fun q => s.heap.size ≤ q) (LwS z a n ρ σX aM σM o g)) (hS : va_S (fun q => s.heap.size ≤ q) s.heap H locs) (hf : cells ≤ 601024 ∧ slots ≤ 7293034) (hfx : f_X6_whereIn [.inr (.inl 0), .inl (xs (i + 1)), .inl (xs (i + 2))] σX = some (some (some (.inl r)), σX')) (hfm : f_X7_whereIn [.inr (.inl 0), .inl (xs (i + 1)), .inl (xs (i + 2))] σM = some (some (some (.inl r)), σM')) (hth : σM' 0 0 = 0)
    (kk : ∀ (H1 : Heap) (locs1 : List Loc) (ls1 : Array Slot), lv_has ls1 7 [(0, .ref b), (1, .ref (a 0)), (2, .ref (aM 0)), (3, .ref o), (4, .int (Int32.ofNat i))] → va_P D vwCl (LwS z a n ρ σX' aM σM' o (vp_updL g 0 r.toInt64)) H1 → va_D (fun q => s.heap.size ≤ q) (LwS z a n ρ σX' aM σM' o (vp_updL g 0 r.toInt64)) → va_S (fun q => s.heap.size ≤ q) s.heap H1 locs1 → W p l e roomL s m #[Value.ref b] below meth c H1 locs1 cells slots Q (F0 m 2687 ls1 [])) : W p l e roomL s m #[Value.ref b] below meth c H locs cells slots Q (F0 m 1149 ls []) := by
  obtain ⟨hF, hX, hbl, hL3⟩ := id hL
  obtain ⟨hx, hb, hml, hown, hts, hK, hA, hA0, hSt⟩ := id hF
  refine lv_aload_n hx hb dL_law_1149 rfl (lv_at hl 1 rfl) ?_
  refine ld_arg hL hl hS (k := 1) (by omega) (by decide) (by decide) dL_law_1150 dL_law_1151 dL_law_1153 dL_law_1154 dL_law_1155 ?_
  refine ld_arg hL hl hS (k := 2) (by omega) (by decide) (by decide) dL_law_1156 dL_law_1157 dL_law_1159 dL_law_1160 dL_law_1161 ?_
  refine lv_aload_n hx hb dL_law_1162 rfl (lv_at hl 3 rfl) ?_
  refine lcH (nA := 4) (mc := 0) (ms := 0) (As := [.ref (a 0), .int (xs (i + 1)), .int (xs (i + 2)), .ref o]) (rest := []) hF (fun sz => hhr_whereIn l hl9 D z ts s.heap.size sz a (ktl z a n ρ) σX σX' o g (xs (i + 1)) (xs (i + 2)) r hfx) wh_c_whereIn wq_986 wq_987 wq_86 (by decide +kernel) (by decide) hP hD hS hl.1 (Nat.le_of_ble_eq_true rfl) rfl rfl dL_law_1163 hf (fun H locs hP hD hS => ?_)
  refine lv_istore hx hb dL_law_1166 hl (by decide) rfl (fun ls5 hl => ?_)
  have hl : lv_has ls5 7 [(5, .int 0), (0, .ref b), (1, .ref (a 0)), (2, .ref (aM 0)), (3, .ref o), (4, .int (Int32.ofNat i))] := hl
  have hl : lv_has ls5 7 [(0, .ref b), (1, .ref (a 0)), (2, .ref (aM 0)), (3, .ref o), (4, .int (Int32.ofNat i)), (5, .int 0)] := lv_sb9 hl (by intro q hq; simp only [List.mem_cons, List.not_mem_nil, or_false] at hq ⊢; rcases hq with h | h | h | h | h | h <;> simp [h])
  refine lv_aload_n hx hb dL_law_1168 rfl (lv_at hl 2 rfl) ?_
  refine ld_arg hL hl hS (k := 1) (by omega) (by decide) (by decide) dL_law_1169 dL_law_1170 dL_law_1172 dL_law_1173 dL_law_1174 ?_
  refine ld_arg hL hl hS (k := 2) (by omega) (by decide) (by decide) dL_law_1175 dL_law_1176 dL_law_1178 dL_law_1179 dL_law_1180 ?_
  refine lcM (nA := 2) (vs' := [.inl (xs (i + 1)), .inl (xs (i + 2))]) (rest := []) hF (ct_X7_whereIn l) wq_1585 wq_1582 wq_1583 wq_1584 wq_95 (by decide +kernel) (by decide) rfl hfm hP hD hS hl.1 (Nat.le_of_ble_eq_true rfl) rfl rfl dL_law_1181 hf (fun H locs hP hD hS => ?_)
  refine lv_istore hx hb dL_law_1184 hl (by decide) rfl (fun ls6 hl => ?_)
  have hl : lv_has ls6 7 [(6, .int r), (0, .ref b), (1, .ref (a 0)), (2, .ref (aM 0)), (3, .ref o), (4, .int (Int32.ofNat i)), (5, .int 0)] := hl
  have hl : lv_has ls6 7 [(0, .ref b), (1, .ref (a 0)), (2, .ref (aM 0)), (3, .ref o), (4, .int (Int32.ofNat i)), (5, .int 0), (6, .int r)] := lv_sb9 hl (by intro q hq; simp only [List.mem_cons, List.not_mem_nil, or_false] at hq ⊢; rcases hq with h | h | h | h | h | h | h <;> simp [h])
  refine lv_aload_n hx hb dL_law_1186 rfl (lv_at hl 2 rfl) ?_
  refine lcM (nA := 0) (vs' := []) (rest := []) (σM' := σM') (r := σM' 0 0) hF (ct_X7_thrown l) wq_1304 wq_1301 wq_1302 wq_1303 wq_95 (by decide +kernel) (by decide) rfl (e_X7_thrown σM') hP hD hS hl.1 (Nat.le_of_ble_eq_true rfl) rfl rfl dL_law_1187 hf (fun H locs hP hD hS => ?_)
  refine lv_iload hx hb dL_law_1190 (lv_at hl 5 rfl) ?_
  refine lv_icmp_eq hx hb dL_law_1192 (tgt := 1197) (by decide) (fun _ => ?_) (fun h9 => absurd hth h9)
  refine lv_iload hx hb dL_law_1197 (lv_at hl 5 rfl) ?_
  refine lv_if_ne hx hb dL_law_1199 (tgt := 1214) (by decide) (fun h9 => absurd rfl h9) (fun _ => ?_)
  refine lv_aload_n hx hb dL_law_1202 rfl (lv_at hl 3 rfl) ?_
  refine lv_iconst (v := 0) hx hb dL_law_1203 (by decide) ?_
  refine va_lald hx hb hK hP 22 3 lw22 rfl (inb_vp rfl) dL_law_1204 ?_
  refine lv_iload hx hb dL_law_1205 (lv_at hl 6 rfl) ?_
  refine lv_i2l hx hb dL_law_1207 rfl ?_
  refine W.lcmp hx hb dL_law_1208 ?_
  rw [lcmp_same]
  refine lv_if_eq hx hb dL_law_1209 (tgt := 1214) (by decide) (fun _ => ?_) (fun h9 => absurd rfl h9)
  refine lv_goto hx hb dL_law_1214 (tgt := 2687) (by decide) ?_
  exact kk H locs ls6 (lv_sb9 hl (by intro q hq; simp only [List.mem_cons, List.not_mem_nil, or_false] at hq ⊢; rcases hq with h | h | h | h | h <;> simp [h])) hP hD hS
theorem lu_20 (hl9 : l.stackTraces = false) (hL : Lc p s m c D z ts b L xs) (hi : i + 6 ≤ L) (hl : lv_has ls 7 [(0, .ref b), (1, .ref (a 0)), (2, .ref (aM 0)), (3, .ref o), (4, .int (Int32.ofNat i))]) (hP : va_P D vwCl (LwS z a n ρ σX aM σM o g) H) (hD : va_D (fun q => s.heap.size ≤ q) (LwS z a n ρ σX aM σM o g)) (hS : va_S (fun q => s.heap.size ≤ q) s.heap H locs) (hf : (cells + 1) ≤ 601024 ∧ (slots + 6) ≤ 7293034) (hfx : f_X6_whereIn [.inr (.inl 0), .inl (xs (i + 1)), .inl (xs (i + 2))] σX = some (none, σX')) (hfm : f_X7_whereIn [.inr (.inl 0), .inl (xs (i + 1)), .inl (xs (i + 2))] σM = some (some (some (.inl r)), σM')) (hth : σM' 0 0 = 1)
    (kk : ∀ (H1 : Heap) (locs1 : List Loc) (ls1 : Array Slot), lv_has ls1 7 [(0, .ref b), (1, .ref (a 0)), (2, .ref (aM 0)), (3, .ref o), (4, .int (Int32.ofNat i))] → va_P D vwCl (LwS z a n ρ σX' aM σM' o g) H1 → va_D (fun q => s.heap.size ≤ q) (LwS z a n ρ σX' aM σM' o g) → va_S (fun q => s.heap.size ≤ q) s.heap H1 locs1 → W p l e roomL s m #[Value.ref b] below meth c H1 locs1 (cells + 1) (slots + 6) Q (F0 m 2687 ls1 [])) : W p l e roomL s m #[Value.ref b] below meth c H locs cells slots Q (F0 m 1149 ls []) := by
  obtain ⟨hF, hX, hbl, hL3⟩ := id hL
  obtain ⟨hx, hb, hml, hown, hts, hK, hA, hA0, hSt⟩ := id hF
  refine lv_aload_n hx hb dL_law_1149 rfl (lv_at hl 1 rfl) ?_
  refine ld_arg hL hl hS (k := 1) (by omega) (by decide) (by decide) dL_law_1150 dL_law_1151 dL_law_1153 dL_law_1154 dL_law_1155 ?_
  refine ld_arg hL hl hS (k := 2) (by omega) (by decide) (by decide) dL_law_1156 dL_law_1157 dL_law_1159 dL_law_1160 dL_law_1161 ?_
  refine lv_aload_n hx hb dL_law_1162 rfl (lv_at hl 3 rfl) ?_
  refine lcH (nA := 4) (mc := 1) (ms := 6) (As := [.ref (a 0), .int (xs (i + 1)), .int (xs (i + 2)), .ref o]) (rest := []) hF (fun sz => hht_whereIn l hl9 D z ts s.heap.size sz a (ktl z a n ρ) σX σX' o g (xs (i + 1)) (xs (i + 2)) hfx) wh_c_whereIn wq_986 wq_987 wq_86 (by decide +kernel) (by decide) hP hD hS hl.1 (Nat.le_of_ble_eq_true rfl) rfl rfl dL_law_1163 hf (fun H locs hP hD hS => ?_)
  refine lv_istore hx hb dL_law_1166 hl (by decide) rfl (fun ls5 hl => ?_)
  have hl : lv_has ls5 7 [(5, .int 1), (0, .ref b), (1, .ref (a 0)), (2, .ref (aM 0)), (3, .ref o), (4, .int (Int32.ofNat i))] := hl
  have hl : lv_has ls5 7 [(0, .ref b), (1, .ref (a 0)), (2, .ref (aM 0)), (3, .ref o), (4, .int (Int32.ofNat i)), (5, .int 1)] := lv_sb9 hl (by intro q hq; simp only [List.mem_cons, List.not_mem_nil, or_false] at hq ⊢; rcases hq with h | h | h | h | h | h <;> simp [h])
  refine lv_aload_n hx hb dL_law_1168 rfl (lv_at hl 2 rfl) ?_
  refine ld_arg hL hl hS (k := 1) (by omega) (by decide) (by decide) dL_law_1169 dL_law_1170 dL_law_1172 dL_law_1173 dL_law_1174 ?_
  refine ld_arg hL hl hS (k := 2) (by omega) (by decide) (by decide) dL_law_1175 dL_law_1176 dL_law_1178 dL_law_1179 dL_law_1180 ?_
  refine lcM (nA := 2) (vs' := [.inl (xs (i + 1)), .inl (xs (i + 2))]) (rest := []) hF (ct_X7_whereIn l) wq_1585 wq_1582 wq_1583 wq_1584 wq_95 (by decide +kernel) (by decide) rfl hfm hP hD hS hl.1 (Nat.le_of_ble_eq_true rfl) rfl rfl dL_law_1181 hf (fun H locs hP hD hS => ?_)
  refine lv_istore hx hb dL_law_1184 hl (by decide) rfl (fun ls6 hl => ?_)
  have hl : lv_has ls6 7 [(6, .int r), (0, .ref b), (1, .ref (a 0)), (2, .ref (aM 0)), (3, .ref o), (4, .int (Int32.ofNat i)), (5, .int 1)] := hl
  have hl : lv_has ls6 7 [(0, .ref b), (1, .ref (a 0)), (2, .ref (aM 0)), (3, .ref o), (4, .int (Int32.ofNat i)), (5, .int 1), (6, .int r)] := lv_sb9 hl (by intro q hq; simp only [List.mem_cons, List.not_mem_nil, or_false] at hq ⊢; rcases hq with h | h | h | h | h | h | h <;> simp [h])
  refine lv_aload_n hx hb dL_law_1186 rfl (lv_at hl 2 rfl) ?_
  refine lcM (nA := 0) (vs' := []) (rest := []) (σM' := σM') (r := σM' 0 0) hF (ct_X7_thrown l) wq_1304 wq_1301 wq_1302 wq_1303 wq_95 (by decide +kernel) (by decide) rfl (e_X7_thrown σM') hP hD hS hl.1 (Nat.le_of_ble_eq_true rfl) rfl rfl dL_law_1187 hf (fun H locs hP hD hS => ?_)
  refine lv_iload hx hb dL_law_1190 (lv_at hl 5 rfl) ?_
  refine lv_icmp_eq hx hb dL_law_1192 (tgt := 1197) (by decide) (fun _ => ?_) (fun h9 => absurd hth h9)
  refine lv_iload hx hb dL_law_1197 (lv_at hl 5 rfl) ?_
  refine lv_if_ne hx hb dL_law_1199 (tgt := 1214) (by decide) (fun _ => ?_) (fun h9 => absurd h9 (by decide))
  refine lv_goto hx hb dL_law_1214 (tgt := 2687) (by decide) ?_
  exact kk H locs ls6 (lv_sb9 hl (by intro q hq; simp only [List.mem_cons, List.not_mem_nil, or_false] at hq ⊢; rcases hq with h | h | h | h | h <;> simp [h])) hP hD hS
theorem lt_21 (hl9 : l.stackTraces = false) (hL : Lc p s m c D z ts b L xs) (hi : i + 6 ≤ L) (hl : lv_has ls 7 [(0, .ref b), (1, .ref (a 0)), (2, .ref (aM 0)), (3, .ref o), (4, .int (Int32.ofNat i))]) (hP : va_P D vwCl (LwS z a n ρ σX aM σM o g) H) (hD : va_D (fun q => s.heap.size ≤ q) (LwS z a n ρ σX aM σM o g)) (hS : va_S (fun q => s.heap.size ≤ q) s.heap H locs) (hf : cells ≤ 601024 ∧ slots ≤ 7293034) (hfx : f_X6_stepsAfter [.inr (.inl 0), .inl (xs (i + 1)), .inl (xs (i + 2))] σX = some (some (some (.inl r)), σX')) (hfm : f_X7_stepsAfter [.inr (.inl 0), .inl (xs (i + 1)), .inl (xs (i + 2))] σM = some (some (some (.inl r)), σM')) (hth : σM' 0 0 = 0)
    (kk : ∀ (H1 : Heap) (locs1 : List Loc) (ls1 : Array Slot), lv_has ls1 7 [(0, .ref b), (1, .ref (a 0)), (2, .ref (aM 0)), (3, .ref o), (4, .int (Int32.ofNat i))] → va_P D vwCl (LwS z a n ρ σX' aM σM' o (vp_updL g 0 r.toInt64)) H1 → va_D (fun q => s.heap.size ≤ q) (LwS z a n ρ σX' aM σM' o (vp_updL g 0 r.toInt64)) → va_S (fun q => s.heap.size ≤ q) s.heap H1 locs1 → W p l e roomL s m #[Value.ref b] below meth c H1 locs1 cells slots Q (F0 m 2687 ls1 [])) : W p l e roomL s m #[Value.ref b] below meth c H locs cells slots Q (F0 m 1217 ls []) := by
  obtain ⟨hF, hX, hbl, hL3⟩ := id hL
  obtain ⟨hx, hb, hml, hown, hts, hK, hA, hA0, hSt⟩ := id hF
  refine lv_aload_n hx hb dL_law_1217 rfl (lv_at hl 1 rfl) ?_
  refine ld_arg hL hl hS (k := 1) (by omega) (by decide) (by decide) dL_law_1218 dL_law_1219 dL_law_1221 dL_law_1222 dL_law_1223 ?_
  refine ld_arg hL hl hS (k := 2) (by omega) (by decide) (by decide) dL_law_1224 dL_law_1225 dL_law_1227 dL_law_1228 dL_law_1229 ?_
  refine lv_aload_n hx hb dL_law_1230 rfl (lv_at hl 3 rfl) ?_
  refine lcH (nA := 4) (mc := 0) (ms := 0) (As := [.ref (a 0), .int (xs (i + 1)), .int (xs (i + 2)), .ref o]) (rest := []) hF (fun sz => hhr_stepsAfter l hl9 D z ts s.heap.size sz a (ktl z a n ρ) σX σX' o g (xs (i + 1)) (xs (i + 2)) r hfx) wh_c_stepsAfter wq_997 wq_998 wq_86 (by decide +kernel) (by decide) hP hD hS hl.1 (Nat.le_of_ble_eq_true rfl) rfl rfl dL_law_1231 hf (fun H locs hP hD hS => ?_)
  refine lv_istore hx hb dL_law_1234 hl (by decide) rfl (fun ls5 hl => ?_)
  have hl : lv_has ls5 7 [(5, .int 0), (0, .ref b), (1, .ref (a 0)), (2, .ref (aM 0)), (3, .ref o), (4, .int (Int32.ofNat i))] := hl
  have hl : lv_has ls5 7 [(0, .ref b), (1, .ref (a 0)), (2, .ref (aM 0)), (3, .ref o), (4, .int (Int32.ofNat i)), (5, .int 0)] := lv_sb9 hl (by intro q hq; simp only [List.mem_cons, List.not_mem_nil, or_false] at hq ⊢; rcases hq with h | h | h | h | h | h <;> simp [h])
  refine lv_aload_n hx hb dL_law_1236 rfl (lv_at hl 2 rfl) ?_
  refine ld_arg hL hl hS (k := 1) (by omega) (by decide) (by decide) dL_law_1237 dL_law_1238 dL_law_1240 dL_law_1241 dL_law_1242 ?_
  refine ld_arg hL hl hS (k := 2) (by omega) (by decide) (by decide) dL_law_1243 dL_law_1244 dL_law_1246 dL_law_1247 dL_law_1248 ?_
  refine lcM (nA := 2) (vs' := [.inl (xs (i + 1)), .inl (xs (i + 2))]) (rest := []) hF (ct_X7_stepsAfter l) wq_1589 wq_1586 wq_1587 wq_1588 wq_95 (by decide +kernel) (by decide) rfl hfm hP hD hS hl.1 (Nat.le_of_ble_eq_true rfl) rfl rfl dL_law_1249 hf (fun H locs hP hD hS => ?_)
  refine lv_istore hx hb dL_law_1252 hl (by decide) rfl (fun ls6 hl => ?_)
  have hl : lv_has ls6 7 [(6, .int r), (0, .ref b), (1, .ref (a 0)), (2, .ref (aM 0)), (3, .ref o), (4, .int (Int32.ofNat i)), (5, .int 0)] := hl
  have hl : lv_has ls6 7 [(0, .ref b), (1, .ref (a 0)), (2, .ref (aM 0)), (3, .ref o), (4, .int (Int32.ofNat i)), (5, .int 0), (6, .int r)] := lv_sb9 hl (by intro q hq; simp only [List.mem_cons, List.not_mem_nil, or_false] at hq ⊢; rcases hq with h | h | h | h | h | h | h <;> simp [h])
  refine lv_aload_n hx hb dL_law_1254 rfl (lv_at hl 2 rfl) ?_
  refine lcM (nA := 0) (vs' := []) (rest := []) (σM' := σM') (r := σM' 0 0) hF (ct_X7_thrown l) wq_1304 wq_1301 wq_1302 wq_1303 wq_95 (by decide +kernel) (by decide) rfl (e_X7_thrown σM') hP hD hS hl.1 (Nat.le_of_ble_eq_true rfl) rfl rfl dL_law_1255 hf (fun H locs hP hD hS => ?_)
  refine lv_iload hx hb dL_law_1258 (lv_at hl 5 rfl) ?_
  refine lv_icmp_eq hx hb dL_law_1260 (tgt := 1265) (by decide) (fun _ => ?_) (fun h9 => absurd hth h9)
  refine lv_iload hx hb dL_law_1265 (lv_at hl 5 rfl) ?_
  refine lv_if_ne hx hb dL_law_1267 (tgt := 1282) (by decide) (fun h9 => absurd rfl h9) (fun _ => ?_)
  refine lv_aload_n hx hb dL_law_1270 rfl (lv_at hl 3 rfl) ?_
  refine lv_iconst (v := 0) hx hb dL_law_1271 (by decide) ?_
  refine va_lald hx hb hK hP 22 3 lw22 rfl (inb_vp rfl) dL_law_1272 ?_
  refine lv_iload hx hb dL_law_1273 (lv_at hl 6 rfl) ?_
  refine lv_i2l hx hb dL_law_1275 rfl ?_
  refine W.lcmp hx hb dL_law_1276 ?_
  rw [lcmp_same]
  refine lv_if_eq hx hb dL_law_1277 (tgt := 1282) (by decide) (fun _ => ?_) (fun h9 => absurd rfl h9)
  refine lv_goto hx hb dL_law_1282 (tgt := 2687) (by decide) ?_
  exact kk H locs ls6 (lv_sb9 hl (by intro q hq; simp only [List.mem_cons, List.not_mem_nil, or_false] at hq ⊢; rcases hq with h | h | h | h | h <;> simp [h])) hP hD hS
theorem lu_21 (hl9 : l.stackTraces = false) (hL : Lc p s m c D z ts b L xs) (hi : i + 6 ≤ L) (hl : lv_has ls 7 [(0, .ref b), (1, .ref (a 0)), (2, .ref (aM 0)), (3, .ref o), (4, .int (Int32.ofNat i))]) (hP : va_P D vwCl (LwS z a n ρ σX aM σM o g) H) (hD : va_D (fun q => s.heap.size ≤ q) (LwS z a n ρ σX aM σM o g)) (hS : va_S (fun q => s.heap.size ≤ q) s.heap H locs) (hf : (cells + 1) ≤ 601024 ∧ (slots + 6) ≤ 7293034) (hfx : f_X6_stepsAfter [.inr (.inl 0), .inl (xs (i + 1)), .inl (xs (i + 2))] σX = some (none, σX')) (hfm : f_X7_stepsAfter [.inr (.inl 0), .inl (xs (i + 1)), .inl (xs (i + 2))] σM = some (some (some (.inl r)), σM')) (hth : σM' 0 0 = 1)
    (kk : ∀ (H1 : Heap) (locs1 : List Loc) (ls1 : Array Slot), lv_has ls1 7 [(0, .ref b), (1, .ref (a 0)), (2, .ref (aM 0)), (3, .ref o), (4, .int (Int32.ofNat i))] → va_P D vwCl (LwS z a n ρ σX' aM σM' o g) H1 → va_D (fun q => s.heap.size ≤ q) (LwS z a n ρ σX' aM σM' o g) → va_S (fun q => s.heap.size ≤ q) s.heap H1 locs1 → W p l e roomL s m #[Value.ref b] below meth c H1 locs1 (cells + 1) (slots + 6) Q (F0 m 2687 ls1 [])) : W p l e roomL s m #[Value.ref b] below meth c H locs cells slots Q (F0 m 1217 ls []) := by
  obtain ⟨hF, hX, hbl, hL3⟩ := id hL
  obtain ⟨hx, hb, hml, hown, hts, hK, hA, hA0, hSt⟩ := id hF
  refine lv_aload_n hx hb dL_law_1217 rfl (lv_at hl 1 rfl) ?_
  refine ld_arg hL hl hS (k := 1) (by omega) (by decide) (by decide) dL_law_1218 dL_law_1219 dL_law_1221 dL_law_1222 dL_law_1223 ?_
  refine ld_arg hL hl hS (k := 2) (by omega) (by decide) (by decide) dL_law_1224 dL_law_1225 dL_law_1227 dL_law_1228 dL_law_1229 ?_
  refine lv_aload_n hx hb dL_law_1230 rfl (lv_at hl 3 rfl) ?_
  refine lcH (nA := 4) (mc := 1) (ms := 6) (As := [.ref (a 0), .int (xs (i + 1)), .int (xs (i + 2)), .ref o]) (rest := []) hF (fun sz => hht_stepsAfter l hl9 D z ts s.heap.size sz a (ktl z a n ρ) σX σX' o g (xs (i + 1)) (xs (i + 2)) hfx) wh_c_stepsAfter wq_997 wq_998 wq_86 (by decide +kernel) (by decide) hP hD hS hl.1 (Nat.le_of_ble_eq_true rfl) rfl rfl dL_law_1231 hf (fun H locs hP hD hS => ?_)
  refine lv_istore hx hb dL_law_1234 hl (by decide) rfl (fun ls5 hl => ?_)
  have hl : lv_has ls5 7 [(5, .int 1), (0, .ref b), (1, .ref (a 0)), (2, .ref (aM 0)), (3, .ref o), (4, .int (Int32.ofNat i))] := hl
  have hl : lv_has ls5 7 [(0, .ref b), (1, .ref (a 0)), (2, .ref (aM 0)), (3, .ref o), (4, .int (Int32.ofNat i)), (5, .int 1)] := lv_sb9 hl (by intro q hq; simp only [List.mem_cons, List.not_mem_nil, or_false] at hq ⊢; rcases hq with h | h | h | h | h | h <;> simp [h])
  refine lv_aload_n hx hb dL_law_1236 rfl (lv_at hl 2 rfl) ?_
  refine ld_arg hL hl hS (k := 1) (by omega) (by decide) (by decide) dL_law_1237 dL_law_1238 dL_law_1240 dL_law_1241 dL_law_1242 ?_
  refine ld_arg hL hl hS (k := 2) (by omega) (by decide) (by decide) dL_law_1243 dL_law_1244 dL_law_1246 dL_law_1247 dL_law_1248 ?_
  refine lcM (nA := 2) (vs' := [.inl (xs (i + 1)), .inl (xs (i + 2))]) (rest := []) hF (ct_X7_stepsAfter l) wq_1589 wq_1586 wq_1587 wq_1588 wq_95 (by decide +kernel) (by decide) rfl hfm hP hD hS hl.1 (Nat.le_of_ble_eq_true rfl) rfl rfl dL_law_1249 hf (fun H locs hP hD hS => ?_)
  refine lv_istore hx hb dL_law_1252 hl (by decide) rfl (fun ls6 hl => ?_)
  have hl : lv_has ls6 7 [(6, .int r), (0, .ref b), (1, .ref (a 0)), (2, .ref (aM 0)), (3, .ref o), (4, .int (Int32.ofNat i)), (5, .int 1)] := hl
  have hl : lv_has ls6 7 [(0, .ref b), (1, .ref (a 0)), (2, .ref (aM 0)), (3, .ref o), (4, .int (Int32.ofNat i)), (5, .int 1), (6, .int r)] := lv_sb9 hl (by intro q hq; simp only [List.mem_cons, List.not_mem_nil, or_false] at hq ⊢; rcases hq with h | h | h | h | h | h | h <;> simp [h])
  refine lv_aload_n hx hb dL_law_1254 rfl (lv_at hl 2 rfl) ?_
  refine lcM (nA := 0) (vs' := []) (rest := []) (σM' := σM') (r := σM' 0 0) hF (ct_X7_thrown l) wq_1304 wq_1301 wq_1302 wq_1303 wq_95 (by decide +kernel) (by decide) rfl (e_X7_thrown σM') hP hD hS hl.1 (Nat.le_of_ble_eq_true rfl) rfl rfl dL_law_1255 hf (fun H locs hP hD hS => ?_)
  refine lv_iload hx hb dL_law_1258 (lv_at hl 5 rfl) ?_
  refine lv_icmp_eq hx hb dL_law_1260 (tgt := 1265) (by decide) (fun _ => ?_) (fun h9 => absurd hth h9)
  refine lv_iload hx hb dL_law_1265 (lv_at hl 5 rfl) ?_
  refine lv_if_ne hx hb dL_law_1267 (tgt := 1282) (by decide) (fun _ => ?_) (fun h9 => absurd h9 (by decide))
  refine lv_goto hx hb dL_law_1282 (tgt := 2687) (by decide) ?_
  exact kk H locs ls6 (lv_sb9 hl (by intro q hq; simp only [List.mem_cons, List.not_mem_nil, or_false] at hq ⊢; rcases hq with h | h | h | h | h <;> simp [h])) hP hD hS
theorem lt_22 (hl9 : l.stackTraces = false) (hL : Lc p s m c D z ts b L xs) (hi : i + 6 ≤ L) (hl : lv_has ls 7 [(0, .ref b), (1, .ref (a 0)), (2, .ref (aM 0)), (3, .ref o), (4, .int (Int32.ofNat i))]) (hP : va_P D vwCl (LwS z a n ρ σX aM σM o g) H) (hD : va_D (fun q => s.heap.size ≤ q) (LwS z a n ρ σX aM σM o g)) (hS : va_S (fun q => s.heap.size ≤ q) s.heap H locs) (hf : cells ≤ 601024 ∧ slots ≤ 7293034) (hfx : f_X6_coldStops [.inr (.inl 0), .inl (xs (i + 1))] σX = some (some (some (.inl r)), σX')) (hfm : f_X7_coldStops [.inr (.inl 0), .inl (xs (i + 1))] σM = some (some (some (.inl r)), σM')) (hth : σM' 0 0 = 0)
    (kk : ∀ (H1 : Heap) (locs1 : List Loc) (ls1 : Array Slot), lv_has ls1 7 [(0, .ref b), (1, .ref (a 0)), (2, .ref (aM 0)), (3, .ref o), (4, .int (Int32.ofNat i))] → va_P D vwCl (LwS z a n ρ σX' aM σM' o (vp_updL g 0 r.toInt64)) H1 → va_D (fun q => s.heap.size ≤ q) (LwS z a n ρ σX' aM σM' o (vp_updL g 0 r.toInt64)) → va_S (fun q => s.heap.size ≤ q) s.heap H1 locs1 → W p l e roomL s m #[Value.ref b] below meth c H1 locs1 cells slots Q (F0 m 2687 ls1 [])) : W p l e roomL s m #[Value.ref b] below meth c H locs cells slots Q (F0 m 1285 ls []) := by
  obtain ⟨hF, hX, hbl, hL3⟩ := id hL
  obtain ⟨hx, hb, hml, hown, hts, hK, hA, hA0, hSt⟩ := id hF
  refine lv_aload_n hx hb dL_law_1285 rfl (lv_at hl 1 rfl) ?_
  refine ld_arg hL hl hS (k := 1) (by omega) (by decide) (by decide) dL_law_1286 dL_law_1287 dL_law_1289 dL_law_1290 dL_law_1291 ?_
  refine lv_aload_n hx hb dL_law_1292 rfl (lv_at hl 3 rfl) ?_
  refine lcH (nA := 3) (mc := 0) (ms := 0) (As := [.ref (a 0), .int (xs (i + 1)), .ref o]) (rest := []) hF (fun sz => hhr_coldStops l hl9 D z ts s.heap.size sz a (ktl z a n ρ) σX σX' o g (xs (i + 1)) r hfx) wh_c_coldStops wq_1005 wq_1006 wq_86 (by decide +kernel) (by decide) hP hD hS hl.1 (Nat.le_of_ble_eq_true rfl) rfl rfl dL_law_1293 hf (fun H locs hP hD hS => ?_)
  refine lv_istore hx hb dL_law_1296 hl (by decide) rfl (fun ls5 hl => ?_)
  have hl : lv_has ls5 7 [(5, .int 0), (0, .ref b), (1, .ref (a 0)), (2, .ref (aM 0)), (3, .ref o), (4, .int (Int32.ofNat i))] := hl
  have hl : lv_has ls5 7 [(0, .ref b), (1, .ref (a 0)), (2, .ref (aM 0)), (3, .ref o), (4, .int (Int32.ofNat i)), (5, .int 0)] := lv_sb9 hl (by intro q hq; simp only [List.mem_cons, List.not_mem_nil, or_false] at hq ⊢; rcases hq with h | h | h | h | h | h <;> simp [h])
  refine lv_aload_n hx hb dL_law_1298 rfl (lv_at hl 2 rfl) ?_
  refine ld_arg hL hl hS (k := 1) (by omega) (by decide) (by decide) dL_law_1299 dL_law_1300 dL_law_1302 dL_law_1303 dL_law_1304 ?_
  refine lcM (nA := 1) (vs' := [.inl (xs (i + 1))]) (rest := []) hF (ct_X7_coldStops l) wq_1593 wq_1590 wq_1591 wq_1592 wq_95 (by decide +kernel) (by decide) rfl hfm hP hD hS hl.1 (Nat.le_of_ble_eq_true rfl) rfl rfl dL_law_1305 hf (fun H locs hP hD hS => ?_)
  refine lv_istore hx hb dL_law_1308 hl (by decide) rfl (fun ls6 hl => ?_)
  have hl : lv_has ls6 7 [(6, .int r), (0, .ref b), (1, .ref (a 0)), (2, .ref (aM 0)), (3, .ref o), (4, .int (Int32.ofNat i)), (5, .int 0)] := hl
  have hl : lv_has ls6 7 [(0, .ref b), (1, .ref (a 0)), (2, .ref (aM 0)), (3, .ref o), (4, .int (Int32.ofNat i)), (5, .int 0), (6, .int r)] := lv_sb9 hl (by intro q hq; simp only [List.mem_cons, List.not_mem_nil, or_false] at hq ⊢; rcases hq with h | h | h | h | h | h | h <;> simp [h])
  refine lv_aload_n hx hb dL_law_1310 rfl (lv_at hl 2 rfl) ?_
  refine lcM (nA := 0) (vs' := []) (rest := []) (σM' := σM') (r := σM' 0 0) hF (ct_X7_thrown l) wq_1304 wq_1301 wq_1302 wq_1303 wq_95 (by decide +kernel) (by decide) rfl (e_X7_thrown σM') hP hD hS hl.1 (Nat.le_of_ble_eq_true rfl) rfl rfl dL_law_1311 hf (fun H locs hP hD hS => ?_)
  refine lv_iload hx hb dL_law_1314 (lv_at hl 5 rfl) ?_
  refine lv_icmp_eq hx hb dL_law_1316 (tgt := 1321) (by decide) (fun _ => ?_) (fun h9 => absurd hth h9)
  refine lv_iload hx hb dL_law_1321 (lv_at hl 5 rfl) ?_
  refine lv_if_ne hx hb dL_law_1323 (tgt := 1338) (by decide) (fun h9 => absurd rfl h9) (fun _ => ?_)
  refine lv_aload_n hx hb dL_law_1326 rfl (lv_at hl 3 rfl) ?_
  refine lv_iconst (v := 0) hx hb dL_law_1327 (by decide) ?_
  refine va_lald hx hb hK hP 22 3 lw22 rfl (inb_vp rfl) dL_law_1328 ?_
  refine lv_iload hx hb dL_law_1329 (lv_at hl 6 rfl) ?_
  refine lv_i2l hx hb dL_law_1331 rfl ?_
  refine W.lcmp hx hb dL_law_1332 ?_
  rw [lcmp_same]
  refine lv_if_eq hx hb dL_law_1333 (tgt := 1338) (by decide) (fun _ => ?_) (fun h9 => absurd rfl h9)
  refine lv_goto hx hb dL_law_1338 (tgt := 2687) (by decide) ?_
  exact kk H locs ls6 (lv_sb9 hl (by intro q hq; simp only [List.mem_cons, List.not_mem_nil, or_false] at hq ⊢; rcases hq with h | h | h | h | h <;> simp [h])) hP hD hS
theorem lu_22 (hl9 : l.stackTraces = false) (hL : Lc p s m c D z ts b L xs) (hi : i + 6 ≤ L) (hl : lv_has ls 7 [(0, .ref b), (1, .ref (a 0)), (2, .ref (aM 0)), (3, .ref o), (4, .int (Int32.ofNat i))]) (hP : va_P D vwCl (LwS z a n ρ σX aM σM o g) H) (hD : va_D (fun q => s.heap.size ≤ q) (LwS z a n ρ σX aM σM o g)) (hS : va_S (fun q => s.heap.size ≤ q) s.heap H locs) (hf : (cells + 1) ≤ 601024 ∧ (slots + 6) ≤ 7293034) (hfx : f_X6_coldStops [.inr (.inl 0), .inl (xs (i + 1))] σX = some (none, σX')) (hfm : f_X7_coldStops [.inr (.inl 0), .inl (xs (i + 1))] σM = some (some (some (.inl r)), σM')) (hth : σM' 0 0 = 1)
    (kk : ∀ (H1 : Heap) (locs1 : List Loc) (ls1 : Array Slot), lv_has ls1 7 [(0, .ref b), (1, .ref (a 0)), (2, .ref (aM 0)), (3, .ref o), (4, .int (Int32.ofNat i))] → va_P D vwCl (LwS z a n ρ σX' aM σM' o g) H1 → va_D (fun q => s.heap.size ≤ q) (LwS z a n ρ σX' aM σM' o g) → va_S (fun q => s.heap.size ≤ q) s.heap H1 locs1 → W p l e roomL s m #[Value.ref b] below meth c H1 locs1 (cells + 1) (slots + 6) Q (F0 m 2687 ls1 [])) : W p l e roomL s m #[Value.ref b] below meth c H locs cells slots Q (F0 m 1285 ls []) := by
  obtain ⟨hF, hX, hbl, hL3⟩ := id hL
  obtain ⟨hx, hb, hml, hown, hts, hK, hA, hA0, hSt⟩ := id hF
  refine lv_aload_n hx hb dL_law_1285 rfl (lv_at hl 1 rfl) ?_
  refine ld_arg hL hl hS (k := 1) (by omega) (by decide) (by decide) dL_law_1286 dL_law_1287 dL_law_1289 dL_law_1290 dL_law_1291 ?_
  refine lv_aload_n hx hb dL_law_1292 rfl (lv_at hl 3 rfl) ?_
  refine lcH (nA := 3) (mc := 1) (ms := 6) (As := [.ref (a 0), .int (xs (i + 1)), .ref o]) (rest := []) hF (fun sz => hht_coldStops l hl9 D z ts s.heap.size sz a (ktl z a n ρ) σX σX' o g (xs (i + 1)) hfx) wh_c_coldStops wq_1005 wq_1006 wq_86 (by decide +kernel) (by decide) hP hD hS hl.1 (Nat.le_of_ble_eq_true rfl) rfl rfl dL_law_1293 hf (fun H locs hP hD hS => ?_)
  refine lv_istore hx hb dL_law_1296 hl (by decide) rfl (fun ls5 hl => ?_)
  have hl : lv_has ls5 7 [(5, .int 1), (0, .ref b), (1, .ref (a 0)), (2, .ref (aM 0)), (3, .ref o), (4, .int (Int32.ofNat i))] := hl
  have hl : lv_has ls5 7 [(0, .ref b), (1, .ref (a 0)), (2, .ref (aM 0)), (3, .ref o), (4, .int (Int32.ofNat i)), (5, .int 1)] := lv_sb9 hl (by intro q hq; simp only [List.mem_cons, List.not_mem_nil, or_false] at hq ⊢; rcases hq with h | h | h | h | h | h <;> simp [h])
  refine lv_aload_n hx hb dL_law_1298 rfl (lv_at hl 2 rfl) ?_
  refine ld_arg hL hl hS (k := 1) (by omega) (by decide) (by decide) dL_law_1299 dL_law_1300 dL_law_1302 dL_law_1303 dL_law_1304 ?_
  refine lcM (nA := 1) (vs' := [.inl (xs (i + 1))]) (rest := []) hF (ct_X7_coldStops l) wq_1593 wq_1590 wq_1591 wq_1592 wq_95 (by decide +kernel) (by decide) rfl hfm hP hD hS hl.1 (Nat.le_of_ble_eq_true rfl) rfl rfl dL_law_1305 hf (fun H locs hP hD hS => ?_)
  refine lv_istore hx hb dL_law_1308 hl (by decide) rfl (fun ls6 hl => ?_)
  have hl : lv_has ls6 7 [(6, .int r), (0, .ref b), (1, .ref (a 0)), (2, .ref (aM 0)), (3, .ref o), (4, .int (Int32.ofNat i)), (5, .int 1)] := hl
  have hl : lv_has ls6 7 [(0, .ref b), (1, .ref (a 0)), (2, .ref (aM 0)), (3, .ref o), (4, .int (Int32.ofNat i)), (5, .int 1), (6, .int r)] := lv_sb9 hl (by intro q hq; simp only [List.mem_cons, List.not_mem_nil, or_false] at hq ⊢; rcases hq with h | h | h | h | h | h | h <;> simp [h])
  refine lv_aload_n hx hb dL_law_1310 rfl (lv_at hl 2 rfl) ?_
  refine lcM (nA := 0) (vs' := []) (rest := []) (σM' := σM') (r := σM' 0 0) hF (ct_X7_thrown l) wq_1304 wq_1301 wq_1302 wq_1303 wq_95 (by decide +kernel) (by decide) rfl (e_X7_thrown σM') hP hD hS hl.1 (Nat.le_of_ble_eq_true rfl) rfl rfl dL_law_1311 hf (fun H locs hP hD hS => ?_)
  refine lv_iload hx hb dL_law_1314 (lv_at hl 5 rfl) ?_
  refine lv_icmp_eq hx hb dL_law_1316 (tgt := 1321) (by decide) (fun _ => ?_) (fun h9 => absurd hth h9)
  refine lv_iload hx hb dL_law_1321 (lv_at hl 5 rfl) ?_
  refine lv_if_ne hx hb dL_law_1323 (tgt := 1338) (by decide) (fun _ => ?_) (fun h9 => absurd h9 (by decide))
  refine lv_goto hx hb dL_law_1338 (tgt := 2687) (by decide) ?_
  exact kk H locs ls6 (lv_sb9 hl (by intro q hq; simp only [List.mem_cons, List.not_mem_nil, or_false] at hq ⊢; rcases hq with h | h | h | h | h <;> simp [h])) hP hD hS
theorem lt_23 (hl9 : l.stackTraces = false) (hL : Lc p s m c D z ts b L xs) (hi : i + 6 ≤ L) (hl : lv_has ls 7 [(0, .ref b), (1, .ref (a 0)), (2, .ref (aM 0)), (3, .ref o), (4, .int (Int32.ofNat i))]) (hP : va_P D vwCl (LwS z a n ρ σX aM σM o g) H) (hD : va_D (fun q => s.heap.size ≤ q) (LwS z a n ρ σX aM σM o g)) (hS : va_S (fun q => s.heap.size ≤ q) s.heap H locs) (hf : cells ≤ 601024 ∧ slots ≤ 7293034) (hfx : f_X6_heats [.inr (.inl 0), .inl (xs (i + 1))] σX = some (some (some (.inl r)), σX')) (hfm : f_X7_heats [.inr (.inl 0), .inl (xs (i + 1))] σM = some (some (some (.inl r)), σM')) (hth : σM' 0 0 = 0)
    (kk : ∀ (H1 : Heap) (locs1 : List Loc) (ls1 : Array Slot), lv_has ls1 7 [(0, .ref b), (1, .ref (a 0)), (2, .ref (aM 0)), (3, .ref o), (4, .int (Int32.ofNat i))] → va_P D vwCl (LwS z a n ρ σX' aM σM' o (vp_updL g 0 r.toInt64)) H1 → va_D (fun q => s.heap.size ≤ q) (LwS z a n ρ σX' aM σM' o (vp_updL g 0 r.toInt64)) → va_S (fun q => s.heap.size ≤ q) s.heap H1 locs1 → W p l e roomL s m #[Value.ref b] below meth c H1 locs1 cells slots Q (F0 m 2687 ls1 [])) : W p l e roomL s m #[Value.ref b] below meth c H locs cells slots Q (F0 m 1341 ls []) := by
  obtain ⟨hF, hX, hbl, hL3⟩ := id hL
  obtain ⟨hx, hb, hml, hown, hts, hK, hA, hA0, hSt⟩ := id hF
  refine lv_aload_n hx hb dL_law_1341 rfl (lv_at hl 1 rfl) ?_
  refine ld_arg hL hl hS (k := 1) (by omega) (by decide) (by decide) dL_law_1342 dL_law_1343 dL_law_1345 dL_law_1346 dL_law_1347 ?_
  refine lv_aload_n hx hb dL_law_1348 rfl (lv_at hl 3 rfl) ?_
  refine lcH (nA := 3) (mc := 0) (ms := 0) (As := [.ref (a 0), .int (xs (i + 1)), .ref o]) (rest := []) hF (fun sz => hhr_heats l hl9 D z ts s.heap.size sz a (ktl z a n ρ) σX σX' o g (xs (i + 1)) r hfx) wh_c_heats wq_1012 wq_1013 wq_86 (by decide +kernel) (by decide) hP hD hS hl.1 (Nat.le_of_ble_eq_true rfl) rfl rfl dL_law_1349 hf (fun H locs hP hD hS => ?_)
  refine lv_istore hx hb dL_law_1352 hl (by decide) rfl (fun ls5 hl => ?_)
  have hl : lv_has ls5 7 [(5, .int 0), (0, .ref b), (1, .ref (a 0)), (2, .ref (aM 0)), (3, .ref o), (4, .int (Int32.ofNat i))] := hl
  have hl : lv_has ls5 7 [(0, .ref b), (1, .ref (a 0)), (2, .ref (aM 0)), (3, .ref o), (4, .int (Int32.ofNat i)), (5, .int 0)] := lv_sb9 hl (by intro q hq; simp only [List.mem_cons, List.not_mem_nil, or_false] at hq ⊢; rcases hq with h | h | h | h | h | h <;> simp [h])
  refine lv_aload_n hx hb dL_law_1354 rfl (lv_at hl 2 rfl) ?_
  refine ld_arg hL hl hS (k := 1) (by omega) (by decide) (by decide) dL_law_1355 dL_law_1356 dL_law_1358 dL_law_1359 dL_law_1360 ?_
  refine lcM (nA := 1) (vs' := [.inl (xs (i + 1))]) (rest := []) hF (ct_X7_heats l) wq_1597 wq_1594 wq_1595 wq_1596 wq_95 (by decide +kernel) (by decide) rfl hfm hP hD hS hl.1 (Nat.le_of_ble_eq_true rfl) rfl rfl dL_law_1361 hf (fun H locs hP hD hS => ?_)
  refine lv_istore hx hb dL_law_1364 hl (by decide) rfl (fun ls6 hl => ?_)
  have hl : lv_has ls6 7 [(6, .int r), (0, .ref b), (1, .ref (a 0)), (2, .ref (aM 0)), (3, .ref o), (4, .int (Int32.ofNat i)), (5, .int 0)] := hl
  have hl : lv_has ls6 7 [(0, .ref b), (1, .ref (a 0)), (2, .ref (aM 0)), (3, .ref o), (4, .int (Int32.ofNat i)), (5, .int 0), (6, .int r)] := lv_sb9 hl (by intro q hq; simp only [List.mem_cons, List.not_mem_nil, or_false] at hq ⊢; rcases hq with h | h | h | h | h | h | h <;> simp [h])
  refine lv_aload_n hx hb dL_law_1366 rfl (lv_at hl 2 rfl) ?_
  refine lcM (nA := 0) (vs' := []) (rest := []) (σM' := σM') (r := σM' 0 0) hF (ct_X7_thrown l) wq_1304 wq_1301 wq_1302 wq_1303 wq_95 (by decide +kernel) (by decide) rfl (e_X7_thrown σM') hP hD hS hl.1 (Nat.le_of_ble_eq_true rfl) rfl rfl dL_law_1367 hf (fun H locs hP hD hS => ?_)
  refine lv_iload hx hb dL_law_1370 (lv_at hl 5 rfl) ?_
  refine lv_icmp_eq hx hb dL_law_1372 (tgt := 1377) (by decide) (fun _ => ?_) (fun h9 => absurd hth h9)
  refine lv_iload hx hb dL_law_1377 (lv_at hl 5 rfl) ?_
  refine lv_if_ne hx hb dL_law_1379 (tgt := 1394) (by decide) (fun h9 => absurd rfl h9) (fun _ => ?_)
  refine lv_aload_n hx hb dL_law_1382 rfl (lv_at hl 3 rfl) ?_
  refine lv_iconst (v := 0) hx hb dL_law_1383 (by decide) ?_
  refine va_lald hx hb hK hP 22 3 lw22 rfl (inb_vp rfl) dL_law_1384 ?_
  refine lv_iload hx hb dL_law_1385 (lv_at hl 6 rfl) ?_
  refine lv_i2l hx hb dL_law_1387 rfl ?_
  refine W.lcmp hx hb dL_law_1388 ?_
  rw [lcmp_same]
  refine lv_if_eq hx hb dL_law_1389 (tgt := 1394) (by decide) (fun _ => ?_) (fun h9 => absurd rfl h9)
  refine lv_goto hx hb dL_law_1394 (tgt := 2687) (by decide) ?_
  exact kk H locs ls6 (lv_sb9 hl (by intro q hq; simp only [List.mem_cons, List.not_mem_nil, or_false] at hq ⊢; rcases hq with h | h | h | h | h <;> simp [h])) hP hD hS
theorem lu_23 (hl9 : l.stackTraces = false) (hL : Lc p s m c D z ts b L xs) (hi : i + 6 ≤ L) (hl : lv_has ls 7 [(0, .ref b), (1, .ref (a 0)), (2, .ref (aM 0)), (3, .ref o), (4, .int (Int32.ofNat i))]) (hP : va_P D vwCl (LwS z a n ρ σX aM σM o g) H) (hD : va_D (fun q => s.heap.size ≤ q) (LwS z a n ρ σX aM σM o g)) (hS : va_S (fun q => s.heap.size ≤ q) s.heap H locs) (hf : (cells + 1) ≤ 601024 ∧ (slots + 6) ≤ 7293034) (hfx : f_X6_heats [.inr (.inl 0), .inl (xs (i + 1))] σX = some (none, σX')) (hfm : f_X7_heats [.inr (.inl 0), .inl (xs (i + 1))] σM = some (some (some (.inl r)), σM')) (hth : σM' 0 0 = 1)
    (kk : ∀ (H1 : Heap) (locs1 : List Loc) (ls1 : Array Slot), lv_has ls1 7 [(0, .ref b), (1, .ref (a 0)), (2, .ref (aM 0)), (3, .ref o), (4, .int (Int32.ofNat i))] → va_P D vwCl (LwS z a n ρ σX' aM σM' o g) H1 → va_D (fun q => s.heap.size ≤ q) (LwS z a n ρ σX' aM σM' o g) → va_S (fun q => s.heap.size ≤ q) s.heap H1 locs1 → W p l e roomL s m #[Value.ref b] below meth c H1 locs1 (cells + 1) (slots + 6) Q (F0 m 2687 ls1 [])) : W p l e roomL s m #[Value.ref b] below meth c H locs cells slots Q (F0 m 1341 ls []) := by
  obtain ⟨hF, hX, hbl, hL3⟩ := id hL
  obtain ⟨hx, hb, hml, hown, hts, hK, hA, hA0, hSt⟩ := id hF
  refine lv_aload_n hx hb dL_law_1341 rfl (lv_at hl 1 rfl) ?_
  refine ld_arg hL hl hS (k := 1) (by omega) (by decide) (by decide) dL_law_1342 dL_law_1343 dL_law_1345 dL_law_1346 dL_law_1347 ?_
  refine lv_aload_n hx hb dL_law_1348 rfl (lv_at hl 3 rfl) ?_
  refine lcH (nA := 3) (mc := 1) (ms := 6) (As := [.ref (a 0), .int (xs (i + 1)), .ref o]) (rest := []) hF (fun sz => hht_heats l hl9 D z ts s.heap.size sz a (ktl z a n ρ) σX σX' o g (xs (i + 1)) hfx) wh_c_heats wq_1012 wq_1013 wq_86 (by decide +kernel) (by decide) hP hD hS hl.1 (Nat.le_of_ble_eq_true rfl) rfl rfl dL_law_1349 hf (fun H locs hP hD hS => ?_)
  refine lv_istore hx hb dL_law_1352 hl (by decide) rfl (fun ls5 hl => ?_)
  have hl : lv_has ls5 7 [(5, .int 1), (0, .ref b), (1, .ref (a 0)), (2, .ref (aM 0)), (3, .ref o), (4, .int (Int32.ofNat i))] := hl
  have hl : lv_has ls5 7 [(0, .ref b), (1, .ref (a 0)), (2, .ref (aM 0)), (3, .ref o), (4, .int (Int32.ofNat i)), (5, .int 1)] := lv_sb9 hl (by intro q hq; simp only [List.mem_cons, List.not_mem_nil, or_false] at hq ⊢; rcases hq with h | h | h | h | h | h <;> simp [h])
  refine lv_aload_n hx hb dL_law_1354 rfl (lv_at hl 2 rfl) ?_
  refine ld_arg hL hl hS (k := 1) (by omega) (by decide) (by decide) dL_law_1355 dL_law_1356 dL_law_1358 dL_law_1359 dL_law_1360 ?_
  refine lcM (nA := 1) (vs' := [.inl (xs (i + 1))]) (rest := []) hF (ct_X7_heats l) wq_1597 wq_1594 wq_1595 wq_1596 wq_95 (by decide +kernel) (by decide) rfl hfm hP hD hS hl.1 (Nat.le_of_ble_eq_true rfl) rfl rfl dL_law_1361 hf (fun H locs hP hD hS => ?_)
  refine lv_istore hx hb dL_law_1364 hl (by decide) rfl (fun ls6 hl => ?_)
  have hl : lv_has ls6 7 [(6, .int r), (0, .ref b), (1, .ref (a 0)), (2, .ref (aM 0)), (3, .ref o), (4, .int (Int32.ofNat i)), (5, .int 1)] := hl
  have hl : lv_has ls6 7 [(0, .ref b), (1, .ref (a 0)), (2, .ref (aM 0)), (3, .ref o), (4, .int (Int32.ofNat i)), (5, .int 1), (6, .int r)] := lv_sb9 hl (by intro q hq; simp only [List.mem_cons, List.not_mem_nil, or_false] at hq ⊢; rcases hq with h | h | h | h | h | h | h <;> simp [h])
  refine lv_aload_n hx hb dL_law_1366 rfl (lv_at hl 2 rfl) ?_
  refine lcM (nA := 0) (vs' := []) (rest := []) (σM' := σM') (r := σM' 0 0) hF (ct_X7_thrown l) wq_1304 wq_1301 wq_1302 wq_1303 wq_95 (by decide +kernel) (by decide) rfl (e_X7_thrown σM') hP hD hS hl.1 (Nat.le_of_ble_eq_true rfl) rfl rfl dL_law_1367 hf (fun H locs hP hD hS => ?_)
  refine lv_iload hx hb dL_law_1370 (lv_at hl 5 rfl) ?_
  refine lv_icmp_eq hx hb dL_law_1372 (tgt := 1377) (by decide) (fun _ => ?_) (fun h9 => absurd hth h9)
  refine lv_iload hx hb dL_law_1377 (lv_at hl 5 rfl) ?_
  refine lv_if_ne hx hb dL_law_1379 (tgt := 1394) (by decide) (fun _ => ?_) (fun h9 => absurd h9 (by decide))
  refine lv_goto hx hb dL_law_1394 (tgt := 2687) (by decide) ?_
  exact kk H locs ls6 (lv_sb9 hl (by intro q hq; simp only [List.mem_cons, List.not_mem_nil, or_false] at hq ⊢; rcases hq with h | h | h | h | h <;> simp [h])) hP hD hS
end CASES
