section CASES
variable {p : Program} {l : Launch} {e : Env} {s : State} {m : MethodId} {below : List Frame} {meth : Method} {c : Code} {D : va_G} {z : Nat → ClassId} {ts : Nat → Nat} {b L : Nat} {xs : Nat → Int32} {a aM : Nat → Nat} {n n' : Nat} {ρ ρ' : Nat → Mm} {σX σX' σM σM' : Mm} {o : Nat} {g : Nat → Int64} {H : Heap} {locs : List Loc} {ls : Array Slot} {Q : State → Prop} {cells slots mc ms i : Nat} {r : Int32}
theorem lt_24 (hl9 : l.stackTraces = false) (hL : Lc p s m c D z ts b L xs) (hi : i + 6 ≤ L) (hl : lv_has ls 7 [(0, .ref b), (1, .ref (a 0)), (2, .ref (aM 0)), (3, .ref o), (4, .int (Int32.ofNat i))]) (hP : va_P D vwCl (LwS z a n ρ σX aM σM o g) H) (hD : va_D (fun q => s.heap.size ≤ q) (LwS z a n ρ σX aM σM o g)) (hS : va_S (fun q => s.heap.size ≤ q) s.heap H locs) (hf : cells ≤ 601024 ∧ slots ≤ 7293034) (hfx : f_X6_fireMinutes [.inr (.inl 0), .inl (xs (i + 1))] σX = some (some (some (.inl r)), σX')) (hfm : f_X7_fireMinutes [.inr (.inl 0), .inl (xs (i + 1))] σM = some (some (some (.inl r)), σM')) (hth : σM' 0 0 = 0)
    (kk : ∀ (H1 : Heap) (locs1 : List Loc) (ls1 : Array Slot), lv_has ls1 7 [(0, .ref b), (1, .ref (a 0)), (2, .ref (aM 0)), (3, .ref o), (4, .int (Int32.ofNat i))] → va_P D vwCl (LwS z a n ρ σX' aM σM' o (vp_updL g 0 r.toInt64)) H1 → va_D (fun q => s.heap.size ≤ q) (LwS z a n ρ σX' aM σM' o (vp_updL g 0 r.toInt64)) → va_S (fun q => s.heap.size ≤ q) s.heap H1 locs1 → W p l e roomL s m #[Value.ref b] below meth c H1 locs1 cells slots Q (F0 m 2687 ls1 [])) : W p l e roomL s m #[Value.ref b] below meth c H locs cells slots Q (F0 m 1397 ls []) := by
  obtain ⟨hF, hX, hbl, hL3⟩ := id hL
  obtain ⟨hx, hb, hml, hown, hts, hK, hA, hA0, hSt⟩ := id hF
  refine lv_aload_n hx hb dL_law_1397 rfl (lv_at hl 1 rfl) ?_
  refine ld_arg hL hl hS (k := 1) (by omega) (by decide) (by decide) dL_law_1398 dL_law_1399 dL_law_1401 dL_law_1402 dL_law_1403 ?_
  refine lv_aload_n hx hb dL_law_1404 rfl (lv_at hl 3 rfl) ?_
  refine lcH (nA := 3) (mc := 0) (ms := 0) (As := [.ref (a 0), .int (xs (i + 1)), .ref o]) (rest := []) hF (fun sz => hhr_fireMinutes l hl9 D z ts s.heap.size sz a (ktl z a n ρ) σX σX' o g (xs (i + 1)) r hfx) wh_c_fireMinutes wq_1019 wq_1020 wq_86 (by decide +kernel) (by decide) hP hD hS hl.1 (Nat.le_of_ble_eq_true rfl) rfl rfl dL_law_1405 hf (fun H locs hP hD hS => ?_)
  refine lv_istore hx hb dL_law_1408 hl (by decide) rfl (fun ls5 hl => ?_)
  have hl : lv_has ls5 7 [(5, .int 0), (0, .ref b), (1, .ref (a 0)), (2, .ref (aM 0)), (3, .ref o), (4, .int (Int32.ofNat i))] := hl
  have hl : lv_has ls5 7 [(0, .ref b), (1, .ref (a 0)), (2, .ref (aM 0)), (3, .ref o), (4, .int (Int32.ofNat i)), (5, .int 0)] := lv_sb9 hl (by intro q hq; simp only [List.mem_cons, List.not_mem_nil, or_false] at hq ⊢; rcases hq with h | h | h | h | h | h <;> simp [h])
  refine lv_aload_n hx hb dL_law_1410 rfl (lv_at hl 2 rfl) ?_
  refine ld_arg hL hl hS (k := 1) (by omega) (by decide) (by decide) dL_law_1411 dL_law_1412 dL_law_1414 dL_law_1415 dL_law_1416 ?_
  refine lcM (nA := 1) (vs' := [.inl (xs (i + 1))]) (rest := []) hF (ct_X7_fireMinutes l) wq_1601 wq_1598 wq_1599 wq_1600 wq_95 (by decide +kernel) (by decide) rfl hfm hP hD hS hl.1 (Nat.le_of_ble_eq_true rfl) rfl rfl dL_law_1417 hf (fun H locs hP hD hS => ?_)
  refine lv_istore hx hb dL_law_1420 hl (by decide) rfl (fun ls6 hl => ?_)
  have hl : lv_has ls6 7 [(6, .int r), (0, .ref b), (1, .ref (a 0)), (2, .ref (aM 0)), (3, .ref o), (4, .int (Int32.ofNat i)), (5, .int 0)] := hl
  have hl : lv_has ls6 7 [(0, .ref b), (1, .ref (a 0)), (2, .ref (aM 0)), (3, .ref o), (4, .int (Int32.ofNat i)), (5, .int 0), (6, .int r)] := lv_sb9 hl (by intro q hq; simp only [List.mem_cons, List.not_mem_nil, or_false] at hq ⊢; rcases hq with h | h | h | h | h | h | h <;> simp [h])
  refine lv_aload_n hx hb dL_law_1422 rfl (lv_at hl 2 rfl) ?_
  refine lcM (nA := 0) (vs' := []) (rest := []) (σM' := σM') (r := σM' 0 0) hF (ct_X7_thrown l) wq_1304 wq_1301 wq_1302 wq_1303 wq_95 (by decide +kernel) (by decide) rfl (e_X7_thrown σM') hP hD hS hl.1 (Nat.le_of_ble_eq_true rfl) rfl rfl dL_law_1423 hf (fun H locs hP hD hS => ?_)
  refine lv_iload hx hb dL_law_1426 (lv_at hl 5 rfl) ?_
  refine lv_icmp_eq hx hb dL_law_1428 (tgt := 1433) (by decide) (fun _ => ?_) (fun h9 => absurd hth h9)
  refine lv_iload hx hb dL_law_1433 (lv_at hl 5 rfl) ?_
  refine lv_if_ne hx hb dL_law_1435 (tgt := 1450) (by decide) (fun h9 => absurd rfl h9) (fun _ => ?_)
  refine lv_aload_n hx hb dL_law_1438 rfl (lv_at hl 3 rfl) ?_
  refine lv_iconst (v := 0) hx hb dL_law_1439 (by decide) ?_
  refine va_lald hx hb hK hP 22 3 lw22 rfl (inb_vp rfl) dL_law_1440 ?_
  refine lv_iload hx hb dL_law_1441 (lv_at hl 6 rfl) ?_
  refine lv_i2l hx hb dL_law_1443 rfl ?_
  refine W.lcmp hx hb dL_law_1444 ?_
  rw [lcmp_same]
  refine lv_if_eq hx hb dL_law_1445 (tgt := 1450) (by decide) (fun _ => ?_) (fun h9 => absurd rfl h9)
  refine lv_goto hx hb dL_law_1450 (tgt := 2687) (by decide) ?_
  exact kk H locs ls6 (lv_sb9 hl (by intro q hq; simp only [List.mem_cons, List.not_mem_nil, or_false] at hq ⊢; rcases hq with h | h | h | h | h <;> simp [h])) hP hD hS
theorem lu_24 (hl9 : l.stackTraces = false) (hL : Lc p s m c D z ts b L xs) (hi : i + 6 ≤ L) (hl : lv_has ls 7 [(0, .ref b), (1, .ref (a 0)), (2, .ref (aM 0)), (3, .ref o), (4, .int (Int32.ofNat i))]) (hP : va_P D vwCl (LwS z a n ρ σX aM σM o g) H) (hD : va_D (fun q => s.heap.size ≤ q) (LwS z a n ρ σX aM σM o g)) (hS : va_S (fun q => s.heap.size ≤ q) s.heap H locs) (hf : (cells + 1) ≤ 601024 ∧ (slots + 6) ≤ 7293034) (hfx : f_X6_fireMinutes [.inr (.inl 0), .inl (xs (i + 1))] σX = some (none, σX')) (hfm : f_X7_fireMinutes [.inr (.inl 0), .inl (xs (i + 1))] σM = some (some (some (.inl r)), σM')) (hth : σM' 0 0 = 1)
    (kk : ∀ (H1 : Heap) (locs1 : List Loc) (ls1 : Array Slot), lv_has ls1 7 [(0, .ref b), (1, .ref (a 0)), (2, .ref (aM 0)), (3, .ref o), (4, .int (Int32.ofNat i))] → va_P D vwCl (LwS z a n ρ σX' aM σM' o g) H1 → va_D (fun q => s.heap.size ≤ q) (LwS z a n ρ σX' aM σM' o g) → va_S (fun q => s.heap.size ≤ q) s.heap H1 locs1 → W p l e roomL s m #[Value.ref b] below meth c H1 locs1 (cells + 1) (slots + 6) Q (F0 m 2687 ls1 [])) : W p l e roomL s m #[Value.ref b] below meth c H locs cells slots Q (F0 m 1397 ls []) := by
  obtain ⟨hF, hX, hbl, hL3⟩ := id hL
  obtain ⟨hx, hb, hml, hown, hts, hK, hA, hA0, hSt⟩ := id hF
  refine lv_aload_n hx hb dL_law_1397 rfl (lv_at hl 1 rfl) ?_
  refine ld_arg hL hl hS (k := 1) (by omega) (by decide) (by decide) dL_law_1398 dL_law_1399 dL_law_1401 dL_law_1402 dL_law_1403 ?_
  refine lv_aload_n hx hb dL_law_1404 rfl (lv_at hl 3 rfl) ?_
  refine lcH (nA := 3) (mc := 1) (ms := 6) (As := [.ref (a 0), .int (xs (i + 1)), .ref o]) (rest := []) hF (fun sz => hht_fireMinutes l hl9 D z ts s.heap.size sz a (ktl z a n ρ) σX σX' o g (xs (i + 1)) hfx) wh_c_fireMinutes wq_1019 wq_1020 wq_86 (by decide +kernel) (by decide) hP hD hS hl.1 (Nat.le_of_ble_eq_true rfl) rfl rfl dL_law_1405 hf (fun H locs hP hD hS => ?_)
  refine lv_istore hx hb dL_law_1408 hl (by decide) rfl (fun ls5 hl => ?_)
  have hl : lv_has ls5 7 [(5, .int 1), (0, .ref b), (1, .ref (a 0)), (2, .ref (aM 0)), (3, .ref o), (4, .int (Int32.ofNat i))] := hl
  have hl : lv_has ls5 7 [(0, .ref b), (1, .ref (a 0)), (2, .ref (aM 0)), (3, .ref o), (4, .int (Int32.ofNat i)), (5, .int 1)] := lv_sb9 hl (by intro q hq; simp only [List.mem_cons, List.not_mem_nil, or_false] at hq ⊢; rcases hq with h | h | h | h | h | h <;> simp [h])
  refine lv_aload_n hx hb dL_law_1410 rfl (lv_at hl 2 rfl) ?_
  refine ld_arg hL hl hS (k := 1) (by omega) (by decide) (by decide) dL_law_1411 dL_law_1412 dL_law_1414 dL_law_1415 dL_law_1416 ?_
  refine lcM (nA := 1) (vs' := [.inl (xs (i + 1))]) (rest := []) hF (ct_X7_fireMinutes l) wq_1601 wq_1598 wq_1599 wq_1600 wq_95 (by decide +kernel) (by decide) rfl hfm hP hD hS hl.1 (Nat.le_of_ble_eq_true rfl) rfl rfl dL_law_1417 hf (fun H locs hP hD hS => ?_)
  refine lv_istore hx hb dL_law_1420 hl (by decide) rfl (fun ls6 hl => ?_)
  have hl : lv_has ls6 7 [(6, .int r), (0, .ref b), (1, .ref (a 0)), (2, .ref (aM 0)), (3, .ref o), (4, .int (Int32.ofNat i)), (5, .int 1)] := hl
  have hl : lv_has ls6 7 [(0, .ref b), (1, .ref (a 0)), (2, .ref (aM 0)), (3, .ref o), (4, .int (Int32.ofNat i)), (5, .int 1), (6, .int r)] := lv_sb9 hl (by intro q hq; simp only [List.mem_cons, List.not_mem_nil, or_false] at hq ⊢; rcases hq with h | h | h | h | h | h | h <;> simp [h])
  refine lv_aload_n hx hb dL_law_1422 rfl (lv_at hl 2 rfl) ?_
  refine lcM (nA := 0) (vs' := []) (rest := []) (σM' := σM') (r := σM' 0 0) hF (ct_X7_thrown l) wq_1304 wq_1301 wq_1302 wq_1303 wq_95 (by decide +kernel) (by decide) rfl (e_X7_thrown σM') hP hD hS hl.1 (Nat.le_of_ble_eq_true rfl) rfl rfl dL_law_1423 hf (fun H locs hP hD hS => ?_)
  refine lv_iload hx hb dL_law_1426 (lv_at hl 5 rfl) ?_
  refine lv_icmp_eq hx hb dL_law_1428 (tgt := 1433) (by decide) (fun _ => ?_) (fun h9 => absurd hth h9)
  refine lv_iload hx hb dL_law_1433 (lv_at hl 5 rfl) ?_
  refine lv_if_ne hx hb dL_law_1435 (tgt := 1450) (by decide) (fun _ => ?_) (fun h9 => absurd h9 (by decide))
  refine lv_goto hx hb dL_law_1450 (tgt := 2687) (by decide) ?_
  exact kk H locs ls6 (lv_sb9 hl (by intro q hq; simp only [List.mem_cons, List.not_mem_nil, or_false] at hq ⊢; rcases hq with h | h | h | h | h <;> simp [h])) hP hD hS
theorem lt_25 (hl9 : l.stackTraces = false) (hL : Lc p s m c D z ts b L xs) (hi : i + 6 ≤ L) (hl : lv_has ls 7 [(0, .ref b), (1, .ref (a 0)), (2, .ref (aM 0)), (3, .ref o), (4, .int (Int32.ofNat i))]) (hP : va_P D vwCl (LwS z a n ρ σX aM σM o g) H) (hD : va_D (fun q => s.heap.size ≤ q) (LwS z a n ρ σX aM σM o g)) (hS : va_S (fun q => s.heap.size ≤ q) s.heap H locs) (hf : cells ≤ 601024 ∧ slots ≤ 7293034) (hfx : f_X6_anvilMinutes [.inr (.inl 0), .inl (xs (i + 1))] σX = some (some (some (.inl r)), σX')) (hfm : f_X7_anvilMinutes [.inr (.inl 0), .inl (xs (i + 1))] σM = some (some (some (.inl r)), σM')) (hth : σM' 0 0 = 0)
    (kk : ∀ (H1 : Heap) (locs1 : List Loc) (ls1 : Array Slot), lv_has ls1 7 [(0, .ref b), (1, .ref (a 0)), (2, .ref (aM 0)), (3, .ref o), (4, .int (Int32.ofNat i))] → va_P D vwCl (LwS z a n ρ σX' aM σM' o (vp_updL g 0 r.toInt64)) H1 → va_D (fun q => s.heap.size ≤ q) (LwS z a n ρ σX' aM σM' o (vp_updL g 0 r.toInt64)) → va_S (fun q => s.heap.size ≤ q) s.heap H1 locs1 → W p l e roomL s m #[Value.ref b] below meth c H1 locs1 cells slots Q (F0 m 2687 ls1 [])) : W p l e roomL s m #[Value.ref b] below meth c H locs cells slots Q (F0 m 1453 ls []) := by
  obtain ⟨hF, hX, hbl, hL3⟩ := id hL
  obtain ⟨hx, hb, hml, hown, hts, hK, hA, hA0, hSt⟩ := id hF
  refine lv_aload_n hx hb dL_law_1453 rfl (lv_at hl 1 rfl) ?_
  refine ld_arg hL hl hS (k := 1) (by omega) (by decide) (by decide) dL_law_1454 dL_law_1455 dL_law_1457 dL_law_1458 dL_law_1459 ?_
  refine lv_aload_n hx hb dL_law_1460 rfl (lv_at hl 3 rfl) ?_
  refine lcH (nA := 3) (mc := 0) (ms := 0) (As := [.ref (a 0), .int (xs (i + 1)), .ref o]) (rest := []) hF (fun sz => hhr_anvilMinutes l hl9 D z ts s.heap.size sz a (ktl z a n ρ) σX σX' o g (xs (i + 1)) r hfx) wh_c_anvilMinutes wq_1030 wq_1031 wq_86 (by decide +kernel) (by decide) hP hD hS hl.1 (Nat.le_of_ble_eq_true rfl) rfl rfl dL_law_1461 hf (fun H locs hP hD hS => ?_)
  refine lv_istore hx hb dL_law_1464 hl (by decide) rfl (fun ls5 hl => ?_)
  have hl : lv_has ls5 7 [(5, .int 0), (0, .ref b), (1, .ref (a 0)), (2, .ref (aM 0)), (3, .ref o), (4, .int (Int32.ofNat i))] := hl
  have hl : lv_has ls5 7 [(0, .ref b), (1, .ref (a 0)), (2, .ref (aM 0)), (3, .ref o), (4, .int (Int32.ofNat i)), (5, .int 0)] := lv_sb9 hl (by intro q hq; simp only [List.mem_cons, List.not_mem_nil, or_false] at hq ⊢; rcases hq with h | h | h | h | h | h <;> simp [h])
  refine lv_aload_n hx hb dL_law_1466 rfl (lv_at hl 2 rfl) ?_
  refine ld_arg hL hl hS (k := 1) (by omega) (by decide) (by decide) dL_law_1467 dL_law_1468 dL_law_1470 dL_law_1471 dL_law_1472 ?_
  refine lcM (nA := 1) (vs' := [.inl (xs (i + 1))]) (rest := []) hF (ct_X7_anvilMinutes l) wq_1609 wq_1606 wq_1607 wq_1608 wq_95 (by decide +kernel) (by decide) rfl hfm hP hD hS hl.1 (Nat.le_of_ble_eq_true rfl) rfl rfl dL_law_1473 hf (fun H locs hP hD hS => ?_)
  refine lv_istore hx hb dL_law_1476 hl (by decide) rfl (fun ls6 hl => ?_)
  have hl : lv_has ls6 7 [(6, .int r), (0, .ref b), (1, .ref (a 0)), (2, .ref (aM 0)), (3, .ref o), (4, .int (Int32.ofNat i)), (5, .int 0)] := hl
  have hl : lv_has ls6 7 [(0, .ref b), (1, .ref (a 0)), (2, .ref (aM 0)), (3, .ref o), (4, .int (Int32.ofNat i)), (5, .int 0), (6, .int r)] := lv_sb9 hl (by intro q hq; simp only [List.mem_cons, List.not_mem_nil, or_false] at hq ⊢; rcases hq with h | h | h | h | h | h | h <;> simp [h])
  refine lv_aload_n hx hb dL_law_1478 rfl (lv_at hl 2 rfl) ?_
  refine lcM (nA := 0) (vs' := []) (rest := []) (σM' := σM') (r := σM' 0 0) hF (ct_X7_thrown l) wq_1304 wq_1301 wq_1302 wq_1303 wq_95 (by decide +kernel) (by decide) rfl (e_X7_thrown σM') hP hD hS hl.1 (Nat.le_of_ble_eq_true rfl) rfl rfl dL_law_1479 hf (fun H locs hP hD hS => ?_)
  refine lv_iload hx hb dL_law_1482 (lv_at hl 5 rfl) ?_
  refine lv_icmp_eq hx hb dL_law_1484 (tgt := 1489) (by decide) (fun _ => ?_) (fun h9 => absurd hth h9)
  refine lv_iload hx hb dL_law_1489 (lv_at hl 5 rfl) ?_
  refine lv_if_ne hx hb dL_law_1491 (tgt := 1506) (by decide) (fun h9 => absurd rfl h9) (fun _ => ?_)
  refine lv_aload_n hx hb dL_law_1494 rfl (lv_at hl 3 rfl) ?_
  refine lv_iconst (v := 0) hx hb dL_law_1495 (by decide) ?_
  refine va_lald hx hb hK hP 22 3 lw22 rfl (inb_vp rfl) dL_law_1496 ?_
  refine lv_iload hx hb dL_law_1497 (lv_at hl 6 rfl) ?_
  refine lv_i2l hx hb dL_law_1499 rfl ?_
  refine W.lcmp hx hb dL_law_1500 ?_
  rw [lcmp_same]
  refine lv_if_eq hx hb dL_law_1501 (tgt := 1506) (by decide) (fun _ => ?_) (fun h9 => absurd rfl h9)
  refine lv_goto hx hb dL_law_1506 (tgt := 2687) (by decide) ?_
  exact kk H locs ls6 (lv_sb9 hl (by intro q hq; simp only [List.mem_cons, List.not_mem_nil, or_false] at hq ⊢; rcases hq with h | h | h | h | h <;> simp [h])) hP hD hS
theorem lu_25 (hl9 : l.stackTraces = false) (hL : Lc p s m c D z ts b L xs) (hi : i + 6 ≤ L) (hl : lv_has ls 7 [(0, .ref b), (1, .ref (a 0)), (2, .ref (aM 0)), (3, .ref o), (4, .int (Int32.ofNat i))]) (hP : va_P D vwCl (LwS z a n ρ σX aM σM o g) H) (hD : va_D (fun q => s.heap.size ≤ q) (LwS z a n ρ σX aM σM o g)) (hS : va_S (fun q => s.heap.size ≤ q) s.heap H locs) (hf : (cells + 1) ≤ 601024 ∧ (slots + 6) ≤ 7293034) (hfx : f_X6_anvilMinutes [.inr (.inl 0), .inl (xs (i + 1))] σX = some (none, σX')) (hfm : f_X7_anvilMinutes [.inr (.inl 0), .inl (xs (i + 1))] σM = some (some (some (.inl r)), σM')) (hth : σM' 0 0 = 1)
    (kk : ∀ (H1 : Heap) (locs1 : List Loc) (ls1 : Array Slot), lv_has ls1 7 [(0, .ref b), (1, .ref (a 0)), (2, .ref (aM 0)), (3, .ref o), (4, .int (Int32.ofNat i))] → va_P D vwCl (LwS z a n ρ σX' aM σM' o g) H1 → va_D (fun q => s.heap.size ≤ q) (LwS z a n ρ σX' aM σM' o g) → va_S (fun q => s.heap.size ≤ q) s.heap H1 locs1 → W p l e roomL s m #[Value.ref b] below meth c H1 locs1 (cells + 1) (slots + 6) Q (F0 m 2687 ls1 [])) : W p l e roomL s m #[Value.ref b] below meth c H locs cells slots Q (F0 m 1453 ls []) := by
  obtain ⟨hF, hX, hbl, hL3⟩ := id hL
  obtain ⟨hx, hb, hml, hown, hts, hK, hA, hA0, hSt⟩ := id hF
  refine lv_aload_n hx hb dL_law_1453 rfl (lv_at hl 1 rfl) ?_
  refine ld_arg hL hl hS (k := 1) (by omega) (by decide) (by decide) dL_law_1454 dL_law_1455 dL_law_1457 dL_law_1458 dL_law_1459 ?_
  refine lv_aload_n hx hb dL_law_1460 rfl (lv_at hl 3 rfl) ?_
  refine lcH (nA := 3) (mc := 1) (ms := 6) (As := [.ref (a 0), .int (xs (i + 1)), .ref o]) (rest := []) hF (fun sz => hht_anvilMinutes l hl9 D z ts s.heap.size sz a (ktl z a n ρ) σX σX' o g (xs (i + 1)) hfx) wh_c_anvilMinutes wq_1030 wq_1031 wq_86 (by decide +kernel) (by decide) hP hD hS hl.1 (Nat.le_of_ble_eq_true rfl) rfl rfl dL_law_1461 hf (fun H locs hP hD hS => ?_)
  refine lv_istore hx hb dL_law_1464 hl (by decide) rfl (fun ls5 hl => ?_)
  have hl : lv_has ls5 7 [(5, .int 1), (0, .ref b), (1, .ref (a 0)), (2, .ref (aM 0)), (3, .ref o), (4, .int (Int32.ofNat i))] := hl
  have hl : lv_has ls5 7 [(0, .ref b), (1, .ref (a 0)), (2, .ref (aM 0)), (3, .ref o), (4, .int (Int32.ofNat i)), (5, .int 1)] := lv_sb9 hl (by intro q hq; simp only [List.mem_cons, List.not_mem_nil, or_false] at hq ⊢; rcases hq with h | h | h | h | h | h <;> simp [h])
  refine lv_aload_n hx hb dL_law_1466 rfl (lv_at hl 2 rfl) ?_
  refine ld_arg hL hl hS (k := 1) (by omega) (by decide) (by decide) dL_law_1467 dL_law_1468 dL_law_1470 dL_law_1471 dL_law_1472 ?_
  refine lcM (nA := 1) (vs' := [.inl (xs (i + 1))]) (rest := []) hF (ct_X7_anvilMinutes l) wq_1609 wq_1606 wq_1607 wq_1608 wq_95 (by decide +kernel) (by decide) rfl hfm hP hD hS hl.1 (Nat.le_of_ble_eq_true rfl) rfl rfl dL_law_1473 hf (fun H locs hP hD hS => ?_)
  refine lv_istore hx hb dL_law_1476 hl (by decide) rfl (fun ls6 hl => ?_)
  have hl : lv_has ls6 7 [(6, .int r), (0, .ref b), (1, .ref (a 0)), (2, .ref (aM 0)), (3, .ref o), (4, .int (Int32.ofNat i)), (5, .int 1)] := hl
  have hl : lv_has ls6 7 [(0, .ref b), (1, .ref (a 0)), (2, .ref (aM 0)), (3, .ref o), (4, .int (Int32.ofNat i)), (5, .int 1), (6, .int r)] := lv_sb9 hl (by intro q hq; simp only [List.mem_cons, List.not_mem_nil, or_false] at hq ⊢; rcases hq with h | h | h | h | h | h | h <;> simp [h])
  refine lv_aload_n hx hb dL_law_1478 rfl (lv_at hl 2 rfl) ?_
  refine lcM (nA := 0) (vs' := []) (rest := []) (σM' := σM') (r := σM' 0 0) hF (ct_X7_thrown l) wq_1304 wq_1301 wq_1302 wq_1303 wq_95 (by decide +kernel) (by decide) rfl (e_X7_thrown σM') hP hD hS hl.1 (Nat.le_of_ble_eq_true rfl) rfl rfl dL_law_1479 hf (fun H locs hP hD hS => ?_)
  refine lv_iload hx hb dL_law_1482 (lv_at hl 5 rfl) ?_
  refine lv_icmp_eq hx hb dL_law_1484 (tgt := 1489) (by decide) (fun _ => ?_) (fun h9 => absurd hth h9)
  refine lv_iload hx hb dL_law_1489 (lv_at hl 5 rfl) ?_
  refine lv_if_ne hx hb dL_law_1491 (tgt := 1506) (by decide) (fun _ => ?_) (fun h9 => absurd h9 (by decide))
  refine lv_goto hx hb dL_law_1506 (tgt := 2687) (by decide) ?_
  exact kk H locs ls6 (lv_sb9 hl (by intro q hq; simp only [List.mem_cons, List.not_mem_nil, or_false] at hq ⊢; rcases hq with h | h | h | h | h <;> simp [h])) hP hD hS
theorem lt_26 (hl9 : l.stackTraces = false) (hL : Lc p s m c D z ts b L xs) (hi : i + 6 ≤ L) (hl : lv_has ls 7 [(0, .ref b), (1, .ref (a 0)), (2, .ref (aM 0)), (3, .ref o), (4, .int (Int32.ofNat i))]) (hP : va_P D vwCl (LwS z a n ρ σX aM σM o g) H) (hD : va_D (fun q => s.heap.size ≤ q) (LwS z a n ρ σX aM σM o g)) (hS : va_S (fun q => s.heap.size ≤ q) s.heap H locs) (hf : cells ≤ 601024 ∧ slots ≤ 7293034) (hfx : f_X6_placeMinutes [.inr (.inl 0), .inl (xs (i + 1))] σX = some (some (some (.inl r)), σX')) (hfm : f_X7_placeMinutes [.inr (.inl 0), .inl (xs (i + 1))] σM = some (some (some (.inl r)), σM')) (hth : σM' 0 0 = 0)
    (kk : ∀ (H1 : Heap) (locs1 : List Loc) (ls1 : Array Slot), lv_has ls1 7 [(0, .ref b), (1, .ref (a 0)), (2, .ref (aM 0)), (3, .ref o), (4, .int (Int32.ofNat i))] → va_P D vwCl (LwS z a n ρ σX' aM σM' o (vp_updL g 0 r.toInt64)) H1 → va_D (fun q => s.heap.size ≤ q) (LwS z a n ρ σX' aM σM' o (vp_updL g 0 r.toInt64)) → va_S (fun q => s.heap.size ≤ q) s.heap H1 locs1 → W p l e roomL s m #[Value.ref b] below meth c H1 locs1 cells slots Q (F0 m 2687 ls1 [])) : W p l e roomL s m #[Value.ref b] below meth c H locs cells slots Q (F0 m 1509 ls []) := by
  obtain ⟨hF, hX, hbl, hL3⟩ := id hL
  obtain ⟨hx, hb, hml, hown, hts, hK, hA, hA0, hSt⟩ := id hF
  refine lv_aload_n hx hb dL_law_1509 rfl (lv_at hl 1 rfl) ?_
  refine ld_arg hL hl hS (k := 1) (by omega) (by decide) (by decide) dL_law_1510 dL_law_1511 dL_law_1513 dL_law_1514 dL_law_1515 ?_
  refine lv_aload_n hx hb dL_law_1516 rfl (lv_at hl 3 rfl) ?_
  refine lcH (nA := 3) (mc := 0) (ms := 0) (As := [.ref (a 0), .int (xs (i + 1)), .ref o]) (rest := []) hF (fun sz => hhr_placeMinutes l hl9 D z ts s.heap.size sz a (ktl z a n ρ) σX σX' o g (xs (i + 1)) r hfx) wh_c_placeMinutes wq_1050 wq_1051 wq_86 (by decide +kernel) (by decide) hP hD hS hl.1 (Nat.le_of_ble_eq_true rfl) rfl rfl dL_law_1517 hf (fun H locs hP hD hS => ?_)
  refine lv_istore hx hb dL_law_1520 hl (by decide) rfl (fun ls5 hl => ?_)
  have hl : lv_has ls5 7 [(5, .int 0), (0, .ref b), (1, .ref (a 0)), (2, .ref (aM 0)), (3, .ref o), (4, .int (Int32.ofNat i))] := hl
  have hl : lv_has ls5 7 [(0, .ref b), (1, .ref (a 0)), (2, .ref (aM 0)), (3, .ref o), (4, .int (Int32.ofNat i)), (5, .int 0)] := lv_sb9 hl (by intro q hq; simp only [List.mem_cons, List.not_mem_nil, or_false] at hq ⊢; rcases hq with h | h | h | h | h | h <;> simp [h])
  refine lv_aload_n hx hb dL_law_1522 rfl (lv_at hl 2 rfl) ?_
  refine ld_arg hL hl hS (k := 1) (by omega) (by decide) (by decide) dL_law_1523 dL_law_1524 dL_law_1526 dL_law_1527 dL_law_1528 ?_
  refine lcM (nA := 1) (vs' := [.inl (xs (i + 1))]) (rest := []) hF (ct_X7_placeMinutes l) wq_1613 wq_1610 wq_1611 wq_1612 wq_95 (by decide +kernel) (by decide) rfl hfm hP hD hS hl.1 (Nat.le_of_ble_eq_true rfl) rfl rfl dL_law_1529 hf (fun H locs hP hD hS => ?_)
  refine lv_istore hx hb dL_law_1532 hl (by decide) rfl (fun ls6 hl => ?_)
  have hl : lv_has ls6 7 [(6, .int r), (0, .ref b), (1, .ref (a 0)), (2, .ref (aM 0)), (3, .ref o), (4, .int (Int32.ofNat i)), (5, .int 0)] := hl
  have hl : lv_has ls6 7 [(0, .ref b), (1, .ref (a 0)), (2, .ref (aM 0)), (3, .ref o), (4, .int (Int32.ofNat i)), (5, .int 0), (6, .int r)] := lv_sb9 hl (by intro q hq; simp only [List.mem_cons, List.not_mem_nil, or_false] at hq ⊢; rcases hq with h | h | h | h | h | h | h <;> simp [h])
  refine lv_aload_n hx hb dL_law_1534 rfl (lv_at hl 2 rfl) ?_
  refine lcM (nA := 0) (vs' := []) (rest := []) (σM' := σM') (r := σM' 0 0) hF (ct_X7_thrown l) wq_1304 wq_1301 wq_1302 wq_1303 wq_95 (by decide +kernel) (by decide) rfl (e_X7_thrown σM') hP hD hS hl.1 (Nat.le_of_ble_eq_true rfl) rfl rfl dL_law_1535 hf (fun H locs hP hD hS => ?_)
  refine lv_iload hx hb dL_law_1538 (lv_at hl 5 rfl) ?_
  refine lv_icmp_eq hx hb dL_law_1540 (tgt := 1545) (by decide) (fun _ => ?_) (fun h9 => absurd hth h9)
  refine lv_iload hx hb dL_law_1545 (lv_at hl 5 rfl) ?_
  refine lv_if_ne hx hb dL_law_1547 (tgt := 1562) (by decide) (fun h9 => absurd rfl h9) (fun _ => ?_)
  refine lv_aload_n hx hb dL_law_1550 rfl (lv_at hl 3 rfl) ?_
  refine lv_iconst (v := 0) hx hb dL_law_1551 (by decide) ?_
  refine va_lald hx hb hK hP 22 3 lw22 rfl (inb_vp rfl) dL_law_1552 ?_
  refine lv_iload hx hb dL_law_1553 (lv_at hl 6 rfl) ?_
  refine lv_i2l hx hb dL_law_1555 rfl ?_
  refine W.lcmp hx hb dL_law_1556 ?_
  rw [lcmp_same]
  refine lv_if_eq hx hb dL_law_1557 (tgt := 1562) (by decide) (fun _ => ?_) (fun h9 => absurd rfl h9)
  refine lv_goto hx hb dL_law_1562 (tgt := 2687) (by decide) ?_
  exact kk H locs ls6 (lv_sb9 hl (by intro q hq; simp only [List.mem_cons, List.not_mem_nil, or_false] at hq ⊢; rcases hq with h | h | h | h | h <;> simp [h])) hP hD hS
theorem lu_26 (hl9 : l.stackTraces = false) (hL : Lc p s m c D z ts b L xs) (hi : i + 6 ≤ L) (hl : lv_has ls 7 [(0, .ref b), (1, .ref (a 0)), (2, .ref (aM 0)), (3, .ref o), (4, .int (Int32.ofNat i))]) (hP : va_P D vwCl (LwS z a n ρ σX aM σM o g) H) (hD : va_D (fun q => s.heap.size ≤ q) (LwS z a n ρ σX aM σM o g)) (hS : va_S (fun q => s.heap.size ≤ q) s.heap H locs) (hf : (cells + 1) ≤ 601024 ∧ (slots + 6) ≤ 7293034) (hfx : f_X6_placeMinutes [.inr (.inl 0), .inl (xs (i + 1))] σX = some (none, σX')) (hfm : f_X7_placeMinutes [.inr (.inl 0), .inl (xs (i + 1))] σM = some (some (some (.inl r)), σM')) (hth : σM' 0 0 = 1)
    (kk : ∀ (H1 : Heap) (locs1 : List Loc) (ls1 : Array Slot), lv_has ls1 7 [(0, .ref b), (1, .ref (a 0)), (2, .ref (aM 0)), (3, .ref o), (4, .int (Int32.ofNat i))] → va_P D vwCl (LwS z a n ρ σX' aM σM' o g) H1 → va_D (fun q => s.heap.size ≤ q) (LwS z a n ρ σX' aM σM' o g) → va_S (fun q => s.heap.size ≤ q) s.heap H1 locs1 → W p l e roomL s m #[Value.ref b] below meth c H1 locs1 (cells + 1) (slots + 6) Q (F0 m 2687 ls1 [])) : W p l e roomL s m #[Value.ref b] below meth c H locs cells slots Q (F0 m 1509 ls []) := by
  obtain ⟨hF, hX, hbl, hL3⟩ := id hL
  obtain ⟨hx, hb, hml, hown, hts, hK, hA, hA0, hSt⟩ := id hF
  refine lv_aload_n hx hb dL_law_1509 rfl (lv_at hl 1 rfl) ?_
  refine ld_arg hL hl hS (k := 1) (by omega) (by decide) (by decide) dL_law_1510 dL_law_1511 dL_law_1513 dL_law_1514 dL_law_1515 ?_
  refine lv_aload_n hx hb dL_law_1516 rfl (lv_at hl 3 rfl) ?_
  refine lcH (nA := 3) (mc := 1) (ms := 6) (As := [.ref (a 0), .int (xs (i + 1)), .ref o]) (rest := []) hF (fun sz => hht_placeMinutes l hl9 D z ts s.heap.size sz a (ktl z a n ρ) σX σX' o g (xs (i + 1)) hfx) wh_c_placeMinutes wq_1050 wq_1051 wq_86 (by decide +kernel) (by decide) hP hD hS hl.1 (Nat.le_of_ble_eq_true rfl) rfl rfl dL_law_1517 hf (fun H locs hP hD hS => ?_)
  refine lv_istore hx hb dL_law_1520 hl (by decide) rfl (fun ls5 hl => ?_)
  have hl : lv_has ls5 7 [(5, .int 1), (0, .ref b), (1, .ref (a 0)), (2, .ref (aM 0)), (3, .ref o), (4, .int (Int32.ofNat i))] := hl
  have hl : lv_has ls5 7 [(0, .ref b), (1, .ref (a 0)), (2, .ref (aM 0)), (3, .ref o), (4, .int (Int32.ofNat i)), (5, .int 1)] := lv_sb9 hl (by intro q hq; simp only [List.mem_cons, List.not_mem_nil, or_false] at hq ⊢; rcases hq with h | h | h | h | h | h <;> simp [h])
  refine lv_aload_n hx hb dL_law_1522 rfl (lv_at hl 2 rfl) ?_
  refine ld_arg hL hl hS (k := 1) (by omega) (by decide) (by decide) dL_law_1523 dL_law_1524 dL_law_1526 dL_law_1527 dL_law_1528 ?_
  refine lcM (nA := 1) (vs' := [.inl (xs (i + 1))]) (rest := []) hF (ct_X7_placeMinutes l) wq_1613 wq_1610 wq_1611 wq_1612 wq_95 (by decide +kernel) (by decide) rfl hfm hP hD hS hl.1 (Nat.le_of_ble_eq_true rfl) rfl rfl dL_law_1529 hf (fun H locs hP hD hS => ?_)
  refine lv_istore hx hb dL_law_1532 hl (by decide) rfl (fun ls6 hl => ?_)
  have hl : lv_has ls6 7 [(6, .int r), (0, .ref b), (1, .ref (a 0)), (2, .ref (aM 0)), (3, .ref o), (4, .int (Int32.ofNat i)), (5, .int 1)] := hl
  have hl : lv_has ls6 7 [(0, .ref b), (1, .ref (a 0)), (2, .ref (aM 0)), (3, .ref o), (4, .int (Int32.ofNat i)), (5, .int 1), (6, .int r)] := lv_sb9 hl (by intro q hq; simp only [List.mem_cons, List.not_mem_nil, or_false] at hq ⊢; rcases hq with h | h | h | h | h | h | h <;> simp [h])
  refine lv_aload_n hx hb dL_law_1534 rfl (lv_at hl 2 rfl) ?_
  refine lcM (nA := 0) (vs' := []) (rest := []) (σM' := σM') (r := σM' 0 0) hF (ct_X7_thrown l) wq_1304 wq_1301 wq_1302 wq_1303 wq_95 (by decide +kernel) (by decide) rfl (e_X7_thrown σM') hP hD hS hl.1 (Nat.le_of_ble_eq_true rfl) rfl rfl dL_law_1535 hf (fun H locs hP hD hS => ?_)
  refine lv_iload hx hb dL_law_1538 (lv_at hl 5 rfl) ?_
  refine lv_icmp_eq hx hb dL_law_1540 (tgt := 1545) (by decide) (fun _ => ?_) (fun h9 => absurd hth h9)
  refine lv_iload hx hb dL_law_1545 (lv_at hl 5 rfl) ?_
  refine lv_if_ne hx hb dL_law_1547 (tgt := 1562) (by decide) (fun _ => ?_) (fun h9 => absurd h9 (by decide))
  refine lv_goto hx hb dL_law_1562 (tgt := 2687) (by decide) ?_
  exact kk H locs ls6 (lv_sb9 hl (by intro q hq; simp only [List.mem_cons, List.not_mem_nil, or_false] at hq ⊢; rcases hq with h | h | h | h | h <;> simp [h])) hP hD hS
theorem lt_27 (hl9 : l.stackTraces = false) (hL : Lc p s m c D z ts b L xs) (hi : i + 6 ≤ L) (hl : lv_has ls 7 [(0, .ref b), (1, .ref (a 0)), (2, .ref (aM 0)), (3, .ref o), (4, .int (Int32.ofNat i))]) (hP : va_P D vwCl (LwS z a n ρ σX aM σM o g) H) (hD : va_D (fun q => s.heap.size ≤ q) (LwS z a n ρ σX aM σM o g)) (hS : va_S (fun q => s.heap.size ≤ q) s.heap H locs) (hf : cells ≤ 601024 ∧ slots ≤ 7293034) (hfx : f_X6_hottest [.inr (.inl 0), .inl (xs (i + 1))] σX = some (some (some (.inl r)), σX')) (hfm : f_X7_hottest [.inr (.inl 0), .inl (xs (i + 1))] σM = some (some (some (.inl r)), σM')) (hth : σM' 0 0 = 0)
    (kk : ∀ (H1 : Heap) (locs1 : List Loc) (ls1 : Array Slot), lv_has ls1 7 [(0, .ref b), (1, .ref (a 0)), (2, .ref (aM 0)), (3, .ref o), (4, .int (Int32.ofNat i))] → va_P D vwCl (LwS z a n ρ σX' aM σM' o (vp_updL g 0 r.toInt64)) H1 → va_D (fun q => s.heap.size ≤ q) (LwS z a n ρ σX' aM σM' o (vp_updL g 0 r.toInt64)) → va_S (fun q => s.heap.size ≤ q) s.heap H1 locs1 → W p l e roomL s m #[Value.ref b] below meth c H1 locs1 cells slots Q (F0 m 2687 ls1 [])) : W p l e roomL s m #[Value.ref b] below meth c H locs cells slots Q (F0 m 1565 ls []) := by
  obtain ⟨hF, hX, hbl, hL3⟩ := id hL
  obtain ⟨hx, hb, hml, hown, hts, hK, hA, hA0, hSt⟩ := id hF
  refine lv_aload_n hx hb dL_law_1565 rfl (lv_at hl 1 rfl) ?_
  refine ld_arg hL hl hS (k := 1) (by omega) (by decide) (by decide) dL_law_1566 dL_law_1567 dL_law_1569 dL_law_1570 dL_law_1571 ?_
  refine lv_aload_n hx hb dL_law_1572 rfl (lv_at hl 3 rfl) ?_
  refine lcH (nA := 3) (mc := 0) (ms := 0) (As := [.ref (a 0), .int (xs (i + 1)), .ref o]) (rest := []) hF (fun sz => hhr_hottest l hl9 D z ts s.heap.size sz a (ktl z a n ρ) σX σX' o g (xs (i + 1)) r hfx) wh_c_hottest wq_1057 wq_1058 wq_86 (by decide +kernel) (by decide) hP hD hS hl.1 (Nat.le_of_ble_eq_true rfl) rfl rfl dL_law_1573 hf (fun H locs hP hD hS => ?_)
  refine lv_istore hx hb dL_law_1576 hl (by decide) rfl (fun ls5 hl => ?_)
  have hl : lv_has ls5 7 [(5, .int 0), (0, .ref b), (1, .ref (a 0)), (2, .ref (aM 0)), (3, .ref o), (4, .int (Int32.ofNat i))] := hl
  have hl : lv_has ls5 7 [(0, .ref b), (1, .ref (a 0)), (2, .ref (aM 0)), (3, .ref o), (4, .int (Int32.ofNat i)), (5, .int 0)] := lv_sb9 hl (by intro q hq; simp only [List.mem_cons, List.not_mem_nil, or_false] at hq ⊢; rcases hq with h | h | h | h | h | h <;> simp [h])
  refine lv_aload_n hx hb dL_law_1578 rfl (lv_at hl 2 rfl) ?_
  refine ld_arg hL hl hS (k := 1) (by omega) (by decide) (by decide) dL_law_1579 dL_law_1580 dL_law_1582 dL_law_1583 dL_law_1584 ?_
  refine lcM (nA := 1) (vs' := [.inl (xs (i + 1))]) (rest := []) hF (ct_X7_hottest l) wq_1649 wq_1646 wq_1647 wq_1648 wq_95 (by decide +kernel) (by decide) rfl hfm hP hD hS hl.1 (Nat.le_of_ble_eq_true rfl) rfl rfl dL_law_1585 hf (fun H locs hP hD hS => ?_)
  refine lv_istore hx hb dL_law_1588 hl (by decide) rfl (fun ls6 hl => ?_)
  have hl : lv_has ls6 7 [(6, .int r), (0, .ref b), (1, .ref (a 0)), (2, .ref (aM 0)), (3, .ref o), (4, .int (Int32.ofNat i)), (5, .int 0)] := hl
  have hl : lv_has ls6 7 [(0, .ref b), (1, .ref (a 0)), (2, .ref (aM 0)), (3, .ref o), (4, .int (Int32.ofNat i)), (5, .int 0), (6, .int r)] := lv_sb9 hl (by intro q hq; simp only [List.mem_cons, List.not_mem_nil, or_false] at hq ⊢; rcases hq with h | h | h | h | h | h | h <;> simp [h])
  refine lv_aload_n hx hb dL_law_1590 rfl (lv_at hl 2 rfl) ?_
  refine lcM (nA := 0) (vs' := []) (rest := []) (σM' := σM') (r := σM' 0 0) hF (ct_X7_thrown l) wq_1304 wq_1301 wq_1302 wq_1303 wq_95 (by decide +kernel) (by decide) rfl (e_X7_thrown σM') hP hD hS hl.1 (Nat.le_of_ble_eq_true rfl) rfl rfl dL_law_1591 hf (fun H locs hP hD hS => ?_)
  refine lv_iload hx hb dL_law_1594 (lv_at hl 5 rfl) ?_
  refine lv_icmp_eq hx hb dL_law_1596 (tgt := 1601) (by decide) (fun _ => ?_) (fun h9 => absurd hth h9)
  refine lv_iload hx hb dL_law_1601 (lv_at hl 5 rfl) ?_
  refine lv_if_ne hx hb dL_law_1603 (tgt := 1618) (by decide) (fun h9 => absurd rfl h9) (fun _ => ?_)
  refine lv_aload_n hx hb dL_law_1606 rfl (lv_at hl 3 rfl) ?_
  refine lv_iconst (v := 0) hx hb dL_law_1607 (by decide) ?_
  refine va_lald hx hb hK hP 22 3 lw22 rfl (inb_vp rfl) dL_law_1608 ?_
  refine lv_iload hx hb dL_law_1609 (lv_at hl 6 rfl) ?_
  refine lv_i2l hx hb dL_law_1611 rfl ?_
  refine W.lcmp hx hb dL_law_1612 ?_
  rw [lcmp_same]
  refine lv_if_eq hx hb dL_law_1613 (tgt := 1618) (by decide) (fun _ => ?_) (fun h9 => absurd rfl h9)
  refine lv_goto hx hb dL_law_1618 (tgt := 2687) (by decide) ?_
  exact kk H locs ls6 (lv_sb9 hl (by intro q hq; simp only [List.mem_cons, List.not_mem_nil, or_false] at hq ⊢; rcases hq with h | h | h | h | h <;> simp [h])) hP hD hS
theorem lu_27 (hl9 : l.stackTraces = false) (hL : Lc p s m c D z ts b L xs) (hi : i + 6 ≤ L) (hl : lv_has ls 7 [(0, .ref b), (1, .ref (a 0)), (2, .ref (aM 0)), (3, .ref o), (4, .int (Int32.ofNat i))]) (hP : va_P D vwCl (LwS z a n ρ σX aM σM o g) H) (hD : va_D (fun q => s.heap.size ≤ q) (LwS z a n ρ σX aM σM o g)) (hS : va_S (fun q => s.heap.size ≤ q) s.heap H locs) (hf : (cells + 1) ≤ 601024 ∧ (slots + 6) ≤ 7293034) (hfx : f_X6_hottest [.inr (.inl 0), .inl (xs (i + 1))] σX = some (none, σX')) (hfm : f_X7_hottest [.inr (.inl 0), .inl (xs (i + 1))] σM = some (some (some (.inl r)), σM')) (hth : σM' 0 0 = 1)
    (kk : ∀ (H1 : Heap) (locs1 : List Loc) (ls1 : Array Slot), lv_has ls1 7 [(0, .ref b), (1, .ref (a 0)), (2, .ref (aM 0)), (3, .ref o), (4, .int (Int32.ofNat i))] → va_P D vwCl (LwS z a n ρ σX' aM σM' o g) H1 → va_D (fun q => s.heap.size ≤ q) (LwS z a n ρ σX' aM σM' o g) → va_S (fun q => s.heap.size ≤ q) s.heap H1 locs1 → W p l e roomL s m #[Value.ref b] below meth c H1 locs1 (cells + 1) (slots + 6) Q (F0 m 2687 ls1 [])) : W p l e roomL s m #[Value.ref b] below meth c H locs cells slots Q (F0 m 1565 ls []) := by
  obtain ⟨hF, hX, hbl, hL3⟩ := id hL
  obtain ⟨hx, hb, hml, hown, hts, hK, hA, hA0, hSt⟩ := id hF
  refine lv_aload_n hx hb dL_law_1565 rfl (lv_at hl 1 rfl) ?_
  refine ld_arg hL hl hS (k := 1) (by omega) (by decide) (by decide) dL_law_1566 dL_law_1567 dL_law_1569 dL_law_1570 dL_law_1571 ?_
  refine lv_aload_n hx hb dL_law_1572 rfl (lv_at hl 3 rfl) ?_
  refine lcH (nA := 3) (mc := 1) (ms := 6) (As := [.ref (a 0), .int (xs (i + 1)), .ref o]) (rest := []) hF (fun sz => hht_hottest l hl9 D z ts s.heap.size sz a (ktl z a n ρ) σX σX' o g (xs (i + 1)) hfx) wh_c_hottest wq_1057 wq_1058 wq_86 (by decide +kernel) (by decide) hP hD hS hl.1 (Nat.le_of_ble_eq_true rfl) rfl rfl dL_law_1573 hf (fun H locs hP hD hS => ?_)
  refine lv_istore hx hb dL_law_1576 hl (by decide) rfl (fun ls5 hl => ?_)
  have hl : lv_has ls5 7 [(5, .int 1), (0, .ref b), (1, .ref (a 0)), (2, .ref (aM 0)), (3, .ref o), (4, .int (Int32.ofNat i))] := hl
  have hl : lv_has ls5 7 [(0, .ref b), (1, .ref (a 0)), (2, .ref (aM 0)), (3, .ref o), (4, .int (Int32.ofNat i)), (5, .int 1)] := lv_sb9 hl (by intro q hq; simp only [List.mem_cons, List.not_mem_nil, or_false] at hq ⊢; rcases hq with h | h | h | h | h | h <;> simp [h])
  refine lv_aload_n hx hb dL_law_1578 rfl (lv_at hl 2 rfl) ?_
  refine ld_arg hL hl hS (k := 1) (by omega) (by decide) (by decide) dL_law_1579 dL_law_1580 dL_law_1582 dL_law_1583 dL_law_1584 ?_
  refine lcM (nA := 1) (vs' := [.inl (xs (i + 1))]) (rest := []) hF (ct_X7_hottest l) wq_1649 wq_1646 wq_1647 wq_1648 wq_95 (by decide +kernel) (by decide) rfl hfm hP hD hS hl.1 (Nat.le_of_ble_eq_true rfl) rfl rfl dL_law_1585 hf (fun H locs hP hD hS => ?_)
  refine lv_istore hx hb dL_law_1588 hl (by decide) rfl (fun ls6 hl => ?_)
  have hl : lv_has ls6 7 [(6, .int r), (0, .ref b), (1, .ref (a 0)), (2, .ref (aM 0)), (3, .ref o), (4, .int (Int32.ofNat i)), (5, .int 1)] := hl
  have hl : lv_has ls6 7 [(0, .ref b), (1, .ref (a 0)), (2, .ref (aM 0)), (3, .ref o), (4, .int (Int32.ofNat i)), (5, .int 1), (6, .int r)] := lv_sb9 hl (by intro q hq; simp only [List.mem_cons, List.not_mem_nil, or_false] at hq ⊢; rcases hq with h | h | h | h | h | h | h <;> simp [h])
  refine lv_aload_n hx hb dL_law_1590 rfl (lv_at hl 2 rfl) ?_
  refine lcM (nA := 0) (vs' := []) (rest := []) (σM' := σM') (r := σM' 0 0) hF (ct_X7_thrown l) wq_1304 wq_1301 wq_1302 wq_1303 wq_95 (by decide +kernel) (by decide) rfl (e_X7_thrown σM') hP hD hS hl.1 (Nat.le_of_ble_eq_true rfl) rfl rfl dL_law_1591 hf (fun H locs hP hD hS => ?_)
  refine lv_iload hx hb dL_law_1594 (lv_at hl 5 rfl) ?_
  refine lv_icmp_eq hx hb dL_law_1596 (tgt := 1601) (by decide) (fun _ => ?_) (fun h9 => absurd hth h9)
  refine lv_iload hx hb dL_law_1601 (lv_at hl 5 rfl) ?_
  refine lv_if_ne hx hb dL_law_1603 (tgt := 1618) (by decide) (fun _ => ?_) (fun h9 => absurd h9 (by decide))
  refine lv_goto hx hb dL_law_1618 (tgt := 2687) (by decide) ?_
  exact kk H locs ls6 (lv_sb9 hl (by intro q hq; simp only [List.mem_cons, List.not_mem_nil, or_false] at hq ⊢; rcases hq with h | h | h | h | h <;> simp [h])) hP hD hS
theorem lc_28 (hl9 : l.stackTraces = false) (hL : Lc p s m c D z ts b L xs) (hi : i + 6 ≤ L) (hl : lv_has ls 7 [(0, .ref b), (1, .ref (a 0)), (2, .ref (aM 0)), (3, .ref o), (4, .int (Int32.ofNat i))]) (hP : va_P D vwCl (LwS z a n ρ σX aM σM o g) H) (hD : va_D (fun q => s.heap.size ≤ q) (LwS z a n ρ σX aM σM o g)) (hS : va_S (fun q => s.heap.size ≤ q) s.heap H locs) (hf : cells ≤ 601024 ∧ slots ≤ 7293034) (hfx : f_X6_lastIron [.inr (.inl 0)] σX = some (some (some (.inl r)), σX')) (hfm : f_X7_lastIron [.inr (.inl 0)] σM = some (some (some (.inl r)), σM'))
    (kk : ∀ (H1 : Heap) (locs1 : List Loc), va_P D vwCl (LwS z a n ρ σX' aM σM' o g) H1 → va_D (fun q => s.heap.size ≤ q) (LwS z a n ρ σX' aM σM' o g) → va_S (fun q => s.heap.size ≤ q) s.heap H1 locs1 → W p l e roomL s m #[Value.ref b] below meth c H1 locs1 cells slots Q (F0 m 2687 ls [])) : W p l e roomL s m #[Value.ref b] below meth c H locs cells slots Q (F0 m 1621 ls []) := by
  obtain ⟨hF, hX, hbl, hL3⟩ := id hL
  obtain ⟨hx, hb, hml, hown, hts, hK, hA, hA0, hSt⟩ := id hF
  refine lv_aload_n hx hb dL_law_1621 rfl (lv_at hl 1 rfl) ?_
  refine lcX (nA := 0) (vs' := []) (rest := []) hF (ct_X6_lastIron l hl9) wq_641 wq_638 wq_639 wq_640 wq_87 (by decide +kernel) (by decide) rfl hfx hP hD hS hl.1 (Nat.le_of_ble_eq_true rfl) rfl rfl dL_law_1622 hf (fun H locs hP hD hS => ?_)
  refine lv_aload_n hx hb dL_law_1625 rfl (lv_at hl 2 rfl) ?_
  refine lcM (nA := 0) (vs' := []) (rest := [.int r]) hF (ct_X7_lastIron l) wq_1653 wq_1650 wq_1651 wq_1652 wq_95 (by decide +kernel) (by decide) rfl hfm hP hD hS hl.1 (Nat.le_of_ble_eq_true rfl) rfl rfl dL_law_1626 hf (fun H locs hP hD hS => ?_)
  exact lv_icmp_eq hx hb dL_law_1629 (tgt := 2687) (by decide) (fun _ => kk H locs hP hD hS) (fun h9 => absurd rfl h9)
theorem lc_29 (hl9 : l.stackTraces = false) (hL : Lc p s m c D z ts b L xs) (hi : i + 6 ≤ L) (hl : lv_has ls 7 [(0, .ref b), (1, .ref (a 0)), (2, .ref (aM 0)), (3, .ref o), (4, .int (Int32.ofNat i))]) (hP : va_P D vwCl (LwS z a n ρ σX aM σM o g) H) (hD : va_D (fun q => s.heap.size ≤ q) (LwS z a n ρ σX aM σM o g)) (hS : va_S (fun q => s.heap.size ≤ q) s.heap H locs) (hf : cells ≤ 601024 ∧ slots ≤ 7293034) (hfx : f_X6_bestFinish [.inr (.inl 0)] σX = some (some (some (.inl r)), σX')) (hfm : f_X7_bestFinish [.inr (.inl 0)] σM = some (some (some (.inl r)), σM'))
    (kk : ∀ (H1 : Heap) (locs1 : List Loc), va_P D vwCl (LwS z a n ρ σX' aM σM' o g) H1 → va_D (fun q => s.heap.size ≤ q) (LwS z a n ρ σX' aM σM' o g) → va_S (fun q => s.heap.size ≤ q) s.heap H1 locs1 → W p l e roomL s m #[Value.ref b] below meth c H1 locs1 cells slots Q (F0 m 2687 ls [])) : W p l e roomL s m #[Value.ref b] below meth c H locs cells slots Q (F0 m 1634 ls []) := by
  obtain ⟨hF, hX, hbl, hL3⟩ := id hL
  obtain ⟨hx, hb, hml, hown, hts, hK, hA, hA0, hSt⟩ := id hF
  refine lv_aload_n hx hb dL_law_1634 rfl (lv_at hl 1 rfl) ?_
  refine lcX (nA := 0) (vs' := []) (rest := []) hF (ct_X6_bestFinish l hl9) wq_646 wq_643 wq_644 wq_645 wq_87 (by decide +kernel) (by decide) rfl hfx hP hD hS hl.1 (Nat.le_of_ble_eq_true rfl) rfl rfl dL_law_1635 hf (fun H locs hP hD hS => ?_)
  refine lv_aload_n hx hb dL_law_1638 rfl (lv_at hl 2 rfl) ?_
  refine lcM (nA := 0) (vs' := []) (rest := [.int r]) hF (ct_X7_bestFinish l) wq_1657 wq_1654 wq_1655 wq_1656 wq_95 (by decide +kernel) (by decide) rfl hfm hP hD hS hl.1 (Nat.le_of_ble_eq_true rfl) rfl rfl dL_law_1639 hf (fun H locs hP hD hS => ?_)
  exact lv_icmp_eq hx hb dL_law_1642 (tgt := 2687) (by decide) (fun _ => kk H locs hP hD hS) (fun h9 => absurd rfl h9)
theorem lt_30 (hl9 : l.stackTraces = false) (hL : Lc p s m c D z ts b L xs) (hi : i + 6 ≤ L) (hl : lv_has ls 7 [(0, .ref b), (1, .ref (a 0)), (2, .ref (aM 0)), (3, .ref o), (4, .int (Int32.ofNat i))]) (hP : va_P D vwCl (LwS z a n ρ σX aM σM o g) H) (hD : va_D (fun q => s.heap.size ≤ q) (LwS z a n ρ σX aM σM o g)) (hS : va_S (fun q => s.heap.size ≤ q) s.heap H locs) (hf : cells ≤ 601024 ∧ slots ≤ 7293034) (hfx : f_X6_bestIronAt [.inr (.inl 0), .inl (xs (i + 1))] σX = some (some (some (.inl r)), σX')) (hfm : f_X7_bestIronAt [.inr (.inl 0), .inl (xs (i + 1))] σM = some (some (some (.inl r)), σM')) (hth : σM' 0 0 = 0)
    (kk : ∀ (H1 : Heap) (locs1 : List Loc) (ls1 : Array Slot), lv_has ls1 7 [(0, .ref b), (1, .ref (a 0)), (2, .ref (aM 0)), (3, .ref o), (4, .int (Int32.ofNat i))] → va_P D vwCl (LwS z a n ρ σX' aM σM' o (vp_updL g 0 r.toInt64)) H1 → va_D (fun q => s.heap.size ≤ q) (LwS z a n ρ σX' aM σM' o (vp_updL g 0 r.toInt64)) → va_S (fun q => s.heap.size ≤ q) s.heap H1 locs1 → W p l e roomL s m #[Value.ref b] below meth c H1 locs1 cells slots Q (F0 m 2687 ls1 [])) : W p l e roomL s m #[Value.ref b] below meth c H locs cells slots Q (F0 m 1647 ls []) := by
  obtain ⟨hF, hX, hbl, hL3⟩ := id hL
  obtain ⟨hx, hb, hml, hown, hts, hK, hA, hA0, hSt⟩ := id hF
  refine lv_aload_n hx hb dL_law_1647 rfl (lv_at hl 1 rfl) ?_
  refine ld_arg hL hl hS (k := 1) (by omega) (by decide) (by decide) dL_law_1648 dL_law_1649 dL_law_1651 dL_law_1652 dL_law_1653 ?_
  refine lv_aload_n hx hb dL_law_1654 rfl (lv_at hl 3 rfl) ?_
  refine lcH (nA := 3) (mc := 0) (ms := 0) (As := [.ref (a 0), .int (xs (i + 1)), .ref o]) (rest := []) hF (fun sz => hhr_bestIronAt l hl9 D z ts s.heap.size sz a (ktl z a n ρ) σX σX' o g (xs (i + 1)) r hfx) wh_c_bestIronAt wq_1070 wq_1071 wq_86 (by decide +kernel) (by decide) hP hD hS hl.1 (Nat.le_of_ble_eq_true rfl) rfl rfl dL_law_1655 hf (fun H locs hP hD hS => ?_)
  refine lv_istore hx hb dL_law_1658 hl (by decide) rfl (fun ls5 hl => ?_)
  have hl : lv_has ls5 7 [(5, .int 0), (0, .ref b), (1, .ref (a 0)), (2, .ref (aM 0)), (3, .ref o), (4, .int (Int32.ofNat i))] := hl
  have hl : lv_has ls5 7 [(0, .ref b), (1, .ref (a 0)), (2, .ref (aM 0)), (3, .ref o), (4, .int (Int32.ofNat i)), (5, .int 0)] := lv_sb9 hl (by intro q hq; simp only [List.mem_cons, List.not_mem_nil, or_false] at hq ⊢; rcases hq with h | h | h | h | h | h <;> simp [h])
  refine lv_aload_n hx hb dL_law_1660 rfl (lv_at hl 2 rfl) ?_
  refine ld_arg hL hl hS (k := 1) (by omega) (by decide) (by decide) dL_law_1661 dL_law_1662 dL_law_1664 dL_law_1665 dL_law_1666 ?_
  refine lcM (nA := 1) (vs' := [.inl (xs (i + 1))]) (rest := []) hF (ct_X7_bestIronAt l) wq_1673 wq_1670 wq_1671 wq_1672 wq_95 (by decide +kernel) (by decide) rfl hfm hP hD hS hl.1 (Nat.le_of_ble_eq_true rfl) rfl rfl dL_law_1667 hf (fun H locs hP hD hS => ?_)
  refine lv_istore hx hb dL_law_1670 hl (by decide) rfl (fun ls6 hl => ?_)
  have hl : lv_has ls6 7 [(6, .int r), (0, .ref b), (1, .ref (a 0)), (2, .ref (aM 0)), (3, .ref o), (4, .int (Int32.ofNat i)), (5, .int 0)] := hl
  have hl : lv_has ls6 7 [(0, .ref b), (1, .ref (a 0)), (2, .ref (aM 0)), (3, .ref o), (4, .int (Int32.ofNat i)), (5, .int 0), (6, .int r)] := lv_sb9 hl (by intro q hq; simp only [List.mem_cons, List.not_mem_nil, or_false] at hq ⊢; rcases hq with h | h | h | h | h | h | h <;> simp [h])
  refine lv_aload_n hx hb dL_law_1672 rfl (lv_at hl 2 rfl) ?_
  refine lcM (nA := 0) (vs' := []) (rest := []) (σM' := σM') (r := σM' 0 0) hF (ct_X7_thrown l) wq_1304 wq_1301 wq_1302 wq_1303 wq_95 (by decide +kernel) (by decide) rfl (e_X7_thrown σM') hP hD hS hl.1 (Nat.le_of_ble_eq_true rfl) rfl rfl dL_law_1673 hf (fun H locs hP hD hS => ?_)
  refine lv_iload hx hb dL_law_1676 (lv_at hl 5 rfl) ?_
  refine lv_icmp_eq hx hb dL_law_1678 (tgt := 1683) (by decide) (fun _ => ?_) (fun h9 => absurd hth h9)
  refine lv_iload hx hb dL_law_1683 (lv_at hl 5 rfl) ?_
  refine lv_if_ne hx hb dL_law_1685 (tgt := 1700) (by decide) (fun h9 => absurd rfl h9) (fun _ => ?_)
  refine lv_aload_n hx hb dL_law_1688 rfl (lv_at hl 3 rfl) ?_
  refine lv_iconst (v := 0) hx hb dL_law_1689 (by decide) ?_
  refine va_lald hx hb hK hP 22 3 lw22 rfl (inb_vp rfl) dL_law_1690 ?_
  refine lv_iload hx hb dL_law_1691 (lv_at hl 6 rfl) ?_
  refine lv_i2l hx hb dL_law_1693 rfl ?_
  refine W.lcmp hx hb dL_law_1694 ?_
  rw [lcmp_same]
  refine lv_if_eq hx hb dL_law_1695 (tgt := 1700) (by decide) (fun _ => ?_) (fun h9 => absurd rfl h9)
  refine lv_goto hx hb dL_law_1700 (tgt := 2687) (by decide) ?_
  exact kk H locs ls6 (lv_sb9 hl (by intro q hq; simp only [List.mem_cons, List.not_mem_nil, or_false] at hq ⊢; rcases hq with h | h | h | h | h <;> simp [h])) hP hD hS
theorem lu_30 (hl9 : l.stackTraces = false) (hL : Lc p s m c D z ts b L xs) (hi : i + 6 ≤ L) (hl : lv_has ls 7 [(0, .ref b), (1, .ref (a 0)), (2, .ref (aM 0)), (3, .ref o), (4, .int (Int32.ofNat i))]) (hP : va_P D vwCl (LwS z a n ρ σX aM σM o g) H) (hD : va_D (fun q => s.heap.size ≤ q) (LwS z a n ρ σX aM σM o g)) (hS : va_S (fun q => s.heap.size ≤ q) s.heap H locs) (hf : (cells + 1) ≤ 601024 ∧ (slots + 6) ≤ 7293034) (hfx : f_X6_bestIronAt [.inr (.inl 0), .inl (xs (i + 1))] σX = some (none, σX')) (hfm : f_X7_bestIronAt [.inr (.inl 0), .inl (xs (i + 1))] σM = some (some (some (.inl r)), σM')) (hth : σM' 0 0 = 1)
    (kk : ∀ (H1 : Heap) (locs1 : List Loc) (ls1 : Array Slot), lv_has ls1 7 [(0, .ref b), (1, .ref (a 0)), (2, .ref (aM 0)), (3, .ref o), (4, .int (Int32.ofNat i))] → va_P D vwCl (LwS z a n ρ σX' aM σM' o g) H1 → va_D (fun q => s.heap.size ≤ q) (LwS z a n ρ σX' aM σM' o g) → va_S (fun q => s.heap.size ≤ q) s.heap H1 locs1 → W p l e roomL s m #[Value.ref b] below meth c H1 locs1 (cells + 1) (slots + 6) Q (F0 m 2687 ls1 [])) : W p l e roomL s m #[Value.ref b] below meth c H locs cells slots Q (F0 m 1647 ls []) := by
  obtain ⟨hF, hX, hbl, hL3⟩ := id hL
  obtain ⟨hx, hb, hml, hown, hts, hK, hA, hA0, hSt⟩ := id hF
  refine lv_aload_n hx hb dL_law_1647 rfl (lv_at hl 1 rfl) ?_
  refine ld_arg hL hl hS (k := 1) (by omega) (by decide) (by decide) dL_law_1648 dL_law_1649 dL_law_1651 dL_law_1652 dL_law_1653 ?_
  refine lv_aload_n hx hb dL_law_1654 rfl (lv_at hl 3 rfl) ?_
  refine lcH (nA := 3) (mc := 1) (ms := 6) (As := [.ref (a 0), .int (xs (i + 1)), .ref o]) (rest := []) hF (fun sz => hht_bestIronAt l hl9 D z ts s.heap.size sz a (ktl z a n ρ) σX σX' o g (xs (i + 1)) hfx) wh_c_bestIronAt wq_1070 wq_1071 wq_86 (by decide +kernel) (by decide) hP hD hS hl.1 (Nat.le_of_ble_eq_true rfl) rfl rfl dL_law_1655 hf (fun H locs hP hD hS => ?_)
  refine lv_istore hx hb dL_law_1658 hl (by decide) rfl (fun ls5 hl => ?_)
  have hl : lv_has ls5 7 [(5, .int 1), (0, .ref b), (1, .ref (a 0)), (2, .ref (aM 0)), (3, .ref o), (4, .int (Int32.ofNat i))] := hl
  have hl : lv_has ls5 7 [(0, .ref b), (1, .ref (a 0)), (2, .ref (aM 0)), (3, .ref o), (4, .int (Int32.ofNat i)), (5, .int 1)] := lv_sb9 hl (by intro q hq; simp only [List.mem_cons, List.not_mem_nil, or_false] at hq ⊢; rcases hq with h | h | h | h | h | h <;> simp [h])
  refine lv_aload_n hx hb dL_law_1660 rfl (lv_at hl 2 rfl) ?_
  refine ld_arg hL hl hS (k := 1) (by omega) (by decide) (by decide) dL_law_1661 dL_law_1662 dL_law_1664 dL_law_1665 dL_law_1666 ?_
  refine lcM (nA := 1) (vs' := [.inl (xs (i + 1))]) (rest := []) hF (ct_X7_bestIronAt l) wq_1673 wq_1670 wq_1671 wq_1672 wq_95 (by decide +kernel) (by decide) rfl hfm hP hD hS hl.1 (Nat.le_of_ble_eq_true rfl) rfl rfl dL_law_1667 hf (fun H locs hP hD hS => ?_)
  refine lv_istore hx hb dL_law_1670 hl (by decide) rfl (fun ls6 hl => ?_)
  have hl : lv_has ls6 7 [(6, .int r), (0, .ref b), (1, .ref (a 0)), (2, .ref (aM 0)), (3, .ref o), (4, .int (Int32.ofNat i)), (5, .int 1)] := hl
  have hl : lv_has ls6 7 [(0, .ref b), (1, .ref (a 0)), (2, .ref (aM 0)), (3, .ref o), (4, .int (Int32.ofNat i)), (5, .int 1), (6, .int r)] := lv_sb9 hl (by intro q hq; simp only [List.mem_cons, List.not_mem_nil, or_false] at hq ⊢; rcases hq with h | h | h | h | h | h | h <;> simp [h])
  refine lv_aload_n hx hb dL_law_1672 rfl (lv_at hl 2 rfl) ?_
  refine lcM (nA := 0) (vs' := []) (rest := []) (σM' := σM') (r := σM' 0 0) hF (ct_X7_thrown l) wq_1304 wq_1301 wq_1302 wq_1303 wq_95 (by decide +kernel) (by decide) rfl (e_X7_thrown σM') hP hD hS hl.1 (Nat.le_of_ble_eq_true rfl) rfl rfl dL_law_1673 hf (fun H locs hP hD hS => ?_)
  refine lv_iload hx hb dL_law_1676 (lv_at hl 5 rfl) ?_
  refine lv_icmp_eq hx hb dL_law_1678 (tgt := 1683) (by decide) (fun _ => ?_) (fun h9 => absurd hth h9)
  refine lv_iload hx hb dL_law_1683 (lv_at hl 5 rfl) ?_
  refine lv_if_ne hx hb dL_law_1685 (tgt := 1700) (by decide) (fun _ => ?_) (fun h9 => absurd h9 (by decide))
  refine lv_goto hx hb dL_law_1700 (tgt := 2687) (by decide) ?_
  exact kk H locs ls6 (lv_sb9 hl (by intro q hq; simp only [List.mem_cons, List.not_mem_nil, or_false] at hq ⊢; rcases hq with h | h | h | h | h <;> simp [h])) hP hD hS
theorem lc_31 (hl9 : l.stackTraces = false) (hL : Lc p s m c D z ts b L xs) (hi : i + 6 ≤ L) (hl : lv_has ls 7 [(0, .ref b), (1, .ref (a 0)), (2, .ref (aM 0)), (3, .ref o), (4, .int (Int32.ofNat i))]) (hP : va_P D vwCl (LwS z a n ρ σX aM σM o g) H) (hD : va_D (fun q => s.heap.size ≤ q) (LwS z a n ρ σX aM σM o g)) (hS : va_S (fun q => s.heap.size ≤ q) s.heap H locs) (hf : cells ≤ 601024 ∧ slots ≤ 7293034) (hfx : f_X6_bestOrders [.inr (.inl 0)] σX = some (some (some (.inl r)), σX')) (hfm : f_X7_bestOrders [.inr (.inl 0)] σM = some (some (some (.inl r)), σM'))
    (kk : ∀ (H1 : Heap) (locs1 : List Loc), va_P D vwCl (LwS z a n ρ σX' aM σM' o g) H1 → va_D (fun q => s.heap.size ≤ q) (LwS z a n ρ σX' aM σM' o g) → va_S (fun q => s.heap.size ≤ q) s.heap H1 locs1 → W p l e roomL s m #[Value.ref b] below meth c H1 locs1 cells slots Q (F0 m 2687 ls [])) : W p l e roomL s m #[Value.ref b] below meth c H locs cells slots Q (F0 m 1703 ls []) := by
  obtain ⟨hF, hX, hbl, hL3⟩ := id hL
  obtain ⟨hx, hb, hml, hown, hts, hK, hA, hA0, hSt⟩ := id hF
  refine lv_aload_n hx hb dL_law_1703 rfl (lv_at hl 1 rfl) ?_
  refine lcX (nA := 0) (vs' := []) (rest := []) hF (ct_X6_bestOrders l hl9) wq_685 wq_682 wq_683 wq_684 wq_87 (by decide +kernel) (by decide) rfl hfx hP hD hS hl.1 (Nat.le_of_ble_eq_true rfl) rfl rfl dL_law_1704 hf (fun H locs hP hD hS => ?_)
  refine lv_aload_n hx hb dL_law_1707 rfl (lv_at hl 2 rfl) ?_
  refine lcM (nA := 0) (vs' := []) (rest := [.int r]) hF (ct_X7_bestOrders l) wq_1677 wq_1674 wq_1675 wq_1676 wq_95 (by decide +kernel) (by decide) rfl hfm hP hD hS hl.1 (Nat.le_of_ble_eq_true rfl) rfl rfl dL_law_1708 hf (fun H locs hP hD hS => ?_)
  exact lv_icmp_eq hx hb dL_law_1711 (tgt := 2687) (by decide) (fun _ => kk H locs hP hD hS) (fun h9 => absurd rfl h9)
theorem lt_32 (hl9 : l.stackTraces = false) (hL : Lc p s m c D z ts b L xs) (hi : i + 6 ≤ L) (hl : lv_has ls 7 [(0, .ref b), (1, .ref (a 0)), (2, .ref (aM 0)), (3, .ref o), (4, .int (Int32.ofNat i))]) (hP : va_P D vwCl (LwS z a n ρ σX aM σM o g) H) (hD : va_D (fun q => s.heap.size ≤ q) (LwS z a n ρ σX aM σM o g)) (hS : va_S (fun q => s.heap.size ≤ q) s.heap H locs) (hf : cells ≤ 601024 ∧ slots ≤ 7293034) (hfx : f_X6_finishWithSwap [.inr (.inl 0), .inl (xs (i + 1)), .inl (xs (i + 2))] σX = some (some (some (.inl r)), σX')) (hfm : f_X7_finishWithSwap [.inr (.inl 0), .inl (xs (i + 1)), .inl (xs (i + 2))] σM = some (some (some (.inl r)), σM')) (hth : σM' 0 0 = 0)
    (kk : ∀ (H1 : Heap) (locs1 : List Loc) (ls1 : Array Slot), lv_has ls1 7 [(0, .ref b), (1, .ref (a 0)), (2, .ref (aM 0)), (3, .ref o), (4, .int (Int32.ofNat i))] → va_P D vwCl (LwS z a n ρ σX' aM σM' o (vp_updL g 0 r.toInt64)) H1 → va_D (fun q => s.heap.size ≤ q) (LwS z a n ρ σX' aM σM' o (vp_updL g 0 r.toInt64)) → va_S (fun q => s.heap.size ≤ q) s.heap H1 locs1 → W p l e roomL s m #[Value.ref b] below meth c H1 locs1 cells slots Q (F0 m 2687 ls1 [])) : W p l e roomL s m #[Value.ref b] below meth c H locs cells slots Q (F0 m 1716 ls []) := by
  obtain ⟨hF, hX, hbl, hL3⟩ := id hL
  obtain ⟨hx, hb, hml, hown, hts, hK, hA, hA0, hSt⟩ := id hF
  refine lv_aload_n hx hb dL_law_1716 rfl (lv_at hl 1 rfl) ?_
  refine ld_arg hL hl hS (k := 1) (by omega) (by decide) (by decide) dL_law_1717 dL_law_1718 dL_law_1720 dL_law_1721 dL_law_1722 ?_
  refine ld_arg hL hl hS (k := 2) (by omega) (by decide) (by decide) dL_law_1723 dL_law_1724 dL_law_1726 dL_law_1727 dL_law_1728 ?_
  refine lv_aload_n hx hb dL_law_1729 rfl (lv_at hl 3 rfl) ?_
  refine lcH (nA := 4) (mc := 0) (ms := 0) (As := [.ref (a 0), .int (xs (i + 1)), .int (xs (i + 2)), .ref o]) (rest := []) hF (fun sz => hhr_finishWithSwap l hl9 D z ts s.heap.size sz a (ktl z a n ρ) σX σX' o g (xs (i + 1)) (xs (i + 2)) r hfx) wh_c_finishWithSwap wq_1077 wq_1078 wq_86 (by decide +kernel) (by decide) hP hD hS hl.1 (Nat.le_of_ble_eq_true rfl) rfl rfl dL_law_1730 hf (fun H locs hP hD hS => ?_)
  refine lv_istore hx hb dL_law_1733 hl (by decide) rfl (fun ls5 hl => ?_)
  have hl : lv_has ls5 7 [(5, .int 0), (0, .ref b), (1, .ref (a 0)), (2, .ref (aM 0)), (3, .ref o), (4, .int (Int32.ofNat i))] := hl
  have hl : lv_has ls5 7 [(0, .ref b), (1, .ref (a 0)), (2, .ref (aM 0)), (3, .ref o), (4, .int (Int32.ofNat i)), (5, .int 0)] := lv_sb9 hl (by intro q hq; simp only [List.mem_cons, List.not_mem_nil, or_false] at hq ⊢; rcases hq with h | h | h | h | h | h <;> simp [h])
  refine lv_aload_n hx hb dL_law_1735 rfl (lv_at hl 2 rfl) ?_
  refine ld_arg hL hl hS (k := 1) (by omega) (by decide) (by decide) dL_law_1736 dL_law_1737 dL_law_1739 dL_law_1740 dL_law_1741 ?_
  refine ld_arg hL hl hS (k := 2) (by omega) (by decide) (by decide) dL_law_1742 dL_law_1743 dL_law_1745 dL_law_1746 dL_law_1747 ?_
  refine lcM (nA := 2) (vs' := [.inl (xs (i + 1)), .inl (xs (i + 2))]) (rest := []) hF (ct_X7_finishWithSwap l) wq_1681 wq_1678 wq_1679 wq_1680 wq_95 (by decide +kernel) (by decide) rfl hfm hP hD hS hl.1 (Nat.le_of_ble_eq_true rfl) rfl rfl dL_law_1748 hf (fun H locs hP hD hS => ?_)
  refine lv_istore hx hb dL_law_1751 hl (by decide) rfl (fun ls6 hl => ?_)
  have hl : lv_has ls6 7 [(6, .int r), (0, .ref b), (1, .ref (a 0)), (2, .ref (aM 0)), (3, .ref o), (4, .int (Int32.ofNat i)), (5, .int 0)] := hl
  have hl : lv_has ls6 7 [(0, .ref b), (1, .ref (a 0)), (2, .ref (aM 0)), (3, .ref o), (4, .int (Int32.ofNat i)), (5, .int 0), (6, .int r)] := lv_sb9 hl (by intro q hq; simp only [List.mem_cons, List.not_mem_nil, or_false] at hq ⊢; rcases hq with h | h | h | h | h | h | h <;> simp [h])
  refine lv_aload_n hx hb dL_law_1753 rfl (lv_at hl 2 rfl) ?_
  refine lcM (nA := 0) (vs' := []) (rest := []) (σM' := σM') (r := σM' 0 0) hF (ct_X7_thrown l) wq_1304 wq_1301 wq_1302 wq_1303 wq_95 (by decide +kernel) (by decide) rfl (e_X7_thrown σM') hP hD hS hl.1 (Nat.le_of_ble_eq_true rfl) rfl rfl dL_law_1754 hf (fun H locs hP hD hS => ?_)
  refine lv_iload hx hb dL_law_1757 (lv_at hl 5 rfl) ?_
  refine lv_icmp_eq hx hb dL_law_1759 (tgt := 1764) (by decide) (fun _ => ?_) (fun h9 => absurd hth h9)
  refine lv_iload hx hb dL_law_1764 (lv_at hl 5 rfl) ?_
  refine lv_if_ne hx hb dL_law_1766 (tgt := 1781) (by decide) (fun h9 => absurd rfl h9) (fun _ => ?_)
  refine lv_aload_n hx hb dL_law_1769 rfl (lv_at hl 3 rfl) ?_
  refine lv_iconst (v := 0) hx hb dL_law_1770 (by decide) ?_
  refine va_lald hx hb hK hP 22 3 lw22 rfl (inb_vp rfl) dL_law_1771 ?_
  refine lv_iload hx hb dL_law_1772 (lv_at hl 6 rfl) ?_
  refine lv_i2l hx hb dL_law_1774 rfl ?_
  refine W.lcmp hx hb dL_law_1775 ?_
  rw [lcmp_same]
  refine lv_if_eq hx hb dL_law_1776 (tgt := 1781) (by decide) (fun _ => ?_) (fun h9 => absurd rfl h9)
  refine lv_goto hx hb dL_law_1781 (tgt := 2687) (by decide) ?_
  exact kk H locs ls6 (lv_sb9 hl (by intro q hq; simp only [List.mem_cons, List.not_mem_nil, or_false] at hq ⊢; rcases hq with h | h | h | h | h <;> simp [h])) hP hD hS
theorem lu_32 (hl9 : l.stackTraces = false) (hL : Lc p s m c D z ts b L xs) (hi : i + 6 ≤ L) (hl : lv_has ls 7 [(0, .ref b), (1, .ref (a 0)), (2, .ref (aM 0)), (3, .ref o), (4, .int (Int32.ofNat i))]) (hP : va_P D vwCl (LwS z a n ρ σX aM σM o g) H) (hD : va_D (fun q => s.heap.size ≤ q) (LwS z a n ρ σX aM σM o g)) (hS : va_S (fun q => s.heap.size ≤ q) s.heap H locs) (hf : (cells + 1) ≤ 601024 ∧ (slots + 6) ≤ 7293034) (hfx : f_X6_finishWithSwap [.inr (.inl 0), .inl (xs (i + 1)), .inl (xs (i + 2))] σX = some (none, σX')) (hfm : f_X7_finishWithSwap [.inr (.inl 0), .inl (xs (i + 1)), .inl (xs (i + 2))] σM = some (some (some (.inl r)), σM')) (hth : σM' 0 0 = 1)
    (kk : ∀ (H1 : Heap) (locs1 : List Loc) (ls1 : Array Slot), lv_has ls1 7 [(0, .ref b), (1, .ref (a 0)), (2, .ref (aM 0)), (3, .ref o), (4, .int (Int32.ofNat i))] → va_P D vwCl (LwS z a n ρ σX' aM σM' o g) H1 → va_D (fun q => s.heap.size ≤ q) (LwS z a n ρ σX' aM σM' o g) → va_S (fun q => s.heap.size ≤ q) s.heap H1 locs1 → W p l e roomL s m #[Value.ref b] below meth c H1 locs1 (cells + 1) (slots + 6) Q (F0 m 2687 ls1 [])) : W p l e roomL s m #[Value.ref b] below meth c H locs cells slots Q (F0 m 1716 ls []) := by
  obtain ⟨hF, hX, hbl, hL3⟩ := id hL
  obtain ⟨hx, hb, hml, hown, hts, hK, hA, hA0, hSt⟩ := id hF
  refine lv_aload_n hx hb dL_law_1716 rfl (lv_at hl 1 rfl) ?_
  refine ld_arg hL hl hS (k := 1) (by omega) (by decide) (by decide) dL_law_1717 dL_law_1718 dL_law_1720 dL_law_1721 dL_law_1722 ?_
  refine ld_arg hL hl hS (k := 2) (by omega) (by decide) (by decide) dL_law_1723 dL_law_1724 dL_law_1726 dL_law_1727 dL_law_1728 ?_
  refine lv_aload_n hx hb dL_law_1729 rfl (lv_at hl 3 rfl) ?_
  refine lcH (nA := 4) (mc := 1) (ms := 6) (As := [.ref (a 0), .int (xs (i + 1)), .int (xs (i + 2)), .ref o]) (rest := []) hF (fun sz => hht_finishWithSwap l hl9 D z ts s.heap.size sz a (ktl z a n ρ) σX σX' o g (xs (i + 1)) (xs (i + 2)) hfx) wh_c_finishWithSwap wq_1077 wq_1078 wq_86 (by decide +kernel) (by decide) hP hD hS hl.1 (Nat.le_of_ble_eq_true rfl) rfl rfl dL_law_1730 hf (fun H locs hP hD hS => ?_)
  refine lv_istore hx hb dL_law_1733 hl (by decide) rfl (fun ls5 hl => ?_)
  have hl : lv_has ls5 7 [(5, .int 1), (0, .ref b), (1, .ref (a 0)), (2, .ref (aM 0)), (3, .ref o), (4, .int (Int32.ofNat i))] := hl
  have hl : lv_has ls5 7 [(0, .ref b), (1, .ref (a 0)), (2, .ref (aM 0)), (3, .ref o), (4, .int (Int32.ofNat i)), (5, .int 1)] := lv_sb9 hl (by intro q hq; simp only [List.mem_cons, List.not_mem_nil, or_false] at hq ⊢; rcases hq with h | h | h | h | h | h <;> simp [h])
  refine lv_aload_n hx hb dL_law_1735 rfl (lv_at hl 2 rfl) ?_
  refine ld_arg hL hl hS (k := 1) (by omega) (by decide) (by decide) dL_law_1736 dL_law_1737 dL_law_1739 dL_law_1740 dL_law_1741 ?_
  refine ld_arg hL hl hS (k := 2) (by omega) (by decide) (by decide) dL_law_1742 dL_law_1743 dL_law_1745 dL_law_1746 dL_law_1747 ?_
  refine lcM (nA := 2) (vs' := [.inl (xs (i + 1)), .inl (xs (i + 2))]) (rest := []) hF (ct_X7_finishWithSwap l) wq_1681 wq_1678 wq_1679 wq_1680 wq_95 (by decide +kernel) (by decide) rfl hfm hP hD hS hl.1 (Nat.le_of_ble_eq_true rfl) rfl rfl dL_law_1748 hf (fun H locs hP hD hS => ?_)
  refine lv_istore hx hb dL_law_1751 hl (by decide) rfl (fun ls6 hl => ?_)
  have hl : lv_has ls6 7 [(6, .int r), (0, .ref b), (1, .ref (a 0)), (2, .ref (aM 0)), (3, .ref o), (4, .int (Int32.ofNat i)), (5, .int 1)] := hl
  have hl : lv_has ls6 7 [(0, .ref b), (1, .ref (a 0)), (2, .ref (aM 0)), (3, .ref o), (4, .int (Int32.ofNat i)), (5, .int 1), (6, .int r)] := lv_sb9 hl (by intro q hq; simp only [List.mem_cons, List.not_mem_nil, or_false] at hq ⊢; rcases hq with h | h | h | h | h | h | h <;> simp [h])
  refine lv_aload_n hx hb dL_law_1753 rfl (lv_at hl 2 rfl) ?_
  refine lcM (nA := 0) (vs' := []) (rest := []) (σM' := σM') (r := σM' 0 0) hF (ct_X7_thrown l) wq_1304 wq_1301 wq_1302 wq_1303 wq_95 (by decide +kernel) (by decide) rfl (e_X7_thrown σM') hP hD hS hl.1 (Nat.le_of_ble_eq_true rfl) rfl rfl dL_law_1754 hf (fun H locs hP hD hS => ?_)
  refine lv_iload hx hb dL_law_1757 (lv_at hl 5 rfl) ?_
  refine lv_icmp_eq hx hb dL_law_1759 (tgt := 1764) (by decide) (fun _ => ?_) (fun h9 => absurd hth h9)
  refine lv_iload hx hb dL_law_1764 (lv_at hl 5 rfl) ?_
  refine lv_if_ne hx hb dL_law_1766 (tgt := 1781) (by decide) (fun _ => ?_) (fun h9 => absurd h9 (by decide))
  refine lv_goto hx hb dL_law_1781 (tgt := 2687) (by decide) ?_
  exact kk H locs ls6 (lv_sb9 hl (by intro q hq; simp only [List.mem_cons, List.not_mem_nil, or_false] at hq ⊢; rcases hq with h | h | h | h | h <;> simp [h])) hP hD hS
theorem lc_33 (hl9 : l.stackTraces = false) (hL : Lc p s m c D z ts b L xs) (hi : i + 6 ≤ L) (hl : lv_has ls 7 [(0, .ref b), (1, .ref (a 0)), (2, .ref (aM 0)), (3, .ref o), (4, .int (Int32.ofNat i))]) (hP : va_P D vwCl (LwS z a n ρ σX aM σM o g) H) (hD : va_D (fun q => s.heap.size ≤ q) (LwS z a n ρ σX aM σM o g)) (hS : va_S (fun q => s.heap.size ≤ q) s.heap H locs) (hf : cells ≤ 601024 ∧ slots ≤ 7293034) (hfx : f_X6_finishWithMargin [.inr (.inl 0), .inl (xs (i + 1))] σX = some (some (some (.inl r)), σX')) (hfm : f_X7_finishWithMargin [.inr (.inl 0), .inl (xs (i + 1))] σM = some (some (some (.inl r)), σM'))
    (kk : ∀ (H1 : Heap) (locs1 : List Loc), va_P D vwCl (LwS z a n ρ σX' aM σM' o g) H1 → va_D (fun q => s.heap.size ≤ q) (LwS z a n ρ σX' aM σM' o g) → va_S (fun q => s.heap.size ≤ q) s.heap H1 locs1 → W p l e roomL s m #[Value.ref b] below meth c H1 locs1 cells slots Q (F0 m 2687 ls [])) : W p l e roomL s m #[Value.ref b] below meth c H locs cells slots Q (F0 m 1784 ls []) := by
  obtain ⟨hF, hX, hbl, hL3⟩ := id hL
  obtain ⟨hx, hb, hml, hown, hts, hK, hA, hA0, hSt⟩ := id hF
  refine lv_aload_n hx hb dL_law_1784 rfl (lv_at hl 1 rfl) ?_
  refine ld_arg hL hl hS (k := 1) (by omega) (by decide) (by decide) dL_law_1785 dL_law_1786 dL_law_1788 dL_law_1789 dL_law_1790 ?_
  refine lcX (nA := 1) (vs' := [.inl (xs (i + 1))]) (rest := []) hF (ct_X6_finishWithMargin l hl9) wq_689 wq_686 wq_687 wq_688 wq_87 (by decide +kernel) (by decide) rfl hfx hP hD hS hl.1 (Nat.le_of_ble_eq_true rfl) rfl rfl dL_law_1791 hf (fun H locs hP hD hS => ?_)
  refine lv_aload_n hx hb dL_law_1794 rfl (lv_at hl 2 rfl) ?_
  refine ld_arg hL hl hS (k := 1) (by omega) (by decide) (by decide) dL_law_1795 dL_law_1796 dL_law_1798 dL_law_1799 dL_law_1800 ?_
  refine lcM (nA := 1) (vs' := [.inl (xs (i + 1))]) (rest := [.int r]) hF (ct_X7_finishWithMargin l) wq_1685 wq_1682 wq_1683 wq_1684 wq_95 (by decide +kernel) (by decide) rfl hfm hP hD hS hl.1 (Nat.le_of_ble_eq_true rfl) rfl rfl dL_law_1801 hf (fun H locs hP hD hS => ?_)
  exact lv_icmp_eq hx hb dL_law_1804 (tgt := 2687) (by decide) (fun _ => kk H locs hP hD hS) (fun h9 => absurd rfl h9)
theorem lc_34 (hl9 : l.stackTraces = false) (hL : Lc p s m c D z ts b L xs) (hi : i + 6 ≤ L) (hl : lv_has ls 7 [(0, .ref b), (1, .ref (a 0)), (2, .ref (aM 0)), (3, .ref o), (4, .int (Int32.ofNat i))]) (hP : va_P D vwCl (LwS z a n ρ σX aM σM o g) H) (hD : va_D (fun q => s.heap.size ≤ q) (LwS z a n ρ σX aM σM o g)) (hS : va_S (fun q => s.heap.size ≤ q) s.heap H locs) (hf : cells ≤ 601024 ∧ slots ≤ 7293034) (hfx : f_X6_bestMargin [.inr (.inl 0)] σX = some (some (some (.inl r)), σX')) (hfm : f_X7_bestMargin [.inr (.inl 0)] σM = some (some (some (.inl r)), σM'))
    (kk : ∀ (H1 : Heap) (locs1 : List Loc), va_P D vwCl (LwS z a n ρ σX' aM σM' o g) H1 → va_D (fun q => s.heap.size ≤ q) (LwS z a n ρ σX' aM σM' o g) → va_S (fun q => s.heap.size ≤ q) s.heap H1 locs1 → W p l e roomL s m #[Value.ref b] below meth c H1 locs1 cells slots Q (F0 m 2687 ls [])) : W p l e roomL s m #[Value.ref b] below meth c H locs cells slots Q (F0 m 1809 ls []) := by
  obtain ⟨hF, hX, hbl, hL3⟩ := id hL
  obtain ⟨hx, hb, hml, hown, hts, hK, hA, hA0, hSt⟩ := id hF
  refine lv_aload_n hx hb dL_law_1809 rfl (lv_at hl 1 rfl) ?_
  refine lcX (nA := 0) (vs' := []) (rest := []) hF (ct_X6_bestMargin l hl9) wq_703 wq_700 wq_701 wq_702 wq_87 (by decide +kernel) (by decide) rfl hfx hP hD hS hl.1 (Nat.le_of_ble_eq_true rfl) rfl rfl dL_law_1810 hf (fun H locs hP hD hS => ?_)
  refine lv_aload_n hx hb dL_law_1813 rfl (lv_at hl 2 rfl) ?_
  refine lcM (nA := 0) (vs' := []) (rest := [.int r]) hF (ct_X7_bestMargin l) wq_1696 wq_1693 wq_1694 wq_1695 wq_95 (by decide +kernel) (by decide) rfl hfm hP hD hS hl.1 (Nat.le_of_ble_eq_true rfl) rfl rfl dL_law_1814 hf (fun H locs hP hD hS => ?_)
  exact lv_icmp_eq hx hb dL_law_1817 (tgt := 2687) (by decide) (fun _ => kk H locs hP hD hS) (fun h9 => absurd rfl h9)
theorem lt_35 (hl9 : l.stackTraces = false) (hL : Lc p s m c D z ts b L xs) (hi : i + 6 ≤ L) (hl : lv_has ls 7 [(0, .ref b), (1, .ref (a 0)), (2, .ref (aM 0)), (3, .ref o), (4, .int (Int32.ofNat i))]) (hP : va_P D vwCl (LwS z a n ρ σX aM σM o g) H) (hD : va_D (fun q => s.heap.size ≤ q) (LwS z a n ρ σX aM σM o g)) (hS : va_S (fun q => s.heap.size ≤ q) s.heap H locs) (hf : cells ≤ 601024 ∧ slots ≤ 7293034) (hfx : f_X6_finishWithoutPlace [.inr (.inl 0), .inl (xs (i + 1))] σX = some (some (some (.inl r)), σX')) (hfm : f_X7_finishWithoutPlace [.inr (.inl 0), .inl (xs (i + 1))] σM = some (some (some (.inl r)), σM')) (hth : σM' 0 0 = 0)
    (kk : ∀ (H1 : Heap) (locs1 : List Loc) (ls1 : Array Slot), lv_has ls1 7 [(0, .ref b), (1, .ref (a 0)), (2, .ref (aM 0)), (3, .ref o), (4, .int (Int32.ofNat i))] → va_P D vwCl (LwS z a n ρ σX' aM σM' o (vp_updL g 0 r.toInt64)) H1 → va_D (fun q => s.heap.size ≤ q) (LwS z a n ρ σX' aM σM' o (vp_updL g 0 r.toInt64)) → va_S (fun q => s.heap.size ≤ q) s.heap H1 locs1 → W p l e roomL s m #[Value.ref b] below meth c H1 locs1 cells slots Q (F0 m 2687 ls1 [])) : W p l e roomL s m #[Value.ref b] below meth c H locs cells slots Q (F0 m 1822 ls []) := by
  obtain ⟨hF, hX, hbl, hL3⟩ := id hL
  obtain ⟨hx, hb, hml, hown, hts, hK, hA, hA0, hSt⟩ := id hF
  refine lv_aload_n hx hb dL_law_1822 rfl (lv_at hl 1 rfl) ?_
  refine ld_arg hL hl hS (k := 1) (by omega) (by decide) (by decide) dL_law_1823 dL_law_1824 dL_law_1826 dL_law_1827 dL_law_1828 ?_
  refine lv_aload_n hx hb dL_law_1829 rfl (lv_at hl 3 rfl) ?_
  refine lcH (nA := 3) (mc := 0) (ms := 0) (As := [.ref (a 0), .int (xs (i + 1)), .ref o]) (rest := []) hF (fun sz => hhr_finishWithoutPlace l hl9 D z ts s.heap.size sz a (ktl z a n ρ) σX σX' o g (xs (i + 1)) r hfx) wh_c_finishWithoutPlace wq_1084 wq_1085 wq_86 (by decide +kernel) (by decide) hP hD hS hl.1 (Nat.le_of_ble_eq_true rfl) rfl rfl dL_law_1830 hf (fun H locs hP hD hS => ?_)
  refine lv_istore hx hb dL_law_1833 hl (by decide) rfl (fun ls5 hl => ?_)
  have hl : lv_has ls5 7 [(5, .int 0), (0, .ref b), (1, .ref (a 0)), (2, .ref (aM 0)), (3, .ref o), (4, .int (Int32.ofNat i))] := hl
  have hl : lv_has ls5 7 [(0, .ref b), (1, .ref (a 0)), (2, .ref (aM 0)), (3, .ref o), (4, .int (Int32.ofNat i)), (5, .int 0)] := lv_sb9 hl (by intro q hq; simp only [List.mem_cons, List.not_mem_nil, or_false] at hq ⊢; rcases hq with h | h | h | h | h | h <;> simp [h])
  refine lv_aload_n hx hb dL_law_1835 rfl (lv_at hl 2 rfl) ?_
  refine ld_arg hL hl hS (k := 1) (by omega) (by decide) (by decide) dL_law_1836 dL_law_1837 dL_law_1839 dL_law_1840 dL_law_1841 ?_
  refine lcM (nA := 1) (vs' := [.inl (xs (i + 1))]) (rest := []) hF (ct_X7_finishWithoutPlace l) wq_1700 wq_1697 wq_1698 wq_1699 wq_95 (by decide +kernel) (by decide) rfl hfm hP hD hS hl.1 (Nat.le_of_ble_eq_true rfl) rfl rfl dL_law_1842 hf (fun H locs hP hD hS => ?_)
  refine lv_istore hx hb dL_law_1845 hl (by decide) rfl (fun ls6 hl => ?_)
  have hl : lv_has ls6 7 [(6, .int r), (0, .ref b), (1, .ref (a 0)), (2, .ref (aM 0)), (3, .ref o), (4, .int (Int32.ofNat i)), (5, .int 0)] := hl
  have hl : lv_has ls6 7 [(0, .ref b), (1, .ref (a 0)), (2, .ref (aM 0)), (3, .ref o), (4, .int (Int32.ofNat i)), (5, .int 0), (6, .int r)] := lv_sb9 hl (by intro q hq; simp only [List.mem_cons, List.not_mem_nil, or_false] at hq ⊢; rcases hq with h | h | h | h | h | h | h <;> simp [h])
  refine lv_aload_n hx hb dL_law_1847 rfl (lv_at hl 2 rfl) ?_
  refine lcM (nA := 0) (vs' := []) (rest := []) (σM' := σM') (r := σM' 0 0) hF (ct_X7_thrown l) wq_1304 wq_1301 wq_1302 wq_1303 wq_95 (by decide +kernel) (by decide) rfl (e_X7_thrown σM') hP hD hS hl.1 (Nat.le_of_ble_eq_true rfl) rfl rfl dL_law_1848 hf (fun H locs hP hD hS => ?_)
  refine lv_iload hx hb dL_law_1851 (lv_at hl 5 rfl) ?_
  refine lv_icmp_eq hx hb dL_law_1853 (tgt := 1858) (by decide) (fun _ => ?_) (fun h9 => absurd hth h9)
  refine lv_iload hx hb dL_law_1858 (lv_at hl 5 rfl) ?_
  refine lv_if_ne hx hb dL_law_1860 (tgt := 1875) (by decide) (fun h9 => absurd rfl h9) (fun _ => ?_)
  refine lv_aload_n hx hb dL_law_1863 rfl (lv_at hl 3 rfl) ?_
  refine lv_iconst (v := 0) hx hb dL_law_1864 (by decide) ?_
  refine va_lald hx hb hK hP 22 3 lw22 rfl (inb_vp rfl) dL_law_1865 ?_
  refine lv_iload hx hb dL_law_1866 (lv_at hl 6 rfl) ?_
  refine lv_i2l hx hb dL_law_1868 rfl ?_
  refine W.lcmp hx hb dL_law_1869 ?_
  rw [lcmp_same]
  refine lv_if_eq hx hb dL_law_1870 (tgt := 1875) (by decide) (fun _ => ?_) (fun h9 => absurd rfl h9)
  refine lv_goto hx hb dL_law_1875 (tgt := 2687) (by decide) ?_
  exact kk H locs ls6 (lv_sb9 hl (by intro q hq; simp only [List.mem_cons, List.not_mem_nil, or_false] at hq ⊢; rcases hq with h | h | h | h | h <;> simp [h])) hP hD hS
theorem lu_35 (hl9 : l.stackTraces = false) (hL : Lc p s m c D z ts b L xs) (hi : i + 6 ≤ L) (hl : lv_has ls 7 [(0, .ref b), (1, .ref (a 0)), (2, .ref (aM 0)), (3, .ref o), (4, .int (Int32.ofNat i))]) (hP : va_P D vwCl (LwS z a n ρ σX aM σM o g) H) (hD : va_D (fun q => s.heap.size ≤ q) (LwS z a n ρ σX aM σM o g)) (hS : va_S (fun q => s.heap.size ≤ q) s.heap H locs) (hf : (cells + 1) ≤ 601024 ∧ (slots + 6) ≤ 7293034) (hfx : f_X6_finishWithoutPlace [.inr (.inl 0), .inl (xs (i + 1))] σX = some (none, σX')) (hfm : f_X7_finishWithoutPlace [.inr (.inl 0), .inl (xs (i + 1))] σM = some (some (some (.inl r)), σM')) (hth : σM' 0 0 = 1)
    (kk : ∀ (H1 : Heap) (locs1 : List Loc) (ls1 : Array Slot), lv_has ls1 7 [(0, .ref b), (1, .ref (a 0)), (2, .ref (aM 0)), (3, .ref o), (4, .int (Int32.ofNat i))] → va_P D vwCl (LwS z a n ρ σX' aM σM' o g) H1 → va_D (fun q => s.heap.size ≤ q) (LwS z a n ρ σX' aM σM' o g) → va_S (fun q => s.heap.size ≤ q) s.heap H1 locs1 → W p l e roomL s m #[Value.ref b] below meth c H1 locs1 (cells + 1) (slots + 6) Q (F0 m 2687 ls1 [])) : W p l e roomL s m #[Value.ref b] below meth c H locs cells slots Q (F0 m 1822 ls []) := by
  obtain ⟨hF, hX, hbl, hL3⟩ := id hL
  obtain ⟨hx, hb, hml, hown, hts, hK, hA, hA0, hSt⟩ := id hF
  refine lv_aload_n hx hb dL_law_1822 rfl (lv_at hl 1 rfl) ?_
  refine ld_arg hL hl hS (k := 1) (by omega) (by decide) (by decide) dL_law_1823 dL_law_1824 dL_law_1826 dL_law_1827 dL_law_1828 ?_
  refine lv_aload_n hx hb dL_law_1829 rfl (lv_at hl 3 rfl) ?_
  refine lcH (nA := 3) (mc := 1) (ms := 6) (As := [.ref (a 0), .int (xs (i + 1)), .ref o]) (rest := []) hF (fun sz => hht_finishWithoutPlace l hl9 D z ts s.heap.size sz a (ktl z a n ρ) σX σX' o g (xs (i + 1)) hfx) wh_c_finishWithoutPlace wq_1084 wq_1085 wq_86 (by decide +kernel) (by decide) hP hD hS hl.1 (Nat.le_of_ble_eq_true rfl) rfl rfl dL_law_1830 hf (fun H locs hP hD hS => ?_)
  refine lv_istore hx hb dL_law_1833 hl (by decide) rfl (fun ls5 hl => ?_)
  have hl : lv_has ls5 7 [(5, .int 1), (0, .ref b), (1, .ref (a 0)), (2, .ref (aM 0)), (3, .ref o), (4, .int (Int32.ofNat i))] := hl
  have hl : lv_has ls5 7 [(0, .ref b), (1, .ref (a 0)), (2, .ref (aM 0)), (3, .ref o), (4, .int (Int32.ofNat i)), (5, .int 1)] := lv_sb9 hl (by intro q hq; simp only [List.mem_cons, List.not_mem_nil, or_false] at hq ⊢; rcases hq with h | h | h | h | h | h <;> simp [h])
  refine lv_aload_n hx hb dL_law_1835 rfl (lv_at hl 2 rfl) ?_
  refine ld_arg hL hl hS (k := 1) (by omega) (by decide) (by decide) dL_law_1836 dL_law_1837 dL_law_1839 dL_law_1840 dL_law_1841 ?_
  refine lcM (nA := 1) (vs' := [.inl (xs (i + 1))]) (rest := []) hF (ct_X7_finishWithoutPlace l) wq_1700 wq_1697 wq_1698 wq_1699 wq_95 (by decide +kernel) (by decide) rfl hfm hP hD hS hl.1 (Nat.le_of_ble_eq_true rfl) rfl rfl dL_law_1842 hf (fun H locs hP hD hS => ?_)
  refine lv_istore hx hb dL_law_1845 hl (by decide) rfl (fun ls6 hl => ?_)
  have hl : lv_has ls6 7 [(6, .int r), (0, .ref b), (1, .ref (a 0)), (2, .ref (aM 0)), (3, .ref o), (4, .int (Int32.ofNat i)), (5, .int 1)] := hl
  have hl : lv_has ls6 7 [(0, .ref b), (1, .ref (a 0)), (2, .ref (aM 0)), (3, .ref o), (4, .int (Int32.ofNat i)), (5, .int 1), (6, .int r)] := lv_sb9 hl (by intro q hq; simp only [List.mem_cons, List.not_mem_nil, or_false] at hq ⊢; rcases hq with h | h | h | h | h | h | h <;> simp [h])
  refine lv_aload_n hx hb dL_law_1847 rfl (lv_at hl 2 rfl) ?_
  refine lcM (nA := 0) (vs' := []) (rest := []) (σM' := σM') (r := σM' 0 0) hF (ct_X7_thrown l) wq_1304 wq_1301 wq_1302 wq_1303 wq_95 (by decide +kernel) (by decide) rfl (e_X7_thrown σM') hP hD hS hl.1 (Nat.le_of_ble_eq_true rfl) rfl rfl dL_law_1848 hf (fun H locs hP hD hS => ?_)
  refine lv_iload hx hb dL_law_1851 (lv_at hl 5 rfl) ?_
  refine lv_icmp_eq hx hb dL_law_1853 (tgt := 1858) (by decide) (fun _ => ?_) (fun h9 => absurd hth h9)
  refine lv_iload hx hb dL_law_1858 (lv_at hl 5 rfl) ?_
  refine lv_if_ne hx hb dL_law_1860 (tgt := 1875) (by decide) (fun _ => ?_) (fun h9 => absurd h9 (by decide))
  refine lv_goto hx hb dL_law_1875 (tgt := 2687) (by decide) ?_
  exact kk H locs ls6 (lv_sb9 hl (by intro q hq; simp only [List.mem_cons, List.not_mem_nil, or_false] at hq ⊢; rcases hq with h | h | h | h | h <;> simp [h])) hP hD hS
end CASES
