section CASES
variable {p : Program} {l : Launch} {e : Env} {s : State} {m : MethodId} {below : List Frame} {meth : Method} {c : Code} {D : va_G} {z : Nat → ClassId} {ts : Nat → Nat} {b L : Nat} {xs : Nat → Int32} {a aM : Nat → Nat} {n n' : Nat} {ρ ρ' : Nat → Mm} {σX σX' σM σM' : Mm} {o : Nat} {g : Nat → Int64} {H : Heap} {locs : List Loc} {ls : Array Slot} {Q : State → Prop} {cells slots mc ms i : Nat} {r : Int32}
theorem lt_48 (hl9 : l.stackTraces = false) (hL : Lc p s m c D z ts b L xs) (hi : i + 6 ≤ L) (hl : lv_has ls 7 [(0, .ref b), (1, .ref (a 0)), (2, .ref (aM 0)), (3, .ref o), (4, .int (Int32.ofNat i))]) (hP : va_P D vwCl (LwS z a n ρ σX aM σM o g) H) (hD : va_D (fun q => s.heap.size ≤ q) (LwS z a n ρ σX aM σM o g)) (hS : va_S (fun q => s.heap.size ≤ q) s.heap H locs) (hf : cells ≤ 601024 ∧ slots ≤ 7293034) (hfx : f_X6_ironInPlace [.inr (.inl 0), .inl (xs (i + 1)), .inl (xs (i + 2))] σX = some (some (some (.inl r)), σX')) (hfm : f_X7_ironInPlace [.inr (.inl 0), .inl (xs (i + 1)), .inl (xs (i + 2))] σM = some (some (some (.inl r)), σM')) (hth : σM' 0 0 = 0)
    (kk : ∀ (H1 : Heap) (locs1 : List Loc) (ls1 : Array Slot), lv_has ls1 7 [(0, .ref b), (1, .ref (a 0)), (2, .ref (aM 0)), (3, .ref o), (4, .int (Int32.ofNat i))] → va_P D vwCl (LwS z a n ρ σX' aM σM' o (vp_updL g 0 r.toInt64)) H1 → va_D (fun q => s.heap.size ≤ q) (LwS z a n ρ σX' aM σM' o (vp_updL g 0 r.toInt64)) → va_S (fun q => s.heap.size ≤ q) s.heap H1 locs1 → W p l e roomL s m #[Value.ref b] below meth c H1 locs1 cells slots Q (F0 m 2687 ls1 [])) : W p l e roomL s m #[Value.ref b] below meth c H locs cells slots Q (F0 m 2338 ls []) := by
  obtain ⟨hF, hX, hbl, hL3⟩ := id hL
  obtain ⟨hx, hb, hml, hown, hts, hK, hA, hA0, hSt⟩ := id hF
  refine lv_aload_n hx hb dL_law_2338 rfl (lv_at hl 1 rfl) ?_
  refine ld_arg hL hl hS (k := 1) (by omega) (by decide) (by decide) dL_law_2339 dL_law_2340 dL_law_2342 dL_law_2343 dL_law_2344 ?_
  refine ld_arg hL hl hS (k := 2) (by omega) (by decide) (by decide) dL_law_2345 dL_law_2346 dL_law_2348 dL_law_2349 dL_law_2350 ?_
  refine lv_aload_n hx hb dL_law_2351 rfl (lv_at hl 3 rfl) ?_
  refine lcH (nA := 4) (mc := 0) (ms := 0) (As := [.ref (a 0), .int (xs (i + 1)), .int (xs (i + 2)), .ref o]) (rest := []) hF (fun sz => hhr_ironInPlace l hl9 D z ts s.heap.size sz a (ktl z a n ρ) σX σX' o g (xs (i + 1)) (xs (i + 2)) r hfx) wh_c_ironInPlace wq_1131 wq_1132 wq_86 (by decide +kernel) (by decide) hP hD hS hl.1 (Nat.le_of_ble_eq_true rfl) rfl rfl dL_law_2352 hf (fun H locs hP hD hS => ?_)
  refine lv_istore hx hb dL_law_2355 hl (by decide) rfl (fun ls5 hl => ?_)
  have hl : lv_has ls5 7 [(5, .int 0), (0, .ref b), (1, .ref (a 0)), (2, .ref (aM 0)), (3, .ref o), (4, .int (Int32.ofNat i))] := hl
  have hl : lv_has ls5 7 [(0, .ref b), (1, .ref (a 0)), (2, .ref (aM 0)), (3, .ref o), (4, .int (Int32.ofNat i)), (5, .int 0)] := lv_sb9 hl (by intro q hq; simp only [List.mem_cons, List.not_mem_nil, or_false] at hq ⊢; rcases hq with h | h | h | h | h | h <;> simp [h])
  refine lv_aload_n hx hb dL_law_2357 rfl (lv_at hl 2 rfl) ?_
  refine ld_arg hL hl hS (k := 1) (by omega) (by decide) (by decide) dL_law_2358 dL_law_2359 dL_law_2361 dL_law_2362 dL_law_2363 ?_
  refine ld_arg hL hl hS (k := 2) (by omega) (by decide) (by decide) dL_law_2364 dL_law_2365 dL_law_2367 dL_law_2368 dL_law_2369 ?_
  refine lcM (nA := 2) (vs' := [.inl (xs (i + 1)), .inl (xs (i + 2))]) (rest := []) hF (ct_X7_ironInPlace l) wq_1629 wq_1626 wq_1627 wq_1628 wq_95 (by decide +kernel) (by decide) rfl hfm hP hD hS hl.1 (Nat.le_of_ble_eq_true rfl) rfl rfl dL_law_2370 hf (fun H locs hP hD hS => ?_)
  refine lv_istore hx hb dL_law_2373 hl (by decide) rfl (fun ls6 hl => ?_)
  have hl : lv_has ls6 7 [(6, .int r), (0, .ref b), (1, .ref (a 0)), (2, .ref (aM 0)), (3, .ref o), (4, .int (Int32.ofNat i)), (5, .int 0)] := hl
  have hl : lv_has ls6 7 [(0, .ref b), (1, .ref (a 0)), (2, .ref (aM 0)), (3, .ref o), (4, .int (Int32.ofNat i)), (5, .int 0), (6, .int r)] := lv_sb9 hl (by intro q hq; simp only [List.mem_cons, List.not_mem_nil, or_false] at hq ⊢; rcases hq with h | h | h | h | h | h | h <;> simp [h])
  refine lv_aload_n hx hb dL_law_2375 rfl (lv_at hl 2 rfl) ?_
  refine lcM (nA := 0) (vs' := []) (rest := []) (σM' := σM') (r := σM' 0 0) hF (ct_X7_thrown l) wq_1304 wq_1301 wq_1302 wq_1303 wq_95 (by decide +kernel) (by decide) rfl (e_X7_thrown σM') hP hD hS hl.1 (Nat.le_of_ble_eq_true rfl) rfl rfl dL_law_2376 hf (fun H locs hP hD hS => ?_)
  refine lv_iload hx hb dL_law_2379 (lv_at hl 5 rfl) ?_
  refine lv_icmp_eq hx hb dL_law_2381 (tgt := 2386) (by decide) (fun _ => ?_) (fun h9 => absurd hth h9)
  refine lv_iload hx hb dL_law_2386 (lv_at hl 5 rfl) ?_
  refine lv_if_ne hx hb dL_law_2388 (tgt := 2403) (by decide) (fun h9 => absurd rfl h9) (fun _ => ?_)
  refine lv_aload_n hx hb dL_law_2391 rfl (lv_at hl 3 rfl) ?_
  refine lv_iconst (v := 0) hx hb dL_law_2392 (by decide) ?_
  refine va_lald hx hb hK hP 22 3 lw22 rfl (inb_vp rfl) dL_law_2393 ?_
  refine lv_iload hx hb dL_law_2394 (lv_at hl 6 rfl) ?_
  refine lv_i2l hx hb dL_law_2396 rfl ?_
  refine W.lcmp hx hb dL_law_2397 ?_
  rw [lcmp_same]
  refine lv_if_eq hx hb dL_law_2398 (tgt := 2403) (by decide) (fun _ => ?_) (fun h9 => absurd rfl h9)
  refine lv_goto hx hb dL_law_2403 (tgt := 2687) (by decide) ?_
  exact kk H locs ls6 (lv_sb9 hl (by intro q hq; simp only [List.mem_cons, List.not_mem_nil, or_false] at hq ⊢; rcases hq with h | h | h | h | h <;> simp [h])) hP hD hS
theorem lu_48 (hl9 : l.stackTraces = false) (hL : Lc p s m c D z ts b L xs) (hi : i + 6 ≤ L) (hl : lv_has ls 7 [(0, .ref b), (1, .ref (a 0)), (2, .ref (aM 0)), (3, .ref o), (4, .int (Int32.ofNat i))]) (hP : va_P D vwCl (LwS z a n ρ σX aM σM o g) H) (hD : va_D (fun q => s.heap.size ≤ q) (LwS z a n ρ σX aM σM o g)) (hS : va_S (fun q => s.heap.size ≤ q) s.heap H locs) (hf : (cells + 1) ≤ 601024 ∧ (slots + 6) ≤ 7293034) (hfx : f_X6_ironInPlace [.inr (.inl 0), .inl (xs (i + 1)), .inl (xs (i + 2))] σX = some (none, σX')) (hfm : f_X7_ironInPlace [.inr (.inl 0), .inl (xs (i + 1)), .inl (xs (i + 2))] σM = some (some (some (.inl r)), σM')) (hth : σM' 0 0 = 1)
    (kk : ∀ (H1 : Heap) (locs1 : List Loc) (ls1 : Array Slot), lv_has ls1 7 [(0, .ref b), (1, .ref (a 0)), (2, .ref (aM 0)), (3, .ref o), (4, .int (Int32.ofNat i))] → va_P D vwCl (LwS z a n ρ σX' aM σM' o g) H1 → va_D (fun q => s.heap.size ≤ q) (LwS z a n ρ σX' aM σM' o g) → va_S (fun q => s.heap.size ≤ q) s.heap H1 locs1 → W p l e roomL s m #[Value.ref b] below meth c H1 locs1 (cells + 1) (slots + 6) Q (F0 m 2687 ls1 [])) : W p l e roomL s m #[Value.ref b] below meth c H locs cells slots Q (F0 m 2338 ls []) := by
  obtain ⟨hF, hX, hbl, hL3⟩ := id hL
  obtain ⟨hx, hb, hml, hown, hts, hK, hA, hA0, hSt⟩ := id hF
  refine lv_aload_n hx hb dL_law_2338 rfl (lv_at hl 1 rfl) ?_
  refine ld_arg hL hl hS (k := 1) (by omega) (by decide) (by decide) dL_law_2339 dL_law_2340 dL_law_2342 dL_law_2343 dL_law_2344 ?_
  refine ld_arg hL hl hS (k := 2) (by omega) (by decide) (by decide) dL_law_2345 dL_law_2346 dL_law_2348 dL_law_2349 dL_law_2350 ?_
  refine lv_aload_n hx hb dL_law_2351 rfl (lv_at hl 3 rfl) ?_
  refine lcH (nA := 4) (mc := 1) (ms := 6) (As := [.ref (a 0), .int (xs (i + 1)), .int (xs (i + 2)), .ref o]) (rest := []) hF (fun sz => hht_ironInPlace l hl9 D z ts s.heap.size sz a (ktl z a n ρ) σX σX' o g (xs (i + 1)) (xs (i + 2)) hfx) wh_c_ironInPlace wq_1131 wq_1132 wq_86 (by decide +kernel) (by decide) hP hD hS hl.1 (Nat.le_of_ble_eq_true rfl) rfl rfl dL_law_2352 hf (fun H locs hP hD hS => ?_)
  refine lv_istore hx hb dL_law_2355 hl (by decide) rfl (fun ls5 hl => ?_)
  have hl : lv_has ls5 7 [(5, .int 1), (0, .ref b), (1, .ref (a 0)), (2, .ref (aM 0)), (3, .ref o), (4, .int (Int32.ofNat i))] := hl
  have hl : lv_has ls5 7 [(0, .ref b), (1, .ref (a 0)), (2, .ref (aM 0)), (3, .ref o), (4, .int (Int32.ofNat i)), (5, .int 1)] := lv_sb9 hl (by intro q hq; simp only [List.mem_cons, List.not_mem_nil, or_false] at hq ⊢; rcases hq with h | h | h | h | h | h <;> simp [h])
  refine lv_aload_n hx hb dL_law_2357 rfl (lv_at hl 2 rfl) ?_
  refine ld_arg hL hl hS (k := 1) (by omega) (by decide) (by decide) dL_law_2358 dL_law_2359 dL_law_2361 dL_law_2362 dL_law_2363 ?_
  refine ld_arg hL hl hS (k := 2) (by omega) (by decide) (by decide) dL_law_2364 dL_law_2365 dL_law_2367 dL_law_2368 dL_law_2369 ?_
  refine lcM (nA := 2) (vs' := [.inl (xs (i + 1)), .inl (xs (i + 2))]) (rest := []) hF (ct_X7_ironInPlace l) wq_1629 wq_1626 wq_1627 wq_1628 wq_95 (by decide +kernel) (by decide) rfl hfm hP hD hS hl.1 (Nat.le_of_ble_eq_true rfl) rfl rfl dL_law_2370 hf (fun H locs hP hD hS => ?_)
  refine lv_istore hx hb dL_law_2373 hl (by decide) rfl (fun ls6 hl => ?_)
  have hl : lv_has ls6 7 [(6, .int r), (0, .ref b), (1, .ref (a 0)), (2, .ref (aM 0)), (3, .ref o), (4, .int (Int32.ofNat i)), (5, .int 1)] := hl
  have hl : lv_has ls6 7 [(0, .ref b), (1, .ref (a 0)), (2, .ref (aM 0)), (3, .ref o), (4, .int (Int32.ofNat i)), (5, .int 1), (6, .int r)] := lv_sb9 hl (by intro q hq; simp only [List.mem_cons, List.not_mem_nil, or_false] at hq ⊢; rcases hq with h | h | h | h | h | h | h <;> simp [h])
  refine lv_aload_n hx hb dL_law_2375 rfl (lv_at hl 2 rfl) ?_
  refine lcM (nA := 0) (vs' := []) (rest := []) (σM' := σM') (r := σM' 0 0) hF (ct_X7_thrown l) wq_1304 wq_1301 wq_1302 wq_1303 wq_95 (by decide +kernel) (by decide) rfl (e_X7_thrown σM') hP hD hS hl.1 (Nat.le_of_ble_eq_true rfl) rfl rfl dL_law_2376 hf (fun H locs hP hD hS => ?_)
  refine lv_iload hx hb dL_law_2379 (lv_at hl 5 rfl) ?_
  refine lv_icmp_eq hx hb dL_law_2381 (tgt := 2386) (by decide) (fun _ => ?_) (fun h9 => absurd hth h9)
  refine lv_iload hx hb dL_law_2386 (lv_at hl 5 rfl) ?_
  refine lv_if_ne hx hb dL_law_2388 (tgt := 2403) (by decide) (fun _ => ?_) (fun h9 => absurd h9 (by decide))
  refine lv_goto hx hb dL_law_2403 (tgt := 2687) (by decide) ?_
  exact kk H locs ls6 (lv_sb9 hl (by intro q hq; simp only [List.mem_cons, List.not_mem_nil, or_false] at hq ⊢; rcases hq with h | h | h | h | h <;> simp [h])) hP hD hS
theorem lt_49 (hl9 : l.stackTraces = false) (hL : Lc p s m c D z ts b L xs) (hi : i + 6 ≤ L) (hl : lv_has ls 7 [(0, .ref b), (1, .ref (a 0)), (2, .ref (aM 0)), (3, .ref o), (4, .int (Int32.ofNat i))]) (hP : va_P D vwCl (LwS z a n ρ σX aM σM o g) H) (hD : va_D (fun q => s.heap.size ≤ q) (LwS z a n ρ σX aM σM o g)) (hS : va_S (fun q => s.heap.size ≤ q) s.heap H locs) (hf : cells ≤ 601024 ∧ slots ≤ 7293034) (hfx : f_X6_ironOnAnvil [.inr (.inl 0), .inl (xs (i + 1)), .inl (xs (i + 2))] σX = some (some (some (.inl r)), σX')) (hfm : f_X7_ironOnAnvil [.inr (.inl 0), .inl (xs (i + 1)), .inl (xs (i + 2))] σM = some (some (some (.inl r)), σM')) (hth : σM' 0 0 = 0)
    (kk : ∀ (H1 : Heap) (locs1 : List Loc) (ls1 : Array Slot), lv_has ls1 7 [(0, .ref b), (1, .ref (a 0)), (2, .ref (aM 0)), (3, .ref o), (4, .int (Int32.ofNat i))] → va_P D vwCl (LwS z a n ρ σX' aM σM' o (vp_updL g 0 r.toInt64)) H1 → va_D (fun q => s.heap.size ≤ q) (LwS z a n ρ σX' aM σM' o (vp_updL g 0 r.toInt64)) → va_S (fun q => s.heap.size ≤ q) s.heap H1 locs1 → W p l e roomL s m #[Value.ref b] below meth c H1 locs1 cells slots Q (F0 m 2687 ls1 [])) : W p l e roomL s m #[Value.ref b] below meth c H locs cells slots Q (F0 m 2406 ls []) := by
  obtain ⟨hF, hX, hbl, hL3⟩ := id hL
  obtain ⟨hx, hb, hml, hown, hts, hK, hA, hA0, hSt⟩ := id hF
  refine lv_aload_n hx hb dL_law_2406 rfl (lv_at hl 1 rfl) ?_
  refine ld_arg hL hl hS (k := 1) (by omega) (by decide) (by decide) dL_law_2407 dL_law_2408 dL_law_2410 dL_law_2411 dL_law_2412 ?_
  refine ld_arg hL hl hS (k := 2) (by omega) (by decide) (by decide) dL_law_2413 dL_law_2414 dL_law_2416 dL_law_2417 dL_law_2418 ?_
  refine lv_aload_n hx hb dL_law_2419 rfl (lv_at hl 3 rfl) ?_
  refine lcH (nA := 4) (mc := 0) (ms := 0) (As := [.ref (a 0), .int (xs (i + 1)), .int (xs (i + 2)), .ref o]) (rest := []) hF (fun sz => hhr_ironOnAnvil l hl9 D z ts s.heap.size sz a (ktl z a n ρ) σX σX' o g (xs (i + 1)) (xs (i + 2)) r hfx) wh_c_ironOnAnvil wq_1139 wq_1140 wq_86 (by decide +kernel) (by decide) hP hD hS hl.1 (Nat.le_of_ble_eq_true rfl) rfl rfl dL_law_2420 hf (fun H locs hP hD hS => ?_)
  refine lv_istore hx hb dL_law_2423 hl (by decide) rfl (fun ls5 hl => ?_)
  have hl : lv_has ls5 7 [(5, .int 0), (0, .ref b), (1, .ref (a 0)), (2, .ref (aM 0)), (3, .ref o), (4, .int (Int32.ofNat i))] := hl
  have hl : lv_has ls5 7 [(0, .ref b), (1, .ref (a 0)), (2, .ref (aM 0)), (3, .ref o), (4, .int (Int32.ofNat i)), (5, .int 0)] := lv_sb9 hl (by intro q hq; simp only [List.mem_cons, List.not_mem_nil, or_false] at hq ⊢; rcases hq with h | h | h | h | h | h <;> simp [h])
  refine lv_aload_n hx hb dL_law_2425 rfl (lv_at hl 2 rfl) ?_
  refine ld_arg hL hl hS (k := 1) (by omega) (by decide) (by decide) dL_law_2426 dL_law_2427 dL_law_2429 dL_law_2430 dL_law_2431 ?_
  refine ld_arg hL hl hS (k := 2) (by omega) (by decide) (by decide) dL_law_2432 dL_law_2433 dL_law_2435 dL_law_2436 dL_law_2437 ?_
  refine lcM (nA := 2) (vs' := [.inl (xs (i + 1)), .inl (xs (i + 2))]) (rest := []) hF (ct_X7_ironOnAnvil l) wq_1637 wq_1634 wq_1635 wq_1636 wq_95 (by decide +kernel) (by decide) rfl hfm hP hD hS hl.1 (Nat.le_of_ble_eq_true rfl) rfl rfl dL_law_2438 hf (fun H locs hP hD hS => ?_)
  refine lv_istore hx hb dL_law_2441 hl (by decide) rfl (fun ls6 hl => ?_)
  have hl : lv_has ls6 7 [(6, .int r), (0, .ref b), (1, .ref (a 0)), (2, .ref (aM 0)), (3, .ref o), (4, .int (Int32.ofNat i)), (5, .int 0)] := hl
  have hl : lv_has ls6 7 [(0, .ref b), (1, .ref (a 0)), (2, .ref (aM 0)), (3, .ref o), (4, .int (Int32.ofNat i)), (5, .int 0), (6, .int r)] := lv_sb9 hl (by intro q hq; simp only [List.mem_cons, List.not_mem_nil, or_false] at hq ⊢; rcases hq with h | h | h | h | h | h | h <;> simp [h])
  refine lv_aload_n hx hb dL_law_2443 rfl (lv_at hl 2 rfl) ?_
  refine lcM (nA := 0) (vs' := []) (rest := []) (σM' := σM') (r := σM' 0 0) hF (ct_X7_thrown l) wq_1304 wq_1301 wq_1302 wq_1303 wq_95 (by decide +kernel) (by decide) rfl (e_X7_thrown σM') hP hD hS hl.1 (Nat.le_of_ble_eq_true rfl) rfl rfl dL_law_2444 hf (fun H locs hP hD hS => ?_)
  refine lv_iload hx hb dL_law_2447 (lv_at hl 5 rfl) ?_
  refine lv_icmp_eq hx hb dL_law_2449 (tgt := 2454) (by decide) (fun _ => ?_) (fun h9 => absurd hth h9)
  refine lv_iload hx hb dL_law_2454 (lv_at hl 5 rfl) ?_
  refine lv_if_ne hx hb dL_law_2456 (tgt := 2471) (by decide) (fun h9 => absurd rfl h9) (fun _ => ?_)
  refine lv_aload_n hx hb dL_law_2459 rfl (lv_at hl 3 rfl) ?_
  refine lv_iconst (v := 0) hx hb dL_law_2460 (by decide) ?_
  refine va_lald hx hb hK hP 22 3 lw22 rfl (inb_vp rfl) dL_law_2461 ?_
  refine lv_iload hx hb dL_law_2462 (lv_at hl 6 rfl) ?_
  refine lv_i2l hx hb dL_law_2464 rfl ?_
  refine W.lcmp hx hb dL_law_2465 ?_
  rw [lcmp_same]
  refine lv_if_eq hx hb dL_law_2466 (tgt := 2471) (by decide) (fun _ => ?_) (fun h9 => absurd rfl h9)
  refine lv_goto hx hb dL_law_2471 (tgt := 2687) (by decide) ?_
  exact kk H locs ls6 (lv_sb9 hl (by intro q hq; simp only [List.mem_cons, List.not_mem_nil, or_false] at hq ⊢; rcases hq with h | h | h | h | h <;> simp [h])) hP hD hS
theorem lu_49 (hl9 : l.stackTraces = false) (hL : Lc p s m c D z ts b L xs) (hi : i + 6 ≤ L) (hl : lv_has ls 7 [(0, .ref b), (1, .ref (a 0)), (2, .ref (aM 0)), (3, .ref o), (4, .int (Int32.ofNat i))]) (hP : va_P D vwCl (LwS z a n ρ σX aM σM o g) H) (hD : va_D (fun q => s.heap.size ≤ q) (LwS z a n ρ σX aM σM o g)) (hS : va_S (fun q => s.heap.size ≤ q) s.heap H locs) (hf : (cells + 1) ≤ 601024 ∧ (slots + 6) ≤ 7293034) (hfx : f_X6_ironOnAnvil [.inr (.inl 0), .inl (xs (i + 1)), .inl (xs (i + 2))] σX = some (none, σX')) (hfm : f_X7_ironOnAnvil [.inr (.inl 0), .inl (xs (i + 1)), .inl (xs (i + 2))] σM = some (some (some (.inl r)), σM')) (hth : σM' 0 0 = 1)
    (kk : ∀ (H1 : Heap) (locs1 : List Loc) (ls1 : Array Slot), lv_has ls1 7 [(0, .ref b), (1, .ref (a 0)), (2, .ref (aM 0)), (3, .ref o), (4, .int (Int32.ofNat i))] → va_P D vwCl (LwS z a n ρ σX' aM σM' o g) H1 → va_D (fun q => s.heap.size ≤ q) (LwS z a n ρ σX' aM σM' o g) → va_S (fun q => s.heap.size ≤ q) s.heap H1 locs1 → W p l e roomL s m #[Value.ref b] below meth c H1 locs1 (cells + 1) (slots + 6) Q (F0 m 2687 ls1 [])) : W p l e roomL s m #[Value.ref b] below meth c H locs cells slots Q (F0 m 2406 ls []) := by
  obtain ⟨hF, hX, hbl, hL3⟩ := id hL
  obtain ⟨hx, hb, hml, hown, hts, hK, hA, hA0, hSt⟩ := id hF
  refine lv_aload_n hx hb dL_law_2406 rfl (lv_at hl 1 rfl) ?_
  refine ld_arg hL hl hS (k := 1) (by omega) (by decide) (by decide) dL_law_2407 dL_law_2408 dL_law_2410 dL_law_2411 dL_law_2412 ?_
  refine ld_arg hL hl hS (k := 2) (by omega) (by decide) (by decide) dL_law_2413 dL_law_2414 dL_law_2416 dL_law_2417 dL_law_2418 ?_
  refine lv_aload_n hx hb dL_law_2419 rfl (lv_at hl 3 rfl) ?_
  refine lcH (nA := 4) (mc := 1) (ms := 6) (As := [.ref (a 0), .int (xs (i + 1)), .int (xs (i + 2)), .ref o]) (rest := []) hF (fun sz => hht_ironOnAnvil l hl9 D z ts s.heap.size sz a (ktl z a n ρ) σX σX' o g (xs (i + 1)) (xs (i + 2)) hfx) wh_c_ironOnAnvil wq_1139 wq_1140 wq_86 (by decide +kernel) (by decide) hP hD hS hl.1 (Nat.le_of_ble_eq_true rfl) rfl rfl dL_law_2420 hf (fun H locs hP hD hS => ?_)
  refine lv_istore hx hb dL_law_2423 hl (by decide) rfl (fun ls5 hl => ?_)
  have hl : lv_has ls5 7 [(5, .int 1), (0, .ref b), (1, .ref (a 0)), (2, .ref (aM 0)), (3, .ref o), (4, .int (Int32.ofNat i))] := hl
  have hl : lv_has ls5 7 [(0, .ref b), (1, .ref (a 0)), (2, .ref (aM 0)), (3, .ref o), (4, .int (Int32.ofNat i)), (5, .int 1)] := lv_sb9 hl (by intro q hq; simp only [List.mem_cons, List.not_mem_nil, or_false] at hq ⊢; rcases hq with h | h | h | h | h | h <;> simp [h])
  refine lv_aload_n hx hb dL_law_2425 rfl (lv_at hl 2 rfl) ?_
  refine ld_arg hL hl hS (k := 1) (by omega) (by decide) (by decide) dL_law_2426 dL_law_2427 dL_law_2429 dL_law_2430 dL_law_2431 ?_
  refine ld_arg hL hl hS (k := 2) (by omega) (by decide) (by decide) dL_law_2432 dL_law_2433 dL_law_2435 dL_law_2436 dL_law_2437 ?_
  refine lcM (nA := 2) (vs' := [.inl (xs (i + 1)), .inl (xs (i + 2))]) (rest := []) hF (ct_X7_ironOnAnvil l) wq_1637 wq_1634 wq_1635 wq_1636 wq_95 (by decide +kernel) (by decide) rfl hfm hP hD hS hl.1 (Nat.le_of_ble_eq_true rfl) rfl rfl dL_law_2438 hf (fun H locs hP hD hS => ?_)
  refine lv_istore hx hb dL_law_2441 hl (by decide) rfl (fun ls6 hl => ?_)
  have hl : lv_has ls6 7 [(6, .int r), (0, .ref b), (1, .ref (a 0)), (2, .ref (aM 0)), (3, .ref o), (4, .int (Int32.ofNat i)), (5, .int 1)] := hl
  have hl : lv_has ls6 7 [(0, .ref b), (1, .ref (a 0)), (2, .ref (aM 0)), (3, .ref o), (4, .int (Int32.ofNat i)), (5, .int 1), (6, .int r)] := lv_sb9 hl (by intro q hq; simp only [List.mem_cons, List.not_mem_nil, or_false] at hq ⊢; rcases hq with h | h | h | h | h | h | h <;> simp [h])
  refine lv_aload_n hx hb dL_law_2443 rfl (lv_at hl 2 rfl) ?_
  refine lcM (nA := 0) (vs' := []) (rest := []) (σM' := σM') (r := σM' 0 0) hF (ct_X7_thrown l) wq_1304 wq_1301 wq_1302 wq_1303 wq_95 (by decide +kernel) (by decide) rfl (e_X7_thrown σM') hP hD hS hl.1 (Nat.le_of_ble_eq_true rfl) rfl rfl dL_law_2444 hf (fun H locs hP hD hS => ?_)
  refine lv_iload hx hb dL_law_2447 (lv_at hl 5 rfl) ?_
  refine lv_icmp_eq hx hb dL_law_2449 (tgt := 2454) (by decide) (fun _ => ?_) (fun h9 => absurd hth h9)
  refine lv_iload hx hb dL_law_2454 (lv_at hl 5 rfl) ?_
  refine lv_if_ne hx hb dL_law_2456 (tgt := 2471) (by decide) (fun _ => ?_) (fun h9 => absurd h9 (by decide))
  refine lv_goto hx hb dL_law_2471 (tgt := 2687) (by decide) ?_
  exact kk H locs ls6 (lv_sb9 hl (by intro q hq; simp only [List.mem_cons, List.not_mem_nil, or_false] at hq ⊢; rcases hq with h | h | h | h | h <;> simp [h])) hP hD hS
theorem lc_50 (hl9 : l.stackTraces = false) (hL : Lc p s m c D z ts b L xs) (hi : i + 6 ≤ L) (hl : lv_has ls 7 [(0, .ref b), (1, .ref (a 0)), (2, .ref (aM 0)), (3, .ref o), (4, .int (Int32.ofNat i))]) (hP : va_P D vwCl (LwS z a n ρ σX aM σM o g) H) (hD : va_D (fun q => s.heap.size ≤ q) (LwS z a n ρ σX aM σM o g)) (hS : va_S (fun q => s.heap.size ≤ q) s.heap H locs) (hf : cells ≤ 601024 ∧ slots ≤ 7293034) (hfx : f_X6_finishedBy [.inr (.inl 0), .inl (xs (i + 1))] σX = some (some (some (.inl r)), σX')) (hfm : f_X7_finishedBy [.inr (.inl 0), .inl (xs (i + 1))] σM = some (some (some (.inl r)), σM'))
    (kk : ∀ (H1 : Heap) (locs1 : List Loc), va_P D vwCl (LwS z a n ρ σX' aM σM' o g) H1 → va_D (fun q => s.heap.size ≤ q) (LwS z a n ρ σX' aM σM' o g) → va_S (fun q => s.heap.size ≤ q) s.heap H1 locs1 → W p l e roomL s m #[Value.ref b] below meth c H1 locs1 cells slots Q (F0 m 2687 ls [])) : W p l e roomL s m #[Value.ref b] below meth c H locs cells slots Q (F0 m 2474 ls []) := by
  obtain ⟨hF, hX, hbl, hL3⟩ := id hL
  obtain ⟨hx, hb, hml, hown, hts, hK, hA, hA0, hSt⟩ := id hF
  refine lv_aload_n hx hb dL_law_2474 rfl (lv_at hl 1 rfl) ?_
  refine ld_arg hL hl hS (k := 1) (by omega) (by decide) (by decide) dL_law_2475 dL_law_2476 dL_law_2478 dL_law_2479 dL_law_2480 ?_
  refine lcX (nA := 1) (vs' := [.inl (xs (i + 1))]) (rest := []) hF (ct_X6_finishedBy l hl9) wq_770 wq_767 wq_768 wq_769 wq_87 (by decide +kernel) (by decide) rfl hfx hP hD hS hl.1 (Nat.le_of_ble_eq_true rfl) rfl rfl dL_law_2481 hf (fun H locs hP hD hS => ?_)
  refine lv_aload_n hx hb dL_law_2484 rfl (lv_at hl 2 rfl) ?_
  refine ld_arg hL hl hS (k := 1) (by omega) (by decide) (by decide) dL_law_2485 dL_law_2486 dL_law_2488 dL_law_2489 dL_law_2490 ?_
  refine lcM (nA := 1) (vs' := [.inl (xs (i + 1))]) (rest := [.int r]) hF (ct_X7_finishedBy l) wq_1641 wq_1638 wq_1639 wq_1640 wq_95 (by decide +kernel) (by decide) rfl hfm hP hD hS hl.1 (Nat.le_of_ble_eq_true rfl) rfl rfl dL_law_2491 hf (fun H locs hP hD hS => ?_)
  exact lv_icmp_eq hx hb dL_law_2494 (tgt := 2687) (by decide) (fun _ => kk H locs hP hD hS) (fun h9 => absurd rfl h9)
theorem lc_51 (hl9 : l.stackTraces = false) (hL : Lc p s m c D z ts b L xs) (hi : i + 6 ≤ L) (hl : lv_has ls 7 [(0, .ref b), (1, .ref (a 0)), (2, .ref (aM 0)), (3, .ref o), (4, .int (Int32.ofNat i))]) (hP : va_P D vwCl (LwS z a n ρ σX aM σM o g) H) (hD : va_D (fun q => s.heap.size ≤ q) (LwS z a n ρ σX aM σM o g)) (hS : va_S (fun q => s.heap.size ≤ q) s.heap H locs) (hf : cells ≤ 601024 ∧ slots ≤ 7293034) (hfx : f_X6_idleMinutes [.inr (.inl 0)] σX = some (some (some (.inl r)), σX')) (hfm : f_X7_idleMinutes [.inr (.inl 0)] σM = some (some (some (.inl r)), σM'))
    (kk : ∀ (H1 : Heap) (locs1 : List Loc), va_P D vwCl (LwS z a n ρ σX' aM σM' o g) H1 → va_D (fun q => s.heap.size ≤ q) (LwS z a n ρ σX' aM σM' o g) → va_S (fun q => s.heap.size ≤ q) s.heap H1 locs1 → W p l e roomL s m #[Value.ref b] below meth c H1 locs1 cells slots Q (F0 m 2687 ls [])) : W p l e roomL s m #[Value.ref b] below meth c H locs cells slots Q (F0 m 2499 ls []) := by
  obtain ⟨hF, hX, hbl, hL3⟩ := id hL
  obtain ⟨hx, hb, hml, hown, hts, hK, hA, hA0, hSt⟩ := id hF
  refine lv_aload_n hx hb dL_law_2499 rfl (lv_at hl 1 rfl) ?_
  refine lcX (nA := 0) (vs' := []) (rest := []) hF (ct_X6_idleMinutes l hl9) wq_782 wq_779 wq_780 wq_781 wq_87 (by decide +kernel) (by decide) rfl hfx hP hD hS hl.1 (Nat.le_of_ble_eq_true rfl) rfl rfl dL_law_2500 hf (fun H locs hP hD hS => ?_)
  refine lv_aload_n hx hb dL_law_2503 rfl (lv_at hl 2 rfl) ?_
  refine lcM (nA := 0) (vs' := []) (rest := [.int r]) hF (ct_X7_idleMinutes l) wq_1645 wq_1642 wq_1643 wq_1644 wq_95 (by decide +kernel) (by decide) rfl hfm hP hD hS hl.1 (Nat.le_of_ble_eq_true rfl) rfl rfl dL_law_2504 hf (fun H locs hP hD hS => ?_)
  exact lv_icmp_eq hx hb dL_law_2507 (tgt := 2687) (by decide) (fun _ => kk H locs hP hD hS) (fun h9 => absurd rfl h9)
theorem lc_52 (hl9 : l.stackTraces = false) (hL : Lc p s m c D z ts b L xs) (hi : i + 6 ≤ L) (hl : lv_has ls 7 [(0, .ref b), (1, .ref (a 0)), (2, .ref (aM 0)), (3, .ref o), (4, .int (Int32.ofNat i))]) (hP : va_P D vwCl (LwS z a n ρ σX aM σM o g) H) (hD : va_D (fun q => s.heap.size ≤ q) (LwS z a n ρ σX aM σM o g)) (hS : va_S (fun q => s.heap.size ≤ q) s.heap H locs) (hf : cells ≤ 601024 ∧ slots ≤ 7293034) (hfx : f_X6_finishWithAnvils [.inr (.inl 0), .inl (xs (i + 1))] σX = some (some (some (.inl r)), σX')) (hfm : f_X7_finishWithAnvils [.inr (.inl 0), .inl (xs (i + 1))] σM = some (some (some (.inl r)), σM'))
    (kk : ∀ (H1 : Heap) (locs1 : List Loc), va_P D vwCl (LwS z a n ρ σX' aM σM' o g) H1 → va_D (fun q => s.heap.size ≤ q) (LwS z a n ρ σX' aM σM' o g) → va_S (fun q => s.heap.size ≤ q) s.heap H1 locs1 → W p l e roomL s m #[Value.ref b] below meth c H1 locs1 cells slots Q (F0 m 2687 ls [])) : W p l e roomL s m #[Value.ref b] below meth c H locs cells slots Q (F0 m 2512 ls []) := by
  obtain ⟨hF, hX, hbl, hL3⟩ := id hL
  obtain ⟨hx, hb, hml, hown, hts, hK, hA, hA0, hSt⟩ := id hF
  refine lv_aload_n hx hb dL_law_2512 rfl (lv_at hl 1 rfl) ?_
  refine ld_arg hL hl hS (k := 1) (by omega) (by decide) (by decide) dL_law_2513 dL_law_2514 dL_law_2516 dL_law_2517 dL_law_2518 ?_
  refine lcX (nA := 1) (vs' := [.inl (xs (i + 1))]) (rest := []) hF (ct_X6_finishWithAnvils l hl9) wq_799 wq_796 wq_797 wq_798 wq_87 (by decide +kernel) (by decide) rfl hfx hP hD hS hl.1 (Nat.le_of_ble_eq_true rfl) rfl rfl dL_law_2519 hf (fun H locs hP hD hS => ?_)
  refine lv_aload_n hx hb dL_law_2522 rfl (lv_at hl 2 rfl) ?_
  refine ld_arg hL hl hS (k := 1) (by omega) (by decide) (by decide) dL_law_2523 dL_law_2524 dL_law_2526 dL_law_2527 dL_law_2528 ?_
  refine lcM (nA := 1) (vs' := [.inl (xs (i + 1))]) (rest := [.int r]) hF (ct_X7_finishWithAnvils l) wq_1712 wq_1709 wq_1710 wq_1711 wq_95 (by decide +kernel) (by decide) rfl hfm hP hD hS hl.1 (Nat.le_of_ble_eq_true rfl) rfl rfl dL_law_2529 hf (fun H locs hP hD hS => ?_)
  exact lv_icmp_eq hx hb dL_law_2532 (tgt := 2687) (by decide) (fun _ => kk H locs hP hD hS) (fun h9 => absurd rfl h9)
theorem lc_53 (hl9 : l.stackTraces = false) (hL : Lc p s m c D z ts b L xs) (hi : i + 6 ≤ L) (hl : lv_has ls 7 [(0, .ref b), (1, .ref (a 0)), (2, .ref (aM 0)), (3, .ref o), (4, .int (Int32.ofNat i))]) (hP : va_P D vwCl (LwS z a n ρ σX aM σM o g) H) (hD : va_D (fun q => s.heap.size ≤ q) (LwS z a n ρ σX aM σM o g)) (hS : va_S (fun q => s.heap.size ≤ q) s.heap H locs) (hf : cells ≤ 601024 ∧ slots ≤ 7293034) (hfx : f_X6_bestRule [.inr (.inl 0)] σX = some (some (some (.inl r)), σX')) (hfm : f_X7_bestRule [.inr (.inl 0)] σM = some (some (some (.inl r)), σM'))
    (kk : ∀ (H1 : Heap) (locs1 : List Loc), va_P D vwCl (LwS z a n ρ σX' aM σM' o g) H1 → va_D (fun q => s.heap.size ≤ q) (LwS z a n ρ σX' aM σM' o g) → va_S (fun q => s.heap.size ≤ q) s.heap H1 locs1 → W p l e roomL s m #[Value.ref b] below meth c H1 locs1 cells slots Q (F0 m 2687 ls [])) : W p l e roomL s m #[Value.ref b] below meth c H locs cells slots Q (F0 m 2537 ls []) := by
  obtain ⟨hF, hX, hbl, hL3⟩ := id hL
  obtain ⟨hx, hb, hml, hown, hts, hK, hA, hA0, hSt⟩ := id hF
  refine lv_aload_n hx hb dL_law_2537 rfl (lv_at hl 1 rfl) ?_
  refine lcX (nA := 0) (vs' := []) (rest := []) hF (ct_X6_bestRule l hl9) wq_803 wq_800 wq_801 wq_802 wq_87 (by decide +kernel) (by decide) rfl hfx hP hD hS hl.1 (Nat.le_of_ble_eq_true rfl) rfl rfl dL_law_2538 hf (fun H locs hP hD hS => ?_)
  refine lv_aload_n hx hb dL_law_2541 rfl (lv_at hl 2 rfl) ?_
  refine lcM (nA := 0) (vs' := []) (rest := [.int r]) hF (ct_X7_bestRule l) wq_1720 wq_1717 wq_1718 wq_1719 wq_95 (by decide +kernel) (by decide) rfl hfm hP hD hS hl.1 (Nat.le_of_ble_eq_true rfl) rfl rfl dL_law_2542 hf (fun H locs hP hD hS => ?_)
  exact lv_icmp_eq hx hb dL_law_2545 (tgt := 2687) (by decide) (fun _ => kk H locs hP hD hS) (fun h9 => absurd rfl h9)
theorem lt_54 (hl9 : l.stackTraces = false) (hL : Lc p s m c D z ts b L xs) (hi : i + 6 ≤ L) (hl : lv_has ls 7 [(0, .ref b), (1, .ref (a 0)), (2, .ref (aM 0)), (3, .ref o), (4, .int (Int32.ofNat i))]) (hP : va_P D vwCl (LwS z a n ρ σX aM σM o g) H) (hD : va_D (fun q => s.heap.size ≤ q) (LwS z a n ρ σX aM σM o g)) (hS : va_S (fun q => s.heap.size ≤ q) s.heap H locs) (hf : cells ≤ 601024 ∧ slots ≤ 7293034) (hfx : f_X6_finishWithRate [.inr (.inl 0), .inl (xs (i + 1)), .inl (xs (i + 2))] σX = some (some (some (.inl r)), σX')) (hfm : f_X7_finishWithRate [.inr (.inl 0), .inl (xs (i + 1)), .inl (xs (i + 2))] σM = some (some (some (.inl r)), σM')) (hth : σM' 0 0 = 0)
    (kk : ∀ (H1 : Heap) (locs1 : List Loc) (ls1 : Array Slot), lv_has ls1 7 [(0, .ref b), (1, .ref (a 0)), (2, .ref (aM 0)), (3, .ref o), (4, .int (Int32.ofNat i))] → va_P D vwCl (LwS z a n ρ σX' aM σM' o (vp_updL g 0 r.toInt64)) H1 → va_D (fun q => s.heap.size ≤ q) (LwS z a n ρ σX' aM σM' o (vp_updL g 0 r.toInt64)) → va_S (fun q => s.heap.size ≤ q) s.heap H1 locs1 → W p l e roomL s m #[Value.ref b] below meth c H1 locs1 cells slots Q (F0 m 2687 ls1 [])) : W p l e roomL s m #[Value.ref b] below meth c H locs cells slots Q (F0 m 2550 ls []) := by
  obtain ⟨hF, hX, hbl, hL3⟩ := id hL
  obtain ⟨hx, hb, hml, hown, hts, hK, hA, hA0, hSt⟩ := id hF
  refine lv_aload_n hx hb dL_law_2550 rfl (lv_at hl 1 rfl) ?_
  refine ld_arg hL hl hS (k := 1) (by omega) (by decide) (by decide) dL_law_2551 dL_law_2552 dL_law_2554 dL_law_2555 dL_law_2556 ?_
  refine ld_arg hL hl hS (k := 2) (by omega) (by decide) (by decide) dL_law_2557 dL_law_2558 dL_law_2560 dL_law_2561 dL_law_2562 ?_
  refine lv_aload_n hx hb dL_law_2563 rfl (lv_at hl 3 rfl) ?_
  refine lcH (nA := 4) (mc := 0) (ms := 0) (As := [.ref (a 0), .int (xs (i + 1)), .int (xs (i + 2)), .ref o]) (rest := []) hF (fun sz => hhr_finishWithRate l hl9 D z ts s.heap.size sz a (ktl z a n ρ) σX σX' o g (xs (i + 1)) (xs (i + 2)) r hfx) wh_c_finishWithRate wq_1146 wq_1147 wq_86 (by decide +kernel) (by decide) hP hD hS hl.1 (Nat.le_of_ble_eq_true rfl) rfl rfl dL_law_2564 hf (fun H locs hP hD hS => ?_)
  refine lv_istore hx hb dL_law_2567 hl (by decide) rfl (fun ls5 hl => ?_)
  have hl : lv_has ls5 7 [(5, .int 0), (0, .ref b), (1, .ref (a 0)), (2, .ref (aM 0)), (3, .ref o), (4, .int (Int32.ofNat i))] := hl
  have hl : lv_has ls5 7 [(0, .ref b), (1, .ref (a 0)), (2, .ref (aM 0)), (3, .ref o), (4, .int (Int32.ofNat i)), (5, .int 0)] := lv_sb9 hl (by intro q hq; simp only [List.mem_cons, List.not_mem_nil, or_false] at hq ⊢; rcases hq with h | h | h | h | h | h <;> simp [h])
  refine lv_aload_n hx hb dL_law_2569 rfl (lv_at hl 2 rfl) ?_
  refine ld_arg hL hl hS (k := 1) (by omega) (by decide) (by decide) dL_law_2570 dL_law_2571 dL_law_2573 dL_law_2574 dL_law_2575 ?_
  refine ld_arg hL hl hS (k := 2) (by omega) (by decide) (by decide) dL_law_2576 dL_law_2577 dL_law_2579 dL_law_2580 dL_law_2581 ?_
  refine lcM (nA := 2) (vs' := [.inl (xs (i + 1)), .inl (xs (i + 2))]) (rest := []) hF (ct_X7_finishWithRate l) wq_1724 wq_1721 wq_1722 wq_1723 wq_95 (by decide +kernel) (by decide) rfl hfm hP hD hS hl.1 (Nat.le_of_ble_eq_true rfl) rfl rfl dL_law_2582 hf (fun H locs hP hD hS => ?_)
  refine lv_istore hx hb dL_law_2585 hl (by decide) rfl (fun ls6 hl => ?_)
  have hl : lv_has ls6 7 [(6, .int r), (0, .ref b), (1, .ref (a 0)), (2, .ref (aM 0)), (3, .ref o), (4, .int (Int32.ofNat i)), (5, .int 0)] := hl
  have hl : lv_has ls6 7 [(0, .ref b), (1, .ref (a 0)), (2, .ref (aM 0)), (3, .ref o), (4, .int (Int32.ofNat i)), (5, .int 0), (6, .int r)] := lv_sb9 hl (by intro q hq; simp only [List.mem_cons, List.not_mem_nil, or_false] at hq ⊢; rcases hq with h | h | h | h | h | h | h <;> simp [h])
  refine lv_aload_n hx hb dL_law_2587 rfl (lv_at hl 2 rfl) ?_
  refine lcM (nA := 0) (vs' := []) (rest := []) (σM' := σM') (r := σM' 0 0) hF (ct_X7_thrown l) wq_1304 wq_1301 wq_1302 wq_1303 wq_95 (by decide +kernel) (by decide) rfl (e_X7_thrown σM') hP hD hS hl.1 (Nat.le_of_ble_eq_true rfl) rfl rfl dL_law_2588 hf (fun H locs hP hD hS => ?_)
  refine lv_iload hx hb dL_law_2591 (lv_at hl 5 rfl) ?_
  refine lv_icmp_eq hx hb dL_law_2593 (tgt := 2598) (by decide) (fun _ => ?_) (fun h9 => absurd hth h9)
  refine lv_iload hx hb dL_law_2598 (lv_at hl 5 rfl) ?_
  refine lv_if_ne hx hb dL_law_2600 (tgt := 2615) (by decide) (fun h9 => absurd rfl h9) (fun _ => ?_)
  refine lv_aload_n hx hb dL_law_2603 rfl (lv_at hl 3 rfl) ?_
  refine lv_iconst (v := 0) hx hb dL_law_2604 (by decide) ?_
  refine va_lald hx hb hK hP 22 3 lw22 rfl (inb_vp rfl) dL_law_2605 ?_
  refine lv_iload hx hb dL_law_2606 (lv_at hl 6 rfl) ?_
  refine lv_i2l hx hb dL_law_2608 rfl ?_
  refine W.lcmp hx hb dL_law_2609 ?_
  rw [lcmp_same]
  refine lv_if_eq hx hb dL_law_2610 (tgt := 2615) (by decide) (fun _ => ?_) (fun h9 => absurd rfl h9)
  refine lv_goto hx hb dL_law_2615 (tgt := 2687) (by decide) ?_
  exact kk H locs ls6 (lv_sb9 hl (by intro q hq; simp only [List.mem_cons, List.not_mem_nil, or_false] at hq ⊢; rcases hq with h | h | h | h | h <;> simp [h])) hP hD hS
theorem lu_54 (hl9 : l.stackTraces = false) (hL : Lc p s m c D z ts b L xs) (hi : i + 6 ≤ L) (hl : lv_has ls 7 [(0, .ref b), (1, .ref (a 0)), (2, .ref (aM 0)), (3, .ref o), (4, .int (Int32.ofNat i))]) (hP : va_P D vwCl (LwS z a n ρ σX aM σM o g) H) (hD : va_D (fun q => s.heap.size ≤ q) (LwS z a n ρ σX aM σM o g)) (hS : va_S (fun q => s.heap.size ≤ q) s.heap H locs) (hf : (cells + 1) ≤ 601024 ∧ (slots + 6) ≤ 7293034) (hfx : f_X6_finishWithRate [.inr (.inl 0), .inl (xs (i + 1)), .inl (xs (i + 2))] σX = some (none, σX')) (hfm : f_X7_finishWithRate [.inr (.inl 0), .inl (xs (i + 1)), .inl (xs (i + 2))] σM = some (some (some (.inl r)), σM')) (hth : σM' 0 0 = 1)
    (kk : ∀ (H1 : Heap) (locs1 : List Loc) (ls1 : Array Slot), lv_has ls1 7 [(0, .ref b), (1, .ref (a 0)), (2, .ref (aM 0)), (3, .ref o), (4, .int (Int32.ofNat i))] → va_P D vwCl (LwS z a n ρ σX' aM σM' o g) H1 → va_D (fun q => s.heap.size ≤ q) (LwS z a n ρ σX' aM σM' o g) → va_S (fun q => s.heap.size ≤ q) s.heap H1 locs1 → W p l e roomL s m #[Value.ref b] below meth c H1 locs1 (cells + 1) (slots + 6) Q (F0 m 2687 ls1 [])) : W p l e roomL s m #[Value.ref b] below meth c H locs cells slots Q (F0 m 2550 ls []) := by
  obtain ⟨hF, hX, hbl, hL3⟩ := id hL
  obtain ⟨hx, hb, hml, hown, hts, hK, hA, hA0, hSt⟩ := id hF
  refine lv_aload_n hx hb dL_law_2550 rfl (lv_at hl 1 rfl) ?_
  refine ld_arg hL hl hS (k := 1) (by omega) (by decide) (by decide) dL_law_2551 dL_law_2552 dL_law_2554 dL_law_2555 dL_law_2556 ?_
  refine ld_arg hL hl hS (k := 2) (by omega) (by decide) (by decide) dL_law_2557 dL_law_2558 dL_law_2560 dL_law_2561 dL_law_2562 ?_
  refine lv_aload_n hx hb dL_law_2563 rfl (lv_at hl 3 rfl) ?_
  refine lcH (nA := 4) (mc := 1) (ms := 6) (As := [.ref (a 0), .int (xs (i + 1)), .int (xs (i + 2)), .ref o]) (rest := []) hF (fun sz => hht_finishWithRate l hl9 D z ts s.heap.size sz a (ktl z a n ρ) σX σX' o g (xs (i + 1)) (xs (i + 2)) hfx) wh_c_finishWithRate wq_1146 wq_1147 wq_86 (by decide +kernel) (by decide) hP hD hS hl.1 (Nat.le_of_ble_eq_true rfl) rfl rfl dL_law_2564 hf (fun H locs hP hD hS => ?_)
  refine lv_istore hx hb dL_law_2567 hl (by decide) rfl (fun ls5 hl => ?_)
  have hl : lv_has ls5 7 [(5, .int 1), (0, .ref b), (1, .ref (a 0)), (2, .ref (aM 0)), (3, .ref o), (4, .int (Int32.ofNat i))] := hl
  have hl : lv_has ls5 7 [(0, .ref b), (1, .ref (a 0)), (2, .ref (aM 0)), (3, .ref o), (4, .int (Int32.ofNat i)), (5, .int 1)] := lv_sb9 hl (by intro q hq; simp only [List.mem_cons, List.not_mem_nil, or_false] at hq ⊢; rcases hq with h | h | h | h | h | h <;> simp [h])
  refine lv_aload_n hx hb dL_law_2569 rfl (lv_at hl 2 rfl) ?_
  refine ld_arg hL hl hS (k := 1) (by omega) (by decide) (by decide) dL_law_2570 dL_law_2571 dL_law_2573 dL_law_2574 dL_law_2575 ?_
  refine ld_arg hL hl hS (k := 2) (by omega) (by decide) (by decide) dL_law_2576 dL_law_2577 dL_law_2579 dL_law_2580 dL_law_2581 ?_
  refine lcM (nA := 2) (vs' := [.inl (xs (i + 1)), .inl (xs (i + 2))]) (rest := []) hF (ct_X7_finishWithRate l) wq_1724 wq_1721 wq_1722 wq_1723 wq_95 (by decide +kernel) (by decide) rfl hfm hP hD hS hl.1 (Nat.le_of_ble_eq_true rfl) rfl rfl dL_law_2582 hf (fun H locs hP hD hS => ?_)
  refine lv_istore hx hb dL_law_2585 hl (by decide) rfl (fun ls6 hl => ?_)
  have hl : lv_has ls6 7 [(6, .int r), (0, .ref b), (1, .ref (a 0)), (2, .ref (aM 0)), (3, .ref o), (4, .int (Int32.ofNat i)), (5, .int 1)] := hl
  have hl : lv_has ls6 7 [(0, .ref b), (1, .ref (a 0)), (2, .ref (aM 0)), (3, .ref o), (4, .int (Int32.ofNat i)), (5, .int 1), (6, .int r)] := lv_sb9 hl (by intro q hq; simp only [List.mem_cons, List.not_mem_nil, or_false] at hq ⊢; rcases hq with h | h | h | h | h | h | h <;> simp [h])
  refine lv_aload_n hx hb dL_law_2587 rfl (lv_at hl 2 rfl) ?_
  refine lcM (nA := 0) (vs' := []) (rest := []) (σM' := σM') (r := σM' 0 0) hF (ct_X7_thrown l) wq_1304 wq_1301 wq_1302 wq_1303 wq_95 (by decide +kernel) (by decide) rfl (e_X7_thrown σM') hP hD hS hl.1 (Nat.le_of_ble_eq_true rfl) rfl rfl dL_law_2588 hf (fun H locs hP hD hS => ?_)
  refine lv_iload hx hb dL_law_2591 (lv_at hl 5 rfl) ?_
  refine lv_icmp_eq hx hb dL_law_2593 (tgt := 2598) (by decide) (fun _ => ?_) (fun h9 => absurd hth h9)
  refine lv_iload hx hb dL_law_2598 (lv_at hl 5 rfl) ?_
  refine lv_if_ne hx hb dL_law_2600 (tgt := 2615) (by decide) (fun _ => ?_) (fun h9 => absurd h9 (by decide))
  refine lv_goto hx hb dL_law_2615 (tgt := 2687) (by decide) ?_
  exact kk H locs ls6 (lv_sb9 hl (by intro q hq; simp only [List.mem_cons, List.not_mem_nil, or_false] at hq ⊢; rcases hq with h | h | h | h | h <;> simp [h])) hP hD hS
theorem lt_55 (hl9 : l.stackTraces = false) (hL : Lc p s m c D z ts b L xs) (hi : i + 6 ≤ L) (hl : lv_has ls 7 [(0, .ref b), (1, .ref (a 0)), (2, .ref (aM 0)), (3, .ref o), (4, .int (Int32.ofNat i))]) (hP : va_P D vwCl (LwS z a n ρ σX aM σM o g) H) (hD : va_D (fun q => s.heap.size ≤ q) (LwS z a n ρ σX aM σM o g)) (hS : va_S (fun q => s.heap.size ≤ q) s.heap H locs) (hf : cells ≤ 601024 ∧ slots ≤ 7293034) (hfx : f_X6_leastRate [.inr (.inl 0), .inl (xs (i + 1))] σX = some (some (some (.inl r)), σX')) (hfm : f_X7_leastRate [.inr (.inl 0), .inl (xs (i + 1))] σM = some (some (some (.inl r)), σM')) (hth : σM' 0 0 = 0)
    (kk : ∀ (H1 : Heap) (locs1 : List Loc) (ls1 : Array Slot), lv_has ls1 7 [(0, .ref b), (1, .ref (a 0)), (2, .ref (aM 0)), (3, .ref o), (4, .int (Int32.ofNat i))] → va_P D vwCl (LwS z a n ρ σX' aM σM' o (vp_updL g 0 r.toInt64)) H1 → va_D (fun q => s.heap.size ≤ q) (LwS z a n ρ σX' aM σM' o (vp_updL g 0 r.toInt64)) → va_S (fun q => s.heap.size ≤ q) s.heap H1 locs1 → W p l e roomL s m #[Value.ref b] below meth c H1 locs1 cells slots Q (F0 m 2687 ls1 [])) : W p l e roomL s m #[Value.ref b] below meth c H locs cells slots Q (F0 m 2618 ls []) := by
  obtain ⟨hF, hX, hbl, hL3⟩ := id hL
  obtain ⟨hx, hb, hml, hown, hts, hK, hA, hA0, hSt⟩ := id hF
  refine lv_aload_n hx hb dL_law_2618 rfl (lv_at hl 1 rfl) ?_
  refine ld_arg hL hl hS (k := 1) (by omega) (by decide) (by decide) dL_law_2619 dL_law_2620 dL_law_2622 dL_law_2623 dL_law_2624 ?_
  refine lv_aload_n hx hb dL_law_2625 rfl (lv_at hl 3 rfl) ?_
  refine lcH (nA := 3) (mc := 0) (ms := 0) (As := [.ref (a 0), .int (xs (i + 1)), .ref o]) (rest := []) hF (fun sz => hhr_leastRate l hl9 D z ts s.heap.size sz a (ktl z a n ρ) σX σX' o g (xs (i + 1)) r hfx) wh_c_leastRate wq_1153 wq_1154 wq_86 (by decide +kernel) (by decide) hP hD hS hl.1 (Nat.le_of_ble_eq_true rfl) rfl rfl dL_law_2626 hf (fun H locs hP hD hS => ?_)
  refine lv_istore hx hb dL_law_2629 hl (by decide) rfl (fun ls5 hl => ?_)
  have hl : lv_has ls5 7 [(5, .int 0), (0, .ref b), (1, .ref (a 0)), (2, .ref (aM 0)), (3, .ref o), (4, .int (Int32.ofNat i))] := hl
  have hl : lv_has ls5 7 [(0, .ref b), (1, .ref (a 0)), (2, .ref (aM 0)), (3, .ref o), (4, .int (Int32.ofNat i)), (5, .int 0)] := lv_sb9 hl (by intro q hq; simp only [List.mem_cons, List.not_mem_nil, or_false] at hq ⊢; rcases hq with h | h | h | h | h | h <;> simp [h])
  refine lv_aload_n hx hb dL_law_2631 rfl (lv_at hl 2 rfl) ?_
  refine ld_arg hL hl hS (k := 1) (by omega) (by decide) (by decide) dL_law_2632 dL_law_2633 dL_law_2635 dL_law_2636 dL_law_2637 ?_
  refine lcM (nA := 1) (vs' := [.inl (xs (i + 1))]) (rest := []) hF (ct_X7_leastRate l) wq_1728 wq_1725 wq_1726 wq_1727 wq_95 (by decide +kernel) (by decide) rfl hfm hP hD hS hl.1 (Nat.le_of_ble_eq_true rfl) rfl rfl dL_law_2638 hf (fun H locs hP hD hS => ?_)
  refine lv_istore hx hb dL_law_2641 hl (by decide) rfl (fun ls6 hl => ?_)
  have hl : lv_has ls6 7 [(6, .int r), (0, .ref b), (1, .ref (a 0)), (2, .ref (aM 0)), (3, .ref o), (4, .int (Int32.ofNat i)), (5, .int 0)] := hl
  have hl : lv_has ls6 7 [(0, .ref b), (1, .ref (a 0)), (2, .ref (aM 0)), (3, .ref o), (4, .int (Int32.ofNat i)), (5, .int 0), (6, .int r)] := lv_sb9 hl (by intro q hq; simp only [List.mem_cons, List.not_mem_nil, or_false] at hq ⊢; rcases hq with h | h | h | h | h | h | h <;> simp [h])
  refine lv_aload_n hx hb dL_law_2643 rfl (lv_at hl 2 rfl) ?_
  refine lcM (nA := 0) (vs' := []) (rest := []) (σM' := σM') (r := σM' 0 0) hF (ct_X7_thrown l) wq_1304 wq_1301 wq_1302 wq_1303 wq_95 (by decide +kernel) (by decide) rfl (e_X7_thrown σM') hP hD hS hl.1 (Nat.le_of_ble_eq_true rfl) rfl rfl dL_law_2644 hf (fun H locs hP hD hS => ?_)
  refine lv_iload hx hb dL_law_2647 (lv_at hl 5 rfl) ?_
  refine lv_icmp_eq hx hb dL_law_2649 (tgt := 2654) (by decide) (fun _ => ?_) (fun h9 => absurd hth h9)
  refine lv_iload hx hb dL_law_2654 (lv_at hl 5 rfl) ?_
  refine lv_if_ne hx hb dL_law_2656 (tgt := 2671) (by decide) (fun h9 => absurd rfl h9) (fun _ => ?_)
  refine lv_aload_n hx hb dL_law_2659 rfl (lv_at hl 3 rfl) ?_
  refine lv_iconst (v := 0) hx hb dL_law_2660 (by decide) ?_
  refine va_lald hx hb hK hP 22 3 lw22 rfl (inb_vp rfl) dL_law_2661 ?_
  refine lv_iload hx hb dL_law_2662 (lv_at hl 6 rfl) ?_
  refine lv_i2l hx hb dL_law_2664 rfl ?_
  refine W.lcmp hx hb dL_law_2665 ?_
  rw [lcmp_same]
  refine lv_if_eq hx hb dL_law_2666 (tgt := 2671) (by decide) (fun _ => ?_) (fun h9 => absurd rfl h9)
  refine lv_goto hx hb dL_law_2671 (tgt := 2687) (by decide) ?_
  exact kk H locs ls6 (lv_sb9 hl (by intro q hq; simp only [List.mem_cons, List.not_mem_nil, or_false] at hq ⊢; rcases hq with h | h | h | h | h <;> simp [h])) hP hD hS
theorem lu_55 (hl9 : l.stackTraces = false) (hL : Lc p s m c D z ts b L xs) (hi : i + 6 ≤ L) (hl : lv_has ls 7 [(0, .ref b), (1, .ref (a 0)), (2, .ref (aM 0)), (3, .ref o), (4, .int (Int32.ofNat i))]) (hP : va_P D vwCl (LwS z a n ρ σX aM σM o g) H) (hD : va_D (fun q => s.heap.size ≤ q) (LwS z a n ρ σX aM σM o g)) (hS : va_S (fun q => s.heap.size ≤ q) s.heap H locs) (hf : (cells + 1) ≤ 601024 ∧ (slots + 6) ≤ 7293034) (hfx : f_X6_leastRate [.inr (.inl 0), .inl (xs (i + 1))] σX = some (none, σX')) (hfm : f_X7_leastRate [.inr (.inl 0), .inl (xs (i + 1))] σM = some (some (some (.inl r)), σM')) (hth : σM' 0 0 = 1)
    (kk : ∀ (H1 : Heap) (locs1 : List Loc) (ls1 : Array Slot), lv_has ls1 7 [(0, .ref b), (1, .ref (a 0)), (2, .ref (aM 0)), (3, .ref o), (4, .int (Int32.ofNat i))] → va_P D vwCl (LwS z a n ρ σX' aM σM' o g) H1 → va_D (fun q => s.heap.size ≤ q) (LwS z a n ρ σX' aM σM' o g) → va_S (fun q => s.heap.size ≤ q) s.heap H1 locs1 → W p l e roomL s m #[Value.ref b] below meth c H1 locs1 (cells + 1) (slots + 6) Q (F0 m 2687 ls1 [])) : W p l e roomL s m #[Value.ref b] below meth c H locs cells slots Q (F0 m 2618 ls []) := by
  obtain ⟨hF, hX, hbl, hL3⟩ := id hL
  obtain ⟨hx, hb, hml, hown, hts, hK, hA, hA0, hSt⟩ := id hF
  refine lv_aload_n hx hb dL_law_2618 rfl (lv_at hl 1 rfl) ?_
  refine ld_arg hL hl hS (k := 1) (by omega) (by decide) (by decide) dL_law_2619 dL_law_2620 dL_law_2622 dL_law_2623 dL_law_2624 ?_
  refine lv_aload_n hx hb dL_law_2625 rfl (lv_at hl 3 rfl) ?_
  refine lcH (nA := 3) (mc := 1) (ms := 6) (As := [.ref (a 0), .int (xs (i + 1)), .ref o]) (rest := []) hF (fun sz => hht_leastRate l hl9 D z ts s.heap.size sz a (ktl z a n ρ) σX σX' o g (xs (i + 1)) hfx) wh_c_leastRate wq_1153 wq_1154 wq_86 (by decide +kernel) (by decide) hP hD hS hl.1 (Nat.le_of_ble_eq_true rfl) rfl rfl dL_law_2626 hf (fun H locs hP hD hS => ?_)
  refine lv_istore hx hb dL_law_2629 hl (by decide) rfl (fun ls5 hl => ?_)
  have hl : lv_has ls5 7 [(5, .int 1), (0, .ref b), (1, .ref (a 0)), (2, .ref (aM 0)), (3, .ref o), (4, .int (Int32.ofNat i))] := hl
  have hl : lv_has ls5 7 [(0, .ref b), (1, .ref (a 0)), (2, .ref (aM 0)), (3, .ref o), (4, .int (Int32.ofNat i)), (5, .int 1)] := lv_sb9 hl (by intro q hq; simp only [List.mem_cons, List.not_mem_nil, or_false] at hq ⊢; rcases hq with h | h | h | h | h | h <;> simp [h])
  refine lv_aload_n hx hb dL_law_2631 rfl (lv_at hl 2 rfl) ?_
  refine ld_arg hL hl hS (k := 1) (by omega) (by decide) (by decide) dL_law_2632 dL_law_2633 dL_law_2635 dL_law_2636 dL_law_2637 ?_
  refine lcM (nA := 1) (vs' := [.inl (xs (i + 1))]) (rest := []) hF (ct_X7_leastRate l) wq_1728 wq_1725 wq_1726 wq_1727 wq_95 (by decide +kernel) (by decide) rfl hfm hP hD hS hl.1 (Nat.le_of_ble_eq_true rfl) rfl rfl dL_law_2638 hf (fun H locs hP hD hS => ?_)
  refine lv_istore hx hb dL_law_2641 hl (by decide) rfl (fun ls6 hl => ?_)
  have hl : lv_has ls6 7 [(6, .int r), (0, .ref b), (1, .ref (a 0)), (2, .ref (aM 0)), (3, .ref o), (4, .int (Int32.ofNat i)), (5, .int 1)] := hl
  have hl : lv_has ls6 7 [(0, .ref b), (1, .ref (a 0)), (2, .ref (aM 0)), (3, .ref o), (4, .int (Int32.ofNat i)), (5, .int 1), (6, .int r)] := lv_sb9 hl (by intro q hq; simp only [List.mem_cons, List.not_mem_nil, or_false] at hq ⊢; rcases hq with h | h | h | h | h | h | h <;> simp [h])
  refine lv_aload_n hx hb dL_law_2643 rfl (lv_at hl 2 rfl) ?_
  refine lcM (nA := 0) (vs' := []) (rest := []) (σM' := σM') (r := σM' 0 0) hF (ct_X7_thrown l) wq_1304 wq_1301 wq_1302 wq_1303 wq_95 (by decide +kernel) (by decide) rfl (e_X7_thrown σM') hP hD hS hl.1 (Nat.le_of_ble_eq_true rfl) rfl rfl dL_law_2644 hf (fun H locs hP hD hS => ?_)
  refine lv_iload hx hb dL_law_2647 (lv_at hl 5 rfl) ?_
  refine lv_icmp_eq hx hb dL_law_2649 (tgt := 2654) (by decide) (fun _ => ?_) (fun h9 => absurd hth h9)
  refine lv_iload hx hb dL_law_2654 (lv_at hl 5 rfl) ?_
  refine lv_if_ne hx hb dL_law_2656 (tgt := 2671) (by decide) (fun _ => ?_) (fun h9 => absurd h9 (by decide))
  refine lv_goto hx hb dL_law_2671 (tgt := 2687) (by decide) ?_
  exact kk H locs ls6 (lv_sb9 hl (by intro q hq; simp only [List.mem_cons, List.not_mem_nil, or_false] at hq ⊢; rcases hq with h | h | h | h | h <;> simp [h])) hP hD hS
theorem lc_56 (hl9 : l.stackTraces = false) (hL : Lc p s m c D z ts b L xs) (hi : i + 6 ≤ L) (hl : lv_has ls 7 [(0, .ref b), (1, .ref (a 0)), (2, .ref (aM 0)), (3, .ref o), (4, .int (Int32.ofNat i))]) (hP : va_P D vwCl (LwS z a n ρ σX aM σM o g) H) (hD : va_D (fun q => s.heap.size ≤ q) (LwS z a n ρ σX aM σM o g)) (hS : va_S (fun q => s.heap.size ≤ q) s.heap H locs) (hf : cells ≤ 601024 ∧ slots ≤ 7293034) (hfx : f_X6_criticalIrons [.inr (.inl 0)] σX = some (some (some (.inl r)), σX')) (hfm : f_X7_criticalIrons [.inr (.inl 0)] σM = some (some (some (.inl r)), σM'))
    (kk : ∀ (H1 : Heap) (locs1 : List Loc), va_P D vwCl (LwS z a n ρ σX' aM σM' o g) H1 → va_D (fun q => s.heap.size ≤ q) (LwS z a n ρ σX' aM σM' o g) → va_S (fun q => s.heap.size ≤ q) s.heap H1 locs1 → W p l e roomL s m #[Value.ref b] below meth c H1 locs1 cells slots Q (F0 m 2687 ls [])) : W p l e roomL s m #[Value.ref b] below meth c H locs cells slots Q (F0 m 2674 ls []) := by
  obtain ⟨hF, hX, hbl, hL3⟩ := id hL
  obtain ⟨hx, hb, hml, hown, hts, hK, hA, hA0, hSt⟩ := id hF
  refine lv_aload_n hx hb dL_law_2674 rfl (lv_at hl 1 rfl) ?_
  refine lcX (nA := 0) (vs' := []) (rest := []) hF (ct_X6_criticalIrons l hl9) wq_807 wq_804 wq_805 wq_806 wq_87 (by decide +kernel) (by decide) rfl hfx hP hD hS hl.1 (Nat.le_of_ble_eq_true rfl) rfl rfl dL_law_2675 hf (fun H locs hP hD hS => ?_)
  refine lv_aload_n hx hb dL_law_2678 rfl (lv_at hl 2 rfl) ?_
  refine lcM (nA := 0) (vs' := []) (rest := [.int r]) hF (ct_X7_criticalIrons l) wq_1732 wq_1729 wq_1730 wq_1731 wq_95 (by decide +kernel) (by decide) rfl hfm hP hD hS hl.1 (Nat.le_of_ble_eq_true rfl) rfl rfl dL_law_2679 hf (fun H locs hP hD hS => ?_)
  exact lv_icmp_eq hx hb dL_law_2682 (tgt := 2687) (by decide) (fun _ => kk H locs hP hD hS) (fun h9 => absurd rfl h9)
end CASES
