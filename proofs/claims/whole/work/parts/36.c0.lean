theorem lw22 {z : Nat → ClassId} {a aM : Nat → Nat} {n : Nat} {ρ : Nat → Mm} {σX σM : Mm} {o : Nat} {g : Nat → Int64} : (LwS z a n ρ σX aM σM o g)[22]? = some (o, .inl (z 3, 1, .inr (.inl g))) := by
  have hl : (wT z layM aM [] σM).length = 22 := by simp [wT, wG, layM]
  unfold LwS
  rw [List.getElem?_append_right (by omega), hl]
  rfl
theorem lcmp_same {g : Nat → Int64} {r : Int32} : lg_cmp ((vp_updL g 0 r.toInt64) (0 : Int32).toNatClampNeg) r.toInt64 = 0 := by
  have e : (vp_updL g 0 r.toInt64) (0 : Int32).toNatClampNeg = r.toInt64 := by
    show (vp_updL g 0 r.toInt64) 0 = _
    simp [vp_updL]
  rw [e]
  simp [lg_cmp]
section CASES
variable {p : Program} {l : Launch} {e : Env} {s : State} {m : MethodId} {below : List Frame} {meth : Method} {c : Code} {D : va_G} {z : Nat → ClassId} {ts : Nat → Nat} {b L : Nat} {xs : Nat → Int32} {a aM : Nat → Nat} {n n' : Nat} {ρ ρ' : Nat → Mm} {σX σX' σM σM' : Mm} {o : Nat} {g : Nat → Int64} {H : Heap} {locs : List Loc} {ls : Array Slot} {Q : State → Prop} {cells slots mc ms i : Nat} {r : Int32}
theorem lc_0 (hl9 : l.stackTraces = false) (hL : Lc p s m c D z ts b L xs) (hi : i + 6 ≤ L) (hl : lv_has ls 7 [(0, .ref b), (1, .ref (a 0)), (2, .ref (aM 0)), (3, .ref o), (4, .int (Int32.ofNat i))]) (hP : va_P D vwCl (LwS z a n ρ σX aM σM o g) H) (hD : va_D (fun q => s.heap.size ≤ q) (LwS z a n ρ σX aM σM o g)) (hS : va_S (fun q => s.heap.size ≤ q) s.heap H locs) (hf : cells ≤ 601024 ∧ slots ≤ 7293034) (hfx : f_X6_feed [.inr (.inl 0), .inl (xs (i + 1)), .inl (xs (i + 2)), .inl (xs (i + 3)), .inl (xs (i + 4)), .inl (xs (i + 5))] σX = some (some (some (.inl r)), σX')) (hfm : f_X7_feed [.inr (.inl 0), .inl (xs (i + 1)), .inl (xs (i + 2)), .inl (xs (i + 3)), .inl (xs (i + 4)), .inl (xs (i + 5))] σM = some (some (some (.inl r)), σM'))
    (kk : ∀ (H1 : Heap) (locs1 : List Loc), va_P D vwCl (LwS z a n ρ σX' aM σM' o g) H1 → va_D (fun q => s.heap.size ≤ q) (LwS z a n ρ σX' aM σM' o g) → va_S (fun q => s.heap.size ≤ q) s.heap H1 locs1 → W p l e roomL s m #[Value.ref b] below meth c H1 locs1 cells slots Q (F0 m 2687 ls [])) : W p l e roomL s m #[Value.ref b] below meth c H locs cells slots Q (F0 m 284 ls []) := by
  obtain ⟨hF, hX, hbl, hL3⟩ := id hL
  obtain ⟨hx, hb, hml, hown, hts, hK, hA, hA0, hSt⟩ := id hF
  refine lv_aload_n hx hb dL_law_284 rfl (lv_at hl 1 rfl) ?_
  refine ld_arg hL hl hS (k := 1) (by omega) (by decide) (by decide) dL_law_285 dL_law_286 dL_law_288 dL_law_289 dL_law_290 ?_
  refine ld_arg hL hl hS (k := 2) (by omega) (by decide) (by decide) dL_law_291 dL_law_292 dL_law_294 dL_law_295 dL_law_296 ?_
  refine ld_arg hL hl hS (k := 3) (by omega) (by decide) (by decide) dL_law_297 dL_law_298 dL_law_300 dL_law_301 dL_law_302 ?_
  refine ld_arg hL hl hS (k := 4) (by omega) (by decide) (by decide) dL_law_303 dL_law_304 dL_law_306 dL_law_307 dL_law_308 ?_
  refine ld_arg hL hl hS (k := 5) (by omega) (by decide) (by decide) dL_law_309 dL_law_310 dL_law_312 dL_law_313 dL_law_314 ?_
  refine lcX (nA := 5) (vs' := [.inl (xs (i + 1)), .inl (xs (i + 2)), .inl (xs (i + 3)), .inl (xs (i + 4)), .inl (xs (i + 5))]) (rest := []) hF (ct_X6_feed l hl9) wq_383 wq_380 wq_381 wq_382 wq_87 (by decide +kernel) (by decide) rfl hfx hP hD hS hl.1 (Nat.le_of_ble_eq_true rfl) rfl rfl dL_law_315 hf (fun H locs hP hD hS => ?_)
  refine lv_aload_n hx hb dL_law_318 rfl (lv_at hl 2 rfl) ?_
  refine ld_arg hL hl hS (k := 1) (by omega) (by decide) (by decide) dL_law_319 dL_law_320 dL_law_322 dL_law_323 dL_law_324 ?_
  refine ld_arg hL hl hS (k := 2) (by omega) (by decide) (by decide) dL_law_325 dL_law_326 dL_law_328 dL_law_329 dL_law_330 ?_
  refine ld_arg hL hl hS (k := 3) (by omega) (by decide) (by decide) dL_law_331 dL_law_332 dL_law_334 dL_law_335 dL_law_336 ?_
  refine ld_arg hL hl hS (k := 4) (by omega) (by decide) (by decide) dL_law_337 dL_law_338 dL_law_340 dL_law_341 dL_law_342 ?_
  refine ld_arg hL hl hS (k := 5) (by omega) (by decide) (by decide) dL_law_343 dL_law_344 dL_law_346 dL_law_347 dL_law_348 ?_
  refine lcM (nA := 5) (vs' := [.inl (xs (i + 1)), .inl (xs (i + 2)), .inl (xs (i + 3)), .inl (xs (i + 4)), .inl (xs (i + 5))]) (rest := [.int r]) hF (ct_X7_feed l) wq_1308 wq_1305 wq_1306 wq_1307 wq_95 (by decide +kernel) (by decide) rfl hfm hP hD hS hl.1 (Nat.le_of_ble_eq_true rfl) rfl rfl dL_law_349 hf (fun H locs hP hD hS => ?_)
  exact lv_icmp_eq hx hb dL_law_352 (tgt := 2687) (by decide) (fun _ => kk H locs hP hD hS) (fun h9 => absurd rfl h9)
theorem lc_1 (hl9 : l.stackTraces = false) (hL : Lc p s m c D z ts b L xs) (hi : i + 6 ≤ L) (hl : lv_has ls 7 [(0, .ref b), (1, .ref (a 0)), (2, .ref (aM 0)), (3, .ref o), (4, .int (Int32.ofNat i))]) (hP : va_P D vwCl (LwS z a n ρ σX aM σM o g) H) (hD : va_D (fun q => s.heap.size ≤ q) (LwS z a n ρ σX aM σM o g)) (hS : va_S (fun q => s.heap.size ≤ q) s.heap H locs) (hf : cells ≤ 601024 ∧ slots ≤ 7293034) (hfx : f_X6_load [.inr (.inl 0), .inl (xs (i + 1))] σX = some (some (some (.inl r)), σX')) (hfm : f_X7_load [.inr (.inl 0), .inl (xs (i + 1))] σM = some (some (some (.inl r)), σM'))
    (kk : ∀ (H1 : Heap) (locs1 : List Loc), va_P D vwCl (LwS z a n ρ σX' aM σM' o g) H1 → va_D (fun q => s.heap.size ≤ q) (LwS z a n ρ σX' aM σM' o g) → va_S (fun q => s.heap.size ≤ q) s.heap H1 locs1 → W p l e roomL s m #[Value.ref b] below meth c H1 locs1 cells slots Q (F0 m 2687 ls [])) : W p l e roomL s m #[Value.ref b] below meth c H locs cells slots Q (F0 m 357 ls []) := by
  obtain ⟨hF, hX, hbl, hL3⟩ := id hL
  obtain ⟨hx, hb, hml, hown, hts, hK, hA, hA0, hSt⟩ := id hF
  refine lv_aload_n hx hb dL_law_357 rfl (lv_at hl 1 rfl) ?_
  refine ld_arg hL hl hS (k := 1) (by omega) (by decide) (by decide) dL_law_358 dL_law_359 dL_law_361 dL_law_362 dL_law_363 ?_
  refine lcX (nA := 1) (vs' := [.inl (xs (i + 1))]) (rest := []) hF (ct_X6_load l hl9) wq_395 wq_392 wq_393 wq_394 wq_87 (by decide +kernel) (by decide) rfl hfx hP hD hS hl.1 (Nat.le_of_ble_eq_true rfl) rfl rfl dL_law_364 hf (fun H locs hP hD hS => ?_)
  refine lv_aload_n hx hb dL_law_367 rfl (lv_at hl 2 rfl) ?_
  refine ld_arg hL hl hS (k := 1) (by omega) (by decide) (by decide) dL_law_368 dL_law_369 dL_law_371 dL_law_372 dL_law_373 ?_
  refine lcM (nA := 1) (vs' := [.inl (xs (i + 1))]) (rest := [.int r]) hF (ct_X7_load l) wq_1312 wq_1309 wq_1310 wq_1311 wq_95 (by decide +kernel) (by decide) rfl hfm hP hD hS hl.1 (Nat.le_of_ble_eq_true rfl) rfl rfl dL_law_374 hf (fun H locs hP hD hS => ?_)
  exact lv_icmp_eq hx hb dL_law_377 (tgt := 2687) (by decide) (fun _ => kk H locs hP hD hS) (fun h9 => absurd rfl h9)
theorem lc_2 (hl9 : l.stackTraces = false) (hL : Lc p s m c D z ts b L xs) (hi : i + 6 ≤ L) (hl : lv_has ls 7 [(0, .ref b), (1, .ref (a 0)), (2, .ref (aM 0)), (3, .ref o), (4, .int (Int32.ofNat i))]) (hP : va_P D vwCl (LwS z a n ρ σX aM σM o g) H) (hD : va_D (fun q => s.heap.size ≤ q) (LwS z a n ρ σX aM σM o g)) (hS : va_S (fun q => s.heap.size ≤ q) s.heap H locs) (hf : cells ≤ 601024 ∧ slots ≤ 7293034) (hfx : f_X6_errorPosition [.inr (.inl 0)] σX = some (some (some (.inl r)), σX')) (hfm : f_X7_errorPosition [.inr (.inl 0)] σM = some (some (some (.inl r)), σM'))
    (kk : ∀ (H1 : Heap) (locs1 : List Loc), va_P D vwCl (LwS z a n ρ σX' aM σM' o g) H1 → va_D (fun q => s.heap.size ≤ q) (LwS z a n ρ σX' aM σM' o g) → va_S (fun q => s.heap.size ≤ q) s.heap H1 locs1 → W p l e roomL s m #[Value.ref b] below meth c H1 locs1 cells slots Q (F0 m 2687 ls [])) : W p l e roomL s m #[Value.ref b] below meth c H locs cells slots Q (F0 m 382 ls []) := by
  obtain ⟨hF, hX, hbl, hL3⟩ := id hL
  obtain ⟨hx, hb, hml, hown, hts, hK, hA, hA0, hSt⟩ := id hF
  refine lv_aload_n hx hb dL_law_382 rfl (lv_at hl 1 rfl) ?_
  refine lcX (nA := 0) (vs' := []) (rest := []) hF (ct_X6_errorPosition l hl9) wq_509 wq_506 wq_507 wq_508 wq_87 (by decide +kernel) (by decide) rfl hfx hP hD hS hl.1 (Nat.le_of_ble_eq_true rfl) rfl rfl dL_law_383 hf (fun H locs hP hD hS => ?_)
  refine lv_aload_n hx hb dL_law_386 rfl (lv_at hl 2 rfl) ?_
  refine lcM (nA := 0) (vs' := []) (rest := [.int r]) hF (ct_X7_errorPosition l) wq_1432 wq_1429 wq_1430 wq_1431 wq_95 (by decide +kernel) (by decide) rfl hfm hP hD hS hl.1 (Nat.le_of_ble_eq_true rfl) rfl rfl dL_law_387 hf (fun H locs hP hD hS => ?_)
  exact lv_icmp_eq hx hb dL_law_390 (tgt := 2687) (by decide) (fun _ => kk H locs hP hD hS) (fun h9 => absurd rfl h9)
theorem lc_3 (hl9 : l.stackTraces = false) (hL : Lc p s m c D z ts b L xs) (hi : i + 6 ≤ L) (hl : lv_has ls 7 [(0, .ref b), (1, .ref (a 0)), (2, .ref (aM 0)), (3, .ref o), (4, .int (Int32.ofNat i))]) (hP : va_P D vwCl (LwS z a n ρ σX aM σM o g) H) (hD : va_D (fun q => s.heap.size ≤ q) (LwS z a n ρ σX aM σM o g)) (hS : va_S (fun q => s.heap.size ≤ q) s.heap H locs) (hf : cells ≤ 601024 ∧ slots ≤ 7293034) (hfx : f_X6_ironCount [.inr (.inl 0)] σX = some (some (some (.inl r)), σX')) (hfm : f_X7_ironCount [.inr (.inl 0)] σM = some (some (some (.inl r)), σM'))
    (kk : ∀ (H1 : Heap) (locs1 : List Loc), va_P D vwCl (LwS z a n ρ σX' aM σM' o g) H1 → va_D (fun q => s.heap.size ≤ q) (LwS z a n ρ σX' aM σM' o g) → va_S (fun q => s.heap.size ≤ q) s.heap H1 locs1 → W p l e roomL s m #[Value.ref b] below meth c H1 locs1 cells slots Q (F0 m 2687 ls [])) : W p l e roomL s m #[Value.ref b] below meth c H locs cells slots Q (F0 m 395 ls []) := by
  obtain ⟨hF, hX, hbl, hL3⟩ := id hL
  obtain ⟨hx, hb, hml, hown, hts, hK, hA, hA0, hSt⟩ := id hF
  refine lv_aload_n hx hb dL_law_395 rfl (lv_at hl 1 rfl) ?_
  refine lcX (nA := 0) (vs' := []) (rest := []) hF (ct_X6_ironCount l hl9) wq_513 wq_510 wq_511 wq_512 wq_87 (by decide +kernel) (by decide) rfl hfx hP hD hS hl.1 (Nat.le_of_ble_eq_true rfl) rfl rfl dL_law_396 hf (fun H locs hP hD hS => ?_)
  refine lv_aload_n hx hb dL_law_399 rfl (lv_at hl 2 rfl) ?_
  refine lcM (nA := 0) (vs' := []) (rest := [.int r]) hF (ct_X7_ironCount l) wq_1436 wq_1433 wq_1434 wq_1435 wq_95 (by decide +kernel) (by decide) rfl hfm hP hD hS hl.1 (Nat.le_of_ble_eq_true rfl) rfl rfl dL_law_400 hf (fun H locs hP hD hS => ?_)
  exact lv_icmp_eq hx hb dL_law_403 (tgt := 2687) (by decide) (fun _ => kk H locs hP hD hS) (fun h9 => absurd rfl h9)
theorem lc_4 (hl9 : l.stackTraces = false) (hL : Lc p s m c D z ts b L xs) (hi : i + 6 ≤ L) (hl : lv_has ls 7 [(0, .ref b), (1, .ref (a 0)), (2, .ref (aM 0)), (3, .ref o), (4, .int (Int32.ofNat i))]) (hP : va_P D vwCl (LwS z a n ρ σX aM σM o g) H) (hD : va_D (fun q => s.heap.size ≤ q) (LwS z a n ρ σX aM σM o g)) (hS : va_S (fun q => s.heap.size ≤ q) s.heap H locs) (hf : cells ≤ 601024 ∧ slots ≤ 7293034) (hfx : f_X6_placeCount [.inr (.inl 0)] σX = some (some (some (.inl r)), σX')) (hfm : f_X7_placeCount [.inr (.inl 0)] σM = some (some (some (.inl r)), σM'))
    (kk : ∀ (H1 : Heap) (locs1 : List Loc), va_P D vwCl (LwS z a n ρ σX' aM σM' o g) H1 → va_D (fun q => s.heap.size ≤ q) (LwS z a n ρ σX' aM σM' o g) → va_S (fun q => s.heap.size ≤ q) s.heap H1 locs1 → W p l e roomL s m #[Value.ref b] below meth c H1 locs1 cells slots Q (F0 m 2687 ls [])) : W p l e roomL s m #[Value.ref b] below meth c H locs cells slots Q (F0 m 408 ls []) := by
  obtain ⟨hF, hX, hbl, hL3⟩ := id hL
  obtain ⟨hx, hb, hml, hown, hts, hK, hA, hA0, hSt⟩ := id hF
  refine lv_aload_n hx hb dL_law_408 rfl (lv_at hl 1 rfl) ?_
  refine lcX (nA := 0) (vs' := []) (rest := []) hF (ct_X6_placeCount l hl9) wq_517 wq_514 wq_515 wq_516 wq_87 (by decide +kernel) (by decide) rfl hfx hP hD hS hl.1 (Nat.le_of_ble_eq_true rfl) rfl rfl dL_law_409 hf (fun H locs hP hD hS => ?_)
  refine lv_aload_n hx hb dL_law_412 rfl (lv_at hl 2 rfl) ?_
  refine lcM (nA := 0) (vs' := []) (rest := [.int r]) hF (ct_X7_placeCount l) wq_1440 wq_1437 wq_1438 wq_1439 wq_95 (by decide +kernel) (by decide) rfl hfm hP hD hS hl.1 (Nat.le_of_ble_eq_true rfl) rfl rfl dL_law_413 hf (fun H locs hP hD hS => ?_)
  exact lv_icmp_eq hx hb dL_law_416 (tgt := 2687) (by decide) (fun _ => kk H locs hP hD hS) (fun h9 => absurd rfl h9)
theorem lc_5 (hl9 : l.stackTraces = false) (hL : Lc p s m c D z ts b L xs) (hi : i + 6 ≤ L) (hl : lv_has ls 7 [(0, .ref b), (1, .ref (a 0)), (2, .ref (aM 0)), (3, .ref o), (4, .int (Int32.ofNat i))]) (hP : va_P D vwCl (LwS z a n ρ σX aM σM o g) H) (hD : va_D (fun q => s.heap.size ≤ q) (LwS z a n ρ σX aM σM o g)) (hS : va_S (fun q => s.heap.size ≤ q) s.heap H locs) (hf : cells ≤ 601024 ∧ slots ≤ 7293034) (hfx : f_X6_undoCount [.inr (.inl 0)] σX = some (some (some (.inl r)), σX')) (hfm : f_X7_undoCount [.inr (.inl 0)] σM = some (some (some (.inl r)), σM'))
    (kk : ∀ (H1 : Heap) (locs1 : List Loc), va_P D vwCl (LwS z a n ρ σX' aM σM' o g) H1 → va_D (fun q => s.heap.size ≤ q) (LwS z a n ρ σX' aM σM' o g) → va_S (fun q => s.heap.size ≤ q) s.heap H1 locs1 → W p l e roomL s m #[Value.ref b] below meth c H1 locs1 cells slots Q (F0 m 2687 ls [])) : W p l e roomL s m #[Value.ref b] below meth c H locs cells slots Q (F0 m 421 ls []) := by
  obtain ⟨hF, hX, hbl, hL3⟩ := id hL
  obtain ⟨hx, hb, hml, hown, hts, hK, hA, hA0, hSt⟩ := id hF
  refine lv_aload_n hx hb dL_law_421 rfl (lv_at hl 1 rfl) ?_
  refine lcX (nA := 0) (vs' := []) (rest := []) hF (ct_X6_undoCount l hl9) wq_521 wq_518 wq_519 wq_520 wq_87 (by decide +kernel) (by decide) rfl hfx hP hD hS hl.1 (Nat.le_of_ble_eq_true rfl) rfl rfl dL_law_422 hf (fun H locs hP hD hS => ?_)
  refine lv_aload_n hx hb dL_law_425 rfl (lv_at hl 2 rfl) ?_
  refine lcM (nA := 0) (vs' := []) (rest := [.int r]) hF (ct_X7_undoCount l) wq_1444 wq_1441 wq_1442 wq_1443 wq_95 (by decide +kernel) (by decide) rfl hfm hP hD hS hl.1 (Nat.le_of_ble_eq_true rfl) rfl rfl dL_law_426 hf (fun H locs hP hD hS => ?_)
  exact lv_icmp_eq hx hb dL_law_429 (tgt := 2687) (by decide) (fun _ => kk H locs hP hD hS) (fun h9 => absurd rfl h9)
theorem lc_6 (hl9 : l.stackTraces = false) (hL : Lc p s m c D z ts b L xs) (hi : i + 6 ≤ L) (hl : lv_has ls 7 [(0, .ref b), (1, .ref (a 0)), (2, .ref (aM 0)), (3, .ref o), (4, .int (Int32.ofNat i))]) (hP : va_P D vwCl (LwS z a n ρ σX aM σM o g) H) (hD : va_D (fun q => s.heap.size ≤ q) (LwS z a n ρ σX aM σM o g)) (hS : va_S (fun q => s.heap.size ≤ q) s.heap H locs) (hf : cells ≤ 601024 ∧ slots ≤ 7293034) (hfx : f_X6_ironNamed [.inr (.inl 0), .inl (xs (i + 1))] σX = some (some (some (.inl r)), σX')) (hfm : f_X7_ironNamed [.inr (.inl 0), .inl (xs (i + 1))] σM = some (some (some (.inl r)), σM'))
    (kk : ∀ (H1 : Heap) (locs1 : List Loc), va_P D vwCl (LwS z a n ρ σX' aM σM' o g) H1 → va_D (fun q => s.heap.size ≤ q) (LwS z a n ρ σX' aM σM' o g) → va_S (fun q => s.heap.size ≤ q) s.heap H1 locs1 → W p l e roomL s m #[Value.ref b] below meth c H1 locs1 cells slots Q (F0 m 2687 ls [])) : W p l e roomL s m #[Value.ref b] below meth c H locs cells slots Q (F0 m 434 ls []) := by
  obtain ⟨hF, hX, hbl, hL3⟩ := id hL
  obtain ⟨hx, hb, hml, hown, hts, hK, hA, hA0, hSt⟩ := id hF
  refine lv_aload_n hx hb dL_law_434 rfl (lv_at hl 1 rfl) ?_
  refine ld_arg hL hl hS (k := 1) (by omega) (by decide) (by decide) dL_law_435 dL_law_436 dL_law_438 dL_law_439 dL_law_440 ?_
  refine lcX (nA := 1) (vs' := [.inl (xs (i + 1))]) (rest := []) hF (ct_X6_ironNamed l hl9) wq_525 wq_522 wq_523 wq_524 wq_87 (by decide +kernel) (by decide) rfl hfx hP hD hS hl.1 (Nat.le_of_ble_eq_true rfl) rfl rfl dL_law_441 hf (fun H locs hP hD hS => ?_)
  refine lv_aload_n hx hb dL_law_444 rfl (lv_at hl 2 rfl) ?_
  refine ld_arg hL hl hS (k := 1) (by omega) (by decide) (by decide) dL_law_445 dL_law_446 dL_law_448 dL_law_449 dL_law_450 ?_
  refine lcM (nA := 1) (vs' := [.inl (xs (i + 1))]) (rest := [.int r]) hF (ct_X7_ironNamed l) wq_1448 wq_1445 wq_1446 wq_1447 wq_95 (by decide +kernel) (by decide) rfl hfm hP hD hS hl.1 (Nat.le_of_ble_eq_true rfl) rfl rfl dL_law_451 hf (fun H locs hP hD hS => ?_)
  exact lv_icmp_eq hx hb dL_law_454 (tgt := 2687) (by decide) (fun _ => kk H locs hP hD hS) (fun h9 => absurd rfl h9)
theorem lt_7 (hl9 : l.stackTraces = false) (hL : Lc p s m c D z ts b L xs) (hi : i + 6 ≤ L) (hl : lv_has ls 7 [(0, .ref b), (1, .ref (a 0)), (2, .ref (aM 0)), (3, .ref o), (4, .int (Int32.ofNat i))]) (hP : va_P D vwCl (LwS z a n ρ σX aM σM o g) H) (hD : va_D (fun q => s.heap.size ≤ q) (LwS z a n ρ σX aM σM o g)) (hS : va_S (fun q => s.heap.size ≤ q) s.heap H locs) (hf : cells ≤ 601024 ∧ slots ≤ 7293034) (hfx : f_X6_mass [.inr (.inl 0), .inl (xs (i + 1))] σX = some (some (some (.inl r)), σX')) (hfm : f_X7_mass [.inr (.inl 0), .inl (xs (i + 1))] σM = some (some (some (.inl r)), σM')) (hth : σM' 0 0 = 0)
    (kk : ∀ (H1 : Heap) (locs1 : List Loc) (ls1 : Array Slot), lv_has ls1 7 [(0, .ref b), (1, .ref (a 0)), (2, .ref (aM 0)), (3, .ref o), (4, .int (Int32.ofNat i))] → va_P D vwCl (LwS z a n ρ σX' aM σM' o (vp_updL g 0 r.toInt64)) H1 → va_D (fun q => s.heap.size ≤ q) (LwS z a n ρ σX' aM σM' o (vp_updL g 0 r.toInt64)) → va_S (fun q => s.heap.size ≤ q) s.heap H1 locs1 → W p l e roomL s m #[Value.ref b] below meth c H1 locs1 cells slots Q (F0 m 2687 ls1 [])) : W p l e roomL s m #[Value.ref b] below meth c H locs cells slots Q (F0 m 459 ls []) := by
  obtain ⟨hF, hX, hbl, hL3⟩ := id hL
  obtain ⟨hx, hb, hml, hown, hts, hK, hA, hA0, hSt⟩ := id hF
  refine lv_aload_n hx hb dL_law_459 rfl (lv_at hl 1 rfl) ?_
  refine ld_arg hL hl hS (k := 1) (by omega) (by decide) (by decide) dL_law_460 dL_law_461 dL_law_463 dL_law_464 dL_law_465 ?_
  refine lv_aload_n hx hb dL_law_466 rfl (lv_at hl 3 rfl) ?_
  refine lcH (nA := 3) (mc := 0) (ms := 0) (As := [.ref (a 0), .int (xs (i + 1)), .ref o]) (rest := []) hF (fun sz => hhr_mass l hl9 D z ts s.heap.size sz a (ktl z a n ρ) σX σX' o g (xs (i + 1)) r hfx) wh_c_mass wq_813 wq_814 wq_86 (by decide +kernel) (by decide) hP hD hS hl.1 (Nat.le_of_ble_eq_true rfl) rfl rfl dL_law_467 hf (fun H locs hP hD hS => ?_)
  refine lv_istore hx hb dL_law_470 hl (by decide) rfl (fun ls5 hl => ?_)
  have hl : lv_has ls5 7 [(5, .int 0), (0, .ref b), (1, .ref (a 0)), (2, .ref (aM 0)), (3, .ref o), (4, .int (Int32.ofNat i))] := hl
  have hl : lv_has ls5 7 [(0, .ref b), (1, .ref (a 0)), (2, .ref (aM 0)), (3, .ref o), (4, .int (Int32.ofNat i)), (5, .int 0)] := lv_sb9 hl (by intro q hq; simp only [List.mem_cons, List.not_mem_nil, or_false] at hq ⊢; rcases hq with h | h | h | h | h | h <;> simp [h])
  refine lv_aload_n hx hb dL_law_472 rfl (lv_at hl 2 rfl) ?_
  refine ld_arg hL hl hS (k := 1) (by omega) (by decide) (by decide) dL_law_473 dL_law_474 dL_law_476 dL_law_477 dL_law_478 ?_
  refine lcM (nA := 1) (vs' := [.inl (xs (i + 1))]) (rest := []) hF (ct_X7_mass l) wq_1452 wq_1449 wq_1450 wq_1451 wq_95 (by decide +kernel) (by decide) rfl hfm hP hD hS hl.1 (Nat.le_of_ble_eq_true rfl) rfl rfl dL_law_479 hf (fun H locs hP hD hS => ?_)
  refine lv_istore hx hb dL_law_482 hl (by decide) rfl (fun ls6 hl => ?_)
  have hl : lv_has ls6 7 [(6, .int r), (0, .ref b), (1, .ref (a 0)), (2, .ref (aM 0)), (3, .ref o), (4, .int (Int32.ofNat i)), (5, .int 0)] := hl
  have hl : lv_has ls6 7 [(0, .ref b), (1, .ref (a 0)), (2, .ref (aM 0)), (3, .ref o), (4, .int (Int32.ofNat i)), (5, .int 0), (6, .int r)] := lv_sb9 hl (by intro q hq; simp only [List.mem_cons, List.not_mem_nil, or_false] at hq ⊢; rcases hq with h | h | h | h | h | h | h <;> simp [h])
  refine lv_aload_n hx hb dL_law_484 rfl (lv_at hl 2 rfl) ?_
  refine lcM (nA := 0) (vs' := []) (rest := []) (σM' := σM') (r := σM' 0 0) hF (ct_X7_thrown l) wq_1304 wq_1301 wq_1302 wq_1303 wq_95 (by decide +kernel) (by decide) rfl (e_X7_thrown σM') hP hD hS hl.1 (Nat.le_of_ble_eq_true rfl) rfl rfl dL_law_485 hf (fun H locs hP hD hS => ?_)
  refine lv_iload hx hb dL_law_488 (lv_at hl 5 rfl) ?_
  refine lv_icmp_eq hx hb dL_law_490 (tgt := 495) (by decide) (fun _ => ?_) (fun h9 => absurd hth h9)
  refine lv_iload hx hb dL_law_495 (lv_at hl 5 rfl) ?_
  refine lv_if_ne hx hb dL_law_497 (tgt := 512) (by decide) (fun h9 => absurd rfl h9) (fun _ => ?_)
  refine lv_aload_n hx hb dL_law_500 rfl (lv_at hl 3 rfl) ?_
  refine lv_iconst (v := 0) hx hb dL_law_501 (by decide) ?_
  refine va_lald hx hb hK hP 22 3 lw22 rfl (inb_vp rfl) dL_law_502 ?_
  refine lv_iload hx hb dL_law_503 (lv_at hl 6 rfl) ?_
  refine lv_i2l hx hb dL_law_505 rfl ?_
  refine W.lcmp hx hb dL_law_506 ?_
  rw [lcmp_same]
  refine lv_if_eq hx hb dL_law_507 (tgt := 512) (by decide) (fun _ => ?_) (fun h9 => absurd rfl h9)
  refine lv_goto hx hb dL_law_512 (tgt := 2687) (by decide) ?_
  exact kk H locs ls6 (lv_sb9 hl (by intro q hq; simp only [List.mem_cons, List.not_mem_nil, or_false] at hq ⊢; rcases hq with h | h | h | h | h <;> simp [h])) hP hD hS
theorem lu_7 (hl9 : l.stackTraces = false) (hL : Lc p s m c D z ts b L xs) (hi : i + 6 ≤ L) (hl : lv_has ls 7 [(0, .ref b), (1, .ref (a 0)), (2, .ref (aM 0)), (3, .ref o), (4, .int (Int32.ofNat i))]) (hP : va_P D vwCl (LwS z a n ρ σX aM σM o g) H) (hD : va_D (fun q => s.heap.size ≤ q) (LwS z a n ρ σX aM σM o g)) (hS : va_S (fun q => s.heap.size ≤ q) s.heap H locs) (hf : (cells + 1) ≤ 601024 ∧ (slots + 6) ≤ 7293034) (hfx : f_X6_mass [.inr (.inl 0), .inl (xs (i + 1))] σX = some (none, σX')) (hfm : f_X7_mass [.inr (.inl 0), .inl (xs (i + 1))] σM = some (some (some (.inl r)), σM')) (hth : σM' 0 0 = 1)
    (kk : ∀ (H1 : Heap) (locs1 : List Loc) (ls1 : Array Slot), lv_has ls1 7 [(0, .ref b), (1, .ref (a 0)), (2, .ref (aM 0)), (3, .ref o), (4, .int (Int32.ofNat i))] → va_P D vwCl (LwS z a n ρ σX' aM σM' o g) H1 → va_D (fun q => s.heap.size ≤ q) (LwS z a n ρ σX' aM σM' o g) → va_S (fun q => s.heap.size ≤ q) s.heap H1 locs1 → W p l e roomL s m #[Value.ref b] below meth c H1 locs1 (cells + 1) (slots + 6) Q (F0 m 2687 ls1 [])) : W p l e roomL s m #[Value.ref b] below meth c H locs cells slots Q (F0 m 459 ls []) := by
  obtain ⟨hF, hX, hbl, hL3⟩ := id hL
  obtain ⟨hx, hb, hml, hown, hts, hK, hA, hA0, hSt⟩ := id hF
  refine lv_aload_n hx hb dL_law_459 rfl (lv_at hl 1 rfl) ?_
  refine ld_arg hL hl hS (k := 1) (by omega) (by decide) (by decide) dL_law_460 dL_law_461 dL_law_463 dL_law_464 dL_law_465 ?_
  refine lv_aload_n hx hb dL_law_466 rfl (lv_at hl 3 rfl) ?_
  refine lcH (nA := 3) (mc := 1) (ms := 6) (As := [.ref (a 0), .int (xs (i + 1)), .ref o]) (rest := []) hF (fun sz => hht_mass l hl9 D z ts s.heap.size sz a (ktl z a n ρ) σX σX' o g (xs (i + 1)) hfx) wh_c_mass wq_813 wq_814 wq_86 (by decide +kernel) (by decide) hP hD hS hl.1 (Nat.le_of_ble_eq_true rfl) rfl rfl dL_law_467 hf (fun H locs hP hD hS => ?_)
  refine lv_istore hx hb dL_law_470 hl (by decide) rfl (fun ls5 hl => ?_)
  have hl : lv_has ls5 7 [(5, .int 1), (0, .ref b), (1, .ref (a 0)), (2, .ref (aM 0)), (3, .ref o), (4, .int (Int32.ofNat i))] := hl
  have hl : lv_has ls5 7 [(0, .ref b), (1, .ref (a 0)), (2, .ref (aM 0)), (3, .ref o), (4, .int (Int32.ofNat i)), (5, .int 1)] := lv_sb9 hl (by intro q hq; simp only [List.mem_cons, List.not_mem_nil, or_false] at hq ⊢; rcases hq with h | h | h | h | h | h <;> simp [h])
  refine lv_aload_n hx hb dL_law_472 rfl (lv_at hl 2 rfl) ?_
  refine ld_arg hL hl hS (k := 1) (by omega) (by decide) (by decide) dL_law_473 dL_law_474 dL_law_476 dL_law_477 dL_law_478 ?_
  refine lcM (nA := 1) (vs' := [.inl (xs (i + 1))]) (rest := []) hF (ct_X7_mass l) wq_1452 wq_1449 wq_1450 wq_1451 wq_95 (by decide +kernel) (by decide) rfl hfm hP hD hS hl.1 (Nat.le_of_ble_eq_true rfl) rfl rfl dL_law_479 hf (fun H locs hP hD hS => ?_)
  refine lv_istore hx hb dL_law_482 hl (by decide) rfl (fun ls6 hl => ?_)
  have hl : lv_has ls6 7 [(6, .int r), (0, .ref b), (1, .ref (a 0)), (2, .ref (aM 0)), (3, .ref o), (4, .int (Int32.ofNat i)), (5, .int 1)] := hl
  have hl : lv_has ls6 7 [(0, .ref b), (1, .ref (a 0)), (2, .ref (aM 0)), (3, .ref o), (4, .int (Int32.ofNat i)), (5, .int 1), (6, .int r)] := lv_sb9 hl (by intro q hq; simp only [List.mem_cons, List.not_mem_nil, or_false] at hq ⊢; rcases hq with h | h | h | h | h | h | h <;> simp [h])
  refine lv_aload_n hx hb dL_law_484 rfl (lv_at hl 2 rfl) ?_
  refine lcM (nA := 0) (vs' := []) (rest := []) (σM' := σM') (r := σM' 0 0) hF (ct_X7_thrown l) wq_1304 wq_1301 wq_1302 wq_1303 wq_95 (by decide +kernel) (by decide) rfl (e_X7_thrown σM') hP hD hS hl.1 (Nat.le_of_ble_eq_true rfl) rfl rfl dL_law_485 hf (fun H locs hP hD hS => ?_)
  refine lv_iload hx hb dL_law_488 (lv_at hl 5 rfl) ?_
  refine lv_icmp_eq hx hb dL_law_490 (tgt := 495) (by decide) (fun _ => ?_) (fun h9 => absurd hth h9)
  refine lv_iload hx hb dL_law_495 (lv_at hl 5 rfl) ?_
  refine lv_if_ne hx hb dL_law_497 (tgt := 512) (by decide) (fun _ => ?_) (fun h9 => absurd h9 (by decide))
  refine lv_goto hx hb dL_law_512 (tgt := 2687) (by decide) ?_
  exact kk H locs ls6 (lv_sb9 hl (by intro q hq; simp only [List.mem_cons, List.not_mem_nil, or_false] at hq ⊢; rcases hq with h | h | h | h | h <;> simp [h])) hP hD hS
theorem lt_8 (hl9 : l.stackTraces = false) (hL : Lc p s m c D z ts b L xs) (hi : i + 6 ≤ L) (hl : lv_has ls 7 [(0, .ref b), (1, .ref (a 0)), (2, .ref (aM 0)), (3, .ref o), (4, .int (Int32.ofNat i))]) (hP : va_P D vwCl (LwS z a n ρ σX aM σM o g) H) (hD : va_D (fun q => s.heap.size ≤ q) (LwS z a n ρ σX aM σM o g)) (hS : va_S (fun q => s.heap.size ≤ q) s.heap H locs) (hf : cells ≤ 601024 ∧ slots ≤ 7293034) (hfx : f_X6_cooling [.inr (.inl 0), .inl (xs (i + 1))] σX = some (some (some (.inl r)), σX')) (hfm : f_X7_cooling [.inr (.inl 0), .inl (xs (i + 1))] σM = some (some (some (.inl r)), σM')) (hth : σM' 0 0 = 0)
    (kk : ∀ (H1 : Heap) (locs1 : List Loc) (ls1 : Array Slot), lv_has ls1 7 [(0, .ref b), (1, .ref (a 0)), (2, .ref (aM 0)), (3, .ref o), (4, .int (Int32.ofNat i))] → va_P D vwCl (LwS z a n ρ σX' aM σM' o (vp_updL g 0 r.toInt64)) H1 → va_D (fun q => s.heap.size ≤ q) (LwS z a n ρ σX' aM σM' o (vp_updL g 0 r.toInt64)) → va_S (fun q => s.heap.size ≤ q) s.heap H1 locs1 → W p l e roomL s m #[Value.ref b] below meth c H1 locs1 cells slots Q (F0 m 2687 ls1 [])) : W p l e roomL s m #[Value.ref b] below meth c H locs cells slots Q (F0 m 515 ls []) := by
  obtain ⟨hF, hX, hbl, hL3⟩ := id hL
  obtain ⟨hx, hb, hml, hown, hts, hK, hA, hA0, hSt⟩ := id hF
  refine lv_aload_n hx hb dL_law_515 rfl (lv_at hl 1 rfl) ?_
  refine ld_arg hL hl hS (k := 1) (by omega) (by decide) (by decide) dL_law_516 dL_law_517 dL_law_519 dL_law_520 dL_law_521 ?_
  refine lv_aload_n hx hb dL_law_522 rfl (lv_at hl 3 rfl) ?_
  refine lcH (nA := 3) (mc := 0) (ms := 0) (As := [.ref (a 0), .int (xs (i + 1)), .ref o]) (rest := []) hF (fun sz => hhr_cooling l hl9 D z ts s.heap.size sz a (ktl z a n ρ) σX σX' o g (xs (i + 1)) r hfx) wh_c_cooling wq_890 wq_891 wq_86 (by decide +kernel) (by decide) hP hD hS hl.1 (Nat.le_of_ble_eq_true rfl) rfl rfl dL_law_523 hf (fun H locs hP hD hS => ?_)
  refine lv_istore hx hb dL_law_526 hl (by decide) rfl (fun ls5 hl => ?_)
  have hl : lv_has ls5 7 [(5, .int 0), (0, .ref b), (1, .ref (a 0)), (2, .ref (aM 0)), (3, .ref o), (4, .int (Int32.ofNat i))] := hl
  have hl : lv_has ls5 7 [(0, .ref b), (1, .ref (a 0)), (2, .ref (aM 0)), (3, .ref o), (4, .int (Int32.ofNat i)), (5, .int 0)] := lv_sb9 hl (by intro q hq; simp only [List.mem_cons, List.not_mem_nil, or_false] at hq ⊢; rcases hq with h | h | h | h | h | h <;> simp [h])
  refine lv_aload_n hx hb dL_law_528 rfl (lv_at hl 2 rfl) ?_
  refine ld_arg hL hl hS (k := 1) (by omega) (by decide) (by decide) dL_law_529 dL_law_530 dL_law_532 dL_law_533 dL_law_534 ?_
  refine lcM (nA := 1) (vs' := [.inl (xs (i + 1))]) (rest := []) hF (ct_X7_cooling l) wq_1464 wq_1461 wq_1462 wq_1463 wq_95 (by decide +kernel) (by decide) rfl hfm hP hD hS hl.1 (Nat.le_of_ble_eq_true rfl) rfl rfl dL_law_535 hf (fun H locs hP hD hS => ?_)
  refine lv_istore hx hb dL_law_538 hl (by decide) rfl (fun ls6 hl => ?_)
  have hl : lv_has ls6 7 [(6, .int r), (0, .ref b), (1, .ref (a 0)), (2, .ref (aM 0)), (3, .ref o), (4, .int (Int32.ofNat i)), (5, .int 0)] := hl
  have hl : lv_has ls6 7 [(0, .ref b), (1, .ref (a 0)), (2, .ref (aM 0)), (3, .ref o), (4, .int (Int32.ofNat i)), (5, .int 0), (6, .int r)] := lv_sb9 hl (by intro q hq; simp only [List.mem_cons, List.not_mem_nil, or_false] at hq ⊢; rcases hq with h | h | h | h | h | h | h <;> simp [h])
  refine lv_aload_n hx hb dL_law_540 rfl (lv_at hl 2 rfl) ?_
  refine lcM (nA := 0) (vs' := []) (rest := []) (σM' := σM') (r := σM' 0 0) hF (ct_X7_thrown l) wq_1304 wq_1301 wq_1302 wq_1303 wq_95 (by decide +kernel) (by decide) rfl (e_X7_thrown σM') hP hD hS hl.1 (Nat.le_of_ble_eq_true rfl) rfl rfl dL_law_541 hf (fun H locs hP hD hS => ?_)
  refine lv_iload hx hb dL_law_544 (lv_at hl 5 rfl) ?_
  refine lv_icmp_eq hx hb dL_law_546 (tgt := 551) (by decide) (fun _ => ?_) (fun h9 => absurd hth h9)
  refine lv_iload hx hb dL_law_551 (lv_at hl 5 rfl) ?_
  refine lv_if_ne hx hb dL_law_553 (tgt := 568) (by decide) (fun h9 => absurd rfl h9) (fun _ => ?_)
  refine lv_aload_n hx hb dL_law_556 rfl (lv_at hl 3 rfl) ?_
  refine lv_iconst (v := 0) hx hb dL_law_557 (by decide) ?_
  refine va_lald hx hb hK hP 22 3 lw22 rfl (inb_vp rfl) dL_law_558 ?_
  refine lv_iload hx hb dL_law_559 (lv_at hl 6 rfl) ?_
  refine lv_i2l hx hb dL_law_561 rfl ?_
  refine W.lcmp hx hb dL_law_562 ?_
  rw [lcmp_same]
  refine lv_if_eq hx hb dL_law_563 (tgt := 568) (by decide) (fun _ => ?_) (fun h9 => absurd rfl h9)
  refine lv_goto hx hb dL_law_568 (tgt := 2687) (by decide) ?_
  exact kk H locs ls6 (lv_sb9 hl (by intro q hq; simp only [List.mem_cons, List.not_mem_nil, or_false] at hq ⊢; rcases hq with h | h | h | h | h <;> simp [h])) hP hD hS
theorem lu_8 (hl9 : l.stackTraces = false) (hL : Lc p s m c D z ts b L xs) (hi : i + 6 ≤ L) (hl : lv_has ls 7 [(0, .ref b), (1, .ref (a 0)), (2, .ref (aM 0)), (3, .ref o), (4, .int (Int32.ofNat i))]) (hP : va_P D vwCl (LwS z a n ρ σX aM σM o g) H) (hD : va_D (fun q => s.heap.size ≤ q) (LwS z a n ρ σX aM σM o g)) (hS : va_S (fun q => s.heap.size ≤ q) s.heap H locs) (hf : (cells + 1) ≤ 601024 ∧ (slots + 6) ≤ 7293034) (hfx : f_X6_cooling [.inr (.inl 0), .inl (xs (i + 1))] σX = some (none, σX')) (hfm : f_X7_cooling [.inr (.inl 0), .inl (xs (i + 1))] σM = some (some (some (.inl r)), σM')) (hth : σM' 0 0 = 1)
    (kk : ∀ (H1 : Heap) (locs1 : List Loc) (ls1 : Array Slot), lv_has ls1 7 [(0, .ref b), (1, .ref (a 0)), (2, .ref (aM 0)), (3, .ref o), (4, .int (Int32.ofNat i))] → va_P D vwCl (LwS z a n ρ σX' aM σM' o g) H1 → va_D (fun q => s.heap.size ≤ q) (LwS z a n ρ σX' aM σM' o g) → va_S (fun q => s.heap.size ≤ q) s.heap H1 locs1 → W p l e roomL s m #[Value.ref b] below meth c H1 locs1 (cells + 1) (slots + 6) Q (F0 m 2687 ls1 [])) : W p l e roomL s m #[Value.ref b] below meth c H locs cells slots Q (F0 m 515 ls []) := by
  obtain ⟨hF, hX, hbl, hL3⟩ := id hL
  obtain ⟨hx, hb, hml, hown, hts, hK, hA, hA0, hSt⟩ := id hF
  refine lv_aload_n hx hb dL_law_515 rfl (lv_at hl 1 rfl) ?_
  refine ld_arg hL hl hS (k := 1) (by omega) (by decide) (by decide) dL_law_516 dL_law_517 dL_law_519 dL_law_520 dL_law_521 ?_
  refine lv_aload_n hx hb dL_law_522 rfl (lv_at hl 3 rfl) ?_
  refine lcH (nA := 3) (mc := 1) (ms := 6) (As := [.ref (a 0), .int (xs (i + 1)), .ref o]) (rest := []) hF (fun sz => hht_cooling l hl9 D z ts s.heap.size sz a (ktl z a n ρ) σX σX' o g (xs (i + 1)) hfx) wh_c_cooling wq_890 wq_891 wq_86 (by decide +kernel) (by decide) hP hD hS hl.1 (Nat.le_of_ble_eq_true rfl) rfl rfl dL_law_523 hf (fun H locs hP hD hS => ?_)
  refine lv_istore hx hb dL_law_526 hl (by decide) rfl (fun ls5 hl => ?_)
  have hl : lv_has ls5 7 [(5, .int 1), (0, .ref b), (1, .ref (a 0)), (2, .ref (aM 0)), (3, .ref o), (4, .int (Int32.ofNat i))] := hl
  have hl : lv_has ls5 7 [(0, .ref b), (1, .ref (a 0)), (2, .ref (aM 0)), (3, .ref o), (4, .int (Int32.ofNat i)), (5, .int 1)] := lv_sb9 hl (by intro q hq; simp only [List.mem_cons, List.not_mem_nil, or_false] at hq ⊢; rcases hq with h | h | h | h | h | h <;> simp [h])
  refine lv_aload_n hx hb dL_law_528 rfl (lv_at hl 2 rfl) ?_
  refine ld_arg hL hl hS (k := 1) (by omega) (by decide) (by decide) dL_law_529 dL_law_530 dL_law_532 dL_law_533 dL_law_534 ?_
  refine lcM (nA := 1) (vs' := [.inl (xs (i + 1))]) (rest := []) hF (ct_X7_cooling l) wq_1464 wq_1461 wq_1462 wq_1463 wq_95 (by decide +kernel) (by decide) rfl hfm hP hD hS hl.1 (Nat.le_of_ble_eq_true rfl) rfl rfl dL_law_535 hf (fun H locs hP hD hS => ?_)
  refine lv_istore hx hb dL_law_538 hl (by decide) rfl (fun ls6 hl => ?_)
  have hl : lv_has ls6 7 [(6, .int r), (0, .ref b), (1, .ref (a 0)), (2, .ref (aM 0)), (3, .ref o), (4, .int (Int32.ofNat i)), (5, .int 1)] := hl
  have hl : lv_has ls6 7 [(0, .ref b), (1, .ref (a 0)), (2, .ref (aM 0)), (3, .ref o), (4, .int (Int32.ofNat i)), (5, .int 1), (6, .int r)] := lv_sb9 hl (by intro q hq; simp only [List.mem_cons, List.not_mem_nil, or_false] at hq ⊢; rcases hq with h | h | h | h | h | h | h <;> simp [h])
  refine lv_aload_n hx hb dL_law_540 rfl (lv_at hl 2 rfl) ?_
  refine lcM (nA := 0) (vs' := []) (rest := []) (σM' := σM') (r := σM' 0 0) hF (ct_X7_thrown l) wq_1304 wq_1301 wq_1302 wq_1303 wq_95 (by decide +kernel) (by decide) rfl (e_X7_thrown σM') hP hD hS hl.1 (Nat.le_of_ble_eq_true rfl) rfl rfl dL_law_541 hf (fun H locs hP hD hS => ?_)
  refine lv_iload hx hb dL_law_544 (lv_at hl 5 rfl) ?_
  refine lv_icmp_eq hx hb dL_law_546 (tgt := 551) (by decide) (fun _ => ?_) (fun h9 => absurd hth h9)
  refine lv_iload hx hb dL_law_551 (lv_at hl 5 rfl) ?_
  refine lv_if_ne hx hb dL_law_553 (tgt := 568) (by decide) (fun _ => ?_) (fun h9 => absurd h9 (by decide))
  refine lv_goto hx hb dL_law_568 (tgt := 2687) (by decide) ?_
  exact kk H locs ls6 (lv_sb9 hl (by intro q hq; simp only [List.mem_cons, List.not_mem_nil, or_false] at hq ⊢; rcases hq with h | h | h | h | h <;> simp [h])) hP hD hS
theorem lt_9 (hl9 : l.stackTraces = false) (hL : Lc p s m c D z ts b L xs) (hi : i + 6 ≤ L) (hl : lv_has ls 7 [(0, .ref b), (1, .ref (a 0)), (2, .ref (aM 0)), (3, .ref o), (4, .int (Int32.ofNat i))]) (hP : va_P D vwCl (LwS z a n ρ σX aM σM o g) H) (hD : va_D (fun q => s.heap.size ≤ q) (LwS z a n ρ σX aM σM o g)) (hS : va_S (fun q => s.heap.size ≤ q) s.heap H locs) (hf : cells ≤ 601024 ∧ slots ≤ 7293034) (hfx : f_X6_stepCount [.inr (.inl 0), .inl (xs (i + 1))] σX = some (some (some (.inl r)), σX')) (hfm : f_X7_stepCount [.inr (.inl 0), .inl (xs (i + 1))] σM = some (some (some (.inl r)), σM')) (hth : σM' 0 0 = 0)
    (kk : ∀ (H1 : Heap) (locs1 : List Loc) (ls1 : Array Slot), lv_has ls1 7 [(0, .ref b), (1, .ref (a 0)), (2, .ref (aM 0)), (3, .ref o), (4, .int (Int32.ofNat i))] → va_P D vwCl (LwS z a n ρ σX' aM σM' o (vp_updL g 0 r.toInt64)) H1 → va_D (fun q => s.heap.size ≤ q) (LwS z a n ρ σX' aM σM' o (vp_updL g 0 r.toInt64)) → va_S (fun q => s.heap.size ≤ q) s.heap H1 locs1 → W p l e roomL s m #[Value.ref b] below meth c H1 locs1 cells slots Q (F0 m 2687 ls1 [])) : W p l e roomL s m #[Value.ref b] below meth c H locs cells slots Q (F0 m 571 ls []) := by
  obtain ⟨hF, hX, hbl, hL3⟩ := id hL
  obtain ⟨hx, hb, hml, hown, hts, hK, hA, hA0, hSt⟩ := id hF
  refine lv_aload_n hx hb dL_law_571 rfl (lv_at hl 1 rfl) ?_
  refine ld_arg hL hl hS (k := 1) (by omega) (by decide) (by decide) dL_law_572 dL_law_573 dL_law_575 dL_law_576 dL_law_577 ?_
  refine lv_aload_n hx hb dL_law_578 rfl (lv_at hl 3 rfl) ?_
  refine lcH (nA := 3) (mc := 0) (ms := 0) (As := [.ref (a 0), .int (xs (i + 1)), .ref o]) (rest := []) hF (fun sz => hhr_stepCount l hl9 D z ts s.heap.size sz a (ktl z a n ρ) σX σX' o g (xs (i + 1)) r hfx) wh_c_stepCount wq_897 wq_898 wq_86 (by decide +kernel) (by decide) hP hD hS hl.1 (Nat.le_of_ble_eq_true rfl) rfl rfl dL_law_579 hf (fun H locs hP hD hS => ?_)
  refine lv_istore hx hb dL_law_582 hl (by decide) rfl (fun ls5 hl => ?_)
  have hl : lv_has ls5 7 [(5, .int 0), (0, .ref b), (1, .ref (a 0)), (2, .ref (aM 0)), (3, .ref o), (4, .int (Int32.ofNat i))] := hl
  have hl : lv_has ls5 7 [(0, .ref b), (1, .ref (a 0)), (2, .ref (aM 0)), (3, .ref o), (4, .int (Int32.ofNat i)), (5, .int 0)] := lv_sb9 hl (by intro q hq; simp only [List.mem_cons, List.not_mem_nil, or_false] at hq ⊢; rcases hq with h | h | h | h | h | h <;> simp [h])
  refine lv_aload_n hx hb dL_law_584 rfl (lv_at hl 2 rfl) ?_
  refine ld_arg hL hl hS (k := 1) (by omega) (by decide) (by decide) dL_law_585 dL_law_586 dL_law_588 dL_law_589 dL_law_590 ?_
  refine lcM (nA := 1) (vs' := [.inl (xs (i + 1))]) (rest := []) hF (ct_X7_stepCount l) wq_1468 wq_1465 wq_1466 wq_1467 wq_95 (by decide +kernel) (by decide) rfl hfm hP hD hS hl.1 (Nat.le_of_ble_eq_true rfl) rfl rfl dL_law_591 hf (fun H locs hP hD hS => ?_)
  refine lv_istore hx hb dL_law_594 hl (by decide) rfl (fun ls6 hl => ?_)
  have hl : lv_has ls6 7 [(6, .int r), (0, .ref b), (1, .ref (a 0)), (2, .ref (aM 0)), (3, .ref o), (4, .int (Int32.ofNat i)), (5, .int 0)] := hl
  have hl : lv_has ls6 7 [(0, .ref b), (1, .ref (a 0)), (2, .ref (aM 0)), (3, .ref o), (4, .int (Int32.ofNat i)), (5, .int 0), (6, .int r)] := lv_sb9 hl (by intro q hq; simp only [List.mem_cons, List.not_mem_nil, or_false] at hq ⊢; rcases hq with h | h | h | h | h | h | h <;> simp [h])
  refine lv_aload_n hx hb dL_law_596 rfl (lv_at hl 2 rfl) ?_
  refine lcM (nA := 0) (vs' := []) (rest := []) (σM' := σM') (r := σM' 0 0) hF (ct_X7_thrown l) wq_1304 wq_1301 wq_1302 wq_1303 wq_95 (by decide +kernel) (by decide) rfl (e_X7_thrown σM') hP hD hS hl.1 (Nat.le_of_ble_eq_true rfl) rfl rfl dL_law_597 hf (fun H locs hP hD hS => ?_)
  refine lv_iload hx hb dL_law_600 (lv_at hl 5 rfl) ?_
  refine lv_icmp_eq hx hb dL_law_602 (tgt := 607) (by decide) (fun _ => ?_) (fun h9 => absurd hth h9)
  refine lv_iload hx hb dL_law_607 (lv_at hl 5 rfl) ?_
  refine lv_if_ne hx hb dL_law_609 (tgt := 624) (by decide) (fun h9 => absurd rfl h9) (fun _ => ?_)
  refine lv_aload_n hx hb dL_law_612 rfl (lv_at hl 3 rfl) ?_
  refine lv_iconst (v := 0) hx hb dL_law_613 (by decide) ?_
  refine va_lald hx hb hK hP 22 3 lw22 rfl (inb_vp rfl) dL_law_614 ?_
  refine lv_iload hx hb dL_law_615 (lv_at hl 6 rfl) ?_
  refine lv_i2l hx hb dL_law_617 rfl ?_
  refine W.lcmp hx hb dL_law_618 ?_
  rw [lcmp_same]
  refine lv_if_eq hx hb dL_law_619 (tgt := 624) (by decide) (fun _ => ?_) (fun h9 => absurd rfl h9)
  refine lv_goto hx hb dL_law_624 (tgt := 2687) (by decide) ?_
  exact kk H locs ls6 (lv_sb9 hl (by intro q hq; simp only [List.mem_cons, List.not_mem_nil, or_false] at hq ⊢; rcases hq with h | h | h | h | h <;> simp [h])) hP hD hS
theorem lu_9 (hl9 : l.stackTraces = false) (hL : Lc p s m c D z ts b L xs) (hi : i + 6 ≤ L) (hl : lv_has ls 7 [(0, .ref b), (1, .ref (a 0)), (2, .ref (aM 0)), (3, .ref o), (4, .int (Int32.ofNat i))]) (hP : va_P D vwCl (LwS z a n ρ σX aM σM o g) H) (hD : va_D (fun q => s.heap.size ≤ q) (LwS z a n ρ σX aM σM o g)) (hS : va_S (fun q => s.heap.size ≤ q) s.heap H locs) (hf : (cells + 1) ≤ 601024 ∧ (slots + 6) ≤ 7293034) (hfx : f_X6_stepCount [.inr (.inl 0), .inl (xs (i + 1))] σX = some (none, σX')) (hfm : f_X7_stepCount [.inr (.inl 0), .inl (xs (i + 1))] σM = some (some (some (.inl r)), σM')) (hth : σM' 0 0 = 1)
    (kk : ∀ (H1 : Heap) (locs1 : List Loc) (ls1 : Array Slot), lv_has ls1 7 [(0, .ref b), (1, .ref (a 0)), (2, .ref (aM 0)), (3, .ref o), (4, .int (Int32.ofNat i))] → va_P D vwCl (LwS z a n ρ σX' aM σM' o g) H1 → va_D (fun q => s.heap.size ≤ q) (LwS z a n ρ σX' aM σM' o g) → va_S (fun q => s.heap.size ≤ q) s.heap H1 locs1 → W p l e roomL s m #[Value.ref b] below meth c H1 locs1 (cells + 1) (slots + 6) Q (F0 m 2687 ls1 [])) : W p l e roomL s m #[Value.ref b] below meth c H locs cells slots Q (F0 m 571 ls []) := by
  obtain ⟨hF, hX, hbl, hL3⟩ := id hL
  obtain ⟨hx, hb, hml, hown, hts, hK, hA, hA0, hSt⟩ := id hF
  refine lv_aload_n hx hb dL_law_571 rfl (lv_at hl 1 rfl) ?_
  refine ld_arg hL hl hS (k := 1) (by omega) (by decide) (by decide) dL_law_572 dL_law_573 dL_law_575 dL_law_576 dL_law_577 ?_
  refine lv_aload_n hx hb dL_law_578 rfl (lv_at hl 3 rfl) ?_
  refine lcH (nA := 3) (mc := 1) (ms := 6) (As := [.ref (a 0), .int (xs (i + 1)), .ref o]) (rest := []) hF (fun sz => hht_stepCount l hl9 D z ts s.heap.size sz a (ktl z a n ρ) σX σX' o g (xs (i + 1)) hfx) wh_c_stepCount wq_897 wq_898 wq_86 (by decide +kernel) (by decide) hP hD hS hl.1 (Nat.le_of_ble_eq_true rfl) rfl rfl dL_law_579 hf (fun H locs hP hD hS => ?_)
  refine lv_istore hx hb dL_law_582 hl (by decide) rfl (fun ls5 hl => ?_)
  have hl : lv_has ls5 7 [(5, .int 1), (0, .ref b), (1, .ref (a 0)), (2, .ref (aM 0)), (3, .ref o), (4, .int (Int32.ofNat i))] := hl
  have hl : lv_has ls5 7 [(0, .ref b), (1, .ref (a 0)), (2, .ref (aM 0)), (3, .ref o), (4, .int (Int32.ofNat i)), (5, .int 1)] := lv_sb9 hl (by intro q hq; simp only [List.mem_cons, List.not_mem_nil, or_false] at hq ⊢; rcases hq with h | h | h | h | h | h <;> simp [h])
  refine lv_aload_n hx hb dL_law_584 rfl (lv_at hl 2 rfl) ?_
  refine ld_arg hL hl hS (k := 1) (by omega) (by decide) (by decide) dL_law_585 dL_law_586 dL_law_588 dL_law_589 dL_law_590 ?_
  refine lcM (nA := 1) (vs' := [.inl (xs (i + 1))]) (rest := []) hF (ct_X7_stepCount l) wq_1468 wq_1465 wq_1466 wq_1467 wq_95 (by decide +kernel) (by decide) rfl hfm hP hD hS hl.1 (Nat.le_of_ble_eq_true rfl) rfl rfl dL_law_591 hf (fun H locs hP hD hS => ?_)
  refine lv_istore hx hb dL_law_594 hl (by decide) rfl (fun ls6 hl => ?_)
  have hl : lv_has ls6 7 [(6, .int r), (0, .ref b), (1, .ref (a 0)), (2, .ref (aM 0)), (3, .ref o), (4, .int (Int32.ofNat i)), (5, .int 1)] := hl
  have hl : lv_has ls6 7 [(0, .ref b), (1, .ref (a 0)), (2, .ref (aM 0)), (3, .ref o), (4, .int (Int32.ofNat i)), (5, .int 1), (6, .int r)] := lv_sb9 hl (by intro q hq; simp only [List.mem_cons, List.not_mem_nil, or_false] at hq ⊢; rcases hq with h | h | h | h | h | h | h <;> simp [h])
  refine lv_aload_n hx hb dL_law_596 rfl (lv_at hl 2 rfl) ?_
  refine lcM (nA := 0) (vs' := []) (rest := []) (σM' := σM') (r := σM' 0 0) hF (ct_X7_thrown l) wq_1304 wq_1301 wq_1302 wq_1303 wq_95 (by decide +kernel) (by decide) rfl (e_X7_thrown σM') hP hD hS hl.1 (Nat.le_of_ble_eq_true rfl) rfl rfl dL_law_597 hf (fun H locs hP hD hS => ?_)
  refine lv_iload hx hb dL_law_600 (lv_at hl 5 rfl) ?_
  refine lv_icmp_eq hx hb dL_law_602 (tgt := 607) (by decide) (fun _ => ?_) (fun h9 => absurd hth h9)
  refine lv_iload hx hb dL_law_607 (lv_at hl 5 rfl) ?_
  refine lv_if_ne hx hb dL_law_609 (tgt := 624) (by decide) (fun _ => ?_) (fun h9 => absurd h9 (by decide))
  refine lv_goto hx hb dL_law_624 (tgt := 2687) (by decide) ?_
  exact kk H locs ls6 (lv_sb9 hl (by intro q hq; simp only [List.mem_cons, List.not_mem_nil, or_false] at hq ⊢; rcases hq with h | h | h | h | h <;> simp [h])) hP hD hS
theorem lt_10 (hl9 : l.stackTraces = false) (hL : Lc p s m c D z ts b L xs) (hi : i + 6 ≤ L) (hl : lv_has ls 7 [(0, .ref b), (1, .ref (a 0)), (2, .ref (aM 0)), (3, .ref o), (4, .int (Int32.ofNat i))]) (hP : va_P D vwCl (LwS z a n ρ σX aM σM o g) H) (hD : va_D (fun q => s.heap.size ≤ q) (LwS z a n ρ σX aM σM o g)) (hS : va_S (fun q => s.heap.size ≤ q) s.heap H locs) (hf : cells ≤ 601024 ∧ slots ≤ 7293034) (hfx : f_X6_stepHeat [.inr (.inl 0), .inl (xs (i + 1)), .inl (xs (i + 2))] σX = some (some (some (.inl r)), σX')) (hfm : f_X7_stepHeat [.inr (.inl 0), .inl (xs (i + 1)), .inl (xs (i + 2))] σM = some (some (some (.inl r)), σM')) (hth : σM' 0 0 = 0)
    (kk : ∀ (H1 : Heap) (locs1 : List Loc) (ls1 : Array Slot), lv_has ls1 7 [(0, .ref b), (1, .ref (a 0)), (2, .ref (aM 0)), (3, .ref o), (4, .int (Int32.ofNat i))] → va_P D vwCl (LwS z a n ρ σX' aM σM' o (vp_updL g 0 r.toInt64)) H1 → va_D (fun q => s.heap.size ≤ q) (LwS z a n ρ σX' aM σM' o (vp_updL g 0 r.toInt64)) → va_S (fun q => s.heap.size ≤ q) s.heap H1 locs1 → W p l e roomL s m #[Value.ref b] below meth c H1 locs1 cells slots Q (F0 m 2687 ls1 [])) : W p l e roomL s m #[Value.ref b] below meth c H locs cells slots Q (F0 m 627 ls []) := by
  obtain ⟨hF, hX, hbl, hL3⟩ := id hL
  obtain ⟨hx, hb, hml, hown, hts, hK, hA, hA0, hSt⟩ := id hF
  refine lv_aload_n hx hb dL_law_627 rfl (lv_at hl 1 rfl) ?_
  refine ld_arg hL hl hS (k := 1) (by omega) (by decide) (by decide) dL_law_628 dL_law_629 dL_law_631 dL_law_632 dL_law_633 ?_
  refine ld_arg hL hl hS (k := 2) (by omega) (by decide) (by decide) dL_law_634 dL_law_635 dL_law_637 dL_law_638 dL_law_639 ?_
  refine lv_aload_n hx hb dL_law_640 rfl (lv_at hl 3 rfl) ?_
  refine lcH (nA := 4) (mc := 0) (ms := 0) (As := [.ref (a 0), .int (xs (i + 1)), .int (xs (i + 2)), .ref o]) (rest := []) hF (fun sz => hhr_stepHeat l hl9 D z ts s.heap.size sz a (ktl z a n ρ) σX σX' o g (xs (i + 1)) (xs (i + 2)) r hfx) wh_c_stepHeat wq_904 wq_905 wq_86 (by decide +kernel) (by decide) hP hD hS hl.1 (Nat.le_of_ble_eq_true rfl) rfl rfl dL_law_641 hf (fun H locs hP hD hS => ?_)
  refine lv_istore hx hb dL_law_644 hl (by decide) rfl (fun ls5 hl => ?_)
  have hl : lv_has ls5 7 [(5, .int 0), (0, .ref b), (1, .ref (a 0)), (2, .ref (aM 0)), (3, .ref o), (4, .int (Int32.ofNat i))] := hl
  have hl : lv_has ls5 7 [(0, .ref b), (1, .ref (a 0)), (2, .ref (aM 0)), (3, .ref o), (4, .int (Int32.ofNat i)), (5, .int 0)] := lv_sb9 hl (by intro q hq; simp only [List.mem_cons, List.not_mem_nil, or_false] at hq ⊢; rcases hq with h | h | h | h | h | h <;> simp [h])
  refine lv_aload_n hx hb dL_law_646 rfl (lv_at hl 2 rfl) ?_
  refine ld_arg hL hl hS (k := 1) (by omega) (by decide) (by decide) dL_law_647 dL_law_648 dL_law_650 dL_law_651 dL_law_652 ?_
  refine ld_arg hL hl hS (k := 2) (by omega) (by decide) (by decide) dL_law_653 dL_law_654 dL_law_656 dL_law_657 dL_law_658 ?_
  refine lcM (nA := 2) (vs' := [.inl (xs (i + 1)), .inl (xs (i + 2))]) (rest := []) hF (ct_X7_stepHeat l) wq_1472 wq_1469 wq_1470 wq_1471 wq_95 (by decide +kernel) (by decide) rfl hfm hP hD hS hl.1 (Nat.le_of_ble_eq_true rfl) rfl rfl dL_law_659 hf (fun H locs hP hD hS => ?_)
  refine lv_istore hx hb dL_law_662 hl (by decide) rfl (fun ls6 hl => ?_)
  have hl : lv_has ls6 7 [(6, .int r), (0, .ref b), (1, .ref (a 0)), (2, .ref (aM 0)), (3, .ref o), (4, .int (Int32.ofNat i)), (5, .int 0)] := hl
  have hl : lv_has ls6 7 [(0, .ref b), (1, .ref (a 0)), (2, .ref (aM 0)), (3, .ref o), (4, .int (Int32.ofNat i)), (5, .int 0), (6, .int r)] := lv_sb9 hl (by intro q hq; simp only [List.mem_cons, List.not_mem_nil, or_false] at hq ⊢; rcases hq with h | h | h | h | h | h | h <;> simp [h])
  refine lv_aload_n hx hb dL_law_664 rfl (lv_at hl 2 rfl) ?_
  refine lcM (nA := 0) (vs' := []) (rest := []) (σM' := σM') (r := σM' 0 0) hF (ct_X7_thrown l) wq_1304 wq_1301 wq_1302 wq_1303 wq_95 (by decide +kernel) (by decide) rfl (e_X7_thrown σM') hP hD hS hl.1 (Nat.le_of_ble_eq_true rfl) rfl rfl dL_law_665 hf (fun H locs hP hD hS => ?_)
  refine lv_iload hx hb dL_law_668 (lv_at hl 5 rfl) ?_
  refine lv_icmp_eq hx hb dL_law_670 (tgt := 675) (by decide) (fun _ => ?_) (fun h9 => absurd hth h9)
  refine lv_iload hx hb dL_law_675 (lv_at hl 5 rfl) ?_
  refine lv_if_ne hx hb dL_law_677 (tgt := 692) (by decide) (fun h9 => absurd rfl h9) (fun _ => ?_)
  refine lv_aload_n hx hb dL_law_680 rfl (lv_at hl 3 rfl) ?_
  refine lv_iconst (v := 0) hx hb dL_law_681 (by decide) ?_
  refine va_lald hx hb hK hP 22 3 lw22 rfl (inb_vp rfl) dL_law_682 ?_
  refine lv_iload hx hb dL_law_683 (lv_at hl 6 rfl) ?_
  refine lv_i2l hx hb dL_law_685 rfl ?_
  refine W.lcmp hx hb dL_law_686 ?_
  rw [lcmp_same]
  refine lv_if_eq hx hb dL_law_687 (tgt := 692) (by decide) (fun _ => ?_) (fun h9 => absurd rfl h9)
  refine lv_goto hx hb dL_law_692 (tgt := 2687) (by decide) ?_
  exact kk H locs ls6 (lv_sb9 hl (by intro q hq; simp only [List.mem_cons, List.not_mem_nil, or_false] at hq ⊢; rcases hq with h | h | h | h | h <;> simp [h])) hP hD hS
theorem lu_10 (hl9 : l.stackTraces = false) (hL : Lc p s m c D z ts b L xs) (hi : i + 6 ≤ L) (hl : lv_has ls 7 [(0, .ref b), (1, .ref (a 0)), (2, .ref (aM 0)), (3, .ref o), (4, .int (Int32.ofNat i))]) (hP : va_P D vwCl (LwS z a n ρ σX aM σM o g) H) (hD : va_D (fun q => s.heap.size ≤ q) (LwS z a n ρ σX aM σM o g)) (hS : va_S (fun q => s.heap.size ≤ q) s.heap H locs) (hf : (cells + 1) ≤ 601024 ∧ (slots + 6) ≤ 7293034) (hfx : f_X6_stepHeat [.inr (.inl 0), .inl (xs (i + 1)), .inl (xs (i + 2))] σX = some (none, σX')) (hfm : f_X7_stepHeat [.inr (.inl 0), .inl (xs (i + 1)), .inl (xs (i + 2))] σM = some (some (some (.inl r)), σM')) (hth : σM' 0 0 = 1)
    (kk : ∀ (H1 : Heap) (locs1 : List Loc) (ls1 : Array Slot), lv_has ls1 7 [(0, .ref b), (1, .ref (a 0)), (2, .ref (aM 0)), (3, .ref o), (4, .int (Int32.ofNat i))] → va_P D vwCl (LwS z a n ρ σX' aM σM' o g) H1 → va_D (fun q => s.heap.size ≤ q) (LwS z a n ρ σX' aM σM' o g) → va_S (fun q => s.heap.size ≤ q) s.heap H1 locs1 → W p l e roomL s m #[Value.ref b] below meth c H1 locs1 (cells + 1) (slots + 6) Q (F0 m 2687 ls1 [])) : W p l e roomL s m #[Value.ref b] below meth c H locs cells slots Q (F0 m 627 ls []) := by
  obtain ⟨hF, hX, hbl, hL3⟩ := id hL
  obtain ⟨hx, hb, hml, hown, hts, hK, hA, hA0, hSt⟩ := id hF
  refine lv_aload_n hx hb dL_law_627 rfl (lv_at hl 1 rfl) ?_
  refine ld_arg hL hl hS (k := 1) (by omega) (by decide) (by decide) dL_law_628 dL_law_629 dL_law_631 dL_law_632 dL_law_633 ?_
  refine ld_arg hL hl hS (k := 2) (by omega) (by decide) (by decide) dL_law_634 dL_law_635 dL_law_637 dL_law_638 dL_law_639 ?_
  refine lv_aload_n hx hb dL_law_640 rfl (lv_at hl 3 rfl) ?_
  refine lcH (nA := 4) (mc := 1) (ms := 6) (As := [.ref (a 0), .int (xs (i + 1)), .int (xs (i + 2)), .ref o]) (rest := []) hF (fun sz => hht_stepHeat l hl9 D z ts s.heap.size sz a (ktl z a n ρ) σX σX' o g (xs (i + 1)) (xs (i + 2)) hfx) wh_c_stepHeat wq_904 wq_905 wq_86 (by decide +kernel) (by decide) hP hD hS hl.1 (Nat.le_of_ble_eq_true rfl) rfl rfl dL_law_641 hf (fun H locs hP hD hS => ?_)
  refine lv_istore hx hb dL_law_644 hl (by decide) rfl (fun ls5 hl => ?_)
  have hl : lv_has ls5 7 [(5, .int 1), (0, .ref b), (1, .ref (a 0)), (2, .ref (aM 0)), (3, .ref o), (4, .int (Int32.ofNat i))] := hl
  have hl : lv_has ls5 7 [(0, .ref b), (1, .ref (a 0)), (2, .ref (aM 0)), (3, .ref o), (4, .int (Int32.ofNat i)), (5, .int 1)] := lv_sb9 hl (by intro q hq; simp only [List.mem_cons, List.not_mem_nil, or_false] at hq ⊢; rcases hq with h | h | h | h | h | h <;> simp [h])
  refine lv_aload_n hx hb dL_law_646 rfl (lv_at hl 2 rfl) ?_
  refine ld_arg hL hl hS (k := 1) (by omega) (by decide) (by decide) dL_law_647 dL_law_648 dL_law_650 dL_law_651 dL_law_652 ?_
  refine ld_arg hL hl hS (k := 2) (by omega) (by decide) (by decide) dL_law_653 dL_law_654 dL_law_656 dL_law_657 dL_law_658 ?_
  refine lcM (nA := 2) (vs' := [.inl (xs (i + 1)), .inl (xs (i + 2))]) (rest := []) hF (ct_X7_stepHeat l) wq_1472 wq_1469 wq_1470 wq_1471 wq_95 (by decide +kernel) (by decide) rfl hfm hP hD hS hl.1 (Nat.le_of_ble_eq_true rfl) rfl rfl dL_law_659 hf (fun H locs hP hD hS => ?_)
  refine lv_istore hx hb dL_law_662 hl (by decide) rfl (fun ls6 hl => ?_)
  have hl : lv_has ls6 7 [(6, .int r), (0, .ref b), (1, .ref (a 0)), (2, .ref (aM 0)), (3, .ref o), (4, .int (Int32.ofNat i)), (5, .int 1)] := hl
  have hl : lv_has ls6 7 [(0, .ref b), (1, .ref (a 0)), (2, .ref (aM 0)), (3, .ref o), (4, .int (Int32.ofNat i)), (5, .int 1), (6, .int r)] := lv_sb9 hl (by intro q hq; simp only [List.mem_cons, List.not_mem_nil, or_false] at hq ⊢; rcases hq with h | h | h | h | h | h | h <;> simp [h])
  refine lv_aload_n hx hb dL_law_664 rfl (lv_at hl 2 rfl) ?_
  refine lcM (nA := 0) (vs' := []) (rest := []) (σM' := σM') (r := σM' 0 0) hF (ct_X7_thrown l) wq_1304 wq_1301 wq_1302 wq_1303 wq_95 (by decide +kernel) (by decide) rfl (e_X7_thrown σM') hP hD hS hl.1 (Nat.le_of_ble_eq_true rfl) rfl rfl dL_law_665 hf (fun H locs hP hD hS => ?_)
  refine lv_iload hx hb dL_law_668 (lv_at hl 5 rfl) ?_
  refine lv_icmp_eq hx hb dL_law_670 (tgt := 675) (by decide) (fun _ => ?_) (fun h9 => absurd hth h9)
  refine lv_iload hx hb dL_law_675 (lv_at hl 5 rfl) ?_
  refine lv_if_ne hx hb dL_law_677 (tgt := 692) (by decide) (fun _ => ?_) (fun h9 => absurd h9 (by decide))
  refine lv_goto hx hb dL_law_692 (tgt := 2687) (by decide) ?_
  exact kk H locs ls6 (lv_sb9 hl (by intro q hq; simp only [List.mem_cons, List.not_mem_nil, or_false] at hq ⊢; rcases hq with h | h | h | h | h <;> simp [h])) hP hD hS
theorem lt_11 (hl9 : l.stackTraces = false) (hL : Lc p s m c D z ts b L xs) (hi : i + 6 ≤ L) (hl : lv_has ls 7 [(0, .ref b), (1, .ref (a 0)), (2, .ref (aM 0)), (3, .ref o), (4, .int (Int32.ofNat i))]) (hP : va_P D vwCl (LwS z a n ρ σX aM σM o g) H) (hD : va_D (fun q => s.heap.size ≤ q) (LwS z a n ρ σX aM σM o g)) (hS : va_S (fun q => s.heap.size ≤ q) s.heap H locs) (hf : cells ≤ 601024 ∧ slots ≤ 7293034) (hfx : f_X6_stepMinutes [.inr (.inl 0), .inl (xs (i + 1)), .inl (xs (i + 2))] σX = some (some (some (.inl r)), σX')) (hfm : f_X7_stepMinutes [.inr (.inl 0), .inl (xs (i + 1)), .inl (xs (i + 2))] σM = some (some (some (.inl r)), σM')) (hth : σM' 0 0 = 0)
    (kk : ∀ (H1 : Heap) (locs1 : List Loc) (ls1 : Array Slot), lv_has ls1 7 [(0, .ref b), (1, .ref (a 0)), (2, .ref (aM 0)), (3, .ref o), (4, .int (Int32.ofNat i))] → va_P D vwCl (LwS z a n ρ σX' aM σM' o (vp_updL g 0 r.toInt64)) H1 → va_D (fun q => s.heap.size ≤ q) (LwS z a n ρ σX' aM σM' o (vp_updL g 0 r.toInt64)) → va_S (fun q => s.heap.size ≤ q) s.heap H1 locs1 → W p l e roomL s m #[Value.ref b] below meth c H1 locs1 cells slots Q (F0 m 2687 ls1 [])) : W p l e roomL s m #[Value.ref b] below meth c H locs cells slots Q (F0 m 695 ls []) := by
  obtain ⟨hF, hX, hbl, hL3⟩ := id hL
  obtain ⟨hx, hb, hml, hown, hts, hK, hA, hA0, hSt⟩ := id hF
  refine lv_aload_n hx hb dL_law_695 rfl (lv_at hl 1 rfl) ?_
  refine ld_arg hL hl hS (k := 1) (by omega) (by decide) (by decide) dL_law_696 dL_law_697 dL_law_699 dL_law_700 dL_law_701 ?_
  refine ld_arg hL hl hS (k := 2) (by omega) (by decide) (by decide) dL_law_702 dL_law_703 dL_law_705 dL_law_706 dL_law_707 ?_
  refine lv_aload_n hx hb dL_law_708 rfl (lv_at hl 3 rfl) ?_
  refine lcH (nA := 4) (mc := 0) (ms := 0) (As := [.ref (a 0), .int (xs (i + 1)), .int (xs (i + 2)), .ref o]) (rest := []) hF (fun sz => hhr_stepMinutes l hl9 D z ts s.heap.size sz a (ktl z a n ρ) σX σX' o g (xs (i + 1)) (xs (i + 2)) r hfx) wh_c_stepMinutes wq_920 wq_921 wq_86 (by decide +kernel) (by decide) hP hD hS hl.1 (Nat.le_of_ble_eq_true rfl) rfl rfl dL_law_709 hf (fun H locs hP hD hS => ?_)
  refine lv_istore hx hb dL_law_712 hl (by decide) rfl (fun ls5 hl => ?_)
  have hl : lv_has ls5 7 [(5, .int 0), (0, .ref b), (1, .ref (a 0)), (2, .ref (aM 0)), (3, .ref o), (4, .int (Int32.ofNat i))] := hl
  have hl : lv_has ls5 7 [(0, .ref b), (1, .ref (a 0)), (2, .ref (aM 0)), (3, .ref o), (4, .int (Int32.ofNat i)), (5, .int 0)] := lv_sb9 hl (by intro q hq; simp only [List.mem_cons, List.not_mem_nil, or_false] at hq ⊢; rcases hq with h | h | h | h | h | h <;> simp [h])
  refine lv_aload_n hx hb dL_law_714 rfl (lv_at hl 2 rfl) ?_
  refine ld_arg hL hl hS (k := 1) (by omega) (by decide) (by decide) dL_law_715 dL_law_716 dL_law_718 dL_law_719 dL_law_720 ?_
  refine ld_arg hL hl hS (k := 2) (by omega) (by decide) (by decide) dL_law_721 dL_law_722 dL_law_724 dL_law_725 dL_law_726 ?_
  refine lcM (nA := 2) (vs' := [.inl (xs (i + 1)), .inl (xs (i + 2))]) (rest := []) hF (ct_X7_stepMinutes l) wq_1480 wq_1477 wq_1478 wq_1479 wq_95 (by decide +kernel) (by decide) rfl hfm hP hD hS hl.1 (Nat.le_of_ble_eq_true rfl) rfl rfl dL_law_727 hf (fun H locs hP hD hS => ?_)
  refine lv_istore hx hb dL_law_730 hl (by decide) rfl (fun ls6 hl => ?_)
  have hl : lv_has ls6 7 [(6, .int r), (0, .ref b), (1, .ref (a 0)), (2, .ref (aM 0)), (3, .ref o), (4, .int (Int32.ofNat i)), (5, .int 0)] := hl
  have hl : lv_has ls6 7 [(0, .ref b), (1, .ref (a 0)), (2, .ref (aM 0)), (3, .ref o), (4, .int (Int32.ofNat i)), (5, .int 0), (6, .int r)] := lv_sb9 hl (by intro q hq; simp only [List.mem_cons, List.not_mem_nil, or_false] at hq ⊢; rcases hq with h | h | h | h | h | h | h <;> simp [h])
  refine lv_aload_n hx hb dL_law_732 rfl (lv_at hl 2 rfl) ?_
  refine lcM (nA := 0) (vs' := []) (rest := []) (σM' := σM') (r := σM' 0 0) hF (ct_X7_thrown l) wq_1304 wq_1301 wq_1302 wq_1303 wq_95 (by decide +kernel) (by decide) rfl (e_X7_thrown σM') hP hD hS hl.1 (Nat.le_of_ble_eq_true rfl) rfl rfl dL_law_733 hf (fun H locs hP hD hS => ?_)
  refine lv_iload hx hb dL_law_736 (lv_at hl 5 rfl) ?_
  refine lv_icmp_eq hx hb dL_law_738 (tgt := 743) (by decide) (fun _ => ?_) (fun h9 => absurd hth h9)
  refine lv_iload hx hb dL_law_743 (lv_at hl 5 rfl) ?_
  refine lv_if_ne hx hb dL_law_745 (tgt := 760) (by decide) (fun h9 => absurd rfl h9) (fun _ => ?_)
  refine lv_aload_n hx hb dL_law_748 rfl (lv_at hl 3 rfl) ?_
  refine lv_iconst (v := 0) hx hb dL_law_749 (by decide) ?_
  refine va_lald hx hb hK hP 22 3 lw22 rfl (inb_vp rfl) dL_law_750 ?_
  refine lv_iload hx hb dL_law_751 (lv_at hl 6 rfl) ?_
  refine lv_i2l hx hb dL_law_753 rfl ?_
  refine W.lcmp hx hb dL_law_754 ?_
  rw [lcmp_same]
  refine lv_if_eq hx hb dL_law_755 (tgt := 760) (by decide) (fun _ => ?_) (fun h9 => absurd rfl h9)
  refine lv_goto hx hb dL_law_760 (tgt := 2687) (by decide) ?_
  exact kk H locs ls6 (lv_sb9 hl (by intro q hq; simp only [List.mem_cons, List.not_mem_nil, or_false] at hq ⊢; rcases hq with h | h | h | h | h <;> simp [h])) hP hD hS
theorem lu_11 (hl9 : l.stackTraces = false) (hL : Lc p s m c D z ts b L xs) (hi : i + 6 ≤ L) (hl : lv_has ls 7 [(0, .ref b), (1, .ref (a 0)), (2, .ref (aM 0)), (3, .ref o), (4, .int (Int32.ofNat i))]) (hP : va_P D vwCl (LwS z a n ρ σX aM σM o g) H) (hD : va_D (fun q => s.heap.size ≤ q) (LwS z a n ρ σX aM σM o g)) (hS : va_S (fun q => s.heap.size ≤ q) s.heap H locs) (hf : (cells + 1) ≤ 601024 ∧ (slots + 6) ≤ 7293034) (hfx : f_X6_stepMinutes [.inr (.inl 0), .inl (xs (i + 1)), .inl (xs (i + 2))] σX = some (none, σX')) (hfm : f_X7_stepMinutes [.inr (.inl 0), .inl (xs (i + 1)), .inl (xs (i + 2))] σM = some (some (some (.inl r)), σM')) (hth : σM' 0 0 = 1)
    (kk : ∀ (H1 : Heap) (locs1 : List Loc) (ls1 : Array Slot), lv_has ls1 7 [(0, .ref b), (1, .ref (a 0)), (2, .ref (aM 0)), (3, .ref o), (4, .int (Int32.ofNat i))] → va_P D vwCl (LwS z a n ρ σX' aM σM' o g) H1 → va_D (fun q => s.heap.size ≤ q) (LwS z a n ρ σX' aM σM' o g) → va_S (fun q => s.heap.size ≤ q) s.heap H1 locs1 → W p l e roomL s m #[Value.ref b] below meth c H1 locs1 (cells + 1) (slots + 6) Q (F0 m 2687 ls1 [])) : W p l e roomL s m #[Value.ref b] below meth c H locs cells slots Q (F0 m 695 ls []) := by
  obtain ⟨hF, hX, hbl, hL3⟩ := id hL
  obtain ⟨hx, hb, hml, hown, hts, hK, hA, hA0, hSt⟩ := id hF
  refine lv_aload_n hx hb dL_law_695 rfl (lv_at hl 1 rfl) ?_
  refine ld_arg hL hl hS (k := 1) (by omega) (by decide) (by decide) dL_law_696 dL_law_697 dL_law_699 dL_law_700 dL_law_701 ?_
  refine ld_arg hL hl hS (k := 2) (by omega) (by decide) (by decide) dL_law_702 dL_law_703 dL_law_705 dL_law_706 dL_law_707 ?_
  refine lv_aload_n hx hb dL_law_708 rfl (lv_at hl 3 rfl) ?_
  refine lcH (nA := 4) (mc := 1) (ms := 6) (As := [.ref (a 0), .int (xs (i + 1)), .int (xs (i + 2)), .ref o]) (rest := []) hF (fun sz => hht_stepMinutes l hl9 D z ts s.heap.size sz a (ktl z a n ρ) σX σX' o g (xs (i + 1)) (xs (i + 2)) hfx) wh_c_stepMinutes wq_920 wq_921 wq_86 (by decide +kernel) (by decide) hP hD hS hl.1 (Nat.le_of_ble_eq_true rfl) rfl rfl dL_law_709 hf (fun H locs hP hD hS => ?_)
  refine lv_istore hx hb dL_law_712 hl (by decide) rfl (fun ls5 hl => ?_)
  have hl : lv_has ls5 7 [(5, .int 1), (0, .ref b), (1, .ref (a 0)), (2, .ref (aM 0)), (3, .ref o), (4, .int (Int32.ofNat i))] := hl
  have hl : lv_has ls5 7 [(0, .ref b), (1, .ref (a 0)), (2, .ref (aM 0)), (3, .ref o), (4, .int (Int32.ofNat i)), (5, .int 1)] := lv_sb9 hl (by intro q hq; simp only [List.mem_cons, List.not_mem_nil, or_false] at hq ⊢; rcases hq with h | h | h | h | h | h <;> simp [h])
  refine lv_aload_n hx hb dL_law_714 rfl (lv_at hl 2 rfl) ?_
  refine ld_arg hL hl hS (k := 1) (by omega) (by decide) (by decide) dL_law_715 dL_law_716 dL_law_718 dL_law_719 dL_law_720 ?_
  refine ld_arg hL hl hS (k := 2) (by omega) (by decide) (by decide) dL_law_721 dL_law_722 dL_law_724 dL_law_725 dL_law_726 ?_
  refine lcM (nA := 2) (vs' := [.inl (xs (i + 1)), .inl (xs (i + 2))]) (rest := []) hF (ct_X7_stepMinutes l) wq_1480 wq_1477 wq_1478 wq_1479 wq_95 (by decide +kernel) (by decide) rfl hfm hP hD hS hl.1 (Nat.le_of_ble_eq_true rfl) rfl rfl dL_law_727 hf (fun H locs hP hD hS => ?_)
  refine lv_istore hx hb dL_law_730 hl (by decide) rfl (fun ls6 hl => ?_)
  have hl : lv_has ls6 7 [(6, .int r), (0, .ref b), (1, .ref (a 0)), (2, .ref (aM 0)), (3, .ref o), (4, .int (Int32.ofNat i)), (5, .int 1)] := hl
  have hl : lv_has ls6 7 [(0, .ref b), (1, .ref (a 0)), (2, .ref (aM 0)), (3, .ref o), (4, .int (Int32.ofNat i)), (5, .int 1), (6, .int r)] := lv_sb9 hl (by intro q hq; simp only [List.mem_cons, List.not_mem_nil, or_false] at hq ⊢; rcases hq with h | h | h | h | h | h | h <;> simp [h])
  refine lv_aload_n hx hb dL_law_732 rfl (lv_at hl 2 rfl) ?_
  refine lcM (nA := 0) (vs' := []) (rest := []) (σM' := σM') (r := σM' 0 0) hF (ct_X7_thrown l) wq_1304 wq_1301 wq_1302 wq_1303 wq_95 (by decide +kernel) (by decide) rfl (e_X7_thrown σM') hP hD hS hl.1 (Nat.le_of_ble_eq_true rfl) rfl rfl dL_law_733 hf (fun H locs hP hD hS => ?_)
  refine lv_iload hx hb dL_law_736 (lv_at hl 5 rfl) ?_
  refine lv_icmp_eq hx hb dL_law_738 (tgt := 743) (by decide) (fun _ => ?_) (fun h9 => absurd hth h9)
  refine lv_iload hx hb dL_law_743 (lv_at hl 5 rfl) ?_
  refine lv_if_ne hx hb dL_law_745 (tgt := 760) (by decide) (fun _ => ?_) (fun h9 => absurd h9 (by decide))
  refine lv_goto hx hb dL_law_760 (tgt := 2687) (by decide) ?_
  exact kk H locs ls6 (lv_sb9 hl (by intro q hq; simp only [List.mem_cons, List.not_mem_nil, or_false] at hq ⊢; rcases hq with h | h | h | h | h <;> simp [h])) hP hD hS
end CASES
