def mmD : Mm := cpt (wr mm0 0 4 (-1)) 2 12 0 0 3
theorem dX3_init_0 : decode cX3_init 0 = .ok (.aload_n 0, 1) := by decide +kernel
theorem dX3_init_1 : decode cX3_init 1 = .ok (.invokespecial 3, 3) := by decide +kernel
theorem dX3_init_4 : decode cX3_init 4 = .ok (.aload_n 0, 1) := by decide +kernel
theorem dX3_init_5 : decode cX3_init 5 = .ok (.sipush 2886, 3) := by decide +kernel
theorem dX3_init_8 : decode cX3_init 8 = .ok (.newarray .int, 2) := by decide +kernel
theorem dX3_init_10 : decode cX3_init 10 = .ok (.putfield 9, 3) := by decide +kernel
theorem dX3_init_13 : decode cX3_init 13 = .ok (.aload_n 0, 1) := by decide +kernel
theorem dX3_init_14 : decode cX3_init 14 = .ok (.sipush 2886, 3) := by decide +kernel
theorem dX3_init_17 : decode cX3_init 17 = .ok (.newarray .int, 2) := by decide +kernel
theorem dX3_init_19 : decode cX3_init 19 = .ok (.putfield 15, 3) := by decide +kernel
theorem dX3_init_22 : decode cX3_init 22 = .ok (.aload_n 0, 1) := by decide +kernel
theorem dX3_init_23 : decode cX3_init 23 = .ok (.sipush 2880, 3) := by decide +kernel
theorem dX3_init_26 : decode cX3_init 26 = .ok (.newarray .int, 2) := by decide +kernel
theorem dX3_init_28 : decode cX3_init 28 = .ok (.putfield 18, 3) := by decide +kernel
theorem dX3_init_31 : decode cX3_init 31 = .ok (.aload_n 0, 1) := by decide +kernel
theorem dX3_init_32 : decode cX3_init 32 = .ok (.aload_n 1, 1) := by decide +kernel
theorem dX3_init_33 : decode cX3_init 33 = .ok (.putfield 21, 3) := by decide +kernel
theorem dX3_init_36 : decode cX3_init 36 = .ok (.aload_n 0, 1) := by decide +kernel
theorem dX3_init_37 : decode cX3_init 37 = .ok (.new 25, 3) := by decide +kernel
theorem dX3_init_40 : decode cX3_init 40 = .ok (.dup, 1) := by decide +kernel
theorem dX3_init_41 : decode cX3_init 41 = .ok (.aload_n 1, 1) := by decide +kernel
theorem dX3_init_42 : decode cX3_init 42 = .ok (.invokespecial 27, 3) := by decide +kernel
theorem dX3_init_45 : decode cX3_init 45 = .ok (.putfield 30, 3) := by decide +kernel
theorem dX3_init_48 : decode cX3_init 48 = .ok (.return_, 1) := by decide +kernel
set_option maxHeartbeats 4000000 in
set_option maxRecDepth 100000 in
theorem ci_X3 (l : Launch) (D : va_G) (z : Nat → ClassId) (ts : Nat → Nat) (z0 h0 sz : Nat) (f0 : Nat) : Met l yX3_init (.code yX3_init cX3_init 2 none :: gtb) (rmD 2 15 8725) (va_Pc [.ref h0, .ref f0] (Pr D z ts z0 [(h0, .inr (3, [.null, .null, .null, .null, .null]))] sz)) (va_Qv (fun a : Nat → Nat => a 0 = h0 ∧ a 16 = f0) (fun a t => va_P D vwCl (wT z layL1 a [] mm0) t.heap ∧ va_D (va_A [(h0, .inr (3, [.null, .null, .null, .null, .null]))] sz) (wT z layL1 a [] mm0)) (va_A [(h0, .inr (3, [.null, .null, .null, .null, .null]))] sz)) 15 8725 (va_A [(h0, .inr (3, [.null, .null, .null, .null, .null]))] sz) := by
  refine Met.ofW (cc := cX3_init) (maxL := 2) (ret := none) (by decide) rfl ?_
  intro p e s m args below meth c s₁ B hml hv
  obtain ⟨rfl, hsz, hP, hK, hD0, hz, hSt⟩ := hv
  have hx := B.exec
  have hb := B.bytes
  have hr := B.returns
  have hat := atoms_spec (ws := .code yX3_init cX3_init 2 none :: gtb) B.pre
  have hts := fun w hw => hat w (List.mem_cons_of_mem _ hw)
  have hown : s.vm.findClass RX3 = some m.cls := findClass_of_methodNamed B.named
  have hlocks := B.notSynchronized
  have hin : meth.name = "<init>" := (name_of_methodNamed B.named B.method).1
  subst hsz
  have hD := hD0.self (sz := s.heap.size)
  have hA0 : ∀ q, va_A [(h0, .inr (3, [.null, .null, .null, .null, .null]))] s.heap.size q → z0 ≤ q := by
    rintro q (⟨k9, e9, hk9⟩ | h9)
    · exact hD0.2 k9 _ hk9
    · exact Nat.le_trans hz h9
  generalize hAe : va_A [(h0, .inr (3, [.null, .null, .null, .null, .null]))] s.heap.size = A at hD hA0 ⊢
  have hA : ∀ q : Nat, s.heap.size ≤ q → A q := fun q h => by rw [← hAe]; exact Or.inr h
  have hS : va_S A s.heap s.heap [] := va_S.rf
  have hl := lv_entry ([.ref h0, .ref f0]) (n := 2) (Nat.le_of_ble_eq_true rfl)
  rw [lg_entry_eq]
  generalize (lg_sl ([.ref h0, .ref f0]) ++ List.replicate (2 - (lg_sl ([.ref h0, .ref f0])).length) Slot.unset).toArray = ls at hl ⊢
  have hl : lv_has ls 2 [(0, .ref h0), (1, .ref f0)] := hl
  refine lv_aload_n hx hb dX3_init_0 rfl (lv_at hl 0 rfl) ?_
  refine W.objInit hx hb hown (hts _ wq_261) (hts _ wn_objI) (hts _ wn_objC) rfl (by rw [hml]; exact hl.1) rfl dX3_init_1 (Nat.le_of_ble_eq_true rfl) (Nat.le_of_ble_eq_true rfl) ?_
  refine W.eq (g2 := F0 m 4 ls []) rfl ?_
  refine lv_aload_n hx hb dX3_init_4 rfl (lv_at hl 0 rfl) ?_
  refine lv_sipush (v := 2886) hx hb dX3_init_5 (by decide +kernel) ?_
  refine nw_a 0 (ty := .int) rfl hx hb (atype := .int) (N' := 2886) (a0 := (2886, .inl (fun _ => 0))) (hts _ wn_int) rfl (fun C h => by cases h) hK hP hD hS hA (fun _ => rfl) (by decide +kernel) (by decide +kernel) (Nat.le_of_ble_eq_true rfl) (Nat.le_of_ble_eq_true rfl) (Nat.le_of_ble_eq_true rfl) dX3_init_8 (fun q8 H hP hD hS => ?_)
  have hP : va_P D vwCl [(h0, .inr (3, [.null, .null, .null, .null, .null])), (q8, .inl (z 0, 2886, .inl (fun _ => 0)))] H := hP
  have hD : va_D A [(h0, .inr (3, [.null, .null, .null, .null, .null])), (q8, .inl (z 0, 2886, .inl (fun _ => 0)))] := hD
  refine va_putF (D := D) (ci := 3) (v := .ref q8) (ty := .array .int) (C := RX3) (T := TX3) (N := 5) hx hb hts inGX3 tyX3 tyX3_ok nmX3 hown hK hP hD hS 0 rfl rfl 2 (by decide) (hts _ wq_317) (fun _ h9 => h9) rfl hin rfl (by decide +kernel) rfl rfl (Nat.le_of_ble_eq_true rfl) dX3_init_10 (fun H locs hP hD hS => ?_)
  have hP : va_P D vwCl [(h0, .inr (3, [.null, .null, .ref q8, .null, .null])), (q8, .inl (z 0, 2886, .inl (fun _ => 0)))] H := hP
  have hD : va_D A [(h0, .inr (3, [.null, .null, .ref q8, .null, .null])), (q8, .inl (z 0, 2886, .inl (fun _ => 0)))] := hD
  refine lv_aload_n hx hb dX3_init_13 rfl (lv_at hl 0 rfl) ?_
  refine lv_sipush (v := 2886) hx hb dX3_init_14 (by decide +kernel) ?_
  refine nw_a 0 (ty := .int) rfl hx hb (atype := .int) (N' := 2886) (a0 := (2886, .inl (fun _ => 0))) (hts _ wn_int) rfl (fun C h => by cases h) hK hP hD hS hA (fun _ => rfl) (by decide +kernel) (by decide +kernel) (Nat.le_of_ble_eq_true rfl) (Nat.le_of_ble_eq_true rfl) (Nat.le_of_ble_eq_true rfl) dX3_init_17 (fun q17 H hP hD hS => ?_)
  have hP : va_P D vwCl [(h0, .inr (3, [.null, .null, .ref q8, .null, .null])), (q8, .inl (z 0, 2886, .inl (fun _ => 0))), (q17, .inl (z 0, 2886, .inl (fun _ => 0)))] H := hP
  have hD : va_D A [(h0, .inr (3, [.null, .null, .ref q8, .null, .null])), (q8, .inl (z 0, 2886, .inl (fun _ => 0))), (q17, .inl (z 0, 2886, .inl (fun _ => 0)))] := hD
  refine va_putF (D := D) (ci := 3) (v := .ref q17) (ty := .array .int) (C := RX3) (T := TX3) (N := 5) hx hb hts inGX3 tyX3 tyX3_ok nmX3 hown hK hP hD hS 0 rfl rfl 3 (by decide) (hts _ wq_318) (fun _ h9 => h9) rfl hin rfl (by decide +kernel) rfl rfl (Nat.le_of_ble_eq_true rfl) dX3_init_19 (fun H locs hP hD hS => ?_)
  have hP : va_P D vwCl [(h0, .inr (3, [.null, .null, .ref q8, .ref q17, .null])), (q8, .inl (z 0, 2886, .inl (fun _ => 0))), (q17, .inl (z 0, 2886, .inl (fun _ => 0)))] H := hP
  have hD : va_D A [(h0, .inr (3, [.null, .null, .ref q8, .ref q17, .null])), (q8, .inl (z 0, 2886, .inl (fun _ => 0))), (q17, .inl (z 0, 2886, .inl (fun _ => 0)))] := hD
  refine lv_aload_n hx hb dX3_init_22 rfl (lv_at hl 0 rfl) ?_
  refine lv_sipush (v := 2880) hx hb dX3_init_23 (by decide +kernel) ?_
  refine nw_a 0 (ty := .int) rfl hx hb (atype := .int) (N' := 2880) (a0 := (2880, .inl (fun _ => 0))) (hts _ wn_int) rfl (fun C h => by cases h) hK hP hD hS hA (fun _ => rfl) (by decide +kernel) (by decide +kernel) (Nat.le_of_ble_eq_true rfl) (Nat.le_of_ble_eq_true rfl) (Nat.le_of_ble_eq_true rfl) dX3_init_26 (fun q26 H hP hD hS => ?_)
  have hP : va_P D vwCl [(h0, .inr (3, [.null, .null, .ref q8, .ref q17, .null])), (q8, .inl (z 0, 2886, .inl (fun _ => 0))), (q17, .inl (z 0, 2886, .inl (fun _ => 0))), (q26, .inl (z 0, 2880, .inl (fun _ => 0)))] H := hP
  have hD : va_D A [(h0, .inr (3, [.null, .null, .ref q8, .ref q17, .null])), (q8, .inl (z 0, 2886, .inl (fun _ => 0))), (q17, .inl (z 0, 2886, .inl (fun _ => 0))), (q26, .inl (z 0, 2880, .inl (fun _ => 0)))] := hD
  refine va_putF (D := D) (ci := 3) (v := .ref q26) (ty := .array .int) (C := RX3) (T := TX3) (N := 5) hx hb hts inGX3 tyX3 tyX3_ok nmX3 hown hK hP hD hS 0 rfl rfl 4 (by decide) (hts _ wq_319) (fun _ h9 => h9) rfl hin rfl (by decide +kernel) rfl rfl (Nat.le_of_ble_eq_true rfl) dX3_init_28 (fun H locs hP hD hS => ?_)
  have hP : va_P D vwCl [(h0, .inr (3, [.null, .null, .ref q8, .ref q17, .ref q26])), (q8, .inl (z 0, 2886, .inl (fun _ => 0))), (q17, .inl (z 0, 2886, .inl (fun _ => 0))), (q26, .inl (z 0, 2880, .inl (fun _ => 0)))] H := hP
  have hD : va_D A [(h0, .inr (3, [.null, .null, .ref q8, .ref q17, .ref q26])), (q8, .inl (z 0, 2886, .inl (fun _ => 0))), (q17, .inl (z 0, 2886, .inl (fun _ => 0))), (q26, .inl (z 0, 2880, .inl (fun _ => 0)))] := hD
  refine lv_aload_n hx hb dX3_init_31 rfl (lv_at hl 0 rfl) ?_
  refine lv_aload_n hx hb dX3_init_32 rfl (lv_at hl 1 rfl) ?_
  refine va_putF (D := D) (ci := 3) (v := .ref f0) (ty := .object "ForgeScheduler$Forge") (C := RX3) (T := TX3) (N := 5) hx hb hts inGX3 tyX3 tyX3_ok nmX3 hown hK hP hD hS 0 rfl rfl 0 (by decide) (hts _ wq_314) (fun _ h9 => h9) rfl hin rfl (by decide +kernel) rfl rfl (Nat.le_of_ble_eq_true rfl) dX3_init_33 (fun H locs hP hD hS => ?_)
  have hP : va_P D vwCl [(h0, .inr (3, [.ref f0, .null, .ref q8, .ref q17, .ref q26])), (q8, .inl (z 0, 2886, .inl (fun _ => 0))), (q17, .inl (z 0, 2886, .inl (fun _ => 0))), (q26, .inl (z 0, 2880, .inl (fun _ => 0)))] H := hP
  have hD : va_D A [(h0, .inr (3, [.ref f0, .null, .ref q8, .ref q17, .ref q26])), (q8, .inl (z 0, 2886, .inl (fun _ => 0))), (q17, .inl (z 0, 2886, .inl (fun _ => 0))), (q26, .inl (z 0, 2880, .inl (fun _ => 0)))] := hD
  refine lv_aload_n hx hb dX3_init_36 rfl (lv_at hl 0 rfl) ?_
  refine va_new (ci := 5) (fs := [.null, .null, .null, .null, .null, .null, .null, .null, .null, .null, .null, .null, .int 0]) (C := RX5) (T := TX5) (N := 13) hx hb hts inGX5 tyX5 tyX5_ok hown (hts _ wq_262) (hts _ wq_263) (hts _ wq_93) hK hP hD hS hA rfl (by decide +kernel) (Nat.le_of_ble_eq_true rfl) (Nat.le_of_ble_eq_true rfl) dX3_init_37 (fun q37 H hP hD hS => ?_)
  refine lv_dup hx hb dX3_init_40 rfl ?_
  refine lv_aload_n hx hb dX3_init_41 rfl (lv_at hl 1 rfl) ?_
  refine ini_c (As := [.ref f0]) (rest := [.ref q37, .ref h0]) (W0 := [(h0, .inr (3, [.ref f0, .null, .ref q8, .ref q17, .ref q26])), (q8, .inl (z 0, 2886, .inl (fun _ => 0))), (q17, .inl (z 0, 2886, .inl (fun _ => 0))), (q26, .inl (z 0, 2880, .inl (fun _ => 0)))]) (w1 := fun a => wT z layR1 a [] mm0) (q := q37) (n := 1) ⟨hx, hb, hml, hown, hts, hK, hA, hA0, hSt⟩ (ci_X5 l D z ts z0 q37 H.size f0) hP hD hS wq_266 wq_264 wq_265 wq_93 rfl (by decide +kernel) ⟨Nat.le_of_ble_eq_true rfl, Nat.le_of_ble_eq_true rfl⟩ rfl hl.1 (Nat.le_of_ble_eq_true rfl) dX3_init_42 ⟨Nat.le_of_ble_eq_true rfl, Nat.le_of_ble_eq_true rfl⟩ (fun a42 H9 locs9 ha hP9 hD9 hS9 => ?_)
  clear hP hD hS
  obtain ⟨h9, h8⟩ := ha
  subst h9
  subst h8
  have hl : lv_has ls 2 [(0, .ref h0), (1, .ref (a42 12))] := hl
  have hP : va_P D vwCl ([(h0, .inr (3, [.ref (a42 12), .null, .ref q8, .ref q17, .ref q26])), (q8, .inl (z 0, 2886, .inl (fun _ => 0))), (q17, .inl (z 0, 2886, .inl (fun _ => 0))), (q26, .inl (z 0, 2880, .inl (fun _ => 0)))] ++ wT z layR1 a42 [] mm0) H9 := hP9
  have hD : va_D A ([(h0, .inr (3, [.ref (a42 12), .null, .ref q8, .ref q17, .ref q26])), (q8, .inl (z 0, 2886, .inl (fun _ => 0))), (q17, .inl (z 0, 2886, .inl (fun _ => 0))), (q26, .inl (z 0, 2880, .inl (fun _ => 0)))] ++ wT z layR1 a42 [] mm0) := hD9
  have hS := hS9
  refine va_putF (D := D) (ci := 3) (v := .ref (a42 0)) (ty := .object "ForgeScheduler$Run") (C := RX3) (T := TX3) (N := 5) hx hb hts inGX3 tyX3 tyX3_ok nmX3 hown hK hP hD hS 0 rfl rfl 1 (by decide) (hts _ wq_315) (fun _ h9 => h9) rfl hin rfl (by decide +kernel) rfl rfl (Nat.le_of_ble_eq_true rfl) dX3_init_45 (fun H locs hP hD hS => ?_)
  have hP : va_P D vwCl ([(h0, .inr (3, [.ref (a42 12), .ref (a42 0), .ref q8, .ref q17, .ref q26])), (q8, .inl (z 0, 2886, .inl (fun _ => 0))), (q17, .inl (z 0, 2886, .inl (fun _ => 0))), (q26, .inl (z 0, 2880, .inl (fun _ => 0)))] ++ wT z layR1 a42 [] mm0) H := hP
  have hD : va_D A ([(h0, .inr (3, [.ref (a42 12), .ref (a42 0), .ref q8, .ref q17, .ref q26])), (q8, .inl (z 0, 2886, .inl (fun _ => 0))), (q17, .inl (z 0, 2886, .inl (fun _ => 0))), (q26, .inl (z 0, 2880, .inl (fun _ => 0)))] ++ wT z layR1 a42 [] mm0) := hD
  have e0 : [(h0, .inr (3, [.ref (a42 12), .ref (a42 0), .ref q8, .ref q17, .ref q26])), (q8, .inl (z 0, 2886, .inl (fun _ => 0))), (q17, .inl (z 0, 2886, .inl (fun _ => 0))), (q26, .inl (z 0, 2880, .inl (fun _ => 0)))] ++ wT z layR1 a42 [] mm0 = wT z layL1 (fun j => cond (Nat.blt j 4) (([h0, q8, q17, q26] : List Nat).getD j 0) (a42 (j - 4))) [] mm0 := by
    rw [wT_go, wT_go]
    rfl
  rw [e0] at hP hD
  exact W.vret hx hb hr (fun t ht hW => ⟨⟨fun j => cond (Nat.blt j 4) (([h0, q8, q17, q26] : List Nat).getD j 0) (a42 (j - 4)), rfl, ⟨rfl, rfl⟩, by rw [ht]; exact hP, hD⟩, hS.F ht⟩) hS.2.2 dX3_init_48 hlocks
theorem dX4_init_0 : decode cX4_init 0 = .ok (.aload_n 0, 1) := by decide +kernel
theorem dX4_init_1 : decode cX4_init 1 = .ok (.invokespecial 3, 3) := by decide +kernel
theorem dX4_init_4 : decode cX4_init 4 = .ok (.aload_n 0, 1) := by decide +kernel
theorem dX4_init_5 : decode cX4_init 5 = .ok (.sipush 900, 3) := by decide +kernel
theorem dX4_init_8 : decode cX4_init 8 = .ok (.newarray .byte, 2) := by decide +kernel
theorem dX4_init_10 : decode cX4_init 10 = .ok (.putfield 9, 3) := by decide +kernel
theorem dX4_init_13 : decode cX4_init 13 = .ok (.aload_n 0, 1) := by decide +kernel
theorem dX4_init_14 : decode cX4_init 14 = .ok (.new 15, 3) := by decide +kernel
theorem dX4_init_17 : decode cX4_init 17 = .ok (.dup, 1) := by decide +kernel
theorem dX4_init_18 : decode cX4_init 18 = .ok (.invokespecial 17, 3) := by decide +kernel
theorem dX4_init_21 : decode cX4_init 21 = .ok (.putfield 18, 3) := by decide +kernel
theorem dX4_init_24 : decode cX4_init 24 = .ok (.aload_n 0, 1) := by decide +kernel
theorem dX4_init_25 : decode cX4_init 25 = .ok (.iconst 3, 1) := by decide +kernel
theorem dX4_init_26 : decode cX4_init 26 = .ok (.newarray .boolean, 2) := by decide +kernel
theorem dX4_init_28 : decode cX4_init 28 = .ok (.putfield 22, 3) := by decide +kernel
theorem dX4_init_31 : decode cX4_init 31 = .ok (.aload_n 0, 1) := by decide +kernel
theorem dX4_init_32 : decode cX4_init 32 = .ok (.iconst (-1), 1) := by decide +kernel
theorem dX4_init_33 : decode cX4_init 33 = .ok (.putfield 26, 3) := by decide +kernel
theorem dX4_init_36 : decode cX4_init 36 = .ok (.return_, 1) := by decide +kernel
set_option maxHeartbeats 4000000 in
set_option maxRecDepth 100000 in
theorem ci_X4 (l : Launch) (D : va_G) (z : Nat → ClassId) (ts : Nat → Nat) (z0 h0 sz : Nat) : Met l yX4_init (.code yX4_init cX4_init 1 none :: gtb) (rmD 2 13 1014) (va_Pc [.ref h0] (Pr D z ts z0 [(h0, .inr (4, [.null, .null, .null, .int 0, .int 0, .int 0, .int 0, .int 0, .int 0, .int 0, .int 0]))] sz)) (va_Qv (fun a : Nat → Nat => a 0 = h0) (fun a t => va_P D vwCl (wT z layD a [] mmD) t.heap ∧ va_D (va_A [(h0, .inr (4, [.null, .null, .null, .int 0, .int 0, .int 0, .int 0, .int 0, .int 0, .int 0, .int 0]))] sz) (wT z layD a [] mmD)) (va_A [(h0, .inr (4, [.null, .null, .null, .int 0, .int 0, .int 0, .int 0, .int 0, .int 0, .int 0, .int 0]))] sz)) 13 1014 (va_A [(h0, .inr (4, [.null, .null, .null, .int 0, .int 0, .int 0, .int 0, .int 0, .int 0, .int 0, .int 0]))] sz) := by
  refine Met.ofW (cc := cX4_init) (maxL := 1) (ret := none) (by decide) rfl ?_
  intro p e s m args below meth c s₁ B hml hv
  obtain ⟨rfl, hsz, hP, hK, hD0, hz, hSt⟩ := hv
  have hx := B.exec
  have hb := B.bytes
  have hr := B.returns
  have hat := atoms_spec (ws := .code yX4_init cX4_init 1 none :: gtb) B.pre
  have hts := fun w hw => hat w (List.mem_cons_of_mem _ hw)
  have hown : s.vm.findClass RX4 = some m.cls := findClass_of_methodNamed B.named
  have hlocks := B.notSynchronized
  have hin : meth.name = "<init>" := (name_of_methodNamed B.named B.method).1
  subst hsz
  have hD := hD0.self (sz := s.heap.size)
  have hA0 : ∀ q, va_A [(h0, .inr (4, [.null, .null, .null, .int 0, .int 0, .int 0, .int 0, .int 0, .int 0, .int 0, .int 0]))] s.heap.size q → z0 ≤ q := by
    rintro q (⟨k9, e9, hk9⟩ | h9)
    · exact hD0.2 k9 _ hk9
    · exact Nat.le_trans hz h9
  generalize hAe : va_A [(h0, .inr (4, [.null, .null, .null, .int 0, .int 0, .int 0, .int 0, .int 0, .int 0, .int 0, .int 0]))] s.heap.size = A at hD hA0 ⊢
  have hA : ∀ q : Nat, s.heap.size ≤ q → A q := fun q h => by rw [← hAe]; exact Or.inr h
  have hS : va_S A s.heap s.heap [] := va_S.rf
  have hl := lv_entry ([.ref h0]) (n := 1) (Nat.le_of_ble_eq_true rfl)
  rw [lg_entry_eq]
  generalize (lg_sl ([.ref h0]) ++ List.replicate (1 - (lg_sl ([.ref h0])).length) Slot.unset).toArray = ls at hl ⊢
  have hl : lv_has ls 1 [(0, .ref h0)] := hl
  refine lv_aload_n hx hb dX4_init_0 rfl (lv_at hl 0 rfl) ?_
  refine W.objInit hx hb hown (hts _ wq_214) (hts _ wn_objI) (hts _ wn_objC) rfl (by rw [hml]; exact hl.1) rfl dX4_init_1 (Nat.le_of_ble_eq_true rfl) (Nat.le_of_ble_eq_true rfl) ?_
  refine W.eq (g2 := F0 m 4 ls []) rfl ?_
  refine lv_aload_n hx hb dX4_init_4 rfl (lv_at hl 0 rfl) ?_
  refine lv_sipush (v := 900) hx hb dX4_init_5 (by decide +kernel) ?_
  refine nw_a 1 (ty := .byte) rfl hx hb (atype := .byte) (N' := 900) (a0 := (900, .inl (fun _ => 0))) (hts _ wn_byte) rfl (fun C h => by cases h) hK hP hD hS hA (fun _ => rfl) (by decide +kernel) (by decide +kernel) (Nat.le_of_ble_eq_true rfl) (Nat.le_of_ble_eq_true rfl) (Nat.le_of_ble_eq_true rfl) dX4_init_8 (fun q8 H hP hD hS => ?_)
  have hP : va_P D vwCl [(h0, .inr (4, [.null, .null, .null, .int 0, .int 0, .int 0, .int 0, .int 0, .int 0, .int 0, .int 0])), (q8, .inl (z 1, 900, .inl (fun _ => 0)))] H := hP
  have hD : va_D A [(h0, .inr (4, [.null, .null, .null, .int 0, .int 0, .int 0, .int 0, .int 0, .int 0, .int 0, .int 0])), (q8, .inl (z 1, 900, .inl (fun _ => 0)))] := hD
  refine va_putF (D := D) (ci := 4) (v := .ref q8) (ty := .array .byte) (C := RX4) (T := TX4) (N := 11) hx hb hts inGX4 tyX4 tyX4_ok nmX4 hown hK hP hD hS 0 rfl rfl 0 (by decide) (hts _ wq_217) (fun _ h9 => h9) rfl hin rfl (by decide +kernel) rfl rfl (Nat.le_of_ble_eq_true rfl) dX4_init_10 (fun H locs hP hD hS => ?_)
  have hP : va_P D vwCl [(h0, .inr (4, [.ref q8, .null, .null, .int 0, .int 0, .int 0, .int 0, .int 0, .int 0, .int 0, .int 0])), (q8, .inl (z 1, 900, .inl (fun _ => 0)))] H := hP
  have hD : va_D A [(h0, .inr (4, [.ref q8, .null, .null, .int 0, .int 0, .int 0, .int 0, .int 0, .int 0, .int 0, .int 0])), (q8, .inl (z 1, 900, .inl (fun _ => 0)))] := hD
  refine lv_aload_n hx hb dX4_init_13 rfl (lv_at hl 0 rfl) ?_
  refine va_new (ci := 2) (fs := [.int 0, .int 0, .null, .null, .null, .null, .null, .null, .null, .null, .null, .null]) (C := RX2) (T := TX2) (N := 12) hx hb hts inGX2 tyX2 tyX2_ok hown (hts _ wq_215) (hts _ wq_114) (hts _ wq_88) hK hP hD hS hA rfl (by decide +kernel) (Nat.le_of_ble_eq_true rfl) (Nat.le_of_ble_eq_true rfl) dX4_init_14 (fun q14 H hP hD hS => ?_)
  refine lv_dup hx hb dX4_init_17 rfl ?_
  refine ini_c (As := []) (rest := [.ref q14, .ref h0]) (W0 := [(h0, .inr (4, [.ref q8, .null, .null, .int 0, .int 0, .int 0, .int 0, .int 0, .int 0, .int 0, .int 0])), (q8, .inl (z 1, 900, .inl (fun _ => 0)))]) (w1 := fun a => wT z layF a [] mmF) (q := q14) (n := 0) ⟨hx, hb, hml, hown, hts, hK, hA, hA0, hSt⟩ (ci_X2 l D z ts z0 q14 H.size) hP hD hS wq_117 wq_216 wq_116 wq_88 rfl (by decide +kernel) ⟨Nat.le_of_ble_eq_true rfl, Nat.le_of_ble_eq_true rfl⟩ rfl hl.1 (Nat.le_of_ble_eq_true rfl) dX4_init_18 ⟨Nat.le_of_ble_eq_true rfl, Nat.le_of_ble_eq_true rfl⟩ (fun a18 H9 locs9 ha hP9 hD9 hS9 => ?_)
  clear hP hD hS
  subst ha
  have hl : lv_has ls 1 [(0, .ref h0)] := hl
  have hP : va_P D vwCl ([(h0, .inr (4, [.ref q8, .null, .null, .int 0, .int 0, .int 0, .int 0, .int 0, .int 0, .int 0, .int 0])), (q8, .inl (z 1, 900, .inl (fun _ => 0)))] ++ wT z layF a18 [] mmF) H9 := hP9
  have hD : va_D A ([(h0, .inr (4, [.ref q8, .null, .null, .int 0, .int 0, .int 0, .int 0, .int 0, .int 0, .int 0, .int 0])), (q8, .inl (z 1, 900, .inl (fun _ => 0)))] ++ wT z layF a18 [] mmF) := hD9
  have hS := hS9
  refine va_putF (D := D) (ci := 4) (v := .ref (a18 0)) (ty := .object "ForgeScheduler$Forge") (C := RX4) (T := TX4) (N := 11) hx hb hts inGX4 tyX4 tyX4_ok nmX4 hown hK hP hD hS 0 rfl rfl 1 (by decide) (hts _ wq_218) (fun _ h9 => h9) rfl hin rfl (by decide +kernel) rfl rfl (Nat.le_of_ble_eq_true rfl) dX4_init_21 (fun H locs hP hD hS => ?_)
  have hP : va_P D vwCl ([(h0, .inr (4, [.ref q8, .ref (a18 0), .null, .int 0, .int 0, .int 0, .int 0, .int 0, .int 0, .int 0, .int 0])), (q8, .inl (z 1, 900, .inl (fun _ => 0)))] ++ wT z layF a18 [] mmF) H := hP
  have hD : va_D A ([(h0, .inr (4, [.ref q8, .ref (a18 0), .null, .int 0, .int 0, .int 0, .int 0, .int 0, .int 0, .int 0, .int 0])), (q8, .inl (z 1, 900, .inl (fun _ => 0)))] ++ wT z layF a18 [] mmF) := hD
  refine lv_aload_n hx hb dX4_init_24 rfl (lv_at hl 0 rfl) ?_
  refine lv_iconst (v := 3) hx hb dX4_init_25 (by decide +kernel) ?_
  refine nw_a 2 (ty := .boolean) rfl hx hb (atype := .boolean) (N' := 3) (a0 := (3, .inl (fun _ => 0))) (hts _ wn_bool) rfl (fun C h => by cases h) hK hP hD hS hA (fun _ => rfl) (by decide +kernel) (by decide +kernel) (Nat.le_of_ble_eq_true rfl) (Nat.le_of_ble_eq_true rfl) (Nat.le_of_ble_eq_true rfl) dX4_init_26 (fun q26 H hP hD hS => ?_)
  have hP : va_P D vwCl (([(h0, .inr (4, [.ref q8, .ref (a18 0), .null, .int 0, .int 0, .int 0, .int 0, .int 0, .int 0, .int 0, .int 0])), (q8, .inl (z 1, 900, .inl (fun _ => 0)))] ++ wT z layF a18 [] mmF) ++ [(q26, .inl (z 2, 3, .inl (fun _ => 0)))]) H := hP
  have hD : va_D A (([(h0, .inr (4, [.ref q8, .ref (a18 0), .null, .int 0, .int 0, .int 0, .int 0, .int 0, .int 0, .int 0, .int 0])), (q8, .inl (z 1, 900, .inl (fun _ => 0)))] ++ wT z layF a18 [] mmF) ++ [(q26, .inl (z 2, 3, .inl (fun _ => 0)))]) := hD
  refine va_putF (D := D) (ci := 4) (v := .ref q26) (ty := .array .boolean) (C := RX4) (T := TX4) (N := 11) hx hb hts inGX4 tyX4 tyX4_ok nmX4 hown hK hP hD hS 0 rfl rfl 2 (by decide) (hts _ wq_220) (fun _ h9 => h9) rfl hin rfl (by decide +kernel) rfl rfl (Nat.le_of_ble_eq_true rfl) dX4_init_28 (fun H locs hP hD hS => ?_)
  have hP : va_P D vwCl (([(h0, .inr (4, [.ref q8, .ref (a18 0), .ref q26, .int 0, .int 0, .int 0, .int 0, .int 0, .int 0, .int 0, .int 0])), (q8, .inl (z 1, 900, .inl (fun _ => 0)))] ++ wT z layF a18 [] mmF) ++ [(q26, .inl (z 2, 3, .inl (fun _ => 0)))]) H := hP
  have hD : va_D A (([(h0, .inr (4, [.ref q8, .ref (a18 0), .ref q26, .int 0, .int 0, .int 0, .int 0, .int 0, .int 0, .int 0, .int 0])), (q8, .inl (z 1, 900, .inl (fun _ => 0)))] ++ wT z layF a18 [] mmF) ++ [(q26, .inl (z 2, 3, .inl (fun _ => 0)))]) := hD
  refine lv_aload_n hx hb dX4_init_31 rfl (lv_at hl 0 rfl) ?_
  refine lv_iconst (v := (-1)) hx hb dX4_init_32 (by decide +kernel) ?_
  refine va_put (D := D) (ci := 4) (v := .int (-1)) (ty := .int) (C := RX4) (T := TX4) (N := 11) hx hb hts inGX4 tyX4 tyX4_ok nmX4 hown hK hP hD hS 0 rfl rfl 4 (by decide) (hts _ wq_223) (fun _ h9 => h9) rfl (by decide +kernel) rfl rfl (Nat.le_of_ble_eq_true rfl) dX4_init_33 (fun H locs hP hD hS => ?_)
  have hP : va_P D vwCl (([(h0, .inr (4, [.ref q8, .ref (a18 0), .ref q26, .int 0, .int (-1), .int 0, .int 0, .int 0, .int 0, .int 0, .int 0])), (q8, .inl (z 1, 900, .inl (fun _ => 0)))] ++ wT z layF a18 [] mmF) ++ [(q26, .inl (z 2, 3, .inl (fun _ => 0)))]) H := hP
  have hD : va_D A (([(h0, .inr (4, [.ref q8, .ref (a18 0), .ref q26, .int 0, .int (-1), .int 0, .int 0, .int 0, .int 0, .int 0, .int 0])), (q8, .inl (z 1, 900, .inl (fun _ => 0)))] ++ wT z layF a18 [] mmF) ++ [(q26, .inl (z 2, 3, .inl (fun _ => 0)))]) := hD
  rw [wT_go] at hP hD
  have hP9 := hP.sub (ws' := wgo z (fun j => cond (Nat.blt j 3) (([h0, q8, q26] : List Nat).getD j 0) (a18 (j - 3))) mmD 0 layD ++ []) [0, 1, 13, 2, 3, 4, 5, 6, 7, 8, 9, 10, 11, 12] rfl
  have hD9 := hD.sub (ws' := wgo z (fun j => cond (Nat.blt j 3) (([h0, q8, q26] : List Nat).getD j 0) (a18 (j - 3))) mmD 0 layD ++ []) [0, 1, 13, 2, 3, 4, 5, 6, 7, 8, 9, 10, 11, 12] (by decide) rfl
  rw [← wT_go] at hP9 hD9
  exact W.vret hx hb hr (fun t ht hW => ⟨⟨fun j => cond (Nat.blt j 3) (([h0, q8, q26] : List Nat).getD j 0) (a18 (j - 3)), rfl, rfl, by rw [ht]; exact hP9, hD9⟩, hS.F ht⟩) hS.2.2 dX4_init_36 hlocks
