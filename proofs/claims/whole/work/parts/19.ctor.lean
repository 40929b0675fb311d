theorem wq_336 : Cond.methodLink "ForgeScheduler$BestOrder" 3 ⟨"java/lang/Object", "<init>", "()V"⟩ ∈ gtb := List.mem_filter.mpr ⟨List.mem_of_getElem? (i := 336) (by decide +kernel), rfl⟩
theorem wq_118 : Cond.methodLink "ForgeScheduler$Forge" 3 ⟨"java/lang/Object", "<init>", "()V"⟩ ∈ gtb := List.mem_filter.mpr ⟨List.mem_of_getElem? (i := 118) (by decide +kernel), rfl⟩
theorem wq_267 : Cond.methodLink "ForgeScheduler$Run" 3 ⟨"java/lang/Object", "<init>", "()V"⟩ ∈ gtb := List.mem_filter.mpr ⟨List.mem_of_getElem? (i := 267) (by decide +kernel), rfl⟩
theorem wq_261 : Cond.methodLink "ForgeScheduler$Log" 3 ⟨"java/lang/Object", "<init>", "()V"⟩ ∈ gtb := List.mem_filter.mpr ⟨List.mem_of_getElem? (i := 261) (by decide +kernel), rfl⟩
theorem wq_262 : Cond.classLink "ForgeScheduler$Log" 25 "ForgeScheduler$Run" ∈ gtb := List.mem_filter.mpr ⟨List.mem_of_getElem? (i := 262) (by decide +kernel), rfl⟩
theorem wq_263 : Cond.instantiable "ForgeScheduler$Run" 13 ∈ gtb := List.mem_filter.mpr ⟨List.mem_of_getElem? (i := 263) (by decide +kernel), rfl⟩
theorem wq_264 : Cond.methodLink "ForgeScheduler$Log" 27 ⟨"ForgeScheduler$Run", "<init>", "(LForgeScheduler$Forge;)V"⟩ ∈ gtb := List.mem_filter.mpr ⟨List.mem_of_getElem? (i := 264) (by decide +kernel), rfl⟩
theorem wq_266 : Cond.code ⟨"ForgeScheduler$Run", "<init>", "(LForgeScheduler$Forge;)V"⟩ prog_7_method_1_code 2 none ∈ gtb := List.mem_filter.mpr ⟨List.mem_of_getElem? (i := 266) (by decide +kernel), rfl⟩
theorem wq_265 : Cond.instanceMethod ⟨"ForgeScheduler$Run", "<init>", "(LForgeScheduler$Forge;)V"⟩ ∈ gtb := List.mem_filter.mpr ⟨List.mem_of_getElem? (i := 265) (by decide +kernel), rfl⟩
theorem wq_214 : Cond.methodLink "ForgeScheduler$Reader" 3 ⟨"java/lang/Object", "<init>", "()V"⟩ ∈ gtb := List.mem_filter.mpr ⟨List.mem_of_getElem? (i := 214) (by decide +kernel), rfl⟩
theorem wq_215 : Cond.classLink "ForgeScheduler$Reader" 15 "ForgeScheduler$Forge" ∈ gtb := List.mem_filter.mpr ⟨List.mem_of_getElem? (i := 215) (by decide +kernel), rfl⟩
theorem wq_114 : Cond.instantiable "ForgeScheduler$Forge" 12 ∈ gtb := List.mem_filter.mpr ⟨List.mem_of_getElem? (i := 114) (by decide +kernel), rfl⟩
theorem wq_216 : Cond.methodLink "ForgeScheduler$Reader" 17 ⟨"ForgeScheduler$Forge", "<init>", "()V"⟩ ∈ gtb := List.mem_filter.mpr ⟨List.mem_of_getElem? (i := 216) (by decide +kernel), rfl⟩
theorem wq_117 : Cond.code ⟨"ForgeScheduler$Forge", "<init>", "()V"⟩ prog_4_method_1_code 1 none ∈ gtb := List.mem_filter.mpr ⟨List.mem_of_getElem? (i := 117) (by decide +kernel), rfl⟩
theorem wq_116 : Cond.instanceMethod ⟨"ForgeScheduler$Forge", "<init>", "()V"⟩ ∈ gtb := List.mem_filter.mpr ⟨List.mem_of_getElem? (i := 116) (by decide +kernel), rfl⟩
def layR1 : List Shp := layR.take 12
def layL1 : List Shp := layL.take 16
def layB1 : List Shp := layB.take 2
def mm0 : Mm := fun _ _ => 0
def mmF : Mm := cpt mm0 2 9 0 0 3
theorem dX0_init_0 : decode cX0_init 0 = .ok (.aload_n 0, 1) := by decide +kernel
theorem dX0_init_1 : decode cX0_init 1 = .ok (.invokespecial 3, 3) := by decide +kernel
theorem dX0_init_4 : decode cX0_init 4 = .ok (.aload_n 0, 1) := by decide +kernel
theorem dX0_init_5 : decode cX0_init 5 = .ok (.bipush 6, 2) := by decide +kernel
theorem dX0_init_7 : decode cX0_init 7 = .ok (.newarray .int, 2) := by decide +kernel
theorem dX0_init_9 : decode cX0_init 9 = .ok (.putfield 9, 3) := by decide +kernel
theorem dX0_init_12 : decode cX0_init 12 = .ok (.return_, 1) := by decide +kernel
set_option maxHeartbeats 4000000 in
set_option maxRecDepth 100000 in
theorem ci_X0 (l : Launch) (D : va_G) (z : Nat → ClassId) (ts : Nat → Nat) (z0 h0 sz : Nat) : Met l yX0_init (.code yX0_init cX0_init 1 none :: gtb) (rmD 1 1 6) (va_Pc [.ref h0] (Pr D z ts z0 [(h0, .inr (0, [.null, .int 0, .int 0]))] sz)) (va_Qv (fun a : Nat → Nat => a 0 = h0) (fun a t => va_P D vwCl (wT z layB1 a [] mm0) t.heap ∧ va_D (va_A [(h0, .inr (0, [.null, .int 0, .int 0]))] sz) (wT z layB1 a [] mm0)) (va_A [(h0, .inr (0, [.null, .int 0, .int 0]))] sz)) 1 6 (va_A [(h0, .inr (0, [.null, .int 0, .int 0]))] sz) := by
  refine Met.ofW (cc := cX0_init) (maxL := 1) (ret := none) (by decide) rfl ?_
  intro p e s m args below meth c s₁ B hml hv
  obtain ⟨rfl, hsz, hP, hK, hD0, hz, hSt⟩ := hv
  have hx := B.exec
  have hb := B.bytes
  have hr := B.returns
  have hat := atoms_spec (ws := .code yX0_init cX0_init 1 none :: gtb) B.pre
  have hts := fun w hw => hat w (List.mem_cons_of_mem _ hw)
  have hown : s.vm.findClass RX0 = some m.cls := findClass_of_methodNamed B.named
  have hlocks := B.notSynchronized
  have hin : meth.name = "<init>" := (name_of_methodNamed B.named B.method).1
  subst hsz
  have hD := hD0.self (sz := s.heap.size)
  have hA0 : ∀ q, va_A [(h0, .inr (0, [.null, .int 0, .int 0]))] s.heap.size q → z0 ≤ q := by
    rintro q (⟨k9, e9, hk9⟩ | h9)
    · exact hD0.2 k9 _ hk9
    · exact Nat.le_trans hz h9
  generalize hAe : va_A [(h0, .inr (0, [.null, .int 0, .int 0]))] s.heap.size = A at hD hA0 ⊢
  have hA : ∀ q : Nat, s.heap.size ≤ q → A q := fun q h => by rw [← hAe]; exact Or.inr h
  have hS : va_S A s.heap s.heap [] := va_S.rf
  have hl := lv_entry ([.ref h0]) (n := 1) (Nat.le_of_ble_eq_true rfl)
  rw [lg_entry_eq]
  generalize (lg_sl ([.ref h0]) ++ List.replicate (1 - (lg_sl ([.ref h0])).length) Slot.unset).toArray = ls at hl ⊢
  have hl : lv_has ls 1 [(0, .ref h0)] := hl
  refine lv_aload_n hx hb dX0_init_0 rfl (lv_at hl 0 rfl) ?_
  refine W.objInit hx hb hown (hts _ wq_336) (hts _ wn_objI) (hts _ wn_objC) rfl (by rw [hml]; exact hl.1) rfl dX0_init_1 (Nat.le_of_ble_eq_true rfl) (Nat.le_of_ble_eq_true rfl) ?_
  refine W.eq (g2 := F0 m 4 ls []) rfl ?_
  refine lv_aload_n hx hb dX0_init_4 rfl (lv_at hl 0 rfl) ?_
  refine lv_bipush (v := 6) hx hb dX0_init_5 (by decide +kernel) ?_
  refine nw_a 0 (ty := .int) rfl hx hb (atype := .int) (N' := 6) (a0 := (6, .inl (fun _ => 0))) (hts _ wn_int) rfl (fun C h => by cases h) hK hP hD hS hA (fun _ => rfl) (by decide +kernel) (by decide +kernel) (Nat.le_of_ble_eq_true rfl) (Nat.le_of_ble_eq_true rfl) (Nat.le_of_ble_eq_true rfl) dX0_init_7 (fun q7 H hP hD hS => ?_)
  have hP : va_P D vwCl [(h0, .inr (0, [.null, .int 0, .int 0])), (q7, .inl (z 0, 6, .inl (fun _ => 0)))] H := hP
  have hD : va_D A [(h0, .inr (0, [.null, .int 0, .int 0])), (q7, .inl (z 0, 6, .inl (fun _ => 0)))] := hD
  refine va_putF (D := D) (ci := 0) (v := .ref q7) (ty := .array .int) (C := RX0) (T := TX0) (N := 3) hx hb hts inGX0 tyX0 tyX0_ok nmX0 hown hK hP hD hS 0 rfl rfl 0 (by decide) (hts _ wq_337) (fun _ h9 => h9) rfl hin rfl (by decide +kernel) rfl rfl (Nat.le_of_ble_eq_true rfl) dX0_init_9 (fun H locs hP hD hS => ?_)
  have hP : va_P D vwCl [(h0, .inr (0, [.ref q7, .int 0, .int 0])), (q7, .inl (z 0, 6, .inl (fun _ => 0)))] H := hP
  have hD : va_D A [(h0, .inr (0, [.ref q7, .int 0, .int 0])), (q7, .inl (z 0, 6, .inl (fun _ => 0)))] := hD
  exact W.vret hx hb hr (fun t ht hW => ⟨⟨fun j => ([h0, q7] : List Nat).getD j 0, rfl, rfl, by rw [ht]; exact hP, hD⟩, hS.F ht⟩) hS.2.2 dX0_init_12 hlocks
theorem dX2_init_0 : decode cX2_init 0 = .ok (.aload_n 0, 1) := by decide +kernel
theorem dX2_init_1 : decode cX2_init 1 = .ok (.invokespecial 3, 3) := by decide +kernel
theorem dX2_init_4 : decode cX2_init 4 = .ok (.aload_n 0, 1) := by decide +kernel
theorem dX2_init_5 : decode cX2_init 5 = .ok (.bipush 6, 2) := by decide +kernel
theorem dX2_init_7 : decode cX2_init 7 = .ok (.newarray .int, 2) := by decide +kernel
theorem dX2_init_9 : decode cX2_init 9 = .ok (.putfield 9, 3) := by decide +kernel
theorem dX2_init_12 : decode cX2_init 12 = .ok (.aload_n 0, 1) := by decide +kernel
theorem dX2_init_13 : decode cX2_init 13 = .ok (.bipush 6, 2) := by decide +kernel
theorem dX2_init_15 : decode cX2_init 15 = .ok (.newarray .int, 2) := by decide +kernel
theorem dX2_init_17 : decode cX2_init 17 = .ok (.putfield 15, 3) := by decide +kernel
theorem dX2_init_20 : decode cX2_init 20 = .ok (.aload_n 0, 1) := by decide +kernel
theorem dX2_init_21 : decode cX2_init 21 = .ok (.bipush 6, 2) := by decide +kernel
theorem dX2_init_23 : decode cX2_init 23 = .ok (.newarray .int, 2) := by decide +kernel
theorem dX2_init_25 : decode cX2_init 25 = .ok (.putfield 18, 3) := by decide +kernel
theorem dX2_init_28 : decode cX2_init 28 = .ok (.aload_n 0, 1) := by decide +kernel
theorem dX2_init_29 : decode cX2_init 29 = .ok (.bipush 6, 2) := by decide +kernel
theorem dX2_init_31 : decode cX2_init 31 = .ok (.newarray .int, 2) := by decide +kernel
theorem dX2_init_33 : decode cX2_init 33 = .ok (.putfield 21, 3) := by decide +kernel
theorem dX2_init_36 : decode cX2_init 36 = .ok (.aload_n 0, 1) := by decide +kernel
theorem dX2_init_37 : decode cX2_init 37 = .ok (.bipush 30, 2) := by decide +kernel
theorem dX2_init_39 : decode cX2_init 39 = .ok (.newarray .int, 2) := by decide +kernel
theorem dX2_init_41 : decode cX2_init 41 = .ok (.putfield 24, 3) := by decide +kernel
theorem dX2_init_44 : decode cX2_init 44 = .ok (.aload_n 0, 1) := by decide +kernel
theorem dX2_init_45 : decode cX2_init 45 = .ok (.bipush 30, 2) := by decide +kernel
theorem dX2_init_47 : decode cX2_init 47 = .ok (.newarray .int, 2) := by decide +kernel
theorem dX2_init_49 : decode cX2_init 49 = .ok (.putfield 27, 3) := by decide +kernel
theorem dX2_init_52 : decode cX2_init 52 = .ok (.aload_n 0, 1) := by decide +kernel
theorem dX2_init_53 : decode cX2_init 53 = .ok (.iconst 3, 1) := by decide +kernel
theorem dX2_init_54 : decode cX2_init 54 = .ok (.newarray .int, 2) := by decide +kernel
theorem dX2_init_56 : decode cX2_init 56 = .ok (.putfield 30, 3) := by decide +kernel
theorem dX2_init_59 : decode cX2_init 59 = .ok (.aload_n 0, 1) := by decide +kernel
theorem dX2_init_60 : decode cX2_init 60 = .ok (.iconst 3, 1) := by decide +kernel
theorem dX2_init_61 : decode cX2_init 61 = .ok (.newarray .int, 2) := by decide +kernel
theorem dX2_init_63 : decode cX2_init 63 = .ok (.putfield 33, 3) := by decide +kernel
theorem dX2_init_66 : decode cX2_init 66 = .ok (.aload_n 0, 1) := by decide +kernel
theorem dX2_init_67 : decode cX2_init 67 = .ok (.iconst 3, 1) := by decide +kernel
theorem dX2_init_68 : decode cX2_init 68 = .ok (.newarray .int, 2) := by decide +kernel
theorem dX2_init_70 : decode cX2_init 70 = .ok (.putfield 36, 3) := by decide +kernel
theorem dX2_init_73 : decode cX2_init 73 = .ok (.aload_n 0, 1) := by decide +kernel
theorem dX2_init_74 : decode cX2_init 74 = .ok (.bipush 6, 2) := by decide +kernel
theorem dX2_init_76 : decode cX2_init 76 = .ok (.newarray .int, 2) := by decide +kernel
theorem dX2_init_78 : decode cX2_init 78 = .ok (.putfield 39, 3) := by decide +kernel
theorem dX2_init_81 : decode cX2_init 81 = .ok (.getstatic 42, 3) := by decide +kernel
theorem dX2_init_84 : decode cX2_init 84 = .ok (.iconst 0, 1) := by decide +kernel
theorem dX2_init_85 : decode cX2_init 85 = .ok (.aload_n 0, 1) := by decide +kernel
theorem dX2_init_86 : decode cX2_init 86 = .ok (.getfield 36, 3) := by decide +kernel
theorem dX2_init_89 : decode cX2_init 89 = .ok (.iconst 0, 1) := by decide +kernel
theorem dX2_init_90 : decode cX2_init 90 = .ok (.iconst 3, 1) := by decide +kernel
theorem dX2_init_91 : decode cX2_init 91 = .ok (.invokestatic 45, 3) := by decide +kernel
theorem dX2_init_94 : decode cX2_init 94 = .ok (.return_, 1) := by decide +kernel
set_option maxHeartbeats 4000000 in
set_option maxRecDepth 100000 in
theorem ci_X2 (l : Launch) (D : va_G) (z : Nat → ClassId) (ts : Nat → Nat) (z0 h0 sz : Nat) : Met l yX2_init (.code yX2_init cX2_init 1 none :: gtb) (rmD 1 10 99) (va_Pc [.ref h0] (Pr D z ts z0 [(h0, .inr (2, [.int 0, .int 0, .null, .null, .null, .null, .null, .null, .null, .null, .null, .null]))] sz)) (va_Qv (fun a : Nat → Nat => a 0 = h0) (fun a t => va_P D vwCl (wT z layF a [] mmF) t.heap ∧ va_D (va_A [(h0, .inr (2, [.int 0, .int 0, .null, .null, .null, .null, .null, .null, .null, .null, .null, .null]))] sz) (wT z layF a [] mmF)) (va_A [(h0, .inr (2, [.int 0, .int 0, .null, .null, .null, .null, .null, .null, .null, .null, .null, .null]))] sz)) 10 99 (va_A [(h0, .inr (2, [.int 0, .int 0, .null, .null, .null, .null, .null, .null, .null, .null, .null, .null]))] sz) := by
  refine Met.ofW (cc := cX2_init) (maxL := 1) (ret := none) (by decide) rfl ?_
  intro p e s m args below meth c s₁ B hml hv
  obtain ⟨rfl, hsz, hP, hK, hD0, hz, hSt⟩ := hv
  have hx := B.exec
  have hb := B.bytes
  have hr := B.returns
  have hat := atoms_spec (ws := .code yX2_init cX2_init 1 none :: gtb) B.pre
  have hts := fun w hw => hat w (List.mem_cons_of_mem _ hw)
  have hown : s.vm.findClass RX2 = some m.cls := findClass_of_methodNamed B.named
  have hlocks := B.notSynchronized
  have hin : meth.name = "<init>" := (name_of_methodNamed B.named B.method).1
  subst hsz
  have hD := hD0.self (sz := s.heap.size)
  have hA0 : ∀ q, va_A [(h0, .inr (2, [.int 0, .int 0, .null, .null, .null, .null, .null, .null, .null, .null, .null, .null]))] s.heap.size q → z0 ≤ q := by
    rintro q (⟨k9, e9, hk9⟩ | h9)
    · exact hD0.2 k9 _ hk9
    · exact Nat.le_trans hz h9
  generalize hAe : va_A [(h0, .inr (2, [.int 0, .int 0, .null, .null, .null, .null, .null, .null, .null, .null, .null, .null]))] s.heap.size = A at hD hA0 ⊢
  have hA : ∀ q : Nat, s.heap.size ≤ q → A q := fun q h => by rw [← hAe]; exact Or.inr h
  have hS : va_S A s.heap s.heap [] := va_S.rf
  have hl := lv_entry ([.ref h0]) (n := 1) (Nat.le_of_ble_eq_true rfl)
  rw [lg_entry_eq]
  generalize (lg_sl ([.ref h0]) ++ List.replicate (1 - (lg_sl ([.ref h0])).length) Slot.unset).toArray = ls at hl ⊢
  have hl : lv_has ls 1 [(0, .ref h0)] := hl
  refine lv_aload_n hx hb dX2_init_0 rfl (lv_at hl 0 rfl) ?_
  refine W.objInit hx hb hown (hts _ wq_118) (hts _ wn_objI) (hts _ wn_objC) rfl (by rw [hml]; exact hl.1) rfl dX2_init_1 (Nat.le_of_ble_eq_true rfl) (Nat.le_of_ble_eq_true rfl) ?_
  refine W.eq (g2 := F0 m 4 ls []) rfl ?_
  refine lv_aload_n hx hb dX2_init_4 rfl (lv_at hl 0 rfl) ?_
  refine lv_bipush (v := 6) hx hb dX2_init_5 (by decide +kernel) ?_
  refine nw_a 0 (ty := .int) rfl hx hb (atype := .int) (N' := 6) (a0 := (6, .inl (fun _ => 0))) (hts _ wn_int) rfl (fun C h => by cases h) hK hP hD hS hA (fun _ => rfl) (by decide +kernel) (by decide +kernel) (Nat.le_of_ble_eq_true rfl) (Nat.le_of_ble_eq_true rfl) (Nat.le_of_ble_eq_true rfl) dX2_init_7 (fun q7 H hP hD hS => ?_)
  have hP : va_P D vwCl [(h0, .inr (2, [.int 0, .int 0, .null, .null, .null, .null, .null, .null, .null, .null, .null, .null])), (q7, .inl (z 0, 6, .inl (fun _ => 0)))] H := hP
  have hD : va_D A [(h0, .inr (2, [.int 0, .int 0, .null, .null, .null, .null, .null, .null, .null, .null, .null, .null])), (q7, .inl (z 0, 6, .inl (fun _ => 0)))] := hD
  refine va_putF (D := D) (ci := 2) (v := .ref q7) (ty := .array .int) (C := RX2) (T := TX2) (N := 12) hx hb hts inGX2 tyX2 tyX2_ok nmX2 hown hK hP hD hS 0 rfl rfl 2 (by decide) (hts _ wq_134) (fun _ h9 => h9) rfl hin rfl (by decide +kernel) rfl rfl (Nat.le_of_ble_eq_true rfl) dX2_init_9 (fun H locs hP hD hS => ?_)
  have hP : va_P D vwCl [(h0, .inr (2, [.int 0, .int 0, .ref q7, .null, .null, .null, .null, .null, .null, .null, .null, .null])), (q7, .inl (z 0, 6, .inl (fun _ => 0)))] H := hP
  have hD : va_D A [(h0, .inr (2, [.int 0, .int 0, .ref q7, .null, .null, .null, .null, .null, .null, .null, .null, .null])), (q7, .inl (z 0, 6, .inl (fun _ => 0)))] := hD
  refine lv_aload_n hx hb dX2_init_12 rfl (lv_at hl 0 rfl) ?_
  refine lv_bipush (v := 6) hx hb dX2_init_13 (by decide +kernel) ?_
  refine nw_a 0 (ty := .int) rfl hx hb (atype := .int) (N' := 6) (a0 := (6, .inl (fun _ => 0))) (hts _ wn_int) rfl (fun C h => by cases h) hK hP hD hS hA (fun _ => rfl) (by decide +kernel) (by decide +kernel) (Nat.le_of_ble_eq_true rfl) (Nat.le_of_ble_eq_true rfl) (Nat.le_of_ble_eq_true rfl) dX2_init_15 (fun q15 H hP hD hS => ?_)
  have hP : va_P D vwCl [(h0, .inr (2, [.int 0, .int 0, .ref q7, .null, .null, .null, .null, .null, .null, .null, .null, .null])), (q7, .inl (z 0, 6, .inl (fun _ => 0))), (q15, .inl (z 0, 6, .inl (fun _ => 0)))] H := hP
  have hD : va_D A [(h0, .inr (2, [.int 0, .int 0, .ref q7, .null, .null, .null, .null, .null, .null, .null, .null, .null])), (q7, .inl (z 0, 6, .inl (fun _ => 0))), (q15, .inl (z 0, 6, .inl (fun _ => 0)))] := hD
  refine va_putF (D := D) (ci := 2) (v := .ref q15) (ty := .array .int) (C := RX2) (T := TX2) (N := 12) hx hb hts inGX2 tyX2 tyX2_ok nmX2 hown hK hP hD hS 0 rfl rfl 3 (by decide) (hts _ wq_135) (fun _ h9 => h9) rfl hin rfl (by decide +kernel) rfl rfl (Nat.le_of_ble_eq_true rfl) dX2_init_17 (fun H locs hP hD hS => ?_)
  have hP : va_P D vwCl [(h0, .inr (2, [.int 0, .int 0, .ref q7, .ref q15, .null, .null, .null, .null, .null, .null, .null, .null])), (q7, .inl (z 0, 6, .inl (fun _ => 0))), (q15, .inl (z 0, 6, .inl (fun _ => 0)))] H := hP
  have hD : va_D A [(h0, .inr (2, [.int 0, .int 0, .ref q7, .ref q15, .null, .null, .null, .null, .null, .null, .null, .null])), (q7, .inl (z 0, 6, .inl (fun _ => 0))), (q15, .inl (z 0, 6, .inl (fun _ => 0)))] := hD
  refine lv_aload_n hx hb dX2_init_20 rfl (lv_at hl 0 rfl) ?_
  refine lv_bipush (v := 6) hx hb dX2_init_21 (by decide +kernel) ?_
  refine nw_a 0 (ty := .int) rfl hx hb (atype := .int) (N' := 6) (a0 := (6, .inl (fun _ => 0))) (hts _ wn_int) rfl (fun C h => by cases h) hK hP hD hS hA (fun _ => rfl) (by decide +kernel) (by decide +kernel) (Nat.le_of_ble_eq_true rfl) (Nat.le_of_ble_eq_true rfl) (Nat.le_of_ble_eq_true rfl) dX2_init_23 (fun q23 H hP hD hS => ?_)
  have hP : va_P D vwCl [(h0, .inr (2, [.int 0, .int 0, .ref q7, .ref q15, .null, .null, .null, .null, .null, .null, .null, .null])), (q7, .inl (z 0, 6, .inl (fun _ => 0))), (q15, .inl (z 0, 6, .inl (fun _ => 0))), (q23, .inl (z 0, 6, .inl (fun _ => 0)))] H := hP
  have hD : va_D A [(h0, .inr (2, [.int 0, .int 0, .ref q7, .ref q15, .null, .null, .null, .null, .null, .null, .null, .null])), (q7, .inl (z 0, 6, .inl (fun _ => 0))), (q15, .inl (z 0, 6, .inl (fun _ => 0))), (q23, .inl (z 0, 6, .inl (fun _ => 0)))] := hD
  refine va_putF (D := D) (ci := 2) (v := .ref q23) (ty := .array .int) (C := RX2) (T := TX2) (N := 12) hx hb hts inGX2 tyX2 tyX2_ok nmX2 hown hK hP hD hS 0 rfl rfl 4 (by decide) (hts _ wq_138) (fun _ h9 => h9) rfl hin rfl (by decide +kernel) rfl rfl (Nat.le_of_ble_eq_true rfl) dX2_init_25 (fun H locs hP hD hS => ?_)
  have hP : va_P D vwCl [(h0, .inr (2, [.int 0, .int 0, .ref q7, .ref q15, .ref q23, .null, .null, .null, .null, .null, .null, .null])), (q7, .inl (z 0, 6, .inl (fun _ => 0))), (q15, .inl (z 0, 6, .inl (fun _ => 0))), (q23, .inl (z 0, 6, .inl (fun _ => 0)))] H := hP
  have hD : va_D A [(h0, .inr (2, [.int 0, .int 0, .ref q7, .ref q15, .ref q23, .null, .null, .null, .null, .null, .null, .null])), (q7, .inl (z 0, 6, .inl (fun _ => 0))), (q15, .inl (z 0, 6, .inl (fun _ => 0))), (q23, .inl (z 0, 6, .inl (fun _ => 0)))] := hD
  refine lv_aload_n hx hb dX2_init_28 rfl (lv_at hl 0 rfl) ?_
  refine lv_bipush (v := 6) hx hb dX2_init_29 (by decide +kernel) ?_
  refine nw_a 0 (ty := .int) rfl hx hb (atype := .int) (N' := 6) (a0 := (6, .inl (fun _ => 0))) (hts _ wn_int) rfl (fun C h => by cases h) hK hP hD hS hA (fun _ => rfl) (by decide +kernel) (by decide +kernel) (Nat.le_of_ble_eq_true rfl) (Nat.le_of_ble_eq_true rfl) (Nat.le_of_ble_eq_true rfl) dX2_init_31 (fun q31 H hP hD hS => ?_)
  have hP : va_P D vwCl [(h0, .inr (2, [.int 0, .int 0, .ref q7, .ref q15, .ref q23, .null, .null, .null, .null, .null, .null, .null])), (q7, .inl (z 0, 6, .inl (fun _ => 0))), (q15, .inl (z 0, 6, .inl (fun _ => 0))), (q23, .inl (z 0, 6, .inl (fun _ => 0))), (q31, .inl (z 0, 6, .inl (fun _ => 0)))] H := hP
  have hD : va_D A [(h0, .inr (2, [.int 0, .int 0, .ref q7, .ref q15, .ref q23, .null, .null, .null, .null, .null, .null, .null])), (q7, .inl (z 0, 6, .inl (fun _ => 0))), (q15, .inl (z 0, 6, .inl (fun _ => 0))), (q23, .inl (z 0, 6, .inl (fun _ => 0))), (q31, .inl (z 0, 6, .inl (fun _ => 0)))] := hD
  refine va_putF (D := D) (ci := 2) (v := .ref q31) (ty := .array .int) (C := RX2) (T := TX2) (N := 12) hx hb hts inGX2 tyX2 tyX2_ok nmX2 hown hK hP hD hS 0 rfl rfl 5 (by decide) (hts _ wq_141) (fun _ h9 => h9) rfl hin rfl (by decide +kernel) rfl rfl (Nat.le_of_ble_eq_true rfl) dX2_init_33 (fun H locs hP hD hS => ?_)
  have hP : va_P D vwCl [(h0, .inr (2, [.int 0, .int 0, .ref q7, .ref q15, .ref q23, .ref q31, .null, .null, .null, .null, .null, .null])), (q7, .inl (z 0, 6, .inl (fun _ => 0))), (q15, .inl (z 0, 6, .inl (fun _ => 0))), (q23, .inl (z 0, 6, .inl (fun _ => 0))), (q31, .inl (z 0, 6, .inl (fun _ => 0)))] H := hP
  have hD : va_D A [(h0, .inr (2, [.int 0, .int 0, .ref q7, .ref q15, .ref q23, .ref q31, .null, .null, .null, .null, .null, .null])), (q7, .inl (z 0, 6, .inl (fun _ => 0))), (q15, .inl (z 0, 6, .inl (fun _ => 0))), (q23, .inl (z 0, 6, .inl (fun _ => 0))), (q31, .inl (z 0, 6, .inl (fun _ => 0)))] := hD
  refine lv_aload_n hx hb dX2_init_36 rfl (lv_at hl 0 rfl) ?_
  refine lv_bipush (v := 30) hx hb dX2_init_37 (by decide +kernel) ?_
  refine nw_a 0 (ty := .int) rfl hx hb (atype := .int) (N' := 30) (a0 := (30, .inl (fun _ => 0))) (hts _ wn_int) rfl (fun C h => by cases h) hK hP hD hS hA (fun _ => rfl) (by decide +kernel) (by decide +kernel) (Nat.le_of_ble_eq_true rfl) (Nat.le_of_ble_eq_true rfl) (Nat.le_of_ble_eq_true rfl) dX2_init_39 (fun q39 H hP hD hS => ?_)
  have hP : va_P D vwCl [(h0, .inr (2, [.int 0, .int 0, .ref q7, .ref q15, .ref q23, .ref q31, .null, .null, .null, .null, .null, .null])), (q7, .inl (z 0, 6, .inl (fun _ => 0))), (q15, .inl (z 0, 6, .inl (fun _ => 0))), (q23, .inl (z 0, 6, .inl (fun _ => 0))), (q31, .inl (z 0, 6, .inl (fun _ => 0))), (q39, .inl (z 0, 30, .inl (fun _ => 0)))] H := hP
  have hD : va_D A [(h0, .inr (2, [.int 0, .int 0, .ref q7, .ref q15, .ref q23, .ref q31, .null, .null, .null, .null, .null, .null])), (q7, .inl (z 0, 6, .inl (fun _ => 0))), (q15, .inl (z 0, 6, .inl (fun _ => 0))), (q23, .inl (z 0, 6, .inl (fun _ => 0))), (q31, .inl (z 0, 6, .inl (fun _ => 0))), (q39, .inl (z 0, 30, .inl (fun _ => 0)))] := hD
  refine va_putF (D := D) (ci := 2) (v := .ref q39) (ty := .array .int) (C := RX2) (T := TX2) (N := 12) hx hb hts inGX2 tyX2 tyX2_ok nmX2 hown hK hP hD hS 0 rfl rfl 6 (by decide) (hts _ wq_145) (fun _ h9 => h9) rfl hin rfl (by decide +kernel) rfl rfl (Nat.le_of_ble_eq_true rfl) dX2_init_41 (fun H locs hP hD hS => ?_)
  have hP : va_P D vwCl [(h0, .inr (2, [.int 0, .int 0, .ref q7, .ref q15, .ref q23, .ref q31, .ref q39, .null, .null, .null, .null, .null])), (q7, .inl (z 0, 6, .inl (fun _ => 0))), (q15, .inl (z 0, 6, .inl (fun _ => 0))), (q23, .inl (z 0, 6, .inl (fun _ => 0))), (q31, .inl (z 0, 6, .inl (fun _ => 0))), (q39, .inl (z 0, 30, .inl (fun _ => 0)))] H := hP
  have hD : va_D A [(h0, .inr (2, [.int 0, .int 0, .ref q7, .ref q15, .ref q23, .ref q31, .ref q39, .null, .null, .null, .null, .null])), (q7, .inl (z 0, 6, .inl (fun _ => 0))), (q15, .inl (z 0, 6, .inl (fun _ => 0))), (q23, .inl (z 0, 6, .inl (fun _ => 0))), (q31, .inl (z 0, 6, .inl (fun _ => 0))), (q39, .inl (z 0, 30, .inl (fun _ => 0)))] := hD
  refine lv_aload_n hx hb dX2_init_44 rfl (lv_at hl 0 rfl) ?_
  refine lv_bipush (v := 30) hx hb dX2_init_45 (by decide +kernel) ?_
  refine nw_a 0 (ty := .int) rfl hx hb (atype := .int) (N' := 30) (a0 := (30, .inl (fun _ => 0))) (hts _ wn_int) rfl (fun C h => by cases h) hK hP hD hS hA (fun _ => rfl) (by decide +kernel) (by decide +kernel) (Nat.le_of_ble_eq_true rfl) (Nat.le_of_ble_eq_true rfl) (Nat.le_of_ble_eq_true rfl) dX2_init_47 (fun q47 H hP hD hS => ?_)
  have hP : va_P D vwCl [(h0, .inr (2, [.int 0, .int 0, .ref q7, .ref q15, .ref q23, .ref q31, .ref q39, .null, .null, .null, .null, .null])), (q7, .inl (z 0, 6, .inl (fun _ => 0))), (q15, .inl (z 0, 6, .inl (fun _ => 0))), (q23, .inl (z 0, 6, .inl (fun _ => 0))), (q31, .inl (z 0, 6, .inl (fun _ => 0))), (q39, .inl (z 0, 30, .inl (fun _ => 0))), (q47, .inl (z 0, 30, .inl (fun _ => 0)))] H := hP
  have hD : va_D A [(h0, .inr (2, [.int 0, .int 0, .ref q7, .ref q15, .ref q23, .ref q31, .ref q39, .null, .null, .null, .null, .null])), (q7, .inl (z 0, 6, .inl (fun _ => 0))), (q15, .inl (z 0, 6, .inl (fun _ => 0))), (q23, .inl (z 0, 6, .inl (fun _ => 0))), (q31, .inl (z 0, 6, .inl (fun _ => 0))), (q39, .inl (z 0, 30, .inl (fun _ => 0))), (q47, .inl (z 0, 30, .inl (fun _ => 0)))] := hD
  refine va_putF (D := D) (ci := 2) (v := .ref q47) (ty := .array .int) (C := RX2) (T := TX2) (N := 12) hx hb hts inGX2 tyX2 tyX2_ok nmX2 hown hK hP hD hS 0 rfl rfl 7 (by decide) (hts _ wq_147) (fun _ h9 => h9) rfl hin rfl (by decide +kernel) rfl rfl (Nat.le_of_ble_eq_true rfl) dX2_init_49 (fun H locs hP hD hS => ?_)
  have hP : va_P D vwCl [(h0, .inr (2, [.int 0, .int 0, .ref q7, .ref q15, .ref q23, .ref q31, .ref q39, .ref q47, .null, .null, .null, .null])), (q7, .inl (z 0, 6, .inl (fun _ => 0))), (q15, .inl (z 0, 6, .inl (fun _ => 0))), (q23, .inl (z 0, 6, .inl (fun _ => 0))), (q31, .inl (z 0, 6, .inl (fun _ => 0))), (q39, .inl (z 0, 30, .inl (fun _ => 0))), (q47, .inl (z 0, 30, .inl (fun _ => 0)))] H := hP
  have hD : va_D A [(h0, .inr (2, [.int 0, .int 0, .ref q7, .ref q15, .ref q23, .ref q31, .ref q39, .ref q47, .null, .null, .null, .null])), (q7, .inl (z 0, 6, .inl (fun _ => 0))), (q15, .inl (z 0, 6, .inl (fun _ => 0))), (q23, .inl (z 0, 6, .inl (fun _ => 0))), (q31, .inl (z 0, 6, .inl (fun _ => 0))), (q39, .inl (z 0, 30, .inl (fun _ => 0))), (q47, .inl (z 0, 30, .inl (fun _ => 0)))] := hD
  refine lv_aload_n hx hb dX2_init_52 rfl (lv_at hl 0 rfl) ?_
  refine lv_iconst (v := 3) hx hb dX2_init_53 (by decide +kernel) ?_
  refine nw_a 0 (ty := .int) rfl hx hb (atype := .int) (N' := 3) (a0 := (3, .inl (fun _ => 0))) (hts _ wn_int) rfl (fun C h => by cases h) hK hP hD hS hA (fun _ => rfl) (by decide +kernel) (by decide +kernel) (Nat.le_of_ble_eq_true rfl) (Nat.le_of_ble_eq_true rfl) (Nat.le_of_ble_eq_true rfl) dX2_init_54 (fun q54 H hP hD hS => ?_)
  have hP : va_P D vwCl [(h0, .inr (2, [.int 0, .int 0, .ref q7, .ref q15, .ref q23, .ref q31, .ref q39, .ref q47, .null, .null, .null, .null])), (q7, .inl (z 0, 6, .inl (fun _ => 0))), (q15, .inl (z 0, 6, .inl (fun _ => 0))), (q23, .inl (z 0, 6, .inl (fun _ => 0))), (q31, .inl (z 0, 6, .inl (fun _ => 0))), (q39, .inl (z 0, 30, .inl (fun _ => 0))), (q47, .inl (z 0, 30, .inl (fun _ => 0))), (q54, .inl (z 0, 3, .inl (fun _ => 0)))] H := hP
  have hD : va_D A [(h0, .inr (2, [.int 0, .int 0, .ref q7, .ref q15, .ref q23, .ref q31, .ref q39, .ref q47, .null, .null, .null, .null])), (q7, .inl (z 0, 6, .inl (fun _ => 0))), (q15, .inl (z 0, 6, .inl (fun _ => 0))), (q23, .inl (z 0, 6, .inl (fun _ => 0))), (q31, .inl (z 0, 6, .inl (fun _ => 0))), (q39, .inl (z 0, 30, .inl (fun _ => 0))), (q47, .inl (z 0, 30, .inl (fun _ => 0))), (q54, .inl (z 0, 3, .inl (fun _ => 0)))] := hD
  refine va_putF (D := D) (ci := 2) (v := .ref q54) (ty := .array .int) (C := RX2) (T := TX2) (N := 12) hx hb hts inGX2 tyX2 tyX2_ok nmX2 hown hK hP hD hS 0 rfl rfl 8 (by decide) (hts _ wq_149) (fun _ h9 => h9) rfl hin rfl (by decide +kernel) rfl rfl (Nat.le_of_ble_eq_true rfl) dX2_init_56 (fun H locs hP hD hS => ?_)
  have hP : va_P D vwCl [(h0, .inr (2, [.int 0, .int 0, .ref q7, .ref q15, .ref q23, .ref q31, .ref q39, .ref q47, .ref q54, .null, .null, .null])), (q7, .inl (z 0, 6, .inl (fun _ => 0))), (q15, .inl (z 0, 6, .inl (fun _ => 0))), (q23, .inl (z 0, 6, .inl (fun _ => 0))), (q31, .inl (z 0, 6, .inl (fun _ => 0))), (q39, .inl (z 0, 30, .inl (fun _ => 0))), (q47, .inl (z 0, 30, .inl (fun _ => 0))), (q54, .inl (z 0, 3, .inl (fun _ => 0)))] H := hP
  have hD : va_D A [(h0, .inr (2, [.int 0, .int 0, .ref q7, .ref q15, .ref q23, .ref q31, .ref q39, .ref q47, .ref q54, .null, .null, .null])), (q7, .inl (z 0, 6, .inl (fun _ => 0))), (q15, .inl (z 0, 6, .inl (fun _ => 0))), (q23, .inl (z 0, 6, .inl (fun _ => 0))), (q31, .inl (z 0, 6, .inl (fun _ => 0))), (q39, .inl (z 0, 30, .inl (fun _ => 0))), (q47, .inl (z 0, 30, .inl (fun _ => 0))), (q54, .inl (z 0, 3, .inl (fun _ => 0)))] := hD
  refine lv_aload_n hx hb dX2_init_59 rfl (lv_at hl 0 rfl) ?_
  refine lv_iconst (v := 3) hx hb dX2_init_60 (by decide +kernel) ?_
  refine nw_a 0 (ty := .int) rfl hx hb (atype := .int) (N' := 3) (a0 := (3, .inl (fun _ => 0))) (hts _ wn_int) rfl (fun C h => by cases h) hK hP hD hS hA (fun _ => rfl) (by decide +kernel) (by decide +kernel) (Nat.le_of_ble_eq_true rfl) (Nat.le_of_ble_eq_true rfl) (Nat.le_of_ble_eq_true rfl) dX2_init_61 (fun q61 H hP hD hS => ?_)
  have hP : va_P D vwCl [(h0, .inr (2, [.int 0, .int 0, .ref q7, .ref q15, .ref q23, .ref q31, .ref q39, .ref q47, .ref q54, .null, .null, .null])), (q7, .inl (z 0, 6, .inl (fun _ => 0))), (q15, .inl (z 0, 6, .inl (fun _ => 0))), (q23, .inl (z 0, 6, .inl (fun _ => 0))), (q31, .inl (z 0, 6, .inl (fun _ => 0))), (q39, .inl (z 0, 30, .inl (fun _ => 0))), (q47, .inl (z 0, 30, .inl (fun _ => 0))), (q54, .inl (z 0, 3, .inl (fun _ => 0))), (q61, .inl (z 0, 3, .inl (fun _ => 0)))] H := hP
  have hD : va_D A [(h0, .inr (2, [.int 0, .int 0, .ref q7, .ref q15, .ref q23, .ref q31, .ref q39, .ref q47, .ref q54, .null, .null, .null])), (q7, .inl (z 0, 6, .inl (fun _ => 0))), (q15, .inl (z 0, 6, .inl (fun _ => 0))), (q23, .inl (z 0, 6, .inl (fun _ => 0))), (q31, .inl (z 0, 6, .inl (fun _ => 0))), (q39, .inl (z 0, 30, .inl (fun _ => 0))), (q47, .inl (z 0, 30, .inl (fun _ => 0))), (q54, .inl (z 0, 3, .inl (fun _ => 0))), (q61, .inl (z 0, 3, .inl (fun _ => 0)))] := hD
  refine va_putF (D := D) (ci := 2) (v := .ref q61) (ty := .array .int) (C := RX2) (T := TX2) (N := 12) hx hb hts inGX2 tyX2 tyX2_ok nmX2 hown hK hP hD hS 0 rfl rfl 9 (by decide) (hts _ wq_152) (fun _ h9 => h9) rfl hin rfl (by decide +kernel) rfl rfl (Nat.le_of_ble_eq_true rfl) dX2_init_63 (fun H locs hP hD hS => ?_)
  have hP : va_P D vwCl [(h0, .inr (2, [.int 0, .int 0, .ref q7, .ref q15, .ref q23, .ref q31, .ref q39, .ref q47, .ref q54, .ref q61, .null, .null])), (q7, .inl (z 0, 6, .inl (fun _ => 0))), (q15, .inl (z 0, 6, .inl (fun _ => 0))), (q23, .inl (z 0, 6, .inl (fun _ => 0))), (q31, .inl (z 0, 6, .inl (fun _ => 0))), (q39, .inl (z 0, 30, .inl (fun _ => 0))), (q47, .inl (z 0, 30, .inl (fun _ => 0))), (q54, .inl (z 0, 3, .inl (fun _ => 0))), (q61, .inl (z 0, 3, .inl (fun _ => 0)))] H := hP
  have hD : va_D A [(h0, .inr (2, [.int 0, .int 0, .ref q7, .ref q15, .ref q23, .ref q31, .ref q39, .ref q47, .ref q54, .ref q61, .null, .null])), (q7, .inl (z 0, 6, .inl (fun _ => 0))), (q15, .inl (z 0, 6, .inl (fun _ => 0))), (q23, .inl (z 0, 6, .inl (fun _ => 0))), (q31, .inl (z 0, 6, .inl (fun _ => 0))), (q39, .inl (z 0, 30, .inl (fun _ => 0))), (q47, .inl (z 0, 30, .inl (fun _ => 0))), (q54, .inl (z 0, 3, .inl (fun _ => 0))), (q61, .inl (z 0, 3, .inl (fun _ => 0)))] := hD
  refine lv_aload_n hx hb dX2_init_66 rfl (lv_at hl 0 rfl) ?_
  refine lv_iconst (v := 3) hx hb dX2_init_67 (by decide +kernel) ?_
  refine nw_a 0 (ty := .int) rfl hx hb (atype := .int) (N' := 3) (a0 := (3, .inl (fun _ => 0))) (hts _ wn_int) rfl (fun C h => by cases h) hK hP hD hS hA (fun _ => rfl) (by decide +kernel) (by decide +kernel) (Nat.le_of_ble_eq_true rfl) (Nat.le_of_ble_eq_true rfl) (Nat.le_of_ble_eq_true rfl) dX2_init_68 (fun q68 H hP hD hS => ?_)
  have hP : va_P D vwCl [(h0, .inr (2, [.int 0, .int 0, .ref q7, .ref q15, .ref q23, .ref q31, .ref q39, .ref q47, .ref q54, .ref q61, .null, .null])), (q7, .inl (z 0, 6, .inl (fun _ => 0))), (q15, .inl (z 0, 6, .inl (fun _ => 0))), (q23, .inl (z 0, 6, .inl (fun _ => 0))), (q31, .inl (z 0, 6, .inl (fun _ => 0))), (q39, .inl (z 0, 30, .inl (fun _ => 0))), (q47, .inl (z 0, 30, .inl (fun _ => 0))), (q54, .inl (z 0, 3, .inl (fun _ => 0))), (q61, .inl (z 0, 3, .inl (fun _ => 0))), (q68, .inl (z 0, 3, .inl (fun _ => 0)))] H := hP
  have hD : va_D A [(h0, .inr (2, [.int 0, .int 0, .ref q7, .ref q15, .ref q23, .ref q31, .ref q39, .ref q47, .ref q54, .ref q61, .null, .null])), (q7, .inl (z 0, 6, .inl (fun _ => 0))), (q15, .inl (z 0, 6, .inl (fun _ => 0))), (q23, .inl (z 0, 6, .inl (fun _ => 0))), (q31, .inl (z 0, 6, .inl (fun _ => 0))), (q39, .inl (z 0, 30, .inl (fun _ => 0))), (q47, .inl (z 0, 30, .inl (fun _ => 0))), (q54, .inl (z 0, 3, .inl (fun _ => 0))), (q61, .inl (z 0, 3, .inl (fun _ => 0))), (q68, .inl (z 0, 3, .inl (fun _ => 0)))] := hD
  refine va_putF (D := D) (ci := 2) (v := .ref q68) (ty := .array .int) (C := RX2) (T := TX2) (N := 12) hx hb hts inGX2 tyX2 tyX2_ok nmX2 hown hK hP hD hS 0 rfl rfl 10 (by decide) (hts _ wq_155) (fun _ h9 => h9) rfl hin rfl (by decide +kernel) rfl rfl (Nat.le_of_ble_eq_true rfl) dX2_init_70 (fun H locs hP hD hS => ?_)
  have hP : va_P D vwCl [(h0, .inr (2, [.int 0, .int 0, .ref q7, .ref q15, .ref q23, .ref q31, .ref q39, .ref q47, .ref q54, .ref q61, .ref q68, .null])), (q7, .inl (z 0, 6, .inl (fun _ => 0))), (q15, .inl (z 0, 6, .inl (fun _ => 0))), (q23, .inl (z 0, 6, .inl (fun _ => 0))), (q31, .inl (z 0, 6, .inl (fun _ => 0))), (q39, .inl (z 0, 30, .inl (fun _ => 0))), (q47, .inl (z 0, 30, .inl (fun _ => 0))), (q54, .inl (z 0, 3, .inl (fun _ => 0))), (q61, .inl (z 0, 3, .inl (fun _ => 0))), (q68, .inl (z 0, 3, .inl (fun _ => 0)))] H := hP
  have hD : va_D A [(h0, .inr (2, [.int 0, .int 0, .ref q7, .ref q15, .ref q23, .ref q31, .ref q39, .ref q47, .ref q54, .ref q61, .ref q68, .null])), (q7, .inl (z 0, 6, .inl (fun _ => 0))), (q15, .inl (z 0, 6, .inl (fun _ => 0))), (q23, .inl (z 0, 6, .inl (fun _ => 0))), (q31, .inl (z 0, 6, .inl (fun _ => 0))), (q39, .inl (z 0, 30, .inl (fun _ => 0))), (q47, .inl (z 0, 30, .inl (fun _ => 0))), (q54, .inl (z 0, 3, .inl (fun _ => 0))), (q61, .inl (z 0, 3, .inl (fun _ => 0))), (q68, .inl (z 0, 3, .inl (fun _ => 0)))] := hD
  refine lv_aload_n hx hb dX2_init_73 rfl (lv_at hl 0 rfl) ?_
  refine lv_bipush (v := 6) hx hb dX2_init_74 (by decide +kernel) ?_
  refine nw_a 0 (ty := .int) rfl hx hb (atype := .int) (N' := 6) (a0 := (6, .inl (fun _ => 0))) (hts _ wn_int) rfl (fun C h => by cases h) hK hP hD hS hA (fun _ => rfl) (by decide +kernel) (by decide +kernel) (Nat.le_of_ble_eq_true rfl) (Nat.le_of_ble_eq_true rfl) (Nat.le_of_ble_eq_true rfl) dX2_init_76 (fun q76 H hP hD hS => ?_)
  have hP : va_P D vwCl [(h0, .inr (2, [.int 0, .int 0, .ref q7, .ref q15, .ref q23, .ref q31, .ref q39, .ref q47, .ref q54, .ref q61, .ref q68, .null])), (q7, .inl (z 0, 6, .inl (fun _ => 0))), (q15, .inl (z 0, 6, .inl (fun _ => 0))), (q23, .inl (z 0, 6, .inl (fun _ => 0))), (q31, .inl (z 0, 6, .inl (fun _ => 0))), (q39, .inl (z 0, 30, .inl (fun _ => 0))), (q47, .inl (z 0, 30, .inl (fun _ => 0))), (q54, .inl (z 0, 3, .inl (fun _ => 0))), (q61, .inl (z 0, 3, .inl (fun _ => 0))), (q68, .inl (z 0, 3, .inl (fun _ => 0))), (q76, .inl (z 0, 6, .inl (fun _ => 0)))] H := hP
  have hD : va_D A [(h0, .inr (2, [.int 0, .int 0, .ref q7, .ref q15, .ref q23, .ref q31, .ref q39, .ref q47, .ref q54, .ref q61, .ref q68, .null])), (q7, .inl (z 0, 6, .inl (fun _ => 0))), (q15, .inl (z 0, 6, .inl (fun _ => 0))), (q23, .inl (z 0, 6, .inl (fun _ => 0))), (q31, .inl (z 0, 6, .inl (fun _ => 0))), (q39, .inl (z 0, 30, .inl (fun _ => 0))), (q47, .inl (z 0, 30, .inl (fun _ => 0))), (q54, .inl (z 0, 3, .inl (fun _ => 0))), (q61, .inl (z 0, 3, .inl (fun _ => 0))), (q68, .inl (z 0, 3, .inl (fun _ => 0))), (q76, .inl (z 0, 6, .inl (fun _ => 0)))] := hD
  refine va_putF (D := D) (ci := 2) (v := .ref q76) (ty := .array .int) (C := RX2) (T := TX2) (N := 12) hx hb hts inGX2 tyX2 tyX2_ok nmX2 hown hK hP hD hS 0 rfl rfl 11 (by decide) (hts _ wq_160) (fun _ h9 => h9) rfl hin rfl (by decide +kernel) rfl rfl (Nat.le_of_ble_eq_true rfl) dX2_init_78 (fun H locs hP hD hS => ?_)
  have hP : va_P D vwCl [(h0, .inr (2, [.int 0, .int 0, .ref q7, .ref q15, .ref q23, .ref q31, .ref q39, .ref q47, .ref q54, .ref q61, .ref q68, .ref q76])), (q7, .inl (z 0, 6, .inl (fun _ => 0))), (q15, .inl (z 0, 6, .inl (fun _ => 0))), (q23, .inl (z 0, 6, .inl (fun _ => 0))), (q31, .inl (z 0, 6, .inl (fun _ => 0))), (q39, .inl (z 0, 30, .inl (fun _ => 0))), (q47, .inl (z 0, 30, .inl (fun _ => 0))), (q54, .inl (z 0, 3, .inl (fun _ => 0))), (q61, .inl (z 0, 3, .inl (fun _ => 0))), (q68, .inl (z 0, 3, .inl (fun _ => 0))), (q76, .inl (z 0, 6, .inl (fun _ => 0)))] H := hP
  have hD : va_D A [(h0, .inr (2, [.int 0, .int 0, .ref q7, .ref q15, .ref q23, .ref q31, .ref q39, .ref q47, .ref q54, .ref q61, .ref q68, .ref q76])), (q7, .inl (z 0, 6, .inl (fun _ => 0))), (q15, .inl (z 0, 6, .inl (fun _ => 0))), (q23, .inl (z 0, 6, .inl (fun _ => 0))), (q31, .inl (z 0, 6, .inl (fun _ => 0))), (q39, .inl (z 0, 30, .inl (fun _ => 0))), (q47, .inl (z 0, 30, .inl (fun _ => 0))), (q54, .inl (z 0, 3, .inl (fun _ => 0))), (q61, .inl (z 0, 3, .inl (fun _ => 0))), (q68, .inl (z 0, 3, .inl (fun _ => 0))), (q76, .inl (z 0, 6, .inl (fun _ => 0)))] := hD
  refine va_getsN hx hb ((hSt.1 2 (by decide)).1.narrow hA0) hS hown (va_Nw.use rfl hSt.2.1.1) (fun _ h9 => h9) dX2_init_81 ?_
  refine lv_iconst (v := 0) hx hb dX2_init_84 (by decide +kernel) ?_
  refine lv_aload_n hx hb dX2_init_85 rfl (lv_at hl 0 rfl) ?_
  refine va_get (D := D) (ci := 2) (v := .ref q68) (C := RX2) (T := TX2) (N := 12) hx hb hts inGX2 hown hK hP 0 rfl rfl 10 (by decide) (hts _ wq_155) (fun _ h9 => h9) rfl dX2_init_86 ?_
  refine lv_iconst (v := 0) hx hb dX2_init_89 (by decide +kernel) ?_
  refine lv_iconst (v := 3) hx hb dX2_init_90 (by decide +kernel) ?_
  refine tb_copy hx hb (hml.trans hl.1.symm) hown (hts _ wq_121) (hts _ wq_123) (hts _ wq_122) (hts _ wq_89) hK hP hD hS ((hSt.1 2 (by decide)).2.narrow hA0) 9 0 rfl rfl (by decide) (by decide) (by decide) (by decide) (by decide) (Nat.le_of_ble_eq_true rfl) (Nat.le_of_ble_eq_true rfl) dX2_init_91 (fun H locs hP hS => ?_)
  have hP : va_P D vwCl [(h0, .inr (2, [.int 0, .int 0, .ref q7, .ref q15, .ref q23, .ref q31, .ref q39, .ref q47, .ref q54, .ref q61, .ref q68, .ref q76])), (q7, .inl (z 0, 6, .inl (fun _ => 0))), (q15, .inl (z 0, 6, .inl (fun _ => 0))), (q23, .inl (z 0, 6, .inl (fun _ => 0))), (q31, .inl (z 0, 6, .inl (fun _ => 0))), (q39, .inl (z 0, 30, .inl (fun _ => 0))), (q47, .inl (z 0, 30, .inl (fun _ => 0))), (q54, .inl (z 0, 3, .inl (fun _ => 0))), (q61, .inl (z 0, 3, .inl (fun _ => 0))), (q68, .inl (z 0, 3, .inl (va_cpy (stv 2) (fun _ => 0) (0 : Int32).toNatClampNeg (0 : Int32).toNatClampNeg (3 : Int32).toNatClampNeg))), (q76, .inl (z 0, 6, .inl (fun _ => 0)))] H := hP
  have hD : va_D A [(h0, .inr (2, [.int 0, .int 0, .ref q7, .ref q15, .ref q23, .ref q31, .ref q39, .ref q47, .ref q54, .ref q61, .ref q68, .ref q76])), (q7, .inl (z 0, 6, .inl (fun _ => 0))), (q15, .inl (z 0, 6, .inl (fun _ => 0))), (q23, .inl (z 0, 6, .inl (fun _ => 0))), (q31, .inl (z 0, 6, .inl (fun _ => 0))), (q39, .inl (z 0, 30, .inl (fun _ => 0))), (q47, .inl (z 0, 30, .inl (fun _ => 0))), (q54, .inl (z 0, 3, .inl (fun _ => 0))), (q61, .inl (z 0, 3, .inl (fun _ => 0))), (q68, .inl (z 0, 3, .inl (va_cpy (stv 2) (fun _ => 0) (0 : Int32).toNatClampNeg (0 : Int32).toNatClampNeg (3 : Int32).toNatClampNeg))), (q76, .inl (z 0, 6, .inl (fun _ => 0)))] := va_D_fst (w := [(h0, .inr (2, [.int 0, .int 0, .ref q7, .ref q15, .ref q23, .ref q31, .ref q39, .ref q47, .ref q54, .ref q61, .ref q68, .ref q76])), (q7, .inl (z 0, 6, .inl (fun _ => 0))), (q15, .inl (z 0, 6, .inl (fun _ => 0))), (q23, .inl (z 0, 6, .inl (fun _ => 0))), (q31, .inl (z 0, 6, .inl (fun _ => 0))), (q39, .inl (z 0, 30, .inl (fun _ => 0))), (q47, .inl (z 0, 30, .inl (fun _ => 0))), (q54, .inl (z 0, 3, .inl (fun _ => 0))), (q61, .inl (z 0, 3, .inl (fun _ => 0))), (q68, .inl (z 0, 3, .inl (fun _ => 0))), (q76, .inl (z 0, 6, .inl (fun _ => 0)))]) rfl hD
  exact W.vret hx hb hr (fun t ht hW => ⟨⟨fun j => ([h0, q7, q15, q23, q31, q39, q47, q54, q61, q68, q76] : List Nat).getD j 0, rfl, rfl, by rw [ht]; exact hP, hD⟩, hS.F ht⟩) hS.2.2 dX2_init_94 hlocks
theorem dX5_init_0 : decode cX5_init 0 = .ok (.aload_n 0, 1) := by decide +kernel
theorem dX5_init_1 : decode cX5_init 1 = .ok (.invokespecial 3, 3) := by decide +kernel
theorem dX5_init_4 : decode cX5_init 4 = .ok (.aload_n 0, 1) := by decide +kernel
theorem dX5_init_5 : decode cX5_init 5 = .ok (.bipush 6, 2) := by decide +kernel
theorem dX5_init_7 : decode cX5_init 7 = .ok (.newarray .int, 2) := by decide +kernel
theorem dX5_init_9 : decode cX5_init 9 = .ok (.putfield 9, 3) := by decide +kernel
theorem dX5_init_12 : decode cX5_init 12 = .ok (.aload_n 0, 1) := by decide +kernel
theorem dX5_init_13 : decode cX5_init 13 = .ok (.bipush 6, 2) := by decide +kernel
theorem dX5_init_15 : decode cX5_init 15 = .ok (.newarray .int, 2) := by decide +kernel
theorem dX5_init_17 : decode cX5_init 17 = .ok (.putfield 15, 3) := by decide +kernel
theorem dX5_init_20 : decode cX5_init 20 = .ok (.aload_n 0, 1) := by decide +kernel
theorem dX5_init_21 : decode cX5_init 21 = .ok (.bipush 6, 2) := by decide +kernel
theorem dX5_init_23 : decode cX5_init 23 = .ok (.newarray .int, 2) := by decide +kernel
theorem dX5_init_25 : decode cX5_init 25 = .ok (.putfield 18, 3) := by decide +kernel
theorem dX5_init_28 : decode cX5_init 28 = .ok (.aload_n 0, 1) := by decide +kernel
theorem dX5_init_29 : decode cX5_init 29 = .ok (.bipush 6, 2) := by decide +kernel
theorem dX5_init_31 : decode cX5_init 31 = .ok (.newarray .int, 2) := by decide +kernel
theorem dX5_init_33 : decode cX5_init 33 = .ok (.putfield 21, 3) := by decide +kernel
theorem dX5_init_36 : decode cX5_init 36 = .ok (.aload_n 0, 1) := by decide +kernel
theorem dX5_init_37 : decode cX5_init 37 = .ok (.bipush 6, 2) := by decide +kernel
theorem dX5_init_39 : decode cX5_init 39 = .ok (.newarray .int, 2) := by decide +kernel
theorem dX5_init_41 : decode cX5_init 41 = .ok (.putfield 24, 3) := by decide +kernel
theorem dX5_init_44 : decode cX5_init 44 = .ok (.aload_n 0, 1) := by decide +kernel
theorem dX5_init_45 : decode cX5_init 45 = .ok (.bipush 6, 2) := by decide +kernel
theorem dX5_init_47 : decode cX5_init 47 = .ok (.newarray .int, 2) := by decide +kernel
theorem dX5_init_49 : decode cX5_init 49 = .ok (.putfield 27, 3) := by decide +kernel
theorem dX5_init_52 : decode cX5_init 52 = .ok (.aload_n 0, 1) := by decide +kernel
theorem dX5_init_53 : decode cX5_init 53 = .ok (.bipush 6, 2) := by decide +kernel
theorem dX5_init_55 : decode cX5_init 55 = .ok (.newarray .int, 2) := by decide +kernel
theorem dX5_init_57 : decode cX5_init 57 = .ok (.putfield 30, 3) := by decide +kernel
theorem dX5_init_60 : decode cX5_init 60 = .ok (.aload_n 0, 1) := by decide +kernel
theorem dX5_init_61 : decode cX5_init 61 = .ok (.bipush 6, 2) := by decide +kernel
theorem dX5_init_63 : decode cX5_init 63 = .ok (.newarray .int, 2) := by decide +kernel
theorem dX5_init_65 : decode cX5_init 65 = .ok (.putfield 33, 3) := by decide +kernel
theorem dX5_init_68 : decode cX5_init 68 = .ok (.aload_n 0, 1) := by decide +kernel
theorem dX5_init_69 : decode cX5_init 69 = .ok (.bipush 6, 2) := by decide +kernel
theorem dX5_init_71 : decode cX5_init 71 = .ok (.newarray .int, 2) := by decide +kernel
theorem dX5_init_73 : decode cX5_init 73 = .ok (.putfield 36, 3) := by decide +kernel
theorem dX5_init_76 : decode cX5_init 76 = .ok (.aload_n 0, 1) := by decide +kernel
theorem dX5_init_77 : decode cX5_init 77 = .ok (.iconst 3, 1) := by decide +kernel
theorem dX5_init_78 : decode cX5_init 78 = .ok (.newarray .int, 2) := by decide +kernel
theorem dX5_init_80 : decode cX5_init 80 = .ok (.putfield 39, 3) := by decide +kernel
theorem dX5_init_83 : decode cX5_init 83 = .ok (.aload_n 0, 1) := by decide +kernel
theorem dX5_init_84 : decode cX5_init 84 = .ok (.iconst 3, 1) := by decide +kernel
theorem dX5_init_85 : decode cX5_init 85 = .ok (.newarray .int, 2) := by decide +kernel
theorem dX5_init_87 : decode cX5_init 87 = .ok (.putfield 42, 3) := by decide +kernel
theorem dX5_init_90 : decode cX5_init 90 = .ok (.aload_n 0, 1) := by decide +kernel
theorem dX5_init_91 : decode cX5_init 91 = .ok (.aload_n 1, 1) := by decide +kernel
theorem dX5_init_92 : decode cX5_init 92 = .ok (.putfield 45, 3) := by decide +kernel
theorem dX5_init_95 : decode cX5_init 95 = .ok (.return_, 1) := by decide +kernel
set_option maxHeartbeats 4000000 in
set_option maxRecDepth 100000 in
theorem ci_X5 (l : Launch) (D : va_G) (z : Nat → ClassId) (ts : Nat → Nat) (z0 h0 sz : Nat) (f0 : Nat) : Met l yX5_init (.code yX5_init cX5_init 2 none :: gtb) (rmD 1 11 60) (va_Pc [.ref h0, .ref f0] (Pr D z ts z0 [(h0, .inr (5, [.null, .null, .null, .null, .null, .null, .null, .null, .null, .null, .null, .null, .int 0]))] sz)) (va_Qv (fun a : Nat → Nat => a 0 = h0 ∧ a 12 = f0) (fun a t => va_P D vwCl (wT z layR1 a [] mm0) t.heap ∧ va_D (va_A [(h0, .inr (5, [.null, .null, .null, .null, .null, .null, .null, .null, .null, .null, .null, .null, .int 0]))] sz) (wT z layR1 a [] mm0)) (va_A [(h0, .inr (5, [.null, .null, .null, .null, .null, .null, .null, .null, .null, .null, .null, .null, .int 0]))] sz)) 11 60 (va_A [(h0, .inr (5, [.null, .null, .null, .null, .null, .null, .null, .null, .null, .null, .null, .null, .int 0]))] sz) := by
  refine Met.ofW (cc := cX5_init) (maxL := 2) (ret := none) (by decide) rfl ?_
  intro p e s m args below meth c s₁ B hml hv
  obtain ⟨rfl, hsz, hP, hK, hD0, hz, hSt⟩ := hv
  have hx := B.exec
  have hb := B.bytes
  have hr := B.returns
  have hat := atoms_spec (ws := .code yX5_init cX5_init 2 none :: gtb) B.pre
  have hts := fun w hw => hat w (List.mem_cons_of_mem _ hw)
  have hown : s.vm.findClass RX5 = some m.cls := findClass_of_methodNamed B.named
  have hlocks := B.notSynchronized
  have hin : meth.name = "<init>" := (name_of_methodNamed B.named B.method).1
  subst hsz
  have hD := hD0.self (sz := s.heap.size)
  have hA0 : ∀ q, va_A [(h0, .inr (5, [.null, .null, .null, .null, .null, .null, .null, .null, .null, .null, .null, .null, .int 0]))] s.heap.size q → z0 ≤ q := by
    rintro q (⟨k9, e9, hk9⟩ | h9)
    · exact hD0.2 k9 _ hk9
    · exact Nat.le_trans hz h9
  generalize hAe : va_A [(h0, .inr (5, [.null, .null, .null, .null, .null, .null, .null, .null, .null, .null, .null, .null, .int 0]))] s.heap.size = A at hD hA0 ⊢
  have hA : ∀ q : Nat, s.heap.size ≤ q → A q := fun q h => by rw [← hAe]; exact Or.inr h
  have hS : va_S A s.heap s.heap [] := va_S.rf
  have hl := lv_entry ([.ref h0, .ref f0]) (n := 2) (Nat.le_of_ble_eq_true rfl)
  rw [lg_entry_eq]
  generalize (lg_sl ([.ref h0, .ref f0]) ++ List.replicate (2 - (lg_sl ([.ref h0, .ref f0])).length) Slot.unset).toArray = ls at hl ⊢
  have hl : lv_has ls 2 [(0, .ref h0), (1, .ref f0)] := hl
  refine lv_aload_n hx hb dX5_init_0 rfl (lv_at hl 0 rfl) ?_
  refine W.objInit hx hb hown (hts _ wq_267) (hts _ wn_objI) (hts _ wn_objC) rfl (by rw [hml]; exact hl.1) rfl dX5_init_1 (Nat.le_of_ble_eq_true rfl) (Nat.le_of_ble_eq_true rfl) ?_
  refine W.eq (g2 := F0 m 4 ls []) rfl ?_
  refine lv_aload_n hx hb dX5_init_4 rfl (lv_at hl 0 rfl) ?_
  refine lv_bipush (v := 6) hx hb dX5_init_5 (by decide +kernel) ?_
  refine nw_a 0 (ty := .int) rfl hx hb (atype := .int) (N' := 6) (a0 := (6, .inl (fun _ => 0))) (hts _ wn_int) rfl (fun C h => by cases h) hK hP hD hS hA (fun _ => rfl) (by decide +kernel) (by decide +kernel) (Nat.le_of_ble_eq_true rfl) (Nat.le_of_ble_eq_true rfl) (Nat.le_of_ble_eq_true rfl) dX5_init_7 (fun q7 H hP hD hS => ?_)
  have hP : va_P D vwCl [(h0, .inr (5, [.null, .null, .null, .null, .null, .null, .null, .null, .null, .null, .null, .null, .int 0])), (q7, .inl (z 0, 6, .inl (fun _ => 0)))] H := hP
  have hD : va_D A [(h0, .inr (5, [.null, .null, .null, .null, .null, .null, .null, .null, .null, .null, .null, .null, .int 0])), (q7, .inl (z 0, 6, .inl (fun _ => 0)))] := hD
  refine va_putF (D := D) (ci := 5) (v := .ref q7) (ty := .array .int) (C := RX5) (T := TX5) (N := 13) hx hb hts inGX5 tyX5 tyX5_ok nmX5 hown hK hP hD hS 0 rfl rfl 1 (by decide) (hts _ wq_269) (fun _ h9 => h9) rfl hin rfl (by decide +kernel) rfl rfl (Nat.le_of_ble_eq_true rfl) dX5_init_9 (fun H locs hP hD hS => ?_)
  have hP : va_P D vwCl [(h0, .inr (5, [.null, .ref q7, .null, .null, .null, .null, .null, .null, .null, .null, .null, .null, .int 0])), (q7, .inl (z 0, 6, .inl (fun _ => 0)))] H := hP
  have hD : va_D A [(h0, .inr (5, [.null, .ref q7, .null, .null, .null, .null, .null, .null, .null, .null, .null, .null, .int 0])), (q7, .inl (z 0, 6, .inl (fun _ => 0)))] := hD
  refine lv_aload_n hx hb dX5_init_12 rfl (lv_at hl 0 rfl) ?_
  refine lv_bipush (v := 6) hx hb dX5_init_13 (by decide +kernel) ?_
  refine nw_a 0 (ty := .int) rfl hx hb (atype := .int) (N' := 6) (a0 := (6, .inl (fun _ => 0))) (hts _ wn_int) rfl (fun C h => by cases h) hK hP hD hS hA (fun _ => rfl) (by decide +kernel) (by decide +kernel) (Nat.le_of_ble_eq_true rfl) (Nat.le_of_ble_eq_true rfl) (Nat.le_of_ble_eq_true rfl) dX5_init_15 (fun q15 H hP hD hS => ?_)
  have hP : va_P D vwCl [(h0, .inr (5, [.null, .ref q7, .null, .null, .null, .null, .null, .null, .null, .null, .null, .null, .int 0])), (q7, .inl (z 0, 6, .inl (fun _ => 0))), (q15, .inl (z 0, 6, .inl (fun _ => 0)))] H := hP
  have hD : va_D A [(h0, .inr (5, [.null, .ref q7, .null, .null, .null, .null, .null, .null, .null, .null, .null, .null, .int 0])), (q7, .inl (z 0, 6, .inl (fun _ => 0))), (q15, .inl (z 0, 6, .inl (fun _ => 0)))] := hD
  refine va_putF (D := D) (ci := 5) (v := .ref q15) (ty := .array .int) (C := RX5) (T := TX5) (N := 13) hx hb hts inGX5 tyX5 tyX5_ok nmX5 hown hK hP hD hS 0 rfl rfl 2 (by decide) (hts _ wq_271) (fun _ h9 => h9) rfl hin rfl (by decide +kernel) rfl rfl (Nat.le_of_ble_eq_true rfl) dX5_init_17 (fun H locs hP hD hS => ?_)
  have hP : va_P D vwCl [(h0, .inr (5, [.null, .ref q7, .ref q15, .null, .null, .null, .null, .null, .null, .null, .null, .null, .int 0])), (q7, .inl (z 0, 6, .inl (fun _ => 0))), (q15, .inl (z 0, 6, .inl (fun _ => 0)))] H := hP
  have hD : va_D A [(h0, .inr (5, [.null, .ref q7, .ref q15, .null, .null, .null, .null, .null, .null, .null, .null, .null, .int 0])), (q7, .inl (z 0, 6, .inl (fun _ => 0))), (q15, .inl (z 0, 6, .inl (fun _ => 0)))] := hD
  refine lv_aload_n hx hb dX5_init_20 rfl (lv_at hl 0 rfl) ?_
  refine lv_bipush (v := 6) hx hb dX5_init_21 (by decide +kernel) ?_
  refine nw_a 0 (ty := .int) rfl hx hb (atype := .int) (N' := 6) (a0 := (6, .inl (fun _ => 0))) (hts _ wn_int) rfl (fun C h => by cases h) hK hP hD hS hA (fun _ => rfl) (by decide +kernel) (by decide +kernel) (Nat.le_of_ble_eq_true rfl) (Nat.le_of_ble_eq_true rfl) (Nat.le_of_ble_eq_true rfl) dX5_init_23 (fun q23 H hP hD hS => ?_)
  have hP : va_P D vwCl [(h0, .inr (5, [.null, .ref q7, .ref q15, .null, .null, .null, .null, .null, .null, .null, .null, .null, .int 0])), (q7, .inl (z 0, 6, .inl (fun _ => 0))), (q15, .inl (z 0, 6, .inl (fun _ => 0))), (q23, .inl (z 0, 6, .inl (fun _ => 0)))] H := hP
  have hD : va_D A [(h0, .inr (5, [.null, .ref q7, .ref q15, .null, .null, .null, .null, .null, .null, .null, .null, .null, .int 0])), (q7, .inl (z 0, 6, .inl (fun _ => 0))), (q15, .inl (z 0, 6, .inl (fun _ => 0))), (q23, .inl (z 0, 6, .inl (fun _ => 0)))] := hD
  refine va_putF (D := D) (ci := 5) (v := .ref q23) (ty := .array .int) (C := RX5) (T := TX5) (N := 13) hx hb hts inGX5 tyX5 tyX5_ok nmX5 hown hK hP hD hS 0 rfl rfl 3 (by decide) (hts _ wq_273) (fun _ h9 => h9) rfl hin rfl (by decide +kernel) rfl rfl (Nat.le_of_ble_eq_true rfl) dX5_init_25 (fun H locs hP hD hS => ?_)
  have hP : va_P D vwCl [(h0, .inr (5, [.null, .ref q7, .ref q15, .ref q23, .null, .null, .null, .null, .null, .null, .null, .null, .int 0])), (q7, .inl (z 0, 6, .inl (fun _ => 0))), (q15, .inl (z 0, 6, .inl (fun _ => 0))), (q23, .inl (z 0, 6, .inl (fun _ => 0)))] H := hP
  have hD : va_D A [(h0, .inr (5, [.null, .ref q7, .ref q15, .ref q23, .null, .null, .null, .null, .null, .null, .null, .null, .int 0])), (q7, .inl (z 0, 6, .inl (fun _ => 0))), (q15, .inl (z 0, 6, .inl (fun _ => 0))), (q23, .inl (z 0, 6, .inl (fun _ => 0)))] := hD
  refine lv_aload_n hx hb dX5_init_28 rfl (lv_at hl 0 rfl) ?_
  refine lv_bipush (v := 6) hx hb dX5_init_29 (by decide +kernel) ?_
  refine nw_a 0 (ty := .int) rfl hx hb (atype := .int) (N' := 6) (a0 := (6, .inl (fun _ => 0))) (hts _ wn_int) rfl (fun C h => by cases h) hK hP hD hS hA (fun _ => rfl) (by decide +kernel) (by decide +kernel) (Nat.le_of_ble_eq_true rfl) (Nat.le_of_ble_eq_true rfl) (Nat.le_of_ble_eq_true rfl) dX5_init_31 (fun q31 H hP hD hS => ?_)
  have hP : va_P D vwCl [(h0, .inr (5, [.null, .ref q7, .ref q15, .ref q23, .null, .null, .null, .null, .null, .null, .null, .null, .int 0])), (q7, .inl (z 0, 6, .inl (fun _ => 0))), (q15, .inl (z 0, 6, .inl (fun _ => 0))), (q23, .inl (z 0, 6, .inl (fun _ => 0))), (q31, .inl (z 0, 6, .inl (fun _ => 0)))] H := hP
  have hD : va_D A [(h0, .inr (5, [.null, .ref q7, .ref q15, .ref q23, .null, .null, .null, .null, .null, .null, .null, .null, .int 0])), (q7, .inl (z 0, 6, .inl (fun _ => 0))), (q15, .inl (z 0, 6, .inl (fun _ => 0))), (q23, .inl (z 0, 6, .inl (fun _ => 0))), (q31, .inl (z 0, 6, .inl (fun _ => 0)))] := hD
  refine va_putF (D := D) (ci := 5) (v := .ref q31) (ty := .array .int) (C := RX5) (T := TX5) (N := 13) hx hb hts inGX5 tyX5 tyX5_ok nmX5 hown hK hP hD hS 0 rfl rfl 4 (by decide) (hts _ wq_275) (fun _ h9 => h9) rfl hin rfl (by decide +kernel) rfl rfl (Nat.le_of_ble_eq_true rfl) dX5_init_33 (fun H locs hP hD hS => ?_)
  have hP : va_P D vwCl [(h0, .inr (5, [.null, .ref q7, .ref q15, .ref q23, .ref q31, .null, .null, .null, .null, .null, .null, .null, .int 0])), (q7, .inl (z 0, 6, .inl (fun _ => 0))), (q15, .inl (z 0, 6, .inl (fun _ => 0))), (q23, .inl (z 0, 6, .inl (fun _ => 0))), (q31, .inl (z 0, 6, .inl (fun _ => 0)))] H := hP
  have hD : va_D A [(h0, .inr (5, [.null, .ref q7, .ref q15, .ref q23, .ref q31, .null, .null, .null, .null, .null, .null, .null, .int 0])), (q7, .inl (z 0, 6, .inl (fun _ => 0))), (q15, .inl (z 0, 6, .inl (fun _ => 0))), (q23, .inl (z 0, 6, .inl (fun _ => 0))), (q31, .inl (z 0, 6, .inl (fun _ => 0)))] := hD
  refine lv_aload_n hx hb dX5_init_36 rfl (lv_at hl 0 rfl) ?_
  refine lv_bipush (v := 6) hx hb dX5_init_37 (by decide +kernel) ?_
  refine nw_a 0 (ty := .int) rfl hx hb (atype := .int) (N' := 6) (a0 := (6, .inl (fun _ => 0))) (hts _ wn_int) rfl (fun C h => by cases h) hK hP hD hS hA (fun _ => rfl) (by decide +kernel) (by decide +kernel) (Nat.le_of_ble_eq_true rfl) (Nat.le_of_ble_eq_true rfl) (Nat.le_of_ble_eq_true rfl) dX5_init_39 (fun q39 H hP hD hS => ?_)
  have hP : va_P D vwCl [(h0, .inr (5, [.null, .ref q7, .ref q15, .ref q23, .ref q31, .null, .null, .null, .null, .null, .null, .null, .int 0])), (q7, .inl (z 0, 6, .inl (fun _ => 0))), (q15, .inl (z 0, 6, .inl (fun _ => 0))), (q23, .inl (z 0, 6, .inl (fun _ => 0))), (q31, .inl (z 0, 6, .inl (fun _ => 0))), (q39, .inl (z 0, 6, .inl (fun _ => 0)))] H := hP
  have hD : va_D A [(h0, .inr (5, [.null, .ref q7, .ref q15, .ref q23, .ref q31, .null, .null, .null, .null, .null, .null, .null, .int 0])), (q7, .inl (z 0, 6, .inl (fun _ => 0))), (q15, .inl (z 0, 6, .inl (fun _ => 0))), (q23, .inl (z 0, 6, .inl (fun _ => 0))), (q31, .inl (z 0, 6, .inl (fun _ => 0))), (q39, .inl (z 0, 6, .inl (fun _ => 0)))] := hD
  refine va_putF (D := D) (ci := 5) (v := .ref q39) (ty := .array .int) (C := RX5) (T := TX5) (N := 13) hx hb hts inGX5 tyX5 tyX5_ok nmX5 hown hK hP hD hS 0 rfl rfl 5 (by decide) (hts _ wq_276) (fun _ h9 => h9) rfl hin rfl (by decide +kernel) rfl rfl (Nat.le_of_ble_eq_true rfl) dX5_init_41 (fun H locs hP hD hS => ?_)
  have hP : va_P D vwCl [(h0, .inr (5, [.null, .ref q7, .ref q15, .ref q23, .ref q31, .ref q39, .null, .null, .null, .null, .null, .null, .int 0])), (q7, .inl (z 0, 6, .inl (fun _ => 0))), (q15, .inl (z 0, 6, .inl (fun _ => 0))), (q23, .inl (z 0, 6, .inl (fun _ => 0))), (q31, .inl (z 0, 6, .inl (fun _ => 0))), (q39, .inl (z 0, 6, .inl (fun _ => 0)))] H := hP
  have hD : va_D A [(h0, .inr (5, [.null, .ref q7, .ref q15, .ref q23, .ref q31, .ref q39, .null, .null, .null, .null, .null, .null, .int 0])), (q7, .inl (z 0, 6, .inl (fun _ => 0))), (q15, .inl (z 0, 6, .inl (fun _ => 0))), (q23, .inl (z 0, 6, .inl (fun _ => 0))), (q31, .inl (z 0, 6, .inl (fun _ => 0))), (q39, .inl (z 0, 6, .inl (fun _ => 0)))] := hD
  refine lv_aload_n hx hb dX5_init_44 rfl (lv_at hl 0 rfl) ?_
  refine lv_bipush (v := 6) hx hb dX5_init_45 (by decide +kernel) ?_
  refine nw_a 0 (ty := .int) rfl hx hb (atype := .int) (N' := 6) (a0 := (6, .inl (fun _ => 0))) (hts _ wn_int) rfl (fun C h => by cases h) hK hP hD hS hA (fun _ => rfl) (by decide +kernel) (by decide +kernel) (Nat.le_of_ble_eq_true rfl) (Nat.le_of_ble_eq_true rfl) (Nat.le_of_ble_eq_true rfl) dX5_init_47 (fun q47 H hP hD hS => ?_)
  have hP : va_P D vwCl [(h0, .inr (5, [.null, .ref q7, .ref q15, .ref q23, .ref q31, .ref q39, .null, .null, .null, .null, .null, .null, .int 0])), (q7, .inl (z 0, 6, .inl (fun _ => 0))), (q15, .inl (z 0, 6, .inl (fun _ => 0))), (q23, .inl (z 0, 6, .inl (fun _ => 0))), (q31, .inl (z 0, 6, .inl (fun _ => 0))), (q39, .inl (z 0, 6, .inl (fun _ => 0))), (q47, .inl (z 0, 6, .inl (fun _ => 0)))] H := hP
  have hD : va_D A [(h0, .inr (5, [.null, .ref q7, .ref q15, .ref q23, .ref q31, .ref q39, .null, .null, .null, .null, .null, .null, .int 0])), (q7, .inl (z 0, 6, .inl (fun _ => 0))), (q15, .inl (z 0, 6, .inl (fun _ => 0))), (q23, .inl (z 0, 6, .inl (fun _ => 0))), (q31, .inl (z 0, 6, .inl (fun _ => 0))), (q39, .inl (z 0, 6, .inl (fun _ => 0))), (q47, .inl (z 0, 6, .inl (fun _ => 0)))] := hD
  refine va_putF (D := D) (ci := 5) (v := .ref q47) (ty := .array .int) (C := RX5) (T := TX5) (N := 13) hx hb hts inGX5 tyX5 tyX5_ok nmX5 hown hK hP hD hS 0 rfl rfl 6 (by decide) (hts _ wq_277) (fun _ h9 => h9) rfl hin rfl (by decide +kernel) rfl rfl (Nat.le_of_ble_eq_true rfl) dX5_init_49 (fun H locs hP hD hS => ?_)
  have hP : va_P D vwCl [(h0, .inr (5, [.null, .ref q7, .ref q15, .ref q23, .ref q31, .ref q39, .ref q47, .null, .null, .null, .null, .null, .int 0])), (q7, .inl (z 0, 6, .inl (fun _ => 0))), (q15, .inl (z 0, 6, .inl (fun _ => 0))), (q23, .inl (z 0, 6, .inl (fun _ => 0))), (q31, .inl (z 0, 6, .inl (fun _ => 0))), (q39, .inl (z 0, 6, .inl (fun _ => 0))), (q47, .inl (z 0, 6, .inl (fun _ => 0)))] H := hP
  have hD : va_D A [(h0, .inr (5, [.null, .ref q7, .ref q15, .ref q23, .ref q31, .ref q39, .ref q47, .null, .null, .null, .null, .null, .int 0])), (q7, .inl (z 0, 6, .inl (fun _ => 0))), (q15, .inl (z 0, 6, .inl (fun _ => 0))), (q23, .inl (z 0, 6, .inl (fun _ => 0))), (q31, .inl (z 0, 6, .inl (fun _ => 0))), (q39, .inl (z 0, 6, .inl (fun _ => 0))), (q47, .inl (z 0, 6, .inl (fun _ => 0)))] := hD
  refine lv_aload_n hx hb dX5_init_52 rfl (lv_at hl 0 rfl) ?_
  refine lv_bipush (v := 6) hx hb dX5_init_53 (by decide +kernel) ?_
  refine nw_a 0 (ty := .int) rfl hx hb (atype := .int) (N' := 6) (a0 := (6, .inl (fun _ => 0))) (hts _ wn_int) rfl (fun C h => by cases h) hK hP hD hS hA (fun _ => rfl) (by decide +kernel) (by decide +kernel) (Nat.le_of_ble_eq_true rfl) (Nat.le_of_ble_eq_true rfl) (Nat.le_of_ble_eq_true rfl) dX5_init_55 (fun q55 H hP hD hS => ?_)
  have hP : va_P D vwCl [(h0, .inr (5, [.null, .ref q7, .ref q15, .ref q23, .ref q31, .ref q39, .ref q47, .null, .null, .null, .null, .null, .int 0])), (q7, .inl (z 0, 6, .inl (fun _ => 0))), (q15, .inl (z 0, 6, .inl (fun _ => 0))), (q23, .inl (z 0, 6, .inl (fun _ => 0))), (q31, .inl (z 0, 6, .inl (fun _ => 0))), (q39, .inl (z 0, 6, .inl (fun _ => 0))), (q47, .inl (z 0, 6, .inl (fun _ => 0))), (q55, .inl (z 0, 6, .inl (fun _ => 0)))] H := hP
  have hD : va_D A [(h0, .inr (5, [.null, .ref q7, .ref q15, .ref q23, .ref q31, .ref q39, .ref q47, .null, .null, .null, .null, .null, .int 0])), (q7, .inl (z 0, 6, .inl (fun _ => 0))), (q15, .inl (z 0, 6, .inl (fun _ => 0))), (q23, .inl (z 0, 6, .inl (fun _ => 0))), (q31, .inl (z 0, 6, .inl (fun _ => 0))), (q39, .inl (z 0, 6, .inl (fun _ => 0))), (q47, .inl (z 0, 6, .inl (fun _ => 0))), (q55, .inl (z 0, 6, .inl (fun _ => 0)))] := hD
  refine va_putF (D := D) (ci := 5) (v := .ref q55) (ty := .array .int) (C := RX5) (T := TX5) (N := 13) hx hb hts inGX5 tyX5 tyX5_ok nmX5 hown hK hP hD hS 0 rfl rfl 7 (by decide) (hts _ wq_278) (fun _ h9 => h9) rfl hin rfl (by decide +kernel) rfl rfl (Nat.le_of_ble_eq_true rfl) dX5_init_57 (fun H locs hP hD hS => ?_)
  have hP : va_P D vwCl [(h0, .inr (5, [.null, .ref q7, .ref q15, .ref q23, .ref q31, .ref q39, .ref q47, .ref q55, .null, .null, .null, .null, .int 0])), (q7, .inl (z 0, 6, .inl (fun _ => 0))), (q15, .inl (z 0, 6, .inl (fun _ => 0))), (q23, .inl (z 0, 6, .inl (fun _ => 0))), (q31, .inl (z 0, 6, .inl (fun _ => 0))), (q39, .inl (z 0, 6, .inl (fun _ => 0))), (q47, .inl (z 0, 6, .inl (fun _ => 0))), (q55, .inl (z 0, 6, .inl (fun _ => 0)))] H := hP
  have hD : va_D A [(h0, .inr (5, [.null, .ref q7, .ref q15, .ref q23, .ref q31, .ref q39, .ref q47, .ref q55, .null, .null, .null, .null, .int 0])), (q7, .inl (z 0, 6, .inl (fun _ => 0))), (q15, .inl (z 0, 6, .inl (fun _ => 0))), (q23, .inl (z 0, 6, .inl (fun _ => 0))), (q31, .inl (z 0, 6, .inl (fun _ => 0))), (q39, .inl (z 0, 6, .inl (fun _ => 0))), (q47, .inl (z 0, 6, .inl (fun _ => 0))), (q55, .inl (z 0, 6, .inl (fun _ => 0)))] := hD
  refine lv_aload_n hx hb dX5_init_60 rfl (lv_at hl 0 rfl) ?_
  refine lv_bipush (v := 6) hx hb dX5_init_61 (by decide +kernel) ?_
  refine nw_a 0 (ty := .int) rfl hx hb (atype := .int) (N' := 6) (a0 := (6, .inl (fun _ => 0))) (hts _ wn_int) rfl (fun C h => by cases h) hK hP hD hS hA (fun _ => rfl) (by decide +kernel) (by decide +kernel) (Nat.le_of_ble_eq_true rfl) (Nat.le_of_ble_eq_true rfl) (Nat.le_of_ble_eq_true rfl) dX5_init_63 (fun q63 H hP hD hS => ?_)
  have hP : va_P D vwCl [(h0, .inr (5, [.null, .ref q7, .ref q15, .ref q23, .ref q31, .ref q39, .ref q47, .ref q55, .null, .null, .null, .null, .int 0])), (q7, .inl (z 0, 6, .inl (fun _ => 0))), (q15, .inl (z 0, 6, .inl (fun _ => 0))), (q23, .inl (z 0, 6, .inl (fun _ => 0))), (q31, .inl (z 0, 6, .inl (fun _ => 0))), (q39, .inl (z 0, 6, .inl (fun _ => 0))), (q47, .inl (z 0, 6, .inl (fun _ => 0))), (q55, .inl (z 0, 6, .inl (fun _ => 0))), (q63, .inl (z 0, 6, .inl (fun _ => 0)))] H := hP
  have hD : va_D A [(h0, .inr (5, [.null, .ref q7, .ref q15, .ref q23, .ref q31, .ref q39, .ref q47, .ref q55, .null, .null, .null, .null, .int 0])), (q7, .inl (z 0, 6, .inl (fun _ => 0))), (q15, .inl (z 0, 6, .inl (fun _ => 0))), (q23, .inl (z 0, 6, .inl (fun _ => 0))), (q31, .inl (z 0, 6, .inl (fun _ => 0))), (q39, .inl (z 0, 6, .inl (fun _ => 0))), (q47, .inl (z 0, 6, .inl (fun _ => 0))), (q55, .inl (z 0, 6, .inl (fun _ => 0))), (q63, .inl (z 0, 6, .inl (fun _ => 0)))] := hD
  refine va_putF (D := D) (ci := 5) (v := .ref q63) (ty := .array .int) (C := RX5) (T := TX5) (N := 13) hx hb hts inGX5 tyX5 tyX5_ok nmX5 hown hK hP hD hS 0 rfl rfl 8 (by decide) (hts _ wq_280) (fun _ h9 => h9) rfl hin rfl (by decide +kernel) rfl rfl (Nat.le_of_ble_eq_true rfl) dX5_init_65 (fun H locs hP hD hS => ?_)
  have hP : va_P D vwCl [(h0, .inr (5, [.null, .ref q7, .ref q15, .ref q23, .ref q31, .ref q39, .ref q47, .ref q55, .ref q63, .null, .null, .null, .int 0])), (q7, .inl (z 0, 6, .inl (fun _ => 0))), (q15, .inl (z 0, 6, .inl (fun _ => 0))), (q23, .inl (z 0, 6, .inl (fun _ => 0))), (q31, .inl (z 0, 6, .inl (fun _ => 0))), (q39, .inl (z 0, 6, .inl (fun _ => 0))), (q47, .inl (z 0, 6, .inl (fun _ => 0))), (q55, .inl (z 0, 6, .inl (fun _ => 0))), (q63, .inl (z 0, 6, .inl (fun _ => 0)))] H := hP
  have hD : va_D A [(h0, .inr (5, [.null, .ref q7, .ref q15, .ref q23, .ref q31, .ref q39, .ref q47, .ref q55, .ref q63, .null, .null, .null, .int 0])), (q7, .inl (z 0, 6, .inl (fun _ => 0))), (q15, .inl (z 0, 6, .inl (fun _ => 0))), (q23, .inl (z 0, 6, .inl (fun _ => 0))), (q31, .inl (z 0, 6, .inl (fun _ => 0))), (q39, .inl (z 0, 6, .inl (fun _ => 0))), (q47, .inl (z 0, 6, .inl (fun _ => 0))), (q55, .inl (z 0, 6, .inl (fun _ => 0))), (q63, .inl (z 0, 6, .inl (fun _ => 0)))] := hD
  refine lv_aload_n hx hb dX5_init_68 rfl (lv_at hl 0 rfl) ?_
  refine lv_bipush (v := 6) hx hb dX5_init_69 (by decide +kernel) ?_
  refine nw_a 0 (ty := .int) rfl hx hb (atype := .int) (N' := 6) (a0 := (6, .inl (fun _ => 0))) (hts _ wn_int) rfl (fun C h => by cases h) hK hP hD hS hA (fun _ => rfl) (by decide +kernel) (by decide +kernel) (Nat.le_of_ble_eq_true rfl) (Nat.le_of_ble_eq_true rfl) (Nat.le_of_ble_eq_true rfl) dX5_init_71 (fun q71 H hP hD hS => ?_)
  have hP : va_P D vwCl [(h0, .inr (5, [.null, .ref q7, .ref q15, .ref q23, .ref q31, .ref q39, .ref q47, .ref q55, .ref q63, .null, .null, .null, .int 0])), (q7, .inl (z 0, 6, .inl (fun _ => 0))), (q15, .inl (z 0, 6, .inl (fun _ => 0))), (q23, .inl (z 0, 6, .inl (fun _ => 0))), (q31, .inl (z 0, 6, .inl (fun _ => 0))), (q39, .inl (z 0, 6, .inl (fun _ => 0))), (q47, .inl (z 0, 6, .inl (fun _ => 0))), (q55, .inl (z 0, 6, .inl (fun _ => 0))), (q63, .inl (z 0, 6, .inl (fun _ => 0))), (q71, .inl (z 0, 6, .inl (fun _ => 0)))] H := hP
  have hD : va_D A [(h0, .inr (5, [.null, .ref q7, .ref q15, .ref q23, .ref q31, .ref q39, .ref q47, .ref q55, .ref q63, .null, .null, .null, .int 0])), (q7, .inl (z 0, 6, .inl (fun _ => 0))), (q15, .inl (z 0, 6, .inl (fun _ => 0))), (q23, .inl (z 0, 6, .inl (fun _ => 0))), (q31, .inl (z 0, 6, .inl (fun _ => 0))), (q39, .inl (z 0, 6, .inl (fun _ => 0))), (q47, .inl (z 0, 6, .inl (fun _ => 0))), (q55, .inl (z 0, 6, .inl (fun _ => 0))), (q63, .inl (z 0, 6, .inl (fun _ => 0))), (q71, .inl (z 0, 6, .inl (fun _ => 0)))] := hD
  refine va_putF (D := D) (ci := 5) (v := .ref q71) (ty := .array .int) (C := RX5) (T := TX5) (N := 13) hx hb hts inGX5 tyX5 tyX5_ok nmX5 hown hK hP hD hS 0 rfl rfl 9 (by decide) (hts _ wq_282) (fun _ h9 => h9) rfl hin rfl (by decide +kernel) rfl rfl (Nat.le_of_ble_eq_true rfl) dX5_init_73 (fun H locs hP hD hS => ?_)
  have hP : va_P D vwCl [(h0, .inr (5, [.null, .ref q7, .ref q15, .ref q23, .ref q31, .ref q39, .ref q47, .ref q55, .ref q63, .ref q71, .null, .null, .int 0])), (q7, .inl (z 0, 6, .inl (fun _ => 0))), (q15, .inl (z 0, 6, .inl (fun _ => 0))), (q23, .inl (z 0, 6, .inl (fun _ => 0))), (q31, .inl (z 0, 6, .inl (fun _ => 0))), (q39, .inl (z 0, 6, .inl (fun _ => 0))), (q47, .inl (z 0, 6, .inl (fun _ => 0))), (q55, .inl (z 0, 6, .inl (fun _ => 0))), (q63, .inl (z 0, 6, .inl (fun _ => 0))), (q71, .inl (z 0, 6, .inl (fun _ => 0)))] H := hP
  have hD : va_D A [(h0, .inr (5, [.null, .ref q7, .ref q15, .ref q23, .ref q31, .ref q39, .ref q47, .ref q55, .ref q63, .ref q71, .null, .null, .int 0])), (q7, .inl (z 0, 6, .inl (fun _ => 0))), (q15, .inl (z 0, 6, .inl (fun _ => 0))), (q23, .inl (z 0, 6, .inl (fun _ => 0))), (q31, .inl (z 0, 6, .inl (fun _ => 0))), (q39, .inl (z 0, 6, .inl (fun _ => 0))), (q47, .inl (z 0, 6, .inl (fun _ => 0))), (q55, .inl (z 0, 6, .inl (fun _ => 0))), (q63, .inl (z 0, 6, .inl (fun _ => 0))), (q71, .inl (z 0, 6, .inl (fun _ => 0)))] := hD
  refine lv_aload_n hx hb dX5_init_76 rfl (lv_at hl 0 rfl) ?_
  refine lv_iconst (v := 3) hx hb dX5_init_77 (by decide +kernel) ?_
  refine nw_a 0 (ty := .int) rfl hx hb (atype := .int) (N' := 3) (a0 := (3, .inl (fun _ => 0))) (hts _ wn_int) rfl (fun C h => by cases h) hK hP hD hS hA (fun _ => rfl) (by decide +kernel) (by decide +kernel) (Nat.le_of_ble_eq_true rfl) (Nat.le_of_ble_eq_true rfl) (Nat.le_of_ble_eq_true rfl) dX5_init_78 (fun q78 H hP hD hS => ?_)
  have hP : va_P D vwCl [(h0, .inr (5, [.null, .ref q7, .ref q15, .ref q23, .ref q31, .ref q39, .ref q47, .ref q55, .ref q63, .ref q71, .null, .null, .int 0])), (q7, .inl (z 0, 6, .inl (fun _ => 0))), (q15, .inl (z 0, 6, .inl (fun _ => 0))), (q23, .inl (z 0, 6, .inl (fun _ => 0))), (q31, .inl (z 0, 6, .inl (fun _ => 0))), (q39, .inl (z 0, 6, .inl (fun _ => 0))), (q47, .inl (z 0, 6, .inl (fun _ => 0))), (q55, .inl (z 0, 6, .inl (fun _ => 0))), (q63, .inl (z 0, 6, .inl (fun _ => 0))), (q71, .inl (z 0, 6, .inl (fun _ => 0))), (q78, .inl (z 0, 3, .inl (fun _ => 0)))] H := hP
  have hD : va_D A [(h0, .inr (5, [.null, .ref q7, .ref q15, .ref q23, .ref q31, .ref q39, .ref q47, .ref q55, .ref q63, .ref q71, .null, .null, .int 0])), (q7, .inl (z 0, 6, .inl (fun _ => 0))), (q15, .inl (z 0, 6, .inl (fun _ => 0))), (q23, .inl (z 0, 6, .inl (fun _ => 0))), (q31, .inl (z 0, 6, .inl (fun _ => 0))), (q39, .inl (z 0, 6, .inl (fun _ => 0))), (q47, .inl (z 0, 6, .inl (fun _ => 0))), (q55, .inl (z 0, 6, .inl (fun _ => 0))), (q63, .inl (z 0, 6, .inl (fun _ => 0))), (q71, .inl (z 0, 6, .inl (fun _ => 0))), (q78, .inl (z 0, 3, .inl (fun _ => 0)))] := hD
  refine va_putF (D := D) (ci := 5) (v := .ref q78) (ty := .array .int) (C := RX5) (T := TX5) (N := 13) hx hb hts inGX5 tyX5 tyX5_ok nmX5 hown hK hP hD hS 0 rfl rfl 10 (by decide) (hts _ wq_284) (fun _ h9 => h9) rfl hin rfl (by decide +kernel) rfl rfl (Nat.le_of_ble_eq_true rfl) dX5_init_80 (fun H locs hP hD hS => ?_)
  have hP : va_P D vwCl [(h0, .inr (5, [.null, .ref q7, .ref q15, .ref q23, .ref q31, .ref q39, .ref q47, .ref q55, .ref q63, .ref q71, .ref q78, .null, .int 0])), (q7, .inl (z 0, 6, .inl (fun _ => 0))), (q15, .inl (z 0, 6, .inl (fun _ => 0))), (q23, .inl (z 0, 6, .inl (fun _ => 0))), (q31, .inl (z 0, 6, .inl (fun _ => 0))), (q39, .inl (z 0, 6, .inl (fun _ => 0))), (q47, .inl (z 0, 6, .inl (fun _ => 0))), (q55, .inl (z 0, 6, .inl (fun _ => 0))), (q63, .inl (z 0, 6, .inl (fun _ => 0))), (q71, .inl (z 0, 6, .inl (fun _ => 0))), (q78, .inl (z 0, 3, .inl (fun _ => 0)))] H := hP
  have hD : va_D A [(h0, .inr (5, [.null, .ref q7, .ref q15, .ref q23, .ref q31, .ref q39, .ref q47, .ref q55, .ref q63, .ref q71, .ref q78, .null, .int 0])), (q7, .inl (z 0, 6, .inl (fun _ => 0))), (q15, .inl (z 0, 6, .inl (fun _ => 0))), (q23, .inl (z 0, 6, .inl (fun _ => 0))), (q31, .inl (z 0, 6, .inl (fun _ => 0))), (q39, .inl (z 0, 6, .inl (fun _ => 0))), (q47, .inl (z 0, 6, .inl (fun _ => 0))), (q55, .inl (z 0, 6, .inl (fun _ => 0))), (q63, .inl (z 0, 6, .inl (fun _ => 0))), (q71, .inl (z 0, 6, .inl (fun _ => 0))), (q78, .inl (z 0, 3, .inl (fun _ => 0)))] := hD
  refine lv_aload_n hx hb dX5_init_83 rfl (lv_at hl 0 rfl) ?_
  refine lv_iconst (v := 3) hx hb dX5_init_84 (by decide +kernel) ?_
  refine nw_a 0 (ty := .int) rfl hx hb (atype := .int) (N' := 3) (a0 := (3, .inl (fun _ => 0))) (hts _ wn_int) rfl (fun C h => by cases h) hK hP hD hS hA (fun _ => rfl) (by decide +kernel) (by decide +kernel) (Nat.le_of_ble_eq_true rfl) (Nat.le_of_ble_eq_true rfl) (Nat.le_of_ble_eq_true rfl) dX5_init_85 (fun q85 H hP hD hS => ?_)
  have hP : va_P D vwCl [(h0, .inr (5, [.null, .ref q7, .ref q15, .ref q23, .ref q31, .ref q39, .ref q47, .ref q55, .ref q63, .ref q71, .ref q78, .null, .int 0])), (q7, .inl (z 0, 6, .inl (fun _ => 0))), (q15, .inl (z 0, 6, .inl (fun _ => 0))), (q23, .inl (z 0, 6, .inl (fun _ => 0))), (q31, .inl (z 0, 6, .inl (fun _ => 0))), (q39, .inl (z 0, 6, .inl (fun _ => 0))), (q47, .inl (z 0, 6, .inl (fun _ => 0))), (q55, .inl (z 0, 6, .inl (fun _ => 0))), (q63, .inl (z 0, 6, .inl (fun _ => 0))), (q71, .inl (z 0, 6, .inl (fun _ => 0))), (q78, .inl (z 0, 3, .inl (fun _ => 0))), (q85, .inl (z 0, 3, .inl (fun _ => 0)))] H := hP
  have hD : va_D A [(h0, .inr (5, [.null, .ref q7, .ref q15, .ref q23, .ref q31, .ref q39, .ref q47, .ref q55, .ref q63, .ref q71, .ref q78, .null, .int 0])), (q7, .inl (z 0, 6, .inl (fun _ => 0))), (q15, .inl (z 0, 6, .inl (fun _ => 0))), (q23, .inl (z 0, 6, .inl (fun _ => 0))), (q31, .inl (z 0, 6, .inl (fun _ => 0))), (q39, .inl (z 0, 6, .inl (fun _ => 0))), (q47, .inl (z 0, 6, .inl (fun _ => 0))), (q55, .inl (z 0, 6, .inl (fun _ => 0))), (q63, .inl (z 0, 6, .inl (fun _ => 0))), (q71, .inl (z 0, 6, .inl (fun _ => 0))), (q78, .inl (z 0, 3, .inl (fun _ => 0))), (q85, .inl (z 0, 3, .inl (fun _ => 0)))] := hD
  refine va_putF (D := D) (ci := 5) (v := .ref q85) (ty := .array .int) (C := RX5) (T := TX5) (N := 13) hx hb hts inGX5 tyX5 tyX5_ok nmX5 hown hK hP hD hS 0 rfl rfl 11 (by decide) (hts _ wq_285) (fun _ h9 => h9) rfl hin rfl (by decide +kernel) rfl rfl (Nat.le_of_ble_eq_true rfl) dX5_init_87 (fun H locs hP hD hS => ?_)
  have hP : va_P D vwCl [(h0, .inr (5, [.null, .ref q7, .ref q15, .ref q23, .ref q31, .ref q39, .ref q47, .ref q55, .ref q63, .ref q71, .ref q78, .ref q85, .int 0])), (q7, .inl (z 0, 6, .inl (fun _ => 0))), (q15, .inl (z 0, 6, .inl (fun _ => 0))), (q23, .inl (z 0, 6, .inl (fun _ => 0))), (q31, .inl (z 0, 6, .inl (fun _ => 0))), (q39, .inl (z 0, 6, .inl (fun _ => 0))), (q47, .inl (z 0, 6, .inl (fun _ => 0))), (q55, .inl (z 0, 6, .inl (fun _ => 0))), (q63, .inl (z 0, 6, .inl (fun _ => 0))), (q71, .inl (z 0, 6, .inl (fun _ => 0))), (q78, .inl (z 0, 3, .inl (fun _ => 0))), (q85, .inl (z 0, 3, .inl (fun _ => 0)))] H := hP
  have hD : va_D A [(h0, .inr (5, [.null, .ref q7, .ref q15, .ref q23, .ref q31, .ref q39, .ref q47, .ref q55, .ref q63, .ref q71, .ref q78, .ref q85, .int 0])), (q7, .inl (z 0, 6, .inl (fun _ => 0))), (q15, .inl (z 0, 6, .inl (fun _ => 0))), (q23, .inl (z 0, 6, .inl (fun _ => 0))), (q31, .inl (z 0, 6, .inl (fun _ => 0))), (q39, .inl (z 0, 6, .inl (fun _ => 0))), (q47, .inl (z 0, 6, .inl (fun _ => 0))), (q55, .inl (z 0, 6, .inl (fun _ => 0))), (q63, .inl (z 0, 6, .inl (fun _ => 0))), (q71, .inl (z 0, 6, .inl (fun _ => 0))), (q78, .inl (z 0, 3, .inl (fun _ => 0))), (q85, .inl (z 0, 3, .inl (fun _ => 0)))] := hD
  refine lv_aload_n hx hb dX5_init_90 rfl (lv_at hl 0 rfl) ?_
  refine lv_aload_n hx hb dX5_init_91 rfl (lv_at hl 1 rfl) ?_
  refine va_putF (D := D) (ci := 5) (v := .ref f0) (ty := .object "ForgeScheduler$Forge") (C := RX5) (T := TX5) (N := 13) hx hb hts inGX5 tyX5 tyX5_ok nmX5 hown hK hP hD hS 0 rfl rfl 0 (by decide) (hts _ wq_268) (fun _ h9 => h9) rfl hin rfl (by decide +kernel) rfl rfl (Nat.le_of_ble_eq_true rfl) dX5_init_92 (fun H locs hP hD hS => ?_)
  have hP : va_P D vwCl [(h0, .inr (5, [.ref f0, .ref q7, .ref q15, .ref q23, .ref q31, .ref q39, .ref q47, .ref q55, .ref q63, .ref q71, .ref q78, .ref q85, .int 0])), (q7, .inl (z 0, 6, .inl (fun _ => 0))), (q15, .inl (z 0, 6, .inl (fun _ => 0))), (q23, .inl (z 0, 6, .inl (fun _ => 0))), (q31, .inl (z 0, 6, .inl (fun _ => 0))), (q39, .inl (z 0, 6, .inl (fun _ => 0))), (q47, .inl (z 0, 6, .inl (fun _ => 0))), (q55, .inl (z 0, 6, .inl (fun _ => 0))), (q63, .inl (z 0, 6, .inl (fun _ => 0))), (q71, .inl (z 0, 6, .inl (fun _ => 0))), (q78, .inl (z 0, 3, .inl (fun _ => 0))), (q85, .inl (z 0, 3, .inl (fun _ => 0)))] H := hP
  have hD : va_D A [(h0, .inr (5, [.ref f0, .ref q7, .ref q15, .ref q23, .ref q31, .ref q39, .ref q47, .ref q55, .ref q63, .ref q71, .ref q78, .ref q85, .int 0])), (q7, .inl (z 0, 6, .inl (fun _ => 0))), (q15, .inl (z 0, 6, .inl (fun _ => 0))), (q23, .inl (z 0, 6, .inl (fun _ => 0))), (q31, .inl (z 0, 6, .inl (fun _ => 0))), (q39, .inl (z 0, 6, .inl (fun _ => 0))), (q47, .inl (z 0, 6, .inl (fun _ => 0))), (q55, .inl (z 0, 6, .inl (fun _ => 0))), (q63, .inl (z 0, 6, .inl (fun _ => 0))), (q71, .inl (z 0, 6, .inl (fun _ => 0))), (q78, .inl (z 0, 3, .inl (fun _ => 0))), (q85, .inl (z 0, 3, .inl (fun _ => 0)))] := hD
  exact W.vret hx hb hr (fun t ht hW => ⟨⟨fun j => ([h0, q7, q15, q23, q31, q39, q47, q55, q63, q71, q78, q85, f0] : List Nat).getD j 0, rfl, ⟨rfl, rfl⟩, by rw [ht]; exact hP, hD⟩, hS.F ht⟩) hS.2.2 dX5_init_95 hlocks
