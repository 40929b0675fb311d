theorem wq_110 : Cond.methodLink "ForgeScheduler" 1 ⟨"java/lang/Object", "<init>", "()V"⟩ ∈ gtb := List.mem_filter.mpr ⟨List.mem_of_getElem? (i := 110) (by decide +kernel), rfl⟩
theorem wq_113 : Cond.classLink "ForgeScheduler" 7 "ForgeScheduler$Forge" ∈ gtb := List.mem_filter.mpr ⟨List.mem_of_getElem? (i := 113) (by decide +kernel), rfl⟩
theorem wq_115 : Cond.methodLink "ForgeScheduler" 9 ⟨"ForgeScheduler$Forge", "<init>", "()V"⟩ ∈ gtb := List.mem_filter.mpr ⟨List.mem_of_getElem? (i := 115) (by decide +kernel), rfl⟩
theorem wq_190 : Cond.classLink "ForgeScheduler" 16 "ForgeScheduler$Changes" ∈ gtb := List.mem_filter.mpr ⟨List.mem_of_getElem? (i := 190) (by decide +kernel), rfl⟩
theorem wq_191 : Cond.instantiable "ForgeScheduler$Changes" 3 ∈ gtb := List.mem_filter.mpr ⟨List.mem_of_getElem? (i := 191) (by decide +kernel), rfl⟩
theorem wq_193 : Cond.instanceMethod ⟨"ForgeScheduler$Changes", "<init>", "()V"⟩ ∈ gtb := List.mem_filter.mpr ⟨List.mem_of_getElem? (i := 193) (by decide +kernel), rfl⟩
theorem wq_194 : Cond.code ⟨"ForgeScheduler$Changes", "<init>", "()V"⟩ prog_3_method_1_code 1 none ∈ gtb := List.mem_filter.mpr ⟨List.mem_of_getElem? (i := 194) (by decide +kernel), rfl⟩
theorem wq_209 : Cond.classLink "ForgeScheduler" 23 "ForgeScheduler$Reader" ∈ gtb := List.mem_filter.mpr ⟨List.mem_of_getElem? (i := 209) (by decide +kernel), rfl⟩
theorem wq_210 : Cond.instantiable "ForgeScheduler$Reader" 11 ∈ gtb := List.mem_filter.mpr ⟨List.mem_of_getElem? (i := 210) (by decide +kernel), rfl⟩
theorem wq_212 : Cond.instanceMethod ⟨"ForgeScheduler$Reader", "<init>", "()V"⟩ ∈ gtb := List.mem_filter.mpr ⟨List.mem_of_getElem? (i := 212) (by decide +kernel), rfl⟩
theorem wq_213 : Cond.code ⟨"ForgeScheduler$Reader", "<init>", "()V"⟩ prog_6_method_1_code 1 none ∈ gtb := List.mem_filter.mpr ⟨List.mem_of_getElem? (i := 213) (by decide +kernel), rfl⟩
theorem wq_256 : Cond.classLink "ForgeScheduler" 30 "ForgeScheduler$Log" ∈ gtb := List.mem_filter.mpr ⟨List.mem_of_getElem? (i := 256) (by decide +kernel), rfl⟩
theorem wq_257 : Cond.instantiable "ForgeScheduler$Log" 5 ∈ gtb := List.mem_filter.mpr ⟨List.mem_of_getElem? (i := 257) (by decide +kernel), rfl⟩
theorem wq_258 : Cond.methodLink "ForgeScheduler" 32 ⟨"ForgeScheduler$Log", "<init>", "(LForgeScheduler$Forge;)V"⟩ ∈ gtb := List.mem_filter.mpr ⟨List.mem_of_getElem? (i := 258) (by decide +kernel), rfl⟩
theorem wq_259 : Cond.instanceMethod ⟨"ForgeScheduler$Log", "<init>", "(LForgeScheduler$Forge;)V"⟩ ∈ gtb := List.mem_filter.mpr ⟨List.mem_of_getElem? (i := 259) (by decide +kernel), rfl⟩
theorem wq_260 : Cond.code ⟨"ForgeScheduler$Log", "<init>", "(LForgeScheduler$Forge;)V"⟩ prog_5_method_1_code 2 none ∈ gtb := List.mem_filter.mpr ⟨List.mem_of_getElem? (i := 260) (by decide +kernel), rfl⟩
theorem wq_331 : Cond.classLink "ForgeScheduler" 39 "ForgeScheduler$BestOrder" ∈ gtb := List.mem_filter.mpr ⟨List.mem_of_getElem? (i := 331) (by decide +kernel), rfl⟩
theorem wq_332 : Cond.instantiable "ForgeScheduler$BestOrder" 3 ∈ gtb := List.mem_filter.mpr ⟨List.mem_of_getElem? (i := 332) (by decide +kernel), rfl⟩
theorem wq_334 : Cond.instanceMethod ⟨"ForgeScheduler$BestOrder", "<init>", "()V"⟩ ∈ gtb := List.mem_filter.mpr ⟨List.mem_of_getElem? (i := 334) (by decide +kernel), rfl⟩
theorem wq_335 : Cond.code ⟨"ForgeScheduler$BestOrder", "<init>", "()V"⟩ prog_2_method_1_code 1 none ∈ gtb := List.mem_filter.mpr ⟨List.mem_of_getElem? (i := 335) (by decide +kernel), rfl⟩
theorem wq_350 : Cond.classLink "ForgeScheduler" 49 "ForgeScheduler$Run" ∈ gtb := List.mem_filter.mpr ⟨List.mem_of_getElem? (i := 350) (by decide +kernel), rfl⟩
theorem wq_351 : Cond.methodLink "ForgeScheduler" 51 ⟨"ForgeScheduler$Run", "<init>", "(LForgeScheduler$Forge;)V"⟩ ∈ gtb := List.mem_filter.mpr ⟨List.mem_of_getElem? (i := 351) (by decide +kernel), rfl⟩
theorem dX6_init_0 : decode cX6_init 0 = .ok (.aload_n 0, 1) := by decide +kernel
theorem dX6_init_1 : decode cX6_init 1 = .ok (.invokespecial 1, 3) := by decide +kernel
theorem dX6_init_4 : decode cX6_init 4 = .ok (.aload_n 0, 1) := by decide +kernel
theorem dX6_init_5 : decode cX6_init 5 = .ok (.new 7, 3) := by decide +kernel
theorem dX6_init_8 : decode cX6_init 8 = .ok (.dup, 1) := by decide +kernel
theorem dX6_init_9 : decode cX6_init 9 = .ok (.invokespecial 9, 3) := by decide +kernel
theorem dX6_init_12 : decode cX6_init 12 = .ok (.putfield 10, 3) := by decide +kernel
theorem dX6_init_15 : decode cX6_init 15 = .ok (.aload_n 0, 1) := by decide +kernel
theorem dX6_init_16 : decode cX6_init 16 = .ok (.new 16, 3) := by decide +kernel
theorem dX6_init_19 : decode cX6_init 19 = .ok (.dup, 1) := by decide +kernel
theorem dX6_init_20 : decode cX6_init 20 = .ok (.invokespecial 18, 3) := by decide +kernel
theorem dX6_init_23 : decode cX6_init 23 = .ok (.putfield 19, 3) := by decide +kernel
theorem dX6_init_26 : decode cX6_init 26 = .ok (.aload_n 0, 1) := by decide +kernel
theorem dX6_init_27 : decode cX6_init 27 = .ok (.new 23, 3) := by decide +kernel
theorem dX6_init_30 : decode cX6_init 30 = .ok (.dup, 1) := by decide +kernel
theorem dX6_init_31 : decode cX6_init 31 = .ok (.invokespecial 25, 3) := by decide +kernel
theorem dX6_init_34 : decode cX6_init 34 = .ok (.putfield 26, 3) := by decide +kernel
theorem dX6_init_37 : decode cX6_init 37 = .ok (.aload_n 0, 1) := by decide +kernel
theorem dX6_init_38 : decode cX6_init 38 = .ok (.new 30, 3) := by decide +kernel
theorem dX6_init_41 : decode cX6_init 41 = .ok (.dup, 1) := by decide +kernel
theorem dX6_init_42 : decode cX6_init 42 = .ok (.aload_n 0, 1) := by decide +kernel
theorem dX6_init_43 : decode cX6_init 43 = .ok (.getfield 10, 3) := by decide +kernel
theorem dX6_init_46 : decode cX6_init 46 = .ok (.invokespecial 32, 3) := by decide +kernel
theorem dX6_init_49 : decode cX6_init 49 = .ok (.putfield 35, 3) := by decide +kernel
theorem dX6_init_52 : decode cX6_init 52 = .ok (.aload_n 0, 1) := by decide +kernel
theorem dX6_init_53 : decode cX6_init 53 = .ok (.new 39, 3) := by decide +kernel
theorem dX6_init_56 : decode cX6_init 56 = .ok (.dup, 1) := by decide +kernel
theorem dX6_init_57 : decode cX6_init 57 = .ok (.invokespecial 41, 3) := by decide +kernel
theorem dX6_init_60 : decode cX6_init 60 = .ok (.putfield 42, 3) := by decide +kernel
theorem dX6_init_63 : decode cX6_init 63 = .ok (.aload_n 0, 1) := by decide +kernel
theorem dX6_init_64 : decode cX6_init 64 = .ok (.new 7, 3) := by decide +kernel
theorem dX6_init_67 : decode cX6_init 67 = .ok (.dup, 1) := by decide +kernel
theorem dX6_init_68 : decode cX6_init 68 = .ok (.invokespecial 9, 3) := by decide +kernel
theorem dX6_init_71 : decode cX6_init 71 = .ok (.putfield 46, 3) := by decide +kernel
theorem dX6_init_74 : decode cX6_init 74 = .ok (.aload_n 0, 1) := by decide +kernel
theorem dX6_init_75 : decode cX6_init 75 = .ok (.new 49, 3) := by decide +kernel
theorem dX6_init_78 : decode cX6_init 78 = .ok (.dup, 1) := by decide +kernel
theorem dX6_init_79 : decode cX6_init 79 = .ok (.aload_n 0, 1) := by decide +kernel
theorem dX6_init_80 : decode cX6_init 80 = .ok (.getfield 46, 3) := by decide +kernel
theorem dX6_init_83 : decode cX6_init 83 = .ok (.invokespecial 51, 3) := by decide +kernel
theorem dX6_init_86 : decode cX6_init 86 = .ok (.putfield 52, 3) := by decide +kernel
theorem dX6_init_89 : decode cX6_init 89 = .ok (.aload_n 0, 1) := by decide +kernel
theorem dX6_init_90 : decode cX6_init 90 = .ok (.iconst 0, 1) := by decide +kernel
theorem dX6_init_91 : decode cX6_init 91 = .ok (.putfield 56, 3) := by decide +kernel
theorem dX6_init_94 : decode cX6_init 94 = .ok (.aload_n 0, 1) := by decide +kernel
theorem dX6_init_95 : decode cX6_init 95 = .ok (.iconst 0, 1) := by decide +kernel
theorem dX6_init_96 : decode cX6_init 96 = .ok (.putfield 60, 3) := by decide +kernel
theorem dX6_init_99 : decode cX6_init 99 = .ok (.return_, 1) := by decide +kernel
set_option maxHeartbeats 4000000 in
set_option maxRecDepth 100000 in
theorem ci_X6 (l : Launch) (D : va_G) (z : Nat → ClassId) (ts : Nat → Nat) (z0 h0 sz : Nat) (ρ : Nat → Mm) : Met l yX6_init (.code yX6_init cX6_init 1 none :: gtb) (rmD 3 68 10074) (va_Pc [.ref h0] (Pr D z ts z0 [(h0, .inr (6, [.null, .null, .null, .null, .null, .null, .null, .int 0, .int 0]))] sz)) (va_Qv (fun a : Nat → Nat => a 0 = h0) (fun a t => va_P D vwCl (wT z layX a (ktl z a 0 ρ) mmX) t.heap ∧ va_D (va_A [(h0, .inr (6, [.null, .null, .null, .null, .null, .null, .null, .int 0, .int 0]))] sz) (wT z layX a (ktl z a 0 ρ) mmX)) (va_A [(h0, .inr (6, [.null, .null, .null, .null, .null, .null, .null, .int 0, .int 0]))] sz)) 68 10074 (va_A [(h0, .inr (6, [.null, .null, .null, .null, .null, .null, .null, .int 0, .int 0]))] sz) := by
  refine Met.ofW (cc := cX6_init) (maxL := 1) (ret := none) (by decide) rfl ?_
  intro p e s m args below meth c s₁ B hml hv
  obtain ⟨rfl, hsz, hP, hK, hD0, hz, hSt⟩ := hv
  have hx := B.exec
  have hb := B.bytes
  have hr := B.returns
  have hat := atoms_spec (ws := .code yX6_init cX6_init 1 none :: gtb) B.pre
  have hts := fun w hw => hat w (List.mem_cons_of_mem _ hw)
  have hown : s.vm.findClass RX6 = some m.cls := findClass_of_methodNamed B.named
  have hlocks := B.notSynchronized
  have hin : meth.name = "<init>" := (name_of_methodNamed B.named B.method).1
  subst hsz
  have hD := hD0.self (sz := s.heap.size)
  have hA0 : ∀ q, va_A [(h0, .inr (6, [.null, .null, .null, .null, .null, .null, .null, .int 0, .int 0]))] s.heap.size q → z0 ≤ q := by
    rintro q (⟨k9, e9, hk9⟩ | h9)
    · exact hD0.2 k9 _ hk9
    · exact Nat.le_trans hz h9
  generalize hAe : va_A [(h0, .inr (6, [.null, .null, .null, .null, .null, .null, .null, .int 0, .int 0]))] s.heap.size = A at hD hA0 ⊢
  have hA : ∀ q : Nat, s.heap.size ≤ q → A q := fun q h => by rw [← hAe]; exact Or.inr h
  have hS : va_S A s.heap s.heap [] := va_S.rf
  have hl := lv_entry ([.ref h0]) (n := 1) (Nat.le_of_ble_eq_true rfl)
  rw [lg_entry_eq]
  generalize (lg_sl ([.ref h0]) ++ List.replicate (1 - (lg_sl ([.ref h0])).length) Slot.unset).toArray = ls at hl ⊢
  have hl : lv_has ls 1 [(0, .ref h0)] := hl
  refine lv_aload_n hx hb dX6_init_0 rfl (lv_at hl 0 rfl) ?_
  refine W.objInit hx hb hown (hts _ wq_110) (hts _ wn_objI) (hts _ wn_objC) rfl (by rw [hml]; exact hl.1) rfl dX6_init_1 (Nat.le_of_ble_eq_true rfl) (Nat.le_of_ble_eq_true rfl) ?_
  refine W.eq (g2 := F0 m 4 ls []) rfl ?_
  refine lv_aload_n hx hb dX6_init_4 rfl (lv_at hl 0 rfl) ?_
  refine va_new (ci := 2) (fs := [.int 0, .int 0, .null, .null, .null, .null, .null, .null, .null, .null, .null, .null]) (C := RX2) (T := TX2) (N := 12) hx hb hts inGX2 tyX2 tyX2_ok hown (hts _ wq_113) (hts _ wq_114) (hts _ wq_88) hK hP hD hS hA rfl (by decide +kernel) (Nat.le_of_ble_eq_true rfl) (Nat.le_of_ble_eq_true rfl) dX6_init_5 (fun q5 H hP hD hS => ?_)
  refine lv_dup hx hb dX6_init_8 rfl ?_
  refine ini_c (As := []) (rest := [.ref q5, .ref h0]) (W0 := [(h0, .inr (6, [.null, .null, .null, .null, .null, .null, .null, .int 0, .int 0]))]) (w1 := fun a => wT z layF a [] mmF) (q := q5) (n := 0) ⟨hx, hb, hml, hown, hts, hK, hA, hA0, hSt⟩ (ci_X2 l D z ts z0 q5 H.size) hP hD hS wq_117 wq_115 wq_116 wq_88 rfl (by decide +kernel) ⟨Nat.le_of_ble_eq_true rfl, Nat.le_of_ble_eq_true rfl⟩ rfl hl.1 (Nat.le_of_ble_eq_true rfl) dX6_init_9 ⟨Nat.le_of_ble_eq_true rfl, Nat.le_of_ble_eq_true rfl⟩ (fun a9 H9 locs9 ha hP9 hD9 hS9 => ?_)
  clear hP hD hS
  subst ha
  have hl : lv_has ls 1 [(0, .ref h0)] := hl
  have hP : va_P D vwCl ([(h0, .inr (6, [.null, .null, .null, .null, .null, .null, .null, .int 0, .int 0]))] ++ wT z layF a9 [] mmF) H9 := hP9
  have hD : va_D A ([(h0, .inr (6, [.null, .null, .null, .null, .null, .null, .null, .int 0, .int 0]))] ++ wT z layF a9 [] mmF) := hD9
  have hS := hS9
  refine va_putF (D := D) (ci := 6) (v := .ref (a9 0)) (ty := .object "ForgeScheduler$Forge") (C := RX6) (T := TX6) (N := 9) hx hb hts inGX6 tyX6 tyX6_ok nmX6 hown hK hP hD hS 0 rfl rfl 0 (by decide) (hts _ wq_352) (fun _ h9 => h9) rfl hin rfl (by decide +kernel) rfl rfl (Nat.le_of_ble_eq_true rfl) dX6_init_12 (fun H locs hP hD hS => ?_)
  have hP : va_P D vwCl ([(h0, .inr (6, [.ref (a9 0), .null, .null, .null, .null, .null, .null, .int 0, .int 0]))] ++ wT z layF a9 [] mmF) H := hP
  have hD : va_D A ([(h0, .inr (6, [.ref (a9 0), .null, .null, .null, .null, .null, .null, .int 0, .int 0]))] ++ wT z layF a9 [] mmF) := hD
  refine lv_aload_n hx hb dX6_init_15 rfl (lv_at hl 0 rfl) ?_
  refine va_new (ci := 1) (fs := [.null, .int 0, .int 0]) (C := RX1) (T := TX1) (N := 3) hx hb hts inGX1 tyX1 tyX1_ok hown (hts _ wq_190) (hts _ wq_191) (hts _ wq_90) hK hP hD hS hA rfl (by decide +kernel) (Nat.le_of_ble_eq_true rfl) (Nat.le_of_ble_eq_true rfl) dX6_init_16 (fun q16 H hP hD hS => ?_)
  refine lv_dup hx hb dX6_init_19 rfl ?_
  refine ini_cn (As := []) (rest := [.ref q16, .ref h0]) (W0 := ([(h0, .inr (6, [.ref (a9 0), .null, .null, .null, .null, .null, .null, .int 0, .int 0]))] ++ wT z layF a9 [] mmF)) (w1 := fun a => wK z a) (q := q16) (n := 0) (host := "ForgeScheduler") ⟨hx, hb, hml, hown, hts, hK, hA, hA0, hSt⟩ (ci_X1 l D z ts z0 q16 H.size) hP hD hS wq_194 (fun U h => h.2.2.2.2.1) wq_193 wq_90 rfl (by decide +kernel) ⟨Nat.le_of_ble_eq_true rfl, Nat.le_of_ble_eq_true rfl⟩ rfl hl.1 (Nat.le_of_ble_eq_true rfl) dX6_init_20 ⟨Nat.le_of_ble_eq_true rfl, Nat.le_of_ble_eq_true rfl⟩ (fun a20 H9 locs9 ha hP9 hD9 hS9 => ?_)
  clear hP hD hS
  subst ha
  have hl : lv_has ls 1 [(0, .ref h0)] := hl
  have hP : va_P D vwCl (([(h0, .inr (6, [.ref (a9 0), .null, .null, .null, .null, .null, .null, .int 0, .int 0]))] ++ wT z layF a9 [] mmF) ++ wK z a20) H9 := hP9
  have hD : va_D A (([(h0, .inr (6, [.ref (a9 0), .null, .null, .null, .null, .null, .null, .int 0, .int 0]))] ++ wT z layF a9 [] mmF) ++ wK z a20) := hD9
  have hS := hS9
  refine va_putF (D := D) (ci := 6) (v := .ref (a20 0)) (ty := .object "ForgeScheduler$Changes") (C := RX6) (T := TX6) (N := 9) hx hb hts inGX6 tyX6 tyX6_ok nmX6 hown hK hP hD hS 0 rfl rfl 1 (by decide) (hts _ wq_353) (fun _ h9 => h9) rfl hin rfl (by decide +kernel) rfl rfl (Nat.le_of_ble_eq_true rfl) dX6_init_23 (fun H locs hP hD hS => ?_)
  have hP : va_P D vwCl (([(h0, .inr (6, [.ref (a9 0), .ref (a20 0), .null, .null, .null, .null, .null, .int 0, .int 0]))] ++ wT z layF a9 [] mmF) ++ wK z a20) H := hP
  have hD : va_D A (([(h0, .inr (6, [.ref (a9 0), .ref (a20 0), .null, .null, .null, .null, .null, .int 0, .int 0]))] ++ wT z layF a9 [] mmF) ++ wK z a20) := hD
  refine lv_aload_n hx hb dX6_init_26 rfl (lv_at hl 0 rfl) ?_
  refine va_new (ci := 4) (fs := [.null, .null, .null, .int 0, .int 0, .int 0, .int 0, .int 0, .int 0, .int 0, .int 0]) (C := RX4) (T := TX4) (N := 11) hx hb hts inGX4 tyX4 tyX4_ok hown (hts _ wq_209) (hts _ wq_210) (hts _ wq_91) hK hP hD hS hA rfl (by decide +kernel) (Nat.le_of_ble_eq_true rfl) (Nat.le_of_ble_eq_true rfl) dX6_init_27 (fun q27 H hP hD hS => ?_)
  refine lv_dup hx hb dX6_init_30 rfl ?_
  refine ini_cn (As := []) (rest := [.ref q27, .ref h0]) (W0 := (([(h0, .inr (6, [.ref (a9 0), .ref (a20 0), .null, .null, .null, .null, .null, .int 0, .int 0]))] ++ wT z layF a9 [] mmF) ++ wK z a20)) (w1 := fun a => wT z layD a [] mmD) (q := q27) (n := 0) (host := "ForgeScheduler") ⟨hx, hb, hml, hown, hts, hK, hA, hA0, hSt⟩ (ci_X4 l D z ts z0 q27 H.size) hP hD hS wq_213 (fun U h => h.2.2.2.2.2.1) wq_212 wq_91 rfl (by decide +kernel) ⟨Nat.le_of_ble_eq_true rfl, Nat.le_of_ble_eq_true rfl⟩ rfl hl.1 (Nat.le_of_ble_eq_true rfl) dX6_init_31 ⟨Nat.le_of_ble_eq_true rfl, Nat.le_of_ble_eq_true rfl⟩ (fun a31 H9 locs9 ha hP9 hD9 hS9 => ?_)
  clear hP hD hS
  subst ha
  have hl : lv_has ls 1 [(0, .ref h0)] := hl
  have hP : va_P D vwCl ((([(h0, .inr (6, [.ref (a9 0), .ref (a20 0), .null, .null, .null, .null, .null, .int 0, .int 0]))] ++ wT z layF a9 [] mmF) ++ wK z a20) ++ wT z layD a31 [] mmD) H9 := hP9
  have hD : va_D A ((([(h0, .inr (6, [.ref (a9 0), .ref (a20 0), .null, .null, .null, .null, .null, .int 0, .int 0]))] ++ wT z layF a9 [] mmF) ++ wK z a20) ++ wT z layD a31 [] mmD) := hD9
  have hS := hS9
  refine va_putF (D := D) (ci := 6) (v := .ref (a31 0)) (ty := .object "ForgeScheduler$Reader") (C := RX6) (T := TX6) (N := 9) hx hb hts inGX6 tyX6 tyX6_ok nmX6 hown hK hP hD hS 0 rfl rfl 2 (by decide) (hts _ wq_354) (fun _ h9 => h9) rfl hin rfl (by decide +kernel) rfl rfl (Nat.le_of_ble_eq_true rfl) dX6_init_34 (fun H locs hP hD hS => ?_)
  have hP : va_P D vwCl ((([(h0, .inr (6, [.ref (a9 0), .ref (a20 0), .ref (a31 0), .null, .null, .null, .null, .int 0, .int 0]))] ++ wT z layF a9 [] mmF) ++ wK z a20) ++ wT z layD a31 [] mmD) H := hP
  have hD : va_D A ((([(h0, .inr (6, [.ref (a9 0), .ref (a20 0), .ref (a31 0), .null, .null, .null, .null, .int 0, .int 0]))] ++ wT z layF a9 [] mmF) ++ wK z a20) ++ wT z layD a31 [] mmD) := hD
  refine lv_aload_n hx hb dX6_init_37 rfl (lv_at hl 0 rfl) ?_
  refine va_new (ci := 3) (fs := [.null, .null, .null, .null, .null]) (C := RX3) (T := TX3) (N := 5) hx hb hts inGX3 tyX3 tyX3_ok hown (hts _ wq_256) (hts _ wq_257) (hts _ wq_92) hK hP hD hS hA rfl (by decide +kernel) (Nat.le_of_ble_eq_true rfl) (Nat.le_of_ble_eq_true rfl) dX6_init_38 (fun q38 H hP hD hS => ?_)
  refine lv_dup hx hb dX6_init_41 rfl ?_
  refine lv_aload_n hx hb dX6_init_42 rfl (lv_at hl 0 rfl) ?_
  refine va_get (D := D) (ci := 6) (v := .ref (a9 0)) (C := RX6) (T := TX6) (N := 9) hx hb hts inGX6 hown hK hP 0 rfl rfl 0 (by decide) (hts _ wq_352) (fun _ h9 => h9) rfl dX6_init_43 ?_
  refine ini_c (As := [.ref (a9 0)]) (rest := [.ref q38, .ref h0]) (W0 := ((([(h0, .inr (6, [.ref (a9 0), .ref (a20 0), .ref (a31 0), .null, .null, .null, .null, .int 0, .int 0]))] ++ wT z layF a9 [] mmF) ++ wK z a20) ++ wT z layD a31 [] mmD)) (w1 := fun a => wT z layL1 a [] mm0) (q := q38) (n := 1) ⟨hx, hb, hml, hown, hts, hK, hA, hA0, hSt⟩ (ci_X3 l D z ts z0 q38 H.size (a9 0)) hP hD hS wq_260 wq_258 wq_259 wq_92 rfl (by decide +kernel) ⟨Nat.le_of_ble_eq_true rfl, Nat.le_of_ble_eq_true rfl⟩ rfl hl.1 (Nat.le_of_ble_eq_true rfl) dX6_init_46 ⟨Nat.le_of_ble_eq_true rfl, Nat.le_of_ble_eq_true rfl⟩ (fun a46 H9 locs9 ha hP9 hD9 hS9 => ?_)
  clear hP hD hS
  obtain ⟨h9, hL8⟩ := ha
  subst h9
  have hl : lv_has ls 1 [(0, .ref h0)] := hl
  have hP : va_P D vwCl (((([(h0, .inr (6, [.ref (a9 0), .ref (a20 0), .ref (a31 0), .null, .null, .null, .null, .int 0, .int 0]))] ++ wT z layF a9 [] mmF) ++ wK z a20) ++ wT z layD a31 [] mmD) ++ wT z layL1 a46 [] mm0) H9 := hP9
  have hD : va_D A (((([(h0, .inr (6, [.ref (a9 0), .ref (a20 0), .ref (a31 0), .null, .null, .null, .null, .int 0, .int 0]))] ++ wT z layF a9 [] mmF) ++ wK z a20) ++ wT z layD a31 [] mmD) ++ wT z layL1 a46 [] mm0) := hD9
  have hS := hS9
  refine va_putF (D := D) (ci := 6) (v := .ref (a46 0)) (ty := .object "ForgeScheduler$Log") (C := RX6) (T := TX6) (N := 9) hx hb hts inGX6 tyX6 tyX6_ok nmX6 hown hK hP hD hS 0 rfl rfl 3 (by decide) (hts _ wq_355) (fun _ h9 => h9) rfl hin rfl (by decide +kernel) rfl rfl (Nat.le_of_ble_eq_true rfl) dX6_init_49 (fun H locs hP hD hS => ?_)
  have hP : va_P D vwCl (((([(h0, .inr (6, [.ref (a9 0), .ref (a20 0), .ref (a31 0), .ref (a46 0), .null, .null, .null, .int 0, .int 0]))] ++ wT z layF a9 [] mmF) ++ wK z a20) ++ wT z layD a31 [] mmD) ++ wT z layL1 a46 [] mm0) H := hP
  have hD : va_D A (((([(h0, .inr (6, [.ref (a9 0), .ref (a20 0), .ref (a31 0), .ref (a46 0), .null, .null, .null, .int 0, .int 0]))] ++ wT z layF a9 [] mmF) ++ wK z a20) ++ wT z layD a31 [] mmD) ++ wT z layL1 a46 [] mm0) := hD
  refine lv_aload_n hx hb dX6_init_52 rfl (lv_at hl 0 rfl) ?_
  refine va_new (ci := 0) (fs := [.null, .int 0, .int 0]) (C := RX0) (T := TX0) (N := 3) hx hb hts inGX0 tyX0 tyX0_ok hown (hts _ wq_331) (hts _ wq_332) (hts _ wq_94) hK hP hD hS hA rfl (by decide +kernel) (Nat.le_of_ble_eq_true rfl) (Nat.le_of_ble_eq_true rfl) dX6_init_53 (fun q53 H hP hD hS => ?_)
  refine lv_dup hx hb dX6_init_56 rfl ?_
  refine ini_cn (As := []) (rest := [.ref q53, .ref h0]) (W0 := (((([(h0, .inr (6, [.ref (a9 0), .ref (a20 0), .ref (a31 0), .ref (a46 0), .null, .null, .null, .int 0, .int 0]))] ++ wT z layF a9 [] mmF) ++ wK z a20) ++ wT z layD a31 [] mmD) ++ wT z layL1 a46 [] mm0)) (w1 := fun a => wT z layB1 a [] mm0) (q := q53) (n := 0) (host := "ForgeScheduler") ⟨hx, hb, hml, hown, hts, hK, hA, hA0, hSt⟩ (ci_X0 l D z ts z0 q53 H.size) hP hD hS wq_335 (fun U h => h.2.2.2.2.2.2.1) wq_334 wq_94 rfl (by decide +kernel) ⟨Nat.le_of_ble_eq_true rfl, Nat.le_of_ble_eq_true rfl⟩ rfl hl.1 (Nat.le_of_ble_eq_true rfl) dX6_init_57 ⟨Nat.le_of_ble_eq_true rfl, Nat.le_of_ble_eq_true rfl⟩ (fun a57 H9 locs9 ha hP9 hD9 hS9 => ?_)
  clear hP hD hS
  subst ha
  have hl : lv_has ls 1 [(0, .ref h0)] := hl
  have hP : va_P D vwCl ((((([(h0, .inr (6, [.ref (a9 0), .ref (a20 0), .ref (a31 0), .ref (a46 0), .null, .null, .null, .int 0, .int 0]))] ++ wT z layF a9 [] mmF) ++ wK z a20) ++ wT z layD a31 [] mmD) ++ wT z layL1 a46 [] mm0) ++ wT z layB1 a57 [] mm0) H9 := hP9
  have hD : va_D A ((((([(h0, .inr (6, [.ref (a9 0), .ref (a20 0), .ref (a31 0), .ref (a46 0), .null, .null, .null, .int 0, .int 0]))] ++ wT z layF a9 [] mmF) ++ wK z a20) ++ wT z layD a31 [] mmD) ++ wT z layL1 a46 [] mm0) ++ wT z layB1 a57 [] mm0) := hD9
  have hS := hS9
  refine va_putF (D := D) (ci := 6) (v := .ref (a57 0)) (ty := .object "ForgeScheduler$BestOrder") (C := RX6) (T := TX6) (N := 9) hx hb hts inGX6 tyX6 tyX6_ok nmX6 hown hK hP hD hS 0 rfl rfl 4 (by decide) (hts _ wq_356) (fun _ h9 => h9) rfl hin rfl (by decide +kernel) rfl rfl (Nat.le_of_ble_eq_true rfl) dX6_init_60 (fun H locs hP hD hS => ?_)
  have hP : va_P D vwCl ((((([(h0, .inr (6, [.ref (a9 0), .ref (a20 0), .ref (a31 0), .ref (a46 0), .ref (a57 0), .null, .null, .int 0, .int 0]))] ++ wT z layF a9 [] mmF) ++ wK z a20) ++ wT z layD a31 [] mmD) ++ wT z layL1 a46 [] mm0) ++ wT z layB1 a57 [] mm0) H := hP
  have hD : va_D A ((((([(h0, .inr (6, [.ref (a9 0), .ref (a20 0), .ref (a31 0), .ref (a46 0), .ref (a57 0), .null, .null, .int 0, .int 0]))] ++ wT z layF a9 [] mmF) ++ wK z a20) ++ wT z layD a31 [] mmD) ++ wT z layL1 a46 [] mm0) ++ wT z layB1 a57 [] mm0) := hD
  refine lv_aload_n hx hb dX6_init_63 rfl (lv_at hl 0 rfl) ?_
  refine va_new (ci := 2) (fs := [.int 0, .int 0, .null, .null, .null, .null, .null, .null, .null, .null, .null, .null]) (C := RX2) (T := TX2) (N := 12) hx hb hts inGX2 tyX2 tyX2_ok hown (hts _ wq_113) (hts _ wq_114) (hts _ wq_88) hK hP hD hS hA rfl (by decide +kernel) (Nat.le_of_ble_eq_true rfl) (Nat.le_of_ble_eq_true rfl) dX6_init_64 (fun q64 H hP hD hS => ?_)
  refine lv_dup hx hb dX6_init_67 rfl ?_
  refine ini_c (As := []) (rest := [.ref q64, .ref h0]) (W0 := ((((([(h0, .inr (6, [.ref (a9 0), .ref (a20 0), .ref (a31 0), .ref (a46 0), .ref (a57 0), .null, .null, .int 0, .int 0]))] ++ wT z layF a9 [] mmF) ++ wK z a20) ++ wT z layD a31 [] mmD) ++ wT z layL1 a46 [] mm0) ++ wT z layB1 a57 [] mm0)) (w1 := fun a => wT z layF a [] mmF) (q := q64) (n := 0) ⟨hx, hb, hml, hown, hts, hK, hA, hA0, hSt⟩ (ci_X2 l D z ts z0 q64 H.size) hP hD hS wq_117 wq_115 wq_116 wq_88 rfl (by decide +kernel) ⟨Nat.le_of_ble_eq_true rfl, Nat.le_of_ble_eq_true rfl⟩ rfl hl.1 (Nat.le_of_ble_eq_true rfl) dX6_init_68 ⟨Nat.le_of_ble_eq_true rfl, Nat.le_of_ble_eq_true rfl⟩ (fun a68 H9 locs9 ha hP9 hD9 hS9 => ?_)
  clear hP hD hS
  subst ha
  have hl : lv_has ls 1 [(0, .ref h0)] := hl
  have hP : va_P D vwCl (((((([(h0, .inr (6, [.ref (a9 0), .ref (a20 0), .ref (a31 0), .ref (a46 0), .ref (a57 0), .null, .null, .int 0, .int 0]))] ++ wT z layF a9 [] mmF) ++ wK z a20) ++ wT z layD a31 [] mmD) ++ wT z layL1 a46 [] mm0) ++ wT z layB1 a57 [] mm0) ++ wT z layF a68 [] mmF) H9 := hP9
  have hD : va_D A (((((([(h0, .inr (6, [.ref (a9 0), .ref (a20 0), .ref (a31 0), .ref (a46 0), .ref (a57 0), .null, .null, .int 0, .int 0]))] ++ wT z layF a9 [] mmF) ++ wK z a20) ++ wT z layD a31 [] mmD) ++ wT z layL1 a46 [] mm0) ++ wT z layB1 a57 [] mm0) ++ wT z layF a68 [] mmF) := hD9
  have hS := hS9
  refine va_putF (D := D) (ci := 6) (v := .ref (a68 0)) (ty := .object "ForgeScheduler$Forge") (C := RX6) (T := TX6) (N := 9) hx hb hts inGX6 tyX6 tyX6_ok nmX6 hown hK hP hD hS 0 rfl rfl 5 (by decide) (hts _ wq_357) (fun _ h9 => h9) rfl hin rfl (by decide +kernel) rfl rfl (Nat.le_of_ble_eq_true rfl) dX6_init_71 (fun H locs hP hD hS => ?_)
  have hP : va_P D vwCl (((((([(h0, .inr (6, [.ref (a9 0), .ref (a20 0), .ref (a31 0), .ref (a46 0), .ref (a57 0), .ref (a68 0), .null, .int 0, .int 0]))] ++ wT z layF a9 [] mmF) ++ wK z a20) ++ wT z layD a31 [] mmD) ++ wT z layL1 a46 [] mm0) ++ wT z layB1 a57 [] mm0) ++ wT z layF a68 [] mmF) H := hP
  have hD : va_D A (((((([(h0, .inr (6, [.ref (a9 0), .ref (a20 0), .ref (a31 0), .ref (a46 0), .ref (a57 0), .ref (a68 0), .null, .int 0, .int 0]))] ++ wT z layF a9 [] mmF) ++ wK z a20) ++ wT z layD a31 [] mmD) ++ wT z layL1 a46 [] mm0) ++ wT z layB1 a57 [] mm0) ++ wT z layF a68 [] mmF) := hD
  refine lv_aload_n hx hb dX6_init_74 rfl (lv_at hl 0 rfl) ?_
  refine va_new (ci := 5) (fs := [.null, .null, .null, .null, .null, .null, .null, .null, .null, .null, .null, .null, .int 0]) (C := RX5) (T := TX5) (N := 13) hx hb hts inGX5 tyX5 tyX5_ok hown (hts _ wq_350) (hts _ wq_263) (hts _ wq_93) hK hP hD hS hA rfl (by decide +kernel) (Nat.le_of_ble_eq_true rfl) (Nat.le_of_ble_eq_true rfl) dX6_init_75 (fun q75 H hP hD hS => ?_)
  refine lv_dup hx hb dX6_init_78 rfl ?_
  refine lv_aload_n hx hb dX6_init_79 rfl (lv_at hl 0 rfl) ?_
  refine va_get (D := D) (ci := 6) (v := .ref (a68 0)) (C := RX6) (T := TX6) (N := 9) hx hb hts inGX6 hown hK hP 0 rfl rfl 5 (by decide) (hts _ wq_357) (fun _ h9 => h9) rfl dX6_init_80 ?_
  refine ini_c (As := [.ref (a68 0)]) (rest := [.ref q75, .ref h0]) (W0 := (((((([(h0, .inr (6, [.ref (a9 0), .ref (a20 0), .ref (a31 0), .ref (a46 0), .ref (a57 0), .ref (a68 0), .null, .int 0, .int 0]))] ++ wT z layF a9 [] mmF) ++ wK z a20) ++ wT z layD a31 [] mmD) ++ wT z layL1 a46 [] mm0) ++ wT z layB1 a57 [] mm0) ++ wT z layF a68 [] mmF)) (w1 := fun a => wT z layR1 a [] mm0) (q := q75) (n := 1) ⟨hx, hb, hml, hown, hts, hK, hA, hA0, hSt⟩ (ci_X5 l D z ts z0 q75 H.size (a68 0)) hP hD hS wq_266 wq_351 wq_265 wq_93 rfl (by decide +kernel) ⟨Nat.le_of_ble_eq_true rfl, Nat.le_of_ble_eq_true rfl⟩ rfl hl.1 (Nat.le_of_ble_eq_true rfl) dX6_init_83 ⟨Nat.le_of_ble_eq_true rfl, Nat.le_of_ble_eq_true rfl⟩ (fun a83 H9 locs9 ha hP9 hD9 hS9 => ?_)
  clear hP hD hS
  obtain ⟨h9, hR8⟩ := ha
  subst h9
  have hl : lv_has ls 1 [(0, .ref h0)] := hl
  have hP : va_P D vwCl ((((((([(h0, .inr (6, [.ref (a9 0), .ref (a20 0), .ref (a31 0), .ref (a46 0), .ref (a57 0), .ref (a68 0), .null, .int 0, .int 0]))] ++ wT z layF a9 [] mmF) ++ wK z a20) ++ wT z layD a31 [] mmD) ++ wT z layL1 a46 [] mm0) ++ wT z layB1 a57 [] mm0) ++ wT z layF a68 [] mmF) ++ wT z layR1 a83 [] mm0) H9 := hP9
  have hD : va_D A ((((((([(h0, .inr (6, [.ref (a9 0), .ref (a20 0), .ref (a31 0), .ref (a46 0), .ref (a57 0), .ref (a68 0), .null, .int 0, .int 0]))] ++ wT z layF a9 [] mmF) ++ wK z a20) ++ wT z layD a31 [] mmD) ++ wT z layL1 a46 [] mm0) ++ wT z layB1 a57 [] mm0) ++ wT z layF a68 [] mmF) ++ wT z layR1 a83 [] mm0) := hD9
  have hS := hS9
  refine va_putF (D := D) (ci := 6) (v := .ref (a83 0)) (ty := .object "ForgeScheduler$Run") (C := RX6) (T := TX6) (N := 9) hx hb hts inGX6 tyX6 tyX6_ok nmX6 hown hK hP hD hS 0 rfl rfl 6 (by decide) (hts _ wq_358) (fun _ h9 => h9) rfl hin rfl (by decide +kernel) rfl rfl (Nat.le_of_ble_eq_true rfl) dX6_init_86 (fun H locs hP hD hS => ?_)
  have hP : va_P D vwCl ((((((([(h0, .inr (6, [.ref (a9 0), .ref (a20 0), .ref (a31 0), .ref (a46 0), .ref (a57 0), .ref (a68 0), .ref (a83 0), .int 0, .int 0]))] ++ wT z layF a9 [] mmF) ++ wK z a20) ++ wT z layD a31 [] mmD) ++ wT z layL1 a46 [] mm0) ++ wT z layB1 a57 [] mm0) ++ wT z layF a68 [] mmF) ++ wT z layR1 a83 [] mm0) H := hP
  have hD : va_D A ((((((([(h0, .inr (6, [.ref (a9 0), .ref (a20 0), .ref (a31 0), .ref (a46 0), .ref (a57 0), .ref (a68 0), .ref (a83 0), .int 0, .int 0]))] ++ wT z layF a9 [] mmF) ++ wK z a20) ++ wT z layD a31 [] mmD) ++ wT z layL1 a46 [] mm0) ++ wT z layB1 a57 [] mm0) ++ wT z layF a68 [] mmF) ++ wT z layR1 a83 [] mm0) := hD
  refine lv_aload_n hx hb dX6_init_89 rfl (lv_at hl 0 rfl) ?_
  refine lv_iconst (v := 0) hx hb dX6_init_90 (by decide +kernel) ?_
  refine va_put (D := D) (ci := 6) (v := .int 0) (ty := .boolean) (C := RX6) (T := TX6) (N := 9) hx hb hts inGX6 tyX6 tyX6_ok nmX6 hown hK hP hD hS 0 rfl rfl 7 (by decide) (hts _ wq_359) (fun _ h9 => h9) rfl (by decide +kernel) rfl rfl (Nat.le_of_ble_eq_true rfl) dX6_init_91 (fun H locs hP hD hS => ?_)
  have hP : va_P D vwCl ((((((([(h0, .inr (6, [.ref (a9 0), .ref (a20 0), .ref (a31 0), .ref (a46 0), .ref (a57 0), .ref (a68 0), .ref (a83 0), .int 0, .int 0]))] ++ wT z layF a9 [] mmF) ++ wK z a20) ++ wT z layD a31 [] mmD) ++ wT z layL1 a46 [] mm0) ++ wT z layB1 a57 [] mm0) ++ wT z layF a68 [] mmF) ++ wT z layR1 a83 [] mm0) H := hP
  have hD : va_D A ((((((([(h0, .inr (6, [.ref (a9 0), .ref (a20 0), .ref (a31 0), .ref (a46 0), .ref (a57 0), .ref (a68 0), .ref (a83 0), .int 0, .int 0]))] ++ wT z layF a9 [] mmF) ++ wK z a20) ++ wT z layD a31 [] mmD) ++ wT z layL1 a46 [] mm0) ++ wT z layB1 a57 [] mm0) ++ wT z layF a68 [] mmF) ++ wT z layR1 a83 [] mm0) := hD
  refine lv_aload_n hx hb dX6_init_94 rfl (lv_at hl 0 rfl) ?_
  refine lv_iconst (v := 0) hx hb dX6_init_95 (by decide +kernel) ?_
  refine va_put (D := D) (ci := 6) (v := .int 0) (ty := .boolean) (C := RX6) (T := TX6) (N := 9) hx hb hts inGX6 tyX6 tyX6_ok nmX6 hown hK hP hD hS 0 rfl rfl 8 (by decide) (hts _ wq_360) (fun _ h9 => h9) rfl (by decide +kernel) rfl rfl (Nat.le_of_ble_eq_true rfl) dX6_init_96 (fun H locs hP hD hS => ?_)
  have hP : va_P D vwCl ((((((([(h0, .inr (6, [.ref (a9 0), .ref (a20 0), .ref (a31 0), .ref (a46 0), .ref (a57 0), .ref (a68 0), .ref (a83 0), .int 0, .int 0]))] ++ wT z layF a9 [] mmF) ++ wK z a20) ++ wT z layD a31 [] mmD) ++ wT z layL1 a46 [] mm0) ++ wT z layB1 a57 [] mm0) ++ wT z layF a68 [] mmF) ++ wT z layR1 a83 [] mm0) H := hP
  have hD : va_D A ((((((([(h0, .inr (6, [.ref (a9 0), .ref (a20 0), .ref (a31 0), .ref (a46 0), .ref (a57 0), .ref (a68 0), .ref (a83 0), .int 0, .int 0]))] ++ wT z layF a9 [] mmF) ++ wK z a20) ++ wT z layD a31 [] mmD) ++ wT z layL1 a46 [] mm0) ++ wT z layB1 a57 [] mm0) ++ wT z layF a68 [] mmF) ++ wT z layR1 a83 [] mm0) := hD
  have e1 : a46 = (fun j => cond (Nat.beq j 16) (a9 0) (a46 j)) := by
    funext j
    cases h7 : Nat.beq j 16 with
    | false => rfl
    | true => rw [Nat.eq_of_beq_eq_true h7]; exact hL8
  have e2 : a83 = (fun j => cond (Nat.beq j 12) (a68 0) (a83 j)) := by
    funext j
    cases h7 : Nat.beq j 12 with
    | false => rfl
    | true => rw [Nat.eq_of_beq_eq_true h7]; exact hR8
  rw [wT_go, wT_go, wT_go, wT_go, wT_go, wT_go] at hP hD
  generalize hgP : wgo z a46 mm0 0 layL1 = wL at hP hD
  generalize hgR : wgo z a83 mm0 0 layR1 = wR at hP hD
  rw [e1] at hgP
  rw [e2] at hgR
  subst hgP
  subst hgR
  have hP9 := hP.sub (ws' := wgo z (fun j => cond (Nat.blt j 1) h0 (cond (Nat.blt j 2) (a20 0) (cond (Nat.blt j 16) (a31 (j - 2)) (cond (Nat.blt j 32) (a46 (j - 16)) (cond (Nat.blt j 43) (a9 (j - 32)) (cond (Nat.blt j 45) (a57 (j - 43)) (cond (Nat.blt j 57) (a83 (j - 45)) (cond (Nat.blt j 68) (a68 (j - 57)) (a20 1))))))))) mmX 0 layX ++ [(a20 1, .inl (z 4, 12, .inr (.inr (.inr (.inr (fun _ => none))))))]) [0, 12, 14, 15, 16, 17, 18, 19, 20, 21, 22, 23, 24, 25, 26, 27, 28, 29, 30, 31, 32, 33, 34, 35, 36, 37, 38, 39, 40, 41, 42, 43, 1, 2, 3, 4, 5, 6, 7, 8, 9, 10, 11, 44, 45, 57, 58, 59, 60, 61, 62, 63, 64, 65, 66, 67, 68, 46, 47, 48, 49, 50, 51, 52, 53, 54, 55, 56, 13] rfl
  have hD9 := hD.sub (ws' := wgo z (fun j => cond (Nat.blt j 1) h0 (cond (Nat.blt j 2) (a20 0) (cond (Nat.blt j 16) (a31 (j - 2)) (cond (Nat.blt j 32) (a46 (j - 16)) (cond (Nat.blt j 43) (a9 (j - 32)) (cond (Nat.blt j 45) (a57 (j - 43)) (cond (Nat.blt j 57) (a83 (j - 45)) (cond (Nat.blt j 68) (a68 (j - 57)) (a20 1))))))))) mmX 0 layX ++ [(a20 1, .inl (z 4, 12, .inr (.inr (.inr (.inr (fun _ => none))))))]) [0, 12, 14, 15, 16, 17, 18, 19, 20, 21, 22, 23, 24, 25, 26, 27, 28, 29, 30, 31, 32, 33, 34, 35, 36, 37, 38, 39, 40, 41, 42, 43, 1, 2, 3, 4, 5, 6, 7, 8, 9, 10, 11, 44, 45, 57, 58, 59, 60, 61, 62, 63, 64, 65, 66, 67, 68, 46, 47, 48, 49, 50, 51, 52, 53, 54, 55, 56, 13] (by decide) rfl
  rw [← wT_go] at hP9 hD9
  exact W.vret hx hb hr (fun t ht hW => ⟨⟨fun j => cond (Nat.blt j 1) h0 (cond (Nat.blt j 2) (a20 0) (cond (Nat.blt j 16) (a31 (j - 2)) (cond (Nat.blt j 32) (a46 (j - 16)) (cond (Nat.blt j 43) (a9 (j - 32)) (cond (Nat.blt j 45) (a57 (j - 43)) (cond (Nat.blt j 57) (a83 (j - 45)) (cond (Nat.blt j 68) (a68 (j - 57)) (a20 1)))))))), rfl, rfl, by rw [ht, ktl0]; exact hP9, by rw [ktl0]; exact hD9⟩, hS.F ht⟩) hS.2.2 dX6_init_99 hlocks
