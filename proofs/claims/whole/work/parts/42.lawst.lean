theorem wq_105 : Cond.classLink "ForgeSchedulerLaw" 8 "ForgeScheduler" ∈ gtb := List.mem_filter.mpr ⟨List.mem_of_getElem? (i := 105) (by decide +kernel), rfl⟩
theorem wq_106 : Cond.instantiable "ForgeScheduler" 9 ∈ gtb := List.mem_filter.mpr ⟨List.mem_of_getElem? (i := 106) (by decide +kernel), rfl⟩
theorem wq_109 : Cond.code ⟨"ForgeScheduler", "<init>", "()V"⟩ prog_1_method_1_code 1 none ∈ gtb := List.mem_filter.mpr ⟨List.mem_of_getElem? (i := 109) (by decide +kernel), rfl⟩
theorem wq_107 : Cond.methodLink "ForgeSchedulerLaw" 103 ⟨"ForgeScheduler", "<init>", "()V"⟩ ∈ gtb := List.mem_filter.mpr ⟨List.mem_of_getElem? (i := 107) (by decide +kernel), rfl⟩
theorem wq_108 : Cond.instanceMethod ⟨"ForgeScheduler", "<init>", "()V"⟩ ∈ gtb := List.mem_filter.mpr ⟨List.mem_of_getElem? (i := 108) (by decide +kernel), rfl⟩
theorem wq_1160 : Cond.classLink "ForgeSchedulerLaw" 104 "ForgeSchedulerModel" ∈ gtb := List.mem_filter.mpr ⟨List.mem_of_getElem? (i := 1160) (by decide +kernel), rfl⟩
theorem wq_1161 : Cond.instantiable "ForgeSchedulerModel" 42 ∈ gtb := List.mem_filter.mpr ⟨List.mem_of_getElem? (i := 1161) (by decide +kernel), rfl⟩
theorem wq_1164 : Cond.code ⟨"ForgeSchedulerModel", "<init>", "()V"⟩ prog_9_method_1_code 1 none ∈ gtb := List.mem_filter.mpr ⟨List.mem_of_getElem? (i := 1164) (by decide +kernel), rfl⟩
theorem wq_1162 : Cond.methodLink "ForgeSchedulerLaw" 106 ⟨"ForgeSchedulerModel", "<init>", "()V"⟩ ∈ gtb := List.mem_filter.mpr ⟨List.mem_of_getElem? (i := 1162) (by decide +kernel), rfl⟩
theorem wq_1163 : Cond.instanceMethod ⟨"ForgeSchedulerModel", "<init>", "()V"⟩ ∈ gtb := List.mem_filter.mpr ⟨List.mem_of_getElem? (i := 1163) (by decide +kernel), rfl⟩
set_option maxHeartbeats 4000000 in
set_option maxRecDepth 100000 in
theorem law_start {p : Program} {e : Env} {s : State} {m : MethodId} {below : List Frame} {meth : Method} {c : Code} (l : Launch) (hflags : l.flags = flags0) {b L : Nat} {xs : Nat → Int32} (hL3 : L ≤ 3072) (C0 : lw_At p s m meth c b L xs) {I : Iv} {σ2 : Mm} {ρ : Nat → Mm} (hrn : rn t_X7_tail [] 1 182 [(0, .inr (.inl 0))] [] mmM0 = some (some none, σ2)) (hI0 : I 0 ρ mmX σ2) (hI12 : ∀ n ρ σX σM, I n ρ σX σM → n ≤ 12) (hgo : ∀ (k : Nat) (x : Nat → Int32) (n : Nat) (ρ : Nat → Mm) (σX σM : Mm), I n ρ σX σM → Go k x n ρ σX σM I) : W p l e room_1 s m #[Value.ref b] below meth c s.heap [] 0 0 (lw_Z below #[Value.ref b] s) (entryFrame m ([Value.ref b] : List Value).toArray 7) := by
  obtain ⟨hx, hb, hr, hml, hown, hts0, hX, hbl, hlk, hgv⟩ := id C0
  have hl9 : l.stackTraces = false := by unfold Launch.stackTraces; rw [hflags]; decide +kernel
  obtain ⟨ts, hSt⟩ := start_sta hts0 hgv
  obtain ⟨D, z, hK⟩ := start_K hts0
  have hts : ∀ w ∈ gtb, w.before #[Value.ref b] s = true := fun w hw => hts0 w (List.mem_filter.mp hw).1
  have hF : Fn p s m #[Value.ref b] c D z ts s.heap.size (fun q => s.heap.size ≤ q) RL cL_law 7 := ⟨hx, hb, hml, hown, hts, hK, fun _ h => h, fun _ h => h, hSt⟩
  have hA : ∀ q : Nat, s.heap.size ≤ q → (fun q : Nat => s.heap.size ≤ q) q := fun _ h => h
  have hS : va_S (fun q : Nat => s.heap.size ≤ q) s.heap s.heap [] := va_S.rf
  have hP : va_P D vwCl [] s.heap := fun k q h => by simp at h
  have hD : va_D (fun q : Nat => s.heap.size ≤ q) [] := ⟨fun i j p q h => by simp at h, fun k q h => by simp at h⟩
  have hl := lv_entry ([.ref b]) (n := 7) (Nat.le_of_ble_eq_true rfl)
  rw [lg_entry_eq]
  generalize (lg_sl ([.ref b]) ++ List.replicate (7 - (lg_sl ([.ref b])).length) Slot.unset).toArray = ls at hl ⊢
  have hl : lv_has ls 7 [(0, .ref b)] := hl
  refine va_new (ci := 6) (fs := [.null, .null, .null, .null, .null, .null, .null, .int 0, .int 0]) (C := RX6) (T := TX6) (N := 9) hx hb hts inGX6 tyX6 tyX6_ok hown (hts _ wq_105) (hts _ wq_106) (hts _ wq_87) hK hP hD hS hA rfl (by decide +kernel) (Nat.le_of_ble_eq_true rfl) (Nat.le_of_ble_eq_true rfl) dL_law_0 (fun q H hP hD hS => ?_)
  refine lv_dup hx hb dL_law_3 rfl ?_
  refine ini_c (As := []) (rest := [.ref q]) (W0 := []) (w1 := fun a => wT z layX a (ktl z a 0 ρ) mmX) (q := q) (n := 0) hF (ci_X6 l D z ts s.heap.size q H.size ρ) hP hD hS wq_109 wq_107 wq_108 wq_87 rfl (by decide +kernel) ⟨Nat.le_of_ble_eq_true rfl, Nat.le_of_ble_eq_true rfl⟩ rfl hl.1 (Nat.le_of_ble_eq_true rfl) dL_law_4 ⟨Nat.le_of_ble_eq_true rfl, Nat.le_of_ble_eq_true rfl⟩ (fun a H9 locs9 ha hP9 hD9 hS9 => ?_)
  clear hP hD hS
  subst ha
  refine lv_astore_n hx hb dL_law_7 rfl hl (by decide) rfl (fun ls1 hl => ?_)
  refine va_new (ci := 7) (fs := [.int 0, .null, .int 0, .null, .null, .null, .null, .null, .int 0, .int 0, .int 0, .int 0, .int 0, .int 0, .int 0, .int 0, .int 0, .int 0, .int 0, .int 0, .null, .int 0, .int 0, .int 0, .null, .null, .null, .null, .null, .null, .null, .null, .null, .null, .null, .null, .null, .int 0, .int 0, .null, .int 0, .int 0]) (C := RX7) (T := TX7) (N := 42) hx hb hts inGX7 tyX7 tyX7_ok hown (hts _ wq_1160) (hts _ wq_1161) (hts _ wq_95) hK hP9 hD9 hS9 hA rfl (by decide +kernel) (Nat.le_of_ble_eq_true rfl) (Nat.le_of_ble_eq_true rfl) dL_law_8 (fun q7 H hP hD hS => ?_)
  clear hP9 hD9 hS9
  refine lv_dup hx hb dL_law_11 rfl ?_
  refine ini_c (As := []) (rest := [.ref q7]) (W0 := [] ++ wT z layX a (ktl z a 0 ρ) mmX) (w1 := fun a => wT z layM a [] σ2) (q := q7) (n := 0) hF (ci_X7 l D z ts s.heap.size q7 H.size σ2 hrn) hP hD hS wq_1164 wq_1162 wq_1163 wq_95 rfl (by decide +kernel) ⟨Nat.le_of_ble_eq_true rfl, Nat.le_of_ble_eq_true rfl⟩ rfl hl.1 (Nat.le_of_ble_eq_true rfl) dL_law_12 ⟨Nat.le_of_ble_eq_true rfl, Nat.le_of_ble_eq_true rfl⟩ (fun aM H9 locs9 ha hP9 hD9 hS9 => ?_)
  clear hP hD hS
  subst ha
  refine lv_astore_n hx hb dL_law_15 rfl hl (by decide) rfl (fun ls2 hl => ?_)
  refine lv_iconst (v := 1) hx hb dL_law_16 (by decide) ?_
  refine nw_a 3 (ty := .long) rfl hx hb (atype := .long) (N' := 1) (a0 := (1, .inr (.inl (fun _ => 0)))) (hts0 _ tb_al) rfl (fun C h => by cases h) hK hP9 hD9 hS9 hA (fun _ => rfl) (by decide +kernel) (by decide +kernel) (Nat.le_of_ble_eq_true rfl) (Nat.le_of_ble_eq_true rfl) (Nat.le_of_ble_eq_true rfl) dL_law_17 (fun o H hP hD hS => ?_)
  clear hP9 hD9 hS9
  refine lv_astore_n hx hb dL_law_19 rfl hl (by decide) rfl (fun ls3 hl => ?_)
  refine lv_iconst (v := 0) hx hb dL_law_20 (by decide) ?_
  refine lv_istore hx hb dL_law_21 hl (by decide) rfl (fun ls4 hl => ?_)
  have hl : lv_has ls4 7 [(4, .int 0), (3, .ref o), (2, .ref (aM 0)), (1, .ref (a 0)), (0, .ref b)] := hl
  have hl : lv_has ls4 7 [(0, .ref b), (1, .ref (a 0)), (2, .ref (aM 0)), (3, .ref o), (4, .int (Int32.ofNat 0))] := lv_sb9 hl (by intro q hq; simp only [List.mem_cons, List.not_mem_nil, or_false] at hq ⊢; rcases hq with h | h | h | h | h <;> simp [h])
  have hpm : (([] ++ wT z layX a (ktl z a 0 ρ) mmX ++ wT z layM aM [] σ2) ++ wO z o (fun _ => 0)).Perm (LwS z a 0 ρ mmX aM σ2 o (fun _ => 0)) := by
    unfold LwS wO
    generalize wT z layX a (ktl z a 0 ρ) mmX = P1
    generalize wT z layM aM [] σ2 = P2
    have inst : DecidableEq (Nat × va_E) := fun a b => Classical.propDecidable _
    rw [List.perm_iff_count]
    intro x
    simp only [List.count_append, List.nil_append]
    omega
  have hP := P_perm hpm hP
  have hD := D_perm hpm hD
  refine W.widen (k := 92) (n := 20924) (Nat.le_of_ble_eq_true rfl) (Nat.le_of_ble_eq_true rfl) ?_
  have hend : ∀ (H : Heap) (locs : List Loc) (ls : Array Slot) (cells slots : Nat), va_S (fun q => s.heap.size ≤ q) s.heap H locs → cells ≤ 601024 ∧ slots ≤ 7293034 → W p l e roomL s m #[Value.ref b] below meth c H locs cells slots (lw_Z below #[Value.ref b] s) (F0 m 2694 ls [.int 1]) := fun H locs ls cells slots hS hbu => va_forget hS.2.2 (W.widen hbu.1 hbu.2 (lw_ret hx hb hr hlk dL_law_2694))
  have hkn : Kn p l e s m below meth c D z b aM o (lw_Z below #[Value.ref b] s) I 23 0 (L / 6 + 1) := law_loop hl9 hI12 ⟨hF, hX, hbl, hL3⟩ hgo hend (L / 6 + 1) 0 (by omega) (Nat.zero_le _)
  have hbud : 92 + 11 * (12 - 0) + (L / 6 + 1) ≤ 601024 ∧ 20924 + 111 * (12 - 0) + 6 * (L / 6 + 1) ≤ 7293034 := by omega
  have hfin := hkn 0 ρ mmX σ2 a (fun _ => 0) H _ ls4 92 20924 hI0 hP hD hS hl hbud
  refine W.eq (g2 := F0 m 23 ls4 []) rfl ?_
  exact hfin

