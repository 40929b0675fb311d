/-! queries of the run -/
section QUE
variable {x : Nat → Int32} {n : Nat} {ρ : Nat → Mm} {σX σM : Mm} {F : Fg}
theorem w481 (y : Int32) : (0 ≤ y ∧ y ≤ 480) ↔ inb y 481 = true := (within_iff (k := 481) (by decide)).trans (inb_out (by decide)).symm
theorem w480 (y : Int32) : (0 ≤ y ∧ y ≤ 479) ↔ inb y 480 = true := (within_iff (k := 480) (by decide)).trans (inb_out (by decide)).symm
theorem sp_isMin (y : Int32) (σ : Mm) : f_X6_isMinute [.inl y] σ = some (some (some (.inl (if inb y 480 = true then 1 else 0))), σ) := by
  rw [e_X6_isMinute, sp_isWithin, onI_s]
  by_cases h : inb y 480 = true
  · rw [if_pos ((w480 y).mpr h), if_pos h, if_pos (Or.inr rfl)]
  · rw [if_neg (fun h9 => h ((w480 y).mp h9)), if_neg h, if_pos (Or.inl rfl)]
theorem sp_w481 (y : Int32) (σ : Mm) : f_X6_isWithin [.inl y, .inl 0, .inl 480] σ = some (some (some (.inl (if inb y 481 = true then 1 else 0))), σ) := by
  rw [sp_isWithin]
  by_cases h : inb y 481 = true
  · rw [if_pos ((w481 y).mpr h), if_pos h]
  · rw [if_neg (fun h9 => h ((w481 y).mp h9)), if_neg h]
theorem sm_481 (y : Int32) (A B : Option Ou) : (if y < 0 then A else if 480 < y then A else B) = if inb y 481 = true then B else A := by
  by_cases h1 : y < 0
  · rw [if_pos h1, if_neg (fun h9 => ((lt_inb (by decide)).mpr h9).1 h1)]
  · rw [if_neg h1]
    obtain ⟨t, ht, rfl⟩ := nI_of h1
    by_cases h2 : t < 481
    · rw [if_neg (show ¬ (480 : Int32) < nI t from nI_nlt (a := 480) (by omega) (by omega)), if_pos (inb_nI h2 (by decide))]
    · rw [if_pos (show (480 : Int32) < nI t from nI_lt (a := 480) (by omega) ht), if_neg (fun h9 => ?_)]
      exact nI_nlt (a := t) (b := 481) (by omega) ht ((lt_inb (by decide)).mpr h9).2
theorem sm_480 (y : Int32) (A B : Option Ou) : (if y < 0 then A else if y < 480 then B else A) = if inb y 480 = true then B else A := by
  by_cases h1 : y < 0
  · rw [if_pos h1, if_neg (fun h9 => ((lt_inb (by decide)).mpr h9).1 h1)]
  · rw [if_neg h1]
    by_cases h2 : y < 480
    · rw [if_pos h2, if_pos ((lt_inb (k := 480) (by decide)).mp ⟨h1, h2⟩)]
    · rw [if_neg h2, if_neg (fun h9 => h2 ((lt_inb (k := 480) (by decide)).mpr h9).2)]
theorem gg_18 (h : St n ρ σX σM F) : go_18 x n ρ σX σM Inv := by
  have hO := h.1.1
  have h6 := hO.1
  unfold go_18 GT
  rw [e_X6_finishOf, sp_reqIron hO.1 h.1.2.1.1, e_X7_finishOf, sm_isIron hO.1 h.1.2.2.1.1, onI_s, sm_checks, onI_s]
  by_cases hi : inb (x 1) (F 0 0) = true
  · left
    obtain ⟨i, hi9, e9⟩ := (inb_out (by omega)).mp hi
    obtain ⟨σX', a1, a2, a3⟩ := st_log h
    obtain ⟨σM', b1, b2, b3, b4, b5⟩ := st_run (st_thr 0 a2)
    simp only [if_pos hi, onV_s]
    rw [a1, onA_s, if_neg (show ¬ (1 : Int32) = 0 by decide), b1, onV_s, e9]
    refine ⟨_, σX', σM', by rw [if_pos (inb_nI (by omega) (by decide)), nI_clamp (by omega)], ?_, by rw [b4]; exact wr_same, F, b2⟩
    have e1 : σX' 27 i = _ := ((wl_xr a3).2.1 i hi9).2.2.2.2.1
    rw [if_pos (inb_nI (by omega) (by decide)), nI_clamp (by omega), e1, (b3.2.2.2 i hi9).1]
  · right
    simp only [if_neg hi, onV_t]
    exact ⟨0, σX, wr σM 0 0 1, rfl, rfl, wr_same, F, st_thr 1 h⟩
theorem gg_22 (h : St n ρ σX σM F) : go_22 x n ρ σX σM Inv := by
  have hO := h.1.1
  have h6 := hO.1
  unfold go_22 GT
  rw [e_X6_coldStops, sp_reqIron hO.1 h.1.2.1.1, e_X7_coldStops, sm_isIron hO.1 h.1.2.2.1.1, onI_s, sm_checks, onI_s]
  by_cases hi : inb (x 1) (F 0 0) = true
  · left
    obtain ⟨i, hi9, e9⟩ := (inb_out (by omega)).mp hi
    obtain ⟨σX', a1, a2, a3⟩ := st_log h
    obtain ⟨σM', b1, b2, b3, b4, b5⟩ := st_run (st_thr 0 a2)
    simp only [if_pos hi, onV_s]
    rw [a1, onA_s, if_neg (show ¬ (1 : Int32) = 0 by decide), b1, onV_s, e9]
    refine ⟨_, σX', σM', by rw [if_pos (inb_nI (by omega) (by decide)), nI_clamp (by omega)], ?_, by rw [b4]; exact wr_same, F, b2⟩
    have e1 : σX' 28 i = _ := ((wl_xr a3).2.1 i hi9).2.2.2.2.2.1
    rw [if_pos (inb_nI (by omega) (by decide)), nI_clamp (by omega), e1, (b3.2.2.2 i hi9).2.1]
  · right
    simp only [if_neg hi, onV_t]
    exact ⟨0, σX, wr σM 0 0 1, rfl, rfl, wr_same, F, st_thr 1 h⟩
theorem gg_23 (h : St n ρ σX σM F) : go_23 x n ρ σX σM Inv := by
  have hO := h.1.1
  have h6 := hO.1
  unfold go_23 GT
  rw [e_X6_heats, sp_reqIron hO.1 h.1.2.1.1, e_X7_heats, sm_isIron hO.1 h.1.2.2.1.1, onI_s, sm_checks, onI_s]
  by_cases hi : inb (x 1) (F 0 0) = true
  · left
    obtain ⟨i, hi9, e9⟩ := (inb_out (by omega)).mp hi
    obtain ⟨σX', a1, a2, a3⟩ := st_log h
    obtain ⟨σM', b1, b2, b3, b4, b5⟩ := st_run (st_thr 0 a2)
    simp only [if_pos hi, onV_s]
    rw [a1, onA_s, if_neg (show ¬ (1 : Int32) = 0 by decide), b1, onV_s, e9]
    refine ⟨_, σX', σM', by rw [if_pos (inb_nI (by omega) (by decide)), nI_clamp (by omega)], ?_, by rw [b4]; exact wr_same, F, b2⟩
    have e1 : σX' 29 i = _ := ((wl_xr a3).2.1 i hi9).2.2.2.2.2.2.1
    rw [if_pos (inb_nI (by omega) (by decide)), nI_clamp (by omega), e1, (b3.2.2.2 i hi9).2.2]
  · right
    simp only [if_neg hi, onV_t]
    exact ⟨0, σX, wr σM 0 0 1, rfl, rfl, wr_same, F, st_thr 1 h⟩
theorem gg_19 (h : St n ρ σX σM F) : go_19 x n ρ σX σM Inv := by
  have hO := h.1.1
  have h6 := hO.1
  unfold go_19 GT
  rw [e_X6_heatAfter, sp_reqIron hO.1 h.1.2.1.1, e_X7_heatAfter, sm_isIron hO.1 h.1.2.2.1.1, onI_s, sm_checks, onI_s]
  by_cases hi : inb (x 1) (F 0 0) = true
  · left
    obtain ⟨i, hi9, e9⟩ := (inb_out (by omega)).mp hi
    simp only [if_pos hi, onV_s]
    rw [sp_w481, onI_s, pp0, if_neg (show ¬ (1 : Int32) = 0 by decide), sm_481]
    by_cases hm : inb (x 2) 481 = true
    · obtain ⟨u, hu, e8⟩ := (inb_out (by decide)).mp hm
      obtain ⟨σX', a1, a2, a3⟩ := st_log h
      obtain ⟨σM', b1, b2, b3, b4, b5⟩ := st_run (st_thr 0 a2)
      rw [if_pos hm, if_pos hm, if_neg (show ¬ (1 : Int32) = 0 by decide), a1, onA_s, b1, onV_s, e9, e8, e_X3_heatOf, ni481, if_pos (inb_nI (by omega) (by decide)), onI_s, putC_id, nI_clamp (by omega), wl_h a3 hi9 (by omega), ni6, if_pos (inb_nI (by omega) (by decide)), nI_clamp (by omega), b3.1 i hi9 u (by omega)]
      exact ⟨_, σX', σM', rfl, rfl, by rw [b4]; exact wr_same, F, b2⟩
    · rw [if_neg hm, if_neg hm, if_pos rfl]
      exact ⟨-2, σX, wr σM 0 0 0, rfl, rfl, wr_same, F, st_thr 0 h⟩
  · right
    simp only [if_neg hi, onV_t]
    exact ⟨0, σX, wr σM 0 0 1, rfl, rfl, wr_same, F, st_thr 1 h⟩
theorem gg_20 (h : St n ρ σX σM F) : go_20 x n ρ σX σM Inv := by
  have hO := h.1.1
  have h6 := hO.1
  unfold go_20 GT
  rw [e_X6_whereIn, sp_reqIron hO.1 h.1.2.1.1, e_X7_whereIn, sm_isIron hO.1 h.1.2.2.1.1, onI_s, sm_checks, onI_s]
  by_cases hi : inb (x 1) (F 0 0) = true
  · left
    obtain ⟨i, hi9, e9⟩ := (inb_out (by omega)).mp hi
    simp only [if_pos hi, onV_s]
    rw [sp_isMin, onI_s, pp0, if_neg (show ¬ (1 : Int32) = 0 by decide), sm_480]
    by_cases hm : inb (x 2) 480 = true
    · obtain ⟨u, hu, e8⟩ := (inb_out (by decide)).mp hm
      obtain ⟨σX', a1, a2, a3⟩ := st_log h
      obtain ⟨σM', b1, b2, b3, b4, b5⟩ := st_run (st_thr 0 a2)
      rw [if_pos hm, if_pos hm, if_neg (show ¬ (1 : Int32) = 0 by decide), a1, onA_s, b1, onV_s, e9, e8, e_X3_spotOf, ni480, if_pos (inb_nI (by omega) (by decide)), onI_s, putC_id, nI_clamp (by omega), wl_s a3 hi9 (by omega), ni6, if_pos (inb_nI (by omega) (by decide)), nI_clamp (by omega), b3.2.2.1 i hi9 u (by omega)]
      exact ⟨_, σX', σM', rfl, rfl, by rw [b4]; exact wr_same, F, b2⟩
    · rw [if_neg hm, if_neg hm, if_pos rfl]
      exact ⟨-2, σX, wr σM 0 0 0, rfl, rfl, wr_same, F, st_thr 0 h⟩
  · right
    simp only [if_neg hi, onV_t]
    exact ⟨0, σX, wr σM 0 0 1, rfl, rfl, wr_same, F, st_thr 1 h⟩
theorem gg_21 (h : St n ρ σX σM F) : go_21 x n ρ σX σM Inv := by
  have hO := h.1.1
  have h6 := hO.1
  unfold go_21 GT
  rw [e_X6_stepsAfter, sp_reqIron hO.1 h.1.2.1.1, e_X7_stepsAfter, sm_isIron hO.1 h.1.2.2.1.1, onI_s, sm_checks, onI_s]
  by_cases hi : inb (x 1) (F 0 0) = true
  · left
    obtain ⟨i, hi9, e9⟩ := (inb_out (by omega)).mp hi
    simp only [if_pos hi, onV_s]
    rw [sp_w481, onI_s, pp0, if_neg (show ¬ (1 : Int32) = 0 by decide), sm_481]
    by_cases hm : inb (x 2) 481 = true
    · obtain ⟨u, hu, e8⟩ := (inb_out (by decide)).mp hm
      obtain ⟨σX', a1, a2, a3⟩ := st_log h
      obtain ⟨σM', b1, b2, b3, b4, b5⟩ := st_run (st_thr 0 a2)
      rw [if_pos hm, if_pos hm, if_neg (show ¬ (1 : Int32) = 0 by decide), a1, onA_s, b1, onV_s, e9, e8, e_X3_stepsOf, ni481, if_pos (inb_nI (by omega) (by decide)), onI_s, putC_id, nI_clamp (by omega), wl_d a3 hi9 (by omega), ni6, if_pos (inb_nI (by omega) (by decide)), nI_clamp (by omega), b3.2.1 i hi9 u (by omega)]
      exact ⟨_, σX', σM', rfl, rfl, by rw [b4]; exact wr_same, F, b2⟩
    · rw [if_neg hm, if_neg hm, if_pos rfl]
      exact ⟨-2, σX, wr σM 0 0 0, rfl, rfl, wr_same, F, st_thr 0 h⟩
  · right
    simp only [if_neg hi, onV_t]
    exact ⟨0, σX, wr σM 0 0 1, rfl, rfl, wr_same, F, st_thr 1 h⟩
theorem st_ends {bo : List Nat} {P wo : Nat} {F' : Fg} (h : St n ρ σX σM F) {σ1 : Mm} (hO : OkF F') (hK : Kp F' bo) (hC : MC σ1 F' bo P wo) (g : ∀ c, (1 ≤ c ∧ c ≤ 6) ∨ (15 ≤ c ∧ c ≤ 21) → σ1 c = σM c) (g0 : ∀ j, j ≠ 0 → j ≠ 21 → j ≠ 22 → j ≠ 23 → σ1 0 j = σM 0 j) : ∃ σM', f_X7_ends [.inr (.inl 0)] σ1 = some (some (some (.inl (opI (fnA F' 480)))), σM') ∧ St n ρ σX σM' F ∧ σM' 0 0 = σ1 0 0 ∧ Fxm σ1 σM' := by
  obtain ⟨σM', a1, a2⟩ := mf_ends hO hK hC
  refine ⟨σM', a1, st_m h (fun c hc => ?_) (fun j h0 h1 h2 h3 => ?_), a2 0 0 (by omega), a2⟩
  · rw [← g c hc]
    funext j
    exact a2 c j (by omega)
  · rw [a2 0 j (by omega), g0 j h0 h1 h2 h3]
theorem st_ord (h : St n ρ σX σM F) (v : Int32) : ∃ σ1, f_X7_orders [.inr (.inl 0)] (wr σM 0 0 v) = some (some none, σ1) ∧ MC σ1 F (orL F) (F 0 1) 9 ∧ (∀ c, (1 ≤ c ∧ c ≤ 6) ∨ (15 ≤ c ∧ c ≤ 21) → σ1 c = σM c) ∧ (∀ j, j ≠ 0 → j ≠ 21 → j ≠ 22 → j ≠ 23 → σ1 0 j = σM 0 j) ∧ σ1 0 0 = v ∧ Ov (σ1 7) (F 0 0) (F 10) := by
  obtain ⟨σ1, a1, a2, a3⟩ := mf_orders h.1.1 (σ := wr σM 0 0 v) h.1.2.2.1
  refine ⟨σ1, a1, a2, fun c hc => ?_, fun j h0 h1 h2 h3 => ?_, ?_, ?_⟩
  · funext j
    rw [a3 c j (by omega) (by omega), wr_cell (by omega)]
  · rw [a3 0 j (by decide) (fun _ => ⟨h1, h2, h3⟩), wr_place h0]
  · rw [a3 0 0 (by decide) (fun _ => by decide), wr_same]
  · have := a2.1.2.2.1
    intro i hi
    have key : ∀ (c j : Nat), BoL (σ1 7) j (orF F j c) → ∀ i, j ≤ i → i < j + c → σ1 7 i = nI (F 10 i) := by
      intro c
      induction c with
      | zero => intro j _ i h1 h2; omega
      | succ c ih =>
        intro j hb i h1 h2
        by_cases e : i = j
        · rw [e]; exact hb.1
        · exact ih (j + 1) hb.2 i (by omega) (by omega)
    exact key _ _ this i (by omega) (by omega)
theorem gg_17 (h : St n ρ σX σM F) : go_17 x n ρ σX σM Inv := by
  unfold go_17 GP
  obtain ⟨σX', a1, a2, a3⟩ := st_log h
  obtain ⟨σ1, b1, b2, b3, b4, b5, -⟩ := st_ord a2 0
  obtain ⟨σM', c1, c2, c3, -⟩ := st_ends a2 h.1.1 (kp_all F) b2 b3 b4
  rw [e_X6_finish, a1, onA_s, xf_endm h.1.1 (wl_xr a3) (ti_rn h.1.1 480) (by decide), onI_s, putC_id, e_X7_finish, b1, onV_s, c1, onI_s]
  exact ⟨_, σX', σM', rfl, rfl, F, c2⟩
end QUE
