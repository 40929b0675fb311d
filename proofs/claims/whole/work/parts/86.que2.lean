/-! queries by loops -/
section QUE2
variable {x : Nat → Int32} {n : Nat} {ρ : Nat → Mm} {σX σM : Mm} {F : Fg}
theorem told_0 {σM' : Mm} (h : St n ρ σX σM F) (g : ∀ c, 1 ≤ c → c ≤ 6 → σM' c = wr σM 0 0 0 c) : σM' 2 18 = nI (F 0 0) := by
  rw [g 2 (by omega) (by omega), wr_cell (by decide)]
  exact h.1.2.2.1.1
theorem bq_hot {l σ : Mm} (h : WL l F 480) (hR : RR σ F) (hO : OkF F) {k : Nat} (hk : k < F 0 0) : ∀ (c t N N' : Nat) (y : Int32), t + c = 481 → c < N → c < N' → ∃ r, b_X3_greatestHeat_5 N (nI k) y (nI t) l = some (some (some (.inl r)), l) ∧ b_X7_hottest_23 N' (nI k) y (nI t) σ = some (some (some (.inl r)), σ) := by
  have h6 := hO.1
  intro c
  induction c with
  | zero =>
    intro t N N' y ht hN hN'
    obtain ⟨N, rfl⟩ : ∃ N', N = N' + 1 := ⟨N - 1, by omega⟩
    obtain ⟨N', rfl⟩ : ∃ N1, N' = N1 + 1 := ⟨N' - 1, by omega⟩
    obtain rfl : t = 481 := by omega
    refine ⟨y, ?_, ?_⟩
    · rw [e_X3_greatestHeat_5, if_pos (show (480 : Int32) < nI 481 by decide)]
    · rw [e_X7_hottest_23, if_pos (show (480 : Int32) < nI 481 by decide)]
  | succ c ih =>
    intro t N N' y ht hN hN'
    obtain ⟨N, rfl⟩ : ∃ N', N = N' + 1 := ⟨N - 1, by omega⟩
    obtain ⟨N', rfl⟩ : ∃ N1, N' = N1 + 1 := ⟨N' - 1, by omega⟩
    have hlt : ¬ (480 : Int32) < nI t := nI_nlt (a := 480) (by omega) (by omega)
    obtain ⟨r, w1, w2⟩ := ih (t + 1) N N' (if y < nI (rnA F t 0 k) then nI (rnA F t 0 k) else y) (by omega) (by omega) (by omega)
    refine ⟨r, ?_, ?_⟩
    · rw [e_X3_greatestHeat_5, if_neg hlt, xq_heat h hO hk (by omega), onI_s, nI_1]
      exact w1
    · rw [e_X7_hottest_23, if_neg hlt, ni6, if_pos (inb_nI (by omega) (by decide)), nI_clamp (by omega), hR.1 k hk t (by omega), nI_1]
      exact w2
theorem mq_open {σ : Mm} (hR : RR σ F) (hO : OkF F) {k u : Nat} (hk : k < F 0 0) (hu : u ≤ 480) : f_X7_isOpen [.inr (.inl 0), .inl (nI k), .inl (nI u)] σ = some (some (some (.inl (if rnA F u 2 k < F 4 k then 1 else 0))), σ) := by
  have h6 := hO.1
  have hi : inb (nI k) 6 = true := inb_nI (by omega) (by decide)
  have hle := ((si_rn hO u).1 k hk).1
  have ht := dn_time hO hk hu
  have hf := fin_le hO hk
  rw [e_X7_isOpen, if_pos hi, nI_clamp (by omega), (hR.2.2.2 k hk).1]
  by_cases h0 : rnA F 480 4 k = 0
  · rw [h0, if_pos (show nI 0 - 1 = -1 from rfl), if_pos (by omega)]
  · have e1 : nI (rnA F 480 4 k) - 1 = nI (rnA F 480 4 k - 1) := nI_sub (b := 1) (by omega)
    rw [e1, if_neg (ne_m1 (by omega)), if_pos hi]
    by_cases h1 : u < rnA F 480 4 k - 1
    · rw [if_pos (nI_lt h1 (by omega)), if_pos (by omega)]
    · rw [if_neg (nI_nlt (by omega) (by omega)), if_neg (by omega)]
theorem bq_rack {l σ : Mm} (h : WL l F 480) (hR : RR σ F) (hO : OkF F) {k : Nat} (hk : k < F 0 0) : ∀ (c t N N' : Nat) (y : Int32), t + c = 480 → c < N → c < N' → ∃ r, b_X3_minutesOnRack_5 N (nI k) (nI (F 4 k)) y (nI t) l = some (some (some (.inl r)), l) ∧ b_X7_rackMinutes_22 N' (nI k) y (nI t) σ = some (some (some (.inl r)), σ) := by
  have h6 := hO.1
  intro c
  induction c with
  | zero =>
    intro t N N' y ht hN hN'
    obtain ⟨N, rfl⟩ : ∃ N', N = N' + 1 := ⟨N - 1, by omega⟩
    obtain ⟨N', rfl⟩ : ∃ N1, N' = N1 + 1 := ⟨N' - 1, by omega⟩
    obtain rfl : t = 480 := by omega
    refine ⟨y, ?_, ?_⟩
    · rw [e_X3_minutesOnRack_5, if_neg (show ¬ nI 480 < 480 by decide)]
    · rw [e_X7_rackMinutes_22, if_neg (show ¬ nI 480 < 480 by decide)]
  | succ c ih =>
    intro t N N' y ht hN hN'
    obtain ⟨N, rfl⟩ : ∃ N', N = N' + 1 := ⟨N - 1, by omega⟩
    obtain ⟨N', rfl⟩ : ∃ N1, N' = N1 + 1 := ⟨N' - 1, by omega⟩
    have hlt : nI t < 480 := nI_lt (b := 480) (by omega) (by decide)
    have hl := mv_loc hO t hk
    have hle := ((si_rn hO t).1 k hk).1
    have h5 := (hO.2.2.1 k hk).2.2.1
    rw [e_X3_minutesOnRack_5, if_pos hlt, xq_spot h hO hk (by omega), onI_s, e_X7_rackMinutes_22, if_pos hlt, ni6, if_pos (inb_nI (by omega) (by decide)), nI_clamp (by omega), hR.2.2.1 k hk t (by omega), xq_steps h hO hk (by omega), onI_s, mq_open hR hO hk (by omega), onI_s, nI_1 t, Int32.add_zero]
    by_cases e : nI (mvA F (rnA F t) 1 k) = 0
    · rw [if_pos e, if_pos e]
      by_cases e2 : rnA F t 2 k < F 4 k
      · rw [if_pos (nI_lt e2 (by omega)), if_pos e2, if_neg (show ¬ (1 : Int32) = 0 by decide)]
        exact ih (t + 1) N N' _ (by omega) (by omega) (by omega)
      · rw [if_neg (nI_nlt (by omega) (by omega)), if_neg e2, if_pos rfl]
        exact ih (t + 1) N N' _ (by omega) (by omega) (by omega)
    · rw [if_neg e, if_neg e]
      exact ih (t + 1) N N' _ (by omega) (by omega) (by omega)
theorem bq_first {l σ : Mm} (h : WL l F 480) (hR : RR σ F) (hO : OkF F) {k : Nat} (hk : k < F 0 0) : ∀ (c t N N' : Nat), t + c = 480 → c < N → c < N' → ∃ r, b_X3_firstOnAnvil_2 N (nI k) (nI t) l = some (some (some (.inl r)), l) ∧ b_X7_firstWork_20 N' (nI k) (nI t) σ = some (some (some (.inl r)), σ) := by
  have h6 := hO.1
  intro c
  induction c with
  | zero =>
    intro t N N' ht hN hN'
    obtain ⟨N, rfl⟩ : ∃ N', N = N' + 1 := ⟨N - 1, by omega⟩
    obtain ⟨N', rfl⟩ : ∃ N1, N' = N1 + 1 := ⟨N' - 1, by omega⟩
    obtain rfl : t = 480 := by omega
    refine ⟨-1, ?_, ?_⟩
    · rw [e_X3_firstOnAnvil_2, if_neg (show ¬ nI 480 < 480 by decide)]
    · rw [e_X7_firstWork_20, if_neg (show ¬ nI 480 < 480 by decide)]
  | succ c ih =>
    intro t N N' ht hN hN'
    obtain ⟨N, rfl⟩ : ∃ N', N = N' + 1 := ⟨N - 1, by omega⟩
    obtain ⟨N', rfl⟩ : ∃ N1, N' = N1 + 1 := ⟨N' - 1, by omega⟩
    have hlt : nI t < 480 := nI_lt (b := 480) (by omega) (by decide)
    rw [e_X3_firstOnAnvil_2, if_pos hlt, xq_spot h hO hk (by omega), onI_s, e_X7_firstWork_20, if_pos hlt, ni6, if_pos (inb_nI (by omega) (by decide)), nI_clamp (by omega), hR.2.2.1 k hk t (by omega), nI_1]
    by_cases e : nI (mvA F (rnA F t) 1 k) < 10
    · rw [if_pos e, if_pos e]
      exact ih (t + 1) N N' (by omega) (by omega) (by omega)
    · rw [if_neg e, if_neg e]
      exact ⟨_, rfl, rfl⟩
theorem bq_fin {l σ : Mm} (h : WL l F 480) (hR : RR σ F) (hO : OkF F) (h0 : σ 2 18 = nI (F 0 0)) {u : Nat} (hu : u ≤ 480) : ∀ (c j N N' : Nat) (y : Int32), j + c = F 0 0 → c < N → c < N' → ∃ r, b_X3_finishedAfter_4 N (nI u) y (nI j) l = some (some (some (.inl r)), l) ∧ b_X7_finishedBy_27 N' (nI u) y (nI j) σ = some (some (some (.inl r)), σ) := by
  have h6 := hO.1
  have hl0 : l 16 0 = nI (F 0 0) := (wl_xf h).1
  intro c
  induction c with
  | zero =>
    intro j N N' y hj hN hN'
    obtain ⟨N, rfl⟩ : ∃ N', N = N' + 1 := ⟨N - 1, by omega⟩
    obtain ⟨N', rfl⟩ : ∃ N1, N' = N1 + 1 := ⟨N' - 1, by omega⟩
    refine ⟨y, ?_, ?_⟩
    · rw [e_X3_finishedAfter_4, hl0, if_neg (nI_nlt (by omega) (by omega))]
    · rw [e_X7_finishedBy_27, h0, if_neg (nI_nlt (by omega) (by omega))]
  | succ c ih =>
    intro j N N' y hj hN hN'
    obtain ⟨N, rfl⟩ : ∃ N', N = N' + 1 := ⟨N - 1, by omega⟩
    obtain ⟨N', rfl⟩ : ∃ N1, N' = N1 + 1 := ⟨N' - 1, by omega⟩
    have hk : j < F 0 0 := by omega
    have hi : inb (nI j) 6 = true := inb_nI (by omega) (by decide)
    have h5 := (hO.2.2.1 j hk).2.2.1
    have hle := ((si_rn hO u).1 j hk).1
    have ht := dn_time hO hk hu
    have hf := fin_le hO hk
    have e20 : l 20 j = nI (F 4 j) := ((wl_xf h).2.2.1 j hk).2.2.1
    have hjl : nI j < nI (F 0 0) := nI_lt hk (by omega)
    rw [e_X3_finishedAfter_4, hl0, if_pos hjl, xq_steps h hO hk hu, onI_s, if_pos hi, nI_clamp (by omega), e20, e_X7_finishedBy_27, h0, if_pos hjl, if_pos hi, nI_clamp (by omega), (hR.2.2.2 j hk).1, nI_1 j, Int32.add_zero, if_pos hi]
    by_cases hz : rnA F 480 4 j = 0
    · rw [hz, if_pos (show nI 0 - 1 = -1 from rfl), if_pos (show nI (rnA F u 2 j) < nI (F 4 j) from nI_lt (by omega) (by omega))]
      exact ih (j + 1) N N' _ (by omega) (by omega) (by omega)
    · have e1 : nI (rnA F 480 4 j) - 1 = nI (rnA F 480 4 j - 1) := nI_sub (b := 1) (by omega)
      rw [e1, if_neg (ne_m1 (by omega))]
      by_cases h1 : u < rnA F 480 4 j - 1
      · rw [if_pos (show nI u < nI (rnA F 480 4 j - 1) from nI_lt h1 (by omega)), if_pos (show nI (rnA F u 2 j) < nI (F 4 j) from nI_lt (by omega) (by omega))]
        exact ih (j + 1) N N' _ (by omega) (by omega) (by omega)
      · rw [if_neg (show ¬ nI u < nI (rnA F 480 4 j - 1) from nI_nlt (by omega) (by omega)), if_neg (show ¬ nI (rnA F u 2 j) < nI (F 4 j) from nI_nlt (by omega) (by omega))]
        exact ih (j + 1) N N' _ (by omega) (by omega) (by omega)
theorem gg_24 (h : St n ρ σX σM F) : go_24 x n ρ σX σM Inv := by
  have hO := h.1.1
  have h6 := hO.1
  unfold go_24 GT
  rw [e_X6_fireMinutes, sp_reqIron hO.1 h.1.2.1.1, e_X7_fireMinutes, sm_isIron hO.1 h.1.2.2.1.1, onI_s, sm_checks, onI_s]
  by_cases hi : inb (x 1) (F 0 0) = true
  · left
    obtain ⟨i, hi9, e9⟩ := (inb_out (by omega)).mp hi
    obtain ⟨σX', a1, a2, a3⟩ := st_log h
    obtain ⟨σM', b1, b2, b3, b4, b5⟩ := st_run (st_thr 0 a2)
    have h0 := told_0 h b5
    simp only [if_pos hi, onV_s]
    rw [a1, onA_s, if_neg (show ¬ (1 : Int32) = 0 by decide), e9]
    have w1 : f_X3_minutesInFire [.inr (.inl 0), .inl (nI i)] (pk (sgC 16 27) σX') = _ := (e_X3_minutesInFire _ _).trans (xq_fire a3 hO hi9 480 0 bigM (by omega) (by unfold bigM; omega))
    have w2 : b_X7_minutesAt_10 bigM (nI i) 1 9 0 0 σM' = _ := mq_10i b3 hO h0 hi9 (a := 1) (b := 9) (by decide) (by decide) (F 0 0) 0 bigM 0 (by omega) (by unfold bigM; omega)
    rw [w1, onI_s, putC_id, e_X7_minutesAt, b1, onV_s, w2, onI_s, if_pos (Nat.zero_le _), Nat.zero_add]
    exact ⟨_, σX', σM', rfl, rfl, by rw [b4]; exact wr_same, F, b2⟩
  · right
    simp only [if_neg hi, onV_t]
    exact ⟨0, σX, wr σM 0 0 1, rfl, rfl, wr_same, F, st_thr 1 h⟩
theorem gg_27 (h : St n ρ σX σM F) : go_27 x n ρ σX σM Inv := by
  have hO := h.1.1
  have h6 := hO.1
  unfold go_27 GT
  rw [e_X6_hottest, sp_reqIron hO.1 h.1.2.1.1, e_X7_hottest, sm_isIron hO.1 h.1.2.2.1.1, onI_s, sm_checks, onI_s]
  by_cases hi : inb (x 1) (F 0 0) = true
  · left
    obtain ⟨i, hi9, e9⟩ := (inb_out (by omega)).mp hi
    obtain ⟨σX', a1, a2, a3⟩ := st_log h
    obtain ⟨σM', b1, b2, b3, b4, b5⟩ := st_run (st_thr 0 a2)
    have h0 := told_0 h b5
    simp only [if_pos hi, onV_s]
    rw [a1, onA_s, if_neg (show ¬ (1 : Int32) = 0 by decide), e9]
    obtain ⟨r, w1, w2⟩ := bq_hot a3 b3 hO hi9 481 0 bigM bigM 20 (by omega) (by unfold bigM; omega) (by unfold bigM; omega)
    have w1' : f_X3_greatestHeat [.inr (.inl 0), .inl (nI i)] (pk (sgC 16 27) σX') = _ := (e_X3_greatestHeat _ _).trans w1
    have w2' : b_X7_hottest_23 bigM (nI i) 20 0 σM' = _ := w2
    rw [w1', onI_s, putC_id, b1, onV_s, w2']
    exact ⟨_, σX', σM', rfl, rfl, by rw [b4]; exact wr_same, F, b2⟩
  · right
    simp only [if_neg hi, onV_t]
    exact ⟨0, σX, wr σM 0 0 1, rfl, rfl, wr_same, F, st_thr 1 h⟩
theorem gg_46 (h : St n ρ σX σM F) : go_46 x n ρ σX σM Inv := by
  have hO := h.1.1
  have h6 := hO.1
  unfold go_46 GT
  rw [e_X6_rackMinutes, sp_reqIron hO.1 h.1.2.1.1, e_X7_rackMinutes, sm_isIron hO.1 h.1.2.2.1.1, onI_s, sm_checks, onI_s]
  by_cases hi : inb (x 1) (F 0 0) = true
  · left
    obtain ⟨i, hi9, e9⟩ := (inb_out (by omega)).mp hi
    obtain ⟨σX', a1, a2, a3⟩ := st_log h
    obtain ⟨σM', b1, b2, b3, b4, b5⟩ := st_run (st_thr 0 a2)
    have h0 := told_0 h b5
    simp only [if_pos hi, onV_s]
    rw [a1, onA_s, if_neg (show ¬ (1 : Int32) = 0 by decide), e9]
    have e4 : σX' 36 i = nI (F 4 i) := (a2.1.2.1.2.2.1 i hi9).2.2.1
    obtain ⟨r, w1, w2⟩ := bq_rack a3 b3 hO hi9 480 0 bigM bigM 0 (by omega) (by unfold bigM; omega) (by unfold bigM; omega)
    have w1' : f_X3_minutesOnRack [.inr (.inl 0), .inl (nI i), .inl (nI (F 4 i))] (pk (sgC 16 27) σX') = _ := (e_X3_minutesOnRack _ _ _).trans w1
    have w2' : b_X7_rackMinutes_22 bigM (nI i) 0 0 σM' = _ := w2
    rw [if_pos (inb_nI (by omega) (by decide)), nI_clamp (by omega), e4, w1', onI_s, putC_id, b1, onV_s, w2']
    exact ⟨_, σX', σM', rfl, rfl, by rw [b4]; exact wr_same, F, b2⟩
  · right
    simp only [if_neg hi, onV_t]
    exact ⟨0, σX, wr σM 0 0 1, rfl, rfl, wr_same, F, st_thr 1 h⟩
theorem gg_47 (h : St n ρ σX σM F) : go_47 x n ρ σX σM Inv := by
  have hO := h.1.1
  have h6 := hO.1
  unfold go_47 GT
  rw [e_X6_firstWork, sp_reqIron hO.1 h.1.2.1.1, e_X7_firstWork, sm_isIron hO.1 h.1.2.2.1.1, onI_s, sm_checks, onI_s]
  by_cases hi : inb (x 1) (F 0 0) = true
  · left
    obtain ⟨i, hi9, e9⟩ := (inb_out (by omega)).mp hi
    obtain ⟨σX', a1, a2, a3⟩ := st_log h
    obtain ⟨σM', b1, b2, b3, b4, b5⟩ := st_run (st_thr 0 a2)
    have h0 := told_0 h b5
    simp only [if_pos hi, onV_s]
    rw [a1, onA_s, if_neg (show ¬ (1 : Int32) = 0 by decide), e9]
    obtain ⟨r, w1, w2⟩ := bq_first a3 b3 hO hi9 480 0 bigM bigM (by omega) (by unfold bigM; omega) (by unfold bigM; omega)
    have w1' : f_X3_firstOnAnvil [.inr (.inl 0), .inl (nI i)] (pk (sgC 16 27) σX') = _ := (e_X3_firstOnAnvil _ _).trans w1
    have w2' : b_X7_firstWork_20 bigM (nI i) 0 σM' = _ := w2
    rw [w1', onI_s, putC_id, b1, onV_s, w2']
    exact ⟨_, σX', σM', rfl, rfl, by rw [b4]; exact wr_same, F, b2⟩
  · right
    simp only [if_neg hi, onV_t]
    exact ⟨0, σX, wr σM 0 0 1, rfl, rfl, wr_same, F, st_thr 1 h⟩
theorem gg_50 (h : St n ρ σX σM F) : go_50 x n ρ σX σM Inv := by
  have hO := h.1.1
  have h6 := hO.1
  unfold go_50 GP
  rw [e_X6_finishedBy, sp_w481, onI_s, pp0, e_X7_finishedBy, sm_481]
  by_cases hm : inb (x 1) 481 = true
  · obtain ⟨u, hu, e8⟩ := (inb_out (by decide)).mp hm
    obtain ⟨σX', a1, a2, a3⟩ := st_log h
    obtain ⟨σM', b1, b2, b3, b4, b5⟩ := st_run (st_thr 0 a2)
    have h0 := told_0 h b5
    obtain ⟨r, w1, w2⟩ := bq_fin a3 b3 hO h0 (show u ≤ 480 by omega) (F 0 0) 0 bigM bigM 0 (by omega) (by unfold bigM; omega) (by unfold bigM; omega)
    have w1' : f_X3_finishedAfter [.inr (.inl 0), .inl (nI u)] (pk (sgC 16 27) σX') = _ := (e_X3_finishedAfter _ _).trans w1
    have w2' : b_X7_finishedBy_27 bigM (nI u) 0 0 σM' = _ := w2
    rw [if_pos hm, if_pos hm, if_neg (show ¬ (1 : Int32) = 0 by decide), a1, onA_s, b1, onV_s, e8, w1', onI_s, putC_id, w2']
    exact ⟨_, σX', σM', rfl, rfl, F, b2⟩
  · rw [if_neg hm, if_neg hm, if_pos rfl]
    exact ⟨-2, σX, wr σM 0 0 0, rfl, rfl, F, st_thr 0 h⟩
theorem gg_26 (h : St n ρ σX σM F) : go_26 x n ρ σX σM Inv := by
  have hO := h.1.1
  have h6 := hO.1
  have h3 := hO.2.1
  unfold go_26 GT
  rw [e_X6_placeMinutes, sp_reqPlace (by omega) h.1.2.1.2.1, e_X7_placeMinutes, sm_isPlace (by omega) h.1.2.2.1.2.1, onI_s, sm_checks, onI_s]
  by_cases hi : inb (x 1) (F 0 1) = true
  · left
    obtain ⟨i, hi9, e9⟩ := (inb_out (by omega)).mp hi
    obtain ⟨σX', a1, a2, a3⟩ := st_log h
    obtain ⟨σM', b1, b2, b3, b4, b5⟩ := st_run (st_thr 0 a2)
    have h0 := told_0 h b5
    simp only [if_pos hi, onV_s]
    rw [a1, onA_s, if_neg (show ¬ (1 : Int32) = 0 by decide), e9, n1]
    have w1 : f_X3_minutesUsed [.inr (.inl 0), .inl (nI (1 + i))] (pk (sgC 16 27) σX') = _ := (e_X3_minutesUsed _ _).trans (xq_used a3 hO (s := 1 + i) (by omega) 480 0 bigM (by omega) (by unfold bigM; omega))
    have w2 : b_X7_minutesAt_10 bigM (-1) (nI (1 + i)) (nI (1 + i)) 0 0 σM' = _ := mq_10a b3 hO h0 (a := 1 + i) (b := 1 + i) (by omega) (by omega) (F 0 0) 0 bigM (by omega) (by unfold bigM; omega)
    rw [w1, onI_s, putC_id, e_X7_minutesAt, b1, onV_s, w2, onI_s, used_eq hO (by omega)]
    exact ⟨_, σX', σM', rfl, rfl, by rw [b4]; exact wr_same, F, b2⟩
  · right
    simp only [if_neg hi, onV_t]
    exact ⟨0, σX, wr σM 0 0 1, rfl, rfl, wr_same, F, st_thr 1 h⟩
theorem gg_48 (h : St n ρ σX σM F) : go_48 x n ρ σX σM Inv := by
  have hO := h.1.1
  have h6 := hO.1
  have h3 := hO.2.1
  unfold go_48 GT
  rw [e_X6_ironInPlace, sp_reqPlace (by omega) h.1.2.1.2.1, e_X7_ironInPlace, sm_isPlace (by omega) h.1.2.2.1.2.1, onI_s, sm_checks, onI_s]
  by_cases hi : inb (x 1) (F 0 1) = true
  · left
    obtain ⟨i, hi9, e9⟩ := (inb_out (by omega)).mp hi
    simp only [if_pos hi, onV_s]
    rw [sp_isMin, onI_s, pp0, if_neg (show ¬ (1 : Int32) = 0 by decide), e_X7_ironIn, sm_480]
    by_cases hm : inb (x 2) 480 = true
    · obtain ⟨u, hu, e8⟩ := (inb_out (by decide)).mp hm
      obtain ⟨σX', a1, a2, a3⟩ := st_log h
      obtain ⟨σM', b1, b2, b3, b4, b5⟩ := st_run (st_thr 0 a2)
      have h0 := told_0 h b5
      have w1 : f_X3_ironOnSpot [.inr (.inl 0), .inl (nI (1 + i)), .inl (nI u)] (pk (sgC 16 27) σX') = _ := (e_X3_ironOnSpot _ _ _).trans (xq_on a3 hO hu (F 0 0) 0 bigM (by omega) (by unfold bigM; omega))
      have w2 : b_X7_ironIn_20 bigM (nI (1 + i)) (nI u) 0 σM' = _ := mq_on b3 hO h0 hu (F 0 0) 0 bigM (by omega) (by unfold bigM; omega)
      rw [if_pos hm, if_pos hm, if_neg (show ¬ (1 : Int32) = 0 by decide), a1, onA_s, b1, onV_s, e9, e8, n1, w1, onI_s, putC_id, w2, onI_s]
      exact ⟨_, σX', σM', rfl, rfl, by rw [b4]; exact wr_same, F, b2⟩
    · rw [if_neg hm, if_neg hm, if_pos rfl, onI_s]
      exact ⟨-2, σX, wr σM 0 0 0, rfl, rfl, wr_same, F, st_thr 0 h⟩
  · right
    simp only [if_neg hi, onV_t]
    exact ⟨0, σX, wr σM 0 0 1, rfl, rfl, wr_same, F, st_thr 1 h⟩
theorem sm_anv (h : St n ρ σX σM F) (y : Int32) (A B : Option Ou) : (if y < 0 then A else if y < σM 4 78 then B else A) = if inb y (F 9 0) = true then B else A := by
  have h9 := h.1.1.2.2.2.2.2.1
  have e : σM 4 78 = nI (F 9 0) := h.1.2.2.1.2.2.2.2 0 (by decide)
  have hl := lt_inb (x := y) (k := F 9 0) (by omega)
  rw [e]
  by_cases h1 : y < 0
  · rw [if_pos h1, if_neg (fun h9 => (hl.mpr h9).1 h1)]
  · rw [if_neg h1]
    by_cases h2 : y < nI (F 9 0)
    · rw [if_pos h2, if_pos (hl.mp ⟨h1, h2⟩)]
    · rw [if_neg h2, if_neg (fun h9 => h2 (hl.mpr h9).2)]
theorem gg_25 (h : St n ρ σX σM F) : go_25 x n ρ σX σM Inv := by
  have hO := h.1.1
  have h6 := hO.1
  have h9 := hO.2.2.2.2.2.1
  unfold go_25 GT
  rw [e_X6_anvilMinutes, sp_reqAnvil (k := F 9 0) (by omega) (h.1.2.1.2.2.2.2 0 (by decide)), e_X7_anvilMinutes, sm_anv h]
  obtain ⟨m, hm⟩ : ∃ m, bigM = m + 1 := ⟨bigM - 1, rfl⟩
  by_cases hi : inb (x 1) (F 9 0) = true
  · left
    obtain ⟨i, hi9, e9⟩ := (inb_out (by omega)).mp hi
    obtain ⟨σX', a1, a2, a3⟩ := st_log h
    obtain ⟨σM', b1, b2, b3, b4, b5⟩ := st_run (st_thr 0 a2)
    have h0 := told_0 h b5
    have hc := sm_checks (σ := σM) true
    rw [if_pos rfl, if_pos rfl] at hc
    rw [if_pos hi, if_pos hi, onV_s, a1, onA_s, hm, e_X7_anvilMinutes_21, hc, onI_s, if_neg (show ¬ (1 : Int32) = 0 by decide), e9, n10]
    have w1 : f_X3_minutesUsed [.inr (.inl 0), .inl (nI (10 + i))] (pk (sgC 16 27) σX') = _ := (e_X3_minutesUsed _ _).trans (xq_used a3 hO (s := 10 + i) (by omega) 480 0 bigM (by omega) (by unfold bigM; omega))
    have w2 : b_X7_minutesAt_10 bigM (-1) (nI (10 + i)) (nI (10 + i)) 0 0 σM' = _ := mq_10a b3 hO h0 (a := 10 + i) (b := 10 + i) (by omega) (by omega) (F 0 0) 0 bigM (by omega) (by unfold bigM; omega)
    rw [w1, onI_s, putC_id, e_X7_minutesAt, b1, onV_s, w2, onI_s, used_eq hO (by omega)]
    exact ⟨_, σX', σM', rfl, rfl, by rw [b4]; exact wr_same, F, b2⟩
  · right
    have hc := sm_checks (σ := σM) false
    rw [if_neg (by decide), if_neg (by decide)] at hc
    rw [if_neg hi, if_neg hi, onV_t, hm, e_X7_anvilMinutes_21, hc, onI_s, if_pos rfl]
    exact ⟨0, σX, wr σM 0 0 1, rfl, rfl, wr_same, F, st_thr 1 h⟩
theorem gg_49 (h : St n ρ σX σM F) : go_49 x n ρ σX σM Inv := by
  have hO := h.1.1
  have h6 := hO.1
  have h9 := hO.2.2.2.2.2.1
  unfold go_49 GT
  rw [e_X6_ironOnAnvil, sp_reqAnvil (k := F 9 0) (by omega) (h.1.2.1.2.2.2.2 0 (by decide)), e_X7_ironOnAnvil, sm_anv h]
  obtain ⟨m, hm⟩ : ∃ m, bigM = m + 1 := ⟨bigM - 1, rfl⟩
  by_cases hi : inb (x 1) (F 9 0) = true
  · left
    obtain ⟨i, hi9, e9⟩ := (inb_out (by omega)).mp hi
    have hc := sm_checks (σ := σM) true
    rw [if_pos rfl, if_pos rfl] at hc
    rw [if_pos hi, if_pos hi, onV_s, hm, e_X7_ironOnAnvil_21, hc, onI_s, if_neg (show ¬ (1 : Int32) = 0 by decide), sp_isMin, onI_s, pp0, e_X7_ironIn, sm_480]
    by_cases hmn : inb (x 2) 480 = true
    · obtain ⟨u, hu, e8⟩ := (inb_out (by decide)).mp hmn
      obtain ⟨σX', a1, a2, a3⟩ := st_log h
      obtain ⟨σM', b1, b2, b3, b4, b5⟩ := st_run (st_thr 0 a2)
      have h0 := told_0 h b5
      have w1 : f_X3_ironOnSpot [.inr (.inl 0), .inl (nI (10 + i)), .inl (nI u)] (pk (sgC 16 27) σX') = _ := (e_X3_ironOnSpot _ _ _).trans (xq_on a3 hO hu (F 0 0) 0 bigM (by omega) (by unfold bigM; omega))
      have w2 : b_X7_ironIn_20 bigM (nI (10 + i)) (nI u) 0 σM' = _ := mq_on b3 hO h0 hu (F 0 0) 0 bigM (by omega) (by unfold bigM; omega)
      rw [if_pos hmn, if_pos hmn, if_neg (show ¬ (1 : Int32) = 0 by decide), a1, onA_s, b1, onV_s, e9, e8, n10, w1, onI_s, putC_id, w2, onI_s]
      exact ⟨_, σX', σM', rfl, rfl, by rw [b4]; exact wr_same, F, b2⟩
    · rw [if_neg hmn, if_neg hmn, if_pos rfl, onI_s]
      exact ⟨-2, σX, wr σM 0 0 0, rfl, rfl, wr_same, F, st_thr 0 h⟩
  · right
    have hc := sm_checks (σ := σM) false
    rw [if_neg (by decide), if_neg (by decide)] at hc
    rw [if_neg hi, if_neg hi, onV_t, hm, e_X7_ironOnAnvil_21, hc, onI_s, if_pos rfl]
    exact ⟨0, σX, wr σM 0 0 1, rfl, rfl, wr_same, F, st_thr 1 h⟩
theorem mq_last {σ : Mm} (hR : RR σ F) (hO : OkF F) (h0 : σ 2 18 = nI (F 0 0)) : ∀ (c j N : Nat) (b : Option Nat), j + c = F 0 0 → c < N → (∀ v, b = some v → v < F 0 0 ∧ 1 ≤ rnA F 480 4 v) → b_X7_lastIron_13 N (opI b) (nI j) σ = some (some (some (.inl (if ∀ k, k < F 0 0 → j ≤ k → rnA F 480 4 k ≠ 0 then opI (lsA (rnA F 480) c j b) else -1))), σ) := by
  have h6 := hO.1
  intro c
  induction c with
  | zero =>
    intro j N b hj hN hb
    obtain ⟨N, rfl⟩ : ∃ N', N = N' + 1 := ⟨N - 1, by omega⟩
    rw [e_X7_lastIron_13, h0, if_neg (nI_nlt (by omega) (by omega)), if_pos (fun k hk h9 => by omega)]
    cases b <;> rfl
  | succ c ih =>
    intro j N b hj hN hb
    obtain ⟨N, rfl⟩ : ∃ N', N = N' + 1 := ⟨N - 1, by omega⟩
    have hk : j < F 0 0 := by omega
    have hi : inb (nI j) 6 = true := inb_nI (by omega) (by decide)
    have hf := fin_le hO hk
    rw [e_X7_lastIron_13, h0, if_pos (nI_lt (by omega) (by omega)), if_pos hi, nI_clamp (by omega), (hR.2.2.2 j hk).1, nI_1]
    by_cases hz : rnA F 480 4 j = 0
    · rw [if_pos (show nI (rnA F 480 4 j) - 1 = -1 by rw [hz]; rfl), if_neg (fun h9 => h9 j hk (Nat.le_refl _) hz)]
    · have e1 : nI (rnA F 480 4 j) - 1 = nI (rnA F 480 4 j - 1) := nI_sub (b := 1) (by omega)
      have hall : (∀ k, k < F 0 0 → j ≤ k → rnA F 480 4 k ≠ 0) ↔ (∀ k, k < F 0 0 → j + 1 ≤ k → rnA F 480 4 k ≠ 0) := by
        constructor
        · intro h1 k h2 h3
          exact h1 k h2 (by omega)
        · intro h1 k h2 h3
          by_cases e : k = j
          · rw [e]; exact hz
          · exact h1 k h2 (by omega)
      rw [e1, if_neg (ne_m1 (by omega))]
      simp only [hall]
      have ihj := ih (j + 1) N (some j) (by omega) (by omega) (fun v hv => by cases hv; exact ⟨hk, by omega⟩)
      cases b with
      | none =>
        rw [if_pos (show opI none = -1 from rfl)]
        exact ihj
      | some v =>
        obtain ⟨hv, hv1⟩ := hb v rfl
        have hfv := fin_le hO hv
        have e2 : nI (rnA F 480 4 v) - 1 = nI (rnA F 480 4 v - 1) := nI_sub (b := 1) (by omega)
        have e3 : lsA (rnA F 480) (c + 1) j (some v) = lsA (rnA F 480) c (j + 1) (if rnA F 480 4 v < rnA F 480 4 j then some j else some v) := rfl
        rw [show opI (some v) = nI v from rfl, if_neg (ne_m1 (by omega)), if_pos hi, if_pos (inb_nI (by omega) (by decide)), nI_clamp (by omega), (hR.2.2.2 v hv).1, e2, e3]
        by_cases hc : rnA F 480 4 v < rnA F 480 4 j
        · rw [if_pos (nI_lt (by omega) (by omega)), if_pos hc]
          exact ihj
        · rw [if_neg (nI_nlt (by omega) (by omega)), if_neg hc]
          exact ih (j + 1) N (some v) (by omega) (by omega) hb
theorem gg_28 (h : St n ρ σX σM F) : go_28 x n ρ σX σM Inv := by
  have hO := h.1.1
  have h6 := hO.1
  unfold go_28 GP
  obtain ⟨σX', a1, a2, a3⟩ := st_log h
  obtain ⟨σM', b1, b2, b3, b4, b5⟩ := st_run (st_thr 0 a2)
  have h0 := told_0 h b5
  have w2 : b_X7_lastIron_13 bigM (-1) 0 σM' = _ := mq_last b3 hO h0 (F 0 0) 0 bigM none (by omega) (by unfold bigM; omega) (fun v hv => by cases hv)
  rw [e_X6_lastIron, a1, onA_s, xf_last hO (wl_xr a3) (ti_rn hO 480) (by decide), onI_s, putC_id, e_X7_lastIron, b1, onV_s, w2]
  have e : cnA F (rnA F 480) (F 0 0) = 0 ↔ (∀ k, k < F 0 0 → 0 ≤ k → rnA F 480 4 k ≠ 0) := by
    rw [cn_zero]
    constructor
    · intro h1 k hk _ h9
      have := ((ti_rn hO 480 k hk).2 (dn_iff.mp (h1 k hk))).1
      omega
    · intro h1 k hk
      refine dn_iff.mpr (Classical.byContradiction (fun h9 => h1 k hk (Nat.zero_le _) ((ti_rn hO 480 k hk).1 ?_)))
      have := ((si_rn hO 480).1 k hk).1
      omega
  refine ⟨_, σX', σM', rfl, ?_, F, b2⟩
  by_cases hc : cnA F (rnA F 480) (F 0 0) = 0
  · rw [if_pos hc, if_pos (e.mp hc)]
  · rw [if_neg hc, if_neg (fun h9 => hc (e.mpr h9))]
end QUE2
