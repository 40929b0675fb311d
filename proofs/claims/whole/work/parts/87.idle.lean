/-! idle minutes -/
section IDLE
variable {x : Nat → Int32} {n : Nat} {ρ : Nat → Mm} {σX σM : Mm} {F : Fg} {l σ : Mm}
def fiB (F : Fg) (u k : Nat) : Bool := decide (F 4 k ≤ rnA F u 2 k)
def anB (F : Fg) (u k : Nat) : Bool := decide (10 ≤ mvA F (rnA F u) 1 k)
theorem xq_finN (h : WL l F 480) (hO : OkF F) {u : Nat} (hu : u ≤ 480) : ∀ (c j N : Nat), j + c = F 0 0 → c < N → b_X3_finishedAfter_4 N (nI u) (nI (cA (fiB F u) j)) (nI j) l = some (some (some (.inl (nI (cA (fiB F u) (F 0 0))))), l) := by
  have h6 := hO.1
  have hl0 : l 16 0 = nI (F 0 0) := (wl_xf h).1
  intro c
  induction c with
  | zero =>
    intro j N hj hN
    obtain ⟨N, rfl⟩ : ∃ N', N = N' + 1 := ⟨N - 1, by omega⟩
    obtain rfl : j = F 0 0 := by omega
    rw [e_X3_finishedAfter_4, hl0, if_neg (nI_nlt (by omega) (by omega))]
  | succ c ih =>
    intro j N hj hN
    obtain ⟨N, rfl⟩ : ∃ N', N = N' + 1 := ⟨N - 1, by omega⟩
    have hk : j < F 0 0 := by omega
    have h5 := (hO.2.2.1 j hk).2.2.1
    have hle := ((si_rn hO u).1 j hk).1
    have e20 : l 20 j = nI (F 4 j) := ((wl_xf h).2.2.1 j hk).2.2.1
    have ih' := ih (j + 1) N (by omega) (by omega)
    rw [cA_S] at ih'
    rw [e_X3_finishedAfter_4, hl0, if_pos (show nI j < nI (F 0 0) from nI_lt hk (by omega)), xq_steps h hO hk hu, onI_s, if_pos (inb_nI (by omega) (by decide)), nI_clamp (by omega), e20, nI_1, nI_1]
    by_cases e : rnA F u 2 j < F 4 j
    · rw [show fiB F u j = false from decide_eq_false (by omega), if_neg (by decide)] at ih'
      rw [if_pos (nI_lt e (by omega))]
      exact ih'
    · rw [show fiB F u j = true from decide_eq_true (by omega), if_pos rfl] at ih'
      rw [if_neg (nI_nlt (by omega) (by omega))]
      exact ih'
theorem xq_anvN (h : WL l F 480) (hO : OkF F) {u : Nat} (hu : u < 480) : ∀ (c j N : Nat), j + c = F 0 0 → c < N → b_X3_anvilsUsed_4 N (nI u) (nI (cA (anB F u) j)) (nI j) l = some (some (some (.inl (nI (cA (anB F u) (F 0 0))))), l) := by
  have h6 := hO.1
  have hl0 : l 16 0 = nI (F 0 0) := (wl_xf h).1
  intro c
  induction c with
  | zero =>
    intro j N hj hN
    obtain ⟨N, rfl⟩ : ∃ N', N = N' + 1 := ⟨N - 1, by omega⟩
    obtain rfl : j = F 0 0 := by omega
    rw [e_X3_anvilsUsed_4, hl0, if_neg (nI_nlt (by omega) (by omega))]
  | succ c ih =>
    intro j N hj hN
    obtain ⟨N, rfl⟩ : ∃ N', N = N' + 1 := ⟨N - 1, by omega⟩
    have hk : j < F 0 0 := by omega
    have hl := mv_loc hO u hk
    have ih' := ih (j + 1) N (by omega) (by omega)
    rw [cA_S] at ih'
    rw [e_X3_anvilsUsed_4, hl0, if_pos (show nI j < nI (F 0 0) from nI_lt hk (by omega)), xq_spot h hO hk hu, onI_s, nI_1, nI_1]
    by_cases e : mvA F (rnA F u) 1 j < 10
    · rw [show anB F u j = false from decide_eq_false (by omega), if_neg (by decide)] at ih'
      rw [if_pos (show nI _ < 10 from nI_lt (b := 10) e (by omega))]
      exact ih'
    · rw [show anB F u j = true from decide_eq_true (by omega), if_pos rfl] at ih'
      rw [if_neg (show ¬ nI _ < 10 from nI_nlt (b := 10) (by omega) (by omega))]
      exact ih'
theorem mq_idle (hR : RR σ F) (hO : OkF F) (h0 : σ 2 18 = nI (F 0 0)) (h78 : σ 4 78 = nI (F 9 0)) {u : Nat} (hu : u < 480) (y : Int32) (M : Nat) : ∀ (c j N : Nat), j + c = F 0 0 → 2 * c + 1 + M ≤ N → ∃ N', M ≤ N' ∧ b_X7_idleMinutes_28 N y (nI u) (nI (cA (anB F u) j)) (if anyB (fun k => !(fiB F u k)) j = true then 1 else 0) (nI j) σ = b_X7_idleMinutes_13 N' (if anyB (fun k => !(fiB F u k)) (F 0 0) = true ∧ cA (anB F u) (F 0 0) < F 9 0 then y + 1 else y) (nI (u + 1)) σ := by
  have h6 := hO.1
  have h9 := hO.2.2.2.2.2.1
  intro c
  induction c with
  | zero =>
    intro j N hj hN
    obtain ⟨N, rfl⟩ : ∃ N', N = N' + 1 := ⟨N - 1, by omega⟩
    obtain rfl : j = F 0 0 := by omega
    have hc := cA_le (p := anB F u) (F 0 0)
    refine ⟨N, by omega, ?_⟩
    rw [e_X7_idleMinutes_28, h0, if_neg (show ¬ nI (F 0 0) < nI (F 0 0) from nI_nlt (by omega) (by omega)), h78, nI_1, Int32.add_zero]
    by_cases e : anyB (fun k => !(fiB F u k)) (F 0 0) = true
    · rw [if_pos e, if_neg (show ¬ (1 : Int32) = 0 by decide)]
      by_cases e2 : cA (anB F u) (F 0 0) < F 9 0
      · rw [if_pos (nI_lt e2 (by omega)), if_pos ⟨e, e2⟩]
      · rw [if_neg (nI_nlt (by omega) (by omega)), if_neg (fun h => e2 h.2)]
    · rw [if_neg e, if_pos rfl, if_neg (fun h => e h.1)]
  | succ c ih =>
    intro j N hj hN
    obtain ⟨N, rfl⟩ : ∃ N', N = N' + 2 := ⟨N - 2, by omega⟩
    have hk : j < F 0 0 := by omega
    have hl := mv_loc hO u hk
    have hle := ((si_rn hO u).1 j hk).1
    have ih' := ih (j + 1) N (by omega) (by omega)
    rw [cA_S] at ih'
    have e63 : ∀ b : Bool, b_X7_idleMinutes_63 (N + 1) y (nI u) (if anyB (fun k => !(fiB F u k)) j = true then 1 else 0) (nI j) (nI (cA (anB F u) j)) (if b = true then 1 else 0) σ = b_X7_idleMinutes_28 N y (nI u) (nI (cA (anB F u) j + (if b = true then 1 else 0))) (if anyB (fun k => !(fiB F u k)) (j + 1) = true then 1 else 0) (nI (j + 1)) σ := by
      intro b
      rw [e_X7_idleMinutes_63, mq_open hR hO hk (by omega), onI_s, nI_1]
      have e1 : (if rnA F u 2 j < F 4 j then (1 : Int32) else 0) = if (!(fiB F u j)) = true then 1 else 0 := by
        unfold fiB
        by_cases e : rnA F u 2 j < F 4 j
        · rw [if_pos e, decide_eq_false (show ¬ F 4 j ≤ rnA F u 2 j by omega)]; rfl
        · rw [if_neg e, decide_eq_true (show F 4 j ≤ rnA F u 2 j by omega)]; rfl
      have e2 : nI (cA (anB F u) j) + (if b = true then (1 : Int32) else 0) = nI (cA (anB F u) j + (if b = true then 1 else 0)) := by
        cases b
        · exact Int32.add_zero _
        · exact nI_1 _
      rw [e1, bor, e2]
      rfl
    rw [e_X7_idleMinutes_28, h0, if_pos (show nI j < nI (F 0 0) from nI_lt hk (by omega)), ni6, if_pos (inb_nI (by omega) (by decide)), nI_clamp (by omega), hR.2.2.1 j hk u hu]
    by_cases e : mvA F (rnA F u) 1 j < 10
    · rw [show anB F u j = false from decide_eq_false (by omega)] at ih'
      rw [if_pos (show nI _ < 10 from nI_lt (b := 10) e (by omega))]
      have := e63 false
      rw [if_neg (show ¬ false = true by decide)] at this
      rw [this]
      exact ih'
    · rw [show anB F u j = true from decide_eq_true (by omega)] at ih'
      rw [if_neg (show ¬ nI _ < 10 from nI_nlt (b := 10) (by omega) (by omega))]
      have := e63 true
      rw [if_pos rfl] at this
      rw [this]
      exact ih'
theorem bq_idle (h : WL l F 480) (hR : RR σ F) (hO : OkF F) (h0 : σ 2 18 = nI (F 0 0)) (h78 : σ 4 78 = nI (F 9 0)) : ∀ (c t N N' : Nat) (y : Int32), t + c = 480 → c < N → 20 * c < N' → ∃ r, b_X3_minutesIdle_4 N y (nI t) l = some (some (some (.inl r)), l) ∧ b_X7_idleMinutes_13 N' y (nI t) σ = some (some (some (.inl r)), σ) := by
  have h6 := hO.1
  have h9 := hO.2.2.2.2.2.1
  have hl0 : l 16 0 = nI (F 0 0) := (wl_xf h).1
  have hl25 : l 25 0 = nI (F 9 0) := (wl_xf h).2.2.2.2 0 (by decide)
  intro c
  induction c with
  | zero =>
    intro t N N' y ht hN hN'
    obtain ⟨N, rfl⟩ : ∃ N', N = N' + 1 := ⟨N - 1, by omega⟩
    obtain ⟨N', rfl⟩ : ∃ N1, N' = N1 + 1 := ⟨N' - 1, by omega⟩
    obtain rfl : t = 480 := by omega
    refine ⟨y, ?_, ?_⟩
    · rw [e_X3_minutesIdle_4, if_neg (show ¬ nI 480 < 480 by decide)]
    · rw [e_X7_idleMinutes_13, if_neg (show ¬ nI 480 < 480 by decide)]
  | succ c ih =>
    intro t N N' y ht hN hN'
    obtain ⟨N, rfl⟩ : ∃ N', N = N' + 1 := ⟨N - 1, by omega⟩
    obtain ⟨N', rfl⟩ : ∃ N1, N' = N1 + 1 := ⟨N' - 1, by omega⟩
    have hlt : nI t < 480 := nI_lt (b := 480) (by omega) (by decide)
    obtain ⟨N2, m1, m2⟩ := mq_idle hR hO h0 h78 (show t < 480 by omega) y (20 * c + 1) (F 0 0) 0 N' (by omega) (by omega)
    have m2' : b_X7_idleMinutes_28 N' y (nI t) 0 0 0 σ = _ := m2
    have w1 : f_X3_finishedAfter [.inr (.inl 0), .inl (nI t)] l = _ := (e_X3_finishedAfter _ _).trans (xq_finN h hO (show t ≤ 480 by omega) (F 0 0) 0 bigM (by omega) (by unfold bigM; omega))
    have w2 : f_X3_anvilsUsed [.inr (.inl 0), .inl (nI t)] l = _ := (e_X3_anvilsUsed _ _).trans (xq_anvN h hO (show t < 480 by omega) (F 0 0) 0 bigM (by omega) (by unfold bigM; omega))
    have hcf := cA_le (p := fiB F t) (F 0 0)
    have hca := cA_le (p := anB F t) (F 0 0)
    have key : anyB (fun k => !(fiB F t k)) (F 0 0) = true ↔ cA (fiB F t) (F 0 0) < F 0 0 := by
      rw [any_iff, any_lt]
      constructor
      · rintro ⟨k, a, b⟩
        exact ⟨k, a, by simpa using b⟩
      · rintro ⟨k, a, b⟩
        exact ⟨k, a, by simpa using b⟩
    rw [e_X3_minutesIdle_4, if_pos hlt, w1, onI_s, hl0, w2, onI_s, hl25, e_X7_idleMinutes_13, if_pos hlt, m2', nI_1]
    by_cases e1 : cA (fiB F t) (F 0 0) < F 0 0
    · rw [if_pos (nI_lt e1 (by omega))]
      by_cases e2 : cA (anB F t) (F 0 0) < F 9 0
      · rw [if_pos (nI_lt e2 (by omega)), if_pos ⟨key.mpr e1, e2⟩]
        exact ih (t + 1) N N2 _ (by omega) (by omega) (by omega)
      · rw [if_neg (nI_nlt (by omega) (by omega)), if_neg (fun h => e2 h.2)]
        exact ih (t + 1) N N2 _ (by omega) (by omega) (by omega)
    · rw [if_neg (nI_nlt (by omega) (by omega)), if_neg (fun h => e1 (key.mp h.1))]
      exact ih (t + 1) N N2 _ (by omega) (by omega) (by omega)
theorem gg_51 (h : St n ρ σX σM F) : go_51 x n ρ σX σM Inv := by
  have hO := h.1.1
  unfold go_51 GP
  obtain ⟨σX', a1, a2, a3⟩ := st_log h
  obtain ⟨σM', b1, b2, b3, b4, b5⟩ := st_run (st_thr 0 a2)
  have h0 := told_0 h b5
  have h78 : σM' 4 78 = nI (F 9 0) := by
    rw [b5 4 (by omega) (by omega), wr_cell (by decide)]
    exact h.1.2.2.1.2.2.2.2 0 (by decide)
  obtain ⟨r, w1, w2⟩ := bq_idle a3 b3 hO h0 h78 480 0 bigM bigM 0 (by omega) (by unfold bigM; omega) (by unfold bigM; omega)
  have w1' : f_X3_minutesIdle [.inr (.inl 0)] (pk (sgC 16 27) σX') = _ := (e_X3_minutesIdle _).trans w1
  have w2' : b_X7_idleMinutes_13 bigM 0 0 σM' = _ := w2
  rw [e_X6_idleMinutes, a1, onA_s, w1', onI_s, putC_id, e_X7_idleMinutes, b1, onV_s, w2']
  exact ⟨_, σX', σM', rfl, rfl, F, b2⟩
end IDLE
