/-! loops over the minutes -/
section QL
variable {F : Fg} {l σ : Mm}
theorem xq_spot (h : WL l F 480) (hO : OkF F) {k u : Nat} (hk : k < F 0 0) (hu : u < 480) : f_X3_spotOf [.inr (.inl 0), .inl (nI k), .inl (nI u)] l = some (some (some (.inl (nI (mvA F (rnA F u) 1 k)))), l) := by
  have h6 := hO.1
  rw [e_X3_spotOf, ni480, if_pos (inb_nI (by omega) (by decide)), nI_clamp (by omega), wl_s h hk hu]
theorem xq_steps (h : WL l F 480) (hO : OkF F) {k u : Nat} (hk : k < F 0 0) (hu : u ≤ 480) : f_X3_stepsOf [.inr (.inl 0), .inl (nI k), .inl (nI u)] l = some (some (some (.inl (nI (rnA F u 2 k)))), l) := by
  have h6 := hO.1
  rw [e_X3_stepsOf, ni481, if_pos (inb_nI (by omega) (by decide)), nI_clamp (by omega), wl_d h hk hu]
theorem xq_heat (h : WL l F 480) (hO : OkF F) {k u : Nat} (hk : k < F 0 0) (hu : u ≤ 480) : f_X3_heatOf [.inr (.inl 0), .inl (nI k), .inl (nI u)] l = some (some (some (.inl (nI (rnA F u 0 k)))), l) := by
  have h6 := hO.1
  rw [e_X3_heatOf, ni481, if_pos (inb_nI (by omega) (by decide)), nI_clamp (by omega), wl_h h hk hu]
theorem cA_S (p : Nat → Bool) (c : Nat) : cA p (c + 1) = cA p c + (if p c = true then 1 else 0) := rfl
theorem xq_fire (h : WL l F 480) (hO : OkF F) {k : Nat} (hk : k < F 0 0) : ∀ (c t N : Nat), t + c = 480 → c < N → b_X3_minutesInFire_4 N (nI k) (nI (cA (fun u => decide (1 ≤ mvA F (rnA F u) 1 k ∧ mvA F (rnA F u) 1 k ≤ 9)) t)) (nI t) l = some (some (some (.inl (nI (cA (fun u => decide (1 ≤ mvA F (rnA F u) 1 k ∧ mvA F (rnA F u) 1 k ≤ 9)) 480)))), l) := by
  intro c
  induction c with
  | zero =>
    intro t N ht hN
    obtain ⟨N, rfl⟩ : ∃ N', N = N' + 1 := ⟨N - 1, by omega⟩
    obtain rfl : t = 480 := by omega
    rw [e_X3_minutesInFire_4, if_neg (show ¬ nI 480 < 480 by decide)]
  | succ c ih =>
    intro t N ht hN
    obtain ⟨N, rfl⟩ : ∃ N', N = N' + 1 := ⟨N - 1, by omega⟩
    have hl := mv_loc hO t hk
    have ih' := ih (t + 1) N (by omega) (by omega)
    rw [cA_S] at ih'
    rw [e_X3_minutesInFire_4, if_pos (show nI t < 480 from nI_lt (b := 480) (by omega) (by decide)), xq_spot h hO hk (by omega), onI_s, nI_1, nI_1]
    by_cases h1 : mvA F (rnA F t) 1 k < 1
    · rw [decide_eq_false (show ¬ (1 ≤ mvA F (rnA F t) 1 k ∧ mvA F (rnA F t) 1 k ≤ 9) by omega), if_neg (by decide)] at ih'
      rw [if_pos (show nI _ < 1 from nI_lt (b := 1) h1 (by decide))]
      exact ih'
    · rw [if_neg (show ¬ nI _ < 1 from nI_nlt (b := 1) (by omega) (by omega))]
      by_cases h2 : mvA F (rnA F t) 1 k < 10
      · rw [decide_eq_true (show (1 ≤ mvA F (rnA F t) 1 k ∧ mvA F (rnA F t) 1 k ≤ 9) by omega), if_pos rfl] at ih'
        rw [if_pos (show nI _ < 10 from nI_lt (b := 10) h2 (by decide))]
        exact ih'
      · rw [decide_eq_false (show ¬ (1 ≤ mvA F (rnA F t) 1 k ∧ mvA F (rnA F t) 1 k ≤ 9) by omega), if_neg (by decide)] at ih'
        rw [if_neg (show ¬ nI _ < 10 from nI_nlt (b := 10) (by omega) (by omega))]
        exact ih'
def rgB (F : Fg) (a b : Nat) (k u : Nat) : Bool := decide (a ≤ mvA F (rnA F u) 1 k ∧ mvA F (rnA F u) 1 k ≤ b)
theorem mq_25 (h : RR σ F) (hO : OkF F) {k a b A : Nat} (hk : k < F 0 0) (ha : a < 2 ^ 20) (hb : b < 2 ^ 20) {y : Int32} (hy : y = -1 ∨ y = nI k) (M : Nat) : ∀ (c t N : Nat), t + c = 480 → 2 * c + 1 + M ≤ N → ∃ N', M ≤ N' ∧ b_X7_minutesAt_25 N y (nI a) (nI b) (nI (A + cA (rgB F a b k) t)) (nI k) (nI t) σ = b_X7_minutesAt_10 N' y (nI a) (nI b) (nI (A + cA (rgB F a b k) 480)) (nI (k + 1)) σ := by
  have h6 := hO.1
  intro c
  induction c with
  | zero =>
    intro t N ht hN
    obtain ⟨N, rfl⟩ : ∃ N', N = N' + 1 := ⟨N - 1, by omega⟩
    obtain rfl : t = 480 := by omega
    refine ⟨N, by omega, ?_⟩
    rw [e_X7_minutesAt_25, if_neg (show ¬ nI 480 < 480 by decide), nI_1]
  | succ c ih =>
    intro t N ht hN
    obtain ⟨N, rfl⟩ : ∃ N', N = N' + 2 := ⟨N - 2, by omega⟩
    have hl := mv_loc hO t hk
    have ih' := ih (t + 1) N (by omega) (by omega)
    rw [cA_S] at ih'
    rw [e_X7_minutesAt_25, if_pos (show nI t < 480 from nI_lt (b := 480) (by omega) (by decide))]
    have e44 : b_X7_minutesAt_44 (N + 1) y (nI a) (nI b) (nI (A + cA (rgB F a b k) t)) (nI k) (nI t) σ = b_X7_minutesAt_25 N y (nI a) (nI b) (nI (A + (cA (rgB F a b k) t + (if rgB F a b k t = true then 1 else 0)))) (nI k) (nI (t + 1)) σ := by
      rw [e_X7_minutesAt_44, ni6, if_pos (inb_nI (by omega) (by decide)), nI_clamp (by omega), h.2.2.1 k hk t (by omega), nI_1, nI_1, Int32.add_zero]
      unfold rgB
      by_cases h1 : mvA F (rnA F t) 1 k < a
      · rw [if_pos (nI_lt h1 (by omega)), decide_eq_false (show ¬ (a ≤ mvA F (rnA F t) 1 k ∧ mvA F (rnA F t) 1 k ≤ b) by omega), if_neg (by decide)]
        rfl
      · rw [if_neg (nI_nlt (by omega) (by omega))]
        by_cases h2 : b < mvA F (rnA F t) 1 k
        · rw [if_pos (nI_lt h2 (by omega)), decide_eq_false (show ¬ (a ≤ mvA F (rnA F t) 1 k ∧ mvA F (rnA F t) 1 k ≤ b) by omega), if_neg (by decide)]
          rfl
        · rw [if_neg (nI_nlt (by omega) (by omega)), decide_eq_true (show (a ≤ mvA F (rnA F t) 1 k ∧ mvA F (rnA F t) 1 k ≤ b) by omega), if_pos rfl]
          rfl
    rw [e44]
    have e9 : ∀ B : Option Ou, (if y = -1 then B else if y = nI k then B else b_X7_minutesAt_10 (N + 1) y (nI a) (nI b) (nI (A + cA (rgB F a b k) t)) (nI k + 1) σ) = B := by
      intro B
      by_cases e1 : y = -1
      · rw [if_pos e1]
      · rw [if_neg e1, if_pos (hy.resolve_left e1)]
    rw [e9]
    exact ih'
theorem mq_10i (h : RR σ F) (hO : OkF F) (h0 : σ 2 18 = nI (F 0 0)) {i a b : Nat} (hi : i < F 0 0) (ha : a < 2 ^ 20) (hb : b < 2 ^ 20) : ∀ (c j N A : Nat), j + c = F 0 0 → 1000 * c < N → b_X7_minutesAt_10 N (nI i) (nI a) (nI b) (nI A) (nI j) σ = some (some (some (.inl (nI (A + (if j ≤ i then cA (rgB F a b i) 480 else 0))))), σ) := by
  have h6 := hO.1
  intro c
  induction c with
  | zero =>
    intro j N A hj hN
    obtain ⟨N, rfl⟩ : ∃ N', N = N' + 1 := ⟨N - 1, by omega⟩
    rw [e_X7_minutesAt_10, h0, if_neg (nI_nlt (by omega) (by omega)), if_neg (by omega)]
    rfl
  | succ c ih =>
    intro j N A hj hN
    obtain ⟨N, rfl⟩ : ∃ N', N = N' + 2 := ⟨N - 2, by omega⟩
    rw [e_X7_minutesAt_10, h0, if_pos (nI_lt (by omega) (by omega))]
    by_cases e : i = j
    · subst e
      obtain ⟨N', n1, n2⟩ := mq_25 h hO (A := A) hi ha hb (Or.inr rfl) (1000 * c + 1) 480 0 (N + 1) (by omega) (by omega)
      have n2' : b_X7_minutesAt_25 (N + 1) (nI i) (nI a) (nI b) (nI A) (nI i) 0 σ = _ := n2
      rw [n2', ih (i + 1) N' _ (by omega) (by omega), if_neg (by omega), if_pos (by omega)]
      rfl
    · rw [e_X7_minutesAt_25, if_pos (by decide), if_neg (ne_m1 (by omega)), if_neg (fun h9 => e ((nI_eq (by omega) (by omega)).mp h9)), nI_1, ih (j + 1) N A (by omega) (by omega)]
      by_cases h2 : j ≤ i
      · rw [if_pos h2, if_pos (by omega)]
      · rw [if_neg h2, if_neg (by omega)]
theorem mq_10a (h : RR σ F) (hO : OkF F) (h0 : σ 2 18 = nI (F 0 0)) {a b : Nat} (ha : a < 2 ^ 20) (hb : b < 2 ^ 20) : ∀ (c j N : Nat), j + c = F 0 0 → 1000 * c < N → b_X7_minutesAt_10 N (-1) (nI a) (nI b) (nI (dA (rgB F a b) j)) (nI j) σ = some (some (some (.inl (nI (dA (rgB F a b) (F 0 0))))), σ) := by
  have h6 := hO.1
  intro c
  induction c with
  | zero =>
    intro j N hj hN
    obtain ⟨N, rfl⟩ : ∃ N', N = N' + 1 := ⟨N - 1, by omega⟩
    obtain rfl : j = F 0 0 := by omega
    rw [e_X7_minutesAt_10, h0, if_neg (nI_nlt (by omega) (by omega))]
  | succ c ih =>
    intro j N hj hN
    obtain ⟨N, rfl⟩ : ∃ N', N = N' + 1 := ⟨N - 1, by omega⟩
    obtain ⟨N', n1, n2⟩ := mq_25 h hO (A := dA (rgB F a b) j) (k := j) (by omega) ha hb (Or.inl rfl) (1000 * c + 1) 480 0 N (by omega) (by omega)
    have n2' : b_X7_minutesAt_25 N (-1) (nI a) (nI b) (nI (dA (rgB F a b) j)) (nI j) 0 σ = _ := n2
    rw [e_X7_minutesAt_10, h0, if_pos (nI_lt (by omega) (by omega)), n2']
    exact ih (j + 1) N' (by omega) (by omega)
/-- the first iron at a spot -/
theorem xq_on (h : WL l F 480) (hO : OkF F) {u s : Nat} (hu : u < 480) : ∀ (c j N : Nat), j + c = F 0 0 → c < N → b_X3_ironOnSpot_2 N (nI s) (nI u) (nI j) l = some (some (some (.inl (fdA (fun k => nI (mvA F (rnA F u) 1 k)) (nI s) c j))), l) := by
  have h6 := hO.1
  have h0 : l 16 0 = nI (F 0 0) := (wl_xf h).1
  intro c
  induction c with
  | zero =>
    intro j N hj hN
    obtain ⟨N, rfl⟩ : ∃ N', N = N' + 1 := ⟨N - 1, by omega⟩
    rw [e_X3_ironOnSpot_2, h0, if_neg (nI_nlt (by omega) (by omega))]
    rfl
  | succ c ih =>
    intro j N hj hN
    obtain ⟨N, rfl⟩ : ∃ N', N = N' + 1 := ⟨N - 1, by omega⟩
    have e1 : fdA (fun k => nI (mvA F (rnA F u) 1 k)) (nI s) (c + 1) j = if nI (mvA F (rnA F u) 1 j) = nI s then nI j else fdA (fun k => nI (mvA F (rnA F u) 1 k)) (nI s) c (j + 1) := rfl
    rw [e_X3_ironOnSpot_2, h0, if_pos (nI_lt (by omega) (by omega)), xq_spot h hO (by omega) hu, onI_s, e1, nI_1]
    by_cases e : nI (mvA F (rnA F u) 1 j) = nI s
    · rw [if_pos e, if_pos e]
    · rw [if_neg e, if_neg e]
      exact ih (j + 1) N (by omega) (by omega)
theorem mq_on (h : RR σ F) (hO : OkF F) (h0 : σ 2 18 = nI (F 0 0)) {u s : Nat} (hu : u < 480) : ∀ (c j N : Nat), j + c = F 0 0 → c < N → b_X7_ironIn_20 N (nI s) (nI u) (nI j) σ = some (some (some (.inl (fdA (fun k => nI (mvA F (rnA F u) 1 k)) (nI s) c j))), σ) := by
  have h6 := hO.1
  intro c
  induction c with
  | zero =>
    intro j N hj hN
    obtain ⟨N, rfl⟩ : ∃ N', N = N' + 1 := ⟨N - 1, by omega⟩
    rw [e_X7_ironIn_20, h0, if_neg (nI_nlt (by omega) (by omega))]
    rfl
  | succ c ih =>
    intro j N hj hN
    obtain ⟨N, rfl⟩ : ∃ N', N = N' + 1 := ⟨N - 1, by omega⟩
    have e1 : fdA (fun k => nI (mvA F (rnA F u) 1 k)) (nI s) (c + 1) j = if nI (mvA F (rnA F u) 1 j) = nI s then nI j else fdA (fun k => nI (mvA F (rnA F u) 1 k)) (nI s) c (j + 1) := rfl
    rw [e_X7_ironIn_20, h0, if_pos (nI_lt (by omega) (by omega)), ni6, if_pos (inb_nI (by omega) (by decide)), nI_clamp (by omega), h.2.2.1 j (by omega) u hu, e1, nI_1]
    by_cases e : nI (mvA F (rnA F u) 1 j) = nI s
    · rw [if_pos e, if_pos e]
    · rw [if_neg e, if_neg e]
      exact ih (j + 1) N (by omega) (by omega)
theorem fd_none {r : Nat → Int32} {y : Int32} {m : Nat} (hm : m ≤ 6) : ∀ (c j : Nat), j + c = m → (fdA r y c j = -1 ↔ ¬ ∃ k, j ≤ k ∧ k < m ∧ r k = y)
  | 0, j, h => ⟨fun _ ⟨k, h1, h2, _⟩ => by omega, fun _ => rfl⟩
  | c + 1, j, h => by
    have ih := fd_none (r := r) (y := y) hm c (j + 1) (by omega)
    have e1 : fdA r y (c + 1) j = if r j = y then nI j else fdA r y c (j + 1) := rfl
    rw [e1]
    by_cases e : r j = y
    · rw [if_pos e]
      exact ⟨fun h9 => absurd h9 (ne_m1 (by omega)), fun h9 => absurd ⟨j, Nat.le_refl _, by omega, e⟩ h9⟩
    · rw [if_neg e, ih]
      constructor
      · rintro h9 ⟨k, h1, h2, h3⟩
        have : k ≠ j := fun h8 => e (h8 ▸ h3)
        exact h9 ⟨k, by omega, h2, h3⟩
      · rintro h9 ⟨k, h1, h2, h3⟩
        exact h9 ⟨k, by omega, h2, h3⟩
theorem xq_used (h : WL l F 480) (hO : OkF F) {s : Nat} (hs : s < 2 ^ 20) : ∀ (c t N : Nat), t + c = 480 → c < N → b_X3_minutesUsed_4 N (nI s) (nI (cA (fun u => anyB (fun k => rgB F s s k u) (F 0 0)) t)) (nI t) l = some (some (some (.inl (nI (cA (fun u => anyB (fun k => rgB F s s k u) (F 0 0)) 480)))), l) := by
  have h6 := hO.1
  intro c
  induction c with
  | zero =>
    intro t N ht hN
    obtain ⟨N, rfl⟩ : ∃ N', N = N' + 1 := ⟨N - 1, by omega⟩
    obtain rfl : t = 480 := by omega
    rw [e_X3_minutesUsed_4, if_neg (show ¬ nI 480 < 480 by decide)]
  | succ c ih =>
    intro t N ht hN
    obtain ⟨N, rfl⟩ : ∃ N', N = N' + 1 := ⟨N - 1, by omega⟩
    have ih' := ih (t + 1) N (by omega) (by omega)
    rw [cA_S] at ih'
    have e0 : f_X3_ironOnSpot [.inr (.inl 0), .inl (nI s), .inl (nI t)] l = _ := (e_X3_ironOnSpot _ _ _).trans (xq_on h hO (s := s) (show t < 480 by omega) (F 0 0) 0 bigM (by omega) (by unfold bigM; omega))
    rw [e_X3_minutesUsed_4, if_pos (show nI t < 480 from nI_lt (b := 480) (by omega) (by decide)), e0, onI_s, nI_1, nI_1]
    have hf := fd_none (r := fun k => nI (mvA F (rnA F t) 1 k)) (y := nI s) h6 (F 0 0) 0 (by omega)
    have ha := any_iff (q := fun k => rgB F s s k t) (F 0 0)
    by_cases e : anyB (fun k => rgB F s s k t) (F 0 0) = true
    · obtain ⟨k, hk, h2⟩ := ha.mp e
      unfold rgB at h2
      rw [decide_eq_true_iff] at h2
      rw [e, if_pos rfl] at ih'
      rw [if_neg (fun h9 => hf.mp h9 ⟨k, Nat.zero_le _, hk, by show nI _ = nI s; congr 1; omega⟩)]
      exact ih'
    · rw [if_neg e] at ih'
      rw [if_pos (hf.mpr (fun ⟨k, _, hk, h2⟩ => e (ha.mpr ⟨k, hk, ?_⟩)))]
      · exact ih'
      · have hl := mv_loc hO t hk
        have : mvA F (rnA F t) 1 k = s := (nI_eq (by omega) (by omega)).mp h2
        unfold rgB
        exact decide_eq_true (by omega)
theorem used_eq (hO : OkF F) {s : Nat} (hs : 1 ≤ s) : dA (rgB F s s) (F 0 0) = cA (fun u => anyB (fun k => rgB F s s k u) (F 0 0)) 480 := by
  refine dA_any _ (fun u hu k k' hk hk' h1 h2 => ?_)
  unfold rgB at h1 h2
  rw [decide_eq_true_iff] at h1 h2
  exact mv_uni hO u hk hk' hs (by omega) (by omega)
end QL
