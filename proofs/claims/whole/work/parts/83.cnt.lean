/-! counting -/
def cA (p : Nat → Bool) : Nat → Nat
  | 0 => 0
  | c + 1 => cA p c + (if p c = true then 1 else 0)
def dA (q : Nat → Nat → Bool) : Nat → Nat
  | 0 => 0
  | k + 1 => dA q k + cA (q k) 480
def anyB (q : Nat → Bool) : Nat → Bool
  | 0 => false
  | k + 1 => anyB q k || q k
section CNT
theorem cA_cg {p q : Nat → Bool} : ∀ c, (∀ u, u < c → p u = q u) → cA p c = cA q c
  | 0, _ => rfl
  | c + 1, h => by
    unfold cA
    rw [cA_cg c (fun u hu => h u (by omega)), h c (by omega)]
theorem cA_le {p : Nat → Bool} : ∀ c, cA p c ≤ c
  | 0 => Nat.le_refl _
  | c + 1 => by
    unfold cA
    have := cA_le (p := p) c
    split <;> omega
theorem cA_add {p q : Nat → Bool} : ∀ c, (∀ u, u < c → ¬ (p u = true ∧ q u = true)) → cA (fun u => p u || q u) c = cA p c + cA q c
  | 0, _ => rfl
  | c + 1, h => by
    have ih := cA_add c (fun u hu => h u (by omega))
    have h9 := h c (by omega)
    unfold cA
    rw [ih]
    cases hp : p c <;> cases hq : q c
    · rfl
    · simp; omega
    · simp; omega
    · exact absurd ⟨hp, hq⟩ h9
theorem any_iff {q : Nat → Bool} : ∀ n, anyB q n = true ↔ ∃ k, k < n ∧ q k = true
  | 0 => ⟨fun h => (by cases h), fun ⟨k, h, _⟩ => absurd h (Nat.not_lt_zero k)⟩
  | n + 1 => by
    unfold anyB
    rw [Bool.or_eq_true, any_iff n]
    constructor
    · rintro (⟨k, h1, h2⟩ | h)
      · exact ⟨k, by omega, h2⟩
      · exact ⟨n, by omega, h⟩
    · rintro ⟨k, h1, h2⟩
      by_cases e : k = n
      · exact Or.inr (e ▸ h2)
      · exact Or.inl ⟨k, by omega, h2⟩
theorem dA_any {q : Nat → Nat → Bool} : ∀ n, (∀ u, u < 480 → ∀ k k', k < n → k' < n → q k u = true → q k' u = true → k = k') → dA q n = cA (fun u => anyB (fun k => q k u) n) 480
  | 0, _ => by
    show 0 = cA (fun _ => false) 480
    have : ∀ c, cA (fun _ => false) c = 0 := by
      intro c
      induction c with
      | zero => rfl
      | succ c ih => unfold cA; rw [ih]; rfl
    rw [this]
  | n + 1, h => by
    unfold dA
    rw [dA_any n (fun u hu k k' h1 h2 => h u hu k k' (by omega) (by omega)), ← cA_add 480 (fun u hu h9 => ?_)]
    · rfl
    · obtain ⟨k, h1, h2⟩ := (any_iff n).mp h9.1
      have := h u hu k n (by omega) (by omega) h2 h9.2
      omega
theorem any_lt {q : Nat → Bool} : ∀ n, (cA q n < n ↔ ∃ k, k < n ∧ q k = false)
  | 0 => ⟨fun h => (by cases h), fun ⟨k, h, _⟩ => absurd h (Nat.not_lt_zero k)⟩
  | n + 1 => by
    have ih := any_lt (q := q) n
    have hl := cA_le (p := q) n
    unfold cA
    cases hq : q n with
    | true =>
      rw [if_pos rfl]
      constructor
      · intro h
        obtain ⟨k, h1, h2⟩ := ih.mp (by omega)
        exact ⟨k, by omega, h2⟩
      · rintro ⟨k, h1, h2⟩
        have : k ≠ n := fun e => by rw [e, hq] at h2; cases h2
        have := ih.mpr ⟨k, by omega, h2⟩
        omega
    | false =>
      rw [if_neg (by decide)]
      exact ⟨fun _ => ⟨n, by omega, hq⟩, fun _ => by omega⟩
end CNT
/-! what the log and the rows hold -/
section ROWS
variable {F : Fg} {l σ : Mm}
theorem wl_h (h : WL l F 480) {k u : Nat} (hk : k < F 0 0) (hu : u ≤ 480) : l 1 (481 * k + u) = nI (rnA F u 0 k) := h.1 k hk u hu
theorem wl_d (h : WL l F 480) {k u : Nat} (hk : k < F 0 0) (hu : u ≤ 480) : l 2 (481 * k + u) = nI (rnA F u 2 k) := h.2.1 k hk u hu
theorem wl_s (h : WL l F 480) {k u : Nat} (hk : k < F 0 0) (hu : u < 480) : l 3 (480 * k + u) = nI (mvA F (rnA F u) 1 k) := h.2.2.1 k hk u hu
theorem wl_xr {σ : Mm} (h : WL (pk (sgC 16 27) σ) F 480) : XR (pk (sgC 20 23) σ) F (rnA F 480) := by
  refine xr_ext (fun c hc => ?_) h.2.2.2
  rw [pkC, pkC, pkC]
  congr 1
  omega
theorem mv_loc (hO : OkF F) {k : Nat} (u : Nat) (hk : k < F 0 0) : mvA F (rnA F u) 1 k = 0 ∨ (1 ≤ mvA F (rnA F u) 1 k ∧ mvA F (rnA F u) 1 k ≤ 3) ∨ (10 ≤ mvA F (rnA F u) 1 k ∧ mvA F (rnA F u) 1 k < 13) := loc3 hO (si_mv hO (si_rn hO u)).1 hk
theorem mv_uni (hO : OkF F) (u : Nat) {k k' v : Nat} (hk : k < F 0 0) (hk' : k' < F 0 0) (hv : 1 ≤ v) (h1 : mvA F (rnA F u) 1 k = v) (h2 : mvA F (rnA F u) 1 k' = v) : k = k' := (si_mv hO (si_rn hO u)).1.2.1 k k' hk hk' (by omega) (by omega)
/-- finished at a minute: as the last state tells it -/
theorem dn_time (hO : OkF F) {k u : Nat} (hk : k < F 0 0) (hu : u ≤ 480) : rnA F u 2 k = F 4 k ↔ (1 ≤ rnA F 480 4 k ∧ rnA F 480 4 k ≤ u + 1) := by
  obtain ⟨v, hv⟩ : ∃ v, 480 = u + v := ⟨480 - u, by omega⟩
  have hT := ti_rn hO 480 k hk
  have hS := ((si_rn hO 480).1 k hk).1
  constructor
  · intro h
    have h1 := dn_mono hO hk h v
    rw [← hv] at h1
    have h2 := (ti_rn hO u k hk).2 h
    rw [h1.2]
    exact h2
  · rintro ⟨h1, h2⟩
    have h3 : rnA F 480 2 k = F 4 k := by
      by_cases e : rnA F 480 2 k = F 4 k
      · exact e
      · have := hT.1 (by omega)
        omega
    have := dn_back (t := u) hO hk v
    rw [← hv] at this
    exact this h3 h2
theorem fin_le (hO : OkF F) {k : Nat} (hk : k < F 0 0) : rnA F 480 4 k ≤ 481 := by
  have hT := ti_rn hO 480 k hk
  have hS := ((si_rn hO 480).1 k hk).1
  by_cases e : rnA F 480 2 k = F 4 k
  · have := hT.2 e; omega
  · have := hT.1 (by omega); omega
end ROWS
