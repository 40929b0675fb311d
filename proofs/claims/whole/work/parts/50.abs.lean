/-! the mathematics: numbers, and what a forge is -/
theorem onI_s {x : Int32} {τ : Mm} {th : Mm → Option Ou} {κ : Int32 → Mm → Option Ou} : onI (some (some (some (.inl x)), τ)) th κ = κ x τ := rfl
theorem onI_t {τ : Mm} {th : Mm → Option Ou} {κ : Int32 → Mm → Option Ou} : onI (some (none, τ)) th κ = th τ := rfl
theorem onV_s {τ : Mm} {th κ : Mm → Option Ou} : onV (some (some none, τ)) th κ = κ τ := rfl
theorem onV_t {τ : Mm} {th κ : Mm → Option Ou} : onV (some (none, τ)) th κ = th τ := rfl
theorem onA_s {τ : Mm} {j : Nat} {th κ : Mm → Option Ou} : onA (some (some (some (.inr (.inl j))), τ)) j th κ = κ τ := by
  show cond (Nat.beq j j) (κ τ) none = _
  rw [Nat.beq_refl]
  rfl
theorem inb_nI {i n : Nat} (h : i < n) (hn : n < 2 ^ 31) : inb (nI i) n = true := by
  unfold inb
  rw [nI_clamp (by omega)]
  simp only [Bool.and_eq_true, decide_eq_true_eq]
  exact ⟨nI_pos' (by omega), h⟩
theorem inb_out {x : Int32} {n : Nat} (hn : n < 2 ^ 31) : inb x n = true ↔ ∃ i, i < n ∧ x = nI i := by
  constructor
  · intro h
    simp only [inb, Bool.and_eq_true, decide_eq_true_eq] at h
    obtain ⟨j, hj, rfl⟩ := nI_of (Int32.not_lt.mpr h.1)
    rw [nI_clamp hj] at h
    exact ⟨j, h.2, rfl⟩
  · rintro ⟨i, hi, rfl⟩
    exact inb_nI hi hn
theorem wr_same {σ : Mm} {k i : Nat} {v : Int32} : wr σ k i v k i = v := by simp [wr, va_up, upd]
theorem wr_cell {σ : Mm} {k k' i j : Nat} {v : Int32} (h : k' ≠ k) : wr σ k i v k' j = σ k' j := by simp [wr, va_up, h]
theorem wr_place {σ : Mm} {k i j : Nat} {v : Int32} (h : j ≠ i) : wr σ k i v k j = σ k j := by simp [wr, va_up, upd, h]
theorem wr_at (σ : Mm) (k i k' j : Nat) (v : Int32) : wr σ k i v k' j = if k' = k ∧ j = i then v else σ k' j := by
  unfold wr va_up upd
  by_cases h1 : k' = k
  · subst h1
    by_cases h2 : j = i <;> simp [h2]
  · simp [h1]
theorem pp0 (σ : Mm) : put sg0 σ (pk sg0 σ) = σ := rfl
theorem pkC (b n : Nat) (σ : Mm) (j : Nat) : pk (sgC b n) σ j = σ (b + j) := rfl
theorem putC_in {b n : Nat} {σ τ : Mm} {j : Nat} (h : j < n) : put (sgC b n) σ τ (b + j) = τ j := by
  unfold put
  rw [sgC_get h]
theorem putC_out {b n : Nat} {σ τ : Mm} {k : Nat} (h : k < b ∨ b + n ≤ k) : put (sgC b n) σ τ k = σ k := by
  unfold put
  have : (sgC b n).2 k = none := by
    cases h9 : (sgC b n).2 k with
    | none => rfl
    | some j =>
      have := sgC_inv h9
      omega
  rw [this]
theorem putC_id (b n : Nat) (σ : Mm) : put (sgC b n) σ (pk (sgC b n) σ) = σ := by
  funext k
  by_cases h : b ≤ k ∧ k < b + n
  · obtain ⟨j, rfl⟩ : ∃ j, k = b + j := ⟨k - b, by omega⟩
    rw [putC_in (by omega)]
    rfl
  · exact putC_out (by omega)
/-! an abstract forge: 0 (irons, places), 1 names, 2 masses, 3 coolings, 4 counts of steps, 5 heats and 6 minutes of steps (5 i + s), 7 rates, 8 limits, 9 settings, 10 the order -/
abbrev Fg : Type := Nat → Nat → Nat
def OkF (F : Fg) : Prop := F 0 0 ≤ 6 ∧ F 0 1 ≤ 3 ∧ (∀ i, i < F 0 0 → (1 ≤ F 2 i ∧ F 2 i ≤ 9) ∧ (1 ≤ F 3 i ∧ F 3 i ≤ 99) ∧ F 4 i ≤ 5 ∧ (∀ s, s < F 4 i → (100 ≤ F 5 (5 * i + s) ∧ F 5 (5 * i + s) ≤ 1400) ∧ (1 ≤ F 6 (5 * i + s) ∧ F 6 (5 * i + s) ≤ 30)) ∧ F 10 i < F 0 0) ∧ (∀ i j, i < F 0 0 → j < F 0 0 → F 10 i = F 10 j → i = j) ∧ (∀ j, j < F 0 1 → (1 ≤ F 7 j ∧ F 7 j ≤ 2000) ∧ (100 ≤ F 8 j ∧ F 8 j ≤ 1500)) ∧ (1 ≤ F 9 0 ∧ F 9 0 ≤ 3) ∧ F 9 1 ≤ 500 ∧ F 9 2 ≤ 2 ∧ (∀ k, k < F 0 0 → ∃ i, i < F 0 0 ∧ F 10 i = k)
/-- the class's forge (its eleven cells from b on) is F -/
def XF (φ : Mm) (b : Nat) (F : Fg) : Prop := φ b 0 = nI (F 0 0) ∧ φ b 1 = nI (F 0 1) ∧ (∀ i, i < F 0 0 → φ (b + 2) i = nI (F 2 i) ∧ φ (b + 3) i = nI (F 3 i) ∧ φ (b + 4) i = nI (F 4 i) ∧ φ (b + 10) i = nI (F 10 i) ∧ (∀ s, s < F 4 i → φ (b + 5) (5 * i + s) = nI (F 5 (5 * i + s)) ∧ φ (b + 6) (5 * i + s) = nI (F 6 (5 * i + s))) ∧ φ (b + 1) i = nI (F 1 i)) ∧ (∀ j, j < F 0 1 → φ (b + 7) j = nI (F 7 j) ∧ φ (b + 8) j = nI (F 8 j)) ∧ (∀ t, t < 3 → φ (b + 9) t = nI (F 9 t))
theorem XF_eq {φ φ' : Mm} {b : Nat} {F : Fg} (g : ∀ c j, b ≤ c → c < b + 11 → φ' c j = φ c j) (h : XF φ b F) : XF φ' b F := by
  obtain ⟨x1, x2, x3, x4, x5⟩ := h
  refine ⟨by rw [g _ _ (by omega) (by omega)]; exact x1, by rw [g _ _ (by omega) (by omega)]; exact x2, fun i hi => ?_, fun j hj => ?_, fun t ht => ?_⟩
  · rw [g _ _ (by omega) (by omega), g _ _ (by omega) (by omega), g _ _ (by omega) (by omega), g _ _ (by omega) (by omega), g (b + 1) _ (by omega) (by omega)]
    obtain ⟨y1, y2, y3, y4, y5, y6⟩ := x3 i hi
    refine ⟨y1, y2, y3, y4, fun s hs => ?_, y6⟩
    rw [g _ _ (by omega) (by omega), g _ _ (by omega) (by omega)]
    exact y5 s hs
  · rw [g _ _ (by omega) (by omega), g _ _ (by omega) (by omega)]
    exact x4 j hj
  · rw [g _ _ (by omega) (by omega)]
    exact x5 t ht
/-- the reference's rows (what is told, what changes; of the latter from d on) are F -/
def MF (T N : Nat → Int32) (d : Nat) (F : Fg) : Prop := T 18 = nI (F 0 0) ∧ T 19 = nI (F 0 1) ∧ (∀ i, i < F 0 0 → T (6 + i) = nI (F 2 i) ∧ T (12 + i) = nI (F 3 i) ∧ N (d + i) = nI (F 4 i) ∧ N (d + 72 + i) = nI (F 10 i) ∧ (∀ s, s < F 4 i → N (d + 6 + (5 * i + s)) = nI (F 5 (5 * i + s)) ∧ N (d + 36 + (5 * i + s)) = nI (F 6 (5 * i + s))) ∧ T i = nI (F 1 i)) ∧ (∀ j, j < F 0 1 → N (d + 66 + j) = nI (F 7 j) ∧ N (d + 69 + j) = nI (F 8 j)) ∧ (∀ t, t < 3 → N (d + 78 + t) = nI (F 9 t))
/-! the class's tests -/
theorem sp_isWithin (x a b : Int32) (σ : Mm) : f_X6_isWithin [.inl x, .inl a, .inl b] σ = some (some (some (.inl (if a ≤ x ∧ x ≤ b then 1 else 0))), σ) := by
  rw [e_X6_isWithin]
  by_cases h1 : x < a
  · rw [if_pos h1, if_neg (fun h => absurd h1 (Int32.not_lt.mpr h.1))]
  · rw [if_neg h1]
    by_cases h2 : b < x
    · rw [if_pos h2, if_neg (fun h => absurd h2 (Int32.not_lt.mpr h.2))]
    · rw [if_neg h2, if_pos ⟨Int32.not_lt.mp h1, Int32.not_lt.mp h2⟩]
theorem within_iff {x : Int32} {k : Nat} (hk : k < 2 ^ 31) : (0 ≤ x ∧ x ≤ nI k - 1) ↔ ∃ i, i < k ∧ x = nI i := by
  cases k with
  | zero =>
    constructor
    · rintro ⟨h1, h2⟩
      have h3 : (nI 0 - 1 : Int32) = -1 := by decide
      rw [h3] at h2
      have h4 := Int32.le_trans h1 h2
      exact absurd h4 (by decide)
    · rintro ⟨i, hi, -⟩
      omega
  | succ k =>
    rw [nI_pred]
    constructor
    · rintro ⟨h1, h2⟩
      obtain ⟨j, hj, rfl⟩ := nI_of (Int32.not_lt.mpr h1)
      rw [nI_leI hj (by omega)] at h2
      exact ⟨j, by omega, rfl⟩
    · rintro ⟨i, hi, rfl⟩
      exact ⟨nI_pos' (by omega), (nI_leI (by omega) (by omega)).mpr (by omega)⟩
theorem sp_isIron {σ : Mm} {k : Nat} (hk : k ≤ 6) (h : σ 32 0 = nI k) (x : Int32) : f_X6_isIron [.inr (.inl 0), .inl x] σ = some (some (some (.inl (if inb x k = true then 1 else 0))), σ) := by
  have e : (0 ≤ x ∧ x ≤ nI k - 1) ↔ inb x k = true := by rw [inb_out (by omega)]; exact within_iff (by omega)
  rw [e_X6_isIron, h, sp_isWithin]
  rw [onI_s, pp0]
  by_cases hi : inb x k = true
  · rw [if_pos (e.mpr hi), if_pos hi, if_pos (Or.inr rfl)]
  · rw [if_neg (fun h9 => hi (e.mp h9)), if_neg hi, if_pos (Or.inl rfl)]
theorem sp_isPlace {σ : Mm} {k : Nat} (hk : k ≤ 6) (h : σ 32 1 = nI k) (x : Int32) : f_X6_isPlace [.inr (.inl 0), .inl x] σ = some (some (some (.inl (if inb x k = true then 1 else 0))), σ) := by
  have e : (0 ≤ x ∧ x ≤ nI k - 1) ↔ inb x k = true := by rw [inb_out (by omega)]; exact within_iff (by omega)
  rw [e_X6_isPlace, h, sp_isWithin]
  rw [onI_s, pp0]
  by_cases hi : inb x k = true
  · rw [if_pos (e.mpr hi), if_pos hi, if_pos (Or.inr rfl)]
  · rw [if_neg (fun h9 => hi (e.mp h9)), if_neg hi, if_pos (Or.inl rfl)]
theorem sp_reqIron {σ : Mm} {k : Nat} (hk : k ≤ 6) (h : σ 32 0 = nI k) (x : Int32) : f_X6_requireIron [.inr (.inl 0), .inl x] σ = (if inb x k = true then some (some none, σ) else some (none, σ)) := by
  rw [e_X6_requireIron, sp_isIron hk h]
  by_cases hi : inb x k = true
  · rw [if_pos hi, if_pos hi]; rfl
  · rw [if_neg hi, if_neg hi]; rfl
theorem sp_reqPlace {σ : Mm} {k : Nat} (hk : k ≤ 6) (h : σ 32 1 = nI k) (x : Int32) : f_X6_requirePlace [.inr (.inl 0), .inl x] σ = (if inb x k = true then some (some none, σ) else some (none, σ)) := by
  rw [e_X6_requirePlace, sp_isPlace hk h]
  by_cases hi : inb x k = true
  · rw [if_pos hi, if_pos hi]; rfl
  · rw [if_neg hi, if_neg hi]; rfl
theorem sp_reqAnvil {σ : Mm} {k : Nat} (hk : k ≤ 6) (h : σ 41 0 = nI k) (x : Int32) : f_X6_requireAnvil [.inr (.inl 0), .inl x] σ = (if inb x k = true then some (some none, σ) else some (none, σ)) := by
  have e : (0 ≤ x ∧ x ≤ nI k - 1) ↔ inb x k = true := by rw [inb_out (by omega)]; exact within_iff (by omega)
  rw [e_X6_requireAnvil, h, sp_isWithin]
  by_cases hi : inb x k = true
  · rw [if_pos (e.mpr hi), if_pos hi]; rfl
  · rw [if_neg (fun h9 => hi (e.mp h9)), if_neg hi]; rfl
/-! the reference's tests -/
theorem lt_inb {x : Int32} {k : Nat} (hk : k < 2 ^ 31) : (¬ x < 0 ∧ x < nI k) ↔ inb x k = true := by
  rw [inb_out hk]
  constructor
  · rintro ⟨h1, h2⟩
    obtain ⟨j, hj, rfl⟩ := nI_of h1
    rw [nI_ltI hj hk] at h2
    exact ⟨j, h2, rfl⟩
  · rintro ⟨i, hi, rfl⟩
    exact ⟨nI_pos (by omega), (nI_ltI (by omega) hk).mpr hi⟩
theorem sm_isIron {σ : Mm} {k : Nat} (hk : k ≤ 6) (h : σ 2 18 = nI k) (x : Int32) : f_X7_isIron [.inr (.inl 0), .inl x] σ = some (some (some (.inl (if inb x k = true then 1 else 0))), σ) := by
  rw [e_X7_isIron, h]
  by_cases hi : inb x k = true
  · obtain ⟨h1, h2⟩ := (lt_inb (by omega)).mpr hi
    rw [if_neg h1, if_pos h2, if_pos hi]
  · rw [if_neg hi]
    by_cases h1 : x < 0
    · rw [if_pos h1]
    · rw [if_neg h1, if_neg (fun h2 => hi ((lt_inb (by omega)).mp ⟨h1, h2⟩))]
theorem sm_isPlace {σ : Mm} {k : Nat} (hk : k ≤ 6) (h : σ 2 19 = nI k) (x : Int32) : f_X7_isPlace [.inr (.inl 0), .inl x] σ = some (some (some (.inl (if inb x k = true then 1 else 0))), σ) := by
  rw [e_X7_isPlace, h]
  by_cases hi : inb x k = true
  · obtain ⟨h1, h2⟩ := (lt_inb (by omega)).mpr hi
    rw [if_neg h1, if_pos h2, if_pos hi]
  · rw [if_neg hi]
    by_cases h1 : x < 0
    · rw [if_pos h1]
    · rw [if_neg h1, if_neg (fun h2 => hi ((lt_inb (by omega)).mp ⟨h1, h2⟩))]
theorem sm_checks {σ : Mm} (p : Bool) : f_X7_checks [.inr (.inl 0), .inl (if p = true then 1 else 0)] σ = some (some (some (.inl (if p = true then 1 else 0))), wr σ 0 0 (if p = true then 0 else 1)) := by
  rw [e_X7_checks]
  cases p <;> rfl
theorem n6 (i : Nat) : (6 : Int32) + nI i = nI (6 + i) := nI_add 6 i
theorem n12 (i : Nat) : (12 : Int32) + nI i = nI (12 + i) := nI_add 12 i
theorem n0 (i : Nat) : (0 : Int32) + nI i = nI (0 + i) := nI_add 0 i
theorem n66 (i : Nat) : (66 : Int32) + nI i = nI (66 + i) := nI_add 66 i
theorem n69 (i : Nat) : (69 : Int32) + nI i = nI (69 + i) := nI_add 69 i
theorem n72 (i : Nat) : (72 : Int32) + nI i = nI (72 + i) := nI_add 72 i
theorem n78 (i : Nat) : (78 : Int32) + nI i = nI (78 + i) := nI_add 78 i
/-- the two forges are one -/
def Fr (σX σM : Mm) (F : Fg) : Prop := OkF F ∧ XF σX 32 F ∧ MF (σM 2) (σM 4) 0 F
section GET
variable {x : Nat → Int32} {n : Nat} {ρ : Nat → Mm} {σX σM : Mm} {I : Iv} {F : Fg}
theorem gg_3 (hF : Fr σX σM F) (hI : ∀ v, I n ρ σX (wr σM 0 0 v)) : go_3 x n ρ σX σM I := by
  obtain ⟨hO, hX, hM⟩ := hF
  refine ⟨nI (F 0 0), σX, wr σM 0 0 0, ?_, ?_, hI 0⟩
  · rw [e_X6_ironCount, hX.1]
  · rw [e_X7_ironCount, hM.1]
theorem gg_4 (hF : Fr σX σM F) (hI : ∀ v, I n ρ σX (wr σM 0 0 v)) : go_4 x n ρ σX σM I := by
  obtain ⟨hO, hX, hM⟩ := hF
  refine ⟨nI (F 0 1), σX, wr σM 0 0 0, ?_, ?_, hI 0⟩
  · rw [e_X6_placeCount, hX.2.1]
  · rw [e_X7_placeCount, hM.2.1]
theorem gg_7 (hF : Fr σX σM F) (hI : ∀ v, I n ρ σX (wr σM 0 0 v)) : go_7 x n ρ σX σM I := by
  obtain ⟨hO, hX, hM⟩ := hF
  have h6 := hO.1
  unfold go_7 GT
  rw [e_X6_mass, sp_reqIron hO.1 hX.1, e_X7_mass, sm_isIron hO.1 hM.1, onI_s, sm_checks, onI_s]
  by_cases hi : inb (x 1) (F 0 0) = true
  · left
    obtain ⟨i, hi9, e9⟩ := (inb_out (by omega)).mp hi
    simp only [if_pos hi, onV_s]
    refine ⟨nI (F 2 i), σX, wr σM 0 0 0, ?_, ?_, wr_same, hI 0⟩
    · rw [e9, if_pos (inb_nI (by omega) (by decide)), nI_clamp (by omega), (hX.2.2.1 i hi9).1]
    · rw [if_neg (by decide), e9, n6, if_pos (inb_nI (by omega) (by decide)), nI_clamp (by omega), wr_cell (by decide), (hM.2.2.1 i hi9).1]
  · right
    simp only [if_neg hi, onV_t]
    exact ⟨0, σX, wr σM 0 0 1, rfl, rfl, wr_same, hI 1⟩
end GET
