/-! the class's run holds an abstract state; what its tests answer -/
def SI (F : Fg) (np : Nat) (S : Fg) : Prop := (∀ k, k < F 0 0 → S 2 k ≤ F 4 k ∧ (S 2 k < F 4 k → S 3 k < F 6 (5 * k + S 2 k)) ∧ (S 2 k = F 4 k → S 3 k = 0) ∧ (20 ≤ S 0 k ∧ S 0 k ≤ 1500) ∧ (S 1 k = 0 ∨ (1 ≤ S 1 k ∧ S 1 k ≤ np) ∨ (10 ≤ S 1 k ∧ S 1 k < 10 + F 9 0))) ∧ (∀ k k', k < F 0 0 → k' < F 0 0 → S 1 k = S 1 k' → S 1 k ≠ 0 → k = k') ∧ np ≤ 3
def cnA (F S : Fg) : Nat → Nat
  | 0 => 0
  | k + 1 => cnA F S k + (if dnA F S k = true then 0 else 1)
/-- the class's run (its cells, its forge from 12 on) is at S -/
def XR (τ : Mm) (F S : Fg) : Prop := XF τ 12 F ∧ (∀ k, k < F 0 0 → τ 1 k = nI (S 0 k) ∧ τ 2 k = nI (S 1 k) ∧ τ 3 k = nI (S 2 k) ∧ τ 6 k = nI (lfA F S k) ∧ τ 7 k = nI (S 4 k) - 1 ∧ τ 8 k = nI (S 5 k) ∧ τ 9 k = nI (S 6 k) ∧ (S 2 k < F 4 k → τ 4 k = nI (F 6 (5 * k + S 2 k) - S 3 k) ∧ τ 5 k = nI (ndA F S k))) ∧
  (∀ v, v < 3 → (∀ k, k < F 0 0 → S 1 k = 10 + v → τ 10 v = nI k) ∧ ((∀ k, k < F 0 0 → S 1 k ≠ 10 + v) → τ 10 v = -1)) ∧ (∀ v, v < 3 → (∀ k, k < F 0 0 → S 1 k = 1 + v → τ 11 v = nI k) ∧ ((∀ k, k < F 0 0 → S 1 k ≠ 1 + v) → τ 11 v = -1)) ∧ τ 0 12 = nI (cnA F S (F 0 0))
def orF (F : Fg) : Nat → Nat → List Nat
  | _, 0 => []
  | j, c + 1 => F 10 j :: orF F (j + 1) c
def orL (F : Fg) : List Nat := orF F 0 (F 0 0)
def opI : Option Nat → Int32
  | none => -1
  | some k => nI k
section VAL
variable {τ : Mm} {F S : Fg} {np k b : Nat}
theorem sm_le (hO : OkF F) (hk : k < F 0 0) : ∀ (c s : Nat), s + c ≤ F 4 k → smA F k s c ≤ 30 * c
  | 0, s, _ => Nat.le_refl _
  | c + 1, s, h => by
    have h1 := sm_le hO hk c (s + 1) (by omega)
    have h2 := ((hO.2.2.1 k hk).2.2.2.1 s (by omega)).2.2
    show F 6 (5 * k + s) + smA F k (s + 1) c ≤ _
    omega
theorem lf_le (hO : OkF F) (hS : SI F np S) (hk : k < F 0 0) : lfA F S k ≤ 150 := by
  have h1 := (hS.1 k hk).1
  have h2 := sm_le hO hk (F 4 k - S 2 k) (S 2 k) (by omega)
  have h3 := (hO.2.2.1 k hk).2.2.1
  unfold lfA
  omega
theorem lf_zero (hO : OkF F) (hS : SI F np S) (hk : k < F 0 0) : lfA F S k = 0 ↔ dnA F S k = true := by
  obtain ⟨h1, h2, h3, -, -⟩ := hS.1 k hk
  unfold dnA lfA
  rw [decide_eq_true_eq]
  constructor
  · intro h
    by_cases h4 : S 2 k < F 4 k
    · have h5 := h2 h4
      obtain ⟨c, hc⟩ : ∃ c, F 4 k - S 2 k = c + 1 := ⟨F 4 k - S 2 k - 1, by omega⟩
      rw [hc] at h
      have : smA F k (S 2 k) (c + 1) = F 6 (5 * k + S 2 k) + smA F k (S 2 k + 1) c := rfl
      omega
    · omega
  · intro h
    rw [h, Nat.sub_self]
    show 0 - S 3 k = 0
    omega
theorem loc_lt (hO : OkF F) (hS : SI F np S) (hk : k < F 0 0) : S 1 k < 2 ^ 31 := by
  have h1 := hO.2.2.2.2.2.1
  have h2 := hS.2.2
  have h3 := (hS.1 k hk).2.2.2.2
  omega
theorem xv_fin (hO : OkF F) (hS : SI F np S) (h : XR τ F S) (hk : k < F 0 0) : f_X5_isFinished [.inr (.inl 0), .inl (nI k)] τ = some (some (some (.inl (if dnA F S k = true then 1 else 0))), τ) := by
  have h6 := hO.1
  rw [e_X5_isFinished, if_pos (inb_nI (by omega) (by decide)), nI_clamp (by omega), (h.2.1 k hk).2.2.2.1]
  have h1 := lf_le hO hS hk
  have h2 := lf_zero hO hS hk
  by_cases hd : dnA F S k = true
  · rw [if_pos hd, h2.mpr hd]
    rfl
  · rw [if_neg hd, if_neg (nI_ne0 (Nat.pos_of_ne_zero (fun h9 => hd (h2.mp h9))) (by omega))]
theorem xv_rd (hO : OkF F) (hS : SI F np S) (h : XR τ F S) (hk : k < F 0 0) : f_X5_isReady [.inr (.inl 0), .inl (nI k)] τ = some (some (some (.inl (if rdA F S k = true then 1 else 0))), τ) := by
  have h6 := hO.1
  have hi : inb (nI k) 6 = true := inb_nI (by omega) (by decide)
  obtain ⟨g1, g2, g3, g4, g5, g6, g7, g8⟩ := h.2.1 k hk
  obtain ⟨s1, s2, s3, s4, s5⟩ := hS.1 k hk
  have hl := lf_le hO hS hk
  have hz := lf_zero hO hS hk
  have hm := hO.2.2.2.2.2.2.1
  have hb : S 1 k < 2 ^ 31 := loc_lt hO hS hk
  rw [e_X5_isReady, if_pos hi, nI_clamp (by omega), g4]
  unfold rdA
  by_cases hd : dnA F S k = true
  · rw [hz.mpr hd, if_neg (by decide), hd]
    rfl
  · have hd' : dnA F S k = false := by simpa using hd
    have hlt : S 2 k < F 4 k := by
      unfold dnA at hd
      simp only [decide_eq_true_eq] at hd
      omega
    have hnd : ndA F S k ≤ 1400 := ((hO.2.2.1 k hk).2.2.2.1 (S 2 k) hlt).1.2
    obtain ⟨g81, g82⟩ := g8 hlt
    rw [if_pos (show (0 : Int32) < nI (lfA F S k) from nI_lt (a := 0) (Nat.pos_of_ne_zero (fun h9 => hd (hz.mp h9))) (by omega)), if_pos hi, g2, hd']
    by_cases h10 : S 1 k < 10
    · rw [if_pos (show nI (S 1 k) < 10 from nI_lt (b := 10) h10 (by decide)), if_pos hi, if_pos hi, g1, g82, h.1.2.2.2.2 1 (by decide), nI_add]
      by_cases hr : ndA F S k + F 9 1 ≤ S 0 k
      · rw [if_neg (nI_nlt hr (by omega))]
        simp [h10, hr]
      · rw [if_pos (nI_lt (by omega) (by omega))]
        simp [h10, hr]
    · rw [if_neg (show ¬ nI (S 1 k) < 10 from nI_nlt (b := 10) (by omega) hb)]
      simp [h10]
theorem xv_bt (hO : OkF F) (hS : SI F np S) (h : XR τ F S) (hk : k < F 0 0) (hb : b < F 0 0) : f_X5_goesBefore [.inr (.inl 0), .inl (nI k), .inl (nI b)] τ = some (some (some (.inl (if btA F S k b = true then 1 else 0))), τ) := by
  have h6 := hO.1
  have hi : inb (nI k) 6 = true := inb_nI (by omega) (by decide)
  have hj : inb (nI b) 6 = true := inb_nI (by omega) (by decide)
  have hr := hO.2.2.2.2.2.2.2.1
  obtain ⟨g1, g2, g3, g4, -⟩ := h.2.1 k hk
  obtain ⟨b1, b2, b3, b4, -⟩ := h.2.1 b hb
  have hl1 := lf_le hO hS hk
  have hl2 := lf_le hO hS hb
  have hs1 := (hS.1 k hk).2.2.2.1
  have hs2 := (hS.1 b hb).2.2.2.1
  rw [e_X5_goesBefore, h.1.2.2.2.2 2 (by decide), if_pos hi, if_pos hi, if_pos hj, if_pos hj, nI_clamp (by omega), nI_clamp (by omega), g1, g4, b1, b4]
  unfold btA
  by_cases r1 : F 9 2 = 1
  · rw [if_pos (by rw [r1]; rfl), if_pos r1]
    by_cases hh : S 0 b < S 0 k
    · rw [if_pos (nI_lt hh (by omega))]; simp [hh]
    · rw [if_neg (nI_nlt (by omega) (by omega))]; simp [hh]
  · rw [if_neg (show ¬ nI (F 9 2) = 1 from fun h9 => r1 ((nI_eq (b := 1) (by omega) (by decide)).mp h9)), if_neg r1]
    by_cases r2 : F 9 2 = 2
    · rw [if_pos (by rw [r2]; rfl), if_pos r2]
      by_cases hh : lfA F S k < lfA F S b
      · rw [if_pos (nI_lt hh (by omega))]; simp [hh]
      · rw [if_neg (nI_nlt (by omega) (by omega))]; simp [hh]
    · rw [if_neg (show ¬ nI (F 9 2) = 2 from fun h9 => r2 ((nI_eq (b := 2) (by omega) (by decide)).mp h9)), if_neg r2]
      rfl
end VAL
