/-! when irons are finished -/
section TIME
variable {F S S' : Fg} {k q t : Nat}
theorem cls_q {ord : List Nat} {v : Nat} (h1 : q ≠ 1) (h5 : q ≠ 5) : clS F ord v S q k = S q k := by
  unfold clS
  cases ord.find? (fun k => decide (S 1 k = 10 + v)) with
  | none => rfl
  | some j =>
    show (if dnA F S j = true then upA S 1 j 0 else if S 0 j < ndA F S j then upA (upA S 1 j 0) 5 j (S 5 j + 1) else S) q k = _
    split
    · exact upA_c h1
    · split
      · rw [upA_c h5, upA_c h1]
      · rfl
theorem cl_q {ord : List Nat} (h1 : q ≠ 1) (h5 : q ≠ 5) : ∀ (c v : Nat) (S : Fg), clB F ord c v S q k = S q k
  | 0, v, S => rfl
  | c + 1, v, S => (cl_q h1 h5 c (v + 1) _).trans (cls_q h1 h5)
theorem an_q {ord : List Nat} (h1 : q ≠ 1) : ∀ (c v : Nat) (S : Fg), anA F ord c v S q k = S q k
  | 0, v, S => rfl
  | c + 1, v, S => by
    refine (an_q h1 c (v + 1) _).trans ?_
    unfold anS
    split
    · rfl
    · cases pickA F S ord none with
      | none => rfl
      | some j => exact upA_c h1
theorem pl_q {ord : List Nat} (h1 : q ≠ 1) (h6 : q ≠ 6) : ∀ (c v : Nat) (S : Fg), plA F ord c v S q k = S q k
  | 0, v, S => rfl
  | c + 1, v, S => by
    refine (pl_q h1 h6 c (v + 1) _).trans ?_
    unfold plS
    split
    · rfl
    · cases wtA F S ord with
      | none => rfl
      | some j => exact (upA_c h6).trans (upA_c h1)
theorem mv_q (h1 : q ≠ 1) (h5 : q ≠ 5) (h6 : q ≠ 6) : mvA F S q k = S q k := by
  unfold mvA
  rw [pl_q h1 h6, an_q h1, cl_q h1 h5]
theorem mn_at (hk : k < F 0 0) (q : Nat) : mnA F t S q k = psK F t k (mvA F S) q k := by
  unfold mnA psJ
  rw [if_pos hk]
theorem ps_idle (h : ¬ 10 ≤ S 1 k) (h0 : q ≠ 0) : psK F t k S q k = S q k := by
  unfold psK
  rw [if_neg h, upA_c h0]
theorem dn_iff : dnA F S k = true ↔ S 2 k = F 4 k := by
  unfold dnA
  exact decide_eq_true_iff
theorem mn_dn (hO : OkF F) (hS : SI F (F 0 1) S) (hk : k < F 0 0) (hd : dnA F S k = true) : mnA F t S 2 k = S 2 k ∧ mnA F t S 4 k = S 4 k ∧ ¬ 10 ≤ mvA F S 1 k := by
  have hP := (si_mv hO hS).2
  have h10 : ¬ 10 ≤ mvA F S 1 k := fun h9 => by
    have := hP k hk h9
    rw [mv_q (by decide) (by decide) (by decide)] at this
    have := dn_iff.mp hd
    omega
  refine ⟨?_, ?_, h10⟩
  · rw [mn_at hk, ps_idle h10 (by decide), mv_q (by decide) (by decide) (by decide)]
  · rw [mn_at hk, ps_idle h10 (by decide), mv_q (by decide) (by decide) (by decide)]
/-- not finished yet: then finished at this minute, or still not -/
theorem mn_nd (hk : k < F 0 0) (hd : ¬ S 2 k = F 4 k) : (mnA F t S 2 k = F 4 k → mnA F t S 4 k = t + 2) ∧ (¬ mnA F t S 2 k = F 4 k → mnA F t S 4 k = S 4 k) := by
  rw [mn_at hk, mn_at hk]
  have e2 : mvA F S 2 k = S 2 k := mv_q (by decide) (by decide) (by decide)
  have e4 : mvA F S 4 k = S 4 k := mv_q (by decide) (by decide) (by decide)
  by_cases h10 : 10 ≤ mvA F S 1 k
  · unfold psK
    rw [if_pos h10]
    unfold wkA
    simp only [upA_c (show (2 : Nat) ≠ 0 by decide), upA_c (show (3 : Nat) ≠ 0 by decide), upA_c (show (4 : Nat) ≠ 0 by decide), e2, e4]
    by_cases hm : mvA F S 3 k + 1 = F 6 (5 * k + S 2 k)
    · simp only [if_pos hm]
      refine ⟨fun h => ?_, fun h => ?_⟩
      · have h' : S 2 k + 1 = F 4 k := by simpa using h
        simp [h']
      · have h' : ¬ S 2 k + 1 = F 4 k := by simpa using h
        simp [h']
    · simp only [if_neg hm]
      refine ⟨fun h => ?_, fun h => ?_⟩
      · have h' : S 2 k = F 4 k := by simpa using h
        exact absurd h' hd
      · simp
  · rw [ps_idle h10 (by decide), ps_idle h10 (by decide), e2, e4]
    exact ⟨fun h => absurd h hd, fun _ => rfl⟩
def TI (F : Fg) (t : Nat) (S : Fg) : Prop := ∀ k, k < F 0 0 → (S 2 k < F 4 k → S 4 k = 0) ∧ (S 2 k = F 4 k → 1 ≤ S 4 k ∧ S 4 k ≤ t + 1)
theorem ti_rn (hO : OkF F) : ∀ t, TI F t (rnA F t)
  | 0 => by
    intro k hk
    have e2 : rnA F 0 2 k = 0 := rfl
    have e4 : rnA F 0 4 k = if F 4 k = 0 then 1 else 0 := by
      show s0A F 4 k = _
      unfold s0A
      simp
    rw [e2, e4]
    refine ⟨fun h => if_neg (by omega), fun h => ?_⟩
    rw [if_pos h.symm]
    omega
  | t + 1 => by
    intro k hk
    have hS := si_rn hO t
    have ih := ti_rn hO t k hk
    show (mnA F t (rnA F t) 2 k < F 4 k → mnA F t (rnA F t) 4 k = 0) ∧ (mnA F t (rnA F t) 2 k = F 4 k → 1 ≤ mnA F t (rnA F t) 4 k ∧ mnA F t (rnA F t) 4 k ≤ t + 1 + 1)
    by_cases hd : rnA F t 2 k = F 4 k
    · obtain ⟨h2, h4, -⟩ := mn_dn (t := t) hO hS hk (dn_iff.mpr hd)
      rw [h2, h4]
      have := ih.2 hd
      exact ⟨fun h9 => by omega, fun _ => by omega⟩
    · obtain ⟨h1, h2⟩ := mn_nd (t := t) hk hd
      have hle := (hS.1 k hk).1
      refine ⟨fun h9 => ?_, fun h9 => ?_⟩
      · rw [h2 (by omega)]
        exact ih.1 (by omega)
      · rw [h1 h9]
        omega
theorem dn_mono (hO : OkF F) (hk : k < F 0 0) (hd : rnA F t 2 k = F 4 k) : ∀ u, rnA F (t + u) 2 k = F 4 k ∧ rnA F (t + u) 4 k = rnA F t 4 k
  | 0 => ⟨hd, rfl⟩
  | u + 1 => by
    have ih := dn_mono hO hk hd u
    obtain ⟨h2, h4, -⟩ := mn_dn (t := t + u) hO (si_rn hO (t + u)) hk (dn_iff.mpr ih.1)
    exact ⟨h2.trans ih.1, h4.trans ih.2⟩
theorem dn_back (hO : OkF F) (hk : k < F 0 0) : ∀ u, rnA F (t + u) 2 k = F 4 k → rnA F (t + u) 4 k ≤ t + 1 → rnA F t 2 k = F 4 k
  | 0, h, _ => h
  | u + 1, h, h4 => by
    by_cases hd : rnA F (t + u) 2 k = F 4 k
    · obtain ⟨-, e4, -⟩ := mn_dn (t := t + u) hO (si_rn hO (t + u)) hk (dn_iff.mpr hd)
      exact dn_back hO hk u hd (by
        have : rnA F (t + (u + 1)) 4 k = rnA F (t + u) 4 k := e4
        omega)
    · have h1 := (mn_nd (t := t + u) hk hd).1 h
      have : rnA F (t + (u + 1)) 4 k = t + u + 2 := h1
      omega
def mxA (S : Fg) : Nat → Nat
  | 0 => 0
  | k + 1 => max (mxA S k) (S 4 k - 1)
def enA (F S : Fg) : Option Nat := if cnA F S (F 0 0) = 0 then some (mxA S (F 0 0)) else none
def fnA (F : Fg) (t : Nat) : Option Nat := enA F (rnA F t)
theorem cn_zero : ∀ n, cnA F S n = 0 ↔ ∀ k, k < n → dnA F S k = true
  | 0 => ⟨fun _ k hk => absurd hk (Nat.not_lt_zero k), fun _ => rfl⟩
  | n + 1 => by
    unfold cnA
    constructor
    · intro h k hk
      by_cases hd : dnA F S n = true
      · by_cases e : k = n
        · rw [e]; exact hd
        · exact (cn_zero n).mp (by omega) k (by omega)
      · rw [if_neg hd] at h
        omega
    · intro h
      rw [if_pos (h n (by omega)), (cn_zero n).mpr (fun k hk => h k (by omega))]
theorem mx_cg : ∀ n, (∀ k, k < n → S' 4 k = S 4 k) → mxA S' n = mxA S n
  | 0, _ => rfl
  | n + 1, h => by
    unfold mxA
    rw [mx_cg n (fun k hk => h k (by omega)), h n (by omega)]
theorem mx_le : ∀ n, (∀ k, k < n → S 4 k ≤ t + 1) → mxA S n ≤ t
  | 0, _ => Nat.zero_le _
  | n + 1, h => by
    unfold mxA
    have := mx_le n (fun k hk => h k (by omega))
    have := h n (by omega)
    omega
theorem mx_ge : ∀ n, k < n → S 4 k - 1 ≤ mxA S n
  | 0, h => by omega
  | n + 1, h => by
    unfold mxA
    by_cases e : k = n
    · subst e; omega
    · have := mx_ge n (show k < n by omega)
      omega
theorem fn_some {e : Nat} : fnA F t = some e ↔ (∀ k, k < F 0 0 → rnA F t 2 k = F 4 k) ∧ mxA (rnA F t) (F 0 0) = e := by
  unfold fnA enA
  constructor
  · intro h
    split at h
    · rename_i h1
      cases h
      exact ⟨fun k hk => dn_iff.mp ((cn_zero _).mp h1 k hk), rfl⟩
    · cases h
  · rintro ⟨h1, h2⟩
    rw [if_pos ((cn_zero _).mpr (fun k hk => dn_iff.mpr (h1 k hk))), h2]
theorem fn_mono (hO : OkF F) {e u : Nat} (h : fnA F t = some e) (hu : t ≤ u) : fnA F u = some e := by
  obtain ⟨v, rfl⟩ : ∃ v, u = t + v := ⟨u - t, by omega⟩
  obtain ⟨h1, h2⟩ := fn_some.mp h
  refine fn_some.mpr ⟨fun k hk => (dn_mono hO hk (h1 k hk) v).1, ?_⟩
  rw [← h2]
  exact mx_cg _ (fun k hk => (dn_mono hO hk (h1 k hk) v).2)
theorem fn_le (hO : OkF F) {e : Nat} (h : fnA F t = some e) : e ≤ t := by
  obtain ⟨h1, h2⟩ := fn_some.mp h
  rw [← h2]
  exact mx_le _ (fun k hk => ((ti_rn hO t k hk).2 (h1 k hk)).2)
theorem fn_back (hO : OkF F) {e u : Nat} (h : fnA F u = some e) (he : e ≤ t) (hu : t ≤ u) : fnA F t = some e := by
  obtain ⟨v, rfl⟩ : ∃ v, u = t + v := ⟨u - t, by omega⟩
  obtain ⟨h1, h2⟩ := fn_some.mp h
  have h3 : ∀ k, k < F 0 0 → rnA F t 2 k = F 4 k := fun k hk => by
    refine dn_back hO hk v (h1 k hk) ?_
    have := mx_ge (S := rnA F (t + v)) (F 0 0) hk
    omega
  refine fn_some.mpr ⟨h3, ?_⟩
  rw [← h2]
  exact (mx_cg _ (fun k hk => (dn_mono hO hk (h3 k hk) v).2)).symm
/-- what a run with a limit of minutes answers -/
def liA : Option Nat → Nat → Option Nat
  | none, _ => none
  | some e, m => if e ≤ m then some e else none
theorem fn_lim (hO : OkF F) {m u : Nat} (hu : m ≤ u) : fnA F m = liA (fnA F u) m := by
  cases h : fnA F u with
  | none =>
    cases h1 : fnA F m with
    | none => rfl
    | some e =>
      rw [fn_mono hO h1 hu] at h
      cases h
  | some e =>
    show _ = if e ≤ m then some e else none
    by_cases he : e ≤ m
    · rw [if_pos he]
      exact fn_back hO h he hu
    · rw [if_neg he]
      cases h1 : fnA F m with
      | none => rfl
      | some e' =>
        have := fn_le hO h1
        rw [fn_mono hO h1 hu] at h
        cases h
        omega
end TIME
