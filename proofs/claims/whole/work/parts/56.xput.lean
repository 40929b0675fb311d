/-! an iron comes on an anvil, into a place -/
theorem orF_in {F : Fg} : ∀ (c j i : Nat), j ≤ i → i < j + c → F 10 i ∈ orF F j c
  | 0, j, i, h1, h2 => by omega
  | c + 1, j, i, h1, h2 => by
    by_cases h : i = j
    · subst h; exact List.mem_cons_self
    · exact List.mem_cons_of_mem _ (orF_in c (j + 1) i (by omega) (by omega))
theorem orL_all {F : Fg} (hO : OkF F) {k : Nat} (h : k < F 0 0) : k ∈ orL F := by
  obtain ⟨i, hi, rfl⟩ := hO.2.2.2.2.2.2.2.2 k h
  exact orF_in _ _ _ (Nat.zero_le _) (by omega)
theorem tk_iff {F S : Fg} (hO : OkF F) {v : Nat} : tkA S (orL F) v = true ↔ ∃ k, k < F 0 0 ∧ S 1 k = v := by
  unfold tkA
  rw [List.any_eq_true]
  constructor
  · rintro ⟨k, h1, h2⟩
    exact ⟨k, orL_lt hO h1, by simpa using h2⟩
  · rintro ⟨k, h1, h2⟩
    exact ⟨k, orL_all hO h1, by simpa using h2⟩
section PUT
variable {τ : Mm} {F S : Fg} {np k v : Nat}
theorem si_up (hS : SI F np S) (hk : k < F 0 0) {w : Nat} (hw : w = 0 ∨ (1 ≤ w ∧ w ≤ np) ∨ (10 ≤ w ∧ w < 10 + F 9 0)) (hfree : ∀ k', k' < F 0 0 → S 1 k' = w → w = 0) : SI F np (upA S 1 k w) := by
  refine ⟨fun k' hk' => ?_, fun k1 k2 h1 h2 he h0 => ?_, hS.2.2⟩
  · obtain ⟨s1, s2, s3, s4, s5⟩ := hS.1 k' hk'
    rw [upA_c (by decide), upA_c (by decide), upA_c (by decide)]
    refine ⟨s1, s2, s3, s4, ?_⟩
    rw [upA_at]
    split
    · exact hw
    · exact s5
  · rw [upA_at] at he h0
    rw [upA_at] at he
    by_cases a1 : k1 = k
    · by_cases a2 : k2 = k
      · omega
      · rw [if_pos ⟨rfl, a1⟩] at he h0
        rw [if_neg (fun h9 => a2 h9.2)] at he
        exact absurd (hfree k2 h2 he.symm) h0
    · rw [if_neg (fun h9 => a1 h9.2)] at he h0
      by_cases a2 : k2 = k
      · rw [if_pos ⟨rfl, a2⟩] at he
        rw [he] at h0
        exact absurd (hfree k1 h1 he) h0
      · rw [if_neg (fun h9 => a2 h9.2)] at he
        exact hS.2.1 k1 k2 h1 h2 he h0
/-- an iron that is free comes on an anvil that is free -/
theorem xr_anv (hO : OkF F) (hS : SI F np S) (h : XR τ F S) (hk : k < F 0 0) (hv : v < 3) (hfree : ∀ k', k' < F 0 0 → S 1 k' ≠ 10 + v) (hloc : S 1 k < 10) :
    XR (wr (wr (if 1 ≤ S 1 k then wr τ 11 (S 1 k - 1) (-1) else τ) 10 v (nI k)) 2 k (nI (10 + v))) F (upA S 1 k (10 + v)) := by
  obtain ⟨hX, hI, hAn, hPl, hU⟩ := h
  have g : ∀ c j, c ≠ 2 → c ≠ 10 → c ≠ 11 → wr (wr (if 1 ≤ S 1 k then wr τ 11 (S 1 k - 1) (-1) else τ) 10 v (nI k)) 2 k (nI (10 + v)) c j = τ c j := by
    intro c j h1 h2 h3
    rw [wr_cell h1, wr_cell h2]
    split
    · exact wr_cell h3
    · rfl
  refine ⟨?_, fun k' hk' => ?_, fun w hw => ?_, fun w hw => ?_, ?_⟩
  · exact XF_eq (fun c j h1 h2 => g c j (by omega) (by omega) (by omega)) hX
  · obtain ⟨g1, g2, g3, g4, g5, g6, g7, g8⟩ := hI k' hk'
    rw [g 1 _ (by decide) (by decide) (by decide), g 3 _ (by decide) (by decide) (by decide), g 6 _ (by decide) (by decide) (by decide), g 7 _ (by decide) (by decide) (by decide), g 8 _ (by decide) (by decide) (by decide), g 9 _ (by decide) (by decide) (by decide), g 4 _ (by decide) (by decide) (by decide), g 5 _ (by decide) (by decide) (by decide), lf_up, nd_up]
    simp only [upA_at, Nat.reduceEqDiff, false_and, if_false, true_and]
    refine ⟨g1, ?_, g3, g4, g5, g6, g7, g8⟩
    by_cases e : k' = k
    · subst e; rw [if_pos rfl]; exact wr_same
    · rw [if_neg e, wr_place e, wr_cell (by decide)]
      split
      · rw [wr_cell (by decide)]; exact g2
      · exact g2
  · have e10 : wr (wr (if 1 ≤ S 1 k then wr τ 11 (S 1 k - 1) (-1) else τ) 10 v (nI k)) 2 k (nI (10 + v)) 10 w = if w = v then nI k else τ 10 w := by
      rw [wr_cell (by decide)]
      by_cases e : w = v
      · subst e; rw [if_pos rfl]; exact wr_same
      · rw [if_neg e, wr_place e]
        split
        · exact wr_cell (by decide)
        · rfl
    rw [e10]
    refine ⟨fun k' hk' h1 => ?_, fun h1 => ?_⟩
    · rw [upA_at] at h1
      by_cases e : k' = k
      · rw [if_pos ⟨rfl, e⟩] at h1
        rw [if_pos (by omega), e]
      · rw [if_neg (fun h9 => e h9.2)] at h1
        have : w ≠ v := fun h9 => hfree k' hk' (by rw [h1, h9])
        rw [if_neg this]
        exact (hAn w hw).1 k' hk' h1
    · have : w ≠ v := fun h9 => h1 k hk (by rw [upA_at, if_pos ⟨rfl, rfl⟩, h9])
      rw [if_neg this]
      refine (hAn w hw).2 (fun k' hk' h2 => ?_)
      have h3 := h1 k' hk'
      rw [upA_at] at h3
      by_cases e : k' = k
      · subst e; omega
      · rw [if_neg (fun h9 => e h9.2)] at h3
        exact h3 h2
  · have e11 : wr (wr (if 1 ≤ S 1 k then wr τ 11 (S 1 k - 1) (-1) else τ) 10 v (nI k)) 2 k (nI (10 + v)) 11 w = if 1 ≤ S 1 k ∧ w = S 1 k - 1 then -1 else τ 11 w := by
      rw [wr_cell (by decide), wr_cell (by decide)]
      by_cases e : 1 ≤ S 1 k
      · rw [if_pos e, wr_at]
        by_cases e2 : w = S 1 k - 1
        · rw [if_pos ⟨rfl, e2⟩, if_pos ⟨e, e2⟩]
        · rw [if_neg (fun h9 => e2 h9.2), if_neg (fun h9 => e2 h9.2)]
      · rw [if_neg e, if_neg (fun h9 => e h9.1)]
    rw [e11]
    refine ⟨fun k' hk' h1 => ?_, fun h1 => ?_⟩
    · rw [upA_at] at h1
      by_cases e : k' = k
      · rw [if_pos ⟨rfl, e⟩] at h1
        omega
      · rw [if_neg (fun h9 => e h9.2)] at h1
        rw [if_neg (fun h9 => e (hS.2.1 k' k hk' hk (by omega) (by omega)))]
        exact (hPl w hw).1 k' hk' h1
    · by_cases e : 1 ≤ S 1 k ∧ w = S 1 k - 1
      · rw [if_pos e]
      · rw [if_neg e]
        refine (hPl w hw).2 (fun k' hk' h2 => ?_)
        have h3 := h1 k' hk'
        rw [upA_at] at h3
        by_cases e2 : k' = k
        · subst e2; omega
        · rw [if_neg (fun h9 => e2 h9.2)] at h3
          exact h3 h2
  · rw [g _ _ (by decide) (by decide) (by decide), cn_up]
    exact hU
end PUT
