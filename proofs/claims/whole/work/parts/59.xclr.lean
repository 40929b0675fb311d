/-! an iron leaves its anvil; a stop is counted -/
section CLR
variable {F : Fg} {np : Nat}
theorem xr_rack {τ : Mm} {S : Fg} {k v : Nat} (hS : SI F np S) (h : XR τ F S) (hk : k < F 0 0) (h1 : S 1 k = 10 + v) :
    XR (wr (wr τ 10 v (-1)) 2 k (nI 0)) F (upA S 1 k 0) := by
  obtain ⟨hX, hI, hAn, hPl, hU⟩ := h
  have g : ∀ c j, c ≠ 2 → c ≠ 10 → wr (wr τ 10 v (-1)) 2 k (nI 0) c j = τ c j := by
    intro c j h1 h2
    rw [wr_cell h1, wr_cell h2]
  have l1 : ∀ k', upA S 1 k 0 1 k' = if k' = k then 0 else S 1 k' := by
    intro k'
    rw [upA_at]
    simp
  refine ⟨?_, fun k' hk' => ?_, fun w hw => ?_, fun w hw => ?_, ?_⟩
  · exact XF_eq (fun c j h1 h2 => g c j (by omega) (by omega)) hX
  · obtain ⟨g1, g2, g3, g4, g5, g6, g7, g8⟩ := hI k' hk'
    rw [g 1 _ (by decide) (by decide), g 3 _ (by decide) (by decide), g 6 _ (by decide) (by decide), g 7 _ (by decide) (by decide), g 8 _ (by decide) (by decide), g 9 _ (by decide) (by decide), g 4 _ (by decide) (by decide), g 5 _ (by decide) (by decide), lf_up, nd_up, l1]
    refine ⟨g1, ?_, g3, g4, g5, g6, g7, g8⟩
    by_cases e : k' = k
    · subst e; rw [if_pos rfl]; exact wr_same
    · rw [if_neg e, wr_place e, wr_cell (by decide)]; exact g2
  · have e10 : wr (wr τ 10 v (-1)) 2 k (nI 0) 10 w = if w = v then -1 else τ 10 w := by
      rw [wr_cell (by decide), wr_at]
      by_cases e : w = v
      · rw [if_pos ⟨rfl, e⟩, if_pos e]
      · rw [if_neg (fun h9 => e h9.2), if_neg e]
    rw [e10]
    refine ⟨fun k' hk' h2 => ?_, fun h2 => ?_⟩
    · rw [l1] at h2
      by_cases e : k' = k
      · rw [if_pos e] at h2; omega
      · rw [if_neg e] at h2
        have : w ≠ v := fun h9 => e (hS.2.1 k' k hk' hk (by omega) (by omega))
        rw [if_neg this]
        exact (hAn w hw).1 k' hk' h2
    · by_cases e : w = v
      · rw [if_pos e]
      · rw [if_neg e]
        refine (hAn w hw).2 (fun k' hk' h3 => ?_)
        have h4 := h2 k' hk'
        rw [l1] at h4
        by_cases e2 : k' = k
        · subst e2; omega
        · rw [if_neg e2] at h4
          exact h4 h3
  · rw [g _ _ (by decide) (by decide)]
    refine ⟨fun k' hk' h2 => ?_, fun h2 => ?_⟩
    · rw [l1] at h2
      by_cases e : k' = k
      · rw [if_pos e] at h2; omega
      · rw [if_neg e] at h2
        exact (hPl w hw).1 k' hk' h2
    · refine (hPl w hw).2 (fun k' hk' h3 => ?_)
      have h4 := h2 k' hk'
      rw [l1] at h4
      by_cases e2 : k' = k
      · subst e2; omega
      · rw [if_neg e2] at h4
        exact h4 h3
  · rw [g _ _ (by decide) (by decide), cn_up]
    exact hU
theorem xr_stop {τ : Mm} {S : Fg} {k : Nat} (h : XR τ F S) (hk : k < F 0 0) : XR (wr τ 8 k (τ 8 k + 1)) F (upA S 5 k (S 5 k + 1)) := by
  obtain ⟨hX, hI, hAn, hPl, hU⟩ := h
  have g : ∀ c j, c ≠ 8 → wr τ 8 k (τ 8 k + 1) c j = τ c j := fun c j h1 => wr_cell h1
  have l1 : ∀ k', upA S 5 k (S 5 k + 1) 1 k' = S 1 k' := fun k' => upA_c (by decide)
  refine ⟨?_, fun k' hk' => ?_, fun w hw => ?_, fun w hw => ?_, ?_⟩
  · exact XF_eq (fun c j h1 h2 => g c j (by omega)) hX
  · obtain ⟨g1, g2, g3, g4, g5, g6, g7, g8⟩ := hI k' hk'
    rw [g 1 _ (by decide), g 2 _ (by decide), g 3 _ (by decide), g 6 _ (by decide), g 7 _ (by decide), g 9 _ (by decide), g 4 _ (by decide), g 5 _ (by decide), lf_u (by decide) (by decide), nd_u (by decide), l1]
    refine ⟨g1, g2, g3, g4, g5, ?_, g7, g8⟩
    by_cases e : k' = k
    · subst e
      rw [wr_same, g6, upA_at, if_pos ⟨rfl, rfl⟩, nI_1]
    · rw [wr_place e, upA_at, if_neg (fun h9 => e h9.2)]
      exact g6
  · rw [g _ _ (by decide)]
    simp only [l1]
    exact hAn w hw
  · rw [g _ _ (by decide)]
    simp only [l1]
    exact hPl w hw
  · rw [g _ _ (by decide), cn_u (by decide)]
    exact hU
end CLR
