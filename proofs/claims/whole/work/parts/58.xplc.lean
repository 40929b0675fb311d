/-! fillPlaces -/
section PLC
variable {F : Fg} {np : Nat}
theorem dn_u {S : Fg} {c k v : Nat} (h : c ≠ 2) (k' : Nat) : dnA F (upA S c k v) k' = dnA F S k' := by unfold dnA; rw [upA_c (fun h9 => h h9.symm)]
theorem nd_u {S : Fg} {c k v : Nat} (h : c ≠ 2) (k' : Nat) : ndA F (upA S c k v) k' = ndA F S k' := by unfold ndA; rw [upA_c (fun h9 => h h9.symm)]
theorem lf_u {S : Fg} {c k v : Nat} (h : c ≠ 2) (h3 : c ≠ 3) (k' : Nat) : lfA F (upA S c k v) k' = lfA F S k' := by unfold lfA; rw [upA_c (fun h9 => h h9.symm), upA_c (fun h9 => h3 h9.symm)]
theorem cn_u {S : Fg} {c k v : Nat} (h : c ≠ 2) (n : Nat) : cnA F (upA S c k v) n = cnA F S n := by
  induction n with
  | zero => rfl
  | succ n ih => unfold cnA; rw [ih, dn_u h]
theorem si_6 {S : Fg} {k v : Nat} (hS : SI F np S) : SI F np (upA S 6 k v) := by
  refine ⟨fun k' hk' => ?_, fun k1 k2 h1 h2 he h0 => ?_, hS.2.2⟩
  · simp only [upA_c (show (0 : Nat) ≠ 6 by decide), upA_c (show (1 : Nat) ≠ 6 by decide), upA_c (show (2 : Nat) ≠ 6 by decide), upA_c (show (3 : Nat) ≠ 6 by decide)]
    exact hS.1 k' hk'
  · rw [upA_c (by decide)] at he h0
    rw [upA_c (by decide)] at he
    exact hS.2.1 k1 k2 h1 h2 he h0
theorem xr_plc {τ : Mm} {S : Fg} {k v : Nat} (hO : OkF F) (hS : SI F np S) (h : XR τ F S) (hk : k < F 0 0) (hv : v < 3) (hfree : ∀ k', k' < F 0 0 → S 1 k' ≠ 1 + v) (hloc : S 1 k = 0) :
    XR (wr (wr (wr τ 11 v (nI k)) 2 k (nI (1 + v))) 9 k (nI (S 6 k + 1))) F (upA (upA S 1 k (1 + v)) 6 k (S 6 k + 1)) := by
  obtain ⟨hX, hI, hAn, hPl, hU⟩ := h
  have g : ∀ c j, c ≠ 2 → c ≠ 9 → c ≠ 11 → wr (wr (wr τ 11 v (nI k)) 2 k (nI (1 + v))) 9 k (nI (S 6 k + 1)) c j = τ c j := by
    intro c j h1 h2 h3
    rw [wr_cell h2, wr_cell h1, wr_cell h3]
  have l1 : ∀ k', upA (upA S 1 k (1 + v)) 6 k (S 6 k + 1) 1 k' = if k' = k then 1 + v else S 1 k' := by
    intro k'
    rw [upA_c (by decide), upA_at]
    simp
  refine ⟨?_, fun k' hk' => ?_, fun w hw => ?_, fun w hw => ?_, ?_⟩
  · exact XF_eq (fun c j h1 h2 => g c j (by omega) (by omega) (by omega)) hX
  · obtain ⟨g1, g2, g3, g4, g5, g6, g7, g8⟩ := hI k' hk'
    rw [g 1 _ (by decide) (by decide) (by decide), g 3 _ (by decide) (by decide) (by decide), g 6 _ (by decide) (by decide) (by decide), g 7 _ (by decide) (by decide) (by decide), g 8 _ (by decide) (by decide) (by decide), g 4 _ (by decide) (by decide) (by decide), g 5 _ (by decide) (by decide) (by decide), lf_u (by decide) (by decide), lf_u (by decide) (by decide), nd_u (by decide), nd_u (by decide), l1]
    refine ⟨g1, ?_, g3, g4, g5, g6, ?_, g8⟩
    · rw [wr_cell (by decide)]
      by_cases e : k' = k
      · subst e; rw [if_pos rfl]; exact wr_same
      · rw [if_neg e, wr_place e, wr_cell (by decide)]; exact g2
    · by_cases e : k' = k
      · subst e
        rw [wr_same, upA_at, if_pos ⟨rfl, rfl⟩]
      · rw [wr_place e, wr_cell (by decide), wr_cell (by decide), upA_at, if_neg (fun h9 => e h9.2), upA_c (by decide)]
        exact g7
  · rw [g _ _ (by decide) (by decide) (by decide)]
    refine ⟨fun k' hk' h1 => ?_, fun h1 => ?_⟩
    · rw [l1] at h1
      by_cases e : k' = k
      · rw [if_pos e] at h1; omega
      · rw [if_neg e] at h1
        exact (hAn w hw).1 k' hk' h1
    · refine (hAn w hw).2 (fun k' hk' h2 => ?_)
      have h3 := h1 k' hk'
      rw [l1] at h3
      by_cases e : k' = k
      · subst e; omega
      · rw [if_neg e] at h3
        exact h3 h2
  · have e11 : wr (wr (wr τ 11 v (nI k)) 2 k (nI (1 + v))) 9 k (nI (S 6 k + 1)) 11 w = if w = v then nI k else τ 11 w := by
      rw [wr_cell (by decide), wr_cell (by decide), wr_at]
      by_cases e : w = v
      · rw [if_pos ⟨rfl, e⟩, if_pos e]
      · rw [if_neg (fun h9 => e h9.2), if_neg e]
    rw [e11]
    refine ⟨fun k' hk' h1 => ?_, fun h1 => ?_⟩
    · rw [l1] at h1
      by_cases e : k' = k
      · rw [if_pos e] at h1
        rw [if_pos (by omega), e]
      · rw [if_neg e] at h1
        have : w ≠ v := fun h9 => hfree k' hk' (by rw [h1, h9])
        rw [if_neg this]
        exact (hPl w hw).1 k' hk' h1
    · have : w ≠ v := fun h9 => h1 k hk (by rw [l1, if_pos rfl, h9])
      rw [if_neg this]
      refine (hPl w hw).2 (fun k' hk' h2 => ?_)
      have h3 := h1 k' hk'
      rw [l1] at h3
      by_cases e : k' = k
      · subst e; omega
      · rw [if_neg e] at h3
        exact h3 h2
  · rw [g _ _ (by decide) (by decide) (by decide), cn_u (by decide), cn_u (by decide)]
    exact hU
theorem wt_mem {S : Fg} {ord : List Nat} {k : Nat} (h : wtA F S ord = some k) : k ∈ ord ∧ S 1 k = 0 := by
  unfold wtA at h
  refine ⟨List.mem_of_find?_eq_some h, ?_⟩
  have := List.find?_some h
  simp only [Bool.and_eq_true, decide_eq_true_eq] at this
  exact this.1.2
theorem xf_plc (hO : OkF F) (hnp : F 0 1 = np) : ∀ (c v n : Nat) (τ : Mm) (S : Fg), v + c = np → c < n → SI F np S → XR τ F S → ∃ τ', b_X5_fillPlaces_2 n (nI v) τ = some (some none, τ') ∧ XR τ' F (plA F (orL F) c v S) ∧ SI F np (plA F (orL F) c v S) := by
  have h6 := hO.1
  have h3 := hO.2.1
  intro c
  induction c with
  | zero =>
    intro v n τ S hv hn hS h
    obtain ⟨n, rfl⟩ : ∃ n', n = n' + 1 := ⟨n - 1, by omega⟩
    refine ⟨τ, ?_, h, hS⟩
    rw [e_X5_fillPlaces_2, h.1.2.1, if_neg (nI_nlt (by omega) (by omega))]
  | succ c ih =>
    intro v n τ S hv hn hS h
    obtain ⟨n, rfl⟩ : ∃ n', n = n' + 1 := ⟨n - 1, by omega⟩
    have hv3 : v < 3 := by omega
    rw [e_X5_fillPlaces_2, h.1.2.1, if_pos (nI_lt (by omega) (by omega)), if_pos (inb_nI hv3 (by decide)), nI_clamp (by omega), nI_1]
    have hst : plA F (orL F) (c + 1) v S = plA F (orL F) c (v + 1) (plS F (orL F) v S) := rfl
    rw [hst]
    by_cases ht : tkA S (orL F) (1 + v) = true
    · have e : plS F (orL F) v S = S := by unfold plS; rw [if_pos ht]
      obtain ⟨k, hk, hk1⟩ := (tk_iff hO).mp ht
      rw [e, (h.2.2.2.1 v hv3).1 k hk hk1, if_neg (ne_m1 (by omega))]
      exact ih (v + 1) n τ S (by omega) (by omega) hS h
    · have hfree : ∀ k', k' < F 0 0 → S 1 k' ≠ 1 + v := fun k' hk' h9 => ht ((tk_iff hO).mpr ⟨k', hk', h9⟩)
      rw [(h.2.2.2.1 v hv3).2 hfree, if_pos rfl, xv_wait hO hS h, onI_s]
      cases hp : wtA F S (orL F) with
      | none =>
        have e : plS F (orL F) v S = S := by unfold plS; rw [if_neg ht, hp]
        rw [e, pl_none hp, if_pos (show opI none = -1 from rfl)]
        exact ⟨τ, rfl, h, hS⟩
      | some k =>
        have e : plS F (orL F) v S = upA (upA S 1 k (1 + v)) 6 k (S 6 k + 1) := by unfold plS; rw [if_neg ht, hp]
        obtain ⟨hkm, hl⟩ := wt_mem hp
        have hk := orL_lt hO hkm
        have hS' : SI F np (upA (upA S 1 k (1 + v)) 6 k (S 6 k + 1)) := si_6 (si_up hS hk (Or.inr (Or.inl ⟨by omega, by omega⟩)) (fun k' hk' h9 => absurd h9 (hfree k' hk')))
        have hX' := xr_plc hO hS h hk hv3 hfree hl
        have e1 : (1 : Int32) + nI v = nI (1 + v) := nI_add 1 v
        have hi6 : inb (nI k) 6 = true := inb_nI (by omega) (by decide)
        rw [e, show opI (some k) = nI k from rfl, if_neg (ne_m1 (by omega)), if_pos (inb_nI hv3 (by decide)), if_pos hi6, if_pos hi6, if_pos hi6, nI_clamp (by omega), e1, (h.2.1 k hk).2.2.2.2.2.2.1, nI_1]
        exact ih (v + 1) n _ _ (by omega) (by omega) hS' hX'
end PLC
