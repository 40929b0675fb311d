/-! fillAnvils -/
section ANV
variable {F : Fg} {np : Nat}
theorem ne_m1 {k : Nat} (h : k < 2 ^ 31) : ¬ nI k = -1 := by
  intro h9
  have h2 : (nI k).toInt = (-1 : Int32).toInt := by rw [h9]
  rw [nI_toInt h] at h2
  have h3 : (-1 : Int32).toInt = -1 := by decide
  omega
theorem xv_fire {τ : Mm} {S : Fg} {k : Nat} (hO : OkF F) (hS : SI F np S) (h : XR τ F S) (hk : k < F 0 0) : f_X5_isInFire [.inr (.inl 0), .inl (nI k)] τ = some (some (some (.inl (if 1 ≤ S 1 k ∧ S 1 k < 10 then 1 else 0))), τ) := by
  have h6 := hO.1
  have hi : inb (nI k) 6 = true := inb_nI (by omega) (by decide)
  have hb := loc_lt hO hS hk
  rw [e_X5_isInFire, if_pos hi, if_pos hi, nI_clamp (by omega), (h.2.1 k hk).2.1]
  by_cases h1 : S 1 k < 1
  · rw [if_pos (show nI (S 1 k) < 1 from nI_lt (b := 1) h1 (by decide)), if_neg (by omega)]
  · rw [if_neg (show ¬ nI (S 1 k) < 1 from nI_nlt (b := 1) (by omega) hb)]
    by_cases h2 : S 1 k < 10
    · rw [if_pos (show nI (S 1 k) < 10 from nI_lt (b := 10) h2 (by decide)), if_pos ⟨by omega, h2⟩]
    · rw [if_neg (show ¬ nI (S 1 k) < 10 from nI_nlt (b := 10) (by omega) hb), if_neg (by omega)]
theorem rd_loc {S : Fg} {k : Nat} (h : rdA F S k = true) : S 1 k < 10 := by
  unfold rdA at h
  simp only [Bool.and_eq_true, decide_eq_true_eq] at h
  exact h.1.2
theorem xf_anv (hO : OkF F) : ∀ (c v n : Nat) (τ : Mm) (S : Fg), v + c = F 9 0 → 2 * c < n → SI F np S → XR τ F S → ∃ τ', b_X5_fillAnvils_2 n (nI v) τ = some (some none, τ') ∧ XR τ' F (anA F (orL F) c v S) ∧ SI F np (anA F (orL F) c v S) := by
  have h6 := hO.1
  have h3 := hO.2.2.2.2.2.1
  intro c
  induction c with
  | zero =>
    intro v n τ S hv hn hS h
    obtain ⟨n, rfl⟩ : ∃ n', n = n' + 1 := ⟨n - 1, by omega⟩
    refine ⟨τ, ?_, h, hS⟩
    rw [e_X5_fillAnvils_2, h.1.2.2.2.2 0 (by decide), if_neg (nI_nlt (by omega) (by omega))]
  | succ c ih =>
    intro v n τ S hv hn hS h
    obtain ⟨n, rfl⟩ : ∃ n', n = n' + 2 := ⟨n - 2, by omega⟩
    have hv3 : v < 3 := by omega
    rw [e_X5_fillAnvils_2, h.1.2.2.2.2 0 (by decide), if_pos (nI_lt (by omega) (by omega)), if_pos (inb_nI hv3 (by decide)), nI_clamp (by omega), nI_1]
    have hst : anA F (orL F) (c + 1) v S = anA F (orL F) c (v + 1) (anS F (orL F) v S) := rfl
    rw [hst]
    by_cases ht : tkA S (orL F) (10 + v) = true
    · have e : anS F (orL F) v S = S := by unfold anS; rw [if_pos ht]
      obtain ⟨k, hk, hk1⟩ := (tk_iff hO).mp ht
      rw [e, (h.2.2.1 v hv3).1 k hk hk1, if_neg (ne_m1 (by omega))]
      exact ih (v + 1) (n + 1) τ S (by omega) (by omega) hS h
    · have hfree : ∀ k', k' < F 0 0 → S 1 k' ≠ 10 + v := fun k' hk' h9 => ht ((tk_iff hO).mpr ⟨k', hk', h9⟩)
      rw [(h.2.2.1 v hv3).2 hfree, if_pos rfl, xv_pick hO hS h, onI_s]
      cases hp : pickA F S (orL F) none with
      | none =>
        have e : anS F (orL F) v S = S := by unfold anS; rw [if_neg ht, hp]
        rw [e, an_none hp, if_pos (show opI none = -1 from rfl)]
        exact ⟨τ, rfl, h, hS⟩
      | some k =>
        have e : anS F (orL F) v S = upA S 1 k (10 + v) := by unfold anS; rw [if_neg ht, hp]
        obtain ⟨hkm, hkr⟩ : k ∈ orL F ∧ rdA F S k = true := by
          rcases pick_mem _ _ _ hp with h9 | h9
          · exact h9
          · cases h9
        have hk := orL_lt hO hkm
        have hl := rd_loc hkr
        have hS' : SI F np (upA S 1 k (10 + v)) := si_up hS hk (Or.inr (Or.inr ⟨by omega, by omega⟩)) (fun k' hk' h9 => absurd h9 (hfree k' hk'))
        have hX' := xr_anv hO hS h hk hv3 hfree hl
        rw [e, show opI (some k) = nI k from rfl, if_neg (ne_m1 (by omega)), xv_fire hO hS h hk, onI_s]
        have e10 : (10 : Int32) + nI v = nI (10 + v) := nI_add 10 v
        by_cases h1 : 1 ≤ S 1 k
        · have hs3 : S 1 k ≤ 3 := by have := (hS.1 k hk).2.2.2.2; have := hS.2.2; omega
          have em : nI (S 1 k) - 1 = nI (S 1 k - 1) := by
            obtain ⟨q, hq⟩ : ∃ q, S 1 k = q + 1 := ⟨S 1 k - 1, by omega⟩
            rw [hq, nI_pred]
            rfl
          have hc : 1 ≤ S 1 k ∧ S 1 k < 10 := ⟨h1, hl⟩
          rw [if_pos hc, if_neg (by decide), if_pos (inb_nI (by omega) (by decide)), nI_clamp (by omega), (h.2.1 k hk).2.1, em, if_pos (inb_nI (by omega) (by decide)), nI_clamp (by omega), e_X5_fillAnvils_61, if_pos (inb_nI hv3 (by decide)), if_pos (inb_nI (by omega) (by decide)), nI_clamp (by omega), nI_clamp (by omega), e10, nI_1]
          rw [if_pos h1] at hX'
          exact ih (v + 1) n _ _ (by omega) (by omega) hS' hX'
        · have hc : ¬ (1 ≤ S 1 k ∧ S 1 k < 10) := fun h9 => h1 h9.1
          rw [if_neg hc, if_pos rfl, e_X5_fillAnvils_61, if_pos (inb_nI hv3 (by decide)), if_pos (inb_nI (by omega) (by decide)), nI_clamp (by omega), nI_clamp (by omega), e10, nI_1]
          rw [if_neg h1] at hX'
          exact ih (v + 1) n _ _ (by omega) (by omega) hS' hX'
end ANV
