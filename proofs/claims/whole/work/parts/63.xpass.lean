/-! pass -/
section PASS
variable {F : Fg} {np : Nat} {τ : Mm} {S S' : Fg} {k t : Nat}
theorem wk_o {c k' : Nat} (e : k' ≠ k) : wkA F t k S c k' = S c k' := by unfold wkA; rw [if_neg e]
theorem wk_1 {c k' : Nat} (h0 : c = 0 ∨ c = 1 ∨ c = 5 ∨ c = 6) : wkA F t k S c k' = S c k' := by
  unfold wkA
  by_cases e : k' = k
  · subst e
    rw [if_pos rfl]
    split
    · rw [if_neg (by omega), if_neg (by omega), if_neg (by omega)]
    · rw [if_neg (by omega)]
  · rw [if_neg e]
theorem ps_o {c k' : Nat} (e : k' ≠ k) : psK F t k S c k' = S c k' := by
  unfold psK
  split
  · rw [wk_o e, upA_at, if_neg (fun h9 => e h9.2)]
  · rw [upA_at, if_neg (fun h9 => e h9.2)]
theorem ps_1 {c k' : Nat} (h0 : c = 1 ∨ c = 5 ∨ c = 6) : psK F t k S c k' = S c k' := by
  unfold psK
  split
  · rw [wk_1 (by omega), upA_c (by omega)]
  · rw [upA_c (by omega)]
theorem ps_0 : psK F t k S 0 k = htA F S k := by
  unfold psK
  split
  · rw [wk_1 (by omega), upA_at, if_pos ⟨rfl, rfl⟩]
  · rw [upA_at, if_pos ⟨rfl, rfl⟩]
/-- the column of an iron alone counts -/
theorem ps_cg (h : ∀ c, S' c k = S c k) (c : Nat) : psK F t k S' c k = psK F t k S c k := by
  have e : htA F S' k = htA F S k := by unfold htA; simp only [h]
  unfold psK wkA upA
  rw [e]
  simp only [h]
  split
  · simp [h]
  · simp [h]
theorem ps_step (j : Nat) : psJ F t (j + 1) S = psK F t j (psJ F t j S) := by
  funext c k
  have hcol : ∀ c, psJ F t j S c j = S c j := fun c => by unfold psJ; rw [if_neg (by omega)]
  by_cases e : k = j
  · subst e
    rw [ps_cg hcol]
    unfold psJ
    rw [if_pos (by omega)]
  · rw [ps_o e]
    unfold psJ
    by_cases h : k < j
    · rw [if_pos h, if_pos (by omega)]
    · rw [if_neg h, if_neg (by omega)]
theorem ps_zero : psJ F t 0 S = S := by
  funext c k
  unfold psJ
  rw [if_neg (by omega)]
theorem ht_le (hO : OkF F) (hS : SI F (F 0 1) S) (hk : k < F 0 0) : 20 ≤ htA F S k ∧ htA F S k ≤ 1500 := by
  have hh := (hS.1 k hk).2.2.2.1
  have hl := (hS.1 k hk).2.2.2.2
  unfold htA
  split
  · rename_i h
    have hp := hO.2.2.2.2.1 (S 1 k - 1) (by omega)
    generalize F 7 (S 1 k - 1) / F 2 k = q
    split <;> omega
  · omega
theorem si_ps (hO : OkF F) (hS : SI F (F 0 1) S) (hk : k < F 0 0) (hP : 10 ≤ S 1 k → S 2 k < F 4 k) : SI F (F 0 1) (psK F t k S) := by
  have hht := ht_le hO hS hk
  refine ⟨fun k' hk' => ?_, fun k1 k2 h1 h2 he h0 => ?_, hS.2.2⟩
  · by_cases e : k' = k
    · subst e
      obtain ⟨s1, s2, s3, s4, s5⟩ := hS.1 k' hk'
      rw [ps_0, ps_1 (Or.inl rfl)]
      unfold psK
      by_cases h10 : 10 ≤ S 1 k'
      · have hlt := hP h10
        rw [if_pos h10]
        unfold wkA
        simp only [if_pos trivial, upA_c (show (3 : Nat) ≠ 0 by decide), upA_c (show (2 : Nat) ≠ 0 by decide)]
        by_cases hm : S 3 k' + 1 = F 6 (5 * k' + S 2 k')
        · simp only [if_pos hm]
          refine ⟨?_, ?_, ?_, hht, s5⟩
          · simp; omega
          · simp
            intro h9
            exact ((hO.2.2.1 k' hk').2.2.2.1 (S 2 k' + 1) h9).2.1
          · simp
        · simp only [if_neg hm]
          refine ⟨?_, ?_, ?_, hht, s5⟩
          · simp; omega
          · simp
            intro h9
            have := s2 h9
            omega
          · simp; omega
      · rw [if_neg h10]
        simp only [upA_c (show (3 : Nat) ≠ 0 by decide), upA_c (show (2 : Nat) ≠ 0 by decide)]
        exact ⟨s1, s2, s3, hht, s5⟩
    · simp only [ps_o e]
      exact hS.1 k' hk'
  · simp only [ps_1 (Or.inl rfl)] at he h0
    exact hS.2.1 k1 k2 h1 h2 he h0
theorem si_psJ (hO : OkF F) (hS : SI F (F 0 1) S) (hP : PI F S) : ∀ j, j ≤ F 0 0 → SI F (F 0 1) (psJ F t j S)
  | 0, _ => by rw [ps_zero]; exact hS
  | j + 1, h => by
    rw [ps_step]
    refine si_ps hO (si_psJ hO hS hP j (by omega)) (by omega) ?_
    have hcol : ∀ c, psJ F t j S c j = S c j := fun c => by unfold psJ; rw [if_neg (by omega)]
    rw [hcol, hcol]
    exact hP j (by omega)
theorem bor (a b : Bool) : ((if a = true then 1 else 0 : Int32) ||| (if b = true then 1 else 0)) = if (a || b) = true then 1 else 0 := by
  cases a <;> cases b <;> rfl
theorem xf_pass4 (hO : OkF F) (hS : SI F (F 0 1) S) (hP : PI F S) (ht : t < 2 ^ 30) : ∀ (c j n : Nat) (τ : Mm), j + c = F 0 0 → 3 * c < n → XR τ F (psJ F t j S) → ∃ τ', b_X5_pass_4 n (nI t) (if mvJ F S j = true then 1 else 0) (nI j) τ = some (some (some (.inl (if mvJ F S (F 0 0) = true then 1 else 0))), τ') ∧ XR τ' F (psJ F t (F 0 0) S) := by
  have h6 := hO.1
  intro c
  induction c with
  | zero =>
    intro j n τ hj hn h
    obtain ⟨n, rfl⟩ : ∃ n', n = n' + 1 := ⟨n - 1, by omega⟩
    obtain rfl : j = F 0 0 := by omega
    refine ⟨τ, ?_, h⟩
    rw [e_X5_pass_4, h.1.1, if_neg (nI_nlt (by omega) (by omega)), if_pos]
    cases mvJ F S (F 0 0)
    · exact Or.inl rfl
    · exact Or.inr rfl
  | succ c ih =>
    intro j n τ hj hn h
    obtain ⟨n, rfl⟩ : ∃ n', n = n' + 3 := ⟨n - 3, by omega⟩
    have hj6 : j < F 0 0 := by omega
    have hi : inb (nI j) 6 = true := inb_nI (by omega) (by decide)
    have hSJ := si_psJ (t := t) hO hS hP j (by omega)
    have hcol : ∀ c, psJ F t j S c j = S c j := fun c => by unfold psJ; rw [if_neg (by omega)]
    have hhtj : htA F (psJ F t j S) j = htA F S j := by unfold htA; simp only [hcol]
    have hdnj : dnA F (psJ F t j S) j = dnA F S j := dn_cg (hcol 2)
    have hht := ht_le hO hS hj6
    have hh := (hS.1 j hj6).2.2.2.1
    have hX1 := xr_heat (v := htA F S j) h hj6
    have hb := loc_lt hO hS hj6
    have hl := (hS.1 j hj6).2.2.2.2
    have hS1 : SI F (F 0 1) (upA (psJ F t j S) 0 j (htA F S j)) := by
      refine ⟨fun k' hk' => ?_, fun k1 k2 h1 h2 he h0 => ?_, hS.2.2⟩
      · simp only [upA_c (show (1 : Nat) ≠ 0 by decide), upA_c (show (2 : Nat) ≠ 0 by decide), upA_c (show (3 : Nat) ≠ 0 by decide)]
        obtain ⟨a1, a2, a3, a4, a5⟩ := hSJ.1 k' hk'
        refine ⟨a1, a2, a3, ?_, a5⟩
        rw [upA_at]
        split
        · exact hht
        · exact a4
      · rw [upA_c (by decide)] at he h0
        rw [upA_c (by decide)] at he
        exact hSJ.2.1 k1 k2 h1 h2 he h0
    have emv : mvJ F S (j + 1) = (mvJ F S j || (decide (10 ≤ S 1 j) || (decide (htA F S j ≠ S 0 j) && !(dnA F S j)))) := rfl
    -- after the heat is set
    have h83 : ∃ τ', b_X5_pass_83 (n + 1) (nI t) (nI j) (if mvJ F S j = true then 1 else 0) (if (decide (htA F S j ≠ S 0 j) && !(dnA F S j)) = true then 1 else 0) (wr τ 1 j (nI (htA F S j))) = some (some (some (.inl (if mvJ F S (F 0 0) = true then 1 else 0))), τ') ∧ XR τ' F (psJ F t (F 0 0) S) := by
      rw [e_X5_pass_83, if_pos hi, nI_clamp (by omega), (hX1.2.1 j hj6).2.1, upA_c (by decide), hcol, nI_1, bor]
      by_cases h10 : S 1 j < 10
      · rw [if_pos (show nI (S 1 j) < 10 from nI_lt (b := 10) h10 (by decide))]
        have e1 : (mvJ F S j || (decide (htA F S j ≠ S 0 j) && !(dnA F S j))) = mvJ F S (j + 1) := by
          rw [emv, show decide (10 ≤ S 1 j) = false by simp; omega, Bool.false_or]
        rw [e1]
        refine ih (j + 1) n _ (by omega) (by omega) ?_
        rw [ps_step]
        unfold psK
        rw [hcol, if_neg (by omega), hhtj]
        exact hX1
      · rw [if_neg (show ¬ nI (S 1 j) < 10 from nI_nlt (b := 10) (by omega) hb)]
        have hlt := hP j hj6 (by omega)
        obtain ⟨τ2, hw1, hw2⟩ := xf_work (t := t) hO hS1 hX1 hj6 (by rw [upA_c (by decide), hcol]; exact hlt) ht
        rw [hw1, onV_s]
        have e1 : mvJ F S (j + 1) = true := by
          rw [emv, show decide (10 ≤ S 1 j) = true by simp; omega, Bool.true_or, Bool.or_true]
        have := ih (j + 1) n τ2 (by omega) (by omega) (by
          rw [ps_step]
          unfold psK
          rw [hcol, if_pos (by omega), hhtj]
          exact hw2)
        rw [e1, if_pos rfl] at this
        exact this
    have h57 : ∃ τ', b_X5_pass_57 (n + 2) (nI t) (if mvJ F S j = true then 1 else 0) (nI j) (nI (S 0 j)) (nI j) (nI (htA F S j)) τ = some (some (some (.inl (if mvJ F S (F 0 0) = true then 1 else 0))), τ') ∧ XR τ' F (psJ F t (F 0 0) S) := by
      rw [e_X5_pass_57, if_pos hi, if_pos hi, nI_clamp (by omega), wr_same]
      by_cases he : htA F S j = S 0 j
      · rw [if_pos (by rw [he])]
        have e2 : (decide (htA F S j ≠ S 0 j) && !(dnA F S j)) = false := by simp [he]
        rw [e2] at h83
        exact h83
      · rw [if_neg (fun h9 => he ((nI_eq (by omega) (by omega)).mp h9)), xv_fin hO hS1 hX1 hj6, onI_s, dn_u (by decide), hdnj]
        cases hd : dnA F S j with
        | true =>
          have e2 : (decide (htA F S j ≠ S 0 j) && !(dnA F S j)) = false := by simp [hd]
          rw [e2] at h83
          rw [if_pos rfl, if_neg (by decide)]
          exact h83
        | false =>
          have e2 : (decide (htA F S j ≠ S 0 j) && !(dnA F S j)) = true := by simp [hd, he]
          rw [e2] at h83
          rw [if_neg (show ¬ false = true by decide), if_pos rfl]
          exact h83
    rw [e_X5_pass_4, h.1.1, if_pos (nI_lt (by omega) (by omega)), if_pos hi, xv_fire hO hSJ h hj6, onI_s, hcol, nI_clamp (by omega), (h.2.1 j hj6).1, hcol, (h.2.1 j hj6).2.1, hcol]
    by_cases hf : 1 ≤ S 1 j ∧ S 1 j < 10
    · have e1 : nI (S 1 j) - 1 = nI (S 1 j - 1) := nI_sub (b := 1) hf.1
      rw [if_pos hf, if_neg (by decide), if_pos hi, e1, xv_warm hO hSJ h hj6 (by omega), onI_s, hcol]
      have e2 : htA F S j = if S 0 j < F 8 (S 1 j - 1) then min (F 8 (S 1 j - 1)) (S 0 j + F 7 (S 1 j - 1) / F 2 j) else S 0 j := by unfold htA; rw [if_pos hf]
      rw [← e2]
      exact h57
    · rw [if_neg hf, if_pos rfl, xv_cool hO hSJ h hj6, onI_s, hcol]
      have e2 : htA F S j = max 20 (S 0 j - F 3 j) := by unfold htA; rw [if_neg hf]
      rw [← e2]
      exact h57
theorem xf_pass (hO : OkF F) (hS : SI F (F 0 1) S) (hP : PI F S) (h : XR τ F S) (ht : t < 2 ^ 30) : ∃ τ', f_X5_pass [.inr (.inl 0), .inl (nI t)] τ = some (some (some (.inl (if mvJ F S (F 0 0) = true then 1 else 0))), τ') ∧ XR τ' F (psJ F t (F 0 0) S) ∧ SI F (F 0 1) (psJ F t (F 0 0) S) := by
  have h6 := hO.1
  obtain ⟨τ', h1, h2⟩ := xf_pass4 hO hS hP ht (F 0 0) 0 bigM τ (by omega) (by unfold bigM; omega) (by rw [ps_zero]; exact h)
  refine ⟨τ', ?_, h2, si_psJ hO hS hP _ (Nat.le_refl _)⟩
  rw [e_X5_pass]
  exact h1
end PASS
