/-! the reference's iron in a minute -/
section MWORK
variable {F S : Fg} {σ : Mm} {bo : List Nat} {P wo k t : Nat}
theorem m1_heat {h : Nat} (m : M1 σ S wo k) : M1 (wr σ 8 k (nI h)) (upA S 0 k h) wo k := by
  obtain ⟨a1, a2, a3, a4, a5, a6, a7⟩ := m
  refine ⟨?_, ?_, ?_, ?_, ?_, ?_, ?_⟩
  · rw [wr_same, upA_at, if_pos ⟨rfl, rfl⟩]
  · rw [wr_cell (by decide), upA_c (by decide)]; exact a2
  · rw [wr_cell (by decide), upA_c (by decide)]; exact a3
  · rw [wr_cell (by decide), upA_c (by decide)]; exact a4
  · rw [wr_cell (by decide), upA_c (by decide)]; exact a5
  · rw [wr_cell (by decide), upA_c (by decide)]; exact a6
  · rw [wr_cell (by decide), upA_c (by decide)]; exact a7
theorem mo_cool (hO : OkF F) (hk : k < F 0 0) (hh : 20 ≤ S 0 k ∧ S 0 k ≤ 1500) (hM : MI σ F k) (m : M1 σ S wo k) (n : Nat) : b_X7_works_175 (n + 1) (nI k) σ = some (some none, wr σ 8 k (nI (max 20 (S 0 k - F 3 k)))) := by
  have h6 := hO.1
  have hc := (hO.2.2.1 k hk).2.1
  have hi : inb (nI k) 6 = true := inb_nI (by omega) (by decide)
  rw [e_X7_works_175, if_pos hi, n12, if_pos (inb_nI (by omega) (by decide)), if_pos hi, nI_clamp (by omega), nI_clamp (by omega), m.1, hM.2.2.1]
  by_cases hle : F 3 k + 20 < S 0 k
  · rw [nI_sub (by omega), if_pos (show (20 : Int32) < nI (S 0 k - F 3 k) from nI_lt (a := 20) (by omega) (by omega)), show max 20 (S 0 k - F 3 k) = S 0 k - F 3 k by omega]
  · have hlt : ¬ 20 < nI (S 0 k) - nI (F 3 k) := by
      rw [Int32.lt_iff_toInt_lt, Int32.toInt_sub, nI_toInt (by omega), nI_toInt (by omega)]
      have e20 : (20 : Int32).toInt = 20 := by decide
      have eb : ((S 0 k : Int) - (F 3 k : Int)).bmod (2 ^ 32) = (S 0 k : Int) - (F 3 k : Int) := by apply Int.bmod_eq_of_le <;> omega
      rw [e20, eb]
      omega
    rw [if_neg hlt, show max 20 (S 0 k - F 3 k) = 20 by omega]
    rfl
theorem up_id : upA S 0 k (S 0 k) = S := by
  funext c k'
  rw [upA_at]
  by_cases e : c = 0 ∧ k' = k
  · rw [if_pos e, e.1, e.2]
  · rw [if_neg e]
theorem mo_heat (hO : OkF F) (hk : k < F 0 0) (hh : 20 ≤ S 0 k ∧ S 0 k ≤ 1500) (hl : S 1 k = 0 ∨ (1 ≤ S 1 k ∧ S 1 k ≤ F 0 1) ∨ (10 ≤ S 1 k ∧ S 1 k < 13)) (hC : MC σ F bo P wo) (hM : MI σ F k) (m : M1 σ S wo k) (n : Nat) : ∃ σ', b_X7_works_82 (n + 2) (nI k) σ = some (some none, σ') ∧ Fxm σ σ' ∧ (∀ c k', k' ≠ k → σ' c k' = σ c k') ∧ M1 σ' (upA S 0 k (htA F S k)) wo k := by
  have h6 := hO.1
  have h3 := hO.2.1
  have hi : inb (nI k) 6 = true := inb_nI (by omega) (by decide)
  have hm := (hO.2.2.1 k hk).1
  have cool : ∀ n, htA F S k = max 20 (S 0 k - F 3 k) → ∃ σ', b_X7_works_175 (n + 1) (nI k) σ = some (some none, σ') ∧ Fxm σ σ' ∧ (∀ c k', k' ≠ k → σ' c k' = σ c k') ∧ M1 σ' (upA S 0 k (htA F S k)) wo k := by
    intro n he
    refine ⟨_, mo_cool hO hk hh hM m n, Fxm_wr (by omega), fun c k' e => ?_, ?_⟩
    · rw [wr_at, if_neg (fun h9 => e h9.2)]
    · rw [he]
      exact m1_heat m
  have hll := lc_lt (wo := wo) (S := S) (k := k) (by omega)
  rw [e_X7_works_82, if_pos hi, nI_clamp (by omega), m.2.1]
  by_cases h0 : S 1 k = 0
  · rw [h0, show lcA wo 0 = 0 from rfl, if_neg (show ¬ (0 : Int32) < nI 0 by decide)]
    exact cool n (by unfold htA; rw [if_neg (by omega)])
  · have hne : 0 < lcA wo (S 1 k) := Nat.pos_of_ne_zero (fun h9 => h0 (lcz.mp h9))
    rw [if_pos (show (0 : Int32) < nI _ from nI_lt (a := 0) hne (by omega)), if_pos hi]
    by_cases h10 : S 1 k < 10
    · have hpl : lcA wo (S 1 k) = 1 + plW wo (S 1 k - 1) := by unfold lcA; rw [if_neg h0, if_neg (by omega)]
      have hpb : plW wo (S 1 k - 1) ≤ 3 := by unfold plW; split <;> omega
      obtain ⟨e7, e8⟩ := hC.2.2.1 (S 1 k - 1) (by omega)
      have hp := hO.2.2.2.2.1 (S 1 k - 1) (by omega)
      have hd : F 7 (S 1 k - 1) / F 2 k ≤ F 7 (S 1 k - 1) := Nat.div_le_self _ _
      have i69 : (69 : Int32) + nI (1 + plW wo (S 1 k - 1)) - 1 = nI (69 + plW wo (S 1 k - 1)) := by
        rw [n69, show 69 + (1 + plW wo (S 1 k - 1)) = 69 + plW wo (S 1 k - 1) + 1 by omega]
        exact nI_pred _
      have i66 : (66 : Int32) + nI (1 + plW wo (S 1 k - 1)) - 1 = nI (66 + plW wo (S 1 k - 1)) := by
        rw [n66, show 66 + (1 + plW wo (S 1 k - 1)) = 66 + plW wo (S 1 k - 1) + 1 by omega]
        exact nI_pred _
      have ht : htA F S k = if S 0 k < F 8 (S 1 k - 1) then min (F 8 (S 1 k - 1)) (S 0 k + F 7 (S 1 k - 1) / F 2 k) else S 0 k := by unfold htA; rw [if_pos ⟨by omega, h10⟩]
      rw [if_pos (show nI _ < 10 from nI_lt (b := 10) ((lc_10 (by omega)).mpr h10) (by decide)), if_pos hi, hpl, i69, i66, if_pos (inb_nI (by omega) (by decide)), if_pos hi, nI_clamp (by omega), e8, m.1]
      by_cases hc : S 0 k < F 8 (S 1 k - 1)
      · rw [if_pos hc] at ht
        rw [if_pos (nI_lt hc (by omega)), if_pos hi, if_pos hi, if_pos (inb_nI (by omega) (by decide)), n6, if_pos (inb_nI (by omega) (by decide)), nI_clamp (by omega), nI_clamp (by omega), hM.2.1, e7, if_neg (nI_ne0 (by omega) (by omega)), if_pos hi, nI_div (by omega) (by omega) (by omega), nI_add]
        refine ⟨_, rfl, Fxm_wr (by omega), fun c k' e => ?_, ?_⟩
        · rw [wr_at, if_neg (fun h9 => e h9.2)]
        · have hv : (if nI (S 0 k + F 7 (S 1 k - 1) / F 2 k) < nI (F 8 (S 1 k - 1)) then nI (S 0 k + F 7 (S 1 k - 1) / F 2 k) else nI (F 8 (S 1 k - 1))) = nI (htA F S k) := by
            rw [ht]
            by_cases hg : S 0 k + F 7 (S 1 k - 1) / F 2 k < F 8 (S 1 k - 1)
            · rw [if_pos (nI_lt hg (by omega)), show min (F 8 (S 1 k - 1)) (S 0 k + F 7 (S 1 k - 1) / F 2 k) = S 0 k + F 7 (S 1 k - 1) / F 2 k by omega]
            · rw [if_neg (nI_nlt (by omega) (by omega)), show min (F 8 (S 1 k - 1)) (S 0 k + F 7 (S 1 k - 1) / F 2 k) = F 8 (S 1 k - 1) by omega]
          rw [hv]
          exact m1_heat m
      · rw [if_neg hc] at ht
        rw [if_neg (nI_nlt (by omega) (by omega))]
        refine ⟨_, rfl, Fxm_refl σ, fun _ _ _ => rfl, ?_⟩
        rw [ht, up_id]
        exact m
    · rw [if_neg (show ¬ nI _ < 10 from nI_nlt (b := 10) (by have := (lc_10 (wo := wo) (x := S 1 k) (by omega)); omega) (by omega))]
      exact cool n (by unfold htA; rw [if_neg (by omega)])
theorem wk_up {h c : Nat} : upA (wkA F t k S) 0 k h c k = wkA F t k (upA S 0 k h) c k := by
  by_cases h0 : c = 0
  · subst h0
    rw [wk_1 (Or.inl rfl), upA_at, upA_at, if_pos ⟨rfl, rfl⟩, if_pos ⟨rfl, rfl⟩]
  · rw [upA_c h0]
    unfold wkA
    rw [if_pos rfl, if_pos rfl, upA_c (show (3 : Nat) ≠ 0 by decide), upA_c (show (2 : Nat) ≠ 0 by decide), upA_c h0]
theorem mf_work (hO : OkF F) (hS : SI F (F 0 1) S) (hP : PI F S) (ht : t < 2 ^ 30) (hC : MC σ F bo P wo) (hkb : k ∈ bo) (m : M1 σ S wo k) : ∃ σ', f_X7_works [.inr (.inl 0), .inl (nI k), .inl (nI t)] σ = some (some none, σ') ∧ Fxm σ σ' ∧ (∀ c k', k' ≠ k → σ' c k' = σ c k') ∧ M1 σ' (psK F t k S) wo k := by
  obtain ⟨hM, hk⟩ := hC.1.2.2.2 k hkb
  have h6 := hO.1
  have hi : inb (nI k) 6 = true := inb_nI (by omega) (by decide)
  obtain ⟨s1, s2, s3, s4, s5⟩ := hS.1 k hk
  have hloc := loc3 hO hS hk
  have hll := lc_lt (wo := wo) hloc
  have h5 := (hO.2.2.1 k hk).2.2.1
  obtain ⟨n, hn⟩ : ∃ n, bigM = n + 2 := ⟨bigM - 2, rfl⟩
  rw [e_X7_works, if_pos hi, nI_clamp (by omega), m.2.1, hn]
  by_cases h10 : S 1 k < 10
  · rw [if_pos (show nI _ < 10 from nI_lt (b := 10) ((lc_10 (by omega)).mpr h10) (by decide))]
    have := mo_heat hO hk s4 (by omega) hC hM m n
    unfold psK
    rw [if_neg (by omega)]
    exact this
  · have hlt := hP k hk (by omega)
    have hw := s2 hlt
    have h30 := ((hO.2.2.1 k hk).2.2.2.1 (S 2 k) hlt).2.2
    -- the minute is counted; then the heat
    have fin : ∀ σ1, Fxm σ σ1 → (∀ c k', k' ≠ k → σ1 c k' = σ c k') → M1 σ1 (wkA F t k S) wo k → ∃ σ', b_X7_works_82 (n + 2) (nI k) σ1 = some (some none, σ') ∧ Fxm σ σ' ∧ (∀ c k', k' ≠ k → σ' c k' = σ c k') ∧ M1 σ' (psK F t k S) wo k := by
      intro σ1 hf hg hm
      have hC1 := mc_fx hf hC
      have w0 : wkA F t k S 0 k = S 0 k := wk_1 (by omega)
      have w1 : wkA F t k S 1 k = S 1 k := wk_1 (by omega)
      obtain ⟨σ2, a1, a2, a3, a4⟩ := mo_heat hO hk (by rw [w0]; exact s4) (by rw [w1]; omega) hC1 (hC1.1.2.2.2 k hkb).1 hm n
      refine ⟨σ2, a1, Fxm_trans hf a2, fun c k' e => (a3 c k' e).trans (hg c k' e), m1_S (fun c => ?_) a4⟩
      have e9 : htA F (wkA F t k S) k = htA F S k := by unfold htA; rw [w0, w1]
      rw [e9, wk_up]
      unfold psK
      rw [if_pos (by omega)]
    simp only [if_pos hi]
    rw [if_neg (show ¬ nI _ < 10 from nI_nlt (b := 10) (by have := (lc_10 (wo := wo) (x := S 1 k) (by omega)); omega) (by omega)), m.2.2.1, m.2.2.2.1, show (36 : Int32) = nI 36 from rfl, n5s, if_pos (inb_nI (by omega) (by decide)), nI_clamp (by omega), (hM.2.2.2.2 _ hlt).2, wr_same, nI_1, nI_1]
    have wv : ∀ c, wkA F t k S c k = if S 3 k + 1 = F 6 (5 * k + S 2 k) then (if c = 3 then 0 else if c = 2 then S 2 k + 1 else if c = 4 ∧ S 2 k + 1 = F 4 k then t + 2 else S c k) else if c = 3 then S 3 k + 1 else S c k := fun c => by unfold wkA; rw [if_pos rfl]
    obtain ⟨m8, m9, m10, m11, m12, m13, m14⟩ := m
    by_cases hm : S 3 k + 1 = F 6 (5 * k + S 2 k)
    · have wv' : ∀ c, wkA F t k S c k = if c = 3 then 0 else if c = 2 then S 2 k + 1 else if c = 4 ∧ S 2 k + 1 = F 4 k then t + 2 else S c k := fun c => by rw [wv, if_pos hm]
      rw [if_pos (by rw [hm])]
      have hfx : Fxm σ (wr (wr (wr σ 11 k (nI (S 3 k + 1))) 10 k (nI (S 2 k + 1))) 11 k 0) := Fxm_trans (Fxm_wr (by omega)) (Fxm_trans (Fxm_wr (by omega)) (Fxm_wr (by omega)))
      have hg : ∀ c k', k' ≠ k → wr (wr (wr σ 11 k (nI (S 3 k + 1))) 10 k (nI (S 2 k + 1))) 11 k 0 c k' = σ c k' := fun c k' e => by
        rw [wr_at, if_neg (fun h9 => e h9.2), wr_at, if_neg (fun h9 => e h9.2), wr_at, if_neg (fun h9 => e h9.2)]
      have hM1 : MI (wr (wr (wr σ 11 k (nI (S 3 k + 1))) 10 k (nI (S 2 k + 1))) 11 k 0) F k := ((mc_fx hfx hC).1.2.2.2 k hkb).1
      rw [e_X7_isDone, if_pos hi, z0, if_pos (inb_nI (by omega) (by decide)), nI_clamp (by omega), hM1.2.2.2.1, wr_cell (show (10 : Nat) ≠ 11 by decide), wr_same]
      by_cases hf : S 2 k + 1 = F 4 k
      · rw [if_pos (by rw [hf]), onI_s, if_neg (by decide), nI_1]
        refine fin _ (Fxm_trans hfx (Fxm_wr (by omega))) (fun c k' e => ?_) ⟨?_, ?_, ?_, ?_, ?_, ?_, ?_⟩
        · rw [wr_at, if_neg (fun h9 => e h9.2)]
          exact hg c k' e
        · simp only [wr_at]; simp; rw [wv']; exact m8
        · simp only [wr_at]; simp; rw [wv']; exact m9
        · simp only [wr_at]; simp; rw [wv']; rfl
        · simp only [wr_at]; simp; rw [wv']; rfl
        · simp only [wr_at]; simp; rw [wv', if_neg (by decide), if_neg (by decide), if_pos ⟨rfl, hf⟩, show (1 : Int32) = nI 1 from rfl, nI_sub (by omega)]; rfl
        · simp only [wr_at]; simp; rw [wv']; exact m13
        · simp only [wr_at]; simp; rw [wv']; exact m14
      · rw [if_neg (fun h9 => hf ((nI_eq (by omega) (by omega)).mp h9)), onI_s, if_pos rfl]
        refine fin _ hfx hg ⟨?_, ?_, ?_, ?_, ?_, ?_, ?_⟩
        · simp only [wr_at]; simp; rw [wv']; exact m8
        · simp only [wr_at]; simp; rw [wv']; exact m9
        · simp only [wr_at]; simp; rw [wv']; rfl
        · simp only [wr_at]; simp; rw [wv']; rfl
        · simp only [wr_at]; simp; rw [wv', if_neg (by decide), if_neg (by decide), if_neg (fun h9 => hf h9.2)]; exact m12
        · simp only [wr_at]; simp; rw [wv']; exact m13
        · simp only [wr_at]; simp; rw [wv']; exact m14
    · have wv' : ∀ c, wkA F t k S c k = if c = 3 then S 3 k + 1 else S c k := fun c => by rw [wv, if_neg hm]
      rw [if_neg (fun h9 => hm ((nI_eq (by omega) (by omega)).mp h9))]
      refine fin _ (Fxm_wr (by omega)) (fun c k' e => ?_) ⟨?_, ?_, ?_, ?_, ?_, ?_, ?_⟩
      · rw [wr_at, if_neg (fun h9 => e h9.2)]
      · simp only [wr_at]; simp; rw [wv']; exact m8
      · simp only [wr_at]; simp; rw [wv']; exact m9
      · simp only [wr_at]; simp; rw [wv']; exact m10
      · simp only [wr_at]; simp; rw [wv']; rfl
      · simp only [wr_at]; simp; rw [wv']; exact m12
      · simp only [wr_at]; simp; rw [wv']; exact m13
      · simp only [wr_at]; simp; rw [wv']; exact m14
end MWORK
