/-! an iron is worked for a minute -/
def htA (F S : Fg) (k : Nat) : Nat := if 1 ≤ S 1 k ∧ S 1 k < 10 then (if S 0 k < F 8 (S 1 k - 1) then min (F 8 (S 1 k - 1)) (S 0 k + F 7 (S 1 k - 1) / F 2 k) else S 0 k) else max 20 (S 0 k - F 3 k)
def wkA (F : Fg) (t k : Nat) (S : Fg) : Fg := fun c k' => if k' = k then (if S 3 k + 1 = F 6 (5 * k + S 2 k) then (if c = 3 then 0 else if c = 2 then S 2 k + 1 else if c = 4 ∧ S 2 k + 1 = F 4 k then t + 2 else S c k) else if c = 3 then S 3 k + 1 else S c k) else S c k'
def psK (F : Fg) (t k : Nat) (S : Fg) : Fg := if 10 ≤ S 1 k then wkA F t k (upA S 0 k (htA F S k)) else upA S 0 k (htA F S k)
def psJ (F : Fg) (t j : Nat) (S : Fg) : Fg := fun c k => if k < j then psK F t k S c k else S c k
def mvJ (F S : Fg) : Nat → Bool
  | 0 => false
  | j + 1 => mvJ F S j || (decide (10 ≤ S 1 j) || (decide (htA F S j ≠ S 0 j) && !(dnA F S j)))
def PI (F S : Fg) : Prop := ∀ k, k < F 0 0 → 10 ≤ S 1 k → S 2 k < F 4 k
theorem nI_mul (a b : Nat) : nI a * nI b = nI (a * b) := by
  induction b with
  | zero => 
    rw [Nat.mul_zero, show nI 0 = 0 from rfl, Int32.mul_zero]
  | succ b ih =>
    rw [nI_succ, Int32.mul_add, ih, Int32.mul_one, nI_add]
    rfl
theorem ni5 (k s : Nat) : nI k * 5 + nI s = nI (5 * k + s) := by
  rw [show (5 : Int32) = nI 5 from rfl, nI_mul, nI_add, Nat.mul_comm]
section WORK
variable {F : Fg} {np : Nat} {τ τ' : Mm} {S S' : Fg} {k t : Nat}
theorem lf_cg (h2 : S' 2 k = S 2 k) (h3 : S' 3 k = S 3 k) : lfA F S' k = lfA F S k := by unfold lfA; rw [h2, h3]
theorem nd_cg (h2 : S' 2 k = S 2 k) : ndA F S' k = ndA F S k := by unfold ndA; rw [h2]
theorem dn_cg (h2 : S' 2 k = S 2 k) : dnA F S' k = dnA F S k := by unfold dnA; rw [h2]
theorem cn_cg (n : Nat) (h : ∀ k, k < n → dnA F S' k = dnA F S k) : cnA F S' n = cnA F S n := by
  induction n with
  | zero => rfl
  | succ n ih =>
    unfold cnA
    rw [ih (fun k hk => h k (by omega)), h n (by omega)]
theorem cn_dec (n : Nat) (hk : k < n) (h : ∀ k', k' ≠ k → dnA F S' k' = dnA F S k') (h1 : dnA F S k = false) (h2 : dnA F S' k = true) : cnA F S n = cnA F S' n + 1 := by
  induction n with
  | zero => omega
  | succ n ih =>
    unfold cnA
    by_cases e : k = n
    · subst e
      rw [cn_cg k (fun k' hk' => (h k' (by omega))), h1, h2]
      simp
    · rw [ih (by omega), h n (by omega)]
      omega
theorem cn_le (n : Nat) : cnA F S n ≤ n := by
  induction n with
  | zero => exact Nat.le_refl _
  | succ n ih =>
    unfold cnA
    split <;> omega
theorem xr_col (h : XR τ F S) (hc : ∀ c k', k' ≠ k → S' c k' = S c k') (h1 : S' 1 k = S 1 k) (g : ∀ c j, c ≠ 0 → j ≠ k → τ' c j = τ c j) (g2 : ∀ c j, c = 2 ∨ 10 ≤ c → τ' c j = τ c j)
    (hv : τ' 1 k = nI (S' 0 k) ∧ τ' 3 k = nI (S' 2 k) ∧ τ' 6 k = nI (lfA F S' k) ∧ τ' 7 k = nI (S' 4 k) - 1 ∧ τ' 8 k = nI (S' 5 k) ∧ τ' 9 k = nI (S' 6 k) ∧ (S' 2 k < F 4 k → τ' 4 k = nI (F 6 (5 * k + S' 2 k) - S' 3 k) ∧ τ' 5 k = nI (ndA F S' k))) (hU : τ' 0 12 = nI (cnA F S' (F 0 0))) : XR τ' F S' := by
  obtain ⟨hX, hI, hAn, hPl, -⟩ := h
  have l1 : ∀ k', S' 1 k' = S 1 k' := fun k' => by
    by_cases e : k' = k
    · rw [e]; exact h1
    · exact hc 1 k' e
  refine ⟨XF_eq (fun c j h1 h2 => g2 c j (Or.inr (by omega))) hX, fun k' hk' => ?_, fun w hw => ?_, fun w hw => ?_, hU⟩
  · obtain ⟨g1, g2', g3, g4, g5, g6, g7, g8⟩ := hI k' hk'
    by_cases e : k' = k
    · subst e
      obtain ⟨v1, v3, v6, v7, v8, v9, v4⟩ := hv
      exact ⟨v1, by rw [g2 2 _ (Or.inl rfl), l1]; exact g2', v3, v6, v7, v8, v9, v4⟩
    · rw [lf_cg (hc 2 k' e) (hc 3 k' e), nd_cg (hc 2 k' e), hc 0 k' e, hc 1 k' e, hc 2 k' e, hc 3 k' e, hc 4 k' e, hc 5 k' e, hc 6 k' e, g 1 k' (by decide) e, g 2 k' (by decide) e, g 3 k' (by decide) e, g 4 k' (by decide) e, g 5 k' (by decide) e, g 6 k' (by decide) e, g 7 k' (by decide) e, g 8 k' (by decide) e, g 9 k' (by decide) e]
      exact ⟨g1, g2', g3, g4, g5, g6, g7, g8⟩
  · rw [g2 10 _ (Or.inr (by decide))]
    simp only [l1]
    exact hAn w hw
  · rw [g2 11 _ (Or.inr (by decide))]
    simp only [l1]
    exact hPl w hw
theorem xr_heat {v : Nat} (h : XR τ F S) (hk : k < F 0 0) : XR (wr τ 1 k (nI v)) F (upA S 0 k v) := by
  obtain ⟨g1, g2', g3, g4, g5, g6, g7, g8⟩ := h.2.1 k hk
  have hU := h.2.2.2.2
  refine xr_col (k := k) h (fun c k' e => by rw [upA_at, if_neg (fun h9 => e h9.2)]) (upA_c (by decide)) (fun c j _ hj => ?_) (fun c j hc => ?_) ?_ ?_
  · rw [wr_at, if_neg (fun h9 => hj h9.2)]
  · rw [wr_at, if_neg (by omega)]
  · rw [wr_same, wr_cell (by decide), wr_cell (by decide), wr_cell (by decide), wr_cell (by decide), wr_cell (by decide), wr_cell (by decide), wr_cell (by decide), lf_u (by decide) (by decide), nd_u (by decide), upA_c (show (2 : Nat) ≠ 0 by decide), upA_c (show (3 : Nat) ≠ 0 by decide), upA_c (show (4 : Nat) ≠ 0 by decide), upA_c (show (5 : Nat) ≠ 0 by decide), upA_c (show (6 : Nat) ≠ 0 by decide)]
    exact ⟨by rw [upA_at, if_pos ⟨rfl, rfl⟩], g3, g4, g5, g6, g7, g8⟩
  · rw [wr_cell (by decide), cn_u (by decide)]
    exact hU
theorem sm_S {s c : Nat} : smA F k s (c + 1) = F 6 (5 * k + s) + smA F k (s + 1) c := rfl
theorem xf_work (hO : OkF F) (hS : SI F np S) (h : XR τ F S) (hk : k < F 0 0) (hlt : S 2 k < F 4 k) (ht : t < 2 ^ 30) : ∃ τ', f_X5_work [.inr (.inl 0), .inl (nI k), .inl (nI t)] τ = some (some none, τ') ∧ XR τ' F (wkA F t k S) := by
  have h6 := hO.1
  have hi : inb (nI k) 6 = true := inb_nI (by omega) (by decide)
  obtain ⟨g1, g2, g3, g4, g5, g6, g7, g8⟩ := h.2.1 k hk
  obtain ⟨s1, s2, s3, s4, s5⟩ := hS.1 k hk
  have hU := h.2.2.2.2
  have hl := lf_le hO hS hk
  have hw := s2 hlt
  obtain ⟨c, hc⟩ : ∃ c, F 4 k - S 2 k = c + 1 := ⟨F 4 k - S 2 k - 1, by omega⟩
  have el : lfA F S k = F 6 (5 * k + S 2 k) + smA F k (S 2 k + 1) c - S 3 k := by unfold lfA; rw [hc, sm_S]
  have h30 := ((hO.2.2.1 k hk).2.2.2.1 (S 2 k) hlt).2.2
  have h5 := (hO.2.2.1 k hk).2.2.1
  obtain ⟨g81, g82⟩ := g8 hlt
  have eL : nI (lfA F S k) - 1 = nI (lfA F S k - 1) := nI_sub (b := 1) (by omega)
  have eR : nI (F 6 (5 * k + S 2 k) - S 3 k) - 1 = nI (F 6 (5 * k + S 2 k) - S 3 k - 1) := nI_sub (b := 1) (by omega)
  simp only [e_X5_work, if_pos hi]
  rw [nI_clamp (by omega), g4, g81, g3, eL, eR, wr_same, nI_1]
  have wk1 : ∀ c k', k' ≠ k → wkA F t k S c k' = S c k' := fun c k' e => by unfold wkA; rw [if_neg e]
  by_cases hm : S 3 k + 1 = F 6 (5 * k + S 2 k)
  · have wv : ∀ c, wkA F t k S c k = if c = 3 then 0 else if c = 2 then S 2 k + 1 else if c = 4 ∧ S 2 k + 1 = F 4 k then t + 2 else S c k := fun c => by unfold wkA; rw [if_pos rfl, if_pos hm]
    have w3 : wkA F t k S 3 k = 0 := by rw [wv]; rfl
    have w2 : wkA F t k S 2 k = S 2 k + 1 := by rw [wv]; rfl
    have w0 : wkA F t k S 0 k = S 0 k := by rw [wv]; simp
    have w1 : wkA F t k S 1 k = S 1 k := by rw [wv]; simp
    have w5 : wkA F t k S 5 k = S 5 k := by rw [wv]; simp
    have w6 : wkA F t k S 6 k = S 6 k := by rw [wv]; simp
    have elf : lfA F (wkA F t k S) k = lfA F S k - 1 := by
      rw [el]
      unfold lfA
      rw [w2, w3, show F 4 k - (S 2 k + 1) = c by omega]
      omega
    have hr0 : F 6 (5 * k + S 2 k) - S 3 k - 1 = 0 := by omega
    rw [hr0, if_neg (show ¬ (0 : Int32) < nI 0 from by decide), e_X5_isFinished, if_pos hi, nI_clamp (by omega), wr_cell (by decide), wr_cell (by decide), wr_same]
    by_cases hf : S 2 k + 1 = F 4 k
    · have hc0 : c = 0 := by omega
      have hl1 : lfA F S k - 1 = 0 := by
        rw [el, hc0]
        show _ + 0 - _ - 1 = 0
        omega
      have w4 : wkA F t k S 4 k = t + 2 := by rw [wv]; simp [hf]
      rw [hl1, if_pos (show nI 0 = 0 from rfl), onI_s, if_neg (by decide), nI_1]
      refine ⟨_, rfl, ?_⟩
      have hdn : dnA F S k = false := by unfold dnA; simp; omega
      have hdn' : dnA F (wkA F t k S) k = true := by unfold dnA; rw [w2]; simp; omega
      have hcn := cn_dec (F := F) (S := S) (S' := wkA F t k S) (F 0 0) hk (fun k' e => dn_cg (wk1 2 k' e)) hdn hdn'
      refine xr_col (k := k) h wk1 w1 (fun c j h0 hj => ?_) (fun c j hc => ?_) ⟨?_, ?_, ?_, ?_, ?_, ?_, fun h9 => ?_⟩ ?_
      · simp only [wr_at]
        rw [if_neg (by omega), if_neg (fun h9 => hj h9.2), if_neg (fun h9 => hj h9.2), if_neg (fun h9 => hj h9.2), if_neg (fun h9 => hj h9.2)]
      · simp only [wr_at]
        rw [if_neg (by omega), if_neg (by omega), if_neg (by omega), if_neg (by omega), if_neg (by omega)]
      · simp only [wr_at]; simp; rw [w0]; exact g1
      · simp only [wr_at]; simp; rw [w2]
      · simp only [wr_at]; simp; rw [elf, hl1]
      · simp only [wr_at]; simp
        rw [w4, show (1 : Int32) = nI 1 from rfl, nI_sub (by omega)]; rfl
      · simp only [wr_at]; simp; rw [w5]; exact g6
      · simp only [wr_at]; simp; rw [w6]; exact g7
      · omega
      · simp only [wr_at]; simp
        rw [hU, hcn]
        exact nI_pred _
    · have hlf : 1 ≤ lfA F S k - 1 := by
        obtain ⟨c', rfl⟩ : ∃ c', c = c' + 1 := ⟨c - 1, by omega⟩
        have := ((hO.2.2.1 k hk).2.2.2.1 (S 2 k + 1) (by omega)).2.1
        rw [el, sm_S]
        omega
      have w4 : wkA F t k S 4 k = S 4 k := by rw [wv]; simp [hf]
      have hst := (h.1.2.2.1 k hk).2.2.2.2.1 (S 2 k + 1) (by omega)
      have hnd : ndA F (wkA F t k S) k = F 5 (5 * k + (S 2 k + 1)) := by unfold ndA; rw [w2]
      have hi30 : inb (nI (5 * k + (S 2 k + 1))) 30 = true := inb_nI (by omega) (by decide)
      rw [if_neg (nI_ne0 (by omega) (by omega)), onI_s, if_pos rfl, e_X5_beginStep, nI_clamp (by omega), wr_same, ni5]
      simp only [if_pos hi, if_pos hi30]
      rw [onV_s, nI_clamp (by omega)]
      refine ⟨_, rfl, ?_⟩
      refine xr_col (k := k) h wk1 w1 (fun c j h0 hj => ?_) (fun c j hc => ?_) ⟨?_, ?_, ?_, ?_, ?_, ?_, fun h9 => ⟨?_, ?_⟩⟩ ?_
      · simp only [wr_at]
        rw [if_neg (fun h9 => hj h9.2), if_neg (fun h9 => hj h9.2), if_neg (fun h9 => hj h9.2), if_neg (fun h9 => hj h9.2), if_neg (fun h9 => hj h9.2)]
      · simp only [wr_at]
        rw [if_neg (by omega), if_neg (by omega), if_neg (by omega), if_neg (by omega), if_neg (by omega)]
      · simp only [wr_at]; simp; rw [w0]; exact g1
      · simp only [wr_at]; simp; rw [w2]
      · simp only [wr_at]; simp; rw [elf]
      · simp only [wr_at]; simp; rw [w4]; exact g5
      · simp only [wr_at]; simp; rw [w5]; exact g6
      · simp only [wr_at]; simp; rw [w6]; exact g7
      · simp only [wr_at]; simp; rw [w2, w3]; exact hst.2
      · simp only [wr_at]; simp; rw [hnd]; exact hst.1
      · simp only [wr_at]; simp
        rw [hU, cn_cg (F 0 0) (fun k' hk' => ?_)]
        by_cases e : k' = k
        · subst e
          unfold dnA
          rw [w2]
          simp
          omega
        · exact (dn_cg (wk1 2 k' e)).symm
  · have wv : ∀ c, wkA F t k S c k = if c = 3 then S 3 k + 1 else S c k := fun c => by unfold wkA; rw [if_pos rfl, if_neg hm]
    have w3 : wkA F t k S 3 k = S 3 k + 1 := by rw [wv]; rfl
    have w2 : wkA F t k S 2 k = S 2 k := by rw [wv]; rfl
    have elf : lfA F (wkA F t k S) k = lfA F S k - 1 := by
      rw [el]
      unfold lfA
      rw [w2, w3, hc, sm_S]
      omega
    rw [if_pos (show (0 : Int32) < nI _ from nI_lt (a := 0) (by omega) (by omega))]
    refine ⟨_, rfl, ?_⟩
    refine xr_col (k := k) h wk1 (by rw [wv]; rfl) (fun c j h0 hj => ?_) (fun c j hc => ?_) ⟨?_, ?_, ?_, ?_, ?_, ?_, fun h9 => ⟨?_, ?_⟩⟩ ?_
    · simp only [wr_at]
      rw [if_neg (fun h9 => hj h9.2), if_neg (fun h9 => hj h9.2)]
    · simp only [wr_at]
      rw [if_neg (by omega), if_neg (by omega)]
    · simp only [wr_at]; simp; rw [wv]; exact g1
    · simp only [wr_at]; simp; rw [wv]; exact g3
    · simp only [wr_at]; simp; rw [elf]
    · simp only [wr_at]; simp; rw [wv]; exact g5
    · simp only [wr_at]; simp; rw [wv]; exact g6
    · simp only [wr_at]; simp; rw [wv]; exact g7
    · simp only [wr_at]; simp; rw [w2, w3, Nat.sub_sub]
    · simp only [wr_at]; simp; rw [nd_cg w2]; exact g82
    · simp only [wr_at]; simp
      rw [hU, cn_cg (F 0 0) (fun k' hk' => ?_)]
      by_cases e : k' = k
      · subst e; exact (dn_cg w2).symm
      · exact (dn_cg (wk1 2 k' e)).symm
end WORK
