/-! the class begins a run -/
section BEG
variable {F : Fg} {τ : Mm} {k : Nat}
theorem xw_min (hO : OkF F) (h : XF τ 0 F) (hk : k < F 0 0) : ∀ (c s a n : Nat), s + c = F 4 k → c < n → b_X2_minutesOfWork_4 n (nI k) (nI a) (nI s) τ = some (some (some (.inl (nI (a + smA F k s c)))), τ) := by
  have h6 := hO.1
  have hi : inb (nI k) 6 = true := inb_nI (by omega) (by decide)
  have h5 := (hO.2.2.1 k hk).2.2.1
  have e4 : τ 4 k = nI (F 4 k) := (h.2.2.1 k hk).2.2.1
  intro c
  induction c with
  | zero =>
    intro s a n hs hn
    obtain ⟨n, rfl⟩ : ∃ n', n = n' + 1 := ⟨n - 1, by omega⟩
    rw [e_X2_minutesOfWork_4, if_pos hi, nI_clamp (by omega), e4, if_neg (nI_nlt (by omega) (by omega))]
    rfl
  | succ c ih =>
    intro s a n hs hn
    obtain ⟨n, rfl⟩ : ∃ n', n = n' + 1 := ⟨n - 1, by omega⟩
    have e6 : τ 6 (5 * k + s) = nI (F 6 (5 * k + s)) := ((h.2.2.1 k hk).2.2.2.2.1 s (by omega)).2
    rw [e_X2_minutesOfWork_4, if_pos hi, nI_clamp (by omega), e4, if_pos (nI_lt (by omega) (by omega)), ni5, if_pos (inb_nI (by omega) (by decide)), nI_clamp (by omega), e6, nI_add, nI_1, ih (s + 1) _ n (by omega) (by omega), sm_S, Nat.add_assoc]
/-- the irons below j have begun -/
def BG (τ : Mm) (F : Fg) (j : Nat) : Prop := XF τ 12 F ∧ (∀ k, k < j → τ 1 k = nI (s0A F 0 k) ∧ τ 2 k = nI (s0A F 1 k) ∧ τ 3 k = nI (s0A F 2 k) ∧ τ 6 k = nI (lfA F (s0A F) k) ∧ τ 7 k = nI (s0A F 4 k) - 1 ∧ τ 8 k = nI (s0A F 5 k) ∧ τ 9 k = nI (s0A F 6 k) ∧ (s0A F 2 k < F 4 k → τ 4 k = nI (F 6 (5 * k + s0A F 2 k) - s0A F 3 k) ∧ τ 5 k = nI (ndA F (s0A F) k))) ∧ (∀ v, v < 3 → τ 10 v = -1) ∧ (∀ v, v < 3 → τ 11 v = -1) ∧ τ 0 12 = nI (cnA F (s0A F) j)
theorem bg_iron (hO : OkF F) (h : BG τ F k) (hk : k < F 0 0) : ∃ τ', f_X5_beginIron [.inr (.inl 0), .inl (nI k)] τ = some (some none, τ') ∧ BG τ' F (k + 1) := by
  have h6 := hO.1
  have hi : inb (nI k) 6 = true := inb_nI (by omega) (by decide)
  obtain ⟨hX, hI, hA, hP, hU⟩ := h
  have hlf : lfA F (s0A F) k = smA F k 0 (F 4 k) := rfl
  have hle := lf_le hO (si_0 hO) hk
  have hz := lf_zero hO (si_0 hO) hk
  have h5 := (hO.2.2.1 k hk).2.2.1
  have hcn : cnA F (s0A F) (k + 1) = cnA F (s0A F) k + (if dnA F (s0A F) k = true then 0 else 1) := rfl
  simp only [e_X5_beginIron, if_pos hi]
  rw [nI_clamp (by omega)]
  generalize hM : wr (wr (wr (wr (wr τ 1 k 20) 2 k 0) 3 k 0) 8 k 0) 9 k 0 = M1
  have hg : ∀ c j, (c ≠ 1 ∧ c ≠ 2 ∧ c ≠ 3 ∧ c ≠ 8 ∧ c ≠ 9) ∨ j ≠ k → M1 c j = τ c j := by
    intro c j h9
    rw [← hM]
    simp only [wr_at]
    rw [if_neg (by omega), if_neg (by omega), if_neg (by omega), if_neg (by omega), if_neg (by omega)]
  have m1 : M1 1 k = 20 := by rw [← hM]; simp only [wr_at]; simp
  have m2 : M1 2 k = 0 := by rw [← hM]; simp only [wr_at]; simp
  have m3 : M1 3 k = 0 := by rw [← hM]; simp only [wr_at]; simp
  have m8 : M1 8 k = 0 := by rw [← hM]; simp only [wr_at]; simp
  have m9 : M1 9 k = 0 := by rw [← hM]; simp only [wr_at]; simp
  have hX1 : XF M1 12 F := XF_eq (fun c j h1 h2 => hg c j (by omega)) hX
  have hX2 : XF (pk (sgC 12 11) M1) 0 F := hX1
  have hmw : f_X2_minutesOfWork [.inr (.inl 0), .inl (nI k)] (pk (sgC 12 11) M1) = some (some (some (.inl (nI (lfA F (s0A F) k)))), pk (sgC 12 11) M1) := by
    rw [e_X2_minutesOfWork]
    have := xw_min hO hX2 hk (F 4 k) 0 0 bigM (by omega) (by unfold bigM; omega)
    rw [Nat.zero_add] at this
    exact this
  rw [hmw, onI_s, putC_id, e_X5_isFinished, if_pos hi, nI_clamp (by omega), wr_same]
  by_cases hd : dnA F (s0A F) k = true
  · have h0 : F 4 k = 0 := by
      have hd' := hd
      unfold dnA at hd'
      exact (of_decide_eq_true hd').symm
    rw [hz.mpr hd, if_pos (show nI 0 = 0 from rfl), onI_s, if_neg (by decide)]
    refine ⟨_, rfl, XF_eq (fun c j h1 h2 => ?_) hX1, fun k' hk' => ?_, fun v hv => ?_, fun v hv => ?_, ?_⟩
    · rw [wr_cell (by omega), wr_cell (by omega)]
    · by_cases e : k' = k
      · subst e
        simp only [wr_at]
        simp only [Nat.reduceEqDiff, false_and, if_false, true_and, if_true]
        refine ⟨m1, m2, m3, by rw [hz.mpr hd], ?_, m8, m9, fun h9 => ?_⟩
        · have : s0A F 4 k' = 1 := by unfold s0A; simp [h0]
          rw [this]; rfl
        · rw [h0] at h9; omega
      · have := hI k' (by omega)
        simp only [wr_at, e, and_false, if_false]
        simp only [hg _ k' (Or.inr e)]
        exact this
    · rw [wr_cell (by decide), wr_cell (by decide), hg _ _ (by omega)]; exact hA v hv
    · rw [wr_cell (by decide), wr_cell (by decide), hg _ _ (by omega)]; exact hP v hv
    · rw [wr_cell (by decide), wr_cell (by decide), hg _ _ (by omega), hU, hcn, if_pos hd]; rfl
  · have h0 : 0 < F 4 k := by
      have hd' := hd
      unfold dnA at hd'
      have h9 : ¬ (0 = F 4 k) := fun h8 => hd' (decide_eq_true h8)
      omega
    have hne : ¬ nI (lfA F (s0A F) k) = 0 := nI_ne0 (Nat.pos_of_ne_zero (fun h9 => hd (hz.mp h9))) (by omega)
    have hi30 : inb (nI (5 * k + 0)) 30 = true := inb_nI (by omega) (by decide)
    have hst := (hX1.2.2.1 k hk).2.2.2.2.1 0 h0
    rw [if_neg hne, onI_s, if_pos rfl, e_X5_beginStep, nI_clamp (by omega), wr_cell (by decide), wr_cell (by decide), wr_cell (by decide), m3, show (0 : Int32) = nI 0 from rfl, ni5]
    simp only [if_pos hi, if_pos hi30]
    rw [onV_s, nI_clamp (by omega)]
    have e1 : s0A F 4 k = 0 := by unfold s0A; simp; omega
    refine ⟨_, rfl, XF_eq (fun c j h1 h2 => ?_) hX1, fun k' hk' => ?_, fun v hv => ?_, fun v hv => ?_, ?_⟩
    · rw [wr_cell (by omega), wr_cell (by omega), wr_cell (by omega), wr_cell (by omega), wr_cell (by omega)]
    · by_cases e : k' = k
      · subst e
        simp only [wr_at]
        simp only [Nat.reduceEqDiff, false_and, if_false, true_and, if_true]
        refine ⟨m1, m2, m3, by rw [e1]; rfl, m8, m9, fun h9 => ⟨hst.2, hst.1⟩⟩
      · have := hI k' (by omega)
        simp only [wr_at, e, and_false, if_false]
        simp only [Nat.reduceEqDiff, false_and, if_false, hg _ k' (Or.inr e)]
        exact this
    · simp only [wr_at, Nat.reduceEqDiff, false_and, if_false]; rw [hg _ _ (by omega)]; exact hA v hv
    · simp only [wr_at, Nat.reduceEqDiff, false_and, if_false]; rw [hg _ _ (by omega)]; exact hP v hv
    · rw [wr_cell (by decide), wr_cell (by decide), wr_same, wr_cell (by decide), hg _ _ (by omega), hU, hcn, if_neg hd]
      exact nI_1 _
theorem bg_irons (hO : OkF F) : ∀ (c j n : Nat) (τ : Mm), j + c = F 0 0 → c < n → BG τ F j → ∃ τ', b_X5_begin_47 n (nI j) τ = some (some none, τ') ∧ BG τ' F (F 0 0) := by
  have h6 := hO.1
  intro c
  induction c with
  | zero =>
    intro j n τ hj hn h
    obtain ⟨n, rfl⟩ : ∃ n', n = n' + 1 := ⟨n - 1, by omega⟩
    refine ⟨τ, ?_, (show j = F 0 0 by omega) ▸ h⟩
    rw [e_X5_begin_47, h.1.1, if_neg (nI_nlt (by omega) (by omega))]
  | succ c ih =>
    intro j n τ hj hn h
    obtain ⟨n, rfl⟩ : ∃ n', n = n' + 1 := ⟨n - 1, by omega⟩
    obtain ⟨τ1, e1, h1⟩ := bg_iron hO h (by omega)
    rw [e_X5_begin_47, h.1.1, if_pos (nI_lt (by omega) (by omega)), e1, onV_s, nI_1]
    exact ih (j + 1) n τ1 (by omega) (by omega) h1
theorem xf_begin (hO : OkF F) (h : XF τ 12 F) : ∃ τ', f_X5_begin [.inr (.inl 0)] τ = some (some none, τ') ∧ XR τ' F (s0A F) := by
  have h6 := hO.1
  have l0 : (0 : Int32) < 3 := by decide
  have l1 : (0 + 1 : Int32) < 3 := by decide
  have l2 : (0 + 1 + 1 : Int32) < 3 := by decide
  have l3 : ¬ (0 + 1 + 1 + 1 : Int32) < 3 := by decide
  have i0 : inb 0 3 = true := by decide
  have i1 : inb (0 + 1) 3 = true := by decide
  have i2 : inb (0 + 1 + 1) 3 = true := by decide
  have c0 : (0 : Int32).toNatClampNeg = 0 := by decide
  have c1 : (0 + 1 : Int32).toNatClampNeg = 1 := by decide
  have c2 : (0 + 1 + 1 : Int32).toNatClampNeg = 2 := by decide
  obtain ⟨m, hm⟩ : ∃ m, bigM = m + 8 := ⟨bigM - 8, by unfold bigM; omega⟩
  have hm6 : 6 < m := by have : bigM = 99999 := rfl; omega
  rw [e_X5_begin, hm, e_X5_begin_7, if_pos l0, if_pos i0, e_X5_begin_7, if_pos l1, if_pos i1, e_X5_begin_7, if_pos l2, if_pos i2, e_X5_begin_7, if_neg l3, e_X5_begin_27, if_pos l0, if_pos i0, e_X5_begin_27, if_pos l1, if_pos i1, e_X5_begin_27, if_pos l2, if_pos i2, e_X5_begin_27, if_neg l3, c0, c1, c2]
  generalize hM : wr (wr (wr (wr (wr (wr (wr τ 0 12 0) 10 0 (-1)) 10 1 (-1)) 10 2 (-1)) 11 0 (-1)) 11 1 (-1)) 11 2 (-1) = M1
  have hB : BG M1 F 0 := by
    refine ⟨XF_eq (fun c j h1 h2 => ?_) h, fun k hk => absurd hk (Nat.not_lt_zero k), fun v hv => ?_, fun v hv => ?_, ?_⟩
    · rw [← hM, wr_cell (by omega), wr_cell (by omega), wr_cell (by omega), wr_cell (by omega), wr_cell (by omega), wr_cell (by omega), wr_cell (by omega)]
    · rw [← hM]
      simp only [wr_at]
      rcases (show v = 0 ∨ v = 1 ∨ v = 2 by omega) with rfl | rfl | rfl <;> simp
    · rw [← hM]
      simp only [wr_at]
      rcases (show v = 0 ∨ v = 1 ∨ v = 2 by omega) with rfl | rfl | rfl <;> simp
    · rw [← hM]
      simp only [wr_at]
      rfl
  obtain ⟨τ', e1, h1⟩ := bg_irons hO (F 0 0) 0 m M1 (by omega) (by omega) hB
  refine ⟨τ', e1, h1.1, h1.2.1, fun v hv => ⟨fun k hk h9 => ?_, fun _ => h1.2.2.1 v hv⟩, fun v hv => ⟨fun k hk h9 => ?_, fun _ => h1.2.2.2.1 v hv⟩, h1.2.2.2.2⟩
  · have : s0A F 1 k = 0 := rfl
    omega
  · have : s0A F 1 k = 0 := rfl
    omega
end BEG
