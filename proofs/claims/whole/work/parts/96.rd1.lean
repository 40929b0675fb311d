/-! the class's reader beside the reference's: numbers and names -/
def Tx (D M : Mm) (c : Nat → Nat) (L : Nat) : Prop := L ≤ 900 ∧ D 0 6 = nI L ∧ M 0 9 = nI L ∧ Cx (D 1) L c ∧ Cm (M 1) L c
def Dr (D M : Mm) (G : Fg) : Prop := OkF G ∧ XF D 3 G ∧ MF (M 3) (M 5) 0 G ∧ (∀ i, i < G 0 0 → G 10 i = i) ∧ (∀ k, k < 6 → M 5 (72 + k) = nI k ∧ (G 0 0 ≤ k → M 5 k = 0))
def Gv (D M : Mm) (G : Fg) : Prop := (∀ t, t < 3 → D 2 t = nI (G 11 t)) ∧ M 0 19 = nI (G 12 0)
def Gok (G : Fg) : Prop := G 11 0 ≤ 1 ∧ G 11 1 ≤ 1 ∧ G 11 2 ≤ 1 ∧ G 12 0 = G 11 0 + 2 * G 11 1 + 4 * G 11 2
def Bs (D M : Mm) (c : Nat → Nat) (L : Nat) (G : Fg) : Prop := Tx D M c L ∧ Dr D M G ∧ Gv D M G ∧ M 0 15 = 0
def LA (D M : Mm) (c : Nat → Nat) (L : Nat) (G : Fg) (p : Nat) : Prop := Bs D M c L G ∧ p ≤ L ∧ D 0 7 = nI p ∧ MTs M c L (tkS c L p)
def SY (D M : Mm) (c : Nat → Nat) (L : Nat) (G : Fg) (s : Nat) : Prop := Bs D M c L G ∧ s ≤ L ∧ XTs D c L s ∧ MTs M c L s
def Fl (D M : Mm) : Prop := ∃ (y : Int32) (s : Nat), y < 0 ∧ D 0 5 = y ∧ M 0 15 = y ∧ D 0 4 = nI s ∧ M 0 16 = nI s
def FX (D D' : Mm) : Prop := D' 0 3 = D 0 3 ∧ D' 0 4 = D 0 4
def FM (M M' : Mm) : Prop := (∀ q, q ≠ 0 → q ≠ 3 → q ≠ 5 → M' q = M q) ∧ (∀ j, j < 10 ∨ 19 < j ∨ j = 17 ∨ j = 18 → M' 0 j = M 0 j)
def FlO (D M D' M' : Mm) : Prop := Fl D' M' ∧ D' 0 3 = D 0 3 ∧ FM M M'
section READ1
variable {D M D' M' D'' M'' : Mm} {c : Nat → Nat} {L p s : Nat} {G : Fg} {y : Int32}
theorem FM_refl : FM M M := ⟨fun _ _ _ _ => rfl, fun _ _ => rfl⟩
theorem FM_trans (h : FM M M') (h' : FM M' M'') : FM M M'' := ⟨fun q a b d => (h'.1 q a b d).trans (h.1 q a b d), fun j a => (h'.2 j a).trans (h.2 j a)⟩
theorem FX_trans (h : FX D D') (h' : FX D' D'') : FX D D'' := ⟨h'.1.trans h.1, h'.2.trans h.2⟩
theorem FM_fr (h : FrM M M') : FM M M' := ⟨fun q a _ _ => h.2 q a, fun j a => h.1 j (by omega)⟩
theorem FX_fr (h : FrX D D') : FX D D' := ⟨h.1 3 (by omega), h.1 4 (by omega)⟩
theorem FrX_trans (h : FrX D D') (h' : FrX D' D'') : FrX D D'' := ⟨fun j a => (h'.1 j a).trans (h.1 j a), fun q a => (h'.2 q a).trans (h.2 q a)⟩
theorem FrM_trans (h : FrM M M') (h' : FrM M' M'') : FrM M M'' := ⟨fun j a => (h'.1 j a).trans (h.1 j a), fun q a => (h'.2 q a).trans (h.2 q a)⟩
theorem bs_fr (h : Bs D M c L G) (hX : FrX D D') (hM : FrM M M') : Bs D' M' c L G := by
  obtain ⟨⟨t1, t2, t3, t4, t5⟩, ⟨d1, d2, d3, d4, d5⟩, ⟨f0, f3⟩, h15⟩ := h
  refine ⟨⟨t1, ?_, ?_, ?_, ?_⟩, ⟨d1, XF_eq (fun q j a b => by rw [hX.2 q (by omega)]) d2, ?_, d4, ?_⟩, ⟨fun t ht => ?_, ?_⟩, ?_⟩
  · rw [hX.1 6 (by omega)]; exact t2
  · rw [hM.1 9 (by omega)]; exact t3
  · rw [hX.2 1 (by decide)]; exact t4
  · rw [hM.2 1 (by decide)]; exact t5
  · rw [hM.2 3 (by decide), hM.2 5 (by decide)]; exact d3
  · rw [hM.2 5 (by decide)]; exact d5
  · rw [hX.2 2 (by decide)]; exact f0 t ht
  · rw [hM.1 19 (by omega)]; exact f3
  · rw [hM.1 15 (by omega)]; exact h15
theorem fl_o (h1 : FlO D' M' D'' M'') (hX : D' 0 3 = D 0 3) (hM : FM M M') : FlO D M D'' M'' := ⟨h1.1, h1.2.1.trans hX, FM_trans hM h1.2.2⟩
theorem km_iff : ∀ k, k ≤ 4 → ((kmA k = 0 ↔ k = 1) ∧ (kmA k = 1 ↔ k = 2) ∧ (kmA k = 2 ↔ k = 3) ∧ (kmA k = 3 ↔ k = 0)) := by decide +kernel
theorem fl_mk (h8 : D 0 8 = nI s) (h11 : M 0 11 = nI s) (hy : y < 0) : FlO D M (wr (wr D 0 5 y) 0 4 (D 0 8)) (wr (wr M 0 15 y) 0 16 (M 0 11)) := by
  refine ⟨⟨y, s, hy, ?_, ?_, ?_, ?_⟩, ?_, fun q a b d => ?_, fun j a => ?_⟩
  · rw [wr_place (by decide), wr_same]
  · rw [wr_place (by decide), wr_same]
  · rw [wr_same]; exact h8
  · rw [wr_same]; exact h11
  · rw [wr_place (by decide), wr_place (by decide)]
  · funext i
    rw [wr_cell a, wr_cell a]
  · rw [wr_place (by omega), wr_place (by omega)]
theorem fl_er (h : Fl D M) : ¬ M 0 15 = 0 := by
  obtain ⟨y, s, hy, -, h2, -⟩ := h
  rw [h2]
  rintro rfl
  exact absurd hy (by decide)
/-! the reference's small steps -/
theorem mf_if0 (h : M 0 15 = 0) : f_X7_failsIf [.inr (.inl 0), .inl 0, .inl y] M = some (some none, M) := by
  rw [e_X7_failsIf, if_pos h, if_pos rfl]
theorem mf_if1 (h : M 0 15 = 0) : f_X7_failsIf [.inr (.inl 0), .inl 1, .inl y] M = some (some none, wr (wr M 0 15 y) 0 16 (M 0 11)) := by
  rw [e_X7_failsIf, if_pos h, if_neg (by decide)]
theorem mf_ifE {z : Int32} (h : ¬ M 0 15 = 0) : f_X7_failsIf [.inr (.inl 0), .inl z, .inl y] M = some (some none, M) := by
  rw [e_X7_failsIf, if_neg h]
theorem mg_E (h : ¬ M 0 15 = 0) : f_X7_goOn [.inr (.inl 0)] M = some (some none, M) := by
  rw [e_X7_goOn, if_neg h]
theorem mg_0 (h : M 0 15 = 0) (hn : f_X7_next [.inr (.inl 0)] M = some (some none, M')) : f_X7_goOn [.inr (.inl 0)] M = some (some none, M') := by
  rw [e_X7_goOn, if_pos h, hn, onV_s]
theorem er_15 (hy : y < 0) : ¬ wr (wr M 0 15 y) 0 16 (M 0 11) 0 15 = 0 := by
  rw [wr_place (by decide), wr_same]
  rintro rfl
  exact absurd hy (by decide)
theorem mi_61 {N : Nat} {z : Int32} (h : ¬ M 0 15 = 0) : b_X7_integer_61 (N + 1) z M = some (some (some (.inl z)), M) := by
  rw [e_X7_integer_61, mg_E h, onV_s]
theorem mi_41 {N : Nat} {x1 z : Int32} (h : ¬ M 0 15 = 0) : b_X7_integer_41 (N + 1 + 1) x1 z M = some (some (some (.inl x1)), M) := by
  rw [e_X7_integer_41, mf_ifE h, onV_s, if_neg h, mi_61 h]
theorem big5 : ∃ N, bigM = N + 1 + 1 + 1 + 1 + 1 := ⟨bigM - 5, rfl⟩
theorem mi_E (h : ¬ M 0 15 = 0) (x1 x2 : Int32) : f_X7_integer [.inr (.inl 0), .inl x1, .inl x2] M = some (some (some (.inl x1)), M) := by
  obtain ⟨N, hN⟩ := big5
  have g : ∀ z, b_X7_integer_14 (N + 1 + 1 + 1 + 1 + 1) x1 x2 z M = some (some (some (.inl x1)), M) := fun z => by
    rw [e_X7_integer_14, mf_ifE h, onV_s, mi_41 h, mi_41 h]
    split
    · rfl
    · split <;> rfl
  rw [e_X7_integer, hN, g, g]
  split <;> rfl
/-- both go on by one token -/
theorem la_next (h : SY D M c L G s) : ∃ M', f_X7_goOn [.inr (.inl 0)] M = some (some none, M') ∧ LA D M' c L G (tkE c L s) ∧ FrM M M' := by
  obtain ⟨hB, hs, hX, hM⟩ := h
  obtain ⟨M', a1, a2, a3⟩ := m_tok hB.1.1 (tkE_le (c := c) hs).2 hM.1 hB.1.2.2.1 hB.1.2.2.2.2
  exact ⟨M', mg_0 hB.2.2.2 a1, ⟨bs_fr hB ⟨fun _ _ => rfl, fun _ _ => rfl⟩ a3, (tkE_le hs).2, hX.1, a2⟩, a3⟩
theorem la_tok (h : LA D M c L G p) : ∃ D', f_X4_nextToken [.inr (.inl 0)] D = some (some none, D') ∧ SY D' M c L G (tkS c L p) ∧ FrX D D' := by
  obtain ⟨hB, hp, h7, hM⟩ := h
  obtain ⟨D', a1, a2, a3⟩ := x_tok hB.1.1 hp h7 hB.1.2.1 hB.1.2.2.2.1
  exact ⟨D', a1, ⟨bs_fr hB a3 ⟨fun _ _ => rfl, fun _ _ => rfl⟩, (tkS_le hp).2, a2, hM⟩, a3⟩
/-- a number within its range; or both fail alike -/
theorem p_num {lo hi : Nat} (hlo : lo ≤ 2000) (hh : hi ≤ 2000) (h : LA D M c L G p) :
    (∃ D' M' v p', f_X4_readNumber [.inr (.inl 0), .inl (nI lo), .inl (nI hi)] D = some (some (some (.inl 1)), D') ∧ f_X7_integer [.inr (.inl 0), .inl (nI lo), .inl (nI hi)] M = some (some (some (.inl (nI v))), M') ∧ lo ≤ v ∧ v ≤ hi ∧ D' 0 10 = nI v ∧ LA D' M' c L G p' ∧ p < p' ∧ FrX D D' ∧ FrM M M') ∨
    (∃ D' M', f_X4_readNumber [.inr (.inl 0), .inl (nI lo), .inl (nI hi)] D = some (some (some (.inl 0)), D') ∧ f_X7_integer [.inr (.inl 0), .inl (nI lo), .inl (nI hi)] M = some (some (some (.inl (nI lo))), M') ∧ FlO D M D' M') := by
  obtain ⟨N, hN⟩ := big5
  obtain ⟨D1, a1, hS, a3⟩ := la_tok h
  have hp := h.2.1
  obtain ⟨M1, g1, hLA, g3⟩ := la_next hS
  obtain ⟨hB, hs, hX, hM⟩ := hS
  have h15 := hB.2.2.2
  have hst := tkS_le (c := c) hp
  generalize tkS c L p = s at *
  have k4 := tkK_le (c := c) (L := L) (s := s)
  have hkm := km_iff _ k4
  have k9 : D1 0 9 = 2 ↔ tkK c L s = 2 := by
    rw [hX.2.2.1]
    exact nI_eq (b := 2) (by omega) (by decide)
  rw [e_X4_readNumber, a1, onV_s, e_X7_integer, hN]
  by_cases hk : tkK c L s = 2
  · rw [if_pos (k9.mpr hk), hX.2.2.2.2 hk, sp_isWithin, onI_s, if_pos (show M 0 12 = 1 by rw [hM.2.2.1]; exact hkm.2.1.mpr hk), e_X7_integer_14, mf_if0 h15, onV_s, hM.2.2.2.2 hk]
    simp only [pp1]
    obtain ⟨w1, w2, w3⟩ := tk_num hk
    have hgt := (tkE_gt (c := c) hs (by omega)).2
    obtain ⟨n1, n2, n3⟩ := nu_rel (c := c) (s := s) (tkE c L s - s) (fun i hi => by
      rw [w3] at hi
      exact of_decide_eq_true (sc_in (f := isDg) (L - s) s (s + i) (by omega) (by omega)))
    have hu : D1 0 10 = nI (nuX c s (tkE c L s - s)) := hX.2.2.2.2 hk
    generalize nuX c s (tkE c L s - s) = u at *
    have hv : M 0 13 = nI (nuM c s (tkE c L s - s)) := hM.2.2.2.2 hk
    generalize nuM c s (tkE c L s - s) = w at *
    have ru : (nI lo ≤ nI u ∧ nI u ≤ nI hi) ↔ (lo ≤ u ∧ u ≤ hi) := by rw [nI_leI (by omega) (by omega), nI_leI (by omega) (by omega)]
    by_cases hr : lo ≤ u ∧ u ≤ hi
    · have huw : u = w := by omega
      subst huw
      left
      rw [if_pos (ru.mpr hr), if_neg (show ¬ (1 : Int32) = 0 by decide), if_neg (nI_nlt hr.1 (by omega)), if_neg (nI_nlt hr.2 (by omega)), e_X7_integer_41, mf_if0 h15, onV_s, if_pos h15, hv, e_X7_integer_61, g1, onV_s]
      exact ⟨D1, M1, u, tkE c L s, rfl, rfl, hr.1, hr.2, hu, hLA, by omega, a3, g3⟩
    · right
      have hw : ¬ (lo ≤ w ∧ w ≤ hi) := by omega
      rw [if_neg (fun h9 => hr (ru.mp h9)), if_pos rfl, e_X4_fail, onI_s, if_pos rfl]
      have hf := fl_o (fl_mk (y := -12) hX.2.1 hM.2.1 (by decide)) (a3.1 3 (by omega)) FM_refl
      have hc : b_X7_integer_41 (N + 1 + 1 + 1 + 1) (nI lo) 1 M = some (some (some (.inl (nI lo))), wr (wr M 0 15 (-12)) 0 16 (M 0 11)) := by
        rw [e_X7_integer_41, mf_if1 h15, onV_s, if_neg (er_15 (by decide)), mi_61 (er_15 (by decide))]
      refine ⟨_, _, rfl, ?_, hf⟩
      by_cases c1 : w < lo
      · rw [if_pos (nI_lt c1 (by omega)), hc]
      · rw [if_neg (nI_nlt (by omega) (by omega)), if_pos (nI_lt (by omega) (by omega)), hc]
  · right
    rw [if_neg (fun h9 => hk (k9.mp h9)), e_X4_fail, onI_s, if_pos (Or.inl rfl), if_neg (show ¬ M 0 12 = 1 from fun h9 => hk (hkm.2.1.mp (by rw [← hM.2.2.1]; exact h9))), e_X7_integer_14, mf_if1 h15, onV_s, mi_41 (er_15 (by decide)), mi_41 (er_15 (by decide))]
    refine ⟨_, _, rfl, ?_, fl_o (fl_mk (y := -11) hX.2.1 hM.2.1 (by decide)) (a3.1 3 (by omega)) FM_refl⟩
    split
    · rfl
    · split <;> rfl
end READ1
