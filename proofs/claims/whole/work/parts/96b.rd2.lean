/-! two numbers; a name; a place -/
def Out (X Y : Option Ou) (D M : Mm) (c : Nat → Nat) (L s : Nat) (G : Fg) : Prop := (∃ D' M' G' p', X = some (some (some (.inl 1)), D') ∧ Y = some (some none, M') ∧ LA D' M' c L G' p' ∧ s < p' ∧ FX D D' ∧ FM M M' ∧ (Gok G → Gok G')) ∨ (∃ D' M', X = some (some (some (.inl 0)), D') ∧ Y = some (some none, M') ∧ FlO D M D' M')
section READ2
variable {D M D' M' D'' M'' : Mm} {c : Nat → Nat} {L p s e : Nat} {G G' : Fg} {y : Int32}
theorem p_num2 {lo1 hi1 lo2 hi2 : Nat} (b1 : lo1 ≤ 2000) (b2 : hi1 ≤ 2000) (b3 : lo2 ≤ 2000) (b4 : hi2 ≤ 2000) (h : LA D M c L G p) :
    (∃ D1 D2 M1 M2 v w p', f_X4_readNumber [.inr (.inl 0), .inl (nI lo1), .inl (nI hi1)] D = some (some (some (.inl 1)), D1) ∧ f_X4_readNumber [.inr (.inl 0), .inl (nI lo2), .inl (nI hi2)] D1 = some (some (some (.inl 1)), D2) ∧ f_X7_integer [.inr (.inl 0), .inl (nI lo1), .inl (nI hi1)] M = some (some (some (.inl (nI v))), M1) ∧ f_X7_integer [.inr (.inl 0), .inl (nI lo2), .inl (nI hi2)] M1 = some (some (some (.inl (nI w))), M2) ∧ lo1 ≤ v ∧ v ≤ hi1 ∧ lo2 ≤ w ∧ w ≤ hi2 ∧ D1 0 10 = nI v ∧ D2 0 10 = nI w ∧ LA D2 M2 c L G p' ∧ p < p' ∧ FrX D D2 ∧ FrM M M2) ∨
    (∃ D' M1 M' z1 z2, (f_X4_readNumber [.inr (.inl 0), .inl (nI lo1), .inl (nI hi1)] D = some (some (some (.inl 0)), D') ∨ ∃ D1, f_X4_readNumber [.inr (.inl 0), .inl (nI lo1), .inl (nI hi1)] D = some (some (some (.inl 1)), D1) ∧ f_X4_readNumber [.inr (.inl 0), .inl (nI lo2), .inl (nI hi2)] D1 = some (some (some (.inl 0)), D')) ∧ f_X7_integer [.inr (.inl 0), .inl (nI lo1), .inl (nI hi1)] M = some (some (some (.inl z1)), M1) ∧ f_X7_integer [.inr (.inl 0), .inl (nI lo2), .inl (nI hi2)] M1 = some (some (some (.inl z2)), M') ∧ FlO D M D' M') := by
  rcases p_num b1 b2 h with ⟨D1, M1, v, p1, a1, a2, a3, a4, a5, a6, a7, a8, a9⟩ | ⟨D', M', a1, a2, a3⟩
  · rcases p_num b3 b4 a6 with ⟨D2, M2, w, p2, c1, c2, c3, c4, c5, c6, c7, c8, c9⟩ | ⟨D', M', c1, c2, c3⟩
    · exact Or.inl ⟨D1, D2, M1, M2, v, w, p2, a1, c1, a2, c2, a3, a4, c3, c4, a5, c5, c6, by omega, FrX_trans a8 c8, FrM_trans a9 c9⟩
    · exact Or.inr ⟨D', M1, M', _, _, Or.inr ⟨D1, a1, c1⟩, a2, c2, fl_o c3 (a8.1 3 (by omega)) (FM_fr a9)⟩
  · exact Or.inr ⟨D', M', M', _, _, Or.inl a1, a2, mi_E (fl_er a3.1) _ _, a3⟩
theorem flo_14 {z : Int32} (h : FlO D M D' M') : FlO D M D' (wr M' 0 14 z) := by
  obtain ⟨⟨y, s, hy, h1, h2, h3, h4⟩, h5, h6, h7⟩ := h
  refine ⟨⟨y, s, hy, h1, by rw [wr_place (by decide)]; exact h2, h3, by rw [wr_place (by decide)]; exact h4⟩, h5, fun q a b d => ?_, fun j a => ?_⟩
  · rw [← h6 q a b d]
    funext i
    exact wr_cell a
  · rw [wr_place (by omega)]
    exact h7 j a
theorem bs_m (h : Bs D M c L G) (hq : ∀ q, q = 1 ∨ q = 3 ∨ q = 5 → M' q = M q) (h9 : M' 0 9 = M 0 9) (h15 : M' 0 15 = M 0 15) (h19 : M' 0 19 = M 0 19) : Bs D M' c L G := by
  obtain ⟨⟨t1, t2, t3, t4, t5⟩, ⟨d1, d2, d3, d4, d5⟩, ⟨f0, f3⟩, h⟩ := h
  refine ⟨⟨t1, t2, h9.trans t3, t4, ?_⟩, ⟨d1, d2, ?_, d4, ?_⟩, ⟨f0, h19.trans f3⟩, h15.trans h⟩
  · rw [hq 1 (by omega)]; exact t5
  · rw [hq 3 (by omega), hq 5 (by omega)]; exact d3
  · rw [hq 5 (by omega)]; exact d5
theorem sy_14 {z : Int32} (h : SY D M c L G s) : SY D (wr M 0 14 z) c L G s := by
  obtain ⟨hB, hs, hX, m1, m2, m3, m4, m5⟩ := h
  refine ⟨bs_m hB (fun q hq => by funext i; exact wr_cell (by omega)) (wr_place (by decide)) (wr_place (by decide)) (wr_place (by decide)), hs, hX, ?_, ?_, ?_, fun h9 => ?_, fun h9 => ?_⟩
  · rw [wr_place (by decide)]; exact m1
  · rw [wr_place (by decide)]; exact m2
  · rw [wr_place (by decide)]; exact m3
  · rw [wr_place (by decide)]; exact m4 h9
  · rw [wr_place (by decide)]; exact m5 h9
theorem x_res (v : Int32) (σ : Mm) : f_X4_isReserved [.inl v] σ = some (some (some (.inl (if wiX v = -1 then 0 else 1))), σ) := by
  rw [e_X4_isReserved, e_X4_settingOfWord]
  unfold wiX
  by_cases h1 : v = 321370112
  · rw [if_pos h1, if_pos h1, if_neg (by decide)]
  rw [if_neg h1, if_neg h1]
  by_cases h2 : v = 658685952
  · rw [if_pos h2, if_pos h2, if_neg (by decide)]
  rw [if_neg h2, if_neg h2]
  by_cases h3 : v = 549489824
  · rw [if_pos h3, if_pos h3, if_neg (by decide)]
  rw [if_neg h3, if_neg h3]
  by_cases h4 : v = 643432448
  · rw [if_pos h4, if_pos h4, if_neg (by decide)]
  rw [if_neg h4, if_neg h4]
  by_cases h5 : v = 48965011
  · rw [if_pos h5, if_pos h5, onI_s, if_neg (by decide), if_neg (by decide)]
  rw [if_neg h5, if_neg h5]
  by_cases h6 : v = 437853486
  · rw [if_pos h6, if_pos h6, onI_s, if_neg (by decide), if_neg (by decide)]
  rw [if_neg h6, if_neg h6]
  by_cases h7 : v = 626398208
  · rw [if_pos h7, if_pos h7, onI_s, if_neg (by decide), if_neg (by decide)]
  rw [if_neg h7, if_neg h7, onI_s, if_pos rfl, if_pos rfl]
theorem x_sow (v : Int32) (σ : Mm) : f_X4_settingOfWord [.inl v] σ = some (some (some (.inl (if wiX v < 4 then -1 else wiX v - 4))), σ) := by
  rw [e_X4_settingOfWord]
  by_cases h1 : v = 321370112
  · subst h1; rfl
  by_cases h2 : v = 658685952
  · subst h2; rfl
  by_cases h3 : v = 549489824
  · subst h3; rfl
  by_cases h4 : v = 643432448
  · subst h4; rfl
  by_cases h5 : v = 48965011
  · subst h5; rfl
  by_cases h6 : v = 437853486
  · subst h6; rfl
  by_cases h7 : v = 626398208
  · subst h7; rfl
  have e : wiX v = -1 := by
    unfold wiX
    rw [if_neg h1, if_neg h2, if_neg h3, if_neg h4, if_neg h5, if_neg h6, if_neg h7]
  rw [if_neg h5, if_neg h6, if_neg h7, e, if_pos (by decide)]
theorem hp_lt {j : Nat} (h : ∀ i, pdA c s j i ≤ 26) : ∀ i, hpA c s j i < 32 ^ i
  | 0 => by show 0 < _; decide
  | i + 1 => by
    have h1 := hp_lt h i
    have h2 := h i
    show 32 * hpA c s j i + pdA c s j i < _
    rw [Nat.pow_succ]
    omega
theorem ms_47 (hse : s ≤ e) (he : e ≤ 900) (r : Nat → Int32) (hb : ∀ q, s ≤ q → q < e → r q = nI (c q) ∧ 97 ≤ c q ∧ c q ≤ 122) : ∀ (t i N : Nat) (M : Mm), i + t = 6 → t + 1 ≤ N → M 0 15 = 0 → M 0 11 = nI s → M 0 10 = nI e → M 1 = r → M 0 14 = nI (hpA c s (e - s) i) → b_X7_seesName_47 N (nI i) M = some (some none, wr M 0 14 (nI (hpA c s (e - s) 6))) := by
  intro t
  induction t with
  | zero =>
    intro i N M hi hN h15 h11 h10 h1 h14
    obtain ⟨N, rfl⟩ : ∃ N', N = N' + 1 := ⟨N - 1, by omega⟩
    obtain rfl : i = 6 := by omega
    rw [tw_self h14, e_X7_seesName_47, if_neg (by decide)]
  | succ t ih =>
    intro i N M hi hN h15 h11 h10 h1 h14
    obtain ⟨N, rfl⟩ : ∃ N', N = N' + 1 := ⟨N - 1, by omega⟩
    have hp : ∀ i, pdA c s (e - s) i ≤ 26 := pd_le (fun i hi => (hb (s + i) (by omega) (by omega)).2.2)
    have hl := hp_lt hp i
    have hl6 : 32 ^ i ≤ 32 ^ 6 := Nat.pow_le_pow_right (by decide) (by omega)
    have hl6' : (32 : Nat) ^ 6 < 2 ^ 32 := by decide
    have e5 : nI (hpA c s (e - s) i) <<< ((5 : Int32) &&& 31) = nI (hpA c s (e - s) i * 2 ^ 5) := bx_shl (n := 5) (by omega) (by decide)
    have es : hpA c s (e - s) (i + 1) = hpA c s (e - s) i * 2 ^ 5 + pdA c s (e - s) i := by
      show 32 * hpA c s (e - s) i + pdA c s (e - s) i = _
      omega
    have hpi := hp i
    have a := ih (i + 1) N (wr M 0 14 (nI (hpA c s (e - s) (i + 1)))) (by omega) (by omega) (by rw [wr_place (by decide)]; exact h15) (by rw [wr_place (by decide)]; exact h11) (by rw [wr_place (by decide)]; exact h10) (by rw [← h1]; funext q; exact wr_cell (by decide)) wr_same
    rw [tw_wr] at a
    rw [e_X7_seesName_47, if_pos (show nI i < 6 from nI_lt (b := 6) (by omega) (by decide)), if_pos h15, h11, h10, nI_add, h14, e5, nI_1]
    by_cases hie : s + i < e
    · obtain ⟨r1, r2, r3⟩ := hb (s + i) (by omega) hie
      have ep : pdA c s (e - s) i = c (s + i) - 97 + 1 := by
        unfold pdA
        rw [if_pos (by omega)]
        omega
      rw [if_pos (nI_lt hie (by omega)), if_pos (inb_nI (by omega) (by decide)), nI_clamp (by omega), h1, r1, show nI (c (s + i)) - 97 = nI (c (s + i) - 97) from nI_sub (b := 97) r2, nI_1, ← ep, bx_or, bx_join (by omega), ← es]
      exact a
    · have ep : pdA c s (e - s) i = 0 := by
        unfold pdA
        rw [if_neg (by omega)]
      rw [if_neg (nI_nlt (by omega) (by omega)), show (0 : Int32) = nI (pdA c s (e - s) i) by rw [ep]; rfl, bx_or, bx_join (by omega), ← es]
      exact a
theorem ms_35E {N : Nat} {z : Int32} (h : ¬ M 0 15 = 0) : b_X7_seesName_35 (N + 1 + 1) z M = some (some none, wr M 0 14 0) := by
  rw [e_X7_seesName_35, mf_ifE h, onV_s, e_X7_seesName_47, if_pos (by decide), if_neg (by rw [wr_place (by decide)]; exact h)]
theorem ms_E (h : ¬ M 0 15 = 0) : f_X7_seesName [.inr (.inl 0)] M = some (some none, wr M 0 14 0) := by
  obtain ⟨N, hN⟩ := big5
  rw [e_X7_seesName, hN, ms_35E h, ms_35E h]
  split
  · split
    · split <;> rfl
    · rfl
  · rfl
theorem ms_351 {N : Nat} (h : M 0 15 = 0) : b_X7_seesName_35 (N + 1 + 1) 1 M = some (some none, wr (wr (wr M 0 15 (-11)) 0 16 (M 0 11)) 0 14 0) := by
  rw [e_X7_seesName_35, mf_if1 h, onV_s, e_X7_seesName_47, if_pos (by decide), if_neg (by rw [wr_place (by decide)]; exact er_15 (by decide))]
/-- a name; or both fail alike -/
theorem p_name (h : LA D M c L G p) :
    (∃ D' v, f_X4_readName [.inr (.inl 0)] D = some (some (some (.inl 1)), D') ∧ f_X7_seesName [.inr (.inl 0)] M = some (some none, wr M 0 14 (nI v)) ∧ D' 0 10 = nI v ∧ SY D' (wr M 0 14 (nI v)) c L G (tkS c L p) ∧ p < tkE c L (tkS c L p) ∧ FrX D D') ∨
    (∃ D' M', f_X4_readName [.inr (.inl 0)] D = some (some (some (.inl 0)), D') ∧ f_X7_seesName [.inr (.inl 0)] M = some (some none, M') ∧ FlO D M D' M') := by
  obtain ⟨N, hN⟩ := big5
  have hbig : bigM = 99999 := rfl
  obtain ⟨D1, a1, hS, a3⟩ := la_tok h
  have hp := h.2.1
  have hst := tkS_le (c := c) hp
  obtain ⟨hB, hs, hX, hM⟩ := id hS
  have h15 := hB.2.2.2
  have h900 := hB.1.1
  generalize tkS c L p = s at *
  have k4 := tkK_le (c := c) (L := L) (s := s)
  have hkm := km_iff _ k4
  have hle := tkE_le (c := c) hs
  have k9 : D1 0 9 = 1 ↔ tkK c L s = 1 := by
    rw [hX.2.2.1]
    exact nI_eq (b := 1) (by omega) (by decide)
  have k12 : M 0 12 = 0 ↔ tkK c L s = 1 := by
    rw [hM.2.2.1]
    exact hkm.1
  have hf := flo_14 (z := 0) (fl_o (fl_mk (y := -11) hX.2.1 hM.2.1 (by decide)) (a3.1 3 (by omega)) FM_refl)
  have x34 : b_X4_readName_34 (N + 1 + 1 + 1 + 1 + 1) 0 D1 = some (some (some (.inl 0)), wr (wr D1 0 5 (-11)) 0 4 (D1 0 8)) := by
    rw [e_X4_readName_34, if_pos rfl, e_X4_fail, onI_s, if_pos rfl]
  rw [e_X4_readName, a1, onV_s, e_X7_seesName, hN, x_res, onI_s]
  simp only [pp1]
  rw [x34]
  by_cases hk : tkK c L s = 1
  · obtain ⟨w1, w2, w3⟩ := tk_word hk
    have hgt := (tkE_gt (c := c) hs (by omega)).2
    have hin : ∀ i, s ≤ i → i < tkE c L s → 97 ≤ c i ∧ c i ≤ 122 := fun i h1 h2 => by
      rw [w3] at h2
      exact of_decide_eq_true (sc_in (f := isLt) (L - s) s i h1 h2)
    have hv0 := vA_zero hgt hin
    rw [if_pos (k9.mpr hk), if_pos (k12.mpr hk), hX.2.2.2.1 hk, hM.2.2.2.1 hk, hM.1, hM.2.1, nI_sub hle.1]
    by_cases hr : wiX (vA c s (tkE c L s)) = -1
    · rw [if_pos hr, if_pos hr, if_pos rfl]
      by_cases h6 : 6 < tkE c L s - s
      · right
        rw [if_pos (hv0.mpr h6), if_pos (show (6 : Int32) < nI (tkE c L s - s) from nI_lt (a := 6) h6 (by omega)), ms_351 h15]
        exact ⟨_, _, rfl, rfl, hf⟩
      · left
        have ev : vA c s (tkE c L s) = nI (cdA c s (tkE c L s - s)) := by
          unfold vA
          rw [if_neg h6]
        have w := ms_47 (c := c) (s := s) (e := tkE c L s) hle.1 (by omega) (M 1) (fun q h1 h2 => by
          obtain ⟨i1, i2⟩ := hin q h1 h2
          refine ⟨?_, i1, i2⟩
          rcases hB.1.2.2.2.2 q (by omega) with ⟨_, h8⟩ | ⟨h8, _⟩
          · exact h8
          · omega) 6 0 (N + 1 + 1 + 1 + 1) (wr M 0 14 0) (by omega) (by omega) (by rw [wr_place (by decide)]; exact h15) (by rw [wr_place (by decide)]; exact hM.2.1) (by rw [wr_place (by decide)]; exact hM.1) (by funext q; exact wr_cell (by decide)) (by rw [wr_same]; rfl)
        have w' : b_X7_seesName_47 (N + 1 + 1 + 1 + 1) 0 (wr M 0 14 0) = _ := w
        rw [if_neg (fun h9 => h6 (hv0.mp h9)), if_neg (show ¬ (6 : Int32) < nI (tkE c L s - s) from nI_nlt (a := 6) (by omega) (by decide)), e_X4_readName_34, if_neg (show ¬ (1 : Int32) = 0 by decide), e_X7_seesName_35, mf_if0 h15, onV_s, w', tw_wr, hp_eq (by omega)]
        exact ⟨D1, cdA c s (tkE c L s - s), rfl, rfl, by rw [hX.2.2.2.1 hk, ev], sy_14 hS, by omega, a3⟩
    · right
      rw [if_neg hr, if_neg hr, if_neg (show ¬ (1 : Int32) = 0 by decide), ms_351 h15]
      refine ⟨_, _, ?_, rfl, hf⟩
      split <;> rfl
  · right
    rw [if_neg (fun h9 => hk (k9.mp h9)), if_neg (fun h9 => hk (k12.mp h9)), ms_351 h15]
    exact ⟨_, _, rfl, rfl, hf⟩
end READ2
