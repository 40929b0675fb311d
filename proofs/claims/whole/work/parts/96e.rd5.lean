/-! a setting is read -/
section READ5
variable {D M D' M' D'' M'' : Mm} {c : Nat → Nat} {L p s e : Nat} {G G' : Fg} {y : Int32} {v m w t : Nat}
theorem wi_t (v : Int32) (h : ¬ wiX v < 4) : ∃ t, t < 3 ∧ wiX v = nI (4 + t) := by
  unfold wiX at h ⊢
  by_cases h1 : v = 321370112
  · rw [if_pos h1] at h; exact absurd (by decide) h
  rw [if_neg h1] at h ⊢
  by_cases h2 : v = 658685952
  · rw [if_pos h2] at h; exact absurd (by decide) h
  rw [if_neg h2] at h ⊢
  by_cases h3 : v = 549489824
  · rw [if_pos h3] at h; exact absurd (by decide) h
  rw [if_neg h3] at h ⊢
  by_cases h4 : v = 643432448
  · rw [if_pos h4] at h; exact absurd (by decide) h
  rw [if_neg h4] at h ⊢
  by_cases h5 : v = 48965011
  · rw [if_pos h5]; exact ⟨0, by decide, rfl⟩
  rw [if_neg h5] at h ⊢
  by_cases h6 : v = 437853486
  · rw [if_pos h6]; exact ⟨1, by decide, rfl⟩
  rw [if_neg h6] at h ⊢
  by_cases h7 : v = 626398208
  · rw [if_pos h7]; exact ⟨2, by decide, rfl⟩
  rw [if_neg h7] at h
  exact absurd (by decide) h
theorem ms_80 {N : Nat} {z : Int32} (ht : t < 3) (hf : f_X7_failsIf [.inr (.inl 0), .inl z, .inl (-14)] M = some (some none, M')) (he : ¬ M' 0 15 = 0) : ∃ a b, b_X7_readSet_80 (N + 1) (nI t) z M = some (some none, wr (wr M' 0 19 a) 5 (78 + t) b) := by
  have he' : ¬ wr M' 0 19 (M' 0 19 ||| (1 <<< (nI t &&& 31))) 0 15 = 0 := by rw [wr_place (by decide)]; exact he
  refine ⟨M' 0 19 ||| (1 <<< (nI t &&& 31)), stv 0 t, ?_⟩
  rw [e_X7_readSet_80, hf, onV_s, mg_E he', onV_s, sm_least ht, onI_s]
  simp only [pk0, pp1]
  rw [sm_most ht, onI_s, mi_E he', onI_s, n78, if_pos (inb_nI (by omega) (by decide)), nI_clamp (by omega)]
theorem flo_5 {q : Nat} {b : Int32} (h : FlO D M D' M') : FlO D M D' (wr M' 5 q b) := by
  obtain ⟨⟨y, s, hy, h1, h2, h3, h4⟩, h5, h6, h7⟩ := h
  refine ⟨⟨y, s, hy, h1, by rw [wr_cell (by decide)]; exact h2, h3, by rw [wr_cell (by decide)]; exact h4⟩, h5, fun q a b d => ?_, fun j a => ?_⟩
  · rw [← h6 q a b d]
    funext i
    exact wr_cell d
  · rw [wr_cell (by decide)]
    exact h7 j a
theorem flo_19 {a : Int32} (h : FlO D M D' M') : FlO D M D' (wr M' 0 19 a) := by
  obtain ⟨⟨y, s, hy, h1, h2, h3, h4⟩, h5, h6, h7⟩ := h
  refine ⟨⟨y, s, hy, h1, by rw [wr_place (by decide)]; exact h2, h3, by rw [wr_place (by decide)]; exact h4⟩, h5, fun q a b d => ?_, fun j a => ?_⟩
  · rw [← h6 q a b d]
    funext i
    exact wr_cell a
  · rw [wr_place (by omega)]
    exact h7 j a
theorem gv_bit : ∀ g0, g0 < 2 → ∀ g1, g1 < 2 → ∀ g2, g2 < 2 → (((nI (g0 + 2 * g1 + 4 * g2) >>> (nI 0 &&& 31)) &&& 1) = 1 ↔ g0 = 1) ∧ (((nI (g0 + 2 * g1 + 4 * g2) >>> (nI 1 &&& 31)) &&& 1) = 1 ↔ g1 = 1) ∧ (((nI (g0 + 2 * g1 + 4 * g2) >>> (nI 2 &&& 31)) &&& 1) = 1 ↔ g2 = 1) ∧ (g0 = 0 → nI (g0 + 2 * g1 + 4 * g2) ||| (1 <<< (nI 0 &&& 31)) = nI (g0 + 2 * g1 + 4 * g2 + 2 ^ 0)) ∧ (g1 = 0 → nI (g0 + 2 * g1 + 4 * g2) ||| (1 <<< (nI 1 &&& 31)) = nI (g0 + 2 * g1 + 4 * g2 + 2 ^ 1)) ∧ (g2 = 0 → nI (g0 + 2 * g1 + 4 * g2) ||| (1 <<< (nI 2 &&& 31)) = nI (g0 + 2 * g1 + 4 * g2 + 2 ^ 2)) := by
  intro g0 h0 g1 h1 g2 h2
  rcases (show g0 = 0 ∨ g0 = 1 by omega) with rfl | rfl <;> rcases (show g1 = 0 ∨ g1 = 1 by omega) with rfl | rfl <;> rcases (show g2 = 0 ∨ g2 = 1 by omega) with rfl | rfl <;> decide +kernel
theorem gok_bit (hG : Gok G) (ht : t < 3) : (((nI (G 12 0) >>> (nI t &&& 31)) &&& 1) = 1 ↔ G 11 t = 1) ∧ G 11 t ≤ 1 ∧ (G 11 t = 0 → nI (G 12 0) ||| (1 <<< (nI t &&& 31)) = nI (G 12 0 + 2 ^ t)) := by
  obtain ⟨h0, h1, h2, h3⟩ := hG
  obtain ⟨b0, b1, b2, c0, c1, c2⟩ := gv_bit (G 11 0) (by omega) (G 11 1) (by omega) (G 11 2) (by omega)
  rw [h3]
  rcases (show t = 0 ∨ t = 1 ∨ t = 2 by omega) with rfl | rfl | rfl
  · exact ⟨b0, h0, c0⟩
  · exact ⟨b1, h1, c1⟩
  · exact ⟨b2, h2, c2⟩
theorem gok_set (hG : Gok G) (ht : t < 3) (h0 : G 11 t = 0) : Gok (upA (upA (upA G 12 0 (G 12 0 + 2 ^ t)) 11 t 1) 9 t v) := by
  obtain ⟨g0, g1, g2, g3⟩ := hG
  rcases (show t = 0 ∨ t = 1 ∨ t = 2 by omega) with rfl | rfl | rfl
  · refine ⟨Nat.le_refl 1, g1, g2, ?_⟩
    show G 12 0 + 2 ^ 0 = 1 + 2 * G 11 1 + 4 * G 11 2
    omega
  · refine ⟨g0, Nat.le_refl 1, g2, ?_⟩
    show G 12 0 + 2 ^ 1 = G 11 0 + 2 * 1 + 4 * G 11 2
    omega
  · refine ⟨g0, g1, Nat.le_refl 1, ?_⟩
    show G 12 0 + 2 ^ 2 = G 11 0 + 2 * G 11 1 + 4 * 1
    omega
theorem stv_b (ht : t < 3) : ∃ lo hi, stv 0 t = nI lo ∧ stv 1 t = nI hi ∧ lo ≤ 2000 ∧ hi ≤ 2000 ∧ (∀ v, lo ≤ v → v ≤ hi → setOk t v = true) := by
  rcases (show t = 0 ∨ t = 1 ∨ t = 2 by omega) with rfl | rfl | rfl
  · exact ⟨1, 3, rfl, rfl, by decide, by decide, fun v a b => decide_eq_true (Or.inl ⟨rfl, a, b⟩)⟩
  · exact ⟨0, 500, rfl, rfl, by decide, by decide, fun v a b => decide_eq_true (Or.inr (Or.inl ⟨rfl, b⟩))⟩
  · exact ⟨0, 2, rfl, rfl, by decide, by decide, fun v a b => decide_eq_true (Or.inr (Or.inr ⟨rfl, b⟩))⟩
theorem mf_sN {T N N' : Nat → Int32} {F : Fg} (hO : OkF F) (h : MF T N 0 F) (ht : t < 3) (g : ∀ j, j ≠ 78 + t → N' j = N j) (g' : N' (78 + t) = nI v) : MF T N' 0 (upA F 9 t v) := by
  have b6 := hO.1
  have b3 := hO.2.1
  refine mf_ne (q := 78 + t) hO h g (up_o (by decide)) (up_o (by decide)) (up_o (by decide)) (up_o (by decide)) (up_o (by decide)) (up_o (by decide)) (up_o (by decide)) (fun i hi => ?_) (fun j hj => ?_) (fun t' ht' => ?_) (by omega)
  · rw [if_neg (by omega), upA_c (by decide)]
    exact ⟨Nat.le_refl _, rfl⟩
  · rw [if_neg (by omega), if_neg (by omega), upA_c (by decide), upA_c (by decide)]
    exact ⟨rfl, rfl⟩
  · rw [g', upA_at]
    by_cases e : t' = t
    · rw [if_pos (by omega), if_pos ⟨rfl, e⟩]
    · rw [if_neg (by omega), if_neg (fun h9 => e h9.2)]
theorem sy_19 {g : Nat} (h : SY D M c L G s) : SY D (wr M 0 19 (nI g)) c L (upA G 12 0 g) s := by
  obtain ⟨⟨⟨t1, t2, t3, t4, t5⟩, ⟨d1, d2, d3, d4, d5⟩, ⟨f0, f3⟩, h15⟩, hs, hX, m1, m2, m3, m4, m5⟩ := h
  have c1 : ∀ q, q ≠ 0 → wr M 0 19 (nI g) q = M q := fun q hq => by funext i; exact wr_cell hq
  have c0 : ∀ j, j ≠ 19 → wr M 0 19 (nI g) 0 j = M 0 j := fun j hj => wr_place hj
  refine ⟨⟨⟨t1, t2, (c0 9 (by decide)).trans t3, t4, by rw [c1 1 (by decide)]; exact t5⟩, ⟨d1, d2, by rw [c1 3 (by decide), c1 5 (by decide)]; exact d3, d4, by rw [c1 5 (by decide)]; exact d5⟩, ⟨f0, wr_same⟩, (c0 15 (by decide)).trans h15⟩, hs, hX, (c0 10 (by decide)).trans m1, (c0 11 (by decide)).trans m2, (c0 12 (by decide)).trans m3, fun h9 => (c0 13 (by decide)).trans (m4 h9), fun h9 => (c0 13 (by decide)).trans (m5 h9)⟩
theorem la_set (h : LA D M c L G p) (ht : t < 3) (hv : setOk t v = true) : LA (wr (wr D 2 t 1) 12 t (nI v)) (wr M 5 (78 + t) (nI v)) c L (upA (upA G 11 t 1) 9 t v) p := by
  obtain ⟨⟨⟨t1, t2, t3, t4, t5⟩, ⟨d1, d2, d3, d4, d5⟩, ⟨f0, f3⟩, h15⟩, hp, h7, m1, m2, m3, m4, m5⟩ := h
  have c1 : ∀ q, q ≠ 5 → wr M 5 (78 + t) (nI v) q = M q := fun q hq => by funext i; exact wr_cell hq
  have x1 : ∀ q, q ≠ 2 → q ≠ 12 → wr (wr D 2 t 1) 12 t (nI v) q = D q := fun q h1 h2 => by funext i; rw [wr_cell h2, wr_cell h1]
  have hO1 : OkF (upA G 11 t 1) := d1
  have hX1 : XF (wr D 2 t 1) 3 (upA G 11 t 1) := XF_eq (fun q j h1 h2 => wr_cell (by omega)) d2
  have hM1 : MF (M 3) (M 5) 0 (upA G 11 t 1) := d3
  refine ⟨⟨⟨t1, by rw [x1 0 (by decide) (by decide)]; exact t2, by rw [c1 0 (by decide)]; exact t3, by rw [x1 1 (by decide) (by decide)]; exact t4, by rw [c1 1 (by decide)]; exact t5⟩, ⟨ok_set hO1 hv, xf_s hX1, ?_, d4, fun k hk => ?_⟩, ⟨fun q hq => ?_, ?_⟩, by rw [c1 0 (by decide)]; exact h15⟩, hp, by rw [x1 0 (by decide) (by decide)]; exact h7, ?_⟩
  · rw [c1 3 (by decide)]
    exact mf_sN hO1 hM1 ht (fun j hj => wr_place hj) wr_same
  · rw [wr_place (by omega), wr_place (by omega)]
    exact d5 k hk
  · rw [wr_cell (by decide), wr_at]
    simp only [true_and]
    show _ = nI (upA G 11 t 1 11 q)
    rw [upA_at]
    by_cases e : q = t
    · rw [if_pos e, if_pos ⟨rfl, e⟩]; rfl
    · rw [if_neg e, if_neg (fun h9 => e h9.2)]
      exact f0 q hq
  · rw [c1 0 (by decide)]; exact f3
  · unfold MTs
    rw [c1 0 (by decide)]
    exact ⟨m1, m2, m3, m4, m5⟩
theorem p_set (h : SY D M c L G s) (hk : tkK c L s ≠ 0) (hG : Gok G) : Out (f_X4_readSetting [.inr (.inl 0)] D) (f_X7_readSet [.inr (.inl 0)] M) D M c L s G := by
  obtain ⟨N, hN⟩ := big5
  have hgt := (tkE_gt (c := c) h.2.1 hk).2
  obtain ⟨M1, g1, hLA, g3⟩ := la_next h
  obtain ⟨D1, a1, hS, a3⟩ := la_tok hLA
  have hle := tkS_le (c := c) hLA.2.1
  clear hLA
  generalize tkS c L (tkE c L s) = s2 at *
  obtain ⟨hB, hs, hX, hM⟩ := id hS
  have hle2 := tkE_le (c := c) hs
  have h15 := hB.2.2.2
  have k4 := tkK_le (c := c) (L := L) (s := s2)
  have hkm := km_iff _ k4
  have k9 : D1 0 9 = 1 ↔ tkK c L s2 = 1 := by
    rw [hX.2.2.1]
    exact nI_eq (b := 1) (by omega) (by decide)
  have k12 : M1 0 12 = 0 ↔ tkK c L s2 = 1 := by
    rw [hM.2.2.1]
    exact hkm.1
  have bad : b_X4_readSetting_23 (N + 1 + 1 + 1 + 1 + 1) (-1) D1 = some (some (some (.inl 0)), wr (wr D1 0 5 (-11)) 0 4 (D1 0 8)) := by
    rw [e_X4_readSetting_23, if_pos rfl, e_X4_fail, onI_s, if_pos (Or.inl rfl)]
  have badM : ∃ a b, b_X7_readSet_31 (N + 1 + 1 + 1 + 1 + 1) 0 M1 = some (some none, wr (wr (wr (wr M1 0 15 (-11)) 0 16 (M1 0 11)) 0 19 a) 5 (78 + 0) b) := by
    have he := er_15 (M := M1) (y := -11) (by decide)
    have g : ∀ z, ∃ a b, b_X7_readSet_80 (N + 1 + 1) 0 z (wr (wr M1 0 15 (-11)) 0 16 (M1 0 11)) = some (some none, wr (wr (wr (wr M1 0 15 (-11)) 0 16 (M1 0 11)) 0 19 a) 5 (78 + 0) b) := fun z => ms_80 (t := 0) (by decide) (mf_ifE he) he
    rw [e_X7_readSet_31, if_pos rfl, e_X7_readSet_42, mf_if1 h15, onV_s, if_pos rfl, e_X7_readSet_61]
    split
    · exact g 1
    · exact g 0
  have hf : ∀ a b, FlO D M (wr (wr D1 0 5 (-11)) 0 4 (D1 0 8)) (wr (wr (wr (wr M1 0 15 (-11)) 0 16 (M1 0 11)) 0 19 a) 5 (78 + 0) b) := fun a b => flo_5 (flo_19 (fl_o (fl_mk hX.2.1 hM.2.1 (by decide)) (a3.1 3 (by omega)) (FM_fr g3)))
  rw [e_X4_readSetting, a1, onV_s, e_X7_readSet, g1, onV_s, if_pos h15, hN]
  by_cases hkk : tkK c L s2 = 1
  · rw [if_pos (k9.mpr hkk), if_pos (k12.mpr hkk), hX.2.2.2.1 hkk, hM.2.2.2.1 hkk, x_sow, onI_s]
    simp only [pp1]
    by_cases hw : wiX (vA c s2 (tkE c L s2)) < 4
    · right
      obtain ⟨a, b, hb⟩ := badM
      rw [if_pos hw, if_pos hw, bad, hb]
      exact ⟨_, _, rfl, rfl, hf a b⟩
    · obtain ⟨t, ht, ew⟩ := wi_t _ hw
      have i3 : inb (nI t) 3 = true := inb_nI ht (by decide)
      have e4 : nI (4 + t) - 4 = nI t := by rw [show nI (4 + t) - 4 = nI (4 + t - 4) from nI_sub (b := 4) (by omega), Nat.add_sub_cancel_left]
      have e13 : M1 0 13 = nI (4 + t) := (hM.2.2.2.1 hkk).trans ew
      have dt : D1 2 t = nI (G 11 t) := hB.2.2.1.1 t ht
      have mt : M1 0 19 = nI (G 12 0) := hB.2.2.1.2
      obtain ⟨q1, q2, q3⟩ := gok_bit hG ht
      obtain ⟨lo, hi, s0, s1, l1, l2, l3⟩ := stv_b ht
      rw [if_neg hw, if_neg hw, ew, e4, e_X4_readSetting_23, if_neg (ne_m1 (by omega)), if_pos i3, nI_clamp (by omega), dt, e_X7_readSet_31, if_neg (show ¬ (1 : Int32) = 0 by decide), e_X7_readSet_42, mf_if0 h15, onV_s, if_neg (show ¬ (1 : Int32) = 0 by decide), e13, e4, e_X7_readSet_61, mt]
      by_cases hg : G 11 t = 0
      · obtain ⟨M3, u1, u2, u3⟩ := la_next (sy_19 (g := G 12 0 + 2 ^ t) hS)
        rw [hg, if_pos nI_0, if_pos i3, if_pos i3, if_neg (fun h9 => by have := q1.mp h9; omega), s0, s1, e_X7_readSet_80, mf_if0 h15, onV_s, mt, q3 hg, u1, onV_s, sm_least ht, onI_s]
        simp only [pk0, pp1]
        rw [sm_most ht, onI_s, s0, s1]
        rcases p_num l1 l2 u2 with ⟨D2, M4, v, p', c1, c2, c3, c4, c5, c6, c7, c8, c9⟩ | ⟨D', M', c1, c2, c3⟩
        · left
          rw [c1, onI_s, if_neg (show ¬ (1 : Int32) = 0 by decide), if_pos i3, if_pos i3, c5, c2, onI_s, n78, if_pos (inb_nI (by omega) (by decide)), nI_clamp (by omega)]
          refine ⟨_, _, _, p', rfl, rfl, la_set c6 ht (l3 v c3 c4), by omega, FX_trans (FX_fr (FrX_trans a3 c8)) ⟨?_, ?_⟩, FM_trans (FM_trans (FM_fr g3) (FM_trans (M' := wr M1 0 19 (nI (G 12 0 + 2 ^ t))) ⟨fun q a _ _ => by funext i; exact wr_cell a, fun j a => wr_place (by omega)⟩ (FM_fr (FrM_trans u3 c9)))) ⟨fun q a b d => ?_, fun j a => wr_cell (by decide)⟩, fun _ => gok_set hG ht hg⟩
          · rw [wr_cell (by decide), wr_cell (by decide)]
          · rw [wr_cell (by decide), wr_cell (by decide)]
          · funext i; exact wr_cell d
        · right
          rw [c1, onI_s, if_pos rfl, c2, onI_s, n78, if_pos (inb_nI (by omega) (by decide)), nI_clamp (by omega)]
          exact ⟨_, _, rfl, rfl, flo_5 (fl_o c3 (a3.1 3 (by omega)) (FM_trans (FM_fr g3) (FM_trans (M' := wr M1 0 19 (nI (G 12 0 + 2 ^ t))) ⟨fun q a _ _ => by funext i; exact wr_cell a, fun j a => wr_place (by omega)⟩ (FM_fr u3))))⟩
      · right
        have hg1 : G 11 t = 1 := by omega
        obtain ⟨a, b, hb⟩ := ms_80 (N := N + 1) ht (mf_if1 (y := -14) h15) (er_15 (by decide))
        rw [hg1, if_neg (show ¬ nI 1 = 0 by decide), e_X4_fail, onI_s, if_pos (Or.inl rfl), if_pos (q1.mpr hg1), hb]
        exact ⟨_, _, rfl, rfl, flo_5 (flo_19 (fl_o (fl_mk hX.2.1 hM.2.1 (by decide)) (a3.1 3 (by omega)) (FM_fr g3)))⟩
  · right
    obtain ⟨a, b, hb⟩ := badM
    rw [if_neg (fun h9 => hkk (k9.mp h9)), if_neg (fun h9 => hkk (k12.mp h9)), bad, hb]
    exact ⟨_, _, rfl, rfl, hf a b⟩
end READ5
