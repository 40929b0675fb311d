section READ4
variable {D M D' M' D'' M'' : Mm} {c : Nat → Nat} {L p s e : Nat} {G G' : Fg} {y : Int32} {v m w : Nat}
theorem ir_00 : irF G v m w 0 0 = G 0 0 + 1 := rfl
theorem ir_01 : irF G v m w 0 1 = G 0 1 := by
  unfold irF
  simp
theorem ir_1 (q : Nat) : irF G v m w 1 q = if q = G 0 0 then v else G 1 q := by
  unfold irF
  simp
theorem ir_2 (q : Nat) : irF G v m w 2 q = if q = G 0 0 then m else G 2 q := by
  unfold irF
  simp
theorem ir_3 (q : Nat) : irF G v m w 3 q = if q = G 0 0 then w else G 3 q := by
  unfold irF
  simp
theorem ir_4 (q : Nat) : irF G v m w 4 q = if q = G 0 0 then 0 else G 4 q := by
  unfold irF
  simp
theorem ir_10 (q : Nat) : irF G v m w 10 q = if q = G 0 0 then G 0 0 else G 10 q := by
  unfold irF
  simp
theorem ir_5 (q : Nat) : irF G v m w 5 q = G 5 q := by
  unfold irF
  simp
theorem ir_6 (q : Nat) : irF G v m w 6 q = G 6 q := by
  unfold irF
  simp
theorem ir_7 (q : Nat) : irF G v m w 7 q = G 7 q := by
  unfold irF
  simp
theorem ir_8 (q : Nat) : irF G v m w 8 q = G 8 q := by
  unfold irF
  simp
theorem ir_9 (q : Nat) : irF G v m w 9 q = G 9 q := by
  unfold irF
  simp
theorem dr_ir (h : Dr D M G) (h6 : G 0 0 < 6) (m1 : 1 ≤ m) (m2 : m ≤ 9) (w1 : 1 ≤ w) (w2 : w ≤ 99) (g : ∀ q, q ≠ 3 → q ≠ 4 → q ≠ 5 → q ≠ 6 → q ≠ 7 → q ≠ 13 → D' q = D q) (g0 : D' 3 0 = nI (G 0 0 + 1)) (g1 : D' 3 1 = D 3 1) (gn : ∀ q, D' 4 q = if q = G 0 0 then nI v else D 4 q) (gm : ∀ q, D' 5 q = if q = G 0 0 then nI m else D 5 q) (gw : ∀ q, D' 6 q = if q = G 0 0 then nI w else D 6 q) (gs : ∀ q, D' 7 q = if q = G 0 0 then 0 else D 7 q) (go : ∀ q, D' 13 q = if q = G 0 0 then nI (G 0 0) else D 13 q) (k3 : ∀ q, M' 3 q = if q = 18 then nI (G 0 0 + 1) else if q = 12 + G 0 0 then nI w else if q = 6 + G 0 0 then nI m else if q = G 0 0 then nI v else M 3 q) (k5 : M' 5 = M 5) : Dr D' M' (irF G v m w) := by
  obtain ⟨hO, hX, hM, h10, h72⟩ := h
  have b3 := hO.2.1
  have hid : ∀ i, i < G 0 0 + 1 → irF G v m w 10 i = i := fun i hi => by
    rw [ir_10]
    by_cases e : i = G 0 0
    · rw [if_pos e, e]
    · rw [if_neg e]
      exact h10 i (by omega)
  refine ⟨?_, ?_, ?_, ?_, ?_⟩
  · obtain ⟨a1, a2, a3, a4, a5, a6, a7, a8, a9⟩ := hO
    refine ⟨by rw [ir_00]; omega, by rw [ir_01]; exact a2, fun i hi => ?_, fun i j hi hj hij => ?_, fun j hj => ?_, by rw [ir_9]; exact a6, by rw [ir_9]; exact a7, by rw [ir_9]; exact a8, fun k hk => ⟨k, hk, hid k (by rw [ir_00] at hk; exact hk)⟩⟩
    · rw [ir_00] at hi
      rw [ir_00, hid i hi]
      simp only [ir_2, ir_3, ir_4, ir_5, ir_6]
      by_cases e : i = G 0 0
      · simp only [if_pos e]
        exact ⟨⟨m1, m2⟩, ⟨w1, w2⟩, by omega, fun s hs => by omega, hi⟩
      · simp only [if_neg e]
        obtain ⟨c1, c2, c3, c4, -⟩ := a3 i (by omega)
        exact ⟨c1, c2, c3, c4, hi⟩
    · rw [ir_00] at hi hj
      rw [hid i hi, hid j hj] at hij
      exact hij
    · rw [ir_7, ir_8]
      rw [ir_01] at hj
      exact a5 j hj
  · obtain ⟨x1, x2, x3, x4, x5⟩ := hX
    refine ⟨by rw [ir_00]; exact g0, by rw [ir_01]; exact g1.trans x2, fun i hi => ?_, fun j hj => ?_, fun t ht => ?_⟩
    · rw [ir_00] at hi
      simp only [ir_1, ir_2, ir_3, ir_4, ir_5, ir_6, ir_10]
      rw [g (3 + 5) (by decide) (by decide) (by decide) (by decide) (by decide) (by decide), g (3 + 6) (by decide) (by decide) (by decide) (by decide) (by decide) (by decide)]
      have en : D' (3 + 1) i = if i = G 0 0 then nI v else D (3 + 1) i := gn i
      have em : D' (3 + 2) i = if i = G 0 0 then nI m else D (3 + 2) i := gm i
      have ew : D' (3 + 3) i = if i = G 0 0 then nI w else D (3 + 3) i := gw i
      have es : D' (3 + 4) i = if i = G 0 0 then 0 else D (3 + 4) i := gs i
      have eo : D' (3 + 10) i = if i = G 0 0 then nI (G 0 0) else D (3 + 10) i := go i
      rw [en, em, ew, es, eo]
      by_cases e : i = G 0 0
      · simp only [if_pos e]
        exact ⟨trivial, trivial, rfl, trivial, fun s hs => by omega, trivial⟩
      · simp only [if_neg e]
        exact x3 i (by omega)
    · rw [ir_01] at hj
      rw [ir_7, ir_8, g (3 + 7) (by decide) (by decide) (by decide) (by decide) (by decide) (by decide), g (3 + 8) (by decide) (by decide) (by decide) (by decide) (by decide) (by decide)]
      exact x4 j hj
    · rw [ir_9, g (3 + 9) (by decide) (by decide) (by decide) (by decide) (by decide) (by decide)]
      exact x5 t ht
  · unfold MF at hM ⊢
    simp only [Nat.zero_add, ir_00, ir_01, ir_1, ir_2, ir_3, ir_4, ir_5, ir_6, ir_7, ir_8, ir_9, ir_10] at hM ⊢
    obtain ⟨x1, x2, x3, x4, x5⟩ := hM
    rw [k5]
    refine ⟨by rw [k3, if_pos rfl], ?_, fun i hi => ?_, x4, x5⟩
    · rw [k3, if_neg (by omega), if_neg (by omega), if_neg (by omega), if_neg (by omega)]
      exact x2
    · by_cases e : i = G 0 0
      · have z0 := (h72 i (by omega)).2 (by omega)
        have z1 := (h72 i (by omega)).1
        simp only [if_pos e]
        refine ⟨?_, ?_, z0, by rw [z1, e], fun s hs => by omega, ?_⟩
        · rw [k3, if_neg (by omega), if_neg (by omega), if_pos (by omega)]
        · rw [k3, if_neg (by omega), if_pos (by omega)]
        · rw [k3, if_neg (by omega), if_neg (by omega), if_neg (by omega), if_pos e]
      · obtain ⟨y1, y2, y3, y4, y5, y6⟩ := x3 i (by omega)
        simp only [if_neg e]
        refine ⟨?_, ?_, y3, y4, y5, ?_⟩
        · rw [k3, if_neg (by omega), if_neg (by omega), if_neg (by omega), if_neg (by omega)]; exact y1
        · rw [k3, if_neg (by omega), if_neg (by omega), if_neg (by omega), if_neg (by omega)]; exact y2
        · rw [k3, if_neg (by omega), if_neg (by omega), if_neg (by omega), if_neg e]; exact y6
  · intro i hi
    rw [ir_00] at hi
    exact hid i hi
  · intro k hk
    rw [ir_00, k5]
    exact ⟨(h72 k hk).1, fun h9 => (h72 k hk).2 (by omega)⟩
theorem mi59E {N : Nat} {z : Int32} (h : ¬ M 0 15 = 0) : b_X7_readIron_59 (N + 1) z M = some (some none, M) := by
  rw [e_X7_readIron_59, mf_ifE h, onV_s, mg_E h, onV_s, mi_E h, onI_s, mi_E h, onI_s, if_neg h]
theorem p_iron (h : SY D M c L G s) (hk : tkK c L s ≠ 0) : Out (f_X4_readIron [.inr (.inl 0)] D) (f_X7_readIron [.inr (.inl 0)] M) D M c L s G := by
  obtain ⟨N, hN⟩ := big5
  have hgt := (tkE_gt (c := c) h.2.1 hk).2
  have hD := h.1.2.1
  have h15 := h.1.2.2.2
  have hO := hD.1
  have b6 := hO.1
  have x1 : D 3 0 = nI (G 0 0) := hD.2.1.1
  have m1 : M 3 18 = nI (G 0 0) := hD.2.2.1.1
  rw [e_X4_readIron, x1, e_X7_readIron, m1, hN]
  by_cases h6 : G 0 0 < 6
  · obtain ⟨M1, g1, hLA, g3⟩ := la_next h
    rw [if_pos (show nI (G 0 0) < 6 from nI_lt (b := 6) h6 (by decide)), if_neg (show ¬ nI (G 0 0) = 6 from fun h9 => by have := (nI_eq (b := 6) (by omega) (by decide)).mp h9; omega), e_X7_readIron_18, mf_if0 h15, onV_s, g1, onV_s]
    rcases p_name hLA with ⟨D1, v, a1, a2, a3, a4, a5, a6⟩ | ⟨D', M', a1, a2, a3⟩
    · have q15 := a4.1.2.2.2
      obtain ⟨r, f1, f2, f3⟩ := p_find a4.1.2.1 (nI v)
      rw [a1, onI_s, if_neg (show ¬ (1 : Int32) = 0 by decide), a2, onV_s, if_pos q15, wr_same, a3, f1, onI_s, putC_id, f2, onI_s]
      rcases f3 with rfl | ⟨k, hk', rfl⟩
      · obtain ⟨M3, g4, hLA2, g5⟩ := la_next a4
        rw [if_pos rfl, if_pos rfl, e_X7_readIron_59, mf_if0 q15, onV_s, g4, onV_s]
        rcases p_num2 (lo1 := 1) (hi1 := 9) (lo2 := 1) (hi2 := 99) (by decide) (by decide) (by decide) (by decide) hLA2 with ⟨D2, D3, M4, M5, m, w, p', c1, c2, c3, c4, v1, v2, w1, w2, c5, c6, c7, c8, c9, c10⟩ | ⟨D', M4, M', z1, z2, c1, c2, c3, c4⟩
        · left
          have c1' : f_X4_readNumber [.inr (.inl 0), .inl 1, .inl 9] D1 = _ := c1
          have c2' : f_X4_readNumber [.inr (.inl 0), .inl 1, .inl 99] D2 = _ := c2
          have c3' : f_X7_integer [.inr (.inl 0), .inl 1, .inl 9] M3 = _ := c3
          have c4' : f_X7_integer [.inr (.inl 0), .inl 1, .inl 99] M4 = _ := c4
          have d1 : pk (sgC 3 11) D3 0 0 = nI (G 0 0) := c7.1.2.1.2.1.1
          have n1 : M5 3 18 = nI (G 0 0) := c7.1.2.1.2.2.1.1
          have n14 : M5 0 14 = nI v := by rw [c10.1 14 (by omega), g5.1 14 (by omega), wr_same]
          have i1 : inb (nI (G 0 0)) 6 = true := inb_nI h6 (by decide)
          have j1 : inb (nI (G 0 0)) 20 = true := inb_nI (by omega) (by decide)
          have j2 : inb (nI (6 + G 0 0)) 20 = true := inb_nI (by omega) (by decide)
          have j3 : inb (nI (12 + G 0 0)) 20 = true := inb_nI (by omega) (by decide)
          have n18 : wr (wr (wr M5 3 (G 0 0) (nI v)) 3 (6 + G 0 0) (nI m)) 3 (12 + G 0 0) (nI w) 3 18 = nI (G 0 0) := by
            rw [wr_place (by omega), wr_place (by omega), wr_place (by omega)]; exact n1
          rw [c1', onI_s, if_neg (show ¬ (1 : Int32) = 0 by decide), c2', onI_s, if_neg (show ¬ (1 : Int32) = 0 by decide), c5, c6, e_X2_appendIron, d1, if_pos i1, if_pos i1, if_pos i1, if_pos i1, if_pos i1, nI_clamp (n := G 0 0) (by omega), nI_1, onV_s, c3', onI_s, c4', onI_s, if_pos c7.1.2.2.2, n1, z0, n6, n12, if_pos j1, if_pos j2, if_pos j3, nI_clamp (n := G 0 0) (by omega), nI_clamp (n := 6 + G 0 0) (by omega), nI_clamp (n := 12 + G 0 0) (by omega), n14, n18, nI_1]
          generalize hτ : wr (wr (wr (wr (wr (wr (pk (sgC 3 11) D3) 1 (G 0 0) (nI v)) 2 (G 0 0) (nI m)) 3 (G 0 0) (nI w)) 4 (G 0 0) 0) 10 (G 0 0) (nI (G 0 0))) 0 0 (nI (G 0 0 + 1)) = τ
          have gX : ∀ q, q < 3 → put (sgC 3 11) D3 τ q = D3 q := fun q hq => putC_out (by omega)
          have gM : ∀ q, q ≠ 3 → q ≠ 5 → wr (wr (wr (wr M5 3 (G 0 0) (nI v)) 3 (6 + G 0 0) (nI m)) 3 (12 + G 0 0) (nI w)) 3 18 (nI (G 0 0 + 1)) q = M5 q := fun q h1 h2 => by
            funext i
            rw [wr_cell h1, wr_cell h1, wr_cell h1, wr_cell h1]
          have tg : ∀ d, d < 11 → put (sgC 3 11) D3 τ (3 + d) = τ d := fun d hd => putC_in hd
          have gG : ∀ q, irF G v m w 11 q = G 11 q ∧ irF G v m w 12 q = G 12 q := fun q => by unfold irF; simp
          refine ⟨_, _, irF G v m w, p', rfl, rfl, la_dr c7 gX gM gG (dr_ir c7.1.2.1 h6 v1 v2 w1 w2 (fun q q1 q2 q3 q4 q5 q6 => ?_) ?_ ?_ (fun q => ?_) (fun q => ?_) (fun q => ?_) (fun q => ?_) (fun q => ?_) (fun q => ?_) ?_), by omega, FX_trans (FX_fr (FrX_trans a6 c9)) (out_dr c7 gX), FM_trans (FM_trans (FM_fr g3) (FM_trans ⟨fun q a _ _ => by funext i; exact wr_cell a, fun j a => wr_place (by omega)⟩ (FM_fr (FrM_trans g5 c10)))) (FM_dr gM), gok_o gG⟩
          · by_cases hq : 3 ≤ q ∧ q < 14
            · obtain ⟨d, rfl⟩ : ∃ d, q = 3 + d := ⟨q - 3, by omega⟩
              rw [tg d (by omega), ← hτ]
              funext i
              rw [wr_cell (by omega), wr_cell (by omega), wr_cell (by omega), wr_cell (by omega), wr_cell (by omega), wr_cell (by omega), pkC]
            · exact putC_out (by omega)
          · rw [tg 0 (by decide), ← hτ, wr_same]
          · rw [tg 0 (by decide), ← hτ, wr_place (by decide), wr_cell (by decide), wr_cell (by decide), wr_cell (by decide), wr_cell (by decide), wr_cell (by decide), pkC]
          · rw [tg 1 (by decide), ← hτ, wr_cell (by decide), wr_cell (by decide), wr_cell (by decide), wr_cell (by decide), wr_cell (by decide), wr_at]
            simp only [true_and]
            rfl
          · rw [tg 2 (by decide), ← hτ, wr_cell (by decide), wr_cell (by decide), wr_cell (by decide), wr_cell (by decide), wr_at]
            simp only [true_and]
            by_cases e : q = G 0 0
            · rw [if_pos e, if_pos e]
            · rw [if_neg e, if_neg e, wr_cell (by decide), pkC]
          · rw [tg 3 (by decide), ← hτ, wr_cell (by decide), wr_cell (by decide), wr_cell (by decide), wr_at]
            simp only [true_and]
            by_cases e : q = G 0 0
            · rw [if_pos e, if_pos e]
            · rw [if_neg e, if_neg e, wr_cell (by decide), wr_cell (by decide), pkC]
          · rw [tg 4 (by decide), ← hτ, wr_cell (by decide), wr_cell (by decide), wr_at]
            simp only [true_and]
            by_cases e : q = G 0 0
            · rw [if_pos e, if_pos e]
            · rw [if_neg e, if_neg e, wr_cell (by decide), wr_cell (by decide), wr_cell (by decide), pkC]
          · rw [tg 10 (by decide), ← hτ, wr_cell (by decide), wr_at]
            simp only [true_and]
            by_cases e : q = G 0 0
            · rw [if_pos e, if_pos e]
            · rw [if_neg e, if_neg e, wr_cell (by decide), wr_cell (by decide), wr_cell (by decide), wr_cell (by decide), pkC]
          · rw [wr_at, wr_at, wr_at, wr_at]
            simp only [true_and]
          · funext i
            rw [wr_cell (by decide), wr_cell (by decide), wr_cell (by decide), wr_cell (by decide)]
        · right
          have c2' : f_X7_integer [.inr (.inl 0), .inl 1, .inl 9] M3 = _ := c2
          have c3' : f_X7_integer [.inr (.inl 0), .inl 1, .inl 99] M4 = _ := c3
          rw [c2', onI_s, c3', onI_s, if_neg (fl_er c4.1)]
          refine ⟨D', M', ?_, rfl, fl_o c4 (a6.1 3 (by omega)) (FM_trans (FM_fr g3) (FM_trans ⟨fun q a _ _ => by funext i; exact wr_cell a, fun j a => wr_place (by omega)⟩ (FM_fr g5)))⟩
          rcases c1 with c1 | ⟨D2, c1, b1⟩
          · have c1' : f_X4_readNumber [.inr (.inl 0), .inl 1, .inl 9] D1 = _ := c1
            rw [c1', onI_s, if_pos rfl]
          · have c1' : f_X4_readNumber [.inr (.inl 0), .inl 1, .inl 9] D1 = _ := c1
            have b1' : f_X4_readNumber [.inr (.inl 0), .inl 1, .inl 99] D2 = _ := b1
            rw [c1', onI_s, if_neg (show ¬ (1 : Int32) = 0 by decide), b1', onI_s, if_pos rfl]
      · right
        have hn : ¬ nI k = -1 := ne_m1 (by omega)
        have he := er_15 (M := wr M1 0 14 (nI v)) (y := -14) (by decide)
        rw [if_neg hn, if_neg hn, e_X4_fail, onI_s, if_pos (Or.inl rfl), e_X7_readIron_59, mf_if1 q15, onV_s, mg_E he, onV_s, mi_E he, onI_s, mi_E he, onI_s, if_neg he]
        exact ⟨_, _, rfl, rfl, fl_o (fl_mk a4.2.2.1.2.1 a4.2.2.2.2.1 (by decide)) (a6.1 3 (by omega)) (FM_trans (FM_fr g3) ⟨fun q a _ _ => by funext i; exact wr_cell a, fun j a => wr_place (by omega)⟩)⟩
    · right
      rw [a1, onI_s, if_pos rfl, a2, onV_s, if_neg (fl_er a3.1), mi59E (fl_er a3.1)]
      exact ⟨_, _, rfl, rfl, fl_o a3 rfl (FM_fr g3)⟩
  · right
    have e6 : G 0 0 = 6 := by omega
    have he := er_15 (M := M) (y := -15) (by decide)
    have he' : ¬ wr (wr (wr M 0 15 (-15)) 0 16 (M 0 11)) 0 14 0 0 15 = 0 := by rw [wr_place (by decide)]; exact he
    rw [e6, if_neg (by decide), e_X4_fail, onI_s, if_pos (Or.inl rfl), if_pos (by decide), e_X7_readIron_18, mf_if1 h15, onV_s, mg_E he, onV_s, ms_E he, onV_s, if_neg he', mi59E he']
    exact ⟨_, _, rfl, rfl, flo_14 (fl_mk h.2.2.1.2.1 h.2.2.2.2.1 (by decide))⟩
/-! a step -/
theorem ma_adds5 {σ : Mm} {k s h m : Nat} (hk : k < 6) (hs : s < 5) (h0 : σ 5 k = nI s) : ∃ σ', f_X7_adds [.inr (.inl 5), .inl (nI k), .inl (nI h), .inl (nI m)] σ = some (some none, σ') ∧ (∀ q, q ≠ 5 → σ' q = σ q) ∧ (∀ q, σ' 5 q = if q = k then nI (s + 1) else if q = 6 + (5 * k + s) then nI h else if q = 36 + (5 * k + s) then nI m else σ 5 q) := by
  have e1 : (6 : Int32) + 5 * nI k + nI s = nI (6 + (5 * k + s)) := n5s 6 k s
  have e2 : (36 : Int32) + 5 * nI k + nI s = nI (36 + (5 * k + s)) := n5s 36 k s
  have w1 : wr σ 5 (6 + (5 * k + s)) (nI h) 5 k = nI s := by rw [wr_place (by omega)]; exact h0
  have w2 : wr (wr σ 5 (6 + (5 * k + s)) (nI h)) 5 (36 + (5 * k + s)) (nI m) 5 k = nI s := by rw [wr_place (by omega)]; exact w1
  have i1 : inb (nI k) 81 = true := inb_nI (by omega) (by decide)
  have i2 : inb (nI (6 + (5 * k + s))) 81 = true := inb_nI (by omega) (by decide)
  have i3 : inb (nI (36 + (5 * k + s))) 81 = true := inb_nI (by omega) (by decide)
  refine ⟨wr (wr (wr σ 5 (6 + (5 * k + s)) (nI h)) 5 (36 + (5 * k + s)) (nI m)) 5 k (nI (s + 1)), ?_, fun q hq => ?_, fun q => ?_⟩
  · rw [e_X7_adds_readNow, z0, if_pos i1, nI_clamp (n := k) (by omega), h0, e1, if_pos i2, if_pos i1, nI_clamp (n := 6 + (5 * k + s)) (by omega), w1, e2, if_pos i3, if_pos i1, if_pos i1, nI_clamp (n := 36 + (5 * k + s)) (by omega), w2, nI_1]
  · funext j; rw [wr_cell hq, wr_cell hq, wr_cell hq]
  · rw [wr_at, wr_at, wr_at]
    simp only [true_and]
    by_cases c1 : q = k
    · rw [if_pos c1, if_pos c1]
    · rw [if_neg c1, if_neg c1]
      by_cases c2 : q = 6 + (5 * k + s)
      · rw [if_neg (by omega), if_pos c2, if_pos c2]
      · rw [if_neg c2, if_neg c2]
theorem dr_ad {i h m : Nat} (hD : Dr D M G) (hi : i < G 0 0) (hs : G 4 i < 5) (h1 : 100 ≤ h) (h2 : h ≤ 1400) (m1 : 1 ≤ m) (m2 : m ≤ 30) (g : ∀ c, c ≠ 7 → c ≠ 8 → c ≠ 9 → D' c = D c) (g4 : ∀ q, D' 7 q = if q = i then nI (G 4 i + 1) else D 7 q) (g5 : ∀ q, D' 8 q = if q = 5 * i + G 4 i then nI h else D 8 q) (g6 : ∀ q, D' 9 q = if q = 5 * i + G 4 i then nI m else D 9 q) (k3 : M' 3 = M 3) (k5 : ∀ q, M' 5 q = if q = i then nI (G 4 i + 1) else if q = 6 + (5 * i + G 4 i) then nI h else if q = 36 + (5 * i + G 4 i) then nI m else M 5 q) : Dr D' M' (adF G i h m) := by
  obtain ⟨hO, hX, hM, h10, h72⟩ := hD
  have b6 := hO.1
  refine ⟨ok_ad hO hi hs h1 h2 m1 m2, xf_ad (b := 3) hO hX hi hs g g4 g5 g6, by rw [k3]; exact mf_ad hO hM hi hs k5, fun q hq => ?_, fun q hq => ?_⟩
  · rw [ad_o (by decide) (by decide) (by decide)]
    rw [ad_o (by decide) (by decide) (by decide)] at hq
    exact h10 q hq
  · rw [ad_o (by decide) (by decide) (by decide), k5, if_neg (by omega), if_neg (by omega), if_neg (by omega)]
    refine ⟨(h72 q hq).1, fun h9 => ?_⟩
    rw [k5, if_neg (by omega), if_neg (by omega), if_neg (by omega)]
    exact (h72 q hq).2 h9
theorem p_step (h : SY D M c L G s) (hk : tkK c L s ≠ 0) : Out (f_X4_readStep [.inr (.inl 0)] D) (f_X7_readStep [.inr (.inl 0)] M) D M c L s G := by
  obtain ⟨N, hN⟩ := big5
  have hgt := (tkE_gt (c := c) h.2.1 hk).2
  obtain ⟨M1, g1, hLA, g3⟩ := la_next h
  rw [e_X4_readStep, e_X7_readStep, hN, g1, onV_s]
  rcases p_name hLA with ⟨D1, v, a1, a2, a3, a4, a5, a6⟩ | ⟨D', M', a1, a2, a3⟩
  · have q15 := a4.1.2.2.2
    have hO := a4.1.2.1.1
    have b6 := hO.1
    have f14 : FM M (wr M1 0 14 (nI v)) := FM_trans (FM_fr g3) ⟨fun q a _ _ => by funext i; exact wr_cell a, fun j a => wr_place (by omega)⟩
    obtain ⟨r, f1, f2, f3⟩ := p_find a4.1.2.1 (nI v)
    rw [a1, onI_s, if_neg (show ¬ (1 : Int32) = 0 by decide), a2, onV_s, if_pos q15, wr_same, a3, f1, onI_s, putC_id, f2, onI_s, e_X7_readStep_30]
    rcases f3 with rfl | ⟨k, hk', rfl⟩
    · right
      have he := er_15 (M := wr M1 0 14 (nI v)) (y := -13) (by decide)
      rw [if_pos rfl, e_X4_fail, onI_s, if_pos (Or.inl rfl), if_pos rfl, e_X7_readStep_42, mf_if1 q15, onV_s, if_neg he]
      exact ⟨_, _, rfl, rfl, fl_o (fl_mk a4.2.2.1.2.1 a4.2.2.2.2.1 (by decide)) (a6.1 3 (by omega)) f14⟩
    · have hn : ¬ nI k = -1 := ne_m1 (by omega)
      have i6 : inb (nI k) 6 = true := inb_nI (by omega) (by decide)
      have i81 : inb (nI k) 81 = true := inb_nI (by omega) (by decide)
      have b5 := (hO.2.2.1 k hk').2.2.1
      have ex : pk (sgC 3 11) D1 4 k = nI (G 4 k) := (a4.1.2.1.2.1.2.2.1 k hk').2.2.1
      have em : wr M1 0 14 (nI v) 5 k = nI (G 4 k) := by
        have := (a4.1.2.1.2.2.1.2.2.1 k hk').2.2.1
        rwa [Nat.zero_add] at this
      rw [if_neg hn, if_neg hn, if_pos i6, nI_clamp (by omega), ex, e_X7_readStep_42, mf_if0 q15, onV_s, if_pos q15, z0, if_pos i81, nI_clamp (by omega), em]
      by_cases h5 : G 4 k < 5
      · obtain ⟨M3, g4, hLA2, g5⟩ := la_next a4
        rw [if_pos (show nI (G 4 k) < 5 from nI_lt (b := 5) h5 (by decide)), if_neg (show ¬ nI (G 4 k) = 5 from fun h9 => by have := (nI_eq (b := 5) (by omega) (by decide)).mp h9; omega), e_X7_readStep_73, mf_if0 q15, onV_s, g4, onV_s]
        rcases p_num2 (lo1 := 100) (hi1 := 1400) (lo2 := 1) (hi2 := 30) (by decide) (by decide) (by decide) (by decide) hLA2 with ⟨D2, D3, M4, M5, m, w, p', c1, c2, c3, c4, v1, v2, w1, w2, c5, c6, c7, c8, c9, c10⟩ | ⟨D', M4, M', z1, z2, c1, c2, c3, c4⟩
        · left
          have c1' : f_X4_readNumber [.inr (.inl 0), .inl 100, .inl 1400] D1 = _ := c1
          have c2' : f_X4_readNumber [.inr (.inl 0), .inl 1, .inl 30] D2 = _ := c2
          have c3' : f_X7_integer [.inr (.inl 0), .inl 100, .inl 1400] M3 = _ := c3
          have c4' : f_X7_integer [.inr (.inl 0), .inl 1, .inl 30] M4 = _ := c4
          have d1 : pk (sgC 3 11) D3 4 k = nI (G 4 k) := (c7.1.2.1.2.1.2.2.1 k hk').2.2.1
          have n1 : M5 5 k = nI (G 4 k) := by
            have := (c7.1.2.1.2.2.1.2.2.1 k hk').2.2.1
            rwa [Nat.zero_add] at this
          obtain ⟨M6, s1, s2, s3⟩ := ma_adds5 (h := m) (m := w) (show k < 6 by omega) h5 n1
          have t1 := xa_adds (h := m) (m := w) (show k < 6 by omega) h5 d1
          rw [c1', onI_s, if_neg (show ¬ (1 : Int32) = 0 by decide), c2', onI_s, if_neg (show ¬ (1 : Int32) = 0 by decide), c5, c6, t1, onV_s, c3', onI_s, c4', onI_s, if_pos c7.1.2.2.2, s1, onV_s]
          generalize hτ : wr (wr (wr (pk (sgC 3 11) D3) 5 (5 * k + G 4 k) (nI m)) 6 (5 * k + G 4 k) (nI w)) 4 k (nI (G 4 k + 1)) = τ
          have gX : ∀ q, q < 3 → put (sgC 3 11) D3 τ q = D3 q := fun q hq => putC_out (by omega)
          have tg : ∀ d, d < 11 → put (sgC 3 11) D3 τ (3 + d) = τ d := fun d hd => putC_in hd
          have gG : ∀ q, adF G k m w 11 q = G 11 q ∧ adF G k m w 12 q = G 12 q := fun q => ⟨ad_o (by decide) (by decide) (by decide) q, ad_o (by decide) (by decide) (by decide) q⟩
          refine ⟨_, _, adF G k m w, p', rfl, rfl, la_dr c7 gX (fun q _ h2 => s2 q h2) gG (dr_ad c7.1.2.1 hk' h5 v1 v2 w1 w2 (fun q q1 q2 q3 => ?_) (fun q => ?_) (fun q => ?_) (fun q => ?_) (s2 3 (by decide)) s3), by omega, FX_trans (FX_fr (FrX_trans a6 c9)) (out_dr c7 gX), FM_trans (FM_trans f14 (FM_fr (FrM_trans g5 c10))) (FM_dr (fun q _ h2 => s2 q h2)), gok_o gG⟩
          · by_cases hq : 3 ≤ q ∧ q < 14
            · obtain ⟨d, rfl⟩ : ∃ d, q = 3 + d := ⟨q - 3, by omega⟩
              rw [tg d (by omega), ← hτ]
              funext i
              rw [wr_cell (by omega), wr_cell (by omega), wr_cell (by omega), pkC]
            · exact putC_out (by omega)
          · rw [tg 4 (by decide), ← hτ, wr_at]
            simp only [true_and]
            by_cases e : q = k
            · rw [if_pos e, if_pos e]
            · rw [if_neg e, if_neg e, wr_cell (by decide), wr_cell (by decide), pkC]
          · rw [tg 5 (by decide), ← hτ, wr_cell (by decide), wr_cell (by decide), wr_at]
            simp only [true_and]
            by_cases e : q = 5 * k + G 4 k
            · rw [if_pos e, if_pos e]
            · rw [if_neg e, if_neg e, pkC]
          · rw [tg 6 (by decide), ← hτ, wr_cell (by decide), wr_at]
            simp only [true_and]
            by_cases e : q = 5 * k + G 4 k
            · rw [if_pos e, if_pos e]
            · rw [if_neg e, if_neg e, wr_cell (by decide), pkC]
        · right
          have c2' : f_X7_integer [.inr (.inl 0), .inl 100, .inl 1400] M3 = _ := c2
          have c3' : f_X7_integer [.inr (.inl 0), .inl 1, .inl 30] M4 = _ := c3
          rw [c2', onI_s, c3', onI_s, if_neg (fl_er c4.1)]
          refine ⟨D', M', ?_, rfl, fl_o c4 (a6.1 3 (by omega)) (FM_trans f14 (FM_fr g5))⟩
          rcases c1 with c1 | ⟨D2, c1, b1⟩
          · have c1' : f_X4_readNumber [.inr (.inl 0), .inl 100, .inl 1400] D1 = _ := c1
            rw [c1', onI_s, if_pos rfl]
          · have c1' : f_X4_readNumber [.inr (.inl 0), .inl 100, .inl 1400] D1 = _ := c1
            have b1' : f_X4_readNumber [.inr (.inl 0), .inl 1, .inl 30] D2 = _ := b1
            rw [c1', onI_s, if_neg (show ¬ (1 : Int32) = 0 by decide), b1', onI_s, if_pos rfl]
      · right
        have e5 : G 4 k = 5 := by omega
        have he := er_15 (M := wr M1 0 14 (nI v)) (y := -15) (by decide)
        rw [e5, if_neg (by decide), if_pos (by decide), e_X4_fail, onI_s, if_pos (Or.inl rfl), e_X7_readStep_73, mf_if1 q15, onV_s, mg_E he, onV_s, mi_E he, onI_s, mi_E he, onI_s, if_neg he]
        exact ⟨_, _, rfl, rfl, fl_o (fl_mk a4.2.2.1.2.1 a4.2.2.2.2.1 (by decide)) (a6.1 3 (by omega)) f14⟩
  · right
    have he := fl_er a3.1
    rw [a1, onI_s, if_pos rfl, a2, onV_s, if_neg he, e_X7_readStep_30, if_neg (by decide), e_X7_readStep_42, mf_ifE he, onV_s, if_neg he]
    exact ⟨_, _, rfl, rfl, fl_o a3 rfl (FM_fr g3)⟩
end READ4
