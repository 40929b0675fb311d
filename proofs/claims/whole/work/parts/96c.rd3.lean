/-! an iron, a place, a step are read -/
def plF (G : Fg) (v w : Nat) : Fg := fun c q => if c = 0 ∧ q = 1 then G 0 1 + 1 else if c = 7 ∧ q = G 0 1 then v else if c = 8 ∧ q = G 0 1 then w else G c q
def irF (G : Fg) (v m w : Nat) : Fg := fun c q => if c = 0 ∧ q = 0 then G 0 0 + 1 else if q = G 0 0 ∧ c = 1 then v else if q = G 0 0 ∧ c = 2 then m else if q = G 0 0 ∧ c = 3 then w else if q = G 0 0 ∧ c = 4 then 0 else if q = G 0 0 ∧ c = 10 then G 0 0 else G c q
section READ3
variable {D M D' M' D'' M'' : Mm} {c : Nat → Nat} {L p s e : Nat} {G G' : Fg} {y : Int32} {v m w : Nat}
theorem la_dr (h : LA D M c L G p) (gX : ∀ q, q < 3 → D' q = D q) (gM : ∀ q, q ≠ 3 → q ≠ 5 → M' q = M q) (hG : ∀ q, G' 11 q = G 11 q ∧ G' 12 q = G 12 q) (hD : Dr D' M' G') : LA D' M' c L G' p := by
  obtain ⟨⟨⟨t1, t2, t3, t4, t5⟩, _, ⟨f0, f3⟩, h15⟩, hp, h7, hM⟩ := h
  refine ⟨⟨⟨t1, ?_, ?_, ?_, ?_⟩, hD, ⟨fun t ht => ?_, ?_⟩, ?_⟩, hp, ?_, ?_⟩
  · rw [gX 0 (by decide)]; exact t2
  · rw [gM 0 (by decide) (by decide)]; exact t3
  · rw [gX 1 (by decide)]; exact t4
  · rw [gM 1 (by decide) (by decide)]; exact t5
  · rw [gX 2 (by decide), (hG t).1]; exact f0 t ht
  · rw [gM 0 (by decide) (by decide), (hG 0).2]; exact f3
  · rw [gM 0 (by decide) (by decide)]; exact h15
  · rw [gX 0 (by decide)]; exact h7
  · unfold MTs at hM ⊢
    rw [gM 0 (by decide) (by decide)]; exact hM
theorem gok_o (hG : ∀ q, G' 11 q = G 11 q ∧ G' 12 q = G 12 q) (h : Gok G) : Gok G' := by
  unfold Gok at h ⊢
  rw [(hG 0).1, (hG 1).1, (hG 2).1, (hG 0).2]
  exact h
theorem out_dr (h : LA D M c L G p) (gX : ∀ q, q < 3 → D' q = D q) : FX D D' := ⟨by rw [gX 0 (by decide)], by rw [gX 0 (by decide)]⟩
theorem FM_dr (gM : ∀ q, q ≠ 3 → q ≠ 5 → M' q = M q) : FM M M' := ⟨fun q _ a b => gM q a b, fun j _ => by rw [gM 0 (by decide) (by decide)]⟩
/-! names -/
theorem mg_findr {σ : Mm} {y : Int32} {m : Nat} (hm : m ≤ 6) (h0 : σ 3 18 = nI m) : ∀ (c j N : Nat), j + c = m → c < N → b_X7_found_2_read N y (nI j) σ = some (some (some (.inl (fdA (σ 3) y c j))), σ) := by
  intro c
  induction c with
  | zero =>
    intro j N hj hN
    obtain ⟨N, rfl⟩ : ∃ N', N = N' + 1 := ⟨N - 1, by omega⟩
    rw [e_X7_found_2_read, h0, if_neg (nI_nlt (by omega) (by omega))]
    rfl
  | succ c ih =>
    intro j N hj hN
    obtain ⟨N, rfl⟩ : ∃ N', N = N' + 1 := ⟨N - 1, by omega⟩
    rw [e_X7_found_2_read, h0, if_pos (nI_lt (by omega) (by omega)), z0, if_pos (inb_nI (by omega) (by decide)), nI_clamp (by omega), nI_1, ih (j + 1) N (by omega) (by omega)]
    have e1 : fdA (σ 3) y (c + 1) j = if σ 3 j = y then nI j else fdA (σ 3) y c (j + 1) := rfl
    rw [e1]
    by_cases e : σ 3 j = y
    · rw [if_pos e, if_pos e]
    · rw [if_neg e, if_neg e]
theorem fd_val {r : Nat → Int32} {y : Int32} : ∀ (c j : Nat), fdA r y c j = -1 ∨ ∃ k, k < j + c ∧ fdA r y c j = nI k
  | 0, _ => Or.inl rfl
  | c + 1, j => by
    have e1 : fdA r y (c + 1) j = if r j = y then nI j else fdA r y c (j + 1) := rfl
    rw [e1]
    by_cases e : r j = y
    · rw [if_pos e]
      exact Or.inr ⟨j, by omega, rfl⟩
    · rw [if_neg e]
      rcases fd_val c (j + 1) with h | ⟨k, h1, h2⟩
      · exact Or.inl h
      · exact Or.inr ⟨k, by omega, h2⟩
theorem p_find (h : Dr D M G) (y : Int32) : ∃ r, f_X2_findName [.inr (.inl 0), .inl y] (pk (sgC 3 11) D) = some (some (some (.inl r)), pk (sgC 3 11) D) ∧ f_X7_found [.inr (.inl 3), .inl y] M = some (some (some (.inl r)), M) ∧ (r = -1 ∨ ∃ k, k < G 0 0 ∧ r = nI k) := by
  obtain ⟨hO, hX, hM, -, -⟩ := h
  have h6 := hO.1
  have a1 := xg_find (φ := pk (sgC 3 11) D) (y := y) h6 hX.1 (G 0 0) 0 bigM (by omega) (by unfold bigM; omega)
  have a2 := mg_findr (σ := M) (y := y) h6 hM.1 (G 0 0) 0 bigM (by omega) (by unfold bigM; omega)
  have a1' : b_X2_findName_2 bigM y 0 (pk (sgC 3 11) D) = _ := a1
  have a2' : b_X7_found_2_read bigM y 0 M = _ := a2
  refine ⟨fdA (M 3) y (G 0 0) 0, ?_, by rw [e_X7_found_read, a2'], ?_⟩
  · rw [e_X2_findName, a1', fd_cg (r := M 3) (G 0 0) 0 (fun i _ hi => ?_)]
    have e1 : pk (sgC 3 11) D 1 i = nI (G 1 i) := (hX.2.2.1 i (by omega)).2.2.2.2.2
    rw [e1]
    exact ((hM.2.2.1 i (by omega)).2.2.2.2.2).symm
  · rcases fd_val (r := M 3) (y := y) (G 0 0) 0 with h | ⟨k, h1, h2⟩
    · exact Or.inl h
    · exact Or.inr ⟨k, by omega, h2⟩
/-! a place more -/
theorem pl_01 : plF G v w 0 1 = G 0 1 + 1 := rfl
theorem pl_o {c q : Nat} (h0 : c ≠ 0) (h7 : c ≠ 7) (h8 : c ≠ 8) : plF G v w c q = G c q := by
  unfold plF
  rw [if_neg (fun h9 => h0 h9.1), if_neg (fun h9 => h7 h9.1), if_neg (fun h9 => h8 h9.1)]
theorem pl_00 : plF G v w 0 0 = G 0 0 := rfl
theorem pl_7 (q : Nat) : plF G v w 7 q = if q = G 0 1 then v else G 7 q := by
  unfold plF
  rw [if_neg (fun h9 => absurd h9.1 (by decide))]
  by_cases e : q = G 0 1
  · rw [if_pos ⟨rfl, e⟩, if_pos e]
  · rw [if_neg (fun h9 => e h9.2), if_neg (fun h9 => e h9.2), if_neg e]
theorem pl_8 (q : Nat) : plF G v w 8 q = if q = G 0 1 then w else G 8 q := by
  unfold plF
  rw [if_neg (fun h9 => absurd h9.1 (by decide)), if_neg (fun h9 => absurd h9.1 (by decide))]
  by_cases e : q = G 0 1
  · rw [if_pos ⟨rfl, e⟩, if_pos e]
  · rw [if_neg (fun h9 => e h9.2), if_neg e]
theorem dr_pl (h : Dr D M G) (h3 : G 0 1 < 3) (v1 : 1 ≤ v) (v2 : v ≤ 2000) (w1 : 100 ≤ w) (w2 : w ≤ 1500) (g : ∀ q, q ≠ 3 → q ≠ 10 → q ≠ 11 → D' q = D q) (g0 : D' 3 0 = D 3 0) (g1 : D' 3 1 = nI (G 0 1 + 1)) (g7 : ∀ q, D' 10 q = if q = G 0 1 then nI v else D 10 q) (g8 : ∀ q, D' 11 q = if q = G 0 1 then nI w else D 11 q) (k3 : ∀ q, q ≠ 19 → M' 3 q = M 3 q) (k19 : M' 3 19 = nI (G 0 1 + 1)) (k5 : ∀ q, M' 5 q = if q = 69 + G 0 1 then nI w else if q = 66 + G 0 1 then nI v else M 5 q) : Dr D' M' (plF G v w) := by
  obtain ⟨hO, hX, hM, h10, h72⟩ := h
  have b6 := hO.1
  have e1 : ∀ q, plF G v w 1 q = G 1 q := fun q => pl_o (by decide) (by decide) (by decide)
  have e2 : ∀ q, plF G v w 2 q = G 2 q := fun q => pl_o (by decide) (by decide) (by decide)
  have e3 : ∀ q, plF G v w 3 q = G 3 q := fun q => pl_o (by decide) (by decide) (by decide)
  have e4 : ∀ q, plF G v w 4 q = G 4 q := fun q => pl_o (by decide) (by decide) (by decide)
  have e5 : ∀ q, plF G v w 5 q = G 5 q := fun q => pl_o (by decide) (by decide) (by decide)
  have e6 : ∀ q, plF G v w 6 q = G 6 q := fun q => pl_o (by decide) (by decide) (by decide)
  have e9 : ∀ q, plF G v w 9 q = G 9 q := fun q => pl_o (by decide) (by decide) (by decide)
  have e10 : ∀ q, plF G v w 10 q = G 10 q := fun q => pl_o (by decide) (by decide) (by decide)
  refine ⟨?_, ?_, ?_, ?_, ?_⟩
  · obtain ⟨a1, a2, a3, a4, a5, a6, a7, a8, a9⟩ := hO
    unfold OkF
    simp only [pl_00, pl_01, e2, e3, e4, e5, e6, e9, e10, pl_7, pl_8]
    refine ⟨a1, by omega, a3, a4, fun j hj => ?_, a6, a7, a8, a9⟩
    by_cases e : j = G 0 1
    · rw [if_pos e, if_pos e]
      exact ⟨⟨v1, v2⟩, ⟨w1, w2⟩⟩
    · rw [if_neg e, if_neg e]
      exact a5 j (by omega)
  · obtain ⟨x1, x2, x3, x4, x5⟩ := hX
    unfold XF
    simp only [pl_00, pl_01, e1, e2, e3, e4, e5, e6, e9, e10, pl_7, pl_8]
    refine ⟨g0.trans x1, g1, fun i hi => ?_, fun j hj => ?_, fun t ht => ?_⟩
    · rw [g (3 + 2) (by decide) (by decide) (by decide), g (3 + 3) (by decide) (by decide) (by decide), g (3 + 4) (by decide) (by decide) (by decide), g (3 + 10) (by decide) (by decide) (by decide), g (3 + 5) (by decide) (by decide) (by decide), g (3 + 6) (by decide) (by decide) (by decide), g (3 + 1) (by decide) (by decide) (by decide)]
      exact x3 i hi
    · refine ⟨(g7 j).trans ?_, (g8 j).trans ?_⟩
      · by_cases e : j = G 0 1
        · rw [if_pos e, if_pos e]
        · rw [if_neg e, if_neg e]
          exact (x4 j (by omega)).1
      · by_cases e : j = G 0 1
        · rw [if_pos e, if_pos e]
        · rw [if_neg e, if_neg e]
          exact (x4 j (by omega)).2
    · rw [g (3 + 9) (by decide) (by decide) (by decide)]
      exact x5 t ht
  · unfold MF at hM ⊢
    simp only [Nat.zero_add, pl_00, pl_01, e1, e2, e3, e4, e5, e6, e9, e10, pl_7, pl_8] at hM ⊢
    obtain ⟨x1, x2, x3, x4, x5⟩ := hM
    refine ⟨(k3 18 (by decide)).trans x1, k19, fun i hi => ?_, fun j hj => ?_, fun t ht => ?_⟩
    · obtain ⟨y1, y2, y3, y4, y5, y6⟩ := x3 i hi
      have b5 := (hO.2.2.1 i hi).2.2.1
      refine ⟨(k3 _ (by omega)).trans y1, (k3 _ (by omega)).trans y2, ?_, ?_, fun s hs => ?_, (k3 _ (by omega)).trans y6⟩
      · rw [k5, if_neg (by omega), if_neg (by omega)]; exact y3
      · rw [k5, if_neg (by omega), if_neg (by omega)]; exact y4
      · refine ⟨?_, ?_⟩
        · rw [k5, if_neg (by omega), if_neg (by omega)]; exact (y5 s hs).1
        · rw [k5, if_neg (by omega), if_neg (by omega)]; exact (y5 s hs).2
    · refine ⟨?_, ?_⟩
      · rw [k5, if_neg (by omega)]
        by_cases e : j = G 0 1
        · rw [if_pos (by omega), if_pos e]
        · rw [if_neg (by omega), if_neg e]
          exact (x4 j (by omega)).1
      · rw [k5]
        by_cases e : j = G 0 1
        · rw [if_pos (by omega), if_pos e]
        · rw [if_neg (by omega), if_neg (by omega), if_neg e]
          exact (x4 j (by omega)).2
    · rw [k5, if_neg (by omega), if_neg (by omega)]
      exact x5 t ht
  · intro i hi
    rw [e10]
    exact h10 i hi
  · intro k hk
    rw [pl_00, k5, k5, if_neg (by omega), if_neg (by omega), if_neg (by omega), if_neg (by omega)]
    exact h72 k hk
theorem p_place (h : SY D M c L G s) (hk : tkK c L s ≠ 0) : Out (f_X4_readPlace [.inr (.inl 0)] D) (f_X7_readPlace [.inr (.inl 0)] M) D M c L s G := by
  obtain ⟨N, hN⟩ := big5
  have hgt := (tkE_gt (c := c) h.2.1 hk).2
  have hD := h.1.2.1
  have h15 := h.1.2.2.2
  have hO := hD.1
  have b3 := hO.2.1
  have x1 : D 3 1 = nI (G 0 1) := hD.2.1.2.1
  have m1 : M 3 19 = nI (G 0 1) := hD.2.2.1.2.1
  rw [e_X4_readPlace, x1, e_X7_readPlace, m1, hN]
  by_cases h3 : G 0 1 < 3
  · obtain ⟨M1, g1, hLA, g3⟩ := la_next h
    rw [if_pos (show nI (G 0 1) < 3 from nI_lt (b := 3) h3 (by decide)), if_neg (show ¬ nI (G 0 1) = 3 from fun h9 => by have := (nI_eq (b := 3) (by omega) (by decide)).mp h9; omega), e_X7_readPlace_17, mf_if0 h15, onV_s, g1, onV_s]
    rcases p_num2 (lo1 := 1) (hi1 := 2000) (lo2 := 100) (hi2 := 1500) (by decide) (by decide) (by decide) (by decide) hLA with ⟨D1, D2, M2, M3, v, w, p', a1, a2, a3, a4, v1, v2, w1, w2, a5, a6, a7, a8, a9, a10⟩ | ⟨D', M2, M', z1, z2, a1, a2, a3, a4⟩
    · left
      have a1' : f_X4_readNumber [.inr (.inl 0), .inl 1, .inl 2000] D = _ := a1
      have a2' : f_X4_readNumber [.inr (.inl 0), .inl 100, .inl 1500] D1 = _ := a2
      have a3' : f_X7_integer [.inr (.inl 0), .inl 1, .inl 2000] M1 = _ := a3
      have a4' : f_X7_integer [.inr (.inl 0), .inl 100, .inl 1500] M2 = _ := a4
      have d1 : pk (sgC 3 11) D2 0 1 = nI (G 0 1) := a7.1.2.1.2.1.2.1
      have n1 : M3 3 19 = nI (G 0 1) := a7.1.2.1.2.2.1.2.1
      have i1 : inb (nI (G 0 1)) 3 = true := inb_nI h3 (by decide)
      rw [a1', onI_s, if_neg (show ¬ (1 : Int32) = 0 by decide), a2', onI_s, if_neg (show ¬ (1 : Int32) = 0 by decide), a5, a6, e_X2_appendPlace, d1, if_pos i1, if_pos i1, nI_clamp (by omega), nI_1, onV_s, a3', onI_s, a4', onI_s, if_pos a7.1.2.2.2, n1, n66, n69, if_pos (inb_nI (by omega) (by decide)), if_pos (inb_nI (by omega) (by decide)), nI_clamp (by omega), nI_clamp (by omega), nI_1]
      have gX : ∀ q, q < 3 → put (sgC 3 11) D2 (wr (wr (wr (pk (sgC 3 11) D2) 7 (G 0 1) (nI v)) 8 (G 0 1) (nI w)) 0 1 (nI (G 0 1 + 1))) q = D2 q := fun q hq => putC_out (by omega)
      have gM : ∀ q, q ≠ 3 → q ≠ 5 → wr (wr (wr M3 5 (66 + G 0 1) (nI v)) 5 (69 + G 0 1) (nI w)) 3 19 (nI (G 0 1 + 1)) q = M3 q := fun q h1 h2 => by
        funext i
        rw [wr_cell h1, wr_cell h2, wr_cell h2]
      have tg : ∀ d, d < 11 → put (sgC 3 11) D2 (wr (wr (wr (pk (sgC 3 11) D2) 7 (G 0 1) (nI v)) 8 (G 0 1) (nI w)) 0 1 (nI (G 0 1 + 1))) (3 + d) = (wr (wr (wr (pk (sgC 3 11) D2) 7 (G 0 1) (nI v)) 8 (G 0 1) (nI w)) 0 1 (nI (G 0 1 + 1))) d := fun d hd => putC_in hd
      have gG : ∀ q, plF G v w 11 q = G 11 q ∧ plF G v w 12 q = G 12 q := fun q => ⟨pl_o (by decide) (by decide) (by decide), pl_o (by decide) (by decide) (by decide)⟩
      refine ⟨_, _, plF G v w, p', rfl, rfl, la_dr a7 gX gM gG (dr_pl a7.1.2.1 h3 v1 v2 w1 w2 (fun q q1 q2 q3 => ?_) ?_ ?_ (fun q => ?_) (fun q => ?_) (fun q hq => ?_) wr_same (fun q => ?_)), by omega, FX_trans (FX_fr a9) (out_dr a7 gX), FM_trans (FM_fr (FrM_trans g3 a10)) (FM_dr gM), gok_o gG⟩
      · by_cases hq : 3 ≤ q ∧ q < 14
        · obtain ⟨d, rfl⟩ : ∃ d, q = 3 + d := ⟨q - 3, by omega⟩
          rw [tg d (by omega)]
          funext i
          rw [wr_cell (by omega), wr_cell (by omega), wr_cell (by omega), pkC]
        · exact putC_out (by omega)
      · rw [tg 0 (by decide), wr_place (by decide), wr_cell (by decide), wr_cell (by decide), pkC]
      · rw [tg 0 (by decide), wr_same]
      · rw [tg 7 (by decide), wr_cell (by decide), wr_cell (by decide), wr_at]
        simp only [true_and]
        by_cases e : q = G 0 1
        · rw [if_pos e, if_pos e]
        · rw [if_neg e, if_neg e, pkC]
      · rw [tg 8 (by decide), wr_cell (by decide), wr_at]
        simp only [true_and]
        by_cases e : q = G 0 1
        · rw [if_pos e, if_pos e]
        · rw [if_neg e, if_neg e, wr_cell (by decide), pkC]
      · rw [wr_place hq, wr_cell (by decide), wr_cell (by decide)]
      · rw [wr_cell (by decide), wr_at, wr_at]
        simp only [true_and]
    · right
      have a2' : f_X7_integer [.inr (.inl 0), .inl 1, .inl 2000] M1 = _ := a2
      have a3' : f_X7_integer [.inr (.inl 0), .inl 100, .inl 1500] M2 = _ := a3
      rw [a2', onI_s, a3', onI_s, if_neg (fl_er a4.1)]
      refine ⟨D', M', ?_, rfl, fl_o a4 rfl (FM_fr g3)⟩
      rcases a1 with a1 | ⟨D1, a1, b1⟩
      · have a1' : f_X4_readNumber [.inr (.inl 0), .inl 1, .inl 2000] D = _ := a1
        rw [a1', onI_s, if_pos rfl]
      · have a1' : f_X4_readNumber [.inr (.inl 0), .inl 1, .inl 2000] D = _ := a1
        have b1' : f_X4_readNumber [.inr (.inl 0), .inl 100, .inl 1500] D1 = _ := b1
        rw [a1', onI_s, if_neg (show ¬ (1 : Int32) = 0 by decide), b1', onI_s, if_pos rfl]
  · right
    have e3 : G 0 1 = 3 := by omega
    have he := er_15 (M := M) (y := -15) (by decide)
    rw [e3, if_neg (by decide), e_X4_fail, onI_s, if_pos (Or.inl rfl), if_pos (by decide), e_X7_readPlace_17, mf_if1 h15, onV_s, mg_E he, onV_s, mi_E he, onI_s, mi_E he, onI_s, if_neg he]
    exact ⟨_, _, rfl, rfl, fl_mk h.2.2.1.2.1 h.2.2.2.2.1 (by decide)⟩
end READ3
