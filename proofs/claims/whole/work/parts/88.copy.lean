/-! a forge is copied; the best order -/
section COPY
variable {σ μ : Mm} {F : Fg}
theorem cpm_d {q0 q1 i N : Nat} {d : Int32} (hd : d.toNatClampNeg = N) (h : i < N) : cpm σ q0 q1 0 0 d q1 i = σ q0 i := by
  unfold cpm va_up
  rw [if_pos rfl, hd]
  unfold va_cpy
  have e0 : (0 : Int32).toNatClampNeg = 0 := by decide
  rw [e0, if_pos (by omega)]
  congr 1
  omega
theorem cpR_src {c : Nat} (h : 11 ≤ c) : cpR μ c = μ c := by
  unfold cpR
  rw [cpm_o (by omega), cpm_o (by omega), cpm_o (by omega), cpm_o (by omega), cpm_o (by omega), cpm_o (by omega), cpm_o (by omega), cpm_o (by omega), cpm_o (by omega), cpm_o (by omega)]
  funext i
  rw [wr_cell (by omega), wr_cell (by omega)]
theorem cpR_xf (hO : OkF F) (h : XF μ 11 F) : XF (cpR μ) 0 F := by
  have h6 := hO.1
  have h3 := hO.2.1
  have d6 : (6 : Int32).toNatClampNeg = 6 := by decide
  have d30 : (30 : Int32).toNatClampNeg = 30 := by decide
  have d3 : (3 : Int32).toNatClampNeg = 3 := by decide
  obtain ⟨x1, x2, x3, x4, x5⟩ := h
  unfold cpR
  refine ⟨?_, ?_, fun i hi => ?_, fun j hj => ?_, fun t ht => ?_⟩
  · rw [cpm_o (by decide), cpm_o (by decide), cpm_o (by decide), cpm_o (by decide), cpm_o (by decide), cpm_o (by decide), cpm_o (by decide), cpm_o (by decide), cpm_o (by decide), cpm_o (by decide), wr_place (by decide), wr_same]
    exact x1
  · rw [cpm_o (by decide), cpm_o (by decide), cpm_o (by decide), cpm_o (by decide), cpm_o (by decide), cpm_o (by decide), cpm_o (by decide), cpm_o (by decide), cpm_o (by decide), cpm_o (by decide), wr_same]
    exact x2
  · obtain ⟨y1, y2, y3, y4, y5, y6⟩ := x3 i hi
    have h5 := (hO.2.2.1 i hi).2.2.1
    refine ⟨?_, ?_, ?_, ?_, fun s hs => ⟨?_, ?_⟩, ?_⟩
    · rw [cpm_o (by decide), cpm_o (by decide), cpm_o (by decide), cpm_o (by decide), cpm_o (by decide), cpm_o (by decide), cpm_o (by decide), cpm_o (by decide), cpm_d d6 (by omega), cpm_o (by decide), wr_cell (by decide), wr_cell (by decide)]
      exact y1
    · rw [cpm_o (by decide), cpm_o (by decide), cpm_o (by decide), cpm_o (by decide), cpm_o (by decide), cpm_o (by decide), cpm_o (by decide), cpm_d d6 (by omega), cpm_o (by decide), cpm_o (by decide), wr_cell (by decide), wr_cell (by decide)]
      exact y2
    · rw [cpm_o (by decide), cpm_o (by decide), cpm_o (by decide), cpm_o (by decide), cpm_o (by decide), cpm_o (by decide), cpm_d d6 (by omega), cpm_o (by decide), cpm_o (by decide), cpm_o (by decide), wr_cell (by decide), wr_cell (by decide)]
      exact y3
    · rw [cpm_d d6 (by omega), cpm_o (by decide), cpm_o (by decide), cpm_o (by decide), cpm_o (by decide), cpm_o (by decide), cpm_o (by decide), cpm_o (by decide), cpm_o (by decide), cpm_o (by decide), wr_cell (by decide), wr_cell (by decide)]
      exact y4
    · rw [cpm_o (by decide), cpm_o (by decide), cpm_o (by decide), cpm_o (by decide), cpm_o (by decide), cpm_d d30 (by omega), cpm_o (by decide), cpm_o (by decide), cpm_o (by decide), cpm_o (by decide), wr_cell (by decide), wr_cell (by decide)]
      exact (y5 s hs).1
    · rw [cpm_o (by decide), cpm_o (by decide), cpm_o (by decide), cpm_o (by decide), cpm_d d30 (by omega), cpm_o (by decide), cpm_o (by decide), cpm_o (by decide), cpm_o (by decide), cpm_o (by decide), wr_cell (by decide), wr_cell (by decide)]
      exact (y5 s hs).2
    · rw [cpm_o (by decide), cpm_o (by decide), cpm_o (by decide), cpm_o (by decide), cpm_o (by decide), cpm_o (by decide), cpm_o (by decide), cpm_o (by decide), cpm_o (by decide), cpm_d d6 (by omega), wr_cell (by decide), wr_cell (by decide)]
      exact y6
  · obtain ⟨y1, y2⟩ := x4 j hj
    refine ⟨?_, ?_⟩
    · rw [cpm_o (by decide), cpm_o (by decide), cpm_o (by decide), cpm_d d3 (by omega), cpm_o (by decide), cpm_o (by decide), cpm_o (by decide), cpm_o (by decide), cpm_o (by decide), cpm_o (by decide), wr_cell (by decide), wr_cell (by decide)]
      exact y1
    · rw [cpm_o (by decide), cpm_o (by decide), cpm_d d3 (by omega), cpm_o (by decide), cpm_o (by decide), cpm_o (by decide), cpm_o (by decide), cpm_o (by decide), cpm_o (by decide), cpm_o (by decide), wr_cell (by decide), wr_cell (by decide)]
      exact y2
  · rw [cpm_o (by decide), cpm_d d3 (by omega), cpm_o (by decide), cpm_o (by decide), cpm_o (by decide), cpm_o (by decide), cpm_o (by decide), cpm_o (by decide), cpm_o (by decide), cpm_o (by decide), wr_cell (by decide), wr_cell (by decide)]
    exact x5 t ht
theorem pk2_hi {a b j : Nat} : pk (sg2 a b 11) σ (11 + j) = σ (b + j) := by
  unfold pk sg2
  have : Nat.blt (11 + j) 11 = false := by
    cases h : Nat.blt (11 + j) 11 with
    | false => rfl
    | true => have := Nat.blt_eq.mp h; omega
  show σ (cond (Nat.blt (11 + j) 11) (a + (11 + j)) (b + (11 + j - 11))) = _
  rw [this]
  show σ (b + (11 + j - 11)) = σ (b + j)
  congr 1
  omega
theorem put2_a {a b j : Nat} {τ : Mm} (h : j < 11) : put (sg2 a b 11) σ τ (a + j) = τ j := by
  unfold put sg2
  have h1 : (Nat.ble a (a + j) && Nat.blt (a + j) (a + 11)) = true := by
    rw [Bool.and_eq_true, Nat.ble_eq, Nat.blt_eq]
    omega
  show (match cond (Nat.ble a (a + j) && Nat.blt (a + j) (a + 11)) (some (a + j - a)) _ with | some j => τ j | none => σ (a + j)) = _
  rw [h1]
  show τ (a + j - a) = τ j
  congr 1
  omega
theorem put2_b {a b j : Nat} {τ : Mm} (hab : a + 11 ≤ b ∨ b + 11 ≤ a) (h : j < 11) : put (sg2 a b 11) σ τ (b + j) = τ (j + 11) := by
  unfold put sg2
  have h1 : (Nat.ble a (b + j) && Nat.blt (b + j) (a + 11)) = false := by
    cases h9 : (Nat.ble a (b + j) && Nat.blt (b + j) (a + 11)) with
    | false => rfl
    | true =>
      rw [Bool.and_eq_true, Nat.ble_eq, Nat.blt_eq] at h9
      omega
  have h2 : (Nat.ble b (b + j) && Nat.blt (b + j) (b + 11)) = true := by
    rw [Bool.and_eq_true, Nat.ble_eq, Nat.blt_eq]
    omega
  show (match cond (Nat.ble a (b + j) && Nat.blt (b + j) (a + 11)) (some (b + j - a)) (cond (Nat.ble b (b + j) && Nat.blt (b + j) (b + 11)) (some (b + j - b + 11)) none) with | some j => τ j | none => σ (b + j)) = _
  rw [h1, h2]
  show τ (b + j - b + 11) = τ (j + 11)
  congr 1
  omega
theorem put2_o {a b c : Nat} {τ : Mm} (h1 : c < a ∨ a + 11 ≤ c) (h2 : c < b ∨ b + 11 ≤ c) : put (sg2 a b 11) σ τ c = σ c := by
  unfold put sg2
  have g : ∀ q : Nat, (c < q ∨ q + 11 ≤ c) → (Nat.ble q c && Nat.blt c (q + 11)) = false := by
    intro q hq
    cases h9 : (Nat.ble q c && Nat.blt c (q + 11)) with
    | false => rfl
    | true =>
      rw [Bool.and_eq_true, Nat.ble_eq, Nat.blt_eq] at h9
      omega
  show (match cond (Nat.ble a c && Nat.blt c (a + 11)) (some (c - a)) (cond (Nat.ble b c && Nat.blt c (b + 11)) (some (c - b + 11)) none) with | some j => τ j | none => σ c) = _
  rw [g a h1, g b h2]
  rfl
theorem x_copy {a b : Nat} (hab : a + 11 ≤ b ∨ b + 11 ≤ a) (hO : OkF F) (h : XF σ b F) : ∃ τ, f_X2_copyFrom [.inr (.inl 0), .inr (.inl 11)] (pk (sg2 a b 11) σ) = some (some none, τ) ∧ XF (put (sg2 a b 11) σ τ) a F ∧ (∀ c, (c < a ∨ a + 11 ≤ c) → put (sg2 a b 11) σ τ c = σ c) := by
  refine ⟨cpR (pk (sg2 a b 11) σ), e_X2_copyFrom _, ?_, fun c hc => ?_⟩
  · have h1 : XF (pk (sg2 a b 11) σ) 11 F := by
      obtain ⟨x1, x2, x3, x4, x5⟩ := h
      have e : ∀ j i, pk (sg2 a b 11) σ (11 + j) i = σ (b + j) i := fun j i => by rw [pk2_hi]
      have e0 : ∀ i, pk (sg2 a b 11) σ 11 i = σ b i := e 0
      refine ⟨(e0 0).trans x1, (e0 1).trans x2, fun i hi => ?_, fun j hj => ?_, fun t ht => (e 9 t).trans (x5 t ht)⟩
      · obtain ⟨y1, y2, y3, y4, y5, y6⟩ := x3 i hi
        exact ⟨(e 2 i).trans y1, (e 3 i).trans y2, (e 4 i).trans y3, (e 10 i).trans y4, fun s hs => ⟨(e 5 _).trans (y5 s hs).1, (e 6 _).trans (y5 s hs).2⟩, (e 1 i).trans y6⟩
      · exact ⟨(e 7 j).trans (x4 j hj).1, (e 8 j).trans (x4 j hj).2⟩
    have h2 := cpR_xf hO h1
    refine XF_eq (φ := fun c => cpR (pk (sg2 a b 11) σ) (c - a)) (fun c j h3 h4 => ?_) ?_
    · obtain ⟨d, rfl⟩ : ∃ d, c = a + d := ⟨c - a, by omega⟩
      rw [put2_a (by omega), show a + d - a = d by omega]
    · have e : ∀ d, a + d - a = d := fun d => by omega
      obtain ⟨x1, x2, x3, x4, x5⟩ := h2
      unfold XF
      simp only [e, Nat.sub_self]
      simp only [Nat.zero_add] at x3 x4 x5
      exact ⟨x1, x2, x3, x4, x5⟩
  · by_cases hb : c < b ∨ b + 11 ≤ c
    · exact put2_o hc hb
    · obtain ⟨d, rfl⟩ : ∃ d, c = b + d := ⟨c - b, by omega⟩
      rw [put2_b hab (by omega), Nat.add_comm d 11, cpR_src (by omega), pk2_hi]
theorem xt_end {m : Nat} (hO : OkF F) (h : XF σ 57 F) (hm : m ≤ 480) : ∃ τ, f_X5_endWithin [.inr (.inl 0), .inl (nI m)] (pk (sgC 45 23) σ) = some (some (some (.inl (opI (fnA F m)))), τ) ∧ XF (put (sgC 45 23) σ τ) 57 F ∧ ∀ c, c < 45 → put (sgC 45 23) σ τ c = σ c := by
  have h' : XF (pk (sgC 45 23) σ) 12 F := h
  obtain ⟨τ, a1, x1⟩ := xf_end hO h' hm
  refine ⟨τ, a1, ?_, fun c hc => putC_out (by omega)⟩
  refine XF_eq (φ := fun c => τ (c - 45)) (fun c j h1 h2 => ?_) ?_
  · obtain ⟨d, rfl⟩ : ∃ d, c = 45 + d := ⟨c - 45, by omega⟩
    rw [putC_in (by omega), show 45 + d - 45 = d by omega]
  · exact x1
end COPY
section BEST
variable {x : Nat → Int32} {n : Nat} {ρ : Nat → Mm} {σX σM : Mm} {F : Fg}
theorem st_best (h : St n ρ σX σM F) : ∃ σX', f_X6_presentBest [.inr (.inl 0)] σX = some (some (some (.inr (.inl 43))), σX') ∧ St n ρ σX' σM F ∧ Bx (pk (sgC 43 25) σX') F (bsA F) := by
  obtain ⟨a, b, c, d, e⟩ := h
  rw [e_X6_presentBest]
  rcases c with c | ⟨c, l⟩
  · obtain ⟨τ1, c1, c2, c3⟩ := x_copy (a := 57) (b := 32) (by omega) a.1 a.2.1
    have hX : XF (pk (sgC 43 25) (put (sg2 57 32 11) σX τ1)) 14 F := c2
    obtain ⟨β', s1, s2⟩ := xs_search a.1 hX
    rw [if_pos c, c1, onV_s, s1, onV_s]
    have g : ∀ q, 1 ≤ q → q ≤ 42 → wr (put (sgC 43 25) (put (sg2 57 32 11) σX τ1) β') 0 8 1 q = σX q := fun q h1 h2 => by
      funext j
      rw [wr_cell (by omega), putC_out (by omega), c3 q (by omega)]
    have gb : Bx (pk (sgC 43 25) (wr (put (sgC 43 25) (put (sg2 57 32 11) σX τ1) β') 0 8 1)) F (bsA F) := by
      refine bx_eq ?_ ?_ s2
      · rw [pkC]; funext j; rw [wr_cell (by decide), putC_in (by omega)]
      · rw [pkC]; funext j; rw [wr_cell (by decide), putC_in (by omega)]
    refine ⟨_, rfl, ⟨co_x a (fun q h1 h2 => g q h1 (by omega)) (XF_eq (fun q j h1 h2 => by rw [g q (by omega) (by omega)]) a.2.1), ?_, Or.inr ⟨wr_same, gb⟩, d, e⟩, gb⟩
    unfold LG WL at b ⊢
    have e7 : wr (put (sgC 43 25) (put (sg2 57 32 11) σX τ1) β') 0 8 1 0 7 = σX 0 7 := by
      rw [wr_place (by decide), putC_out (by omega), c3 0 (by omega)]
    rw [e7]
    rcases b with b | ⟨b, l1, l2, l3, l4⟩
    · exact Or.inl b
    · refine Or.inr ⟨b, ?_, ?_, ?_, xr_ext (fun q hq => ?_) l4⟩
      · rw [pkC, g 17 (by omega) (by omega)]; exact l1
      · rw [pkC, g 18 (by omega) (by omega)]; exact l2
      · rw [pkC, g 19 (by omega) (by omega)]; exact l3
      · rw [pkC, pkC, pkC, pkC, g _ (by omega) (by omega)]
  · rw [if_neg (by rw [c]; decide)]
    exact ⟨σX, rfl, ⟨a, b, Or.inr ⟨c, l⟩, d, e⟩, l⟩
theorem st_try (h : St n ρ σX σM F) : ∃ σM', f_X7_tries [.inr (.inl 0)] σM = some (some none, σM') ∧ St n ρ σX σM' F ∧ Bm σM' F (bsA F) ∧ σM' 0 0 = σM 0 0 ∧ (∀ c, 1 ≤ c → c ≤ 6 → σM' c = σM c) := by
  obtain ⟨a, b, c, d, e⟩ := h
  obtain ⟨σM', r1, r2, r3, r4⟩ := mf_tries a.1 a.2.2.1 e
  have g : ∀ j, j = 0 ∨ j = 2 ∨ j = 8 ∨ j = 17 ∨ j = 37 → σM' 0 j = σM 0 j := fun j hj => r2.2 j (by omega) (by omega) (by omega) (by omega) (by omega) (by omega)
  refine ⟨σM', r1, ⟨co_m a (fun q h1 h2 => r2.1 q (by omega)) (g 2 (by omega)) (g 8 (by omega)) (g 17 (by omega)), b, c, ?_, Or.inr ⟨r3, r4⟩⟩, r4, g 0 (by omega), fun q h1 h2 => r2.1 q (by omega)⟩
  unfold RN RR at d ⊢
  rw [g 37 (by omega), r2.1 15 (by omega), r2.1 16 (by omega), r2.1 17 (by omega), r2.1 18 (by omega), r2.1 19 (by omega), r2.1 20 (by omega)]
  exact d
theorem gg_29 (h : St n ρ σX σM F) : go_29 x n ρ σX σM Inv := by
  unfold go_29 GP
  obtain ⟨σX', a1, a2, a3⟩ := st_best h
  obtain ⟨σM', b1, b2, b3, b4, b5⟩ := st_try (st_thr 0 a2)
  have e1 : σX' 43 1 = opI (bsA F).1 := a3.1
  rw [e_X6_bestFinish, a1, onA_s, e_X7_bestFinish, b1, onV_s, e1, b3.1]
  exact ⟨_, σX', σM', rfl, rfl, F, b2⟩
theorem gg_31 (h : St n ρ σX σM F) : go_31 x n ρ σX σM Inv := by
  unfold go_31 GP
  obtain ⟨σX', a1, a2, a3⟩ := st_best h
  obtain ⟨σM', b1, b2, b3, b4, b5⟩ := st_try (st_thr 0 a2)
  have e1 : σX' 43 2 = nI (bsA F).2.1 := a3.2.1
  rw [e_X6_bestOrders, a1, onA_s, e_X7_bestOrders, b1, onV_s, e1, b3.2.1]
  exact ⟨_, σX', σM', rfl, rfl, F, b2⟩
theorem gg_30 (h : St n ρ σX σM F) : go_30 x n ρ σX σM Inv := by
  have hO := h.1.1
  have h6 := hO.1
  unfold go_30 GT
  rw [e_X6_bestIronAt, sp_reqIron hO.1 h.1.2.1.1, e_X7_bestIronAt, sm_isIron hO.1 h.1.2.2.1.1, onI_s, sm_checks, onI_s]
  by_cases hi : inb (x 1) (F 0 0) = true
  · left
    obtain ⟨i, hi9, e9⟩ := (inb_out (by omega)).mp hi
    obtain ⟨σX', a1, a2, a3⟩ := st_best h
    obtain ⟨σM', b1, b2, b3, b4, b5⟩ := st_try (st_thr 0 a2)
    have e1 : σX' 43 1 = opI (bsA F).1 := a3.1
    simp only [if_pos hi, onV_s]
    rw [a1, onA_s, if_neg (show ¬ (1 : Int32) = 0 by decide), b1, onV_s, e9, e1, b3.1]
    cases hb : (bsA F).1 with
    | none =>
      rw [if_pos (show opI none = -1 from rfl), if_pos (show opI none = -1 from rfl)]
      exact ⟨_, σX', σM', rfl, rfl, by rw [b4]; exact wr_same, F, b2⟩
    | some e =>
      have hne := opI_ne (a3.2.2.2 e hb)
      have e2 : σX' 44 i = nI ((bsA F).2.2 i) := a3.2.2.1 (by rw [hb]; exact fun h9 => by cases h9) i hi9
      have e3 : σM' 21 i = nI ((bsA F).2.2 i) := b3.2.2.1 (by rw [hb]; exact fun h9 => by cases h9) i hi9
      rw [if_neg hne, if_neg hne, if_pos (inb_nI (by omega) (by decide)), if_pos (inb_nI (by omega) (by decide)), nI_clamp (by omega), e2, e3]
      exact ⟨_, σX', σM', rfl, rfl, by rw [b4]; exact wr_same, F, b2⟩
  · right
    simp only [if_neg hi, onV_t]
    exact ⟨0, σX, wr σM 0 0 1, rfl, rfl, wr_same, F, st_thr 1 h⟩
end BEST
