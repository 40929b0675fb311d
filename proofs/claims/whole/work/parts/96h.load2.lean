section LOAD2
variable {x : Nat → Int32} {n : Nat} {ρ : Nat → Mm} {σX σM : Mm} {F G : Fg} {σ : Mm}
theorem gg_1 (h : St n ρ σX σM F) : go_1 x n ρ σX σM Inv := by
  obtain ⟨m, r1, r2, r3, r4, r5⟩ := h.1.2.2.2.1
  unfold go_1 GP
  rw [e_X6_load, r2, sp_isWithin, onI_s, e_X7_load, r3]
  simp only [pk0, pp1]
  by_cases hx : 0 ≤ x 1 ∧ x 1 ≤ nI m
  · obtain ⟨L, -, hL, e1⟩ := (le_iff (a := 0) (b := m) (by decide) (by omega)).mp hx
    obtain ⟨M1, M3, t1, t2, t3⟩ := p_text (σX := σX) (σM := σM) r1 hL r2 r4
    rw [if_pos hx, if_neg (show ¬ (1 : Int32) = 0 by decide), if_neg (Int32.not_lt.mpr hx.1), if_neg (Int32.not_lt.mpr hx.2), e1, t1, onV_s, t2, onV_s]
    rcases t3 with ⟨D', M', G', n', N2, a1, a2, a3, a4, a5, a6, a7, a8, a9, a10⟩ | ⟨D', M', N2, a1, a2, a3, a4, a5, a6⟩
    · obtain ⟨N, rfl⟩ : ∃ N, N2 = N + 1 + 1 := ⟨N2 - 2, by omega⟩
      have p2 : ∀ d, d < 14 → put (sgC 2 14) σX D' (2 + d) = D' d := fun d hd => putC_in hd
      have hX5 : XF (put (sgC 2 14) σX D') 5 G' := by
        refine XF_eq (φ := fun c => D' (c - 2)) (fun c j h1 h2 => ?_) ?_
        · obtain ⟨d, rfl⟩ : ∃ d, c = 2 + d := ⟨c - 2, by omega⟩
          rw [p2 d (by omega), show 2 + d - 2 = d by omega]
        · exact a4.2.1
      obtain ⟨τ, c1, c2, c3⟩ := x_copy (a := 32) (b := 5) (by omega) a4.1 hX5
      have e5 : wr M' 0 2 0 0 15 = 0 := by rw [wr_place (by decide)]; exact a5
      obtain ⟨M5, m1, m2, m3, m4, m5, m6, m7, m8⟩ := m_takes (wr (wr M' 0 2 0) 0 17 (-1))
      have m18 : M5 0 18 = nI n' := by rw [m7 18 (by decide) (by decide) (by decide), wr_place (by decide), wr_place (by decide)]; exact a6
      rw [a1, onI_s, if_neg (nI_pos (by omega)), c1, onV_s, e_X1_forget, onV_s, e_X6_forgetResults, onV_s, a3, e_X7_load_65, if_pos a5, e_X7_load_86, if_pos e5, m1, onV_s, m18]
      have fx : ∀ q, q ≠ 0 → q ≠ 1 → wr (wr (put sgH (put (sg2 32 5 11) (put (sgC 2 14) σX D') τ) (wr (pk sgH (put (sg2 32 5 11) (put (sgC 2 14) σX D') τ)) 0 2 0)) 0 7 0) 0 8 0 q = put (sg2 32 5 11) (put (sgC 2 14) σX D') τ q := fun q h0 h1 => by
        funext j
        rw [wr_cell h0, wr_cell h0, putH_o h1]
      have f1 : ∀ j, wr (wr (put sgH (put (sg2 32 5 11) (put (sgC 2 14) σX D') τ) (wr (pk sgH (put (sg2 32 5 11) (put (sgC 2 14) σX D') τ)) 0 2 0)) 0 7 0) 0 8 0 1 j = if j = 2 then 0 else σX 1 j := fun j => by
        rw [wr_cell (by decide), wr_cell (by decide), putH_1, wr_at]
        simp only [true_and]
        by_cases e : j = 2
        · rw [if_pos e, if_pos e]
        · rw [if_neg e, if_neg e]
          show put (sg2 32 5 11) (put (sgC 2 14) σX D') τ 1 j = σX 1 j
          rw [c3 1 (by omega), putC_out (by omega)]
      have f07 : wr (wr (put sgH (put (sg2 32 5 11) (put (sgC 2 14) σX D') τ) (wr (pk sgH (put (sg2 32 5 11) (put (sgC 2 14) σX D') τ)) 0 2 0)) 0 7 0) 0 8 0 0 7 = 0 := by rw [wr_place (by decide), wr_same]
      have f08 : wr (wr (put sgH (put (sg2 32 5 11) (put (sgC 2 14) σX D') τ) (wr (pk sgH (put (sg2 32 5 11) (put (sgC 2 14) σX D') τ)) 0 2 0)) 0 7 0) 0 8 0 0 8 = 0 := wr_same
      generalize wr (wr (put sgH (put (sg2 32 5 11) (put (sgC 2 14) σX D') τ) (wr (pk sgH (put (sg2 32 5 11) (put (sgC 2 14) σX D') τ)) 0 2 0)) 0 7 0) 0 8 0 = σX' at fx f1 f07 f08 ⊢
      have f2 : ∀ j, σX' 2 j = D' 0 j := fun j => by
        rw [fx 2 (by decide) (by decide), c3 2 (by omega)]
        exact congrFun (p2 0 (by decide)) j
      obtain ⟨hn, i, c, k1, k2, k3, k4, k5, k6, k7, k8⟩ := h.1.2.2.2.2
      refine ⟨nI n', σX', M5, rfl, rfl, G', ⟨a4.1, XF_eq (fun q j h1 h2 => by rw [fx q (by omega) (by omega)]) c2, ?_, ⟨0, by omega, ?_, ?_, fun i hi => by omega, ?_⟩, hn, i, 0, k1, k2, by omega, ?_, ?_, ?_, fun _ => by omega, fun j hj => by omega⟩, Or.inl f07, Or.inl f08, Or.inl m5, Or.inl m6⟩
      · refine mf_T a4.1 a4.2.2.1 (fun q hq => ?_) (fun q hq => ?_)
        · rw [m2 q hq, wr_cell (by decide), wr_cell (by decide)]
        · rw [m3 q hq, wr_cell (by decide), wr_cell (by decide)]
      · rw [f2, a8]; rfl
      · rw [m7 2 (by decide) (by decide) (by decide), wr_place (by decide), wr_same]; rfl
      · rw [f2, a9, m7 17 (by decide) (by decide) (by decide), wr_same]
      · rw [f1, if_neg (by decide)]; exact k4
      · rw [f1, if_pos rfl]; rfl
      · rw [m4]; rfl
    · obtain ⟨N, rfl⟩ : ∃ N, N2 = N + 1 + 1 := ⟨N2 - 2, by omega⟩
      have he := fl_er a4
      have he' : ¬ wr M' 0 2 0 0 15 = 0 := by rw [wr_place (by decide)]; exact he
      obtain ⟨y, s, hy, b1, b2, b3, b4⟩ := a4
      have p0 : put (sgC 2 14) σX D' 2 = D' 0 := putC_in (b := 2) (j := 0) (by omega)
      have e15 : wr M' 0 2 0 0 15 = y := by rw [wr_place (by decide)]; exact b2
      rw [a1, onI_s, b1, if_pos hy, a3, e_X7_load_65, if_neg he, e_X7_load_86, if_neg he', e15, b4]
      refine ⟨y, _, _, rfl, rfl, F, st_rd h (fun c hc => putC_out (by omega)) (fun c hc => ?_) (fun j hj => ?_) ⟨0, by omega, ?_, ?_, fun i hi => by omega, ?_⟩⟩
      · funext i
        rw [wr_cell (by omega), wr_cell (by omega), a6.1 c (by omega) (by omega) (by omega), wr_cell (by omega)]
      · rw [wr_place (by omega), wr_place (by omega), a6.2 j (by omega), wr_place (by omega)]
      · rw [p0, a5]; rfl
      · rw [wr_place (by decide), wr_same]; rfl
      · rw [p0, b3, wr_same]
  · rw [if_neg hx, if_pos rfl]
    refine ⟨-2, σX, wr σM 0 0 0, rfl, ?_, F, st_thr 0 h⟩
    by_cases h1 : x 1 < 0
    · rw [if_pos h1]
    · rw [if_neg h1]
      by_cases h2 : nI m < x 1
      · rw [if_pos h2]
      · exact absurd ⟨Int32.not_lt.mp h1, Int32.not_lt.mp h2⟩ hx
/-- the start -/
theorem st_start : ∃ σ2, rn t_X7_tail [] 1 182 [(0, .inr (.inl 0))] [] mmM0 = some (some none, σ2) ∧ Inv 0 (fun _ => mm0) mmX σ2 := by
  obtain ⟨M1, n1, n2, n3, n4, n5, n6, n7, n8, n9, n10, n11⟩ := m_new mmM0
  obtain ⟨M2, m1, m2, m3, m4, m5, m6, m7, m8⟩ := m_takes M1
  have d3 : (3 : Int32).toNatClampNeg = 3 := by decide
  have et : rn t_X7_tail [] 1 182 [(0, .inr (.inl 0))] [] mmM0 = onV (f_X7_newForge [.inr (.inl 0)] mmM0) (fun τ1 => some (none, τ1)) (fun τ1 => onV (f_X7_takes [.inr (.inl 0)] τ1) (fun τ2 => some (none, τ2)) (fun τ2 => some (some none, τ2))) := by
    exact (onV_cg (fun _ => rfl) (fun τ1 => onV_cg (fun _ => rfl) (fun τ2 => rfl)))
  have g : ∀ q j, q ≠ 2 → q ≠ 14 → q ≠ 41 → q ≠ 66 → mmX q j = 0 := fun q j h1 h2 h3 h4 => by
    unfold mmX
    rw [cpt_o h4, cpt_o h3, cpt_o h2, wr_cell h1]
    rfl
  have g2 : ∀ j, mmX 2 j = if j = 4 then -1 else 0 := fun j => by
    unfold mmX
    rw [cpt_o (by decide), cpt_o (by decide), cpt_o (by decide), wr_at]
    simp only [true_and]
    rfl
  refine ⟨M2, by rw [et, n1, onV_s, m1, onV_s], G0F, ⟨ok_G0, xf_G0 (g 32 0 (by decide) (by decide) (by decide) (by decide)) (g 32 1 (by decide) (by decide) (by decide) (by decide)) (fun t ht => ?_), ?_, ⟨0, by omega, ?_, ?_, fun i hi => by omega, ?_⟩, by omega, 0, 0, by omega, by omega, by omega, ?_, ?_, ?_, fun _ => by omega, fun j hj => by omega⟩, Or.inl (g 0 7 (by decide) (by decide) (by decide) (by decide)), Or.inl (g 0 8 (by decide) (by decide) (by decide) (by decide)), Or.inl m5, Or.inl m6⟩
  · unfold mmX
    show cpt (cpt (cpt (wr mm0 2 4 (-1)) 2 14 0 0 3) 2 41 0 0 3) 2 66 0 0 3 41 t = stv 2 t
    rw [cpt_o (by decide), cpt_d d3 ht]
  · refine mf_G0 ?_ ?_ ?_ ?_ ?_
    · rw [m2 18 (by omega)]; exact n2 18 (by omega)
    · rw [m2 19 (by omega)]; exact n2 19 (by omega)
    · rw [m3 78 (by omega)]; exact n5
    · rw [m3 79 (by omega)]; exact n6
    · rw [m3 80 (by omega)]; exact n7
  · rw [g2, if_neg (by decide)]; rfl
  · rw [m7 2 (by decide) (by decide) (by decide), n10 2 (by decide) (by decide)]; rfl
  · rw [g2, if_pos rfl, m7 17 (by decide) (by decide) (by decide), n10 17 (by decide) (by decide)]; rfl
  · exact g 1 1 (by decide) (by decide) (by decide) (by decide)
  · exact g 1 2 (by decide) (by decide) (by decide) (by decide)
  · rw [m4]; rfl
end LOAD2
