/-! load; the start -/
def G0F : Fg := fun c q => if c = 9 ∧ q = 0 then 1 else if c = 9 ∧ q = 1 then 50 else 0
section LOAD
variable {x : Nat → Int32} {n : Nat} {ρ : Nat → Mm} {σX σM : Mm} {F G : Fg} {σ : Mm}
theorem ok_G0 : OkF G0F := by
  refine ⟨?_, ?_, fun i hi => ?_, fun i j hi => ?_, fun j hj => ?_, ?_, ?_, ?_, fun k hk => ?_⟩
  · show 0 ≤ 6; omega
  · show 0 ≤ 3; omega
  · exact absurd hi (Nat.not_lt_zero i)
  · exact absurd hi (Nat.not_lt_zero i)
  · exact absurd hj (Nat.not_lt_zero j)
  · show 1 ≤ 1 ∧ 1 ≤ 3; omega
  · show 50 ≤ 500; omega
  · show 0 ≤ 2; omega
  · exact absurd hk (Nat.not_lt_zero k)
theorem gok_G0 : Gok G0F := ⟨Nat.zero_le _, Nat.zero_le _, Nat.zero_le _, rfl⟩
theorem xf_G0 {φ : Mm} {b : Nat} (h0 : φ b 0 = 0) (h1 : φ b 1 = 0) (h9 : ∀ t, t < 3 → φ (b + 9) t = stv 2 t) : XF φ b G0F := by
  refine ⟨h0, h1, fun i hi => absurd hi (Nat.not_lt_zero i), fun j hj => absurd hj (Nat.not_lt_zero j), fun t ht => ?_⟩
  rw [h9 t ht]
  rcases (show t = 0 ∨ t = 1 ∨ t = 2 by omega) with rfl | rfl | rfl <;> rfl
theorem mf_G0 {T N : Nat → Int32} (h18 : T 18 = 0) (h19 : T 19 = 0) (h78 : N 78 = 1) (h79 : N 79 = 50) (h80 : N 80 = 0) : MF T N 0 G0F := by
  refine ⟨h18, h19, fun i hi => absurd hi (Nat.not_lt_zero i), fun j hj => absurd hj (Nat.not_lt_zero j), fun t ht => ?_⟩
  rcases (show t = 0 ∨ t = 1 ∨ t = 2 by omega) with rfl | rfl | rfl
  · exact h78
  · exact h79
  · exact h80
theorem cpt_o {t q1 c : Nat} {a b d : Int32} (h : c ≠ q1) : cpt σ t q1 a b d c = σ c := by
  unfold cpt va_up
  rw [if_neg h]
theorem cpt_d {t q1 i N : Nat} {d : Int32} (hd : d.toNatClampNeg = N) (h : i < N) : cpt σ t q1 0 0 d q1 i = stv t i := by
  unfold cpt va_up
  rw [if_pos rfl, hd]
  unfold va_cpy
  have e0 : (0 : Int32).toNatClampNeg = 0 := by decide
  rw [e0, if_pos (by omega)]
  congr 1
  omega
/-! the reference's fresh forge -/
theorem mn_2 (Q : Nat) : ∀ (c y N : Nat) (σ : Mm), y + c = 20 → c + 1 + Q ≤ N → (∀ q, q < y → σ 3 q = 0) → ∃ N' σ', Q ≤ N' ∧ b_X7_newForge_2 N (nI y) σ = b_X7_newForge_23 N' 0 σ' ∧ (∀ q, q < 20 → σ' 3 q = 0) ∧ (∀ q, q ≠ 3 → σ' q = σ q) := by
  intro c
  induction c with
  | zero =>
    intro y N σ hy hN h
    obtain ⟨N, rfl⟩ : ∃ N', N = N' + 1 := ⟨N - 1, by omega⟩
    obtain rfl : y = 20 := by omega
    refine ⟨N, σ, by omega, ?_, h, fun _ _ => rfl⟩
    rw [e_X7_newForge_2, if_neg (by decide)]
  | succ c ih =>
    intro y N σ hy hN h
    obtain ⟨N, rfl⟩ : ∃ N', N = N' + 1 := ⟨N - 1, by omega⟩
    rw [e_X7_newForge_2, if_pos (show nI y < 20 from nI_lt (b := 20) (by omega) (by decide)), if_pos (inb_nI (by omega) (by decide)), nI_clamp (by omega), nI_1]
    obtain ⟨N', σ', a1, a2, a3, a4⟩ := ih (y + 1) N (wr σ 3 y 0) (by omega) (by omega) (fun q hq => by
      by_cases e : q = y
      · rw [e]; exact wr_same
      · rw [wr_place e]; exact h q (by omega))
    refine ⟨N', σ', a1, a2, a3, fun q hq => ?_⟩
    rw [a4 q hq]
    funext i
    exact wr_cell hq
theorem mn_23 (Q : Nat) : ∀ (c y N : Nat) (σ : Mm), y + c = 81 → c + 1 + Q ≤ N → (∀ q, q < y → σ 5 q = 0) → ∃ N' σ', Q ≤ N' ∧ b_X7_newForge_23 N (nI y) σ = b_X7_newForge_44 N' 0 σ' ∧ (∀ q, q < 81 → σ' 5 q = 0) ∧ (∀ q, q ≠ 5 → σ' q = σ q) := by
  intro c
  induction c with
  | zero =>
    intro y N σ hy hN h
    obtain ⟨N, rfl⟩ : ∃ N', N = N' + 1 := ⟨N - 1, by omega⟩
    obtain rfl : y = 81 := by omega
    refine ⟨N, σ, by omega, ?_, h, fun _ _ => rfl⟩
    rw [e_X7_newForge_23, if_neg (by decide)]
  | succ c ih =>
    intro y N σ hy hN h
    obtain ⟨N, rfl⟩ : ∃ N', N = N' + 1 := ⟨N - 1, by omega⟩
    rw [e_X7_newForge_23, if_pos (show nI y < 81 from nI_lt (b := 81) (by omega) (by decide)), if_pos (inb_nI (by omega) (by decide)), nI_clamp (by omega), nI_1]
    obtain ⟨N', σ', a1, a2, a3, a4⟩ := ih (y + 1) N (wr σ 5 y 0) (by omega) (by omega) (fun q hq => by
      by_cases e : q = y
      · rw [e]; exact wr_same
      · rw [wr_place e]; exact h q (by omega))
    refine ⟨N', σ', a1, a2, a3, fun q hq => ?_⟩
    rw [a4 q hq]
    funext i
    exact wr_cell hq
theorem mn_44 : ∀ (c y N : Nat) (σ : Mm), y + c = 6 → c + 1 ≤ N → (∀ q, q < y → σ 5 (72 + q) = nI q) → ∃ σ', b_X7_newForge_44 N (nI y) σ = some (some none, wr (wr (wr (wr σ' 5 78 1) 5 79 50) 0 19 0) 0 18 0) ∧ (∀ q, q < 6 → σ' 5 (72 + q) = nI q) ∧ (∀ q, q < 72 ∨ 78 ≤ q → σ' 5 q = σ 5 q) ∧ (∀ q, q ≠ 5 → σ' q = σ q) := by
  intro c
  induction c with
  | zero =>
    intro y N σ hy hN h
    obtain ⟨N, rfl⟩ : ∃ N', N = N' + 1 := ⟨N - 1, by omega⟩
    obtain rfl : y = 6 := by omega
    refine ⟨σ, ?_, h, fun _ _ => rfl, fun _ _ => rfl⟩
    rw [e_X7_newForge_44, if_neg (by decide)]
  | succ c ih =>
    intro y N σ hy hN h
    obtain ⟨N, rfl⟩ : ∃ N', N = N' + 1 := ⟨N - 1, by omega⟩
    rw [e_X7_newForge_44, if_pos (show nI y < 6 from nI_lt (b := 6) (by omega) (by decide)), n72, if_pos (inb_nI (by omega) (by decide)), nI_clamp (by omega), nI_1]
    obtain ⟨σ', a1, a2, a3, a4⟩ := ih (y + 1) N (wr σ 5 (72 + y) (nI y)) (by omega) (by omega) (fun q hq => by
      by_cases e : q = y
      · rw [e]; exact wr_same
      · rw [wr_place (by omega)]; exact h q (by omega))
    refine ⟨σ', a1, a2, fun q hq => ?_, fun q hq => ?_⟩
    · rw [a3 q hq, wr_place (by omega)]
    · rw [a4 q hq]
      funext i
      exact wr_cell hq
theorem m_new (σ : Mm) : ∃ M', f_X7_newForge [.inr (.inl 0)] σ = some (some none, M') ∧ (∀ q, q < 20 → M' 3 q = 0) ∧ (∀ q, q < 72 → M' 5 q = 0) ∧ (∀ k, k < 6 → M' 5 (72 + k) = nI k) ∧ M' 5 78 = 1 ∧ M' 5 79 = 50 ∧ M' 5 80 = 0 ∧ M' 0 19 = 0 ∧ M' 0 18 = 0 ∧ (∀ j, j ≠ 18 → j ≠ 19 → M' 0 j = σ 0 j) ∧ (∀ q, q ≠ 0 → q ≠ 3 → q ≠ 5 → M' q = σ q) := by
  have hb : bigM = 99999 := rfl
  obtain ⟨N1, σ1, a1, a2, a3, a4⟩ := mn_2 500 20 0 bigM σ (by omega) (by omega) (fun q hq => by omega)
  obtain ⟨N2, σ2, b1, b2, b3, b4⟩ := mn_23 100 81 0 N1 σ1 (by omega) (by omega) (fun q hq => by omega)
  obtain ⟨σ3, c1, c2, c3, c4⟩ := mn_44 6 0 N2 σ2 (by omega) (by omega) (fun q hq => by omega)
  have a2' : b_X7_newForge_2 bigM 0 σ = _ := a2
  have b2' : b_X7_newForge_23 N1 0 σ1 = _ := b2
  have c1' : b_X7_newForge_44 N2 0 σ2 = _ := c1
  refine ⟨_, by rw [e_X7_newForge, a2', b2', c1'], fun q hq => ?_, fun q hq => ?_, fun k hk => ?_, ?_, ?_, ?_, ?_, wr_same, fun j j1 j2 => ?_, fun q q0 q3 q5 => ?_⟩
  · rw [wr_cell (by decide), wr_cell (by decide), wr_cell (by decide), wr_cell (by decide), c4 3 (by decide), b4 3 (by decide)]
    exact a3 q hq
  · rw [wr_cell (by decide), wr_cell (by decide), wr_place (by omega), wr_place (by omega), c3 q (by omega)]
    exact b3 q (by omega)
  · rw [wr_cell (by decide), wr_cell (by decide), wr_place (by omega), wr_place (by omega)]
    exact c2 k hk
  · rw [wr_cell (by decide), wr_cell (by decide), wr_place (by decide), wr_same]
  · rw [wr_cell (by decide), wr_cell (by decide), wr_same]
  · rw [wr_cell (by decide), wr_cell (by decide), wr_place (by decide), wr_place (by decide), c3 80 (by omega)]
    exact b3 80 (by omega)
  · rw [wr_place (by decide), wr_same]
  · rw [wr_place j1, wr_place j2, wr_cell (by decide), wr_cell (by decide), c4 0 (by decide), b4 0 (by decide), a4 0 (by decide)]
  · funext i
    rw [wr_cell q0, wr_cell q0, wr_cell q5, wr_cell q5, c4 q q5, b4 q q5, a4 q q3]
theorem mt_2 (Q : Nat) : ∀ (c y N : Nat) (σ : Mm), y + c = 20 → c + 1 + Q ≤ N → (∀ q, q < y → σ 2 q = σ 3 q) → ∃ N' σ', Q ≤ N' ∧ b_X7_takes_2 N (nI y) σ = b_X7_takes_28 N' 0 σ' ∧ (∀ q, q < 20 → σ' 2 q = σ 3 q) ∧ (∀ q, q ≠ 2 → σ' q = σ q) := by
  intro c
  induction c with
  | zero =>
    intro y N σ hy hN h
    obtain ⟨N, rfl⟩ : ∃ N', N = N' + 1 := ⟨N - 1, by omega⟩
    obtain rfl : y = 20 := by omega
    refine ⟨N, σ, by omega, ?_, h, fun _ _ => rfl⟩
    rw [e_X7_takes_2, if_neg (by decide)]
  | succ c ih =>
    intro y N σ hy hN h
    obtain ⟨N, rfl⟩ : ∃ N', N = N' + 1 := ⟨N - 1, by omega⟩
    have i1 : inb (nI y) 20 = true := inb_nI (by omega) (by decide)
    rw [e_X7_takes_2, if_pos (show nI y < 20 from nI_lt (b := 20) (by omega) (by decide)), if_pos i1, if_pos i1, nI_clamp (by omega), nI_1]
    obtain ⟨N', σ', a1, a2, a3, a4⟩ := ih (y + 1) N (wr σ 2 y (σ 3 y)) (by omega) (by omega) (fun q hq => by
      rw [wr_cell (show (3 : Nat) ≠ 2 by decide)]
      by_cases e : q = y
      · rw [e]; exact wr_same
      · rw [wr_place e]; exact h q (by omega))
    refine ⟨N', σ', a1, a2, fun q hq => ?_, fun q hq => ?_⟩
    · rw [a3 q hq, wr_cell (by decide)]
    · rw [a4 q hq]
      funext i
      exact wr_cell hq
theorem mt_28 : ∀ (c y N : Nat) (σ : Mm), y + c = 81 → c + 1 ≤ N → (∀ q, q < y → σ 4 q = σ 5 q) → ∃ σ', b_X7_takes_28 N (nI y) σ = some (some none, wr (wr (wr σ' 0 8 0) 0 37 0) 0 38 0) ∧ (∀ q, q < 81 → σ' 4 q = σ 5 q) ∧ (∀ q, q ≠ 4 → σ' q = σ q) := by
  intro c
  induction c with
  | zero =>
    intro y N σ hy hN h
    obtain ⟨N, rfl⟩ : ∃ N', N = N' + 1 := ⟨N - 1, by omega⟩
    obtain rfl : y = 81 := by omega
    refine ⟨σ, ?_, h, fun _ _ => rfl⟩
    rw [e_X7_takes_28, if_neg (by decide)]
  | succ c ih =>
    intro y N σ hy hN h
    obtain ⟨N, rfl⟩ : ∃ N', N = N' + 1 := ⟨N - 1, by omega⟩
    have i1 : inb (nI y) 81 = true := inb_nI (by omega) (by decide)
    rw [e_X7_takes_28, if_pos (show nI y < 81 from nI_lt (b := 81) (by omega) (by decide)), if_pos i1, if_pos i1, nI_clamp (by omega), nI_1]
    obtain ⟨σ', a1, a2, a3⟩ := ih (y + 1) N (wr σ 4 y (σ 5 y)) (by omega) (by omega) (fun q hq => by
      rw [wr_cell (show (5 : Nat) ≠ 4 by decide)]
      by_cases e : q = y
      · rw [e]; exact wr_same
      · rw [wr_place e]; exact h q (by omega))
    refine ⟨σ', a1, fun q hq => ?_, fun q hq => ?_⟩
    · rw [a2 q hq, wr_cell (by decide)]
    · rw [a3 q hq]
      funext i
      exact wr_cell hq
theorem m_takes (σ : Mm) : ∃ M', f_X7_takes [.inr (.inl 0)] σ = some (some none, M') ∧ (∀ q, q < 20 → M' 2 q = σ 3 q) ∧ (∀ q, q < 81 → M' 4 q = σ 5 q) ∧ M' 0 8 = 0 ∧ M' 0 37 = 0 ∧ M' 0 38 = 0 ∧ (∀ j, j ≠ 8 → j ≠ 37 → j ≠ 38 → M' 0 j = σ 0 j) ∧ (∀ q, q ≠ 0 → q ≠ 2 → q ≠ 4 → M' q = σ q) := by
  have hb : bigM = 99999 := rfl
  obtain ⟨N1, σ1, a1, a2, a3, a4⟩ := mt_2 100 20 0 bigM σ (by omega) (by omega) (fun q hq => by omega)
  obtain ⟨σ2, c1, c2, c3⟩ := mt_28 81 0 N1 σ1 (by omega) (by omega) (fun q hq => by omega)
  have a2' : b_X7_takes_2 bigM 0 σ = _ := a2
  have c1' : b_X7_takes_28 N1 0 σ1 = _ := c1
  refine ⟨_, by rw [e_X7_takes, a2', c1'], fun q hq => ?_, fun q hq => ?_, ?_, ?_, wr_same, fun j j1 j2 j3 => ?_, fun q q0 q2 q4 => ?_⟩
  · rw [wr_cell (by decide), wr_cell (by decide), wr_cell (by decide), c3 2 (by decide)]
    exact a3 q hq
  · rw [wr_cell (by decide), wr_cell (by decide), wr_cell (by decide), c2 q hq, a4 5 (by decide)]
  · rw [wr_place (by decide), wr_place (by decide), wr_same]
  · rw [wr_place (by decide), wr_same]
  · rw [wr_place j3, wr_place j2, wr_place j1, c3 0 (by decide), a4 0 (by decide)]
  · funext i
    rw [wr_cell q0, wr_cell q0, wr_cell q0, c3 q q4, a4 q q2]
theorem mf_T {T T' N N' : Nat → Int32} (hO : OkF G) (h : MF T N 0 G) (gT : ∀ q, q < 20 → T' q = T q) (gN : ∀ q, q < 81 → N' q = N q) : MF T' N' 0 G := by
  have h1 : MF T N' 0 G := mf_row (d := 0) (d' := 0) hO (fun q hq => by rw [Nat.zero_add]; exact gN q hq) h
  have b6 := hO.1
  obtain ⟨x1, x2, x3, x4, x5⟩ := h1
  refine ⟨(gT 18 (by omega)).trans x1, (gT 19 (by omega)).trans x2, fun i hi => ?_, x4, x5⟩
  obtain ⟨y1, y2, y3, y4, y5, y6⟩ := x3 i hi
  exact ⟨(gT _ (by omega)).trans y1, (gT _ (by omega)).trans y2, y3, y4, y5, (gT _ (by omega)).trans y6⟩
/-! the class's reader begins -/
theorem xb_36 : ∀ (c y N : Nat) (σ : Mm), y + c = 3 → c + 1 ≤ N → (∀ q, q < y → σ 2 q = 0) → ∃ σ', b_X4_beginText_36 N (nI y) σ = some (some none, σ') ∧ (∀ q, q < 3 → σ' 2 q = 0) ∧ (∀ q, q ≠ 2 → σ' q = σ q) := by
  intro c
  induction c with
  | zero =>
    intro y N σ hy hN h
    obtain ⟨N, rfl⟩ : ∃ N', N = N' + 1 := ⟨N - 1, by omega⟩
    obtain rfl : y = 3 := by omega
    refine ⟨σ, ?_, h, fun _ _ => rfl⟩
    rw [e_X4_beginText_36, if_neg (by decide)]
  | succ c ih =>
    intro y N σ hy hN h
    obtain ⟨N, rfl⟩ : ∃ N', N = N' + 1 := ⟨N - 1, by omega⟩
    rw [e_X4_beginText_36, if_pos (show nI y < 3 from nI_lt (b := 3) (by omega) (by decide)), if_pos (inb_nI (by omega) (by decide)), nI_clamp (by omega), nI_1]
    obtain ⟨σ', a1, a2, a3⟩ := ih (y + 1) N (wr σ 2 y 0) (by omega) (by omega) (fun q hq => by
      by_cases e : q = y
      · rw [e]; exact wr_same
      · rw [wr_place e]; exact h q (by omega))
    refine ⟨σ', a1, a2, fun q hq => ?_⟩
    rw [a3 q hq]
    funext i
    exact wr_cell hq
theorem x_begin {m L : Nat} (hm : m ≤ 900) (hL : L ≤ m) (h3 : σ 0 3 = nI m) : ∃ D', f_X4_beginText [.inr (.inl 0), .inl (nI L)] σ = some (some none, D') ∧ D' 0 6 = nI L ∧ D' 0 3 = 0 ∧ D' 0 7 = 0 ∧ D' 0 4 = -1 ∧ D' 1 = σ 1 ∧ (∀ t, t < 3 → D' 2 t = 0) ∧ D' 3 0 = 0 ∧ D' 3 1 = 0 ∧ (∀ t, t < 3 → D' 12 t = stv 2 t) := by
  have hb : bigM = 99999 := rfl
  have d3 : (3 : Int32).toNatClampNeg = 3 := by decide
  rw [e_X4_beginText, h3, if_neg (nI_nlt hL (by omega)), e_X2_clear, onV_s]
  generalize hτ : wr (wr (wr (wr σ 0 6 (nI L)) 0 3 0) 0 7 0) 0 4 (-1) = σ1
  obtain ⟨D', a1, a2, a3⟩ := xb_36 3 0 bigM (put (sgC 3 11) σ1 (cpt (wr (wr (pk (sgC 3 11) σ1) 0 0 0) 0 1 0) 2 9 0 0 3)) (by omega) (by omega) (fun q hq => by omega)
  have a1' : b_X4_beginText_36 bigM 0 (put (sgC 3 11) σ1 (cpt (wr (wr (pk (sgC 3 11) σ1) 0 0 0) 0 1 0) 2 9 0 0 3)) = _ := a1
  have lo : ∀ q, q < 2 → D' q = σ1 q := fun q hq => by rw [a3 q (by omega), putC_out (by omega)]
  have hi : ∀ d, d < 11 → D' (3 + d) = cpt (wr (wr (pk (sgC 3 11) σ1) 0 0 0) 0 1 0) 2 9 0 0 3 d := fun d hd => by rw [a3 (3 + d) (by omega), putC_in hd]
  refine ⟨D', a1', ?_, ?_, ?_, ?_, ?_, a2, ?_, ?_, fun t ht => ?_⟩
  · rw [lo 0 (by decide), ← hτ, wr_place (by decide), wr_place (by decide), wr_place (by decide), wr_same]
  · rw [lo 0 (by decide), ← hτ, wr_place (by decide), wr_place (by decide), wr_same]
  · rw [lo 0 (by decide), ← hτ, wr_place (by decide), wr_same]
  · rw [lo 0 (by decide), ← hτ, wr_same]
  · rw [lo 1 (by decide), ← hτ]
    funext i
    rw [wr_cell (by decide), wr_cell (by decide), wr_cell (by decide), wr_cell (by decide)]
  · have := congrFun (hi 0 (by decide)) 0
    rw [cpt_o (by decide), wr_place (by decide), wr_same] at this
    exact this
  · have := congrFun (hi 0 (by decide)) 1
    rw [cpt_o (by decide), wr_same] at this
    exact this
  · have := congrFun (hi 9 (by decide)) t
    rw [cpt_d d3 ht] at this
    exact this
/-- the text that stands in both buffers -/
theorem cx_cm {r r' : Nat → Int32} {m : Nat} (h : ∀ i, i < m → Rb (r i) (r' i)) : ∃ c : Nat → Nat, Cx r m c ∧ Cm r' m c := by
  refine ⟨fun p => if r p < 0 then 128 else (r p).toNatClampNeg, fun p hp => ?_, fun p hp => ?_⟩
  · rcases h p hp with ⟨k, k1, k2, k3⟩ | ⟨k1, k2⟩
    · left
      have n0 : ¬ r p < 0 := by rw [k2]; exact nI_pos (by omega)
      have e : (if r p < 0 then 128 else (r p).toNatClampNeg) = k := by rw [if_neg n0, k2, nI_clamp (by omega)]
      show (if r p < 0 then 128 else (r p).toNatClampNeg) < 128 ∧ r p = nI (if r p < 0 then 128 else (r p).toNatClampNeg)
      rw [e]
      exact ⟨k1, k2⟩
    · right
      exact ⟨if_pos k1, k1⟩
  · rcases h p hp with ⟨k, k1, k2, k3⟩ | ⟨k1, k2⟩
    · left
      have n0 : ¬ r p < 0 := by rw [k2]; exact nI_pos (by omega)
      have e : (if r p < 0 then 128 else (r p).toNatClampNeg) = k := by rw [if_neg n0, k2, nI_clamp (by omega)]
      show (if r p < 0 then 128 else (r p).toNatClampNeg) < 128 ∧ r' p = nI (if r p < 0 then 128 else (r p).toNatClampNeg)
      rw [e]
      exact ⟨k1, k3⟩
    · right
      exact ⟨if_pos k1, k2⟩
theorem putH_1 {σ τ : Mm} : put sgH σ τ 1 = τ 0 := rfl
theorem putH_o {σ τ : Mm} {q : Nat} (h : q ≠ 1) : put sgH σ τ q = σ q := by
  unfold put sgH
  have : Nat.beq q 1 = false := by
    cases h9 : Nat.beq q 1 with
    | false => rfl
    | true => exact absurd (Nat.eq_of_beq_eq_true h9) h
  show (match cond (Nat.beq q 1) (some 0) none with | some j => τ j | none => σ q) = _
  rw [this]
  rfl
/-- both read the text -/
theorem p_text {m L : Nat} (hm : m ≤ 900) (hL : L ≤ m) (h3 : σX 2 3 = nI m) (hb : ∀ i, i < m → Rb (σX 3 i) (σM 1 i)) :
    ∃ M1 M3, f_X7_newForge [.inr (.inl 0)] (wr σM 0 0 0) = some (some none, M1) ∧ f_X7_next [.inr (.inl 0)] (wr (wr (wr M1 0 9 (nI L)) 0 10 0) 0 15 0) = some (some none, M3) ∧ ((∃ D' M' G' n' N2, f_X4_readText [.inr (.inl 0), .inl (nI L)] (pk (sgC 2 14) σX) = some (some (some (.inl (nI n'))), D') ∧ 3 ≤ N2 ∧ b_X7_load_43 bigM M3 = b_X7_load_65 N2 M' ∧ Dr D' M' G' ∧ M' 0 15 = 0 ∧ M' 0 18 = nI n' ∧ n' ≤ 900 ∧ D' 0 3 = 0 ∧ D' 0 4 = -1 ∧ FS (wr σM 0 0 0) M') ∨
    (∃ D' M' N2, f_X4_readText [.inr (.inl 0), .inl (nI L)] (pk (sgC 2 14) σX) = some (some (some (.inl (D' 0 5))), D') ∧ 3 ≤ N2 ∧ b_X7_load_43 bigM M3 = b_X7_load_65 N2 M' ∧ Fl D' M' ∧ D' 0 3 = 0 ∧ FS (wr σM 0 0 0) M')) := by
  have hbig : bigM = 99999 := rfl
  obtain ⟨c, cx, cm⟩ := cx_cm hb
  obtain ⟨M1, n1, n2, n3, n4, n5, n6, n7, n8, n9, n10, n11⟩ := m_new (wr σM 0 0 0)
  obtain ⟨D1, d1, d2, d3, d4, d5, d6, d7, d8, d9, d10⟩ := x_begin (σ := pk (sgC 2 14) σX) hm hL h3
  have q0 : ∀ j, j ≠ 9 → j ≠ 10 → j ≠ 15 → wr (wr (wr M1 0 9 (nI L)) 0 10 0) 0 15 0 0 j = M1 0 j := fun j a b e => by rw [wr_place e, wr_place b, wr_place a]
  have q1 : ∀ q, q ≠ 0 → wr (wr (wr M1 0 9 (nI L)) 0 10 0) 0 15 0 q = M1 q := fun q a => by funext i; rw [wr_cell a, wr_cell a, wr_cell a]
  have e9 : wr (wr (wr M1 0 9 (nI L)) 0 10 0) 0 15 0 0 9 = nI L := by rw [wr_place (by decide), wr_place (by decide), wr_same]
  have e10 : wr (wr (wr M1 0 9 (nI L)) 0 10 0) 0 15 0 0 10 = nI 0 := by rw [wr_place (by decide), wr_same]; rfl
  have e15 : wr (wr (wr M1 0 9 (nI L)) 0 10 0) 0 15 0 0 15 = 0 := wr_same
  generalize hM2 : wr (wr (wr M1 0 9 (nI L)) 0 10 0) 0 15 0 = M2 at q0 q1 e9 e10 e15
  have b1 : M1 1 = σM 1 := by
    rw [n11 1 (by decide) (by decide) (by decide)]
    funext i
    exact wr_cell (by decide)
  have hcx : Cx (D1 1) L c := fun p hp => by rw [d6]; exact cx p (by omega)
  have hcm : Cm (M2 1) L c := fun p hp => by rw [q1 1 (by decide), b1]; exact cm p (by omega)
  obtain ⟨D2, f1, f2, f3⟩ := x_tok (c := c) (L := L) (p := 0) (by omega) (by omega) (by rw [d4]; rfl) d2 hcx
  obtain ⟨M3, g1, g2, g3⟩ := m_tok (c := c) (L := L) (p := 0) (by omega) (by omega) e10 e9 hcm
  have hB : Bs D1 M2 c L G0F := by
    refine ⟨⟨by omega, d2, e9, hcx, hcm⟩, ⟨ok_G0, xf_G0 d8 d9 d10, ?_, fun i hi => absurd hi (Nat.not_lt_zero i), fun k hk => ?_⟩, ⟨fun t ht => d7 t ht, ?_⟩, e15⟩
    · rw [q1 3 (by decide), q1 5 (by decide)]
      exact mf_G0 (n2 18 (by omega)) (n2 19 (by omega)) n5 n6 n7
    · rw [q1 5 (by decide)]
      exact ⟨n4 k hk, fun _ => n3 k (by omega)⟩
    · rw [q0 19 (by decide) (by decide) (by decide)]
      exact n8
  have hS : SY D2 M3 c L G0F (tkS c L 0) := ⟨bs_fr hB f3 g3, (tkS_le (by omega)).2, f2, g2⟩
  have hFS : FS (wr σM 0 0 0) M3 := by
    refine ⟨fun q a b e => ?_, fun j a => ?_⟩
    · rw [g3.2 q a, q1 q a, n11 q a b e]
    · rw [g3.1 j (by omega), q0 j (by omega) (by omega) (by omega), n10 j (by omega) (by omega)]
  have h18 : M3 0 18 = nI 0 := by
    rw [g3.1 18 (by omega), q0 18 (by decide) (by decide) (by decide)]
    exact n9
  refine ⟨M1, M3, n1, by rw [hM2]; exact g1, ?_⟩
  have er : f_X4_readText [.inr (.inl 0), .inl (nI L)] (pk (sgC 2 14) σX) = b_X4_readText_11 bigM (nI L) (nI 0) D2 := by
    rw [e_X4_readText, d1, onV_s, f1, onV_s]
    rfl
  rw [er]
  rcases p_loop (c := c) (L := L) (by omega) L 0 (tkS c L 0) bigM bigM D2 M3 G0F (by omega) (by omega) (by omega) (by omega) hS gok_G0 h18 with ⟨D', M', G', n', N2, a1, a2, a3, a4, a5, a6, a7, a8, a9⟩ | ⟨D', M', N2, a1, a2, a3, a4, a5, a6⟩
  · exact Or.inl ⟨D', M', G', n', N2, a1, a2, a3, a4, a5, a6, a7, by rw [a8.1, f3.1 3 (by omega), d3], by rw [a8.2, f3.1 4 (by omega), d5], FS_trans hFS a9⟩
  · exact Or.inr ⟨D', M', N2, a1, a2, a3, a4, by rw [a5, f3.1 3 (by omega), d3], FS_trans hFS a6⟩
end LOAD
