/-! without a place, without an iron, alone -/
def dpF (F : Fg) (w : Nat) : Fg := fun c i => if c = 0 ∧ i = 1 then F 0 1 - 1 else if c = 7 ∨ c = 8 then F c (plW w i) else F c i
def alF (F : Fg) (k : Nat) : Fg := fun c i => if c = 4 ∧ i ≠ k then 0 else F c i
section WO
variable {F : Fg}
theorem orL_c {F' : Fg} (h : F' 10 = F 10) (h0 : F' 0 0 = F 0 0) : orL F' = orL F := by
  unfold orL
  rw [h0]
  exact orF_cg h _ _
theorem ok_dp {w : Nat} (hO : OkF F) (hw : w < F 0 1) : OkF (dpF F w) := by
  obtain ⟨a1, a2, a3, a4, a5, a6, a7, a8, a9⟩ := hO
  refine ⟨a1, ?_, a3, a4, fun j hj => ?_, a6, a7, a8, a9⟩
  · show F 0 1 - 1 ≤ 3
    omega
  · have hj' : j < F 0 1 - 1 := hj
    have hp : plW w j < F 0 1 := by unfold plW; split <;> omega
    exact a5 (plW w j) hp
theorem ok_al {k : Nat} (hO : OkF F) : OkF (alF F k) := by
  obtain ⟨a1, a2, a3, a4, a5, a6, a7, a8, a9⟩ := hO
  refine ⟨a1, a2, fun i hi => ?_, a4, a5, a6, a7, a8, a9⟩
  obtain ⟨b1, b2, b3, b4, b5⟩ := a3 i hi
  have hle : alF F k 4 i ≤ F 4 i := by
    unfold alF
    split
    · exact Nat.zero_le _
    · exact Nat.le_refl _
  exact ⟨b1, b2, Nat.le_trans hle b3, fun s hs => b4 s (Nat.lt_of_lt_of_le hs hle), b5⟩
theorem xd_loop {w P : Nat} (hP : P ≤ 3) (hw : w < P) {r7 r8 : Nat → Int32} : ∀ (c y N : Nat) (φ : Mm), y + c = P → w + 1 ≤ y → c < N → φ 0 1 = nI P → (∀ i, i < P → φ 7 i = (if w ≤ i ∧ i + 1 < y then r7 (i + 1) else r7 i) ∧ φ 8 i = (if w ≤ i ∧ i + 1 < y then r8 (i + 1) else r8 i)) → ∃ φ', b_X2_dropPlace_4 N (nI y) φ = some (some none, φ') ∧ (∀ c, c ≠ 0 → c ≠ 7 → c ≠ 8 → φ' c = φ c) ∧ φ' 0 0 = φ 0 0 ∧ φ' 0 1 = nI (P - 1) ∧ (∀ i, i < P - 1 → φ' 7 i = r7 (plW w i) ∧ φ' 8 i = r8 (plW w i)) := by
  intro c
  induction c with
  | zero =>
    intro y N φ hy hwy hN h0 h
    obtain ⟨N, rfl⟩ : ∃ N', N = N' + 1 := ⟨N - 1, by omega⟩
    obtain rfl : y = P := by omega
    have e1 : nI y - 1 = nI (y - 1) := nI_sub (b := 1) (by omega)
    refine ⟨wr φ 0 1 (nI (y - 1)), ?_, fun c h0 _ _ => funext (fun i => wr_cell h0), wr_place (by decide), wr_same, fun i hi => ?_⟩
    · rw [e_X2_dropPlace_4, h0, if_neg (nI_nlt (by omega) (by omega)), e1]
    · obtain ⟨h7, h8⟩ := h i (by omega)
      rw [wr_cell (by decide), wr_cell (by decide), h7, h8]
      unfold plW
      by_cases hc : i < w
      · rw [if_pos hc, if_neg (by omega), if_neg (by omega)]
        exact ⟨rfl, rfl⟩
      · rw [if_neg hc, if_pos (by omega), if_pos (by omega)]
        exact ⟨rfl, rfl⟩
  | succ c ih =>
    intro y N φ hy hwy hN h0 h
    obtain ⟨N, rfl⟩ : ∃ N', N = N' + 1 := ⟨N - 1, by omega⟩
    have e1 : nI y - 1 = nI (y - 1) := nI_sub (b := 1) (by omega)
    have i1 : inb (nI y) 3 = true := inb_nI (by omega) (by decide)
    have i2 : inb (nI (y - 1)) 3 = true := inb_nI (by omega) (by decide)
    obtain ⟨y7, y8⟩ := h y (by omega)
    rw [if_neg (by omega)] at y7 y8
    rw [e_X2_dropPlace_4, h0, if_pos (nI_lt (by omega) (by omega)), e1, if_pos i1, if_pos i2, if_pos i1, if_pos i2, nI_clamp (by omega), nI_clamp (by omega), nI_1, y7, y8]
    obtain ⟨φ', d1, d2, d3, d4, d5⟩ := ih (y + 1) N (wr (wr φ 7 (y - 1) (r7 y)) 8 (y - 1) (r8 y)) (by omega) (by omega) (by omega) (by rw [wr_cell (by decide), wr_cell (by decide)]; exact h0) (fun i hi => by
      obtain ⟨h7, h8⟩ := h i hi
      rw [wr_cell (show (7 : Nat) ≠ 8 by decide)]
      by_cases e : i = y - 1
      · subst e
        rw [wr_same, wr_same, if_pos (by omega), if_pos (by omega), show y - 1 + 1 = y by omega]
        exact ⟨rfl, rfl⟩
      · rw [wr_place e, wr_place e, wr_cell (by decide), h7, h8]
        by_cases hc : w ≤ i ∧ i + 1 < y
        · rw [if_pos hc, if_pos hc, if_pos (by omega), if_pos (by omega)]
          exact ⟨rfl, rfl⟩
        · rw [if_neg hc, if_neg hc, if_neg (by omega), if_neg (by omega)]
          exact ⟨rfl, rfl⟩)
    refine ⟨φ', d1, fun c h0 h7 h8 => ?_, ?_, d4, d5⟩
    · rw [d2 c h0 h7 h8]
      funext i
      rw [wr_cell h8, wr_cell h7]
    · rw [d3, wr_cell (by decide), wr_cell (by decide)]
theorem xd_drop {φ : Mm} {w : Nat} (hO : OkF F) (hw : w < F 0 1) (h : XF φ 0 F) : ∃ φ', f_X2_dropPlace [.inr (.inl 0), .inl (nI w)] φ = some (some none, φ') ∧ XF φ' 0 (dpF F w) := by
  have h3 := hO.2.1
  obtain ⟨x1, x2, x3, x4, x5⟩ := h
  obtain ⟨φ', a1, a2, a3, a4, a5⟩ := xd_loop (w := w) h3 hw (r7 := fun i => nI (F 7 i)) (r8 := fun i => nI (F 8 i)) (F 0 1 - (w + 1)) (w + 1) bigM φ (by omega) (by omega) (by unfold bigM; omega) x2 (fun i hi => by
    rw [if_neg (by omega), if_neg (by omega)]
    exact x4 i hi)
  refine ⟨φ', ?_, ?_, a4, fun i hi => ?_, fun j hj => ?_, fun t ht => ?_⟩
  · rw [e_X2_dropPlace, nI_1]; exact a1
  · rw [a3]; exact x1
  · rw [a2 (0 + 2) (by decide) (by decide) (by decide), a2 (0 + 3) (by decide) (by decide) (by decide), a2 (0 + 4) (by decide) (by decide) (by decide), a2 (0 + 10) (by decide) (by decide) (by decide), a2 (0 + 5) (by decide) (by decide) (by decide), a2 (0 + 6) (by decide) (by decide) (by decide), a2 (0 + 1) (by decide) (by decide) (by decide)]
    exact x3 i hi
  · exact a5 j hj
  · rw [a2 (0 + 9) (by decide) (by decide) (by decide)]
    exact x5 t ht
theorem mc_dp {σ : Mm} {w : Nat} (hw : w < F 0 1) (h : MC σ F (orL F) (F 0 1) 9) (h3 : F 0 1 ≤ 3) : MC (wr σ 0 23 (nI w)) (dpF F w) (orL (dpF F w)) (F 0 1) w := by
  have e1 : orL (dpF F w) = orL F := orL_c rfl rfl
  rw [e1]
  obtain ⟨⟨c1, c2, c3, c4⟩, c5, c6, c7, c8, c9⟩ := h
  have w2 : (wr σ 0 23 (nI w)) 2 = σ 2 := by funext i; exact wr_cell (by decide)
  have w4 : (wr σ 0 23 (nI w)) 4 = σ 4 := by funext i; exact wr_cell (by decide)
  have w7 : (wr σ 0 23 (nI w)) 7 = σ 7 := by funext i; exact wr_cell (by decide)
  refine ⟨⟨by rw [wr_place (by decide)]; exact c1, c2, by rw [w7]; exact c3, fun k hk => ?_⟩, ⟨h3, by rw [w2]; exact c5.2.1, ?_, ?_⟩, fun j hj => ?_, by rw [w4]; exact c7, by rw [w4]; exact c8, by rw [wr_place (by decide)]; exact c9⟩
  · obtain ⟨m1, m2⟩ := c4 k hk
    refine ⟨?_, m2⟩
    unfold MI at m1 ⊢
    rw [w2, w4]
    exact m1
  · rw [wr_same, if_pos hw]
  · rw [if_pos hw]
    rfl
  · have hj' : j < F 0 1 - 1 := hj
    have hp : plW w j < F 0 1 := by unfold plW; split <;> omega
    have := c6 (plW w j) hp
    have e9 : plW 9 (plW w j) = plW w j := by
      have : plW w j < 9 := by omega
      show (if plW w j < 9 then plW w j else _) = _
      rw [if_pos this]
    rw [e9] at this
    rw [w4]
    exact this
/-- the irons bo alone, the others without steps -/
theorem mc_bo {σ σ' : Mm} {bo : List Nat} {F' : Fg} (hO : OkF F) (h : MC σ F (orL F) (F 0 1) 9) (g : ∀ c, c = 2 ∨ c = 4 → σ' c = σ c) (g0 : ∀ j, j = 22 ∨ j = 23 → σ' 0 j = σ 0 j) (hl : σ' 0 21 = nI bo.length) (hl6 : bo.length ≤ 6) (hb : BoL (σ' 7) 0 bo) (hm : ∀ k, k ∈ bo → k < F 0 0 ∧ F' 4 k = F 4 k) (h0 : F' 0 = F 0) (h2 : F' 2 = F 2) (h3 : F' 3 = F 3) (h5 : F' 5 = F 5) (h6 : F' 6 = F 6) (h7 : F' 7 = F 7) (h8 : F' 8 = F 8) (h9 : F' 9 = F 9) : MC σ' F' bo (F 0 1) 9 := by
  obtain ⟨⟨c1, c2, c3, c4⟩, c5, c6, c7, c8, c9⟩ := h
  refine ⟨⟨hl, hl6, hb, fun k hk => ?_⟩, ⟨c5.1, by rw [g 2 (by omega)]; exact c5.2.1, by rw [g0 23 (by omega)]; exact c5.2.2.1, by rw [h0]; exact c5.2.2.2⟩, fun j hj => ?_, by rw [g 4 (by omega), h9]; exact c7, by rw [g 4 (by omega), h9]; exact c8, by rw [g0 22 (by omega), h9]; exact c9⟩
  · obtain ⟨m1, m2⟩ := hm k hk
    obtain ⟨m3, -⟩ := c4 k (orL_all hO m1)
    rw [h0]
    refine ⟨?_, m1⟩
    unfold MI at m3 ⊢
    rw [g 2 (by omega), g 4 (by omega), h2, h3, m2, h5, h6]
    exact m3
  · rw [g 4 (by omega), h7, h8]
    rw [h0] at hj
    exact c6 j hj
theorem bo_snoc {r r' : Nat → Int32} {y : Nat} : ∀ (d : List Nat) (i : Nat), BoL r i d → (∀ q, q < i + d.length → r' q = r q) → r' (i + d.length) = nI y → BoL r' i (d ++ [y])
  | [], i, _, _, h => ⟨h, trivial⟩
  | z :: d, i, hb, hq, h => by
    refine ⟨(hq i (by rw [List.length_cons]; omega)).trans hb.1, bo_snoc d (i + 1) hb.2 (fun q h9 => hq q (by rw [List.length_cons]; omega)) ?_⟩
    rw [List.length_cons] at h
    rw [show i + 1 + d.length = i + (d.length + 1) by omega]
    exact h
theorem mo_wo (hO : OkF F) {k : Nat} (N : Nat) : ∀ (c j m : Nat) (σ : Mm) (d : List Nat), j + c = F 0 0 → c + 1 + N ≤ m → d.length ≤ j → σ 0 21 = nI (F 0 0) → (∀ i, j ≤ i → i < F 0 0 → σ 7 i = nI (F 10 i)) → BoL (σ 7) 0 d → k < F 0 0 → ∃ σ', b_X7_finishWithoutIron_22 m (nI k) (nI d.length) (nI j) σ = onI (f_X7_ends [.inr (.inl 0)] (wr σ' 0 21 (nI (d ++ (orF F j c).filter (fun q => decide (q ≠ k))).length))) (fun τ1 => some (none, τ1)) (fun r1 τ1 => some (some (some (.inl r1)), τ1)) ∧ (∀ c, c ≠ 7 → σ' c = σ c) ∧ BoL (σ' 7) 0 (d ++ (orF F j c).filter (fun q => decide (q ≠ k))) := by
  have h6 := hO.1
  intro c
  induction c with
  | zero =>
    intro j m σ d hj hm hd h0 h7 hb hk
    obtain ⟨m, rfl⟩ : ∃ m', m = m' + 1 := ⟨m - 1, by omega⟩
    have e : d ++ (orF F j 0).filter (fun q => decide (q ≠ k)) = d := List.append_nil d
    rw [e]
    refine ⟨σ, ?_, fun _ _ => rfl, hb⟩
    rw [e_X7_finishWithoutIron_22, h0, if_neg (nI_nlt (by omega) (by omega))]
  | succ c ih =>
    intro j m σ d hj hm hd h0 h7 hb hk
    obtain ⟨m, rfl⟩ : ∃ m', m = m' + 1 := ⟨m - 1, by omega⟩
    have ho := ord_lt hO (show j < F 0 0 by omega)
    have i1 : inb (nI j) 6 = true := inb_nI (by omega) (by decide)
    have i2 : inb (nI d.length) 6 = true := inb_nI (by omega) (by decide)
    have ef : (orF F j (c + 1)).filter (fun q => decide (q ≠ k)) = if F 10 j = k then (orF F (j + 1) c).filter (fun q => decide (q ≠ k)) else F 10 j :: (orF F (j + 1) c).filter (fun q => decide (q ≠ k)) := by
      show List.filter _ (F 10 j :: orF F (j + 1) c) = _
      by_cases e : F 10 j = k
      · rw [if_pos e, List.filter_cons_of_neg (by simp [e])]
      · rw [if_neg e, List.filter_cons_of_pos (by simp [e])]
    rw [e_X7_finishWithoutIron_22, h0, if_pos (nI_lt (by omega) (by omega)), if_pos i1, nI_clamp (by omega), h7 j (by omega) (by omega), nI_1, ef]
    by_cases e : F 10 j = k
    · rw [if_pos e, if_pos (by rw [e])]
      exact ih (j + 1) m σ d (by omega) (by omega) (by omega) h0 (fun i h1 h2 => h7 i (by omega) h2) hb hk
    · rw [if_neg e, if_neg (fun h9 => e ((nI_eq (by omega) (by omega)).mp h9)), if_pos i1, if_pos i2, nI_clamp (by omega), nI_1]
      have el : (d ++ [F 10 j]).length = d.length + 1 := by rw [List.length_append]; rfl
      have hb' : BoL (wr σ 7 d.length (nI (F 10 j)) 7) 0 (d ++ [F 10 j]) := bo_snoc d 0 hb (fun q hq => wr_place (by omega)) (by rw [Nat.zero_add]; exact wr_same)
      have := ih (j + 1) m (wr σ 7 d.length (nI (F 10 j))) (d ++ [F 10 j]) (by omega) (by omega) (by omega) (by rw [wr_cell (by decide)]; exact h0) (fun i h1 h2 => by rw [wr_place (by omega)]; exact h7 i (by omega) h2) hb' hk
      rw [el, List.append_assoc] at this
      obtain ⟨σ', a1, a2, a3⟩ := this
      refine ⟨σ', a1, fun q hq => ?_, a3⟩
      rw [a2 q hq]
      funext i
      exact wr_cell hq
end WO
section WOQ
variable {x : Nat → Int32} {n : Nat} {ρ : Nat → Mm} {σX σM : Mm} {F : Fg}
theorem gg_35 (h : St n ρ σX σM F) : go_35 x n ρ σX σM Inv := by
  have hO := h.1.1
  have h3 := hO.2.1
  unfold go_35 GT
  rw [e_X6_finishWithoutPlace, sp_reqPlace (by omega) h.1.2.1.2.1, e_X7_finishWithoutPlace, sm_isPlace (by omega) h.1.2.2.1.2.1, onI_s, sm_checks, onI_s]
  by_cases hi : inb (x 1) (F 0 1) = true
  · left
    obtain ⟨w, hw, e9⟩ := (inb_out (by omega)).mp hi
    simp only [if_pos hi, onV_s]
    have hO' := ok_dp hO hw
    obtain ⟨τ, a1, a2, a3⟩ := xt_copy h
    have a2' : XF (pk (sgC 57 11) (put (sg2 57 32 11) σX τ)) 0 F := a2
    obtain ⟨φ', d1, d2⟩ := xd_drop hO hw a2'
    have hX : XF (put (sgC 57 11) (put (sg2 57 32 11) σX τ) φ') 57 (dpF F w) := by
      refine XF_eq (φ := fun c => φ' (c - 57)) (fun c j h1 h2 => ?_) d2
      obtain ⟨q, rfl⟩ : ∃ q, c = 57 + q := ⟨c - 57, by omega⟩
      rw [putC_in (by omega), show 57 + q - 57 = q by omega]
    obtain ⟨τ5, f1, f2, f3⟩ := xt_end (m := 480) hO' hX (by decide)
    have f1' : f_X5_endWithin [.inr (.inl 0), .inl 480] (pk (sgC 45 23) (put (sgC 57 11) (put (sg2 57 32 11) σX τ) φ')) = _ := f1
    have hSt : St n ρ (put (sgC 45 23) (put (sgC 57 11) (put (sg2 57 32 11) σX τ) φ') τ5) σM F := st_tr h (fun c hc => by
      rw [f3 c hc, putC_out (by omega), a3 c hc])
    obtain ⟨σ1, b1, b2, b3, b4, b5, b6⟩ := st_ord hSt 0
    obtain ⟨σM', g1, g2, g3, -⟩ := st_ends hSt hO' (kp_all _) (mc_dp hw b2 h3) (fun c hc => by rw [← b3 c hc]; funext j; exact wr_cell (by omega)) (fun q h0 h1 h2 h9 => by rw [wr_place h9, b4 q h0 h1 h2 h9])
    rw [a1, onV_s, e9, d1, onV_s, f1', onI_s, if_neg (show ¬ (1 : Int32) = 0 by decide), b1, onV_s, g1, onI_s]
    exact ⟨_, _, σM', rfl, rfl, by rw [g3, wr_place (by decide), b5], F, g2⟩
  · right
    simp only [if_neg hi, onV_t]
    exact ⟨0, σX, wr σM 0 0 1, rfl, rfl, wr_same, F, st_thr 1 h⟩
theorem xw_others (h : St n ρ σX σM F) {k : Nat} (hk : k < F 0 0) : ∃ σX', f_X6_finishOfOthers [.inr (.inl 0), .inl (nI k)] σX = some (some (some (.inl (opI (fnA (upA F 4 k 0) 480)))), σX') ∧ St n ρ σX' σM F := by
  have hO := h.1.1
  have h6 := hO.1
  obtain ⟨τ, a1, a2, a3⟩ := xt_copy h
  have hX := xf_many (k := k) (v := 0) a2 (fun _ => Nat.zero_le _)
  obtain ⟨τ5, f1, f2, f3⟩ := xt_end (m := 480) (ok_many (k := k) (v := 0) hO (fun _ => Nat.zero_le _)) hX (by decide)
  have f1' : f_X5_endWithin [.inr (.inl 0), .inl 480] (pk (sgC 45 23) (wr (put (sg2 57 32 11) σX τ) 61 k 0)) = _ := f1
  refine ⟨put (sgC 45 23) (wr (put (sg2 57 32 11) σX τ) 61 k 0) τ5, ?_, st_tr h (fun c hc => ?_)⟩
  · rw [e_X6_finishOfOthers, a1, onV_s, if_pos (inb_nI (by omega) (by decide)), nI_clamp (by omega), f1', onI_s]
  · have f3' : put (sgC 45 23) (wr (put (sg2 57 32 11) σX τ) 61 k 0) τ5 c = (wr (put (sg2 57 32 11) σX τ) 61 k 0) c := f3 c hc
    rw [f3']
    funext j
    rw [wr_cell (by omega), a3 c hc]
theorem mw_others (h : St n ρ σX σM F) {k : Nat} (hk : k < F 0 0) : ∃ σM', f_X7_finishWithoutIron [.inr (.inl 0), .inl (nI k)] σM = some (some (some (.inl (opI (fnA (upA F 4 k 0) 480)))), σM') ∧ St n ρ σX σM' F ∧ σM' 0 0 = 0 ∧ (∀ c, 1 ≤ c → c ≤ 6 → σM' c = σM c) := by
  have hO := h.1.1
  have h6 := hO.1
  have hO' := ok_many (k := k) (v := 0) hO (fun _ => Nat.zero_le _)
  obtain ⟨σ1, b1, b2, b3, b4, b5, b6⟩ := st_ord h 0
  have hl : σ1 0 21 = nI (F 0 0) := by rw [b2.1.1]; unfold orL; rw [orF_len]
  obtain ⟨σ2, d1, d2, d3⟩ := mo_wo hO (k := k) 10 (F 0 0) 0 bigM σ1 [] (by omega) (by unfold bigM; omega) (Nat.zero_le _) hl (fun i _ hi => b6 i hi) trivial hk
  have d1' : b_X7_finishWithoutIron_22 bigM (nI k) 0 0 σ1 = _ := d1
  have e1 : orL (upA F 4 k 0) = orL F := orL_c (up_o (by decide)) rfl
  have hK : Kp (upA F 4 k 0) ((orL F).filter (fun q => decide (q ≠ k))) := by
    refine ⟨fun q => decide (q ≠ k), by rw [e1], fun q hq h9 => ?_⟩
    have : q = k := by simpa using h9
    rw [this, upA_at, if_pos ⟨rfl, rfl⟩]
  have hlen : ((orL F).filter (fun q => decide (q ≠ k))).length ≤ 6 := by
    have h1 := List.length_filter_le (fun q => decide (q ≠ k)) (orL F)
    have h2 : (orL F).length = F 0 0 := orF_len _ _
    omega
  have hC : MC (wr σ2 0 21 (nI ((orL F).filter (fun q => decide (q ≠ k))).length)) (upA F 4 k 0) ((orL F).filter (fun q => decide (q ≠ k))) (F 0 1) 9 := by
    refine mc_bo hO b2 (fun c hc => ?_) (fun j hj => ?_) wr_same hlen ?_ (fun q hq => ?_) (up_o (by decide)) (up_o (by decide)) (up_o (by decide)) (up_o (by decide)) (up_o (by decide)) (up_o (by decide)) (up_o (by decide)) (up_o (by decide))
    · rw [← d2 c (by omega)]; funext i; exact wr_cell (by omega)
    · rw [wr_place (by omega), d2 0 (by decide)]
    · have : (wr σ2 0 21 (nI ((orL F).filter (fun q => decide (q ≠ k))).length)) 7 = σ2 7 := by funext i; exact wr_cell (by decide)
      rw [this]
      exact d3
    · obtain ⟨q1, q2⟩ := List.mem_filter.mp hq
      refine ⟨orL_lt hO q1, ?_⟩
      rw [upA_at, if_neg (fun h9 => by have : q ≠ k := by simpa using q2
                                       exact this h9.2)]
  obtain ⟨σM', g1, g2, g3, g4⟩ := st_ends h hO' hK hC (fun c hc => by rw [← b3 c hc, ← d2 c (by omega)]; funext i; exact wr_cell (by omega)) (fun q h0 h1 h2 h9 => by rw [wr_place h1, d2 0 (by decide), b4 q h0 h1 h2 h9])
  refine ⟨σM', ?_, g2, ?_, fun c hc1 hc2 => ?_⟩
  · have hc := sm_checks (σ := σM) true
    rw [if_pos rfl, if_pos rfl] at hc
    rw [e_X7_finishWithoutIron, sm_isIron hO.1 h.1.2.2.1.1, onI_s, if_pos (inb_nI hk (by omega)), hc, onI_s, if_neg (show ¬ (1 : Int32) = 0 by decide), b1, onV_s, d1']
    have g1' : f_X7_ends [.inr (.inl 0)] (wr σ2 0 21 (nI ([] ++ (orF F 0 (F 0 0)).filter (fun q => decide (q ≠ k))).length)) = _ := g1
    rw [g1', onI_s]
  · rw [g3, wr_place (by decide), d2 0 (by decide), b5]
  · rw [← b3 c (by omega), ← d2 c (by omega)]
    funext j
    rw [g4 c j (by omega), wr_cell (by omega)]
theorem gg_36 (h : St n ρ σX σM F) : go_36 x n ρ σX σM Inv := by
  have hO := h.1.1
  have h6 := hO.1
  unfold go_36 GT
  rw [e_X6_finishWithoutIron, sp_reqIron hO.1 h.1.2.1.1]
  by_cases hi : inb (x 1) (F 0 0) = true
  · left
    obtain ⟨k, hk, e9⟩ := (inb_out (by omega)).mp hi
    obtain ⟨σX', a1, a2⟩ := xw_others h hk
    obtain ⟨σM', b1, b2, b3, -⟩ := mw_others a2 hk
    rw [if_pos hi, onV_s, e9, a1, onI_s, b1]
    exact ⟨_, σX', σM', rfl, rfl, b3, F, b2⟩
  · right
    rw [e_X7_finishWithoutIron, sm_isIron hO.1 h.1.2.2.1.1, onI_s, sm_checks, onI_s]
    simp only [if_neg hi, onV_t]
    exact ⟨0, σX, wr σM 0 0 1, rfl, rfl, wr_same, F, st_thr 1 h⟩
theorem bq_crit (hO : OkF F) {L : Nat} (hL : L ≤ 480) : ∀ (c j N N' : Nat) (σX σM : Mm) (y : Int32), j + c = F 0 0 → c < N → c < N' → St n ρ σX σM F → ∃ r σX' σM', b_X6_criticalIrons_9 N (nI L) y (nI j) σX = some (some (some (.inl r)), σX') ∧ b_X7_criticalIrons_18 N' (nI L) y (nI j) σM = some (some (some (.inl r)), σM') ∧ St n ρ σX' σM' F := by
  have h6 := hO.1
  intro c
  induction c with
  | zero =>
    intro j N N' σX σM y hj hN hN' h
    obtain ⟨N, rfl⟩ : ∃ N', N = N' + 1 := ⟨N - 1, by omega⟩
    obtain ⟨N', rfl⟩ : ∃ N1, N' = N1 + 1 := ⟨N' - 1, by omega⟩
    have e1 : σX 32 0 = nI (F 0 0) := h.1.2.1.1
    refine ⟨y, σX, σM, ?_, ?_, h⟩
    · rw [e_X6_criticalIrons_9, if_neg (ne_m1 (by omega)), e1, if_neg (nI_nlt (by omega) (by omega))]
    · rw [e_X7_criticalIrons_18, h.1.2.2.1.1, if_neg (nI_nlt (by omega) (by omega))]
  | succ c ih =>
    intro j N N' σX σM y hj hN hN' h
    obtain ⟨N, rfl⟩ : ∃ N', N = N' + 1 := ⟨N - 1, by omega⟩
    obtain ⟨N', rfl⟩ : ∃ N1, N' = N1 + 1 := ⟨N' - 1, by omega⟩
    have e1 : σX 32 0 = nI (F 0 0) := h.1.2.1.1
    obtain ⟨σX1, a1, a2⟩ := xw_others h (show j < F 0 0 by omega)
    obtain ⟨σM1, b1, b2, b3, -⟩ := mw_others a2 (show j < F 0 0 by omega)
    have next := fun y => ih (j + 1) N N' σX1 σM1 y (by omega) (by omega) (by omega) b2
    have z : y ||| 0 = y := Int32.or_zero
    rw [e_X6_criticalIrons_9, if_neg (ne_m1 (by omega)), e1, if_pos (nI_lt (by omega) (by omega)), a1, onI_s, e_X7_criticalIrons_18, h.1.2.2.1.1, if_pos (nI_lt (by omega) (by omega)), if_neg (ne_m1 (by omega)), b1, onI_s, z, nI_1]
    have hO' := ok_many (k := j) (v := 0) hO (fun _ => Nat.zero_le _)
    cases hr : fnA (upA F 4 j 0) 480 with
    | none =>
      rw [if_pos (show opI none = -1 from rfl), if_pos (show opI none = -1 from rfl)]
      exact next y
    | some e =>
      have he := fn_le hO' hr
      rw [if_neg (opI_ne he), if_neg (opI_ne he)]
      by_cases hc : opI (some e) < nI L
      · rw [if_pos hc, if_pos hc]
        exact next _
      · rw [if_neg hc, if_neg hc]
        exact next y
theorem gg_56 (h : St n ρ σX σM F) : go_56 x n ρ σX σM Inv := by
  have hO := h.1.1
  have h6 := hO.1
  unfold go_56 GP
  obtain ⟨σX1, a1, a2⟩ := xf_fin h
  obtain ⟨σ1, b1, b2, b3, b4, b5, -⟩ := st_ord a2 0
  obtain ⟨σM1, d1, d2, d3, -⟩ := st_ends a2 hO (kp_all F) b2 b3 b4
  rw [e_X6_criticalIrons, a1, onI_s, e_X7_criticalIrons, b1, onV_s, d1, onI_s]
  cases hf : fnA F 480 with
  | none =>
    obtain ⟨m, hm⟩ : ∃ m, bigM = m + 1 := ⟨bigM - 1, rfl⟩
    refine ⟨0, σX1, σM1, ?_, ?_, F, d2⟩
    · rw [hm, e_X6_criticalIrons_9, if_pos (show opI none = -1 from rfl)]
    · rw [hm, e_X7_criticalIrons_18, if_pos (show opI none = -1 from rfl)]
      split <;> rfl
  | some e =>
    have he := fn_le hO hf
    obtain ⟨r, σX', σM', f1, f2, f3⟩ := bq_crit (n := n) (ρ := ρ) hO he (F 0 0) 0 bigM bigM σX1 σM1 0 (by omega) (by unfold bigM; omega) (by unfold bigM; omega) d2
    exact ⟨r, σX', σM', f1, f2, F, f3⟩
theorem xa_loop (hO : OkF F) {k : Nat} (hk : k < 2 ^ 20) : ∀ (c j m : Nat) (σ : Mm), j + c = F 0 0 → c < m → σ 57 0 = nI (F 0 0) → ∃ σ', b_X6_finishAlone_18 m (nI k) (nI j) σ = onI (f_X5_endWithin [.inr (.inl 0), .inl 480] (pk (sgC 45 23) σ')) (fun τ1 => some (none, (put (sgC 45 23) σ' τ1))) (fun r1 τ1 => some (some (some (.inl r1)), (put (sgC 45 23) σ' τ1))) ∧ (∀ c, c ≠ 61 → σ' c = σ c) ∧ (∀ i, i < F 0 0 → σ' 61 i = if j ≤ i ∧ i ≠ k then 0 else σ 61 i) := by
  have h6 := hO.1
  intro c
  induction c with
  | zero =>
    intro j m σ hj hm h0
    obtain ⟨m, rfl⟩ : ∃ m', m = m' + 1 := ⟨m - 1, by omega⟩
    refine ⟨σ, ?_, fun _ _ => rfl, fun i hi => by rw [if_neg (by omega)]⟩
    rw [e_X6_finishAlone_18, h0, if_neg (nI_nlt (by omega) (by omega))]
  | succ c ih =>
    intro j m σ hj hm h0
    obtain ⟨m, rfl⟩ : ∃ m', m = m' + 1 := ⟨m - 1, by omega⟩
    rw [e_X6_finishAlone_18, h0, if_pos (nI_lt (by omega) (by omega)), nI_1]
    by_cases e : j = k
    · rw [if_pos (by rw [e])]
      obtain ⟨σ', a1, a2, a3⟩ := ih (j + 1) m σ (by omega) (by omega) h0
      refine ⟨σ', a1, a2, fun i hi => ?_⟩
      rw [a3 i hi]
      by_cases h1 : j + 1 ≤ i ∧ i ≠ k
      · rw [if_pos h1, if_pos (by omega)]
      · rw [if_neg h1, if_neg (by omega)]
    · rw [if_neg (fun h9 => e ((nI_eq (by omega) (by omega)).mp h9)), if_pos (inb_nI (by omega) (by decide)), nI_clamp (by omega)]
      obtain ⟨σ', a1, a2, a3⟩ := ih (j + 1) m (wr σ 61 j 0) (by omega) (by omega) (by rw [wr_cell (by decide)]; exact h0)
      refine ⟨σ', a1, fun q hq => ?_, fun i hi => ?_⟩
      · rw [a2 q hq]; funext i; exact wr_cell hq
      · rw [a3 i hi]
        by_cases h1 : j + 1 ≤ i ∧ i ≠ k
        · rw [if_pos h1, if_pos (by omega)]
        · rw [if_neg h1, wr_at]
          by_cases h2 : i = j
          · rw [if_pos ⟨rfl, h2⟩, if_pos (by omega)]
          · rw [if_neg (fun h9 => h2 h9.2), if_neg (by omega)]
theorem filter_one {k : Nat} : ∀ (l : List Nat), l.Nodup → k ∈ l → l.filter (fun q => decide (q = k)) = [k]
  | [], _, h => by cases h
  | z :: l, hn, h => by
    rw [List.nodup_cons] at hn
    by_cases e : z = k
    · subst e
      rw [List.filter_cons_of_pos (by simp)]
      congr 1
      rw [List.filter_eq_nil_iff]
      intro q hq
      have : q ≠ z := fun h9 => hn.1 (h9 ▸ hq)
      simp [this]
    · rw [List.filter_cons_of_neg (by simp [e])]
      rcases List.mem_cons.mp h with h9 | h9
      · exact absurd h9.symm e
      · exact filter_one l hn.2 h9
theorem gg_37 (h : St n ρ σX σM F) : go_37 x n ρ σX σM Inv := by
  have hO := h.1.1
  have h6 := hO.1
  unfold go_37 GT
  rw [e_X6_finishAlone, sp_reqIron hO.1 h.1.2.1.1, e_X7_finishAlone, sm_isIron hO.1 h.1.2.2.1.1, onI_s, sm_checks, onI_s]
  by_cases hi : inb (x 1) (F 0 0) = true
  · left
    obtain ⟨k, hk, e9⟩ := (inb_out (by omega)).mp hi
    simp only [if_pos hi, onV_s]
    have hO' := ok_al (k := k) hO
    obtain ⟨τ, a1, a2, a3⟩ := xt_copy h
    obtain ⟨σ', d1, d2, d3⟩ := xa_loop hO (k := k) (by omega) (F 0 0) 0 bigM (put (sg2 57 32 11) σX τ) (by omega) (by unfold bigM; omega) a2.1
    have d1' : b_X6_finishAlone_18 bigM (nI k) 0 (put (sg2 57 32 11) σX τ) = _ := d1
    have hX : XF σ' 57 (alF F k) := by
      obtain ⟨x1, x2, x3, x4, x5⟩ := a2
      refine ⟨by rw [d2 57 (by decide)]; exact x1, by rw [d2 57 (by decide)]; exact x2, fun i hi9 => ?_, fun j hj => ?_, fun t ht => ?_⟩
      · obtain ⟨y1, y2, y3, y4, y5, y6⟩ := x3 i hi9
        have hi8 : i < F 0 0 := hi9
        rw [d2 (57 + 2) (by decide), d2 (57 + 3) (by decide), d2 (57 + 10) (by decide), d2 (57 + 1) (by decide), d2 (57 + 5) (by decide), d2 (57 + 6) (by decide)]
        refine ⟨y1, y2, ?_, y4, fun s hs => ?_, y6⟩
        · have : σ' (57 + 4) i = _ := d3 i hi8
          rw [this]
          unfold alF
          by_cases e : i = k
          · rw [if_neg (fun h9 => h9.2 e), if_neg (fun h9 => h9.2 e)]
            exact y3
          · rw [if_pos ⟨Nat.zero_le _, e⟩, if_pos ⟨rfl, e⟩]
            rfl
        · refine y5 s (Nat.lt_of_lt_of_le hs ?_)
          unfold alF
          split
          · exact Nat.zero_le _
          · exact Nat.le_refl _
      · rw [d2 (57 + 7) (by decide), d2 (57 + 8) (by decide)]
        exact x4 j hj
      · rw [d2 (57 + 9) (by decide)]
        exact x5 t ht
    obtain ⟨τ5, f1, f2, f3⟩ := xt_end (m := 480) hO' hX (by decide)
    have f1' : f_X5_endWithin [.inr (.inl 0), .inl 480] (pk (sgC 45 23) σ') = _ := f1
    have hSt : St n ρ (put (sgC 45 23) σ' τ5) σM F := st_tr h (fun c hc => by rw [f3 c hc, d2 c (by omega), a3 c hc])
    obtain ⟨σ1, b1, b2, b3, b4, b5, b6⟩ := st_ord hSt 0
    have e1 : orL (alF F k) = orL F := orL_c rfl rfl
    have e2 : (orL F).filter (fun q => decide (q = k)) = [k] := filter_one _ (bo_nodup hO (kp_all F)) (orL_all hO hk)
    have hK : Kp (alF F k) [k] := by
      refine ⟨fun q => decide (q = k), by rw [e1, e2], fun q hq h9 => ?_⟩
      have : q ≠ k := by simpa using h9
      unfold alF
      rw [if_pos ⟨rfl, this⟩]
    have hC : MC (wr (wr σ1 7 0 (nI k)) 0 21 1) (alF F k) [k] (F 0 1) 9 := by
      refine mc_bo hO b2 (fun c hc => ?_) (fun j hj => ?_) wr_same (show 1 ≤ 6 by omega) ⟨?_, trivial⟩ (fun q hq => ?_) rfl rfl rfl rfl rfl rfl rfl rfl
      · funext i; rw [wr_cell (by omega), wr_cell (by omega)]
      · rw [wr_place (by omega), wr_cell (by decide)]
      · rw [wr_cell (by decide), wr_same]
      · rw [List.mem_singleton] at hq
        rw [hq]
        refine ⟨hk, ?_⟩
        unfold alF
        rw [if_neg (fun h9 => h9.2 rfl)]
    obtain ⟨σM', g1, g2, g3, -⟩ := st_ends hSt hO' hK hC (fun c hc => by rw [← b3 c hc]; funext i; rw [wr_cell (by omega), wr_cell (by omega)]) (fun q h0 h1 h2 h9 => by rw [wr_place h1, wr_cell (by decide), b4 q h0 h1 h2 h9])
    rw [a1, onV_s, e9, d1', f1', onI_s, if_neg (show ¬ (1 : Int32) = 0 by decide), b1, onV_s, g1, onI_s]
    exact ⟨_, _, σM', rfl, rfl, by rw [g3, wr_place (by decide), wr_cell (by decide), b5], F, g2⟩
  · right
    simp only [if_neg hi, onV_t]
    exact ⟨0, σX, wr σM 0 0 1, rfl, rfl, wr_same, F, st_thr 1 h⟩
end WOQ
