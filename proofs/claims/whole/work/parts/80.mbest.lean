/-! the reference goes through the orders -/
section MBEST
variable {F : Fg}
def Fb (σ σ' : Mm) : Prop := ∀ c, c ≠ 7 → σ' c = σ c
theorem Fb_trans {a b c : Mm} (h1 : Fb a b) (h2 : Fb b c) : Fb a c := fun q h => (h2 q h).trans (h1 q h)
theorem ma_exch {σ : Mm} {n i j : Nat} {o : Nat → Nat} (hn : n ≤ 6) (h : Ov (σ 7) n o) (hi : i < n) (hj : j < n) : ∃ σ', f_X7_swaps [.inr (.inl 0), .inl (nI i), .inl (nI j)] σ = some (some none, σ') ∧ Fb σ σ' ∧ Ov (σ' 7) n (swA o i j) := by
  have i1 : inb (nI i) 6 = true := inb_nI (by omega) (by decide)
  have i2 : inb (nI j) 6 = true := inb_nI (by omega) (by decide)
  refine ⟨wr (wr σ 7 i (σ 7 j)) 7 j (σ 7 i), ?_, fun c hc => ?_, ov_sw h hi hj⟩
  · rw [e_X7_swaps, if_pos i1, if_pos i2, if_pos i1, if_pos i2, nI_clamp (by omega), nI_clamp (by omega)]
  · funext q
    rw [wr_cell hc, wr_cell hc]
theorem ma_rev {n : Nat} (hn : n ≤ 6) : ∀ (c a b m : Nat) (σ : Mm) (o : Nat → Nat), b < n → a < 2 ^ 20 → b ≤ a + 2 * c → c < m → Ov (σ 7) n o → ∃ σ', b_X7_nextOrder_86 m (nI a) (nI b) σ = some (some (some (.inl 1)), σ') ∧ Fb σ σ' ∧ Ov (σ' 7) n (rvA c a b o)
  | 0, a, b, m, σ, o, hb, ha, hc, hm, h => by
    obtain ⟨m, rfl⟩ : ∃ m', m = m' + 1 := ⟨m - 1, by omega⟩
    refine ⟨σ, ?_, fun _ _ => rfl, h⟩
    rw [e_X7_nextOrder_86, if_neg (nI_nlt (by omega) (by omega))]
  | c + 1, a, b, m, σ, o, hb, ha, hc, hm, h => by
    obtain ⟨m, rfl⟩ : ∃ m', m = m' + 1 := ⟨m - 1, by omega⟩
    unfold rvA
    rw [e_X7_nextOrder_86]
    by_cases e : a < b
    · obtain ⟨b', rfl⟩ : ∃ b', b = b' + 1 := ⟨b - 1, by omega⟩
      obtain ⟨σ1, a1, a2, a3⟩ := ma_exch hn h (show a < n by omega) hb
      rw [if_pos (nI_lt e (by omega)), a1, onV_s, nI_1, neg1, if_pos e]
      obtain ⟨σ', d1, d2, d3⟩ := ma_rev hn c (a + 1) b' m _ _ (by omega) (by omega) (by omega) (by omega) a3
      exact ⟨σ', d1, Fb_trans a2 d2, d3⟩
    · rw [if_neg (nI_nlt (by omega) (by omega)), if_neg e]
      exact ⟨σ, rfl, fun _ _ => rfl, h⟩
theorem ma_rise {n : Nat} (hn : n ≤ 6) {σ : Mm} {o : Nat → Nat} (h : Ov (σ 7) n o) (hb : ∀ i, i < n → o i < 8) : ∀ (i m M : Nat), i + 1 < n → i + 3 + M ≤ m → (riA o (i + 1) = none ∧ b_X7_nextOrder_7 m (nI i) σ = some (some (some (.inl 0)), σ)) ∨ ∃ r m', M ≤ m' ∧ riA o (i + 1) = some r ∧ b_X7_nextOrder_7 m (nI i) σ = b_X7_nextOrder_34 m' (nI r) σ := by
  intro i
  induction i with
  | zero =>
    intro m M hi hm
    obtain ⟨m, rfl⟩ : ∃ m', m = m' + 2 := ⟨m - 2, by omega⟩
    have b1 := hb 1 (by omega)
    have b0 := hb 0 (by omega)
    have e1 : riA o (0 + 1) = if o 1 < o 0 then none else some 0 := rfl
    rw [e_X7_nextOrder_7, if_neg (nI_pos (by omega)), nI_1, if_pos (inb_nI (by omega) (by decide)), if_pos (inb_nI (by omega) (by decide)), nI_clamp (by omega), nI_clamp (by omega), h 0 (by omega), h (0 + 1) (by omega), e1]
    by_cases hc : o 1 < o 0
    · left
      rw [if_pos hc, if_pos (nI_lt hc (by omega)), e_X7_nextOrder_7, if_pos (show nI 0 + (-1) < 0 by decide)]
      obtain ⟨m, rfl⟩ : ∃ m', m = m' + 1 := ⟨m - 1, by omega⟩
      rw [e_X7_nextOrder_34, if_pos (show nI 0 + (-1) < 0 by decide)]
      exact ⟨rfl, rfl⟩
    · right
      rw [if_neg hc, if_neg (nI_nlt (show o 0 ≤ o (0 + 1) by show o 0 ≤ o 1; omega) (by show o 1 < _; omega))]
      exact ⟨0, m + 1, by omega, rfl, rfl⟩
  | succ i ih =>
    intro m M hi hm
    obtain ⟨m, rfl⟩ : ∃ m', m = m' + 1 := ⟨m - 1, by omega⟩
    have b1 := hb (i + 1 + 1) (by omega)
    have b0 := hb (i + 1) (by omega)
    have e1 : riA o (i + 1 + 1) = if o (i + 1 + 1) < o (i + 1) then riA o (i + 1) else some (i + 1) := rfl
    rw [e_X7_nextOrder_7, if_neg (nI_pos (by omega)), nI_1, if_pos (inb_nI (by omega) (by decide)), if_pos (inb_nI (by omega) (by decide)), nI_clamp (by omega), nI_clamp (by omega), h (i + 1) (by omega), h (i + 1 + 1) (by omega), e1, neg1]
    by_cases hc : o (i + 1 + 1) < o (i + 1)
    · rw [if_pos hc, if_pos (nI_lt hc (by omega))]
      exact ih m M (by omega) (by omega)
    · right
      rw [if_neg hc, if_neg (nI_nlt (by omega) (by omega))]
      exact ⟨i + 1, m, by omega, rfl, rfl⟩
theorem ma_great {n r : Nat} (hn : n ≤ 6) {σ : Mm} {o : Nat → Nat} (hN : σ 0 21 = nI n) (h : Ov (σ 7) n o) (hb : ∀ i, i < n → o i < 8) (hr : ¬ o (r + 1) < o r) : ∀ (j m M : Nat), r < j → j < n → j + 1 + M ≤ m → ∃ m', M ≤ m' ∧ b_X7_nextOrder_47 m (nI r) (nI j) σ = onV (f_X7_swaps [.inr (.inl 0), .inl (nI r), .inl (nI (grA o (o r) j))] σ) (fun τ1 => some (none, τ1)) (fun τ1 => b_X7_nextOrder_86 m' (nI r + 1) ((τ1 0 21) - 1) τ1) := by
  intro j
  induction j with
  | zero => intro m M hj; omega
  | succ j ih =>
    intro m M hj hjn hm
    obtain ⟨m, rfl⟩ : ∃ m', m = m' + 1 := ⟨m - 1, by omega⟩
    have b1 := hb (j + 1) hjn
    have b0 := hb r (by omega)
    have e1 : grA o (o r) (j + 1) = if o (j + 1) < o r then grA o (o r) j else j + 1 := rfl
    rw [e_X7_nextOrder_47, if_pos (inb_nI (by omega) (by decide)), if_pos (inb_nI (by omega) (by decide)), nI_clamp (by omega), nI_clamp (by omega), h r (by omega), h (j + 1) (by omega), e1, neg1]
    by_cases hc : o (j + 1) < o r
    · have hne : j ≠ r := fun h9 => hr (h9 ▸ hc)
      rw [if_pos hc, if_pos (nI_lt hc (by omega))]
      exact ih m M (by omega) (by omega) (by omega)
    · rw [if_neg hc, if_neg (nI_nlt (by omega) (by omega))]
      exact ⟨m, by omega, rfl⟩
theorem ma_next {n : Nat} (hn : n ≤ 6) {σ : Mm} {o : Nat → Nat} (hN : σ 0 21 = nI n) (h : Ov (σ 7) n o) (hb : ∀ i, i < n → o i < 8) : (nxA n o = none ∧ f_X7_nextOrder [.inr (.inl 0)] σ = some (some (some (.inl 0)), σ)) ∨ ∃ p σ', nxA n o = some p ∧ f_X7_nextOrder [.inr (.inl 0)] σ = some (some (some (.inl 1)), σ') ∧ Fb σ σ' ∧ Ov (σ' 7) n p := by
  rw [e_X7_nextOrder, hN]
  obtain ⟨m, hm⟩ : ∃ m, bigM = m + 2 := ⟨bigM - 2, rfl⟩
  by_cases h2 : n < 2
  · left
    have hneg : nI n - 2 < 0 := by
      rcases (show n = 0 ∨ n = 1 by omega) with rfl | rfl <;> decide
    have e1 : n - 1 = 0 := by omega
    refine ⟨?_, ?_⟩
    · unfold nxA
      rw [e1]
      rfl
    · rw [hm, e_X7_nextOrder_7, if_pos hneg, e_X7_nextOrder_34, if_pos hneg]
  · have e2 : nI n - 2 = nI (n - 2) := nI_sub (b := 2) (by omega)
    rw [e2]
    have e3 : n - 2 + 1 = n - 1 := by omega
    rcases ma_rise hn h hb (n - 2) bigM 50 (by omega) (by unfold bigM; omega) with ⟨a1, a2⟩ | ⟨r, m', a0, a1, a2⟩
    · left
      rw [e3] at a1
      refine ⟨?_, a2⟩
      unfold nxA
      rw [a1]
    · right
      rw [e3] at a1
      obtain ⟨hr1, hr2⟩ := ri_lt _ a1
      obtain ⟨m1, rfl⟩ : ∃ m1, m' = m1 + 1 := ⟨m' - 1, by omega⟩
      obtain ⟨m2, d0, d1⟩ := ma_great hn hN h hb hr2 (n - 1) m1 20 hr1 (by omega) (by omega)
      have hg := gr_le (o := o) (x := o r) (n - 1)
      have hg2 := gr_gt hr2 (n - 1) hr1
      obtain ⟨σ1, f1, f2, f3⟩ := ma_exch hn h (show r < n by omega) (show grA o (o r) (n - 1) < n by omega)
      have e4 : nI n - 1 = nI (n - 1) := nI_sub (b := 1) (by omega)
      obtain ⟨σ', g1, g2, g3⟩ := ma_rev hn 6 (r + 1) (n - 1) m2 _ _ (by omega) (by omega) (by omega) (by omega) f3
      refine ⟨rvA 6 (r + 1) (n - 1) (swA o r (grA o (o r) (n - 1))), σ', ?_, ?_, Fb_trans f2 g2, g3⟩
      · unfold nxA
        rw [a1]
      · rw [a2, e_X7_nextOrder_34, if_neg (nI_pos (by omega)), hN, e4, d1, f1, onV_s, f2 0 (by decide), hN, e4, nI_1]
        exact g1
/-- another order -/
theorem mc_o (hO : OkF F) {σ σ' : Mm} {o p : Nat → Nat} {P : Nat} (hp : Pm (F 0 0) p) (h : MC σ (oF F o) (orL (oF F o)) P 9) (h0 : ∀ j, j = 21 ∨ j = 22 ∨ j = 23 → σ' 0 j = σ 0 j) (h2 : σ' 2 = σ 2) (h4 : σ' 4 = σ 4) (h7 : Ov (σ' 7) (F 0 0) p) : MC σ' (oF F p) (orL (oF F p)) P 9 := by
  obtain ⟨⟨c1, c2, c3, c4⟩, c5, c6, c7, c8, c9⟩ := h
  have hl : ∀ o, (orL (oF F o)).length = F 0 0 := fun o => orF_len _ _
  have hOp := ok_oF hO hp
  refine ⟨⟨?_, ?_, ?_, fun k hk => ?_⟩, ⟨c5.1, ?_, ?_, c5.2.2.2⟩, ?_, ?_, ?_, ?_⟩
  · rw [h0 21 (by omega), c1, hl, hl]
  · rw [hl, ← hl o]; exact c2
  · exact bo_orF _ _ (fun i _ hi => h7 i (by
      have : i < F 0 0 := by have h9 : (oF F p) 0 0 = F 0 0 := rfl; omega
      exact this))
  · have hk6 : k < F 0 0 := orL_lt hOp hk
    have hk' : k ∈ orL (oF F o) := by
      sorry
    obtain ⟨hM, -⟩ := c4 k hk'
    refine ⟨?_, hk6⟩
    unfold MI at hM ⊢
    rw [h2, h4]
    exact hM
  · rw [h2]; exact c5.2.1
  · rw [h0 23 (by omega)]; exact c5.2.2.1
  · rw [h4]; exact c6
  · rw [h4]; exact c7
  · rw [h4]; exact c8
  · rw [h0 22 (by omega)]; exact c9
end MBEST
