/-! the reference goes through the orders -/
section MBEST
variable {F : Fg}
def Fb (σ σ' : Mm) : Prop := ∀ c, c ≠ 7 → σ' c = σ c
theorem Fb_trans {a b c : Mm} (h1 : Fb a b) (h2 : Fb b c) : Fb a c := fun q h => (h2 q h).trans (h1 q h)
theorem ma_exch {σ : Mm} {n i j : Nat} {o : Nat → Nat} (hn : n ≤ 6) (h : Ov (σ 7) n o) (hi : i < n) (hj : j < n) : ∃ σ', f_X7_swaps [.inr (.inl 0), .inl (nI i), .inl (nI j)] σ = some (some none, σ') ∧ Fb σ σ' ∧ Ov (σ' 7) n (swA o i j) := by
  have i1 : inb (nI i) 6 = true := inb_nI (by omega) (by decide)
  have i2 : inb (nI j) 6 = true := inb_nI (by omega) (by decide)
  refine ⟨wr (wr σ 7 i (σ 7 j)) 7 j (σ 7 i), ?_, fun c hc => ?_, ov_sw h hi hj⟩
  · rw [e_X7_swaps, if_pos i1, if_pos i2, if_pos i1, if_pos i2, nI_clamp (by omega), nI_clamp (by omega)]
  · funext q
    rw [wr_cell hc, wr_cell hc]
theorem ma_rev {n : Nat} (hn : n ≤ 6) : ∀ (c a b m : Nat) (σ : Mm) (o : Nat → Nat), b < n → a < 2 ^ 20 → b ≤ a + 2 * c → c < m → Ov (σ 7) n o → ∃ σ', b_X7_nextOrder_86 m (nI a) (nI b) σ = some (some (some (.inl 1)), σ') ∧ Fb σ σ' ∧ Ov (σ' 7) n (rvA c a b o)
  | 0, a, b, m, σ, o, hb, ha, hc, hm, h => by
    obtain ⟨m, rfl⟩ : ∃ m', m = m' + 1 := ⟨m - 1, by omega⟩
    refine ⟨σ, ?_, fun _ _ => rfl, h⟩
    rw [e_X7_nextOrder_86, if_neg (nI_nlt (by omega) (by omega))]
  | c + 1, a, b, m, σ, o, hb, ha, hc, hm, h => by
    obtain ⟨m, rfl⟩ : ∃ m', m = m' + 1 := ⟨m - 1, by omega⟩
    unfold rvA
    rw [e_X7_nextOrder_86]
    by_cases e : a < b
    · obtain ⟨b', rfl⟩ : ∃ b', b = b' + 1 := ⟨b - 1, by omega⟩
      obtain ⟨σ1, a1, a2, a3⟩ := ma_exch hn h (show a < n by omega) hb
      rw [if_pos (nI_lt e (by omega)), a1, onV_s, nI_1, neg1, if_pos e]
      obtain ⟨σ', d1, d2, d3⟩ := ma_rev hn c (a + 1) b' m _ _ (by omega) (by omega) (by omega) (by omega) a3
      exact ⟨σ', d1, Fb_trans a2 d2, d3⟩
    · rw [if_neg (nI_nlt (by omega) (by omega)), if_neg e]
      exact ⟨σ, rfl, fun _ _ => rfl, h⟩
theorem ma_rise {n : Nat} (hn : n ≤ 6) {σ : Mm} {o : Nat → Nat} (h : Ov (σ 7) n o) (hb : ∀ i, i < n → o i < 8) : ∀ (i m M : Nat), i + 1 < n → i + 3 + M ≤ m → (riA o (i + 1) = none ∧ b_X7_nextOrder_7 m (nI i) σ = some (some (some (.inl 0)), σ)) ∨ ∃ r m', M ≤ m' ∧ riA o (i + 1) = some r ∧ b_X7_nextOrder_7 m (nI i) σ = b_X7_nextOrder_34 m' (nI r) σ := by
  intro i
  induction i with
  | zero =>
    intro m M hi hm
    obtain ⟨m, rfl⟩ : ∃ m', m = m' + 2 := ⟨m - 2, by omega⟩
    have b1 := hb 1 (by omega)
    have b0 := hb 0 (by omega)
    have e1 : riA o (0 + 1) = if o 1 < o 0 then none else some 0 := rfl
    rw [e_X7_nextOrder_7, if_neg (nI_pos (by omega)), nI_1, if_pos (inb_nI (by omega) (by decide)), if_pos (inb_nI (by omega) (by decide)), nI_clamp (by omega), nI_clamp (by omega), h 0 (by omega), h (0 + 1) (by omega), e1]
    by_cases hc : o 1 < o 0
    · left
      rw [if_pos hc, if_pos (nI_lt hc (by omega)), e_X7_nextOrder_7, if_pos (show nI 0 + (-1) < 0 by decide)]
      obtain ⟨m, rfl⟩ : ∃ m', m = m' + 1 := ⟨m - 1, by omega⟩
      rw [e_X7_nextOrder_34, if_pos (show nI 0 + (-1) < 0 by decide)]
      exact ⟨rfl, rfl⟩
    · right
      rw [if_neg hc, if_neg (nI_nlt (show o 0 ≤ o (0 + 1) by show o 0 ≤ o 1; omega) (by show o 1 < _; omega))]
      exact ⟨0, m + 1, by omega, rfl, rfl⟩
  | succ i ih =>
    intro m M hi hm
    obtain ⟨m, rfl⟩ : ∃ m', m = m' + 1 := ⟨m - 1, by omega⟩
    have b1 := hb (i + 1 + 1) (by omega)
    have b0 := hb (i + 1) (by omega)
    have e1 : riA o (i + 1 + 1) = if o (i + 1 + 1) < o (i + 1) then riA o (i + 1) else some (i + 1) := rfl
    rw [e_X7_nextOrder_7, if_neg (nI_pos (by omega)), nI_1, if_pos (inb_nI (by omega) (by decide)), if_pos (inb_nI (by omega) (by decide)), nI_clamp (by omega), nI_clamp (by omega), h (i + 1) (by omega), h (i + 1 + 1) (by omega), e1, neg1]
    by_cases hc : o (i + 1 + 1) < o (i + 1)
    · rw [if_pos hc, if_pos (nI_lt hc (by omega))]
      exact ih m M (by omega) (by omega)
    · right
      rw [if_neg hc, if_neg (nI_nlt (by omega) (by omega))]
      exact ⟨i + 1, m, by omega, rfl, rfl⟩
theorem ma_great {n r : Nat} (hn : n ≤ 6) {σ : Mm} {o : Nat → Nat} (hN : σ 0 21 = nI n) (h : Ov (σ 7) n o) (hb : ∀ i, i < n → o i < 8) (hr : ¬ o (r + 1) < o r) : ∀ (j m M : Nat), r < j → j < n → j + 1 + M ≤ m → ∃ m', M ≤ m' ∧ b_X7_nextOrder_47 m (nI r) (nI j) σ = onV (f_X7_swaps [.inr (.inl 0), .inl (nI r), .inl (nI (grA o (o r) j))] σ) (fun τ1 => some (none, τ1)) (fun τ1 => b_X7_nextOrder_86 m' (nI r + 1) ((τ1 0 21) - 1) τ1) := by
  intro j
  induction j with
  | zero => intro m M hj; omega
  | succ j ih =>
    intro m M hj hjn hm
    obtain ⟨m, rfl⟩ : ∃ m', m = m' + 1 := ⟨m - 1, by omega⟩
    have b1 := hb (j + 1) hjn
    have b0 := hb r (by omega)
    have e1 : grA o (o r) (j + 1) = if o (j + 1) < o r then grA o (o r) j else j + 1 := rfl
    rw [e_X7_nextOrder_47, if_pos (inb_nI (by omega) (by decide)), if_pos (inb_nI (by omega) (by decide)), nI_clamp (by omega), nI_clamp (by omega), h r (by omega), h (j + 1) (by omega), e1, neg1]
    by_cases hc : o (j + 1) < o r
    · have hne : j ≠ r := fun h9 => hr (h9 ▸ hc)
      rw [if_pos hc, if_pos (nI_lt hc (by omega))]
      exact ih m M (by omega) (by omega) (by omega)
    · rw [if_neg hc, if_neg (nI_nlt (by omega) (by omega))]
      exact ⟨m, by omega, rfl⟩
theorem ma_next {n : Nat} (hn : n ≤ 6) {σ : Mm} {o : Nat → Nat} (hN : σ 0 21 = nI n) (h : Ov (σ 7) n o) (hb : ∀ i, i < n → o i < 8) : (nxA n o = none ∧ f_X7_nextOrder [.inr (.inl 0)] σ = some (some (some (.inl 0)), σ)) ∨ ∃ p σ', nxA n o = some p ∧ f_X7_nextOrder [.inr (.inl 0)] σ = some (some (some (.inl 1)), σ') ∧ Fb σ σ' ∧ Ov (σ' 7) n p := by
  rw [e_X7_nextOrder, hN]
  obtain ⟨m, hm⟩ : ∃ m, bigM = m + 2 := ⟨bigM - 2, rfl⟩
  by_cases h2 : n < 2
  · left
    have hneg : nI n - 2 < 0 := by
      rcases (show n = 0 ∨ n = 1 by omega) with rfl | rfl <;> decide
    have e1 : n - 1 = 0 := by omega
    refine ⟨?_, ?_⟩
    · unfold nxA
      rw [e1]
      rfl
    · rw [hm, e_X7_nextOrder_7, if_pos hneg, e_X7_nextOrder_34, if_pos hneg]
  · have e2 : nI n - 2 = nI (n - 2) := nI_sub (b := 2) (by omega)
    rw [e2]
    have e3 : n - 2 + 1 = n - 1 := by omega
    rcases ma_rise hn h hb (n - 2) bigM 50 (by omega) (by unfold bigM; omega) with ⟨a1, a2⟩ | ⟨r, m', a0, a1, a2⟩
    · left
      rw [e3] at a1
      refine ⟨?_, a2⟩
      unfold nxA
      rw [a1]
    · right
      rw [e3] at a1
      obtain ⟨hr1, hr2⟩ := ri_lt _ a1
      obtain ⟨m1, rfl⟩ : ∃ m1, m' = m1 + 1 := ⟨m' - 1, by omega⟩
      obtain ⟨m2, d0, d1⟩ := ma_great hn hN h hb hr2 (n - 1) m1 20 hr1 (by omega) (by omega)
      have hg := gr_le (o := o) (x := o r) (n - 1)
      have hg2 := gr_gt hr2 (n - 1) hr1
      obtain ⟨σ1, f1, f2, f3⟩ := ma_exch hn h (show r < n by omega) (show grA o (o r) (n - 1) < n by omega)
      have e4 : nI n - 1 = nI (n - 1) := nI_sub (b := 1) (by omega)
      obtain ⟨σ', g1, g2, g3⟩ := ma_rev hn 6 (r + 1) (n - 1) m2 _ _ (by omega) (by omega) (by omega) (by omega) f3
      refine ⟨rvA 6 (r + 1) (n - 1) (swA o r (grA o (o r) (n - 1))), σ', ?_, ?_, Fb_trans f2 g2, g3⟩
      · unfold nxA
        rw [a1]
      · rw [a2, e_X7_nextOrder_34, if_neg (nI_pos (by omega)), hN, e4, d1, f1, onV_s, f2 0 (by decide), hN, e4, nI_1]
        exact g1
/-- another order -/
theorem mc_o (hO : OkF F) {σ σ' : Mm} {o p : Nat → Nat} {P : Nat} (ho : Pm (F 0 0) o) (hp : Pm (F 0 0) p) (h : MC σ (oF F o) (orL (oF F o)) P 9) (h0 : ∀ j, j = 21 ∨ j = 22 ∨ j = 23 → σ' 0 j = σ 0 j) (h2 : σ' 2 = σ 2) (h4 : σ' 4 = σ 4) (h7 : Ov (σ' 7) (F 0 0) p) : MC σ' (oF F p) (orL (oF F p)) P 9 := by
  obtain ⟨⟨c1, c2, c3, c4⟩, c5, c6, c7, c8, c9⟩ := h
  have hl : ∀ o, (orL (oF F o)).length = F 0 0 := fun o => orF_len _ _
  have hOp := ok_oF hO hp
  refine ⟨⟨?_, ?_, ?_, fun k hk => ?_⟩, ⟨c5.1, ?_, ?_, c5.2.2.2⟩, ?_, ?_, ?_, ?_⟩
  · rw [h0 21 (by omega), c1, hl, hl]
  · rw [hl, ← hl o]; exact c2
  · exact bo_orF _ _ (fun i _ hi => h7 i (by
      have : i < F 0 0 := by have h9 : (oF F p) 0 0 = F 0 0 := rfl; omega
      exact this))
  · have hk6 : k < F 0 0 := orL_lt hOp hk
    have hk' : k ∈ orL (oF F o) := orL_all (ok_oF hO ho) hk6
    obtain ⟨hM, -⟩ := c4 k hk'
    refine ⟨?_, hk6⟩
    unfold MI at hM ⊢
    rw [h2, h4]
    exact hM
  · rw [h2]; exact c5.2.1
  · rw [h0 23 (by omega)]; exact c5.2.2.1
  · rw [h4]; exact c6
  · rw [h4]; exact c7
  · rw [h4]; exact c8
  · rw [h0 22 (by omega)]; exact c9
/-- the reference's best order so far -/
def Bm (σ : Mm) (F : Fg) (s : Option Nat × Nat × (Nat → Nat)) : Prop := σ 0 40 = opI s.1 ∧ σ 0 41 = nI s.2.1 ∧ (s.1 ≠ none → Ov (σ 21) (F 0 0) s.2.2) ∧ (∀ e, s.1 = some e → e ≤ 480)
/-- what a step of tries() leaves alone -/
def Fw (σ σ' : Mm) : Prop := (∀ c, (1 ≤ c ∧ c ≤ 6) ∨ (15 ≤ c ∧ c ≤ 20) → σ' c = σ c) ∧ (∀ j, j ≠ 40 → j ≠ 41 → σ' 0 j = σ 0 j)
theorem Fw_trans {a b c : Mm} (h1 : Fw a b) (h2 : Fw b c) : Fw a c := ⟨fun q h => (h2.1 q h).trans (h1.1 q h), fun j a b => (h2.2 j a b).trans (h1.2 j a b)⟩
theorem Fw_fx {a b : Mm} (h : Fxm a b) : Fw a b := ⟨fun q h9 => funext (fun j => h q j (by omega)), fun j _ _ => h 0 j (by omega)⟩
theorem Fw_fb {a b : Mm} (h : Fb a b) : Fw a b := ⟨fun q h9 => h q (by omega), fun j _ _ => by rw [h 0 (by decide)]⟩
theorem mt_copy {σ0 : Mm} {n : Nat} (hn : n ≤ 6) (x : Int32) (N : Nat) : ∀ (c j m : Nat) (σ : Mm), j + c = n → c + 1 + N ≤ m → σ 0 21 = nI n → (∀ q, q ≠ 21 → σ q = σ0 q) → (∀ i, i < j → σ 21 i = σ0 7 i) → ∃ m' σ', N ≤ m' ∧ b_X7_tries_94 m x (nI j) σ = b_X7_tries_120 m' x σ' ∧ (∀ q, q ≠ 21 → σ' q = σ0 q) ∧ (∀ i, i < n → σ' 21 i = σ0 7 i) := by
  intro c
  induction c with
  | zero =>
    intro j m σ hj hm h0 hq h
    obtain ⟨m, rfl⟩ : ∃ m', m = m' + 1 := ⟨m - 1, by omega⟩
    refine ⟨m, σ, by omega, ?_, hq, fun i hi => h i (by omega)⟩
    rw [e_X7_tries_94, h0, if_neg (nI_nlt (by omega) (by omega))]
  | succ c ih =>
    intro j m σ hj hm h0 hq h
    obtain ⟨m, rfl⟩ : ∃ m', m = m' + 1 := ⟨m - 1, by omega⟩
    have hi : inb (nI j) 6 = true := inb_nI (by omega) (by decide)
    rw [e_X7_tries_94, h0, if_pos (nI_lt (by omega) (by omega)), if_pos hi, if_pos hi, nI_clamp (by omega), nI_1]
    refine ih (j + 1) m _ (by omega) (by omega) (by rw [wr_cell (by decide)]; exact h0) (fun q hq' => ?_) (fun i hi' => ?_)
    · rw [← hq q hq']; funext i; exact wr_cell hq'
    · by_cases e : i = j
      · rw [e, wr_same, hq 7 (by decide)]
      · rw [wr_place e]; exact h i (by omega)
theorem mt_step (hO : OkF F) {o : Nat → Nat} (hP : Pm (F 0 0) o) {σ : Mm} {P : Nat} {s : Option Nat × Nat × (Nat → Nat)} (hC : MC σ (oF F o) (orL (oF F o)) P 9) (hov : Ov (σ 7) (F 0 0) o) (hB : Bm σ F s) (m : Nat) : ∃ m' σ' y, 20 + m ≤ m' + 0 ∧ b_X7_tries_52 (m + 40) 1 σ = onI (f_X7_nextOrder [.inr (.inl 0)] (wr σ' 0 41 y)) (fun τ1 => some (none, τ1)) (fun r1 τ1 => b_X7_tries_52 m' r1 τ1) ∧ Fw σ (wr σ' 0 41 y) ∧ (wr σ' 0 41 y) 7 = σ 7 ∧ Bm (wr σ' 0 41 y) F (stA F o s) := by
  have hOo := ok_oF hO hP
  have h6 := hO.1
  obtain ⟨b1, b2, b3, b4⟩ := hB
  obtain ⟨τ1, a1, a2⟩ := mf_ends hOo (kp_all (oF F o)) hC
  have t0 : ∀ j, τ1 0 j = σ 0 j := fun j => a2 0 j (by omega)
  have t7 : τ1 7 = σ 7 := funext (fun j => a2 7 j (by omega))
  have t21 : τ1 21 = σ 21 := funext (fun j => a2 21 j (by omega))
  have e21 : τ1 0 21 = nI (F 0 0) := by rw [t0, hC.1.1]; unfold orL; rw [orF_len]; rfl
  rw [show m + 40 = (m + 39) + 1 from rfl, e_X7_tries_52, if_neg (by decide), a1, onI_s]
  -- nothing better
  have keep : ∀ (m1 : Nat) (y : Nat) (τ2 : Mm), (∀ q, q ≠ 0 → q ≠ 21 → τ2 q = τ1 q) → (∀ j, j ≠ 40 → j ≠ 41 → τ2 0 j = τ1 0 j) → ∀ s', Bm (wr τ2 0 41 (nI y)) F s' → b_X7_tries_143 (m1 + 1) (τ2 0 41) (nI y - τ2 0 41) τ2 = onI (f_X7_nextOrder [.inr (.inl 0)] (wr τ2 0 41 (τ2 0 41 + (nI y - τ2 0 41)))) (fun τ1 => some (none, τ1)) (fun r1 τ1 => b_X7_tries_52 m1 r1 τ1) := fun m1 y τ2 _ _ s' _ => e_X7_tries_143 _ _ _ _
  have frame : ∀ (τ2 : Mm) (y : Int32), (∀ q, q ≠ 0 → q ≠ 21 → τ2 q = τ1 q) → (∀ j, j ≠ 40 → j ≠ 41 → τ2 0 j = τ1 0 j) → Fw σ (wr τ2 0 41 y) ∧ (wr τ2 0 41 y) 7 = σ 7 := by
    intro τ2 y h1 h2
    refine ⟨⟨fun q hq => ?_, fun j h40 h41 => ?_⟩, ?_⟩
    · funext j
      rw [wr_cell (by omega), h1 q (by omega) (by omega)]
      exact a2 q j (by omega)
    · rw [wr_place h41, h2 j h40 h41, t0]
    · funext j
      rw [wr_cell (by decide), h1 7 (by decide) (by decide), t7]
  unfold stA
  cases hf : fnA (oF F o) 480 with
  | none =>
    refine ⟨m + 37, τ1, τ1 0 41 + 0, by omega, ?_, (frame τ1 _ (fun _ _ _ => rfl) (fun _ _ _ => rfl)).1, (frame τ1 _ (fun _ _ _ => rfl) (fun _ _ _ => rfl)).2, ?_, ?_, ?_, b4⟩
    · rw [if_pos (show opI none = -1 from rfl), show m + 39 = (m + 38) + 1 from rfl, e_X7_tries_120, if_pos (show opI none = -1 from rfl), show m + 38 = (m + 37) + 1 from rfl, e_X7_tries_143]
    · rw [wr_place (by decide), t0]; exact b1
    · rw [wr_same, Int32.add_zero, t0]; exact b2
    · intro h9 i hi
      rw [wr_cell (by decide), t21]; exact b3 h9 i hi
  | some e =>
    have he := fn_le hOo hf
    have hne : ¬ opI (some e) = -1 := opI_ne he
    -- a better one is taken
    have set : ∃ m' σ' y, 20 + m ≤ m' + 0 ∧ b_X7_tries_94 (m + 39) (nI e) 0 (wr (wr τ1 0 40 (nI e)) 0 41 0) = onI (f_X7_nextOrder [.inr (.inl 0)] (wr σ' 0 41 y)) (fun τ1 => some (none, τ1)) (fun r1 τ1 => b_X7_tries_52 m' r1 τ1) ∧ Fw σ (wr σ' 0 41 y) ∧ (wr σ' 0 41 y) 7 = σ 7 ∧ Bm (wr σ' 0 41 y) F (some e, 1, o) := by
      obtain ⟨m1, σ1, d0, d1, d2, d3⟩ := mt_copy (σ0 := wr (wr τ1 0 40 (nI e)) 0 41 0) h6 (nI e) (m + 25) (F 0 0) 0 (m + 39) (wr (wr τ1 0 40 (nI e)) 0 41 0) (by omega) (by omega) (by rw [wr_place (by decide), wr_place (by decide)]; exact e21) (fun _ _ => rfl) (fun i hi => by omega)
      obtain ⟨m2, rfl⟩ : ∃ m2, m1 = m2 + 2 := ⟨m1 - 2, by omega⟩
      have s40 : σ1 0 40 = nI e := by rw [d2 0 (by decide), wr_place (by decide), wr_same]
      have s41 : σ1 0 41 = 0 := by rw [d2 0 (by decide), wr_same]
      have fr := frame σ1 (σ1 0 41 + 1) (fun q h1 h2 => by
        rw [d2 q h2]; funext j; rw [wr_cell h1, wr_cell h1]) (fun j h1 h2 => by rw [d2 0 (by decide), wr_place h2, wr_place h1])
      refine ⟨m2, σ1, σ1 0 41 + 1, by omega, ?_, fr.1, fr.2, ?_, ?_, ?_, fun e' h9 => by cases h9; exact he⟩
      · have d1' : b_X7_tries_94 (m + 39) (nI e) 0 (wr (wr τ1 0 40 (nI e)) 0 41 0) = b_X7_tries_120 (m2 + 2) (nI e) σ1 := d1
        rw [d1', show m2 + 2 = (m2 + 1) + 1 from rfl, e_X7_tries_120, if_neg (ne_m1 (by omega)), s40, if_pos rfl, e_X7_tries_143]
      · rw [wr_place (by decide)]; exact s40
      · rw [wr_same, s41]; rfl
      · intro _ i hi
        rw [wr_cell (by decide), d3 i hi, wr_cell (by decide), wr_cell (by decide), t7]
        exact hov i hi
    rw [show opI (some e) = nI e from rfl] at hne ⊢
    rw [if_neg hne, t0, b1]
    cases hs : s.1 with
    | none =>
      rw [if_pos (show opI none = -1 from rfl)]
      exact set
    | some b =>
      have hb := b4 b hs
      rw [if_neg (opI_ne hb), show opI (some b) = nI b from rfl]
      show ∃ m' σ' y, _ ∧ _ ∧ _ ∧ _ ∧ Bm (wr σ' 0 41 y) F (if e < b then (some e, 1, o) else if e = b then (some b, s.2.1 + 1, s.2.2) else s)
      by_cases h1 : e < b
      · rw [if_pos (nI_lt h1 (by omega)), if_pos h1]
        exact set
      · rw [if_neg (nI_nlt (by omega) (by omega)), if_neg h1, show m + 39 = (m + 38) + 1 from rfl, e_X7_tries_120, if_neg hne, t0, b1, hs, show opI (some b) = nI b from rfl]
        by_cases h2 : e = b
        · rw [if_pos (by rw [h2]), if_pos h2, show m + 38 = (m + 37) + 1 from rfl, e_X7_tries_143]
          refine ⟨m + 37, τ1, τ1 0 41 + 1, by omega, rfl, (frame τ1 _ (fun _ _ _ => rfl) (fun _ _ _ => rfl)).1, (frame τ1 _ (fun _ _ _ => rfl) (fun _ _ _ => rfl)).2, ?_, ?_, ?_, fun e' h9 => by cases h9; exact hb⟩
          · rw [wr_place (by decide), t0, b1, hs]
          · rw [wr_same, t0, b2, nI_1]
          · intro h9 i hi
            rw [wr_cell (by decide), t21]; exact b3 (by rw [hs]; exact h9) i hi
        · rw [if_neg (fun h9 => h2 ((nI_eq (by omega) (by omega)).mp h9)), if_neg h2, show m + 38 = (m + 37) + 1 from rfl, e_X7_tries_143]
          refine ⟨m + 37, τ1, τ1 0 41 + 0, by omega, rfl, (frame τ1 _ (fun _ _ _ => rfl) (fun _ _ _ => rfl)).1, (frame τ1 _ (fun _ _ _ => rfl) (fun _ _ _ => rfl)).2, ?_, ?_, ?_, b4⟩
          · rw [wr_place (by decide), t0]; exact b1
          · rw [wr_same, Int32.add_zero, t0]; exact b2
          · intro h9 i hi
            rw [wr_cell (by decide), t21]; exact b3 h9 i hi
theorem mt_loop (hO : OkF F) {P : Nat} : ∀ (c m : Nat) (σ : Mm) (o : Nat → Nat) (s : Option Nat × Nat × (Nat → Nat)), tmA (F 0 0) c o = true → 40 * c + 40 ≤ m → Pm (F 0 0) o → MC σ (oF F o) (orL (oF F o)) P 9 → Ov (σ 7) (F 0 0) o → Bm σ F s → ∃ σ', b_X7_tries_52 m 1 σ = some (some none, σ') ∧ Fw σ σ' ∧ Bm σ' F (trA F c o s) := by
  have h6 := hO.1
  intro c
  induction c with
  | zero => intro m σ o s ht; cases ht
  | succ c ih =>
    intro m σ o s ht hm hP hC hov hB
    obtain ⟨m, rfl⟩ : ∃ m', m = m' + 40 := ⟨m - 40, by omega⟩
    obtain ⟨m1, σ1, y, d0, d1, d2, d3, d4⟩ := mt_step hO hP hC hov hB m
    have e1 : trA F (c + 1) o s = match nxA (F 0 0) o with
      | none => stA F o s
      | some o' => trA F c o' (stA F o s) := rfl
    have ht' : (match nxA (F 0 0) o with
      | none => true
      | some o' => tmA (F 0 0) c o') = true := ht
    have hN : (wr σ1 0 41 y) 0 21 = nI (F 0 0) := by
      rw [d2.2 21 (by decide) (by decide), hC.1.1]; unfold orL; rw [orF_len]; rfl
    rw [d1, e1]
    rcases ma_next h6 hN (d3 ▸ hov) (fun i hi => by have := hP.1 i hi; omega) with ⟨n1, n2⟩ | ⟨p, σ2, n1, n2, n3, n4⟩
    · obtain ⟨m2, rfl⟩ : ∃ m2, m1 = m2 + 1 := ⟨m1 - 1, by omega⟩
      rw [n1, n2, onI_s, e_X7_tries_52, if_pos rfl]
      exact ⟨_, rfl, d2, d4⟩
    · rw [n1] at ht' ⊢
      have hC2 : MC σ2 (oF F p) (orL (oF F p)) P 9 := mc_o hO hP (pm_nx hP n1) hC (fun j hj => by rw [n3 0 (by decide), d2.2 j (by omega) (by omega)]) (by rw [n3 2 (by decide), d2.1 2 (by omega)]) (by rw [n3 4 (by decide), d2.1 4 (by omega)]) n4
      have hB2 : Bm σ2 F (stA F o s) := by
        unfold Bm at d4 ⊢
        rw [n3 0 (by decide), n3 21 (by decide)]
        exact d4
      obtain ⟨σ', f1, f2, f3⟩ := ih m1 σ2 p _ ht' (by omega) (pm_nx hP n1) hC2 n4 hB2
      rw [n2, onI_s]
      exact ⟨σ', f1, Fw_trans d2 (Fw_trans (Fw_fb n3) f2), f3⟩
theorem mt_id {n : Nat} (hn : n ≤ 6) {σ0 : Mm} (N : Nat) : ∀ (c j m : Nat) (σ : Mm), j + c = n → c + 1 + N ≤ m → σ 0 21 = nI n → (∀ q, q ≠ 7 → σ q = σ0 q) → (∀ i, i < j → σ 7 i = nI i) → ∃ m' σ', N ≤ m' ∧ b_X7_tries_19 m (nI j) σ = b_X7_tries_52 m' 1 (wr (wr σ' 0 40 (-1)) 0 41 0) ∧ (∀ q, q ≠ 7 → σ' q = σ0 q) ∧ (∀ i, i < n → σ' 7 i = nI i) := by
  intro c
  induction c with
  | zero =>
    intro j m σ hj hm h0 hq h
    obtain ⟨m, rfl⟩ : ∃ m', m = m' + 1 := ⟨m - 1, by omega⟩
    refine ⟨m, σ, by omega, ?_, hq, fun i hi => h i (by omega)⟩
    rw [e_X7_tries_19, h0, if_neg (nI_nlt (by omega) (by omega))]
  | succ c ih =>
    intro j m σ hj hm h0 hq h
    obtain ⟨m, rfl⟩ : ∃ m', m = m' + 1 := ⟨m - 1, by omega⟩
    have hi : inb (nI j) 6 = true := inb_nI (by omega) (by decide)
    rw [e_X7_tries_19, h0, if_pos (nI_lt (by omega) (by omega)), if_pos hi, nI_clamp (by omega), nI_1]
    refine ih (j + 1) m _ (by omega) (by omega) (by rw [wr_cell (by decide)]; exact h0) (fun q hq' => ?_) (fun i hi' => ?_)
    · rw [← hq q hq']; funext i; exact wr_cell hq'
    · by_cases e : i = j
      · rw [e, wr_same]
      · rw [wr_place e]; exact h i (by omega)
/-- what tries() leaves alone -/
def Fy (σ σ' : Mm) : Prop := (∀ c, (1 ≤ c ∧ c ≤ 6) ∨ (15 ≤ c ∧ c ≤ 20) → σ' c = σ c) ∧ (∀ j, j ≠ 21 → j ≠ 22 → j ≠ 23 → j ≠ 38 → j ≠ 40 → j ≠ 41 → σ' 0 j = σ 0 j)
theorem mf_tries (hO : OkF F) {σ : Mm} (hM : MF (σ 2) (σ 4) 0 F) (hR : σ 0 38 = 0 ∨ (σ 0 38 = 1 ∧ Bm σ F (bsA F))) : ∃ σ', f_X7_tries [.inr (.inl 0)] σ = some (some none, σ') ∧ Fy σ σ' ∧ σ' 0 38 = 1 ∧ Bm σ' F (bsA F) := by
  have h6 := hO.1
  rw [e_X7_tries]
  rcases hR with h0 | ⟨h1, hR⟩
  · rw [if_pos h0]
    obtain ⟨σ1, a1, a2, a3⟩ := mf_orders hO (σ := wr σ 0 38 1) hM
    have hl : σ1 0 21 = nI (F 0 0) := by rw [a2.1.1]; unfold orL; rw [orF_len]
    obtain ⟨m2, σ2, b0, b1, b2, b3⟩ := mt_id (σ0 := σ1) h6 40000 (F 0 0) 0 bigM σ1 (by omega) (by unfold bigM; omega) hl (fun _ _ => rfl) (fun i hi => by omega)
    have b1' : b_X7_tries_19 bigM 0 σ1 = b_X7_tries_52 m2 1 (wr (wr σ2 0 40 (-1)) 0 41 0) := b1
    have e0 : oF F (F 10) = F := by
      funext c i
      unfold oF
      split
      · rename_i h9; rw [h9]
      · rfl
    have hC2 : MC (wr (wr σ2 0 40 (-1)) 0 41 0) (oF F (fun i => i)) (orL (oF F (fun i => i))) (F 0 1) 9 := by
      refine mc_o hO (ok_pm hO) (pm_id _) (σ := σ1) (by rw [e0]; exact a2) (fun j hj => ?_) ?_ ?_ (fun i hi => ?_)
      · rw [wr_place (by omega), wr_place (by omega), b2 0 (by decide)]
      · rw [← b2 2 (by decide)]; funext i; rw [wr_cell (by decide), wr_cell (by decide)]
      · rw [← b2 4 (by decide)]; funext i; rw [wr_cell (by decide), wr_cell (by decide)]
      · rw [wr_cell (by decide), wr_cell (by decide)]; exact b3 i hi
    obtain ⟨σ3, d1, d2, d3⟩ := mt_loop hO 720 m2 (wr (wr σ2 0 40 (-1)) 0 41 0) (fun i => i) (none, 0, fun i => i) (tm_id h6) (by omega) (pm_id _) hC2 (fun i hi => by rw [wr_cell (by decide), wr_cell (by decide)]; exact b3 i hi) ⟨by rw [wr_place (by decide), wr_same]; rfl, by rw [wr_same]; rfl, fun h9 => absurd rfl h9, fun e h9 => by cases h9⟩
    rw [a1, onV_s, b1', d1]
    refine ⟨σ3, rfl, ⟨fun c hc => ?_, fun j j1 j2 j3 j4 j5 j6 => ?_⟩, ?_, d3⟩
    · rw [d2.1 c hc]
      funext j
      rw [wr_cell (by omega), wr_cell (by omega), b2 c (by omega), a3 c j (by omega) (by omega), wr_cell (by omega)]
    · rw [d2.2 j j5 j6, wr_place j6, wr_place j5, b2 0 (by decide), a3 0 j (by decide) (fun _ => ⟨j1, j2, j3⟩), wr_place j4]
    · rw [d2.2 38 (by decide) (by decide), wr_place (by decide), wr_place (by decide), b2 0 (by decide), a3 0 38 (by decide) (fun _ => by decide), wr_same]
  · rw [if_neg (by rw [h1]; decide)]
    exact ⟨σ, rfl, ⟨fun _ _ => rfl, fun _ _ _ _ _ _ _ => rfl⟩, h1, hR⟩
end MBEST
