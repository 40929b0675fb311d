/-! the class goes through the orders -/
def Ov (r : Nat → Int32) (n : Nat) (o : Nat → Nat) : Prop := ∀ i, i < n → r i = nI (o i)
theorem ov_sw {σ : Mm} {c n i j : Nat} {o : Nat → Nat} (h : Ov (σ c) n o) (hi : i < n) (hj : j < n) : Ov (wr (wr σ c i (σ c j)) c j (σ c i) c) n (swA o i j) := by
  intro k hk
  rw [wr_at, wr_at]
  unfold swA
  by_cases e : k = j
  · rw [if_pos ⟨rfl, e⟩, if_pos e]
    exact h i hi
  · rw [if_neg (fun h9 => e h9.2), if_neg e]
    by_cases e2 : k = i
    · rw [if_pos ⟨rfl, e2⟩, if_pos e2]
      exact h j hj
    · rw [if_neg (fun h9 => e2 h9.2), if_neg e2]
      exact h k hk
theorem xf_oF {φ φ' : Mm} {b : Nat} {F : Fg} {o : Nat → Nat} (g : ∀ c, b ≤ c → c < b + 10 → φ' c = φ c) (h : XF φ b F) (ho : Ov (φ' (b + 10)) (F 0 0) o) : XF φ' b (oF F o) := by
  obtain ⟨x1, x2, x3, x4, x5⟩ := h
  refine ⟨by rw [g b (by omega) (by omega)]; exact x1, by rw [g b (by omega) (by omega)]; exact x2, fun i hi => ?_, fun j hj => ?_, fun t ht => ?_⟩
  · rw [g (b + 2) (by omega) (by omega), g (b + 3) (by omega) (by omega), g (b + 4) (by omega) (by omega), g (b + 5) (by omega) (by omega), g (b + 6) (by omega) (by omega), g (b + 1) (by omega) (by omega)]
    obtain ⟨y1, y2, y3, y4, y5, y6⟩ := x3 i hi
    exact ⟨y1, y2, y3, ho i hi, y5, y6⟩
  · rw [g (b + 7) (by omega) (by omega), g (b + 8) (by omega) (by omega)]
    exact x4 j hj
  · rw [g (b + 9) (by omega) (by omega)]
    exact x5 t ht
theorem neg1 (a : Nat) : nI (a + 1) + (-1) = nI a := by
  rw [← nI_pred a, Int32.sub_eq_add_neg]
section XBEST
variable {F : Fg}
/-- only the order of the trial forge changes -/
def Fa (β β' : Mm) : Prop := ∀ c, c ≠ 24 → β' c = β c
theorem xa_exch {β : Mm} {n i j : Nat} {o : Nat → Nat} (hn : n ≤ 6) (h : Ov (β 24) n o) (hi : i < n) (hj : j < n) : ∃ τ, f_X2_exchange [.inr (.inl 0), .inl (nI i), .inl (nI j)] (pk (sgC 14 11) β) = some (some none, τ) ∧ Fa β (put (sgC 14 11) β τ) ∧ Ov (put (sgC 14 11) β τ 24) n (swA o i j) ∧ τ 0 0 = β 14 0 := by
  have i1 : inb (nI i) 6 = true := inb_nI (by omega) (by decide)
  have i2 : inb (nI j) 6 = true := inb_nI (by omega) (by decide)
  refine ⟨wr (wr (pk (sgC 14 11) β) 10 i (pk (sgC 14 11) β 10 j)) 10 j (pk (sgC 14 11) β 10 i), ?_, fun c hc => ?_, ?_, ?_⟩
  · rw [e_X2_exchange, if_pos i1, if_pos i2, if_pos i1, if_pos i2, nI_clamp (by omega), nI_clamp (by omega)]
  · by_cases h1 : 14 ≤ c ∧ c < 25
    · obtain ⟨d, rfl⟩ : ∃ d, c = 14 + d := ⟨c - 14, by omega⟩
      rw [putC_in (by omega)]
      funext q
      rw [wr_cell (by omega), wr_cell (by omega), pkC]
    · exact putC_out (by omega)
  · have : put (sgC 14 11) β (wr (wr (pk (sgC 14 11) β) 10 i (pk (sgC 14 11) β 10 j)) 10 j (pk (sgC 14 11) β 10 i)) 24 = wr (wr (pk (sgC 14 11) β) 10 i (pk (sgC 14 11) β 10 j)) 10 j (pk (sgC 14 11) β 10 i) 10 := putC_in (b := 14) (n := 11) (j := 10) (by omega)
    rw [this]
    exact ov_sw (σ := pk (sgC 14 11) β) (c := 10) h hi hj
  · rw [wr_cell (by decide), wr_cell (by decide)]
    rfl
theorem Fa_trans {a b c : Mm} (h1 : Fa a b) (h2 : Fa b c) : Fa a c := fun q h => (h2 q h).trans (h1 q h)
theorem xa_rev {n : Nat} (hn : n ≤ 6) : ∀ (c a b m : Nat) (β : Mm) (o : Nat → Nat), b < n → a < 2 ^ 20 → b ≤ a + 2 * c → c < m → Ov (β 24) n o → ∃ β', b_X0_advance_89 m (nI a) (nI b) β = some (some (some (.inl 1)), β') ∧ Fa β β' ∧ Ov (β' 24) n (rvA c a b o)
  | 0, a, b, m, β, o, hb, ha, hc, hm, h => by
    obtain ⟨m, rfl⟩ : ∃ m', m = m' + 1 := ⟨m - 1, by omega⟩
    refine ⟨β, ?_, fun _ _ => rfl, h⟩
    rw [e_X0_advance_89, if_neg (nI_nlt (by omega) (by omega))]
  | c + 1, a, b, m, β, o, hb, ha, hc, hm, h => by
    obtain ⟨m, rfl⟩ : ∃ m', m = m' + 1 := ⟨m - 1, by omega⟩
    unfold rvA
    rw [e_X0_advance_89]
    by_cases e : a < b
    · obtain ⟨b', rfl⟩ : ∃ b', b = b' + 1 := ⟨b - 1, by omega⟩
      obtain ⟨τ, a1, a2, a3, a4⟩ := xa_exch hn h (show a < n by omega) hb
      rw [if_pos (nI_lt e (by omega)), a1, onV_s, nI_1, neg1, if_pos e]
      obtain ⟨β', d1, d2, d3⟩ := xa_rev hn c (a + 1) b' m _ _ (by omega) (by omega) (by omega) (by omega) a3
      exact ⟨β', d1, Fa_trans a2 d2, d3⟩
    · rw [if_neg (nI_nlt (by omega) (by omega)), if_neg e]
      exact ⟨β, rfl, fun _ _ => rfl, h⟩
theorem xa_rise {n : Nat} (hn : n ≤ 6) {β : Mm} {o : Nat → Nat} (h : Ov (β 24) n o) (hb : ∀ i, i < n → o i < 8) : ∀ (i m M : Nat), i + 1 < n → i + 3 + M ≤ m → (riA o (i + 1) = none ∧ b_X0_advance_12 m (nI i) β = some (some (some (.inl 0)), β)) ∨ ∃ r m', M ≤ m' ∧ riA o (i + 1) = some r ∧ b_X0_advance_12 m (nI i) β = b_X0_advance_33 m' (nI r) β := by
  intro i
  induction i with
  | zero =>
    intro m M hi hm
    obtain ⟨m, rfl⟩ : ∃ m', m = m' + 2 := ⟨m - 2, by omega⟩
    have b1 := hb 1 (by omega)
    have b0 := hb 0 (by omega)
    have e1 : riA o (0 + 1) = if o 1 < o 0 then none else some 0 := rfl
    rw [e_X0_advance_12, if_neg (nI_pos (by omega)), nI_1, if_pos (inb_nI (by omega) (by decide)), if_pos (inb_nI (by omega) (by decide)), nI_clamp (by omega), nI_clamp (by omega), h 0 (by omega), h (0 + 1) (by omega), e1]
    by_cases hc : o 1 < o 0
    · left
      rw [if_pos hc, if_pos (nI_lt hc (by omega)), e_X0_advance_12, if_pos (show nI 0 + (-1) < 0 by decide)]
      obtain ⟨m, rfl⟩ : ∃ m', m = m' + 1 := ⟨m - 1, by omega⟩
      rw [e_X0_advance_33, if_pos (show nI 0 + (-1) < 0 by decide)]
      exact ⟨rfl, rfl⟩
    · right
      rw [if_neg hc, if_neg (nI_nlt (show o 0 ≤ o (0 + 1) by show o 0 ≤ o 1; omega) (by show o 1 < _; omega))]
      exact ⟨0, m + 1, by omega, rfl, rfl⟩
  | succ i ih =>
    intro m M hi hm
    obtain ⟨m, rfl⟩ : ∃ m', m = m' + 1 := ⟨m - 1, by omega⟩
    have b1 := hb (i + 1 + 1) (by omega)
    have b0 := hb (i + 1) (by omega)
    have e1 : riA o (i + 1 + 1) = if o (i + 1 + 1) < o (i + 1) then riA o (i + 1) else some (i + 1) := rfl
    rw [e_X0_advance_12, if_neg (nI_pos (by omega)), nI_1, if_pos (inb_nI (by omega) (by decide)), if_pos (inb_nI (by omega) (by decide)), nI_clamp (by omega), nI_clamp (by omega), h (i + 1) (by omega), h (i + 1 + 1) (by omega), e1, neg1]
    by_cases hc : o (i + 1 + 1) < o (i + 1)
    · rw [if_pos hc, if_pos (nI_lt hc (by omega))]
      exact ih m M (by omega) (by omega)
    · right
      rw [if_neg hc, if_neg (nI_nlt (by omega) (by omega))]
      exact ⟨i + 1, m, by omega, rfl, rfl⟩
theorem xa_great {n r : Nat} (hn : n ≤ 6) {β : Mm} {o : Nat → Nat} (h : Ov (β 24) n o) (hb : ∀ i, i < n → o i < 8) (hr : ¬ o (r + 1) < o r) : ∀ (j m M : Nat), r < j → j < n → j + 1 + M ≤ m → ∃ m', M ≤ m' ∧ b_X0_advance_47 m (nI r) (nI j) β = b_X0_advance_69 m' (nI r) (nI (grA o (o r) j)) β := by
  intro j
  induction j with
  | zero => intro m M hj; omega
  | succ j ih =>
    intro m M hj hjn hm
    obtain ⟨m, rfl⟩ : ∃ m', m = m' + 1 := ⟨m - 1, by omega⟩
    have b1 := hb (j + 1) hjn
    have b0 := hb r (by omega)
    have e1 : grA o (o r) (j + 1) = if o (j + 1) < o r then grA o (o r) j else j + 1 := rfl
    rw [e_X0_advance_47, if_pos (nI_lt hj (by omega)), if_pos (inb_nI (by omega) (by decide)), if_pos (inb_nI (by omega) (by decide)), nI_clamp (by omega), nI_clamp (by omega), h r (by omega), h (j + 1) (by omega), e1, neg1]
    by_cases hc : o (j + 1) < o r
    · have hne : j ≠ r := fun h9 => hr (h9 ▸ hc)
      rw [if_pos hc, if_pos (nI_lt hc (by omega))]
      exact ih m M (by omega) (by omega) (by omega)
    · rw [if_neg hc, if_neg (nI_nlt (by omega) (by omega))]
      exact ⟨m, by omega, rfl⟩
theorem xa_next {n : Nat} (hn : n ≤ 6) {β : Mm} {o : Nat → Nat} (hN : β 14 0 = nI n) (h : Ov (β 24) n o) (hb : ∀ i, i < n → o i < 8) : (nxA n o = none ∧ f_X0_advance [.inr (.inl 0), .inr (.inl 14)] β = some (some (some (.inl 0)), β)) ∨ ∃ p β', nxA n o = some p ∧ f_X0_advance [.inr (.inl 0), .inr (.inl 14)] β = some (some (some (.inl 1)), β') ∧ Fa β β' ∧ Ov (β' 24) n p := by
  rw [e_X0_advance, hN]
  obtain ⟨m, hm⟩ : ∃ m, bigM = m + 2 := ⟨bigM - 2, rfl⟩
  by_cases h2 : n < 2
  · left
    have hneg : nI n - 2 < 0 := by
      rcases (show n = 0 ∨ n = 1 by omega) with rfl | rfl <;> decide
    have e1 : n - 1 = 0 := by omega
    refine ⟨?_, ?_⟩
    · unfold nxA
      rw [e1]
      rfl
    · rw [hm, e_X0_advance_12, if_pos hneg, e_X0_advance_33, if_pos hneg]
  · have e2 : nI n - 2 = nI (n - 2) := nI_sub (b := 2) (by omega)
    rw [e2]
    have e3 : n - 2 + 1 = n - 1 := by omega
    rcases xa_rise hn h hb (n - 2) bigM 50 (by omega) (by unfold bigM; omega) with ⟨a1, a2⟩ | ⟨r, m', a0, a1, a2⟩
    · left
      rw [e3] at a1
      refine ⟨?_, a2⟩
      unfold nxA
      rw [a1]
    · right
      rw [e3] at a1
      obtain ⟨hr1, hr2⟩ := ri_lt _ a1
      obtain ⟨m1, rfl⟩ : ∃ m1, m' = m1 + 1 := ⟨m' - 1, by omega⟩
      obtain ⟨m2, d0, d1⟩ := xa_great hn h hb hr2 (n - 1) m1 20 hr1 (by omega) (by omega)
      have hg := gr_le (o := o) (x := o r) (n - 1)
      have hg2 := gr_gt hr2 (n - 1) hr1
      obtain ⟨τ, f1, f2, f3, f4⟩ := xa_exch hn h (show r < n by omega) (show grA o (o r) (n - 1) < n by omega)
      obtain ⟨m3, rfl⟩ : ∃ m3, m2 = m3 + 1 := ⟨m2 - 1, by omega⟩
      have e4 : nI n - 1 = nI (n - 1) := nI_sub (b := 1) (by omega)
      obtain ⟨β', g1, g2, g3⟩ := xa_rev hn 6 (r + 1) (n - 1) m3 _ _ (by omega) (by omega) (by omega) (by omega) f3
      refine ⟨rvA 6 (r + 1) (n - 1) (swA o r (grA o (o r) (n - 1))), β', ?_, ?_, Fa_trans f2 g2, g3⟩
      · unfold nxA
        rw [a1]
      · rw [a2, e_X0_advance_33, if_neg (nI_pos (by omega)), hN, e4, d1, e_X0_advance_69, f1, onV_s, f4, hN, e4, nI_1]
        exact g1
end XBEST
theorem cpm_o {σ : Mm} {q0 q1 c : Nat} {a b d : Int32} (h : c ≠ q1) : cpm σ q0 q1 a b d c = σ c := by
  unfold cpm va_up
  rw [if_neg h]
theorem cpm_i {σ : Mm} {q0 q1 i N : Nat} (hN : N < 2 ^ 31) (h : i < N) : cpm σ q0 q1 0 0 (nI N) q1 i = σ q0 i := by
  unfold cpm va_up
  rw [if_pos rfl, nI_clamp hN]
  unfold va_cpy
  have e0 : (0 : Int32).toNatClampNeg = 0 := by decide
  rw [e0, if_pos (by omega)]
  congr 1
  omega
section XSEARCH
variable {F : Fg}
/-- the class's best order so far -/
def Bx (β : Mm) (F : Fg) (s : Option Nat × Nat × (Nat → Nat)) : Prop := β 0 1 = opI s.1 ∧ β 0 2 = nI s.2.1 ∧ (s.1 ≠ none → Ov (β 1) (F 0 0) s.2.2) ∧ (∀ e, s.1 = some e → e ≤ 480)
theorem opI_ne {e : Nat} (h : e ≤ 480) : ¬ opI (some e) = -1 := ne_m1 (show e < 2 ^ 31 by omega)
theorem bx_eq {β β' : Mm} {s : Option Nat × Nat × (Nat → Nat)} (h0 : β' 0 = β 0) (h1 : β' 1 = β 1) (h : Bx β F s) : Bx β' F s := by
  unfold Bx at h ⊢
  rw [h0, h1]
  exact h
theorem xs_step (hO : OkF F) {o : Nat → Nat} (hP : Pm (F 0 0) o) {β : Mm} {s : Option Nat × Nat × (Nat → Nat)} (hX : XF β 14 (oF F o)) (hB : Bx β F s) (m : Nat) (x4 : Int32) : ∃ β', (if β 0 1 = -1 then b_X0_search_50 (m + 1) x4 480 β else b_X0_search_50 (m + 1) x4 (β 0 1) β) = b_X0_search_68 m x4 β' ∧ XF β' 14 (oF F o) ∧ Bx β' F (stA F o s) := by
  have hOo := ok_oF hO hP
  have h6 := hO.1
  obtain ⟨b1, b2, b3, b4⟩ := hB
  -- the limit
  have lim : ∃ M, M ≤ 480 ∧ (if β 0 1 = -1 then b_X0_search_50 (m + 1) x4 480 β else b_X0_search_50 (m + 1) x4 (β 0 1) β) = b_X0_search_50 (m + 1) x4 (nI M) β ∧ M = (match s.1 with | none => 480 | some e => e) := by
    rw [b1]
    cases hs : s.1 with
    | none => exact ⟨480, by omega, if_pos rfl, rfl⟩
    | some e =>
      have := b4 e hs
      exact ⟨e, this, if_neg (opI_ne this), rfl⟩
  obtain ⟨M, hM, eM, hMs⟩ := lim
  have hX' : XF (pk (sgC 2 23) β) 12 (oF F o) := hX
  obtain ⟨τ1, a1, x1⟩ := xf_end hOo hX' hM
  have x1' : XF (put (sgC 2 23) β τ1) 14 (oF F o) := by
    refine XF_eq (φ := fun c => τ1 (c - 2)) (fun c j h1 h2 => ?_) ?_
    · obtain ⟨d, rfl⟩ : ∃ d, c = 2 + d := ⟨c - 2, by omega⟩
      rw [putC_in (by omega), show 2 + d - 2 = d by omega]
    · exact x1
  have p0 : put (sgC 2 23) β τ1 0 = β 0 := putC_out (by omega)
  have p1 : put (sgC 2 23) β τ1 1 = β 1 := putC_out (by omega)
  rw [eM, e_X0_search_50, a1, onI_s, fn_lim hOo hM]
  have same : Bx (put (sgC 2 23) β τ1) F s := bx_eq p0 p1 ⟨b1, b2, b3, b4⟩
  have hov : Ov (put (sgC 2 23) β τ1 24) (F 0 0) o := fun i hi => (x1'.2.2.1 i hi).2.2.2.1
  unfold stA
  cases hf : fnA (oF F o) 480 with
  | none => exact ⟨_, if_pos rfl, x1', same⟩
  | some e =>
    have he := fn_le hOo hf
    have set : ∃ β', onV (f_X0_take [.inr (.inl 0), .inr (.inl 14), .inl (nI e)] (put (sgC 2 23) β τ1)) (fun τ2 => some (none, τ2)) (fun τ2 => b_X0_search_68 m x4 τ2) = b_X0_search_68 m x4 β' ∧ XF β' 14 (oF F o) ∧ Bx β' F (if opI s.1 = nI e then (s.1, s.2.1 + 1, s.2.2) else (some e, 1, o)) := by
      rw [e_X0_take, p0, b1, b2]
      by_cases hc : opI s.1 = nI e
      · rw [if_pos hc.symm, if_pos hc, onV_s, nI_1]
        refine ⟨_, rfl, XF_eq (fun c j h1 h2 => wr_cell (by omega)) x1', ?_, ?_, fun h9 => ?_, b4⟩
        · rw [wr_place (by decide), p0]; exact b1
        · exact wr_same
        · have : (wr (put (sgC 2 23) β τ1) 0 2 (nI (s.2.1 + 1))) 1 = β 1 := by
            rw [← p1]; funext i; exact wr_cell (by decide)
          rw [this]; exact b3 h9
      · rw [if_neg (fun h9 => hc h9.symm), if_neg hc, onV_s]
        refine ⟨_, rfl, XF_eq (fun c j h1 h2 => ?_) x1', ?_, ?_, fun _ i hi => ?_, fun e' h9 => by cases h9; exact he⟩
        · rw [cpm_o (by omega), wr_cell (by omega), wr_cell (by omega)]
        · rw [cpm_o (by decide), wr_place (by decide), wr_same]; rfl
        · rw [cpm_o (by decide), wr_same]; rfl
        · have : cpm (wr (wr (put (sgC 2 23) β τ1) 0 1 (nI e)) 0 2 1) 24 1 0 0 (nI 6) 1 i = _ := cpm_i (by decide) (by omega)
          refine this.trans ?_
          rw [wr_cell (by decide), wr_cell (by decide)]
          exact hov i hi
    cases hs : s.1 with
    | none =>
      rw [hs] at hMs set
      have hle : e ≤ M := by rw [hMs]; exact he
      rw [show liA (some e) M = if e ≤ M then some e else none from rfl, if_pos hle, if_neg (opI_ne he), show opI (some e) = nI e from rfl]
      rw [if_neg (show ¬ opI none = nI e from fun h9 => ne_m1 (show e < 2 ^ 31 by omega) h9.symm)] at set
      exact set
    | some b =>
      have hb := b4 b hs
      rw [hs] at hMs set
      have hMb : M = b := hMs
      rw [show liA (some e) M = if e ≤ M then some e else none from rfl, hMb]
      show ∃ β', _ ∧ _ ∧ Bx β' F (if e < b then (some e, 1, o) else if e = b then (some b, s.2.1 + 1, s.2.2) else s)
      by_cases h1 : e < b
      · rw [if_pos (show e ≤ b by omega), if_neg (opI_ne he), show opI (some e) = nI e from rfl, if_pos h1]
        rw [if_neg (show ¬ opI (some b) = nI e from fun h9 => by
          have := (nI_eq (a := b) (b := e) (by omega) (by omega)).mp h9
          omega)] at set
        exact set
      · rw [if_neg h1]
        by_cases h2 : e = b
        · rw [if_pos (show e ≤ b by omega), if_neg (opI_ne he), show opI (some e) = nI e from rfl, if_pos h2]
          rw [if_pos (show opI (some b) = nI e by rw [h2]; rfl)] at set
          exact set
        · rw [if_neg (show ¬ e ≤ b by omega), if_neg h2, if_pos (show opI none = -1 from rfl)]
          exact ⟨_, rfl, x1', same⟩
theorem xs_loop (hO : OkF F) : ∀ (c t m : Nat) (β : Mm) (o : Nat → Nat) (s : Option Nat × Nat × (Nat → Nat)), t + c = 720 → 3 * c < m → Pm (F 0 0) o → XF β 14 (oF F o) → Bx β F s → ∃ β', b_X0_search_19 m 1 (nI t) β = some (some none, β') ∧ Bx β' F (trA F c o s) := by
  have h6 := hO.1
  intro c
  induction c with
  | zero =>
    intro t m β o s ht hm hP hX hB
    obtain ⟨m, rfl⟩ : ∃ m', m = m' + 1 := ⟨m - 1, by omega⟩
    refine ⟨β, ?_, hB⟩
    rw [e_X0_search_19, if_neg (show ¬ nI t < 720 from nI_nlt (b := 720) (by omega) (by omega))]
  | succ c ih =>
    intro t m β o s ht hm hP hX hB
    obtain ⟨m, rfl⟩ : ∃ m', m = m' + 3 := ⟨m - 3, by omega⟩
    obtain ⟨β1, a1, x1, b1⟩ := xs_step hO hP hX hB (m + 1) (nI t)
    have hov : Ov (β1 24) (F 0 0) o := fun i hi => (x1.2.2.1 i hi).2.2.2.1
    rw [e_X0_search_19, if_pos (show nI t < 720 from nI_lt (b := 720) (by omega) (by decide)), if_neg (by decide), a1, e_X0_search_68]
    have e1 : trA F (c + 1) o s = match nxA (F 0 0) o with
      | none => stA F o s
      | some o' => trA F c o' (stA F o s) := rfl
    rw [e1]
    rcases xa_next h6 (show β1 14 0 = nI (F 0 0) from x1.1) hov (fun i hi => by have := hP.1 i hi; omega) with ⟨n1, n2⟩ | ⟨p, β2, n1, n2, n3, n4⟩
    · rw [n1, n2, onI_s, nI_1]
      obtain ⟨m, rfl⟩ : ∃ m', m = m' + 1 := ⟨m - 1, by omega⟩
      refine ⟨β1, ?_, b1⟩
      rw [e_X0_search_19]
      split
      · rfl
      · rfl
    · rw [n1, n2, onI_s, nI_1]
      refine ih (t + 1) m β2 p _ (by omega) (by omega) (pm_nx hP n1) ?_ (bx_eq (n3 0 (by decide)) (n3 1 (by decide)) b1)
      have : oF (oF F o) p = oF F p := by
        funext c i
        unfold oF
        split <;> rfl
      rw [← this]
      exact xf_oF (fun c h1 h2 => n3 c (by omega)) x1 n4
theorem xo_id (hO : OkF F) : ∀ (c j m : Nat) (φ : Mm), j + c = F 0 0 → c < m → φ 0 0 = nI (F 0 0) → (∀ i, i < j → φ 10 i = nI i) → ∃ φ', b_X2_orderByIndex_2 m (nI j) φ = some (some none, φ') ∧ (∀ c, c ≠ 10 → φ' c = φ c) ∧ (∀ i, i < F 0 0 → φ' 10 i = nI i) := by
  have h6 := hO.1
  intro c
  induction c with
  | zero =>
    intro j m φ hj hm h0 h
    obtain ⟨m, rfl⟩ : ∃ m', m = m' + 1 := ⟨m - 1, by omega⟩
    refine ⟨φ, ?_, fun _ _ => rfl, fun i hi => h i (by omega)⟩
    rw [e_X2_orderByIndex_2, h0, if_neg (nI_nlt (by omega) (by omega))]
  | succ c ih =>
    intro j m φ hj hm h0 h
    obtain ⟨m, rfl⟩ : ∃ m', m = m' + 1 := ⟨m - 1, by omega⟩
    rw [e_X2_orderByIndex_2, h0, if_pos (nI_lt (by omega) (by omega)), if_pos (inb_nI (by omega) (by decide)), nI_clamp (by omega), nI_1]
    obtain ⟨φ', a1, a2, a3⟩ := ih (j + 1) m (wr φ 10 j (nI j)) (by omega) (by omega) (by rw [wr_cell (by decide)]; exact h0) (fun i hi => by
      by_cases e : i = j
      · rw [e]; exact wr_same
      · rw [wr_place e]; exact h i (by omega))
    refine ⟨φ', a1, fun c hc => ?_, a3⟩
    rw [a2 c hc]
    funext i
    exact wr_cell hc
theorem pm_id (n : Nat) : Pm n (fun i => i) := ⟨fun _ h => h, fun _ _ _ _ h => h, fun k hk => ⟨k, hk, rfl⟩⟩
theorem xs_search (hO : OkF F) {β : Mm} (hX : XF β 14 F) : ∃ β', f_X0_search [.inr (.inl 0), .inr (.inl 14), .inr (.inl 2)] β = some (some none, β') ∧ Bx β' F (bsA F) := by
  have h6 := hO.1
  obtain ⟨φ', a1, a2, a3⟩ := xo_id hO (F 0 0) 0 bigM (pk (sgC 14 11) (wr (wr β 0 1 (-1)) 0 2 0)) (by omega) (by unfold bigM; omega) (by
    rw [pkC, wr_cell (by decide), wr_cell (by decide)]
    exact hX.1) (fun i hi => by omega)
  have a1' : f_X2_orderByIndex [.inr (.inl 0)] (pk (sgC 14 11) (wr (wr β 0 1 (-1)) 0 2 0)) = some (some none, φ') := by
    rw [e_X2_orderByIndex]; exact a1
  rw [e_X0_search, a1', onV_s]
  refine xs_loop hO 720 0 bigM _ (fun i => i) (none, 0, fun i => i) (by omega) (by unfold bigM; omega) (pm_id _) ?_ ⟨?_, ?_, fun h9 => absurd rfl h9, fun e h9 => by cases h9⟩
  · refine xf_oF (fun c h1 h2 => ?_) hX (fun i hi => ?_)
    · obtain ⟨d, rfl⟩ : ∃ d, c = 14 + d := ⟨c - 14, by omega⟩
      rw [putC_in (by omega), a2 d (by omega), pkC]
      funext i
      rw [wr_cell (by omega), wr_cell (by omega)]
    · have : put (sgC 14 11) (wr (wr β 0 1 (-1)) 0 2 0) φ' (14 + 10) = φ' 10 := putC_in (by omega)
      rw [this]
      exact a3 i hi
  · rw [putC_out (by omega), wr_place (by decide), wr_same]; rfl
  · rw [putC_out (by omega), wr_same]; rfl
end XSEARCH
