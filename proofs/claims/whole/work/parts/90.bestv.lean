/-! the best margin, the best rule, the least rate -/
section BV
variable {x : Nat → Int32} {n : Nat} {ρ : Nat → Mm} {F : Fg}
theorem up_up {c k v w : Nat} : upA (upA F c k v) c k w = upA F c k w := by
  funext c' k'
  unfold upA
  split <;> rfl
/-- the class's and the reference's best value so far: none, or a value and its end -/
def bvX (s : Option (Nat × Nat)) : Int32 × Int32 := match s with
  | none => (-1, 481)
  | some (v, e) => (nI v, nI e)
def bvM (s : Option (Nat × Nat)) : Int32 × Int32 := match s with
  | none => (-1, 0)
  | some (v, e) => (nI v, nI e)
def bvU (s : Option (Nat × Nat)) (v : Nat) (r : Option Nat) : Option (Nat × Nat) := match r with
  | none => s
  | some e => match s with
    | none => some (v, e)
    | some (w, b) => if e < b then some (v, e) else some (w, b)
def bvOk (s : Option (Nat × Nat)) : Prop := ∀ w b, s = some (w, b) → w < 2 ^ 20 ∧ b ≤ 480
theorem bv_ok {s : Option (Nat × Nat)} {v : Nat} {r : Option Nat} (h : bvOk s) (hv : v < 2 ^ 20) (hr : ∀ e, r = some e → e ≤ 480) : bvOk (bvU s v r) := by
  intro w b hw
  unfold bvU at hw
  cases r with
  | none => exact h w b hw
  | some e =>
    have he := hr e rfl
    cases s with
    | none => cases hw; exact ⟨hv, he⟩
    | some q =>
      obtain ⟨w', b'⟩ := q
      have hw' : (if e < b' then some (v, e) else some (w', b')) = some (w, b) := hw
      by_cases h1 : e < b'
      · rw [if_pos h1] at hw'
        cases hw'
        exact ⟨hv, he⟩
      · rw [if_neg h1] at hw'
        exact h w b hw'
theorem bx_step {G : Fg} {σ : Mm} {t v N : Nat} {s : Option (Nat × Nat)} {st : Int32} (ht : t < 3) (hX : XF σ 57 G) (hO : OkF (upA G 9 t v)) (hs : bvOk s) (hle : ¬ stv 1 t < nI v) : ∃ σ', b_X6_bestValue_25 (N + 1) (nI t) st (bvX s).1 (bvX s).2 (nI v) σ = b_X6_bestValue_25 N (nI t) st (bvX (bvU s v (fnA (upA G 9 t v) 480))).1 (bvX (bvU s v (fnA (upA G 9 t v) 480))).2 (nI v + st) σ' ∧ XF σ' 57 (upA G 9 t v) ∧ ∀ c, c < 45 → σ' c = σ c := by
  have hi : inb (nI t) 3 = true := inb_nI ht (by decide)
  have hX' := xf_s (t := t) (v := v) hX
  have lim : ∃ L, L ≤ 480 ∧ (if 480 < (bvX s).2 then (480 : Int32) else (bvX s).2) = nI L ∧ (s = none → L = 480) ∧ (∀ w b, s = some (w, b) → L = b) := by
    cases s with
    | none => exact ⟨480, by omega, rfl, fun _ => rfl, fun w b h9 => (by cases h9)⟩
    | some q =>
      obtain ⟨w, b⟩ := q
      have := (hs w b rfl).2
      refine ⟨b, this, ?_, fun h9 => (by cases h9), fun w' b' h9 => (by cases h9; rfl)⟩
      show (if 480 < nI b then (480 : Int32) else nI b) = nI b
      rw [if_neg (show ¬ (480 : Int32) < nI b from nI_nlt (a := 480) this (by decide))]
  obtain ⟨L, hL, eL, l1, l2⟩ := lim
  obtain ⟨τ, d1, d2, d3⟩ := xt_end (m := L) hO hX' hL
  have d1' : f_X5_endWithin [.inr (.inl 0), .inl (nI L)] (pk (sgC 45 23) (wr σ 66 t (nI v))) = _ := d1
  refine ⟨put (sgC 45 23) (wr σ 66 t (nI v)) τ, ?_, d2, fun c hc => ?_⟩
  · rw [e_X6_bestValue_25, if_pos hi, nI_clamp (by omega), if_neg hle, if_pos hi, eL, d1', onI_s, fn_lim hO hL]
    unfold bvU
    cases hr : fnA (upA G 9 t v) 480 with
    | none => exact if_pos rfl
    | some e =>
      have he := fn_le hO hr
      rw [show liA (some e) L = if e ≤ L then some e else none from rfl]
      cases s with
      | none =>
        rw [l1 rfl, if_pos he, if_neg (opI_ne he), show opI (some e) = nI e from rfl, if_pos (show nI e < (bvX none).2 from nI_lt (b := 481) (by omega) (by decide))]
        rfl
      | some q =>
        obtain ⟨w, b⟩ := q
        have hb := (hs w b rfl).2
        rw [l2 w b rfl]
        show _ = b_X6_bestValue_25 N (nI t) st (bvX (if e < b then some (v, e) else some (w, b))).1 (bvX (if e < b then some (v, e) else some (w, b))).2 (nI v + st) _
        by_cases h1 : e < b
        · rw [if_pos (show e ≤ b by omega), if_neg (opI_ne he), show opI (some e) = nI e from rfl, if_pos (show nI e < (bvX (some (w, b))).2 from nI_lt h1 (by omega)), if_pos h1]
          rfl
        · rw [if_neg h1]
          by_cases h2 : e ≤ b
          · rw [if_pos h2, if_neg (opI_ne he), show opI (some e) = nI e from rfl, if_neg (show ¬ nI e < (bvX (some (w, b))).2 from nI_nlt (by omega) (by omega))]
          · rw [if_neg h2, if_pos (show opI none = -1 from rfl)]
  · have d3' : ∀ c, c < 45 → put (sgC 45 23) (wr σ 66 t (nI v)) τ c = (wr σ 66 t (nI v)) c := d3
    rw [d3' c hc]
    funext j
    exact wr_cell (by omega)
theorem bm_pick {s : Option (Nat × Nat)} {v : Nat} {r : Option Nat} (hs : bvOk s) (hr : ∀ e, r = some e → e ≤ 480) (K : Int32 → Int32 → Option Ou) : (if opI r = -1 then K (bvM s).1 (bvM s).2 else if (bvM s).1 = -1 then K (nI v) (opI r) else if opI r < (bvM s).2 then K (nI v) (opI r) else K (bvM s).1 (bvM s).2) = K (bvM (bvU s v r)).1 (bvM (bvU s v r)).2 := by
  unfold bvU
  cases r with
  | none => exact if_pos rfl
  | some e =>
    have he := hr e rfl
    rw [if_neg (opI_ne he)]
    cases s with
    | none => exact if_pos rfl
    | some q =>
      obtain ⟨w, b⟩ := q
      obtain ⟨hw, hb⟩ := hs w b rfl
      rw [if_neg (show ¬ (bvM (some (w, b))).1 = -1 from ne_m1 (show w < 2 ^ 31 by omega))]
      show _ = K (bvM (if e < b then some (v, e) else some (w, b))).1 (bvM (if e < b then some (v, e) else some (w, b))).2
      by_cases h1 : e < b
      · rw [if_pos (show opI (some e) < (bvM (some (w, b))).2 from nI_lt h1 (by omega)), if_pos h1]
        rfl
      · rw [if_neg (show ¬ opI (some e) < (bvM (some (w, b))).2 from nI_nlt (by omega) (by omega)), if_neg h1]
theorem bq_margin (hO : OkF F) : ∀ (c u N N' : Nat) (σX σM : Mm) (G : Fg) (s : Option (Nat × Nat)), u + c = 51 → c < N → c < N' → St n ρ σX σM F → XF σX 57 G → (∃ w, G = upA F 9 1 w) ∨ G = F → bvOk s → ∃ r σX' σM', b_X6_bestValue_25 N 1 10 (bvX s).1 (bvX s).2 (nI (10 * u)) σX = some (some (some (.inl r)), σX') ∧ b_X7_bestMargin_11 N' (bvM s).1 (bvM s).2 (nI (10 * u)) σM = some (some (some (.inl r)), σM') ∧ St n ρ σX' σM' F := by
  intro c
  induction c with
  | zero =>
    intro u N N' σX σM G s hu hN hN' h hX hG hs
    obtain ⟨N, rfl⟩ : ∃ N', N = N' + 1 := ⟨N - 1, by omega⟩
    obtain ⟨N', rfl⟩ : ∃ N1, N' = N1 + 1 := ⟨N' - 1, by omega⟩
    obtain rfl : u = 51 := by omega
    refine ⟨(bvX s).1, σX, σM, ?_, ?_, h⟩
    · rw [e_X6_bestValue_25, if_pos (by decide), if_pos (by decide)]
    · rw [e_X7_bestMargin_11, if_pos (by decide)]
      cases s <;> rfl
  | succ c ih =>
    intro u N N' σX σM G s hu hN hN' h hX hG hs
    obtain ⟨N, rfl⟩ : ∃ N', N = N' + 1 := ⟨N - 1, by omega⟩
    obtain ⟨N', rfl⟩ : ∃ N1, N' = N1 + 1 := ⟨N' - 1, by omega⟩
    have eG : upA G 9 1 (10 * u) = upA F 9 1 (10 * u) := by
      rcases hG with ⟨w, rfl⟩ | rfl
      · exact up_up
      · rfl
    have hO1 : OkF (upA F 9 1 (10 * u)) := ok_s1 hO (by omega)
    obtain ⟨σX1, a1, a2, a3⟩ := bx_step (N := N) (st := 10) (t := 1) (v := 10 * u) (by decide) hX (by rw [eG]; exact hO1) hs (show ¬ (500 : Int32) < nI (10 * u) from nI_nlt (a := 500) (by omega) (by decide))
    rw [eG] at a1 a2
    have h1 := st_tr h a3
    obtain ⟨σM1, b1, b2, b3, b4⟩ := st_mar h1 (m := 10 * u) (by omega)
    have e10 : nI (10 * u) + 10 = nI (10 * (u + 1)) := nI_add (10 * u) 10
    have hr : ∀ e, fnA (upA F 9 1 (10 * u)) 480 = some e → e ≤ 480 := fun e he => fn_le hO1 he
    obtain ⟨r, σX', σM', d1, d2, d3⟩ := ih (u + 1) N N' σX1 σM1 _ (bvU s (10 * u) (fnA (upA F 9 1 (10 * u)) 480)) (by omega) (by omega) (by omega) b2 a2 (Or.inl ⟨_, rfl⟩) (bv_ok hs (by omega) hr)
    refine ⟨r, σX', σM', ?_, ?_, d3⟩
    · have a1' : b_X6_bestValue_25 (N + 1) 1 10 (bvX s).1 (bvX s).2 (nI (10 * u)) σX = _ := a1
      rw [a1', e10]
      exact d1
    · rw [e_X7_bestMargin_11, if_neg (show ¬ (500 : Int32) < nI (10 * u) from nI_nlt (a := 500) (by omega) (by decide)), b1, onI_s, e10]
      exact (bm_pick hs hr (fun y z => b_X7_bestMargin_11 N' y z (nI (10 * (u + 1))) σM1)).trans d2
theorem gg_34 {σX σM : Mm} (h : St n ρ σX σM F) : go_34 x n ρ σX σM Inv := by
  unfold go_34 GP
  obtain ⟨τ, c1, c2, c3⟩ := xt_copy h
  obtain ⟨r, σX', σM', d1, d2, d3⟩ := bq_margin (n := n) (ρ := ρ) h.1.1 51 0 bigM bigM (put (sg2 57 32 11) σX τ) (wr σM 0 0 0) F none (by omega) (by unfold bigM; omega) (by unfold bigM; omega) (st_thr 0 (st_tr h c3)) c2 (Or.inr rfl) (fun w b h9 => by cases h9)
  have d1' : b_X6_bestValue_25 bigM 1 10 (-1) 481 (stv 0 1) (put (sg2 57 32 11) σX τ) = _ := d1
  have d2' : b_X7_bestMargin_11 bigM (-1) 0 0 (wr σM 0 0 0) = _ := d2
  have e1 : (1 : Int32).toNatClampNeg = 1 := by decide
  rw [e_X6_bestMargin, e_X6_bestValue, c1, onV_s, if_pos (by decide), e1, d1', onI_s, e_X7_bestMargin, d2']
  exact ⟨r, σX', σM', rfl, rfl, F, d3⟩
theorem bq_rule (hO : OkF F) : ∀ (c u N N' : Nat) (σX σM : Mm) (G : Fg) (s : Option (Nat × Nat)), u + c = 3 → c < N → c < N' → St n ρ σX σM F → XF σX 57 G → (∃ w, G = upA F 9 2 w) ∨ G = F → bvOk s → ∃ r σX' σM', b_X6_bestValue_25 N 2 1 (bvX s).1 (bvX s).2 (nI u) σX = some (some (some (.inl r)), σX') ∧ b_X7_bestRule_11 N' (bvM s).1 (bvM s).2 (nI u) σM = some (some (some (.inl r)), σM') ∧ St n ρ σX' σM' F := by
  intro c
  induction c with
  | zero =>
    intro u N N' σX σM G s hu hN hN' h hX hG hs
    obtain ⟨N, rfl⟩ : ∃ N', N = N' + 1 := ⟨N - 1, by omega⟩
    obtain ⟨N', rfl⟩ : ∃ N1, N' = N1 + 1 := ⟨N' - 1, by omega⟩
    obtain rfl : u = 3 := by omega
    refine ⟨(bvX s).1, σX, σM, ?_, ?_, h⟩
    · rw [e_X6_bestValue_25, if_pos (by decide), if_pos (by decide)]
    · rw [e_X7_bestRule_11, if_neg (by decide)]
      cases s <;> rfl
  | succ c ih =>
    intro u N N' σX σM G s hu hN hN' h hX hG hs
    obtain ⟨N, rfl⟩ : ∃ N', N = N' + 1 := ⟨N - 1, by omega⟩
    obtain ⟨N', rfl⟩ : ∃ N1, N' = N1 + 1 := ⟨N' - 1, by omega⟩
    have eG : upA G 9 2 u = upA F 9 2 u := by
      rcases hG with ⟨w, rfl⟩ | rfl
      · exact up_up
      · rfl
    have hO1 : OkF (upA F 9 2 u) := ok_s2 hO (by omega)
    obtain ⟨σX1, a1, a2, a3⟩ := bx_step (N := N) (st := 1) (t := 2) (v := u) (by decide) hX (by rw [eG]; exact hO1) hs (show ¬ (2 : Int32) < nI u from nI_nlt (a := 2) (by omega) (by decide))
    rw [eG] at a1 a2
    have h1 := st_tr h a3
    obtain ⟨σM1, b1, b2, b3, b4⟩ := st_if h1 (p := 80) (y := nI u) (by decide) hO1 (mf_s (t := 2) hO h1.1.2.2.1 (by decide))
    have b1' : f_X7_endsIf [.inr (.inl 0), .inl 80, .inl (nI u)] σM = _ := b1
    have hr : ∀ e, fnA (upA F 9 2 u) 480 = some e → e ≤ 480 := fun e he => fn_le hO1 he
    obtain ⟨r, σX', σM', d1, d2, d3⟩ := ih (u + 1) N N' σX1 σM1 _ (bvU s u (fnA (upA F 9 2 u) 480)) (by omega) (by omega) (by omega) b2 a2 (Or.inl ⟨_, rfl⟩) (bv_ok hs (by omega) hr)
    refine ⟨r, σX', σM', ?_, ?_, d3⟩
    · have a1' : b_X6_bestValue_25 (N + 1) 2 1 (bvX s).1 (bvX s).2 (nI u) σX = _ := a1
      rw [a1', nI_1]
      exact d1
    · rw [e_X7_bestRule_11, if_pos (show nI u < 3 from nI_lt (b := 3) (by omega) (by decide)), b1', onI_s, nI_1]
      exact (bm_pick hs hr (fun y z => b_X7_bestRule_11 N' y z (nI (u + 1)) σM1)).trans d2
theorem gg_53 {σX σM : Mm} (h : St n ρ σX σM F) : go_53 x n ρ σX σM Inv := by
  unfold go_53 GP
  obtain ⟨τ, c1, c2, c3⟩ := xt_copy h
  obtain ⟨r, σX', σM', d1, d2, d3⟩ := bq_rule (n := n) (ρ := ρ) h.1.1 3 0 bigM bigM (put (sg2 57 32 11) σX τ) (wr σM 0 0 0) F none (by omega) (by unfold bigM; omega) (by unfold bigM; omega) (st_thr 0 (st_tr h c3)) c2 (Or.inr rfl) (fun w b h9 => by cases h9)
  have d1' : b_X6_bestValue_25 bigM 2 1 (-1) 481 (stv 0 2) (put (sg2 57 32 11) σX τ) = _ := d1
  have d2' : b_X7_bestRule_11 bigM (-1) 0 0 (wr σM 0 0 0) = _ := d2
  have e1 : (2 : Int32).toNatClampNeg = 2 := by decide
  rw [e_X6_bestRule, e_X6_bestValue, c1, onV_s, if_pos (by decide), e1, d1', onI_s, e_X7_bestRule, d2']
  exact ⟨r, σX', σM', rfl, rfl, F, d3⟩
theorem bq_least (hO : OkF F) {p L : Nat} (hp : p < F 0 1) (hL : L ≤ 480) (T : Int32) : ∀ (c u N N' : Nat) (σX σM : Mm) (G : Fg), u + c = 101 → 1 ≤ u → c < N → c < N' → St n ρ σX σM F → σM 0 0 = T → XF σX 57 G → (∃ w, G = upA F 7 p w) ∨ G = F → ∃ r σX' σM', b_X6_leastRate_31 N (nI p) (nI L) (nI (20 * u)) σX = some (some (some (.inl r)), σX') ∧ b_X7_leastRate_26 N' (nI p) (nI L) (nI (20 * u)) σM = some (some (some (.inl r)), σM') ∧ St n ρ σX' σM' F ∧ σM' 0 0 = T := by
  have h3 := hO.2.1
  intro c
  induction c with
  | zero =>
    intro u N N' σX σM G hu hu1 hN hN' h hT hX hG
    obtain ⟨N, rfl⟩ : ∃ N', N = N' + 1 := ⟨N - 1, by omega⟩
    obtain ⟨N', rfl⟩ : ∃ N1, N' = N1 + 1 := ⟨N' - 1, by omega⟩
    obtain rfl : u = 101 := by omega
    refine ⟨-1, σX, σM, ?_, ?_, h, hT⟩
    · rw [e_X6_leastRate_31, if_pos (by decide)]
    · rw [e_X7_leastRate_26, if_pos (by decide)]
  | succ c ih =>
    intro u N N' σX σM G hu hu1 hN hN' h hT hX hG
    obtain ⟨N, rfl⟩ : ∃ N', N = N' + 1 := ⟨N - 1, by omega⟩
    obtain ⟨N', rfl⟩ : ∃ N1, N' = N1 + 1 := ⟨N' - 1, by omega⟩
    have eG : upA G 7 p (20 * u) = upA F 7 p (20 * u) := by
      rcases hG with ⟨w, rfl⟩ | rfl
      · exact up_up
      · rfl
    have hO1 : OkF (upA F 7 p (20 * u)) := ok_rate hO (by omega) (by omega)
    have hlt : ¬ (2000 : Int32) < nI (20 * u) := nI_nlt (a := 2000) (by omega) (by decide)
    have hX1 := xf_rate (p := p) (v := 20 * u) hX
    rw [eG] at hX1
    obtain ⟨τ, a1, a2, a3⟩ := xt_end (m := L) hO1 hX1 hL
    have a1' : f_X5_endWithin [.inr (.inl 0), .inl (nI L)] (pk (sgC 45 23) (wr σX 64 p (nI (20 * u)))) = _ := a1
    have a2' : XF (put (sgC 45 23) (wr σX 64 p (nI (20 * u))) τ) 57 (upA F 7 p (20 * u)) := a2
    have a3' : ∀ c, c < 45 → put (sgC 45 23) (wr σX 64 p (nI (20 * u))) τ c = σX c := fun c hc => by
      have := a3 c hc
      refine Eq.trans this ?_
      funext j
      exact wr_cell (by omega)
    have h1 := st_tr h a3'
    obtain ⟨σM1, b1, b2, b3, b4⟩ := st_if h1 (p := 66 + p) (y := nI (20 * u)) (by omega) hO1 (mf_rate hO h1.1.2.2.1 hp)
    have e20 : nI (20 * u) + 20 = nI (20 * (u + 1)) := nI_add (20 * u) 20
    rw [e_X6_leastRate_31, if_neg hlt, if_pos (inb_nI (by omega) (by decide)), nI_clamp (by omega), a1', onI_s, e_X7_leastRate_26, if_neg hlt, if_neg (ne_m1 (by omega)), n66, b1, onI_s, fn_lim hO1 hL, e20]
    have next := ih (u + 1) N N' _ σM1 _ (by omega) (by omega) (by omega) (by omega) b2 (by rw [b3]; exact hT) a2' (Or.inl ⟨_, rfl⟩)
    cases hr : fnA (upA F 7 p (20 * u)) 480 with
    | none =>
      rw [show liA none L = none from rfl, if_pos (show opI none = -1 from rfl), if_pos (show opI none = -1 from rfl)]
      exact next
    | some e =>
      have he := fn_le hO1 hr
      rw [show liA (some e) L = if e ≤ L then some e else none from rfl, if_neg (opI_ne he), show opI (some e) = nI e from rfl]
      by_cases h2 : e ≤ L
      · rw [if_pos h2, if_neg (opI_ne he), if_neg (nI_nlt h2 (by omega))]
        exact ⟨_, _, σM1, rfl, rfl, b2, by rw [b3]; exact hT⟩
      · rw [if_neg h2, if_pos (show opI none = -1 from rfl), if_pos (nI_lt (by omega) (by omega))]
        exact next
theorem xf_fin {σX σM : Mm} (h : St n ρ σX σM F) : ∃ σX', f_X6_finish [.inr (.inl 0)] σX = some (some (some (.inl (opI (fnA F 480)))), σX') ∧ St n ρ σX' σM F := by
  obtain ⟨σX', a1, a2, a3⟩ := st_log h
  refine ⟨σX', ?_, a2⟩
  rw [e_X6_finish, a1, onA_s, xf_endm h.1.1 (wl_xr a3) (ti_rn h.1.1 480) (by decide), onI_s, putC_id]
  rfl
theorem gg_55 {σX σM : Mm} (h : St n ρ σX σM F) : go_55 x n ρ σX σM Inv := by
  have hO := h.1.1
  have h3 := hO.2.1
  unfold go_55 GT
  rw [e_X6_leastRate, sp_reqPlace (by omega) h.1.2.1.2.1, e_X7_leastRate, sm_isPlace (by omega) h.1.2.2.1.2.1, onI_s, sm_checks, onI_s]
  by_cases hi : inb (x 1) (F 0 1) = true
  · left
    obtain ⟨p, hp, e9⟩ := (inb_out (by omega)).mp hi
    simp only [if_pos hi, onV_s]
    obtain ⟨σX1, a1, a2⟩ := xf_fin h
    obtain ⟨σ1, b1, b2, b3, b4, b5, -⟩ := st_ord a2 0
    obtain ⟨σM1, d1, d2, d3, -⟩ := st_ends a2 hO (kp_all F) b2 b3 b4
    rw [a1, onI_s, if_neg (show ¬ (1 : Int32) = 0 by decide), b1, onV_s, d1, onI_s, e9]
    cases hf : fnA F 480 with
    | none =>
      rw [if_pos (show opI none = -1 from rfl)]
      obtain ⟨m, hm⟩ : ∃ m, bigM = m + 1 := ⟨bigM - 1, rfl⟩
      rw [hm, e_X7_leastRate_26, if_neg (by decide), if_pos (show opI none = -1 from rfl)]
      exact ⟨-1, σX1, σM1, rfl, rfl, by rw [d3, b5], F, d2⟩
    | some e =>
      have he := fn_le hO hf
      obtain ⟨τ, c1, c2, c3⟩ := xt_copy d2
      obtain ⟨r, σX', σM', f1, f2, f3, f4⟩ := bq_least (n := n) (ρ := ρ) hO hp he 0 100 1 bigM bigM _ σM1 F (by omega) (by omega) (by unfold bigM; omega) (by unfold bigM; omega) (st_tr d2 c3) (by rw [d3, b5]) c2 (Or.inr rfl)
      have f1' : b_X6_leastRate_31 bigM (nI p) (nI e) 20 (put (sg2 57 32 11) σX1 τ) = _ := f1
      have f2' : b_X7_leastRate_26 bigM (nI p) (nI e) 20 σM1 = _ := f2
      rw [if_neg (opI_ne he), c1, onV_s, show opI (some e) = nI e from rfl, f1', f2']
      exact ⟨r, σX', σM', rfl, rfl, f4, F, f3⟩
  · right
    simp only [if_neg hi, onV_t]
    exact ⟨0, σX, wr σM 0 0 1, rfl, rfl, wr_same, F, st_thr 1 h⟩
end BV
