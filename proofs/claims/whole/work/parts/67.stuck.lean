/-! a run in which nothing moves any more -/
section STUCK
variable {F S S' : Fg} {k t : Nat}
def Sk (F S : Fg) : Prop := (∀ k, k < F 0 0 → S 1 k < 10) ∧ (∀ k, k < F 0 0 → rdA F S k = false) ∧ (∀ v, v < F 0 1 → tkA S (orL F) (1 + v) = true ∨ wtA F S (orL F) = none) ∧ (∀ k, k < F 0 0 → dnA F S k = false → htA F S k = S 0 k)
theorem pick_no : ∀ (l : List Nat), (∀ k, k ∈ l → rdA F S k = false) → pickA F S l none = none
  | [], _ => rfl
  | x :: r, h => by
    show pickA F S r (if rdA F S x = true then some x else none) = none
    rw [h x List.mem_cons_self]
    exact pick_no r (fun k hk => h k (List.mem_cons_of_mem _ hk))
theorem pick_so : ∀ (l : List Nat) (b : Nat), ∃ j, pickA F S l (some b) = some j
  | [], b => ⟨b, rfl⟩
  | x :: r, b => by
    show ∃ j, pickA F S r (if (rdA F S x && btA F S x b) = true then some x else some b) = some j
    split
    · exact pick_so r x
    · exact pick_so r b
theorem pick_no' : ∀ (l : List Nat), pickA F S l none = none → ∀ k, k ∈ l → rdA F S k = false
  | [], _, k, hk => by cases hk
  | x :: r, h, k, hk => by
    have h1 : pickA F S r (if rdA F S x = true then some x else none) = none := h
    by_cases hx : rdA F S x = true
    · rw [if_pos hx] at h1
      obtain ⟨j, hj⟩ := pick_so (F := F) (S := S) r x
      rw [hj] at h1
      cases h1
    · rw [if_neg hx] at h1
      rcases List.mem_cons.mp hk with rfl | hk
      · simpa using hx
      · exact pick_no' r h1 k hk
theorem sk_cls (h : ∀ k, k < F 0 0 → S 1 k < 10) (hO : OkF F) (v : Nat) : clS F (orL F) v S = S := by
  unfold clS
  have : (orL F).find? (fun k => decide (S 1 k = 10 + v)) = none := by
    rw [List.find?_eq_none]
    intro k hk
    have := h k (orL_lt hO hk)
    simp
    omega
  rw [this]
theorem sk_cl (h : ∀ k, k < F 0 0 → S 1 k < 10) (hO : OkF F) : ∀ (c v : Nat), clB F (orL F) c v S = S
  | 0, v => rfl
  | c + 1, v => by
    show clB F (orL F) c (v + 1) (clS F (orL F) v S) = S
    rw [sk_cls h hO]
    exact sk_cl h hO c (v + 1)
theorem sk_pl : ∀ (c v : Nat), (∀ w, v ≤ w → w < v + c → tkA S (orL F) (1 + w) = true ∨ wtA F S (orL F) = none) → plA F (orL F) c v S = S
  | 0, v, _ => rfl
  | c + 1, v, h => by
    have e : plS F (orL F) v S = S := by
      unfold plS
      rcases h v (by omega) (by omega) with h1 | h1
      · rw [if_pos h1]
      · rw [h1]
        split <;> rfl
    show plA F (orL F) c (v + 1) (plS F (orL F) v S) = S
    rw [e]
    exact sk_pl c (v + 1) (fun w h1 h2 => h w (by omega) (by omega))
theorem sk_mv (hO : OkF F) (h : Sk F S) : mvA F S = S := by
  unfold mvA
  rw [sk_cl h.1 hO, an_none (pick_no _ (fun k hk => h.2.1 k (orL_lt hO hk)))]
  exact sk_pl _ _ (fun w _ h2 => h.2.2.1 w (by omega))
theorem wt_cg {l : List Nat} (h1 : ∀ k, k ∈ l → S' 1 k = S 1 k ∧ dnA F S' k = dnA F S k ∧ rdA F S' k = rdA F S k) : wtA F S' l = wtA F S l := by
  unfold wtA
  induction l with
  | nil => rfl
  | cons x r ih =>
    obtain ⟨a, b, c⟩ := h1 x List.mem_cons_self
    rw [List.find?_cons, List.find?_cons, a, b, c, ih (fun k hk => h1 k (List.mem_cons_of_mem _ hk))]
theorem tk_cg {l : List Nat} {v : Nat} (h1 : ∀ k, k ∈ l → S' 1 k = S 1 k) : tkA S' l v = tkA S l v := by
  unfold tkA
  induction l with
  | nil => rfl
  | cons x r ih =>
    rw [List.any_cons, List.any_cons, h1 x List.mem_cons_self, ih (fun k hk => h1 k (List.mem_cons_of_mem _ hk))]
theorem rd_cg (h0 : S' 0 k = S 0 k) (h1 : S' 1 k = S 1 k) (h2 : S' 2 k = S 2 k) : rdA F S' k = rdA F S k := by
  unfold rdA
  rw [dn_cg h2, nd_cg h2, h0, h1]
theorem sk_step (hO : OkF F) (h : Sk F S) : Sk F (mnA F t S) ∧ (∀ k, k < F 0 0 → mnA F t S 2 k = S 2 k) := by
  have e1 : ∀ k, k < F 0 0 → ∀ q, q ≠ 0 → mnA F t S q k = S q k := fun k hk q hq => by
    rw [mn_at hk, sk_mv hO h, ps_idle (by have := h.1 k hk; omega) hq]
  have e0 : ∀ k, k < F 0 0 → dnA F S k = false → mnA F t S 0 k = S 0 k := fun k hk hd => by
    rw [mn_at hk, sk_mv hO h, ps_0]
    exact h.2.2.2 k hk hd
  have ed : ∀ k, k < F 0 0 → dnA F (mnA F t S) k = dnA F S k := fun k hk => dn_cg (e1 k hk 2 (by decide))
  have er : ∀ k, k < F 0 0 → rdA F (mnA F t S) k = rdA F S k := fun k hk => by
    cases hd : dnA F S k with
    | true =>
      unfold rdA
      rw [ed k hk, hd]
      rfl
    | false => exact rd_cg (e0 k hk hd) (e1 k hk 1 (by decide)) (e1 k hk 2 (by decide))
  refine ⟨⟨fun k hk => by rw [e1 k hk 1 (by decide)]; exact h.1 k hk, fun k hk => by rw [er k hk]; exact h.2.1 k hk, fun v hv => ?_, fun k hk hd => ?_⟩, fun k hk => e1 k hk 2 (by decide)⟩
  · rw [tk_cg (fun k hk => e1 k (orL_lt hO hk) 1 (by decide)), wt_cg (fun k hk => ⟨e1 k (orL_lt hO hk) 1 (by decide), ed k (orL_lt hO hk), er k (orL_lt hO hk)⟩)]
    exact h.2.2.1 v hv
  · rw [ed k hk] at hd
    have : ∀ q, mnA F t S q k = S q k := fun q => by
      by_cases hq : q = 0
      · rw [hq]; exact e0 k hk hd
      · exact e1 k hk q hq
    have e9 : htA F (mnA F t S) k = htA F S k := by unfold htA; simp only [this]
    rw [e9, this]
    exact h.2.2.2 k hk hd
theorem mvJ_false : ∀ n, mvJ F S n = false → ∀ k, k < n → S 1 k < 10 ∧ (dnA F S k = false → htA F S k = S 0 k)
  | 0, _, k, hk => absurd hk (Nat.not_lt_zero k)
  | n + 1, h, k, hk => by
    have h1 : (mvJ F S n || (decide (10 ≤ S 1 n) || (decide (htA F S n ≠ S 0 n) && !(dnA F S n)))) = false := h
    rw [Bool.or_eq_false_iff, Bool.or_eq_false_iff] at h1
    obtain ⟨a, b, c⟩ := h1
    by_cases e : k = n
    · subst e
      refine ⟨by simpa using b, fun hd => ?_⟩
      rw [hd] at c
      simpa using c
    · exact mvJ_false n a k (by omega)
theorem an_end (hO : OkF F) : ∀ (c v : Nat) (S : Fg), v + c ≤ 3 → (∀ k, k < F 0 0 → anA F (orL F) (c + 1) v S 1 k < 10) → pickA F (anA F (orL F) (c + 1) v S) (orL F) none = none
  | 0, v, S, hv, h => by
    have h' : ∀ k, k < F 0 0 → anS F (orL F) v S 1 k < 10 := h
    show pickA F (anS F (orL F) v S) (orL F) none = none
    unfold anS at h' ⊢
    by_cases ht : tkA S (orL F) (10 + v) = true
    · obtain ⟨k, hk, h1⟩ := (tk_iff hO).mp ht
      rw [if_pos ht] at h'
      have := h' k hk
      omega
    · rw [if_neg ht] at h' ⊢
      cases hp : pickA F S (orL F) none with
      | none => exact hp
      | some k =>
        rw [hp] at h'
        have hk : k ∈ orL F := by
          rcases pick_mem _ _ _ hp with h9 | h9
          · exact h9.1
          · cases h9
        have h2 : upA S 1 k (10 + v) 1 k < 10 := h' k (orL_lt hO hk)
        rw [upA_at, if_pos ⟨rfl, rfl⟩] at h2
        omega
  | c + 1, v, S, hv, h => an_end hO c (v + 1) (anS F (orL F) v S) (by omega) h
theorem pls_1 {v : Nat} : (plS F (orL F) v S 1 k = S 1 k) ∨ (S 1 k = 0 ∧ plS F (orL F) v S 1 k = 1 + v) := by
  unfold plS
  split
  · exact Or.inl rfl
  · cases hp : wtA F S (orL F) with
    | none => exact Or.inl rfl
    | some j =>
      show upA (upA S 1 j (1 + v)) 6 j (S 6 j + 1) 1 k = S 1 k ∨ (S 1 k = 0 ∧ upA (upA S 1 j (1 + v)) 6 j (S 6 j + 1) 1 k = 1 + v)
      rw [upA_c (by decide), upA_at]
      by_cases e : k = j
      · subst e
        exact Or.inr ⟨(wt_mem hp).2, if_pos ⟨rfl, rfl⟩⟩
      · exact Or.inl (if_neg (fun h9 => e h9.2))
theorem pl_1 : ∀ (c v : Nat) (S : Fg), (plA F (orL F) c v S 1 k = S 1 k) ∨ (S 1 k = 0 ∧ 1 ≤ plA F (orL F) c v S 1 k ∧ plA F (orL F) c v S 1 k ≤ v + c)
  | 0, v, S => Or.inl rfl
  | c + 1, v, S => by
    show plA F (orL F) c (v + 1) (plS F (orL F) v S) 1 k = S 1 k ∨ (S 1 k = 0 ∧ 1 ≤ plA F (orL F) c (v + 1) (plS F (orL F) v S) 1 k ∧ plA F (orL F) c (v + 1) (plS F (orL F) v S) 1 k ≤ v + (c + 1))
    have h1 := pls_1 (F := F) (S := S) (k := k) (v := v)
    have h2 := pl_1 c (v + 1) (plS F (orL F) v S)
    omega
theorem pl_tk (hO : OkF F) {x : Nat} (hx : 1 ≤ x) (c v : Nat) (h : tkA S (orL F) x = true) : tkA (plA F (orL F) c v S) (orL F) x = true := by
  obtain ⟨k, hk, h1⟩ := (tk_iff hO).mp h
  refine (tk_iff hO).mpr ⟨k, hk, ?_⟩
  have := pl_1 (F := F) (k := k) c v S
  omega
theorem pl_end (hO : OkF F) : ∀ (c v : Nat) (S : Fg), ∀ w, v ≤ w → w < v + c → tkA (plA F (orL F) c v S) (orL F) (1 + w) = true ∨ wtA F (plA F (orL F) c v S) (orL F) = none
  | 0, v, S, w, h1, h2 => by omega
  | c + 1, v, S, w, h1, h2 => by
    show tkA (plA F (orL F) c (v + 1) (plS F (orL F) v S)) (orL F) (1 + w) = true ∨ wtA F (plA F (orL F) c (v + 1) (plS F (orL F) v S)) (orL F) = none
    by_cases e : w = v
    · subst e
      by_cases ht : tkA S (orL F) (1 + w) = true
      · have e9 : plS F (orL F) w S = S := by unfold plS; rw [if_pos ht]
        rw [e9]
        exact Or.inl (pl_tk hO (by omega) _ _ ht)
      · cases hp : wtA F S (orL F) with
        | none =>
          have e9 : plS F (orL F) w S = S := by unfold plS; rw [if_neg ht, hp]
          rw [e9, pl_none hp]
          exact Or.inr hp
        | some j =>
          have e9 : plS F (orL F) w S = upA (upA S 1 j (1 + w)) 6 j (S 6 j + 1) := by unfold plS; rw [if_neg ht, hp]
          refine Or.inl (pl_tk hO (by omega) _ _ ((tk_iff hO).mpr ⟨j, orL_lt hO (wt_mem hp).1, ?_⟩))
          rw [e9, upA_c (by decide), upA_at, if_pos ⟨rfl, rfl⟩]
    · exact pl_end hO c (v + 1) _ w (by omega) (by omega)
theorem sk_first (hO : OkF F) (h : mvJ F (mvA F S) (F 0 0) = false) : Sk F (mnA F t S) := by
  have h9 := hO.2.2.2.2.2.1
  have h3 := hO.2.1
  have hf := mvJ_false _ h
  have hM : Sk F (mvA F S) := by
    refine ⟨fun k hk => (hf k hk).1, fun k hk => ?_, fun v hv => ?_, fun k hk => (hf k hk).2⟩
    · obtain ⟨a, ha⟩ : ∃ a, F 9 0 = a + 1 := ⟨F 9 0 - 1, by omega⟩
      have hA : ∀ k, k < F 0 0 → anA F (orL F) (a + 1) 0 (clB F (orL F) (F 9 0) 0 S) 1 k < 10 := fun k hk => by
        have h1 := (hf k hk).1
        unfold mvA at h1
        rw [ha] at h1
        have h2 := pl_1 (F := F) (k := k) (F 0 1) 0 (anA F (orL F) (a + 1) 0 (clB F (orL F) (a + 1) 0 S))
        rw [ha]
        omega
      have hp := an_end hO a 0 _ (by omega) hA
      have hr := pick_no' _ hp k (orL_all hO hk)
      rw [← ha] at hr
      have hA' := hA k hk
      rw [← ha] at hA'
      unfold rdA at hr ⊢
      unfold mvA
      have q0 := pl_q (F := F) (k := k) (ord := orL F) (show 0 ≠ 1 by decide) (show 0 ≠ 6 by decide) (F 0 1) 0 (anA F (orL F) (F 9 0) 0 (clB F (orL F) (F 9 0) 0 S))
      have q2 := pl_q (F := F) (k := k) (ord := orL F) (show 2 ≠ 1 by decide) (show 2 ≠ 6 by decide) (F 0 1) 0 (anA F (orL F) (F 9 0) 0 (clB F (orL F) (F 9 0) 0 S))
      rw [dn_cg q2, nd_cg q2, q0]
      have l1 := (hf k hk).1
      unfold mvA at l1
      rw [show decide (_ < 10) = true from decide_eq_true hA'] at hr
      rw [show decide (_ < 10) = true from decide_eq_true l1]
      exact hr
    · exact pl_end hO (F 0 1) 0 _ v (by omega) (by omega)
  have := (sk_step (t := t) hO hM).1
  unfold mnA at this ⊢
  rw [sk_mv hO hM] at this
  exact this
theorem sk_rn (hO : OkF F) (h : Sk F (rnA F t)) : ∀ u, Sk F (rnA F (t + u)) ∧ ∀ k, k < F 0 0 → rnA F (t + u) 2 k = rnA F t 2 k
  | 0 => ⟨h, fun _ _ => rfl⟩
  | u + 1 => by
    have ih := sk_rn hO h u
    have := sk_step (t := t + u) hO ih.1
    exact ⟨this.1, fun k hk => (this.2 k hk).trans (ih.2 k hk)⟩
theorem sk_fn (hO : OkF F) (h : Sk F (rnA F t)) (hn : fnA F t = none) {u : Nat} (hu : t ≤ u) : fnA F u = none := by
  obtain ⟨v, rfl⟩ : ∃ v, u = t + v := ⟨u - t, by omega⟩
  cases h1 : fnA F (t + v) with
  | none => rfl
  | some e =>
    obtain ⟨h2, -⟩ := fn_some.mp h1
    have h3 : fnA F t = some (mxA (rnA F t) (F 0 0)) := fn_some.mpr ⟨fun k hk => ((sk_rn hO h v).2 k hk).symm.trans (h2 k hk), rfl⟩
    rw [hn] at h3
    cases h3
end STUCK
