/-! a minute: its parts keep the state's bounds; clearing, iron by iron -/
def clK (F S : Fg) (c k : Nat) : Nat := if 10 ≤ S 1 k then (if dnA F S k = true then (if c = 1 then 0 else S c k) else if S 0 k < ndA F S k then (if c = 1 then 0 else if c = 5 then S 5 k + 1 else S c k) else S c k) else S c k
def mvA (F S : Fg) : Fg := plA F (orL F) (F 0 1) 0 (anA F (orL F) (F 9 0) 0 (clB F (orL F) (F 9 0) 0 S))
def mnA (F : Fg) (t : Nat) (S : Fg) : Fg := psJ F t (F 0 0) (mvA F S)
def s0A (F : Fg) : Fg := fun c k => if c = 0 then 20 else if c = 4 ∧ F 4 k = 0 then 1 else 0
def rnA (F : Fg) : Nat → Fg
  | 0 => s0A F
  | t + 1 => mnA F t (rnA F t)
section MIN
variable {F S S' : Fg} {np k : Nat}
theorem clK_cg (h : ∀ c, S' c k = S c k) (c : Nat) : clK F S' c k = clK F S c k := by
  unfold clK
  rw [dn_cg (h 2), nd_cg (h 2)]
  simp only [h]
theorem cls_at (hO : OkF F) (hS : SI F np S) (hk : k < F 0 0) (v c : Nat) : clS F (orL F) v S c k = if S 1 k = 10 + v then clK F S c k else S c k := by
  unfold clS
  cases hf : (orL F).find? (fun k => decide (S 1 k = 10 + v)) with
  | none =>
    have : S 1 k ≠ 10 + v := fun h9 => by
      have := List.find?_eq_none.mp hf k (orL_all hO hk)
      exact this (by simpa using h9)
    rw [if_neg this]
  | some j =>
    have hj := orL_lt hO (List.mem_of_find?_eq_some hf)
    have hj1 : S 1 j = 10 + v := by simpa using List.find?_some hf
    show (if dnA F S j = true then upA S 1 j 0 else if S 0 j < ndA F S j then upA (upA S 1 j 0) 5 j (S 5 j + 1) else S) c k = _
    by_cases e : S 1 k = 10 + v
    · have : k = j := hS.2.1 k j hk hj (by omega) (by omega)
      subst this
      rw [if_pos e]
      unfold clK
      rw [if_pos (show 10 ≤ S 1 k by omega)]
      by_cases hd : dnA F S k = true
      · rw [if_pos hd, if_pos hd, upA_at]
        simp
      · rw [if_neg hd, if_neg hd]
        by_cases hc : S 0 k < ndA F S k
        · rw [if_pos hc, if_pos hc, upA_at, upA_at]
          by_cases h1 : c = 1
          · subst h1; simp
          · by_cases h5 : c = 5 <;> simp [h1, h5]
        · rw [if_neg hc, if_neg hc]
    · have : k ≠ j := fun h9 => e (by rw [h9]; exact hj1)
      rw [if_neg e]
      split
      · rw [upA_at, if_neg (fun h9 => this h9.2)]
      · split
        · rw [upA_at, if_neg (fun h9 => this h9.2), upA_at, if_neg (fun h9 => this h9.2)]
        · rfl
theorem si_cls (hO : OkF F) (hS : SI F np S) (v : Nat) : SI F np (clS F (orL F) v S) := by
  unfold clS
  cases hf : (orL F).find? (fun k => decide (S 1 k = 10 + v)) with
  | none => exact hS
  | some j =>
    have hj := orL_lt hO (List.mem_of_find?_eq_some hf)
    show SI F np (if dnA F S j = true then upA S 1 j 0 else if S 0 j < ndA F S j then upA (upA S 1 j 0) 5 j (S 5 j + 1) else S)
    have h0 : SI F np (upA S 1 j 0) := si_up hS hj (Or.inl rfl) (fun _ _ _ => rfl)
    split
    · exact h0
    · split
      · exact si_5 h0
      · exact hS
theorem si_cl (hO : OkF F) : ∀ (c v : Nat) (S : Fg), SI F np S → SI F np (clB F (orL F) c v S)
  | 0, v, S, h => h
  | c + 1, v, S, h => si_cl hO c (v + 1) _ (si_cls hO h v)
theorem clB_at (hO : OkF F) (hk : k < F 0 0) : ∀ (c v : Nat) (S : Fg), SI F np S → ∀ q, clB F (orL F) c v S q k = if 10 + v ≤ S 1 k ∧ S 1 k < 10 + v + c then clK F S q k else S q k
  | 0, v, S, hS, q => by rw [if_neg (by omega)]; rfl
  | c + 1, v, S, hS, q => by
    have h9 := clB_at hO hk c (v + 1) _ (si_cls hO hS v) q
    show clB F (orL F) c (v + 1) (clS F (orL F) v S) q k = _
    rw [h9]
    by_cases e : S 1 k = 10 + v
    · have h1 : ∀ q, clS F (orL F) v S q k = clK F S q k := fun q => by rw [cls_at hO hS hk, if_pos e]
      have h2 : ¬ (10 + (v + 1) ≤ clS F (orL F) v S 1 k ∧ clS F (orL F) v S 1 k < 10 + (v + 1) + c) := by
        rw [h1]
        unfold clK
        rw [if_pos (by omega)]
        split
        · simp
        · split
          · simp
          · omega
      rw [if_neg h2, if_pos (by omega), h1]
    · have h1 : ∀ q, clS F (orL F) v S q k = S q k := fun q => by rw [cls_at hO hS hk, if_neg e]
      rw [clK_cg h1, h1, h1]
      by_cases h3 : 10 + v ≤ S 1 k ∧ S 1 k < 10 + v + (c + 1)
      · rw [if_pos h3, if_pos (by omega)]
      · rw [if_neg h3, if_neg (by omega)]
theorem cl_at (hO : OkF F) (hS : SI F np S) (hk : k < F 0 0) (q : Nat) : clB F (orL F) (F 9 0) 0 S q k = clK F S q k := by
  rw [clB_at hO hk _ _ _ hS]
  by_cases h : 10 ≤ S 1 k
  · have := (hS.1 k hk).2.2.2.2
    have h3 := hS.2.2
    rw [if_pos (by omega)]
  · rw [if_neg (by omega)]
    unfold clK
    rw [if_neg h]
theorem pi_cl (hO : OkF F) (hS : SI F np S) : PI F (clB F (orL F) (F 9 0) 0 S) := by
  intro k hk h
  rw [cl_at hO hS hk] at h ⊢
  have h1 := (hS.1 k hk).1
  unfold clK at h ⊢
  by_cases h10 : 10 ≤ S 1 k
  · rw [if_pos h10] at h ⊢
    by_cases hd : dnA F S k = true
    · rw [if_pos hd] at h
      simp at h
    · rw [if_neg hd]
      have hd' := hd
      unfold dnA at hd'
      simp only [decide_eq_true_eq] at hd'
      split <;> simp <;> omega
  · rw [if_neg h10] at h
    omega
theorem rd_nd (h : rdA F S k = true) : dnA F S k = false := by
  unfold rdA at h
  simp only [Bool.and_eq_true, Bool.not_eq_true'] at h
  exact h.1.1
theorem dn_lt (hS : SI F np S) (hk : k < F 0 0) (h : dnA F S k = false) : S 2 k < F 4 k := by
  have := (hS.1 k hk).1
  unfold dnA at h
  simp only [decide_eq_false_iff_not] at h
  omega
theorem an_one (hO : OkF F) (hS : SI F np S) (hP : PI F S) {v : Nat} (hv : v < F 9 0) : SI F np (anS F (orL F) v S) ∧ PI F (anS F (orL F) v S) := by
  unfold anS
  by_cases ht : tkA S (orL F) (10 + v) = true
  · rw [if_pos ht]
    exact ⟨hS, hP⟩
  · rw [if_neg ht]
    cases hp : pickA F S (orL F) none with
    | none => exact ⟨hS, hP⟩
    | some k =>
      have hk : k ∈ orL F ∧ rdA F S k = true := by
        rcases pick_mem _ _ _ hp with h | h
        · exact h
        · cases h
      have hk6 := orL_lt hO hk.1
      refine ⟨si_up hS hk6 (Or.inr (Or.inr ⟨by omega, by omega⟩)) (fun k' hk' h9 => absurd ((tk_iff hO).mpr ⟨k', hk', h9⟩) ht), fun k' hk' h9 => ?_⟩
      show upA S 1 k (10 + v) 2 k' < F 4 k'
      have h8 : 10 ≤ upA S 1 k (10 + v) 1 k' := h9
      rw [upA_c (by decide)]
      rw [upA_at] at h8
      by_cases e : k' = k
      · subst e
        exact dn_lt hS hk' (rd_nd hk.2)
      · rw [if_neg (fun h9 => e h9.2)] at h8
        exact hP k' hk' h8
theorem an_all (hO : OkF F) : ∀ (c v : Nat) (S : Fg), v + c = F 9 0 → SI F np S → PI F S → SI F np (anA F (orL F) c v S) ∧ PI F (anA F (orL F) c v S)
  | 0, v, S, _, h1, h2 => ⟨h1, h2⟩
  | c + 1, v, S, hv, h1, h2 => by
    have := an_one hO h1 h2 (v := v) (by omega)
    exact an_all hO c (v + 1) _ (by omega) this.1 this.2
theorem pl_one (hO : OkF F) (hS : SI F np S) (hP : PI F S) {v : Nat} (hv : v < np) (h3 : np ≤ 3) : SI F np (plS F (orL F) v S) ∧ PI F (plS F (orL F) v S) := by
  unfold plS
  by_cases ht : tkA S (orL F) (1 + v) = true
  · rw [if_pos ht]
    exact ⟨hS, hP⟩
  · rw [if_neg ht]
    cases hp : wtA F S (orL F) with
    | none => exact ⟨hS, hP⟩
    | some k =>
      obtain ⟨hkm, hl⟩ := wt_mem hp
      have hk6 := orL_lt hO hkm
      refine ⟨si_6 (si_up hS hk6 (Or.inr (Or.inl ⟨by omega, by omega⟩)) (fun k' hk' h9 => absurd ((tk_iff hO).mpr ⟨k', hk', h9⟩) ht)), fun k' hk' h9 => ?_⟩
      show upA (upA S 1 k (1 + v)) 6 k (S 6 k + 1) 2 k' < F 4 k'
      have h8 : 10 ≤ upA (upA S 1 k (1 + v)) 6 k (S 6 k + 1) 1 k' := h9
      rw [upA_c (by decide), upA_c (by decide)]
      rw [upA_c (by decide), upA_at] at h8
      by_cases e : k' = k
      · rw [if_pos ⟨rfl, e⟩] at h8
        omega
      · rw [if_neg (fun h9 => e h9.2)] at h8
        exact hP k' hk' h8
theorem pl_all (hO : OkF F) (h3 : np ≤ 3) : ∀ (c v : Nat) (S : Fg), v + c = np → SI F np S → PI F S → SI F np (plA F (orL F) c v S) ∧ PI F (plA F (orL F) c v S)
  | 0, v, S, _, h1, h2 => ⟨h1, h2⟩
  | c + 1, v, S, hv, h1, h2 => by
    have := pl_one hO h1 h2 (v := v) (by omega) h3
    exact pl_all hO h3 c (v + 1) _ (by omega) this.1 this.2
theorem si_mv (hO : OkF F) (hS : SI F (F 0 1) S) : SI F (F 0 1) (mvA F S) ∧ PI F (mvA F S) := by
  have h1 := an_all hO (F 9 0) 0 _ (by omega) (si_cl hO (F 9 0) 0 S hS) (pi_cl hO hS)
  exact pl_all hO hO.2.1 (F 0 1) 0 _ (by omega) h1.1 h1.2
theorem si_mn (hO : OkF F) (t : Nat) (hS : SI F (F 0 1) S) : SI F (F 0 1) (mnA F t S) := by
  have := si_mv hO hS
  exact si_psJ hO this.1 this.2 _ (Nat.le_refl _)
theorem si_0 (hO : OkF F) : SI F (F 0 1) (s0A F) := by
  refine ⟨fun k hk => ?_, fun k1 k2 h1 h2 he h0 => ?_, hO.2.1⟩
  · refine ⟨Nat.zero_le _, fun h => ?_, fun _ => rfl, ⟨show 20 ≤ 20 by omega, show 20 ≤ 1500 by omega⟩, Or.inl rfl⟩
    exact ((hO.2.2.1 k hk).2.2.2.1 0 h).2.1
  · exact absurd rfl h0
theorem si_rn (hO : OkF F) : ∀ t, SI F (F 0 1) (rnA F t)
  | 0 => si_0 hO
  | t + 1 => si_mn hO t (si_rn hO t)
end MIN
/-! the class's minute -/
section XMIN
variable {F S : Fg} {τ : Mm} {t : Nat}
theorem xf_moves (hO : OkF F) (hS : SI F (F 0 1) S) (h : XR τ F S) : ∃ τ1 τ2 τ3, f_X5_clearAnvils [.inr (.inl 0)] τ = some (some none, τ1) ∧ f_X5_fillAnvils [.inr (.inl 0)] τ1 = some (some none, τ2) ∧ f_X5_fillPlaces [.inr (.inl 0)] τ2 = some (some none, τ3) ∧ XR τ3 F (mvA F S) := by
  have h9 := hO.2.2.2.2.2.1
  have h3 := hO.2.1
  obtain ⟨τ1, e1, x1, s1⟩ := xf_clr hO (F 9 0) 0 bigM τ S (by omega) (by unfold bigM; omega) hS h
  obtain ⟨τ2, e2, x2, s2⟩ := xf_anv hO (F 9 0) 0 bigM τ1 _ (by omega) (by unfold bigM; omega) s1 x1
  obtain ⟨τ3, e3, x3, s3⟩ := xf_plc hO rfl (F 0 1) 0 bigM τ2 _ (by omega) (by unfold bigM; omega) s2 x2
  refine ⟨τ1, τ2, τ3, ?_, ?_, ?_, x3⟩
  · rw [e_X5_clearAnvils]; exact e1
  · rw [e_X5_fillAnvils]; exact e2
  · rw [e_X5_fillPlaces]; exact e3
theorem xf_c (hO : OkF F) (hS : SI F (F 0 1) S) (h : XR τ F S) : ∃ τ1, f_X5_clearAnvils [.inr (.inl 0)] τ = some (some none, τ1) ∧ XR τ1 F (clB F (orL F) (F 9 0) 0 S) := by
  have h9 := hO.2.2.2.2.2.1
  obtain ⟨τ1, e1, x1, s1⟩ := xf_clr hO (F 9 0) 0 bigM τ S (by omega) (by unfold bigM; omega) hS h
  exact ⟨τ1, by rw [e_X5_clearAnvils]; exact e1, x1⟩
theorem xf_a (hO : OkF F) (hS : SI F (F 0 1) S) (h : XR τ F S) : ∃ τ1, f_X5_fillAnvils [.inr (.inl 0)] τ = some (some none, τ1) ∧ XR τ1 F (anA F (orL F) (F 9 0) 0 S) := by
  have h9 := hO.2.2.2.2.2.1
  obtain ⟨τ1, e1, x1, s1⟩ := xf_anv hO (F 9 0) 0 bigM τ S (by omega) (by unfold bigM; omega) hS h
  exact ⟨τ1, by rw [e_X5_fillAnvils]; exact e1, x1⟩
theorem xf_p (hO : OkF F) (hS : SI F (F 0 1) S) (h : XR τ F S) : ∃ τ1, f_X5_fillPlaces [.inr (.inl 0)] τ = some (some none, τ1) ∧ XR τ1 F (plA F (orL F) (F 0 1) 0 S) := by
  have h9 := hO.2.1
  obtain ⟨τ1, e1, x1, s1⟩ := xf_plc hO rfl (F 0 1) 0 bigM τ S (by omega) (by unfold bigM; omega) hS h
  exact ⟨τ1, by rw [e_X5_fillPlaces]; exact e1, x1⟩
end XMIN
