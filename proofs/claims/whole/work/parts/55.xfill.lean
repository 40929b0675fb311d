/-! the class fills anvils -/
theorem an_none {F S : Fg} {ord : List Nat} (h : pickA F S ord none = none) : ∀ (c v : Nat), anA F ord c v S = S
  | 0, v => rfl
  | c + 1, v => by
    have e : anS F ord v S = S := by
      unfold anS
      rw [h]
      split <;> rfl
    show anA F ord c (v + 1) (anS F ord v S) = S
    rw [e]
    exact an_none h c (v + 1)
theorem pl_none {F S : Fg} {ord : List Nat} (h : wtA F S ord = none) : ∀ (c v : Nat), plA F ord c v S = S
  | 0, v => rfl
  | c + 1, v => by
    have e : plS F ord v S = S := by
      unfold plS
      rw [h]
      split <;> rfl
    show plA F ord c (v + 1) (plS F ord v S) = S
    rw [e]
    exact pl_none h c (v + 1)
theorem upA_at (S : Fg) (c k v c' k' : Nat) : upA S c k v c' k' = if c' = c ∧ k' = k then v else S c' k' := rfl
theorem upA_c {S : Fg} {c k v c' k' : Nat} (h : c' ≠ c) : upA S c k v c' k' = S c' k' := by
  unfold upA
  rw [if_neg (fun h9 => h h9.1)]
section LOC
variable {F S : Fg} {k v : Nat}
theorem dn_up (k' : Nat) : dnA F (upA S 1 k v) k' = dnA F S k' := by unfold dnA; rw [upA_c (by decide)]
theorem nd_up (k' : Nat) : ndA F (upA S 1 k v) k' = ndA F S k' := by unfold ndA; rw [upA_c (by decide)]
theorem lf_up (k' : Nat) : lfA F (upA S 1 k v) k' = lfA F S k' := by unfold lfA; rw [upA_c (by decide), upA_c (by decide)]
theorem cn_up (n : Nat) : cnA F (upA S 1 k v) n = cnA F S n := by
  induction n with
  | zero => rfl
  | succ n ih => unfold cnA; rw [ih, dn_up]
end LOC
theorem orF_mem {F : Fg} : ∀ (c j k : Nat), k ∈ orF F j c → ∃ i, j ≤ i ∧ i < j + c ∧ F 10 i = k
  | 0, j, k, h => by cases h
  | c + 1, j, k, h => by
    rcases List.mem_cons.mp h with h | h
    · exact ⟨j, Nat.le_refl _, by omega, h.symm⟩
    · obtain ⟨i, h1, h2, h3⟩ := orF_mem c (j + 1) k h
      exact ⟨i, by omega, by omega, h3⟩
theorem orL_lt {F : Fg} (hO : OkF F) {k : Nat} (h : k ∈ orL F) : k < F 0 0 := by
  obtain ⟨i, -, h2, rfl⟩ := orF_mem _ _ _ h
  exact ord_lt hO (by omega)
theorem pick_mem {F S : Fg} : ∀ (l : List Nat) (b : Option Nat) (k : Nat), pickA F S l b = some k → (k ∈ l ∧ rdA F S k = true) ∨ b = some k
  | [], b, k, h => Or.inr h
  | x :: r, none, k, h => by
    have h9 : pickA F S r (if rdA F S x = true then some x else none) = some k := h
    rcases pick_mem r _ k h9 with h1 | h1
    · exact Or.inl ⟨List.mem_cons_of_mem _ h1.1, h1.2⟩
    · by_cases hr : rdA F S x = true
      · rw [if_pos hr] at h1
        cases h1
        exact Or.inl ⟨List.mem_cons_self, hr⟩
      · rw [if_neg hr] at h1
        cases h1
  | x :: r, some b, k, h => by
    have h9 : pickA F S r (if (rdA F S x && btA F S x b) = true then some x else some b) = some k := h
    rcases pick_mem r _ k h9 with h1 | h1
    · exact Or.inl ⟨List.mem_cons_of_mem _ h1.1, h1.2⟩
    · by_cases hr : (rdA F S x && btA F S x b) = true
      · rw [if_pos hr] at h1
        cases h1
        exact Or.inl ⟨List.mem_cons_self, (Bool.and_eq_true _ _ ▸ hr).1⟩
      · rw [if_neg hr] at h1
        exact Or.inr h1
