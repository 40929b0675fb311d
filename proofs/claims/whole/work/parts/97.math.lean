/-! what is left: an invariant between the class and the reference -/
theorem math_all : ∃ (I : Iv) (σ2 : Mm) (ρ : Nat → Mm), rn t_X7_tail [] 1 182 [(0, .inr (.inl 0))] [] mmM0 = some (some none, σ2) ∧ I 0 ρ mmX σ2 ∧ (∀ n ρ σX σM, I n ρ σX σM → n ≤ 12) ∧ (∀ (k : Nat) (x : Nat → Int32) (n : Nat) (ρ : Nat → Mm) (σX σM : Mm), I n ρ σX σM → Go k x n ρ σX σM I) := by
  sorry
theorem whole_start {p : Program} {e : Env} {s : State} {m : MethodId} {below : List Frame} {meth : Method} {c : Code} (l : Launch) (hflags : l.flags = flags0) {b L : Nat} {xs : Nat → Int32} (hL : L ≤ 3072) (C0 : lw_At p s m meth c b L xs) : W p l e room_1 s m #[Value.ref b] below meth c s.heap [] 0 0 (lw_Z below #[Value.ref b] s) (entryFrame m ([Value.ref b] : List Value).toArray 7) := by
  obtain ⟨I, σ2, ρ, h1, h2, h3, h4⟩ := math_all
  exact law_start l hflags hL C0 h1 h2 h3 h4
