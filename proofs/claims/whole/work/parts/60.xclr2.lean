/-! clearAnvils -/
def clS (F : Fg) (ord : List Nat) (v : Nat) (S : Fg) : Fg := match ord.find? (fun k => decide (S 1 k = 10 + v)) with
  | none => S
  | some k => if dnA F S k = true then upA S 1 k 0 else if S 0 k < ndA F S k then upA (upA S 1 k 0) 5 k (S 5 k + 1) else S
def clB (F : Fg) (ord : List Nat) : Nat → Nat → Fg → Fg
  | 0, _, S => S
  | c + 1, v, S => clB F ord c (v + 1) (clS F ord v S)
section CLB
variable {F : Fg} {np : Nat}
theorem si_5 {S : Fg} {k v : Nat} (hS : SI F np S) : SI F np (upA S 5 k v) := by
  refine ⟨fun k' hk' => ?_, fun k1 k2 h1 h2 he h0 => ?_, hS.2.2⟩
  · simp only [upA_c (show (0 : Nat) ≠ 5 by decide), upA_c (show (1 : Nat) ≠ 5 by decide), upA_c (show (2 : Nat) ≠ 5 by decide), upA_c (show (3 : Nat) ≠ 5 by decide)]
    exact hS.1 k' hk'
  · rw [upA_c (by decide)] at he h0
    rw [upA_c (by decide)] at he
    exact hS.2.1 k1 k2 h1 h2 he h0
theorem xf_clr (hO : OkF F) : ∀ (c v n : Nat) (τ : Mm) (S : Fg), v + c = F 9 0 → c < n → SI F np S → XR τ F S → ∃ τ', b_X5_clearAnvils_2 n (nI v) τ = some (some none, τ') ∧ XR τ' F (clB F (orL F) c v S) ∧ SI F np (clB F (orL F) c v S) := by
  have h6 := hO.1
  have h3 := hO.2.2.2.2.2.1
  intro c
  induction c with
  | zero =>
    intro v n τ S hv hn hS h
    obtain ⟨n, rfl⟩ : ∃ n', n = n' + 1 := ⟨n - 1, by omega⟩
    refine ⟨τ, ?_, h, hS⟩
    rw [e_X5_clearAnvils_2, h.1.2.2.2.2 0 (by decide), if_neg (nI_nlt (by omega) (by omega))]
  | succ c ih =>
    intro v n τ S hv hn hS h
    obtain ⟨n, rfl⟩ : ∃ n', n = n' + 1 := ⟨n - 1, by omega⟩
    have hv3 : v < 3 := by omega
    have hiv : inb (nI v) 3 = true := inb_nI hv3 (by decide)
    rw [e_X5_clearAnvils_2, h.1.2.2.2.2 0 (by decide), if_pos (nI_lt (by omega) (by omega)), if_pos hiv, nI_clamp (by omega), nI_1]
    have hst : clB F (orL F) (c + 1) v S = clB F (orL F) c (v + 1) (clS F (orL F) v S) := rfl
    rw [hst]
    cases hf : (orL F).find? (fun k => decide (S 1 k = 10 + v)) with
    | none =>
      have hfree : ∀ k', k' < F 0 0 → S 1 k' ≠ 10 + v := fun k' hk' h9 => by
        have := List.find?_eq_none.mp hf k' (orL_all hO hk')
        exact this (by simpa using h9)
      have e : clS F (orL F) v S = S := by unfold clS; rw [hf]
      rw [e, (h.2.2.1 v hv3).2 hfree, if_pos rfl]
      exact ih (v + 1) n τ S (by omega) (by omega) hS h
    | some k =>
      have hk := orL_lt hO (List.mem_of_find?_eq_some hf)
      have hk1 : S 1 k = 10 + v := by simpa using List.find?_some hf
      have hi6 : inb (nI k) 6 = true := inb_nI (by omega) (by decide)
      have hS0 : SI F np (upA S 1 k 0) := si_up hS hk (Or.inl rfl) (fun _ _ _ => rfl)
      rw [(h.2.2.1 v hv3).1 k hk hk1, if_neg (ne_m1 (by omega)), xv_fin hO hS h hk, onI_s, nI_clamp (by omega)]
      have hput : f_X5_putOnRack [.inr (.inl 0), .inl (nI k), .inl (nI v)] τ = some (some none, wr (wr τ 10 v (-1)) 2 k (nI 0)) := by
        rw [e_X5_putOnRack, if_pos hiv, if_pos hi6, nI_clamp (by omega), nI_clamp (by omega)]
        rfl
      have hX0 := xr_rack hS h hk hk1
      by_cases hd : dnA F S k = true
      · have e : clS F (orL F) v S = upA S 1 k 0 := by unfold clS; rw [hf]; exact if_pos hd
        rw [if_pos hd, if_neg (by decide), hput, onV_s, e]
        exact ih (v + 1) n _ _ (by omega) (by omega) hS0 hX0
      · have hlt : S 2 k < F 4 k := by
          have := (hS.1 k hk).1
          unfold dnA at hd
          simp only [decide_eq_true_eq] at hd
          omega
        have hnd : ndA F S k ≤ 1400 := ((hO.2.2.1 k hk).2.2.2.1 (S 2 k) hlt).1.2
        have hht := (hS.1 k hk).2.2.2.1
        rw [if_neg hd, if_pos rfl, if_pos hi6, if_pos hi6, (h.2.1 k hk).1, ((h.2.1 k hk).2.2.2.2.2.2.2 hlt).2]
        by_cases hc : S 0 k < ndA F S k
        · have e : clS F (orL F) v S = upA (upA S 1 k 0) 5 k (S 5 k + 1) := by unfold clS; rw [hf]; show (if dnA F S k = true then _ else _) = _; rw [if_neg hd, if_pos hc]
          have hX1 := xr_stop hX0 hk
          rw [upA_c (show (5 : Nat) ≠ 1 by decide)] at hX1
          rw [if_pos (nI_lt hc (by omega)), hput, onV_s, if_pos hi6, if_pos hi6, e]
          exact ih (v + 1) n _ _ (by omega) (by omega) (si_5 hS0) hX1
        · have e : clS F (orL F) v S = S := by unfold clS; rw [hf]; show (if dnA F S k = true then _ else _) = _; rw [if_neg hd, if_neg hc]
          rw [if_neg (nI_nlt (by omega) (by omega)), e]
          exact ih (v + 1) n _ _ (by omega) (by omega) hS h
end CLB
