/-! cooling and warming -/
theorem nI_sub {a b : Nat} (h : b ≤ a) : nI a - nI b = nI (a - b) := by
  obtain ⟨c, rfl⟩ : ∃ c, a = b + c := ⟨a - b, by omega⟩
  rw [← nI_add, Nat.add_sub_cancel_left, Int32.add_comm, Int32.add_sub_cancel]
theorem nI_div {a b : Nat} (ha : a < 2 ^ 31) (hb : b < 2 ^ 31) (h0 : 0 < b) : nI a / nI b = nI (a / b) := by
  have h1 : a / b ≤ a := Nat.div_le_self a b
  apply Int32.toInt_inj.mp
  rw [Int32.toInt_div, nI_toInt ha, nI_toInt hb, nI_toInt (by omega), ← Int.ofNat_tdiv]
  generalize a / b = q at h1 ⊢
  apply Int.bmod_eq_of_le <;> omega
section HEAT
variable {F : Fg} {np : Nat} {τ : Mm} {S : Fg} {k : Nat}
theorem xv_cool (hO : OkF F) (hS : SI F np S) (h : XR τ F S) (hk : k < F 0 0) : f_X5_cooled [.inr (.inl 0), .inl (nI k)] τ = some (some (some (.inl (nI (max 20 (S 0 k - F 3 k))))), τ) := by
  have h6 := hO.1
  have hi : inb (nI k) 6 = true := inb_nI (by omega) (by decide)
  have hc := (hO.2.2.1 k hk).2.1
  have hh := (hS.1 k hk).2.2.2.1
  rw [e_X5_cooled, if_pos hi, if_pos hi, nI_clamp (by omega), (h.2.1 k hk).1, (h.1.2.2.1 k hk).2.1]
  by_cases hle : F 3 k + 20 ≤ S 0 k
  · rw [nI_sub (by omega), if_neg (show ¬ nI (S 0 k - F 3 k) < 20 from nI_nlt (b := 20) (by omega) (by omega)), show max 20 (S 0 k - F 3 k) = S 0 k - F 3 k by omega]
  · have hlt : nI (S 0 k) - nI (F 3 k) < 20 := by
      rw [Int32.lt_iff_toInt_lt, Int32.toInt_sub, nI_toInt (by omega), nI_toInt (by omega)]
      have e20 : (20 : Int32).toInt = 20 := by decide
      have eb : ((S 0 k : Int) - (F 3 k : Int)).bmod (2 ^ 32) = (S 0 k : Int) - (F 3 k : Int) := by apply Int.bmod_eq_of_le <;> omega
      rw [e20, eb]
      omega
    rw [if_pos hlt, show max 20 (S 0 k - F 3 k) = 20 by omega]
    rfl
theorem xv_warm {j : Nat} (hO : OkF F) (hS : SI F np S) (h : XR τ F S) (hk : k < F 0 0) (hj : j < F 0 1) : f_X5_warmed [.inr (.inl 0), .inl (nI k), .inl (nI j)] τ = some (some (some (.inl (nI (if S 0 k < F 8 j then min (F 8 j) (S 0 k + F 7 j / F 2 k) else S 0 k)))), τ) := by
  have h6 := hO.1
  have h3 := hO.2.1
  have hi : inb (nI k) 6 = true := inb_nI (by omega) (by decide)
  have hij : inb (nI j) 3 = true := inb_nI (by omega) (by decide)
  have hm := (hO.2.2.1 k hk).1
  have hh := (hS.1 k hk).2.2.2.1
  have hp := hO.2.2.2.2.1 j hj
  have hd : F 7 j / F 2 k ≤ F 7 j := Nat.div_le_self _ _
  simp only [e_X5_warmed, if_pos hi, if_pos hij]
  rw [nI_clamp (by omega), nI_clamp (by omega), (h.2.1 k hk).1, (h.1.2.2.1 k hk).1, (h.1.2.2.2.1 j hj).1, (h.1.2.2.2.1 j hj).2, nI_div (by omega) (by omega) (by omega), nI_add]
  by_cases hl : S 0 k < F 8 j
  · rw [if_pos (nI_lt hl (by omega)), if_pos (show (0 : Int32) < nI (F 2 k) from nI_lt (a := 0) (by omega) (by omega)), if_neg (nI_ne0 (by omega) (by omega)), if_pos hl]
    by_cases hg : F 8 j < S 0 k + F 7 j / F 2 k
    · rw [if_pos (nI_lt hg (by omega)), show min (F 8 j) (S 0 k + F 7 j / F 2 k) = F 8 j by omega]
    · rw [if_neg (nI_nlt (by omega) (by omega)), show min (F 8 j) (S 0 k + F 7 j / F 2 k) = S 0 k + F 7 j / F 2 k by omega]
  · rw [if_neg (nI_nlt (by omega) (by omega)), if_neg hl]
end HEAT
