/-! a token of the class, a token of the reference -/
def XTs (D : Mm) (c : Nat → Nat) (L s : Nat) : Prop := D 0 7 = nI (tkE c L s) ∧ D 0 8 = nI s ∧ D 0 9 = nI (tkK c L s) ∧ (tkK c L s = 1 → D 0 10 = vA c s (tkE c L s)) ∧ (tkK c L s = 2 → D 0 10 = nI (nuX c s (tkE c L s - s)))
def MTs (M : Mm) (c : Nat → Nat) (L s : Nat) : Prop := M 0 10 = nI (tkE c L s) ∧ M 0 11 = nI s ∧ M 0 12 = kmA (tkK c L s) ∧ (tkK c L s = 1 → M 0 13 = wiX (vA c s (tkE c L s))) ∧ (tkK c L s = 2 → M 0 13 = nI (nuM c s (tkE c L s - s)))
def FrX (D D' : Mm) : Prop := (∀ j, j < 7 ∨ 10 < j → D' 0 j = D 0 j) ∧ (∀ q, q ≠ 0 → D' q = D q)
def FrM (M M' : Mm) : Prop := (∀ j, j < 10 ∨ 13 < j → M' 0 j = M 0 j) ∧ (∀ q, q ≠ 0 → M' q = M q)
section XTOK
variable {c : Nat → Nat} {L s : Nat}
theorem x_skip (hL : L ≤ 900) : ∀ (k p N : Nat) (D : Mm), p + k = L → k + 2 ≤ N → D 0 7 = nI p → D 0 6 = nI L → Cx (D 1) L c → ∃ N', b_X4_nextToken_0 N D = b_X4_nextToken_52 (N' + 1) (wr D 0 7 (nI (scA isSp c k p))) := by
  intro k
  induction k with
  | zero =>
    intro p N D hp hN h7 h6 hc
    obtain ⟨N, rfl⟩ : ∃ N', N = N' + 1 + 1 := ⟨N - 2, by omega⟩
    refine ⟨N, ?_⟩
    have e : scA isSp c 0 p = p := rfl
    rw [e, tw_self h7, e_X4_nextToken_0, h7, h6, if_neg (nI_nlt (by omega) (by omega))]
  | succ k ih =>
    intro p N D hp hN h7 h6 hc
    obtain ⟨N, rfl⟩ : ∃ N', N = N' + 1 + 1 := ⟨N - 2, by omega⟩
    have hi : inb (nI p) 900 = true := inb_nI (by omega) (by decide)
    have hb := hc p (by omega)
    rw [sc_S, e_X4_nextToken_0, h7, h6, if_pos (nI_lt (by omega) (by omega)), if_pos hi, if_pos hi, nI_clamp (by omega), nI_1]
    have go : isSp (c p) = true → ∃ N', b_X4_nextToken_0 (N + 1) (wr D 0 7 (nI (p + 1))) = b_X4_nextToken_52 (N' + 1) (wr D 0 7 (nI (if isSp (c p) = true then scA isSp c k (p + 1) else p))) := fun h9 => by
      obtain ⟨N', a⟩ := ih (p + 1) (N + 1) (wr D 0 7 (nI (p + 1))) (by omega) (by omega) wr_same (by rw [wr_place (by decide)]; exact h6) (fun q hq => by rw [wr_cell (by decide)]; exact hc q hq)
      refine ⟨N', ?_⟩
      rw [a, tw_wr, if_pos h9]
    by_cases h32 : c p = 32
    · rw [if_pos (show D 1 p = 32 from (yx_eq (a := 32) hb (by decide)).mpr h32)]
      exact go (decide_eq_true (Or.inl h32))
    · rw [if_neg (show ¬ D 1 p = 32 from fun h9 => h32 ((yx_eq (a := 32) hb (by decide)).mp h9))]
      by_cases h10 : c p = 10
      · rw [if_pos (show D 1 p = 10 from (yx_eq (a := 10) hb (by decide)).mpr h10)]
        exact go (decide_eq_true (Or.inr h10))
      · rw [if_neg (show ¬ D 1 p = 10 from fun h9 => h10 ((yx_eq (a := 10) hb (by decide)).mp h9)), if_neg (show ¬ isSp (c p) = true from fun h9 => by have := of_decide_eq_true h9; omega), tw_self h7]
        exact ⟨N, rfl⟩
theorem x_87 {D : Mm} {j N : Nat} (hj : j < 2 ^ 31) : b_X4_takeWord_87 (N + 1) (nI (cdA c s (min j 6))) (nI j) D = some (some none, wr (wr D 0 9 1) 0 10 (if 6 < j then 0 else nI (cdA c s j))) := by
  rw [e_X4_takeWord_87]
  by_cases h : 6 < j
  · rw [if_pos (show (6 : Int32) < nI j from nI_lt (a := 6) h hj), if_pos h]
  · rw [if_neg (show ¬ (6 : Int32) < nI j from nI_nlt (a := 6) (by omega) (by decide)), if_neg h, Nat.min_eq_left (by omega)]
theorem x_word (hL : L ≤ 900) : ∀ (k j N : Nat) (D : Mm), s + j + k = L → k + 2 ≤ N → D 0 7 = nI (s + j) → D 0 6 = nI L → Cx (D 1) L c → b_X4_takeWord_4 N (nI (cdA c s (min j 6))) (nI j) D = some (some none, wr (wr (wr D 0 7 (nI (scA isLt c k (s + j)))) 0 9 1) 0 10 (vA c s (scA isLt c k (s + j)))) := by
  intro k
  induction k with
  | zero =>
    intro j N D hj hN h7 h6 hc
    obtain ⟨N, rfl⟩ : ∃ N', N = N' + 1 + 1 := ⟨N - 2, by omega⟩
    have e : scA isLt c 0 (s + j) = s + j := rfl
    rw [e, tw_self h7, e_X4_takeWord_4, h7, h6, if_neg (nI_nlt (by omega) (by omega)), x_87 (by omega)]
    unfold vA
    rw [Nat.add_sub_cancel_left]
  | succ k ih =>
    intro j N D hj hN h7 h6 hc
    obtain ⟨N, rfl⟩ : ∃ N', N = N' + 1 + 1 := ⟨N - 2, by omega⟩
    have hi : inb (nI (s + j)) 900 = true := inb_nI (by omega) (by decide)
    have hb := hc (s + j) (by omega)
    have stop : ¬ isLt (c (s + j)) = true → b_X4_takeWord_87 (N + 1) (nI (cdA c s (min j 6))) (nI j) D = some (some none, wr (wr (wr D 0 7 (nI (if isLt (c (s + j)) = true then scA isLt c k (s + j + 1) else s + j))) 0 9 1) 0 10 (vA c s (if isLt (c (s + j)) = true then scA isLt c k (s + j + 1) else s + j))) := fun h9 => by
      rw [if_neg h9, tw_self h7, x_87 (by omega)]
      unfold vA
      rw [Nat.add_sub_cancel_left]
    rw [sc_S, e_X4_takeWord_4, h7, h6, if_pos (nI_lt (by omega) (by omega)), if_pos hi, nI_clamp (by omega), if_pos hi, if_pos hi, nI_1]
    by_cases h1 : D 1 (s + j) < 97
    · rw [if_pos h1]
      refine stop (fun h9 => ?_)
      have := of_decide_eq_true h9
      have := (yx_lt (a := 97) hb (by decide)).mp h1
      omega
    · rw [if_neg h1]
      by_cases h2 : 122 < D 1 (s + j)
      · rw [if_pos h2]
        refine stop (fun h9 => ?_)
        have := of_decide_eq_true h9
        have := (yx_gt (a := 122) hb (by decide)).mp h2
        omega
      · rw [if_neg h2]
        have hl : 97 ≤ c (s + j) ∧ c (s + j) ≤ 122 := (yx_in (a := 97) (b := 122) hb (by decide) (by decide)).mp ⟨Int32.not_lt.mp h1, Int32.not_lt.mp h2⟩
        have hl' : isLt (c (s + j)) = true := decide_eq_true hl
        have ey : D 1 (s + j) = nI (c (s + j)) := by
          rcases hb with ⟨_, e⟩ | ⟨e, _⟩
          · exact e
          · omega
        have a := ih (j + 1) (N + 1) (wr D 0 7 (nI (s + j + 1))) (by omega) (by omega) wr_same (by rw [wr_place (by decide)]; exact h6) (fun q hq => by rw [wr_cell (by decide)]; exact hc q hq)
        rw [tw_wr, ← Nat.add_assoc] at a
        rw [if_pos hl', nI_1]
        by_cases h6' : j < 6
        · rw [if_pos (show nI j < 6 from nI_lt (b := 6) h6' (by decide)), ey, Nat.min_eq_left (by omega), wd_step h6' hl.1 hl.2]
          rw [Nat.min_eq_left (by omega)] at a
          exact a
        · rw [if_neg (show ¬ nI j < 6 from nI_nlt (b := 6) (by omega) (by omega)), Nat.min_eq_right (by omega)]
          rw [Nat.min_eq_right (by omega)] at a
          exact a
theorem x_num (hL : L ≤ 900) : ∀ (k j N : Nat) (D : Mm), s + j + k = L → k + 1 ≤ N → D 0 7 = nI (s + j) → D 0 6 = nI L → Cx (D 1) L c → (∀ i, i < j → 48 ≤ c (s + i) ∧ c (s + i) ≤ 57) → b_X4_takeNumber_2 N (nI (nuX c s j)) D = some (some none, wr (wr (wr D 0 7 (nI (scA isDg c k (s + j)))) 0 9 2) 0 10 (nI (nuX c s (scA isDg c k (s + j) - s)))) := by
  intro k
  induction k with
  | zero =>
    intro j N D hj hN h7 h6 hc hd
    obtain ⟨N, rfl⟩ : ∃ N', N = N' + 1 := ⟨N - 1, by omega⟩
    have e : scA isDg c 0 (s + j) = s + j := rfl
    rw [e, tw_self h7, Nat.add_sub_cancel_left, e_X4_takeNumber_2, h7, h6, if_neg (nI_nlt (by omega) (by omega))]
  | succ k ih =>
    intro j N D hj hN h7 h6 hc hd
    obtain ⟨N, rfl⟩ : ∃ N', N = N' + 1 := ⟨N - 1, by omega⟩
    have hi : inb (nI (s + j)) 900 = true := inb_nI (by omega) (by decide)
    have hb := hc (s + j) (by omega)
    have hn := nu_rel j hd
    have stop : ¬ isDg (c (s + j)) = true → (some (some none, wr (wr D 0 9 2) 0 10 (nI (nuX c s j))) : Option Ou) = some (some none, wr (wr (wr D 0 7 (nI (if isDg (c (s + j)) = true then scA isDg c k (s + j + 1) else s + j))) 0 9 2) 0 10 (nI (nuX c s ((if isDg (c (s + j)) = true then scA isDg c k (s + j + 1) else s + j) - s)))) := fun h9 => by
      rw [if_neg h9, tw_self h7, Nat.add_sub_cancel_left]
    rw [sc_S, e_X4_takeNumber_2, h7, h6, if_pos (nI_lt (by omega) (by omega)), if_pos hi, nI_clamp (by omega), if_pos hi, if_pos hi, nI_1]
    by_cases h1 : D 1 (s + j) < 48
    · rw [if_pos h1]
      refine stop (fun h9 => ?_)
      have := of_decide_eq_true h9
      have := (yx_lt (a := 48) hb (by decide)).mp h1
      omega
    · rw [if_neg h1]
      by_cases h2 : 57 < D 1 (s + j)
      · rw [if_pos h2]
        refine stop (fun h9 => ?_)
        have := of_decide_eq_true h9
        have := (yx_gt (a := 57) hb (by decide)).mp h2
        omega
      · rw [if_neg h2]
        have hl : 48 ≤ c (s + j) ∧ c (s + j) ≤ 57 := (yx_in (a := 48) (b := 57) hb (by decide) (by decide)).mp ⟨Int32.not_lt.mp h1, Int32.not_lt.mp h2⟩
        have hl' : isDg (c (s + j)) = true := decide_eq_true hl
        have ey : D 1 (s + j) = nI (c (s + j)) := by
          rcases hb with ⟨_, e⟩ | ⟨e, _⟩
          · exact e
          · omega
        have a := ih (j + 1) N (wr D 0 7 (nI (s + j + 1))) (by omega) (by omega) wr_same (by rw [wr_place (by decide)]; exact h6) (fun q hq => by rw [wr_cell (by decide)]; exact hc q hq) (fun i hi => by
          by_cases e : i = j
          · rw [e]; exact hl
          · exact hd i (by omega))
        rw [tw_wr, ← Nat.add_assoc] at a
        have e1 : nuX c s (j + 1) = if nuX c s j < 100000 then nuX c s j * 10 + (c (s + j) - 48) else nuX c s j := rfl
        rw [if_pos hl']
        by_cases h5 : nuX c s j < 100000
        · rw [if_pos (show nI (nuX c s j) < 100000 from nI_lt (b := 100000) h5 (by decide)), ey, show nI (c (s + j)) - 48 = nI (c (s + j) - 48) from nI_sub (b := 48) hl.1, show nI (nuX c s j) * 10 = nI (nuX c s j * 10) from nI_mul _ 10, nI_add]
          rw [e1, if_pos h5] at a
          exact a
        · rw [if_neg (show ¬ nI (nuX c s j) < 100000 from nI_nlt (b := 100000) (by omega) (by omega))]
          rw [e1, if_neg h5] at a
          exact a
theorem x_52 (hL : L ≤ 900) {D : Mm} {N : Nat} (hs : s ≤ L) (h7 : D 0 7 = nI s) (h6 : D 0 6 = nI L) (hc : Cx (D 1) L c) : ∃ D', b_X4_nextToken_52 (N + 1) D = some (some none, D') ∧ XTs D' c L s ∧ FrX D D' := by
  by_cases hsl : s < L
  · have hi : inb (nI s) 900 = true := inb_nI (by omega) (by decide)
    have hb := hc s hsl
    rw [e_X4_nextToken_52, h7, h6, if_pos (nI_lt hsl (by omega)), if_pos hi, nI_clamp (by omega), sp_isWithin, onI_s]
    simp only [pk0, pp1]
    by_cases hl : isLt (c s) = true
    · have w := x_word (c := c) (s := s) hL (L - s) 0 bigM (wr D 0 8 (nI s)) (by omega) (by unfold bigM; omega) (by rw [wr_place (by decide)]; exact h7) (by rw [wr_place (by decide)]; exact h6) (fun q hq => by rw [wr_cell (by decide)]; exact hc q hq)
      have z : cdA c s (min 0 6) = 0 := by
        unfold cdA
        simp [hA]
      rw [z, nI_0, Nat.add_zero] at w
      have eE : tkE c L s = scA isLt c (L - s) s := by unfold tkE; rw [if_neg (by omega), if_pos hl]
      have eK : tkK c L s = 1 := by unfold tkK; rw [if_neg (by omega), if_pos hl]
      rw [if_pos (show 97 ≤ D 1 s ∧ D 1 s ≤ 122 from (yx_in (a := 97) (b := 122) hb (by decide) (by decide)).mpr (of_decide_eq_true hl)), if_neg (show ¬ (1 : Int32) = 0 by decide), e_X4_takeWord, w, onV_s]
      refine ⟨_, rfl, ?_, fun j hj => ?_, fun q hq => ?_⟩
      · unfold XTs
        rw [eE, eK]
        refine ⟨?_, ?_, ?_, fun _ => wr_same, fun h9 => by omega⟩
        · rw [wr_place (by decide), wr_place (by decide), wr_same]
        · rw [wr_place (by decide), wr_place (by decide), wr_place (by decide), wr_same]
        · rw [wr_place (by decide), wr_same]; rfl
      · rw [wr_place (by omega), wr_place (by omega), wr_place (by omega), wr_place (by omega)]
      · funext j
        rw [wr_cell hq, wr_cell hq, wr_cell hq, wr_cell hq]
    · have nl : ¬ (97 ≤ D 1 s ∧ D 1 s ≤ 122) := fun h9 => hl (decide_eq_true ((yx_in (a := 97) (b := 122) hb (by decide) (by decide)).mp h9))
      rw [if_neg nl, if_pos rfl, if_pos hi, sp_isWithin, onI_s]
      by_cases hd : isDg (c s) = true
      · have w := x_num (c := c) (s := s) hL (L - s) 0 bigM (wr D 0 8 (nI s)) (by omega) (by unfold bigM; omega) (by rw [wr_place (by decide)]; exact h7) (by rw [wr_place (by decide)]; exact h6) (fun q hq => by rw [wr_cell (by decide)]; exact hc q hq) (fun i hi => by omega)
        have z : nuX c s 0 = 0 := rfl
        rw [z, nI_0, Nat.add_zero] at w
        have eE : tkE c L s = scA isDg c (L - s) s := by unfold tkE; rw [if_neg (by omega), if_neg hl, if_pos hd]
        have eK : tkK c L s = 2 := by unfold tkK; rw [if_neg (by omega), if_neg hl, if_pos hd]
        rw [if_pos (show 48 ≤ D 1 s ∧ D 1 s ≤ 57 from (yx_in (a := 48) (b := 57) hb (by decide) (by decide)).mpr (of_decide_eq_true hd)), if_neg (show ¬ (1 : Int32) = 0 by decide), e_X4_takeNumber, w, onV_s]
        refine ⟨_, rfl, ?_, fun j hj => ?_, fun q hq => ?_⟩
        · unfold XTs
          rw [eE, eK]
          refine ⟨?_, ?_, ?_, fun h9 => by omega, fun _ => wr_same⟩
          · rw [wr_place (by decide), wr_place (by decide), wr_same]
          · rw [wr_place (by decide), wr_place (by decide), wr_place (by decide), wr_same]
          · rw [wr_place (by decide), wr_same]; rfl
        · rw [wr_place (by omega), wr_place (by omega), wr_place (by omega), wr_place (by omega)]
        · funext j
          rw [wr_cell hq, wr_cell hq, wr_cell hq, wr_cell hq]
      · have nd : ¬ (48 ≤ D 1 s ∧ D 1 s ≤ 57) := fun h9 => hd (decide_eq_true ((yx_in (a := 48) (b := 57) hb (by decide) (by decide)).mp h9))
        have eE : tkE c L s = s + 1 := by unfold tkE; rw [if_neg (by omega), if_neg hl, if_neg hd]
        rw [if_neg nd, if_pos rfl, if_pos hi, nI_1]
        by_cases h59 : c s = 59
        · have eK : tkK c L s = 3 := by unfold tkK; rw [if_neg (by omega), if_neg hl, if_neg hd, if_pos h59]
          rw [if_pos (show D 1 s = 59 from (yx_eq (a := 59) hb (by decide)).mpr h59)]
          refine ⟨_, rfl, ?_, fun j hj => ?_, fun q hq => ?_⟩
          · unfold XTs
            rw [eE, eK]
            refine ⟨wr_same, ?_, ?_, fun h9 => by omega, fun h9 => by omega⟩
            · rw [wr_place (by decide), wr_place (by decide), wr_same]
            · rw [wr_place (by decide), wr_same]; rfl
          · rw [wr_place (by omega), wr_place (by omega), wr_place (by omega)]
          · funext j
            rw [wr_cell hq, wr_cell hq, wr_cell hq]
        · have eK : tkK c L s = 4 := by unfold tkK; rw [if_neg (by omega), if_neg hl, if_neg hd, if_neg h59]
          rw [if_neg (show ¬ D 1 s = 59 from fun h9 => h59 ((yx_eq (a := 59) hb (by decide)).mp h9))]
          refine ⟨_, rfl, ?_, fun j hj => ?_, fun q hq => ?_⟩
          · unfold XTs
            rw [eE, eK]
            refine ⟨wr_same, ?_, ?_, fun h9 => by omega, fun h9 => by omega⟩
            · rw [wr_place (by decide), wr_place (by decide), wr_same]
            · rw [wr_place (by decide), wr_same]; rfl
          · rw [wr_place (by omega), wr_place (by omega), wr_place (by omega)]
          · funext j
            rw [wr_cell hq, wr_cell hq, wr_cell hq]
  · have eE : tkE c L s = s := by unfold tkE; rw [if_pos (by omega)]
    have eK : tkK c L s = 0 := by unfold tkK; rw [if_pos (by omega)]
    rw [e_X4_nextToken_52, h7, h6, if_neg (nI_nlt (by omega) (by omega))]
    refine ⟨_, rfl, ?_, fun j hj => ?_, fun q hq => ?_⟩
    · unfold XTs
      rw [eE, eK]
      refine ⟨?_, ?_, wr_same, fun h9 => by omega, fun h9 => by omega⟩
      · rw [wr_place (by decide), wr_place (by decide)]; exact h7
      · rw [wr_place (by decide), wr_same]
    · rw [wr_place (by omega), wr_place (by omega)]
    · funext j
      rw [wr_cell hq, wr_cell hq]
theorem x_tok (hL : L ≤ 900) {D : Mm} {p : Nat} (hp : p ≤ L) (h7 : D 0 7 = nI p) (h6 : D 0 6 = nI L) (hc : Cx (D 1) L c) : ∃ D', f_X4_nextToken [.inr (.inl 0)] D = some (some none, D') ∧ XTs D' c L (tkS c L p) ∧ FrX D D' := by
  have e0 : f_X4_nextToken [.inr (.inl 0)] D = b_X4_nextToken_0 (bigM + 1) D := by rw [e_X4_nextToken, e_X4_nextToken_0]
  obtain ⟨N', a⟩ := x_skip hL (L - p) p (bigM + 1) D (by omega) (by unfold bigM; omega) h7 h6 hc
  obtain ⟨D', b1, b2, b3, b4⟩ := x_52 (c := c) (s := tkS c L p) hL (N := N') (D := wr D 0 7 (nI (tkS c L p))) (tkS_le hp).2 wr_same (by rw [wr_place (by decide)]; exact h6) (fun q hq => by rw [wr_cell (by decide)]; exact hc q hq)
  refine ⟨D', by rw [e0, a]; exact b1, b2, fun j hj => ?_, fun q hq => ?_⟩
  · rw [b3 j hj, wr_place (by omega)]
  · rw [b4 q hq]
    funext j
    exact wr_cell hq
end XTOK
