/-! the reference's token -/
def hvA (M : Mm) (L p : Nat) : Int32 := if p < L then M 1 p else -1
section MTOK
variable {c : Nat → Nat} {L s e p a : Nat} {M : Mm}
theorem m_here (hL : L ≤ 900) (hp : p ≤ L) (h10 : M 0 10 = nI p) (h9 : M 0 9 = nI L) : f_X7_here [.inr (.inl 0)] M = some (some (some (.inl (hvA M L p))), M) := by
  rw [e_X7_here, h10, h9]
  unfold hvA
  by_cases h : p < L
  · rw [if_pos (nI_lt h (by omega)), if_pos (inb_nI (by omega) (by decide)), nI_clamp (by omega), if_pos h]
  · rw [if_neg (nI_nlt (by omega) (by omega)), if_neg h]
theorem hv_eq (hc : Cm (M 1) L c) (ha : a < 128) : hvA M L p = nI a ↔ (p < L ∧ c p = a) := by
  unfold hvA
  by_cases h : p < L
  · rw [if_pos h, ym_eq (hc p h) ha]
    exact ⟨fun h9 => ⟨h, h9⟩, fun h9 => h9.2⟩
  · rw [if_neg h]
    exact ⟨fun h9 => absurd h9.symm (ne_m1 (by omega)), fun h9 => absurd h9.1 h⟩
theorem hv_m1 (hc : Cm (M 1) L c) : hvA M L p = -1 ↔ ¬ p < L := by
  unfold hvA
  by_cases h : p < L
  · rw [if_pos h]
    exact ⟨fun h9 => absurd h9 (ym_m1 (hc p h)), fun h9 => absurd h h9⟩
  · rw [if_neg h]
    exact ⟨fun _ => h, fun _ => rfl⟩
theorem m_small (hc : Cm (M 1) L c) (τ : Mm) : f_X7_isSmall [.inl (hvA M L p)] τ = some (some (some (.inl (if (p < L ∧ isLt (c p) = true) then 1 else 0))), τ) := by
  rw [e_X7_isSmall]
  unfold hvA
  by_cases h : p < L
  · have hb := hc p h
    rw [if_pos h]
    by_cases h1 : M 1 p < 97
    · rw [if_pos h1, if_neg (fun h9 => by
        have a1 := of_decide_eq_true h9.2
        have a2 := (ym_lt (a := 97) hb (by decide)).mp h1
        omega)]
    · rw [if_neg h1]
      by_cases h2 : 122 < M 1 p
      · rw [if_pos h2, if_neg (fun h9 => by
          have a1 := of_decide_eq_true h9.2
          have a2 := (ym_gt (a := 122) hb (by decide)).mp h2
          omega)]
      · have a1 : ¬ c p < 97 := fun h9 => h1 ((ym_lt (a := 97) hb (by decide)).mpr h9)
        have a2 : ¬ 122 < c p := fun h9 => h2 ((ym_gt (a := 122) hb (by decide)).mpr h9)
        rw [if_neg h2, if_pos ⟨h, decide_eq_true ⟨by omega, by omega⟩⟩]
  · rw [if_neg h, if_pos (by decide), if_neg (fun h9 => h h9.1)]
theorem m_digit (hc : Cm (M 1) L c) (τ : Mm) : f_X7_isDigit [.inl (hvA M L p)] τ = some (some (some (.inl (if (p < L ∧ isDg (c p) = true) then 1 else 0))), τ) := by
  rw [e_X7_isDigit]
  unfold hvA
  by_cases h : p < L
  · have hb := hc p h
    rw [if_pos h]
    by_cases h1 : M 1 p < 48
    · rw [if_pos h1, if_neg (fun h9 => by
        have a1 := of_decide_eq_true h9.2
        have a2 := (ym_lt (a := 48) hb (by decide)).mp h1
        omega)]
    · rw [if_neg h1]
      by_cases h2 : 57 < M 1 p
      · rw [if_pos h2, if_neg (fun h9 => by
          have a1 := of_decide_eq_true h9.2
          have a2 := (ym_gt (a := 57) hb (by decide)).mp h2
          omega)]
      · have a1 : ¬ c p < 48 := fun h9 => h1 ((ym_lt (a := 48) hb (by decide)).mpr h9)
        have a2 : ¬ 57 < c p := fun h9 => h2 ((ym_gt (a := 57) hb (by decide)).mpr h9)
        rw [if_neg h2, if_pos ⟨h, decide_eq_true ⟨by omega, by omega⟩⟩]
  · rw [if_neg h, if_pos (by decide), if_neg (fun h9 => h h9.1)]
theorem m_skip (hL : L ≤ 900) : ∀ (k p N : Nat) (M : Mm), p + k = L → k + 2 ≤ N → M 0 10 = nI p → M 0 9 = nI L → Cm (M 1) L c → ∃ N', N ≤ N' + k + 1 ∧ b_X7_next_0 N M = b_X7_next_0 (N' + 1) (wr M 0 10 (nI (scA isSp c k p))) := by
  intro k
  induction k with
  | zero =>
    intro p N M hp hN h10 h9 hc
    obtain ⟨N, rfl⟩ : ∃ N', N = N' + 1 := ⟨N - 1, by omega⟩
    have e : scA isSp c 0 p = p := rfl
    exact ⟨N, by omega, by rw [e, tw_self h10]⟩
  | succ k ih =>
    intro p N M hp hN h10 h9 hc
    obtain ⟨N, rfl⟩ : ∃ N', N = N' + 1 := ⟨N - 1, by omega⟩
    rw [sc_S]
    by_cases hs : isSp (c p) = true
    · obtain ⟨N', a1, a2⟩ := ih (p + 1) N (wr M 0 10 (nI (p + 1))) (by omega) (by omega) wr_same (by rw [wr_place (by decide)]; exact h9) (fun q hq => by rw [wr_cell (by decide)]; exact hc q hq)
      rw [tw_wr] at a2
      refine ⟨N', by omega, ?_⟩
      rw [if_pos hs, ← a2, e_X7_next_0, m_here hL (by omega) h10 h9, onI_s, h10, nI_1]
      by_cases h : c p = 10
      · rw [if_pos (show hvA M L p = 10 from (hv_eq (a := 10) hc (by decide)).mpr ⟨by omega, h⟩)]
      · have h32 : c p = 32 := by have := of_decide_eq_true hs; omega
        rw [if_neg (show ¬ hvA M L p = 10 from fun h9 => h ((hv_eq (a := 10) hc (by decide)).mp h9).2), m_here hL (by omega) h10 h9, onI_s, if_pos (show hvA M L p = 32 from (hv_eq (a := 32) hc (by decide)).mpr ⟨by omega, h32⟩), h10, nI_1]
    · exact ⟨N, by omega, by rw [if_neg hs, tw_self h10]⟩
theorem m_64 (hL : L ≤ 900) : ∀ (k p N : Nat) (M : Mm), p + k = L → k + 1 ≤ N → M 0 10 = nI p → M 0 9 = nI L → Cm (M 1) L c → b_X7_next_64 N M = onI (f_X7_wordHere [.inr (.inl 0)] (wr (wr M 0 10 (nI (scA isLt c k p))) 0 12 0)) (fun τ3 => some (none, τ3)) (fun r3 τ3 => some (some none, wr τ3 0 13 r3)) := by
  intro k
  induction k with
  | zero =>
    intro p N M hp hN h10 h9 hc
    obtain ⟨N, rfl⟩ : ∃ N', N = N' + 1 := ⟨N - 1, by omega⟩
    have e : scA isLt c 0 p = p := rfl
    rw [e, tw_self h10, e_X7_next_64, m_here hL (by omega) h10 h9, onI_s, m_small hc, onI_s, if_neg (show ¬ (p < L ∧ isLt (c p) = true) from fun h9 => by omega), if_pos rfl]
    rfl
  | succ k ih =>
    intro p N M hp hN h10 h9 hc
    obtain ⟨N, rfl⟩ : ∃ N', N = N' + 1 := ⟨N - 1, by omega⟩
    rw [sc_S, e_X7_next_64, m_here hL (by omega) h10 h9, onI_s, m_small hc, onI_s]
    simp only [pk0, pp1]
    by_cases hs : isLt (c p) = true
    · rw [if_pos (show p < L ∧ isLt (c p) = true from ⟨by omega, hs⟩), if_neg (show ¬ (1 : Int32) = 0 by decide), if_pos hs, h10, nI_1]
      have a := ih (p + 1) N (wr M 0 10 (nI (p + 1))) (by omega) (by omega) wr_same (by rw [wr_place (by decide)]; exact h9) (fun q hq => by rw [wr_cell (by decide)]; exact hc q hq)
      rw [tw_wr] at a
      exact a
    · rw [if_neg (show ¬ (p < L ∧ isLt (c p) = true) from fun h9 => hs h9.2), if_pos rfl, if_neg hs, tw_self h10]
theorem m_120 (hL : L ≤ 900) : ∀ (k j N : Nat) (M : Mm), s + j + k = L → k + 1 ≤ N → M 0 10 = nI (s + j) → M 0 9 = nI L → M 0 13 = nI (nuM c s j) → Cm (M 1) L c → (∀ i, i < j → 48 ≤ c (s + i) ∧ c (s + i) ≤ 57) → ∃ M', b_X7_next_120 N M = some (some none, M') ∧ M' 0 10 = nI (scA isDg c k (s + j)) ∧ M' 0 13 = nI (nuM c s (scA isDg c k (s + j) - s)) ∧ (∀ q, q ≠ 10 → q ≠ 13 → M' 0 q = M 0 q) ∧ (∀ q, q ≠ 0 → M' q = M q) := by
  intro k
  induction k with
  | zero =>
    intro j N M hp hN h10 h9 h13 hc hd
    obtain ⟨N, rfl⟩ : ∃ N', N = N' + 1 := ⟨N - 1, by omega⟩
    have e : scA isDg c 0 (s + j) = s + j := rfl
    refine ⟨M, ?_, by rw [e]; exact h10, by rw [e, Nat.add_sub_cancel_left]; exact h13, fun _ _ _ => rfl, fun _ _ => rfl⟩
    rw [e_X7_next_120, m_here hL (by omega) h10 h9, onI_s, m_digit hc, onI_s, if_neg (show ¬ (s + j < L ∧ isDg (c (s + j)) = true) from fun h9 => by omega), if_pos rfl]
    rfl
  | succ k ih =>
    intro j N M hp hN h10 h9 h13 hc hd
    obtain ⟨N, rfl⟩ : ∃ N', N = N' + 1 := ⟨N - 1, by omega⟩
    have hn := nu_rel j hd
    rw [sc_S, e_X7_next_120, m_here hL (by omega) h10 h9, onI_s, m_digit hc, onI_s]
    simp only [pk0, pp1]
    by_cases hs : isDg (c (s + j)) = true
    · have hl := of_decide_eq_true hs
      have hb := hc (s + j) (by omega)
      have ey : M 1 (s + j) = nI (c (s + j)) := by
        rcases hb with ⟨_, e⟩ | ⟨e, _⟩
        · exact e
        · omega
      have ev : hvA M L (s + j) = nI (c (s + j)) := by
        unfold hvA
        rw [if_pos (by omega), ey]
      have e1 : nuM c s (j + 1) = if 100000 < nuM c s j then nuM c s j else 10 * nuM c s j + (c (s + j) - 48) := rfl
      have go : ∃ M', b_X7_next_120 N (wr (wr M 0 13 (nI (nuM c s (j + 1)))) 0 10 (nI (s + j + 1))) = some (some none, M') ∧ M' 0 10 = nI (scA isDg c k (s + j + 1)) ∧ M' 0 13 = nI (nuM c s (scA isDg c k (s + j + 1) - s)) ∧ (∀ q, q ≠ 10 → q ≠ 13 → M' 0 q = M 0 q) ∧ (∀ q, q ≠ 0 → M' q = M q) := by
        obtain ⟨M', a1, a2, a3, a4, a5⟩ := ih (j + 1) N (wr (wr M 0 13 (nI (nuM c s (j + 1)))) 0 10 (nI (s + j + 1))) (by omega) (by omega) wr_same (by rw [wr_place (by decide), wr_place (by decide)]; exact h9) (by rw [wr_place (by decide), wr_same]) (fun q hq => by rw [wr_cell (by decide), wr_cell (by decide)]; exact hc q hq) (fun i hi => by
          by_cases e : i = j
          · rw [e]; exact hl
          · exact hd i (by omega))
        refine ⟨M', a1, a2, a3, fun q h1 h2 => ?_, fun q hq => ?_⟩
        · rw [a4 q h1 h2, wr_place h1, wr_place h2]
        · rw [a5 q hq]
          funext i
          rw [wr_cell hq, wr_cell hq]
      rw [if_pos (show s + j < L ∧ isDg (c (s + j)) = true from ⟨by omega, hs⟩), if_neg (show ¬ (1 : Int32) = 0 by decide), if_pos hs, h13, h10, nI_1]
      by_cases h5 : 100000 < nuM c s j
      · rw [if_pos (show (100000 : Int32) < nI (nuM c s j) from nI_lt (a := 100000) h5 (by omega))]
        rw [e1, if_pos h5] at go
        exact go
      · rw [if_neg (show ¬ (100000 : Int32) < nI (nuM c s j) from nI_nlt (a := 100000) (by omega) (by omega)), m_here hL (by omega) h10 h9, onI_s, ev, h10, nI_1, show (10 : Int32) * nI (nuM c s j) = nI (10 * nuM c s j) from nI_mul 10 _, nI_add, show nI (10 * nuM c s j + c (s + j)) - 48 = nI (10 * nuM c s j + c (s + j) - 48) from nI_sub (b := 48) (by omega), Nat.add_sub_assoc hl.1]
        rw [e1, if_neg h5] at go
        exact go
    · rw [if_neg (show ¬ (s + j < L ∧ isDg (c (s + j)) = true) from fun h9 => hs h9.2), if_pos rfl, if_neg hs, Nat.add_sub_cancel_left]
      exact ⟨M, rfl, h10, h13, fun _ _ _ => rfl, fun _ _ => rfl⟩
/-! which word of the format -/
variable {k l n : Nat}
theorem w_97 (hW : ∀ i, i < l → ¬ wch (k + i) = 32) (hE : wch (k + l) = 32) (hk : k + l < 39) : ∀ (t i N Q : Nat), i + t = l → t + 1 + Q ≤ N → ∃ N', Q ≤ N' ∧ b_X7_wordHere_97 N (nI n) (nI (k + i)) M = b_X7_wordHere_4 N' (nI (n + 1)) (nI (k + l + 1)) M := by
  intro t
  induction t with
  | zero =>
    intro i N Q hi hN
    obtain ⟨N, rfl⟩ : ∃ N', N = N' + 1 := ⟨N - 1, by omega⟩
    obtain rfl : i = l := by omega
    refine ⟨N, by omega, ?_⟩
    rw [e_X7_wordHere_97, if_pos (inb_nI (by omega) (by decide)), nI_clamp (by omega), hE, if_pos rfl, nI_1, nI_1]
  | succ t ih =>
    intro i N Q hi hN
    obtain ⟨N, rfl⟩ : ∃ N', N = N' + 1 := ⟨N - 1, by omega⟩
    obtain ⟨N', a1, a2⟩ := ih (i + 1) N Q (by omega) (by omega)
    refine ⟨N', a1, ?_⟩
    rw [e_X7_wordHere_97, if_pos (inb_nI (by omega) (by decide)), nI_clamp (by omega), if_neg (hW i (by omega)), nI_1]
    exact a2
theorem w_15 (h11 : M 0 11 = nI s) (h10 : M 0 10 = nI e) (he : e ≤ 900) (hW : ∀ i, i < l → ¬ wch (k + i) = 32) (hE : wch (k + l) = 32) (hk : k + l < 39) (hb : ∀ q, s ≤ q → q < e → M 1 q = nI (c q)) : ∀ (t i N Q : Nat), i + t = l → s + i ≤ e → (∀ q, q < i → nI (c (s + q)) = wch (k + q)) → t + 2 + Q ≤ N → (mtB c s e k l = true ∧ b_X7_wordHere_15 N (nI n) (nI k) (nI i) M = some (some (some (.inl (nI n))), M)) ∨ (mtB c s e k l = false ∧ ∃ N', Q ≤ N' ∧ b_X7_wordHere_15 N (nI n) (nI k) (nI i) M = b_X7_wordHere_97 N' (nI n) (nI k) M) := by
  intro t
  induction t with
  | zero =>
    intro i N Q hi hs hm hN
    obtain ⟨N, rfl⟩ : ∃ N', N = N' + 1 + 1 := ⟨N - 2, by omega⟩
    obtain rfl : i = l := by omega
    have i1 : inb (nI (k + i)) 39 = true := inb_nI (by omega) (by decide)
    rw [e_X7_wordHere_15, nI_add, if_pos i1, nI_clamp (by omega), hE, if_pos rfl, e_X7_wordHere_69, nI_add k i, if_pos i1, nI_clamp (by omega), hE, if_pos rfl, h11, h10, nI_add]
    by_cases h : s + i = e
    · left
      rw [if_pos (by rw [h])]
      exact ⟨mtB_iff.mpr ⟨h.symm, hm⟩, rfl⟩
    · right
      rw [if_neg (fun h9 => h ((nI_eq (by omega) (by omega)).mp h9))]
      exact ⟨Bool.eq_false_iff.mpr (fun h9 => h (mtB_iff.mp h9).1.symm), N, by omega, rfl⟩
  | succ t ih =>
    intro i N Q hi hs hm hN
    obtain ⟨N, rfl⟩ : ∃ N', N = N' + 1 + 1 := ⟨N - 2, by omega⟩
    have i1 : inb (nI (k + i)) 39 = true := inb_nI (by omega) (by decide)
    have hw := hW i (by omega)
    have e69 : b_X7_wordHere_69 (N + 1) (nI n) (nI k) (nI i) M = b_X7_wordHere_97 N (nI n) (nI k) M := by
      rw [e_X7_wordHere_69, nI_add k i, if_pos i1, nI_clamp (by omega), if_neg hw]
    rw [e_X7_wordHere_15, nI_add k i, if_pos i1, nI_clamp (by omega), if_neg hw, h11, h10, nI_add s i, e69]
    by_cases h : s + i < e
    · rw [if_pos (nI_lt h (by omega)), if_pos (inb_nI (by omega) (by decide)), if_pos i1, nI_clamp (by omega), hb (s + i) (by omega) h]
      by_cases hq : nI (c (s + i)) = wch (k + i)
      · rw [if_pos hq, nI_1]
        exact ih (i + 1) (N + 1) Q (by omega) (by omega) (fun q h9 => by
          by_cases e9 : q = i
          · rw [e9]; exact hq
          · exact hm q (by omega)) (by omega)
      · right
        rw [if_neg hq]
        exact ⟨Bool.eq_false_iff.mpr (fun h9 => hq ((mtB_iff.mp h9).2 i (by omega))), N, by omega, rfl⟩
    · right
      rw [if_neg (nI_nlt (by omega) (by omega))]
      exact ⟨Bool.eq_false_iff.mpr (fun h9 => by have := (mtB_iff.mp h9).1; omega), N, by omega, rfl⟩
theorem w_one (h11 : M 0 11 = nI s) (h10 : M 0 10 = nI e) (hse : s ≤ e) (he : e ≤ 900) (hb : ∀ q, s ≤ q → q < e → M 1 q = nI (c q)) (hl6 : l ≤ 6) (hW : ∀ i, i < l → ¬ wch (k + i) = 32) (hE : wch (k + l) = 32) (hk : k + l < 39) {N Q : Nat} (hN : 40 + Q ≤ N) : (mtB c s e k l = true ∧ b_X7_wordHere_4 N (nI n) (nI k) M = some (some (some (.inl (nI n))), M)) ∨ (mtB c s e k l = false ∧ ∃ N', Q ≤ N' ∧ b_X7_wordHere_4 N (nI n) (nI k) M = b_X7_wordHere_4 N' (nI (n + 1)) (nI (k + l + 1)) M) := by
  obtain ⟨N, rfl⟩ : ∃ N', N = N' + 1 := ⟨N - 1, by omega⟩
  rw [e_X7_wordHere_4, if_pos (show nI k < 39 from nI_lt (b := 39) (by omega) (by decide))]
  rcases w_15 (c := c) (n := n) h11 h10 he hW hE hk hb l 0 N (l + 1 + Q) (by omega) (by omega) (fun q h9 => by omega) (by omega) with ⟨a1, a2⟩ | ⟨a1, N', a2, a3⟩
  · exact Or.inl ⟨a1, a2⟩
  · right
    obtain ⟨N2, b1, b2⟩ := w_97 (n := n) (M := M) hW hE hk l 0 N' Q (by omega) (by omega)
    refine ⟨a1, N2, b1, ?_⟩
    have a3' : b_X7_wordHere_15 N (nI n) (nI k) 0 M = b_X7_wordHere_97 N' (nI n) (nI k) M := a3
    rw [a3']
    exact b2
theorem m_word (h11 : M 0 11 = nI s) (h10 : M 0 10 = nI e) (hse : s ≤ e) (he : e ≤ 900) (hb : ∀ q, s ≤ q → q < e → M 1 q = nI (c q)) : f_X7_wordHere [.inr (.inl 0)] M = some (some (some (.inl (wiA c s e))), M) := by
  have e0 : f_X7_wordHere [.inr (.inl 0)] M = b_X7_wordHere_4 bigM (nI 0) (nI 0) M := e_X7_wordHere M
  rw [e0]
  unfold wiA
  rcases w_one (c := c) (n := 0) (k := 0) (l := 4) h11 h10 hse he hb (by decide) (by decide +kernel) (by decide +kernel) (by decide) (N := bigM) (Q := 1000) (by decide) with ⟨a, b⟩ | ⟨a, N1, hN1, b⟩
  · rw [if_pos a, b]; rfl
  rw [if_neg (by rw [a]; decide), b]
  rcases w_one (c := c) (n := 1) (k := 5) (l := 4) h11 h10 hse he hb (by decide) (by decide +kernel) (by decide +kernel) (by decide) (N := N1) (Q := 900) (by omega) with ⟨a, b⟩ | ⟨a, N2, hN2, b⟩
  · rw [if_pos a]; exact b
  rw [if_neg (by rw [a]; decide)]
  refine Eq.trans b ?_
  rcases w_one (c := c) (n := 2) (k := 10) (l := 5) h11 h10 hse he hb (by decide) (by decide +kernel) (by decide +kernel) (by decide) (N := N2) (Q := 800) (by omega) with ⟨a, b⟩ | ⟨a, N3, hN3, b⟩
  · rw [if_pos a]; exact b
  rw [if_neg (by rw [a]; decide)]
  refine Eq.trans b ?_
  rcases w_one (c := c) (n := 3) (k := 16) (l := 3) h11 h10 hse he hb (by decide) (by decide +kernel) (by decide +kernel) (by decide) (N := N3) (Q := 700) (by omega) with ⟨a, b⟩ | ⟨a, N4, hN4, b⟩
  · rw [if_pos a]; exact b
  rw [if_neg (by rw [a]; decide)]
  refine Eq.trans b ?_
  rcases w_one (c := c) (n := 4) (k := 20) (l := 6) h11 h10 hse he hb (by decide) (by decide +kernel) (by decide +kernel) (by decide) (N := N4) (Q := 600) (by omega) with ⟨a, b⟩ | ⟨a, N5, hN5, b⟩
  · rw [if_pos a]; exact b
  rw [if_neg (by rw [a]; decide)]
  refine Eq.trans b ?_
  rcases w_one (c := c) (n := 5) (k := 27) (l := 6) h11 h10 hse he hb (by decide) (by decide +kernel) (by decide +kernel) (by decide) (N := N5) (Q := 500) (by omega) with ⟨a, b⟩ | ⟨a, N6, hN6, b⟩
  · rw [if_pos a]; exact b
  rw [if_neg (by rw [a]; decide)]
  refine Eq.trans b ?_
  rcases w_one (c := c) (n := 6) (k := 34) (l := 4) h11 h10 hse he hb (by decide) (by decide +kernel) (by decide +kernel) (by decide) (N := N6) (Q := 400) (by omega) with ⟨a, b⟩ | ⟨a, N7, hN7, b⟩
  · rw [if_pos a]; exact b
  rw [if_neg (by rw [a]; decide)]
  refine Eq.trans b ?_
  obtain ⟨N7, rfl⟩ : ∃ N', N7 = N' + 1 := ⟨N7 - 1, by omega⟩
  rw [e_X7_wordHere_4, if_neg (by decide)]
theorem m_at (hL : L ≤ 900) {N : Nat} (hs : s ≤ L) (hN : L + 2 ≤ N) (h10 : M 0 10 = nI s) (h9 : M 0 9 = nI L) (hc : Cm (M 1) L c) (hsp : s < L → isSp (c s) = false) : ∃ M', b_X7_next_0 (N + 1) M = some (some none, M') ∧ MTs M' c L s ∧ FrM M M' := by
  have n10 : ¬ hvA M L s = 10 := fun h => by
    obtain ⟨h1, h2⟩ := (hv_eq (a := 10) hc (by decide)).mp h
    have := hsp h1
    rw [show isSp (c s) = true from decide_eq_true (Or.inr h2)] at this
    cases this
  have n32 : ¬ hvA M L s = 32 := fun h => by
    obtain ⟨h1, h2⟩ := (hv_eq (a := 32) hc (by decide)).mp h
    have := hsp h1
    rw [show isSp (c s) = true from decide_eq_true (Or.inl h2)] at this
    cases this
  have g10 : wr M 0 11 (nI s) 0 10 = nI s := by rw [wr_place (by decide)]; exact h10
  have g9 : wr M 0 11 (nI s) 0 9 = nI L := by rw [wr_place (by decide)]; exact h9
  have gc : Cm (wr M 0 11 (nI s) 1) L c := fun q hq => by rw [wr_cell (by decide)]; exact hc q hq
  rw [e_X7_next_0, m_here hL hs h10 h9, onI_s, if_neg n10, m_here hL hs h10 h9, onI_s, if_neg n32, h10, m_here hL hs g10 g9, onI_s]
  by_cases hsl : s < L
  · rw [if_neg (fun h => (hv_m1 gc).mp h hsl), m_small gc, onI_s]
    simp only [pk0, pp1]
    by_cases hl : isLt (c s) = true
    · have eE : tkE c L s = scA isLt c (L - s) s := by unfold tkE; rw [if_neg (by omega), if_pos hl]
      have eK : tkK c L s = 1 := by unfold tkK; rw [if_neg (by omega), if_pos hl]
      have hle := sc_le (f := isLt) (c := c) (L - s) s
      have hin : ∀ i, s ≤ i → i < scA isLt c (L - s) s → 97 ≤ c i ∧ c i ≤ 122 := fun i h1 h2 => of_decide_eq_true (sc_in (L - s) s i h1 h2)
      have hgt := sc_pos (f := isLt) (c := c) (k := L - s) hl (by omega)
      have w := m_word (c := c) (s := s) (e := scA isLt c (L - s) s) (M := wr (wr (wr M 0 11 (nI s)) 0 10 (nI (scA isLt c (L - s) s))) 0 12 0) (by rw [wr_place (by decide), wr_place (by decide), wr_same]) (by rw [wr_place (by decide), wr_same]) hle.1 (by omega) (fun q h1 h2 => by
        rw [wr_cell (by decide), wr_cell (by decide)]
        rcases gc q (by omega) with ⟨_, h8⟩ | ⟨h8, _⟩
        · exact h8
        · have := hin q h1 h2
          omega)
      rw [if_pos (show s < L ∧ isLt (c s) = true from ⟨hsl, hl⟩), if_neg (show ¬ (1 : Int32) = 0 by decide), m_64 hL (L - s) s N (wr M 0 11 (nI s)) (by omega) (by omega) g10 g9 gc, w, onI_s, wi_v hgt hin]
      refine ⟨_, rfl, ?_, fun j hj => ?_, fun q hq => ?_⟩
      · unfold MTs
        rw [eE, eK]
        refine ⟨?_, ?_, ?_, fun _ => wr_same, fun h9 => by omega⟩
        · rw [wr_place (by decide), wr_place (by decide), wr_same]
        · rw [wr_place (by decide), wr_place (by decide), wr_place (by decide), wr_same]
        · rw [wr_place (by decide), wr_same]; rfl
      · rw [wr_place (by omega), wr_place (by omega), wr_place (by omega), wr_place (by omega)]
      · funext j
        rw [wr_cell hq, wr_cell hq, wr_cell hq, wr_cell hq]
    · rw [if_neg (show ¬ (s < L ∧ isLt (c s) = true) from fun h => hl h.2), if_pos rfl, m_digit gc, onI_s]
      by_cases hd : isDg (c s) = true
      · have eE : tkE c L s = scA isDg c (L - s) s := by unfold tkE; rw [if_neg (by omega), if_neg hl, if_pos hd]
        have eK : tkK c L s = 2 := by unfold tkK; rw [if_neg (by omega), if_neg hl, if_pos hd]
        obtain ⟨M', a1, a2, a3, a4, a5⟩ := m_120 (c := c) (s := s) hL (L - s) 0 N (wr (wr (wr M 0 11 (nI s)) 0 12 1) 0 13 0) (by omega) (by omega) (by rw [wr_place (by decide), wr_place (by decide)]; exact g10) (by rw [wr_place (by decide), wr_place (by decide)]; exact g9) wr_same (fun q hq => by rw [wr_cell (by decide), wr_cell (by decide)]; exact gc q hq) (fun i hi => by omega)
        rw [if_pos (show s < L ∧ isDg (c s) = true from ⟨hsl, hd⟩), if_neg (show ¬ (1 : Int32) = 0 by decide)]
        refine ⟨M', a1, ?_, fun j hj => ?_, fun q hq => ?_⟩
        · unfold MTs
          rw [eE, eK]
          refine ⟨a2, ?_, ?_, fun h9 => by omega, fun _ => a3⟩
          · rw [a4 11 (by decide) (by decide), wr_place (by decide), wr_place (by decide), wr_same]
          · rw [a4 12 (by decide) (by decide), wr_place (by decide), wr_same]; rfl
        · rw [a4 j (by omega) (by omega), wr_place (by omega), wr_place (by omega), wr_place (by omega)]
        · rw [a5 q hq]
          funext j
          rw [wr_cell hq, wr_cell hq, wr_cell hq]
      · have eE : tkE c L s = s + 1 := by unfold tkE; rw [if_neg (by omega), if_neg hl, if_neg hd]
        rw [if_neg (show ¬ (s < L ∧ isDg (c s) = true) from fun h => hd h.2), if_pos rfl, g10, nI_1]
        by_cases h59 : c s = 59
        · have eK : tkK c L s = 3 := by unfold tkK; rw [if_neg (by omega), if_neg hl, if_neg hd, if_pos h59]
          rw [if_pos (show hvA (wr M 0 11 (nI s)) L s = 59 from (hv_eq (a := 59) gc (by decide)).mpr ⟨hsl, h59⟩)]
          refine ⟨_, rfl, ?_, fun j hj => ?_, fun q hq => ?_⟩
          · unfold MTs
            rw [eE, eK]
            refine ⟨wr_same, ?_, ?_, fun h9 => by omega, fun h9 => by omega⟩
            · rw [wr_place (by decide), wr_place (by decide), wr_same]
            · rw [wr_place (by decide), wr_same]; rfl
          · rw [wr_place (by omega), wr_place (by omega), wr_place (by omega)]
          · funext j
            rw [wr_cell hq, wr_cell hq, wr_cell hq]
        · have eK : tkK c L s = 4 := by unfold tkK; rw [if_neg (by omega), if_neg hl, if_neg hd, if_neg h59]
          rw [if_neg (show ¬ hvA (wr M 0 11 (nI s)) L s = 59 from fun h => h59 ((hv_eq (a := 59) gc (by decide)).mp h).2)]
          refine ⟨_, rfl, ?_, fun j hj => ?_, fun q hq => ?_⟩
          · unfold MTs
            rw [eE, eK]
            refine ⟨wr_same, ?_, ?_, fun h9 => by omega, fun h9 => by omega⟩
            · rw [wr_place (by decide), wr_place (by decide), wr_same]
            · rw [wr_place (by decide), wr_same]; rfl
          · rw [wr_place (by omega), wr_place (by omega), wr_place (by omega)]
          · funext j
            rw [wr_cell hq, wr_cell hq, wr_cell hq]
  · have eE : tkE c L s = s := by unfold tkE; rw [if_pos (by omega)]
    have eK : tkK c L s = 0 := by unfold tkK; rw [if_pos (by omega)]
    rw [if_pos ((hv_m1 gc).mpr hsl)]
    refine ⟨_, rfl, ?_, fun j hj => ?_, fun q hq => ?_⟩
    · unfold MTs
      rw [eE, eK]
      refine ⟨?_, ?_, wr_same, fun h9 => by omega, fun h9 => by omega⟩
      · rw [wr_place (by decide)]; exact g10
      · rw [wr_place (by decide), wr_same]
    · rw [wr_place (by omega), wr_place (by omega)]
    · funext j
      rw [wr_cell hq, wr_cell hq]
theorem m_tok (hL : L ≤ 900) (hp : p ≤ L) (h10 : M 0 10 = nI p) (h9 : M 0 9 = nI L) (hc : Cm (M 1) L c) : ∃ M', f_X7_next [.inr (.inl 0)] M = some (some none, M') ∧ MTs M' c L (tkS c L p) ∧ FrM M M' := by
  have e0 : f_X7_next [.inr (.inl 0)] M = b_X7_next_0 (bigM + 1) M := by rw [e_X7_next, e_X7_next_0]
  obtain ⟨N', hN, a⟩ := m_skip hL (L - p) p (bigM + 1) M (by omega) (by unfold bigM; omega) h10 h9 hc
  have hb : bigM = 99999 := rfl
  have hsl := sc_le (f := isSp) (c := c) (L - p) p
  obtain ⟨M', b1, b2, b3, b4⟩ := m_at (c := c) (s := tkS c L p) (M := wr M 0 10 (nI (tkS c L p))) hL (N := N') (tkS_le hp).2 (by omega) wr_same (by rw [wr_place (by decide)]; exact h9) (fun q hq => by rw [wr_cell (by decide)]; exact hc q hq) (fun h => sc_stop (L - p) p (by unfold tkS at h; omega))
  refine ⟨M', by rw [e0, a]; exact b1, b2, fun j hj => ?_, fun q hq => ?_⟩
  · rw [b3 j hj, wr_place (by omega)]
  · rw [b4 q hq]
    funext j
    exact wr_cell hq
end MTOK
