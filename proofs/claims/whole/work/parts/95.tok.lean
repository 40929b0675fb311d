/-! tokens: what stands in a text -/
def isSp (q : Nat) : Bool := decide (q = 32 ∨ q = 10)
def isLt (q : Nat) : Bool := decide (97 ≤ q ∧ q ≤ 122)
def isDg (q : Nat) : Bool := decide (48 ≤ q ∧ q ≤ 57)
def scA (f : Nat → Bool) (c : Nat → Nat) : Nat → Nat → Nat
  | 0, p => p
  | k + 1, p => if f (c p) = true then scA f c k (p + 1) else p
def tkE (c : Nat → Nat) (L s : Nat) : Nat := if L ≤ s then s else if isLt (c s) = true then scA isLt c (L - s) s else if isDg (c s) = true then scA isDg c (L - s) s else s + 1
def tkK (c : Nat → Nat) (L s : Nat) : Nat := if L ≤ s then 0 else if isLt (c s) = true then 1 else if isDg (c s) = true then 2 else if c s = 59 then 3 else 4
def tkS (c : Nat → Nat) (L p : Nat) : Nat := scA isSp c (L - p) p
def hA (c : Nat → Nat) (s : Nat) : Nat → Nat
  | 0 => 0
  | j + 1 => 32 * hA c s j + (c (s + j) - 96)
def cdA (c : Nat → Nat) (s j : Nat) : Nat := hA c s j * 2 ^ (30 - 5 * j)
def vA (c : Nat → Nat) (s e : Nat) : Int32 := if 6 < e - s then 0 else nI (cdA c s (e - s))
def nuX (c : Nat → Nat) (s : Nat) : Nat → Nat
  | 0 => 0
  | j + 1 => if nuX c s j < 100000 then nuX c s j * 10 + (c (s + j) - 48) else nuX c s j
def nuM (c : Nat → Nat) (s : Nat) : Nat → Nat
  | 0 => 0
  | j + 1 => if 100000 < nuM c s j then nuM c s j else 10 * nuM c s j + (c (s + j) - 48)
def wiX (v : Int32) : Int32 := if v = 321370112 then 0 else if v = 658685952 then 1 else if v = 549489824 then 2 else if v = 643432448 then 3 else if v = 48965011 then 4 else if v = 437853486 then 5 else if v = 626398208 then 6 else -1
def kmA (k : Nat) : Int32 := if k = 0 then 3 else if k = 1 then 0 else if k = 2 then 1 else if k = 3 then 2 else 4
def Cx (r : Nat → Int32) (L : Nat) (c : Nat → Nat) : Prop := ∀ p, p < L → (c p < 128 ∧ r p = nI (c p)) ∨ (c p = 128 ∧ r p < 0)
def Cm (r : Nat → Int32) (L : Nat) (c : Nat → Nat) : Prop := ∀ p, p < L → (c p < 128 ∧ r p = nI (c p)) ∨ (c p = 128 ∧ 127 < r p)
section TOK
theorem tw_wr (σ : Mm) (k i : Nat) (a b : Int32) : wr (wr σ k i a) k i b = wr σ k i b := by
  funext k' j
  rw [wr_at, wr_at, wr_at]
  split <;> rfl
theorem tw_self {σ : Mm} {k i : Nat} {v : Int32} (h : σ k i = v) : wr σ k i v = σ := by
  funext k' j
  rw [wr_at]
  split
  · rename_i e
    rw [e.1, e.2, h]
  · rfl
variable {f : Nat → Bool} {c : Nat → Nat} {L : Nat}
theorem sc_S (k p : Nat) : scA f c (k + 1) p = if f (c p) = true then scA f c k (p + 1) else p := rfl
theorem sc_le : ∀ (k p : Nat), p ≤ scA f c k p ∧ scA f c k p ≤ p + k
  | 0, p => ⟨Nat.le_refl _, Nat.le_refl _⟩
  | k + 1, p => by
    rw [sc_S]
    have h := sc_le k (p + 1)
    split <;> omega
theorem sc_in : ∀ (k p i : Nat), p ≤ i → i < scA f c k p → f (c i) = true
  | 0, p, i, h1, h2 => by
    have : scA f c 0 p = p := rfl
    omega
  | k + 1, p, i, h1, h2 => by
    rw [sc_S] at h2
    by_cases h : f (c p) = true
    · rw [if_pos h] at h2
      by_cases e : i = p
      · rw [e]; exact h
      · exact sc_in k (p + 1) i (by omega) h2
    · rw [if_neg h] at h2
      omega
theorem sc_stop : ∀ (k p : Nat), scA f c k p < p + k → f (c (scA f c k p)) = false
  | 0, p, h => by
    have : scA f c 0 p = p := rfl
    omega
  | k + 1, p, h => by
    rw [sc_S] at h ⊢
    by_cases h9 : f (c p) = true
    · rw [if_pos h9] at h ⊢
      exact sc_stop k (p + 1) (by omega)
    · rw [if_neg h9]
      simpa using h9
theorem sc_pos {k p : Nat} (h : f (c p) = true) (hk : 0 < k) : p < scA f c k p := by
  obtain ⟨k, rfl⟩ : ∃ k', k = k' + 1 := ⟨k - 1, by omega⟩
  rw [sc_S, if_pos h]
  have := (sc_le (f := f) (c := c) k (p + 1)).1
  omega
theorem tkS_le {p : Nat} (h : p ≤ L) : p ≤ tkS c L p ∧ tkS c L p ≤ L := by
  have := sc_le (f := isSp) (c := c) (L - p) p
  unfold tkS
  omega
theorem tkE_le {s : Nat} (h : s ≤ L) : s ≤ tkE c L s ∧ tkE c L s ≤ L := by
  unfold tkE
  have h1 := sc_le (f := isLt) (c := c) (L - s) s
  have h2 := sc_le (f := isDg) (c := c) (L - s) s
  split
  · omega
  · split
    · omega
    · split <;> omega
theorem tkE_gt {s : Nat} (h : s ≤ L) (hk : tkK c L s ≠ 0) : s < L ∧ s < tkE c L s := by
  have hs : ¬ L ≤ s := fun h9 => hk (by unfold tkK; rw [if_pos h9])
  refine ⟨by omega, ?_⟩
  unfold tkE
  rw [if_neg hs]
  by_cases h1 : isLt (c s) = true
  · rw [if_pos h1]
    exact sc_pos h1 (by omega)
  · rw [if_neg h1]
    by_cases h2 : isDg (c s) = true
    · rw [if_pos h2]
      exact sc_pos h2 (by omega)
    · rw [if_neg h2]
      omega
theorem tk_word {s : Nat} (hk : tkK c L s = 1) : s < L ∧ isLt (c s) = true ∧ tkE c L s = scA isLt c (L - s) s := by
  unfold tkK at hk
  unfold tkE
  by_cases h0 : L ≤ s
  · rw [if_pos h0] at hk; omega
  · rw [if_neg h0] at hk ⊢
    by_cases h1 : isLt (c s) = true
    · rw [if_pos h1]
      exact ⟨by omega, h1, rfl⟩
    · rw [if_neg h1] at hk
      by_cases h2 : isDg (c s) = true
      · rw [if_pos h2] at hk; omega
      · rw [if_neg h2] at hk
        split at hk <;> omega
theorem tk_num {s : Nat} (hk : tkK c L s = 2) : s < L ∧ isDg (c s) = true ∧ tkE c L s = scA isDg c (L - s) s := by
  unfold tkK at hk
  unfold tkE
  by_cases h0 : L ≤ s
  · rw [if_pos h0] at hk; omega
  · rw [if_neg h0] at hk ⊢
    by_cases h1 : isLt (c s) = true
    · rw [if_pos h1] at hk; omega
    · rw [if_neg h1] at hk ⊢
      by_cases h2 : isDg (c s) = true
      · rw [if_pos h2]
        exact ⟨by omega, h2, rfl⟩
      · rw [if_neg h2] at hk
        split at hk <;> omega
theorem tkK_le {s : Nat} : tkK c L s ≤ 4 := by
  unfold tkK
  split
  · omega
  · split
    · omega
    · split
      · omega
      · split <;> omega
/-! a byte of the class, a byte of the reference -/
variable {y : Int32} {q a b : Nat}
theorem yx_eq (h : (q < 128 ∧ y = nI q) ∨ (q = 128 ∧ y < 0)) (ha : a < 128) : y = nI a ↔ q = a := by
  rcases h with ⟨h1, rfl⟩ | ⟨rfl, h2⟩
  · exact nI_eq (by omega) (by omega)
  · constructor
    · rintro rfl
      exact absurd h2 (nI_pos (by omega))
    · intro h9; omega
theorem yx_lt (h : (q < 128 ∧ y = nI q) ∨ (q = 128 ∧ y < 0)) (ha : a < 128) : y < nI a ↔ (q < a ∨ q = 128) := by
  rcases h with ⟨h1, rfl⟩ | ⟨rfl, h2⟩
  · rw [nI_ltI (by omega) (by omega)]
    omega
  · constructor
    · intro _; exact Or.inr rfl
    · intro _
      exact Int32.lt_of_lt_of_le h2 (nI_pos' (by omega))
theorem yx_gt (h : (q < 128 ∧ y = nI q) ∨ (q = 128 ∧ y < 0)) (ha : a < 128) : nI a < y ↔ (a < q ∧ q < 128) := by
  rcases h with ⟨h1, rfl⟩ | ⟨rfl, h2⟩
  · rw [nI_ltI (by omega) (by omega)]
    omega
  · constructor
    · intro h9
      exact absurd (Int32.lt_trans h9 h2) (nI_pos (by omega))
    · intro h9; omega
theorem yx_in (h : (q < 128 ∧ y = nI q) ∨ (q = 128 ∧ y < 0)) (ha : a < 128) (hb : b < 128) : (nI a ≤ y ∧ y ≤ nI b) ↔ (a ≤ q ∧ q ≤ b) := by
  rw [← Int32.not_lt, ← Int32.not_lt, yx_lt h ha, yx_gt h hb]
  rcases h with ⟨h1, _⟩ | ⟨h1, _⟩ <;> omega
theorem ym_big (h : (q < 128 ∧ y = nI q) ∨ (q = 128 ∧ 127 < y)) : ∃ t, t < 2 ^ 31 ∧ y = nI t ∧ ((q < 128 ∧ t = q) ∨ (q = 128 ∧ 127 < t)) := by
  rcases h with ⟨h1, rfl⟩ | ⟨rfl, h2⟩
  · exact ⟨q, by omega, rfl, Or.inl ⟨h1, rfl⟩⟩
  · obtain ⟨t, ht, rfl⟩ := nI_of (x := y) (fun h9 => by
      have := Int32.lt_trans h2 h9
      exact absurd this (by decide))
    exact ⟨t, ht, rfl, Or.inr ⟨rfl, (nI_ltI (a := 127) (by decide) ht).mp h2⟩⟩
theorem ym_eq (h : (q < 128 ∧ y = nI q) ∨ (q = 128 ∧ 127 < y)) (ha : a < 128) : y = nI a ↔ q = a := by
  obtain ⟨t, ht, rfl, h9⟩ := ym_big h
  rw [nI_eq ht (by omega)]
  omega
theorem ym_lt (h : (q < 128 ∧ y = nI q) ∨ (q = 128 ∧ 127 < y)) (ha : a < 128) : y < nI a ↔ q < a := by
  obtain ⟨t, ht, rfl, h9⟩ := ym_big h
  rw [nI_ltI ht (by omega)]
  omega
theorem ym_gt (h : (q < 128 ∧ y = nI q) ∨ (q = 128 ∧ 127 < y)) (ha : a < 128) : nI a < y ↔ a < q := by
  obtain ⟨t, ht, rfl, h9⟩ := ym_big h
  rw [nI_ltI (by omega) ht]
  omega
theorem ym_m1 (h : (q < 128 ∧ y = nI q) ∨ (q = 128 ∧ 127 < y)) : ¬ y = -1 := by
  obtain ⟨t, ht, rfl, h9⟩ := ym_big h
  exact ne_m1 ht
/-! words as numbers -/
theorem bx_or (a b : Nat) : nI a ||| nI b = nI (a ||| b) := by
  apply Int32.toBitVec_inj.1
  show BitVec.ofNat 32 a ||| BitVec.ofNat 32 b = BitVec.ofNat 32 (a ||| b)
  exact BitVec.ofNat_or.symm
theorem bx_cnt : ∀ n, n < 32 → ((nI n &&& 31).toBitVec.smod 32).toNat = n := by decide +kernel
theorem bx_shl {l n : Nat} (hl : l < 2 ^ 32) (hn : n < 32) : nI l <<< (nI n &&& 31) = nI (l * 2 ^ n) := by
  apply Int32.toBitVec_inj.1
  rw [Int32.toBitVec_shiftLeft]
  show (nI l).toBitVec <<< ((nI n &&& 31).toBitVec.smod 32).toNat = BitVec.ofNat 32 (l * 2 ^ n)
  rw [bx_cnt n hn]
  apply BitVec.eq_of_toNat_eq
  rw [BitVec.toNat_shiftLeft, BitVec.toNat_ofNat, Nat.shiftLeft_eq]
  show BitVec.toNat (BitVec.ofNat 32 l) * 2 ^ n % 2 ^ 32 = _
  rw [BitVec.toNat_ofNat, Nat.mod_eq_of_lt hl]
theorem bx_join {h l n : Nat} (hl : l < 2 ^ n) : h * 2 ^ n ||| l = h * 2 ^ n + l := by
  have := Nat.shiftLeft_add_eq_or_of_lt hl h
  rw [Nat.shiftLeft_eq] at this
  exact this.symm
theorem wd_step {s j : Nat} (hj : j < 6) (h1 : 97 ≤ c (s + j)) (h2 : c (s + j) ≤ 122) : nI (cdA c s j) ||| ((nI (c (s + j)) &&& 31) <<< ((25 - (5 * nI j)) &&& 31)) = nI (cdA c s (j + 1)) := by
  have e1 : (25 : Int32) - 5 * nI j = nI (25 - 5 * j) := by
    have : ∀ j, j < 6 → (25 : Int32) - 5 * nI j = nI (25 - 5 * j) := by decide +kernel
    exact this j hj
  have e2 : nI (c (s + j)) &&& 31 = nI (c (s + j) - 96) := by
    rw [show (31 : Int32) = nI 31 from rfl, bx_and, show (31 : Nat) = 2 ^ 5 - 1 from rfl, Nat.and_two_pow_sub_one_eq_mod]
    congr 1
    omega
  have e3 : cdA c s (j + 1) = cdA c s j + (c (s + j) - 96) * 2 ^ (25 - 5 * j) := by
    unfold cdA
    show (32 * hA c s j + (c (s + j) - 96)) * 2 ^ (30 - 5 * (j + 1)) = _
    rw [show 30 - 5 * (j + 1) = 25 - 5 * j by omega, show 30 - 5 * j = 5 + (25 - 5 * j) by omega, Nat.pow_add, Nat.add_mul, ← Nat.mul_assoc, Nat.mul_comm 32]
  have e4 : (c (s + j) - 96) * 2 ^ (25 - 5 * j) < 2 ^ (30 - 5 * j) := by
    rw [show 30 - 5 * j = 5 + (25 - 5 * j) by omega, Nat.pow_add]
    exact Nat.mul_lt_mul_of_pos_right (by omega) (Nat.two_pow_pos _)
  rw [e1, e2, bx_shl (by omega) (by omega), bx_or, e3]
  unfold cdA
  rw [bx_join e4]
/-- six places of a word, with noughts behind it -/
def pdA (c : Nat → Nat) (s j i : Nat) : Nat := if i < j then c (s + i) - 96 else 0
def hpA (c : Nat → Nat) (s j : Nat) : Nat → Nat
  | 0 => 0
  | i + 1 => 32 * hpA c s j i + pdA c s j i
theorem hp_eq {s j : Nat} (hj : j ≤ 6) : hpA c s j 6 = cdA c s j := by
  have h : ∀ i, i ≤ j → hpA c s j i = hA c s i := by
    intro i
    induction i with
    | zero => intro _; rfl
    | succ i ih =>
      intro hi
      show 32 * hpA c s j i + pdA c s j i = 32 * hA c s i + (c (s + i) - 96)
      rw [ih (by omega)]
      unfold pdA
      rw [if_pos (by omega)]
  have g : ∀ d, j + d ≤ 6 → hpA c s j (j + d) = hA c s j * 2 ^ (5 * d) := by
    intro d
    induction d with
    | zero => intro _; rw [Nat.add_zero, h j (Nat.le_refl _)]; simp
    | succ d ih =>
      intro hd
      show 32 * hpA c s j (j + d) + pdA c s j (j + d) = _
      rw [ih (by omega)]
      unfold pdA
      rw [if_neg (by omega), show 5 * (d + 1) = 5 + 5 * d by omega, Nat.pow_add, Nat.add_zero, Nat.mul_left_comm]
  have := g (6 - j) (by omega)
  rw [show j + (6 - j) = 6 by omega, show 5 * (6 - j) = 30 - 5 * j by omega] at this
  exact this
theorem pd_le {s j : Nat} (h : ∀ i, i < j → c (s + i) ≤ 122) (i : Nat) : pdA c s j i ≤ 26 := by
  unfold pdA
  split
  · rename_i hi
    have := h i hi
    omega
  · omega
theorem hp6 (s j : Nat) : hpA c s j 6 = 32 * (32 * (32 * (32 * (32 * (32 * 0 + pdA c s j 0) + pdA c s j 1) + pdA c s j 2) + pdA c s j 3) + pdA c s j 4) + pdA c s j 5 := rfl
/-- a word by its number: which letters -/
theorem pd_dig {s j d0 d1 d2 d3 d4 d5 N : Nat} (hj : j ≤ 6) (h : ∀ i, i < j → 97 ≤ c (s + i) ∧ c (s + i) ≤ 122) (hN : N = 32 * (32 * (32 * (32 * (32 * (32 * 0 + d0) + d1) + d2) + d3) + d4) + d5) (b0 : d0 < 32) (b1 : d1 < 32) (b2 : d2 < 32) (b3 : d3 < 32) (b4 : d4 < 32) (b5 : d5 < 32) : cdA c s j = N ↔ (pdA c s j 0 = d0 ∧ pdA c s j 1 = d1 ∧ pdA c s j 2 = d2 ∧ pdA c s j 3 = d3 ∧ pdA c s j 4 = d4 ∧ pdA c s j 5 = d5) := by
  have p : ∀ i, pdA c s j i ≤ 26 := pd_le (fun i hi => (h i hi).2)
  have p0 := p 0
  have p1 := p 1
  have p2 := p 2
  have p3 := p 3
  have p4 := p 4
  have p5 := p 5
  rw [← hp_eq hj, hp6, hN]
  constructor
  · intro h9
    refine ⟨?_, ?_, ?_, ?_, ?_, ?_⟩ <;> omega
  · rintro ⟨h0, h1, h2, h3, h4, h5⟩
    rw [h0, h1, h2, h3, h4, h5]
theorem cd_lt {s j : Nat} (hj : j ≤ 6) (h : ∀ i, i < j → 97 ≤ c (s + i) ∧ c (s + i) ≤ 122) : cdA c s j < 2 ^ 30 := by
  have p : ∀ i, pdA c s j i ≤ 26 := pd_le (fun i hi => (h i hi).2)
  have p0 := p 0
  have p1 := p 1
  have p2 := p 2
  have p3 := p 3
  have p4 := p 4
  have p5 := p 5
  rw [← hp_eq hj, hp6]
  omega
theorem cd_pos {s j : Nat} (hj : j ≤ 6) (h1 : 1 ≤ j) (h : ∀ i, i < j → 97 ≤ c (s + i) ∧ c (s + i) ≤ 122) : 0 < cdA c s j := by
  have p0 : 1 ≤ pdA c s j 0 := by
    unfold pdA
    rw [if_pos (by omega)]
    have := (h 0 (by omega)).1
    omega
  rw [← hp_eq hj, hp6]
  omega
theorem pd_pos {s j i d : Nat} (h : pdA c s j i = d) (hd : 0 < d) (hc : ∀ i, i < j → 97 ≤ c (s + i) ∧ c (s + i) ≤ 122) : i < j ∧ c (s + i) = d + 96 := by
  unfold pdA at h
  by_cases hi : i < j
  · rw [if_pos hi] at h
    have := hc i hi
    exact ⟨hi, by omega⟩
  · rw [if_neg hi] at h
    omega
theorem pd_zero {s j i : Nat} (h : pdA c s j i = 0) (hc : ∀ i, i < j → 97 ≤ c (s + i) ∧ c (s + i) ≤ 122) : j ≤ i := by
  unfold pdA at h
  by_cases hi : i < j
  · rw [if_pos hi] at h
    have := hc i hi
    omega
  · omega
def mtB (c : Nat → Nat) (s e k l : Nat) : Bool := decide (e = s + l) && (List.range l).all (fun q => decide (nI (c (s + q)) = wch (k + q)))
theorem mtB_iff {s e k l : Nat} : mtB c s e k l = true ↔ (e = s + l ∧ ∀ q, q < l → nI (c (s + q)) = wch (k + q)) := by
  unfold mtB
  rw [Bool.and_eq_true, decide_eq_true_eq, List.all_eq_true]
  constructor
  · rintro ⟨h1, h2⟩
    exact ⟨h1, fun q hq => of_decide_eq_true (h2 q (List.mem_range.mpr hq))⟩
  · rintro ⟨h1, h2⟩
    exact ⟨h1, fun q hq => decide_eq_true (h2 q (List.mem_range.mp hq))⟩
def wiA (c : Nat → Nat) (s e : Nat) : Int32 := if mtB c s e 0 4 = true then 0 else if mtB c s e 5 4 = true then 1 else if mtB c s e 10 5 = true then 2 else if mtB c s e 16 3 = true then 3 else if mtB c s e 20 6 = true then 4 else if mtB c s e 27 6 = true then 5 else if mtB c s e 34 4 = true then 6 else -1
theorem wd_0 {s e : Nat} (hse : s < e) (h : ∀ i, s ≤ i → i < e → 97 ≤ c i ∧ c i ≤ 122) : mtB c s e 0 4 = true ↔ vA c s e = 321370112 := by
  have hc : ∀ i, i < e - s → 97 ≤ c (s + i) ∧ c (s + i) ≤ 122 := fun i hi => h (s + i) (by omega) (by omega)
  rw [mtB_iff]
  unfold vA
  by_cases h6 : 6 < e - s
  · rw [if_pos h6]
    constructor
    · rintro ⟨h1, _⟩
      omega
    · intro h9
      exact absurd h9 (by decide)
  · rw [if_neg h6]
    have hj : e - s ≤ 6 := by omega
    have hd := pd_dig (c := c) (s := s) (N := 321370112) (d0 := 9) (d1 := 18) (d2 := 15) (d3 := 14) (d4 := 0) (d5 := 0) hj hc (by decide) (by decide) (by decide) (by decide) (by decide) (by decide) (by decide)
    have hl := cd_lt hj hc
    have hv : nI (cdA c s (e - s)) = 321370112 ↔ cdA c s (e - s) = 321370112 := nI_eq (b := 321370112) (by omega) (by decide)
    rw [hv, hd]
    constructor
    · rintro ⟨h1, h2⟩
      have g0 : c (s + 0) = 105 := (nI_eq (by have := hc 0 (by omega); omega) (by decide)).mp ((h2 0 (by decide)).trans (show wch (0 + 0) = nI 105 from rfl))
      have g1 : c (s + 1) = 114 := (nI_eq (by have := hc 1 (by omega); omega) (by decide)).mp ((h2 1 (by decide)).trans (show wch (0 + 1) = nI 114 from rfl))
      have g2 : c (s + 2) = 111 := (nI_eq (by have := hc 2 (by omega); omega) (by decide)).mp ((h2 2 (by decide)).trans (show wch (0 + 2) = nI 111 from rfl))
      have g3 : c (s + 3) = 110 := (nI_eq (by have := hc 3 (by omega); omega) (by decide)).mp ((h2 3 (by decide)).trans (show wch (0 + 3) = nI 110 from rfl))
      unfold pdA
      refine ⟨?_, ?_, ?_, ?_, ?_, ?_⟩
      · rw [if_pos (by omega), g0]
      · rw [if_pos (by omega), g1]
      · rw [if_pos (by omega), g2]
      · rw [if_pos (by omega), g3]
      · rw [if_neg (by omega)]
      · rw [if_neg (by omega)]
    · rintro ⟨h0, h1, h2, h3, h4, h5⟩
      have g0 := pd_pos h0 (by decide) hc
      have g1 := pd_pos h1 (by decide) hc
      have g2 := pd_pos h2 (by decide) hc
      have g3 := pd_pos h3 (by decide) hc
      have z := pd_zero h4 hc
      refine ⟨by omega, fun q hq => ?_⟩
      rcases (show q = 0 ∨ q = 1 ∨ q = 2 ∨ q = 3 by omega) with rfl | rfl | rfl | rfl
      · rw [g0.2]; rfl
      · rw [g1.2]; rfl
      · rw [g2.2]; rfl
      · rw [g3.2]; rfl
theorem wd_1 {s e : Nat} (hse : s < e) (h : ∀ i, s ≤ i → i < e → 97 ≤ c i ∧ c i ≤ 122) : mtB c s e 5 4 = true ↔ vA c s e = 658685952 := by
  have hc : ∀ i, i < e - s → 97 ≤ c (s + i) ∧ c (s + i) ≤ 122 := fun i hi => h (s + i) (by omega) (by omega)
  rw [mtB_iff]
  unfold vA
  by_cases h6 : 6 < e - s
  · rw [if_pos h6]
    constructor
    · rintro ⟨h1, _⟩
      omega
    · intro h9
      exact absurd h9 (by decide)
  · rw [if_neg h6]
    have hj : e - s ≤ 6 := by omega
    have hd := pd_dig (c := c) (s := s) (N := 658685952) (d0 := 19) (d1 := 20) (d2 := 5) (d3 := 16) (d4 := 0) (d5 := 0) hj hc (by decide) (by decide) (by decide) (by decide) (by decide) (by decide) (by decide)
    have hl := cd_lt hj hc
    have hv : nI (cdA c s (e - s)) = 658685952 ↔ cdA c s (e - s) = 658685952 := nI_eq (b := 658685952) (by omega) (by decide)
    rw [hv, hd]
    constructor
    · rintro ⟨h1, h2⟩
      have g0 : c (s + 0) = 115 := (nI_eq (by have := hc 0 (by omega); omega) (by decide)).mp ((h2 0 (by decide)).trans (show wch (5 + 0) = nI 115 from rfl))
      have g1 : c (s + 1) = 116 := (nI_eq (by have := hc 1 (by omega); omega) (by decide)).mp ((h2 1 (by decide)).trans (show wch (5 + 1) = nI 116 from rfl))
      have g2 : c (s + 2) = 101 := (nI_eq (by have := hc 2 (by omega); omega) (by decide)).mp ((h2 2 (by decide)).trans (show wch (5 + 2) = nI 101 from rfl))
      have g3 : c (s + 3) = 112 := (nI_eq (by have := hc 3 (by omega); omega) (by decide)).mp ((h2 3 (by decide)).trans (show wch (5 + 3) = nI 112 from rfl))
      unfold pdA
      refine ⟨?_, ?_, ?_, ?_, ?_, ?_⟩
      · rw [if_pos (by omega), g0]
      · rw [if_pos (by omega), g1]
      · rw [if_pos (by omega), g2]
      · rw [if_pos (by omega), g3]
      · rw [if_neg (by omega)]
      · rw [if_neg (by omega)]
    · rintro ⟨h0, h1, h2, h3, h4, h5⟩
      have g0 := pd_pos h0 (by decide) hc
      have g1 := pd_pos h1 (by decide) hc
      have g2 := pd_pos h2 (by decide) hc
      have g3 := pd_pos h3 (by decide) hc
      have z := pd_zero h4 hc
      refine ⟨by omega, fun q hq => ?_⟩
      rcases (show q = 0 ∨ q = 1 ∨ q = 2 ∨ q = 3 by omega) with rfl | rfl | rfl | rfl
      · rw [g0.2]; rfl
      · rw [g1.2]; rfl
      · rw [g2.2]; rfl
      · rw [g3.2]; rfl
theorem wd_2 {s e : Nat} (hse : s < e) (h : ∀ i, s ≤ i → i < e → 97 ≤ c i ∧ c i ≤ 122) : mtB c s e 10 5 = true ↔ vA c s e = 549489824 := by
  have hc : ∀ i, i < e - s → 97 ≤ c (s + i) ∧ c (s + i) ≤ 122 := fun i hi => h (s + i) (by omega) (by omega)
  rw [mtB_iff]
  unfold vA
  by_cases h6 : 6 < e - s
  · rw [if_pos h6]
    constructor
    · rintro ⟨h1, _⟩
      omega
    · intro h9
      exact absurd h9 (by decide)
  · rw [if_neg h6]
    have hj : e - s ≤ 6 := by omega
    have hd := pd_dig (c := c) (s := s) (N := 549489824) (d0 := 16) (d1 := 12) (d2 := 1) (d3 := 3) (d4 := 5) (d5 := 0) hj hc (by decide) (by decide) (by decide) (by decide) (by decide) (by decide) (by decide)
    have hl := cd_lt hj hc
    have hv : nI (cdA c s (e - s)) = 549489824 ↔ cdA c s (e - s) = 549489824 := nI_eq (b := 549489824) (by omega) (by decide)
    rw [hv, hd]
    constructor
    · rintro ⟨h1, h2⟩
      have g0 : c (s + 0) = 112 := (nI_eq (by have := hc 0 (by omega); omega) (by decide)).mp ((h2 0 (by decide)).trans (show wch (10 + 0) = nI 112 from rfl))
      have g1 : c (s + 1) = 108 := (nI_eq (by have := hc 1 (by omega); omega) (by decide)).mp ((h2 1 (by decide)).trans (show wch (10 + 1) = nI 108 from rfl))
      have g2 : c (s + 2) = 97 := (nI_eq (by have := hc 2 (by omega); omega) (by decide)).mp ((h2 2 (by decide)).trans (show wch (10 + 2) = nI 97 from rfl))
      have g3 : c (s + 3) = 99 := (nI_eq (by have := hc 3 (by omega); omega) (by decide)).mp ((h2 3 (by decide)).trans (show wch (10 + 3) = nI 99 from rfl))
      have g4 : c (s + 4) = 101 := (nI_eq (by have := hc 4 (by omega); omega) (by decide)).mp ((h2 4 (by decide)).trans (show wch (10 + 4) = nI 101 from rfl))
      unfold pdA
      refine ⟨?_, ?_, ?_, ?_, ?_, ?_⟩
      · rw [if_pos (by omega), g0]
      · rw [if_pos (by omega), g1]
      · rw [if_pos (by omega), g2]
      · rw [if_pos (by omega), g3]
      · rw [if_pos (by omega), g4]
      · rw [if_neg (by omega)]
    · rintro ⟨h0, h1, h2, h3, h4, h5⟩
      have g0 := pd_pos h0 (by decide) hc
      have g1 := pd_pos h1 (by decide) hc
      have g2 := pd_pos h2 (by decide) hc
      have g3 := pd_pos h3 (by decide) hc
      have g4 := pd_pos h4 (by decide) hc
      have z := pd_zero h5 hc
      refine ⟨by omega, fun q hq => ?_⟩
      rcases (show q = 0 ∨ q = 1 ∨ q = 2 ∨ q = 3 ∨ q = 4 by omega) with rfl | rfl | rfl | rfl | rfl
      · rw [g0.2]; rfl
      · rw [g1.2]; rfl
      · rw [g2.2]; rfl
      · rw [g3.2]; rfl
      · rw [g4.2]; rfl
theorem wd_3 {s e : Nat} (hse : s < e) (h : ∀ i, s ≤ i → i < e → 97 ≤ c i ∧ c i ≤ 122) : mtB c s e 16 3 = true ↔ vA c s e = 643432448 := by
  have hc : ∀ i, i < e - s → 97 ≤ c (s + i) ∧ c (s + i) ≤ 122 := fun i hi => h (s + i) (by omega) (by omega)
  rw [mtB_iff]
  unfold vA
  by_cases h6 : 6 < e - s
  · rw [if_pos h6]
    constructor
    · rintro ⟨h1, _⟩
      omega
    · intro h9
      exact absurd h9 (by decide)
  · rw [if_neg h6]
    have hj : e - s ≤ 6 := by omega
    have hd := pd_dig (c := c) (s := s) (N := 643432448) (d0 := 19) (d1 := 5) (d2 := 20) (d3 := 0) (d4 := 0) (d5 := 0) hj hc (by decide) (by decide) (by decide) (by decide) (by decide) (by decide) (by decide)
    have hl := cd_lt hj hc
    have hv : nI (cdA c s (e - s)) = 643432448 ↔ cdA c s (e - s) = 643432448 := nI_eq (b := 643432448) (by omega) (by decide)
    rw [hv, hd]
    constructor
    · rintro ⟨h1, h2⟩
      have g0 : c (s + 0) = 115 := (nI_eq (by have := hc 0 (by omega); omega) (by decide)).mp ((h2 0 (by decide)).trans (show wch (16 + 0) = nI 115 from rfl))
      have g1 : c (s + 1) = 101 := (nI_eq (by have := hc 1 (by omega); omega) (by decide)).mp ((h2 1 (by decide)).trans (show wch (16 + 1) = nI 101 from rfl))
      have g2 : c (s + 2) = 116 := (nI_eq (by have := hc 2 (by omega); omega) (by decide)).mp ((h2 2 (by decide)).trans (show wch (16 + 2) = nI 116 from rfl))
      unfold pdA
      refine ⟨?_, ?_, ?_, ?_, ?_, ?_⟩
      · rw [if_pos (by omega), g0]
      · rw [if_pos (by omega), g1]
      · rw [if_pos (by omega), g2]
      · rw [if_neg (by omega)]
      · rw [if_neg (by omega)]
      · rw [if_neg (by omega)]
    · rintro ⟨h0, h1, h2, h3, h4, h5⟩
      have g0 := pd_pos h0 (by decide) hc
      have g1 := pd_pos h1 (by decide) hc
      have g2 := pd_pos h2 (by decide) hc
      have z := pd_zero h3 hc
      refine ⟨by omega, fun q hq => ?_⟩
      rcases (show q = 0 ∨ q = 1 ∨ q = 2 by omega) with rfl | rfl | rfl
      · rw [g0.2]; rfl
      · rw [g1.2]; rfl
      · rw [g2.2]; rfl
theorem wd_4 {s e : Nat} (hse : s < e) (h : ∀ i, s ≤ i → i < e → 97 ≤ c i ∧ c i ≤ 122) : mtB c s e 20 6 = true ↔ vA c s e = 48965011 := by
  have hc : ∀ i, i < e - s → 97 ≤ c (s + i) ∧ c (s + i) ≤ 122 := fun i hi => h (s + i) (by omega) (by omega)
  rw [mtB_iff]
  unfold vA
  by_cases h6 : 6 < e - s
  · rw [if_pos h6]
    constructor
    · rintro ⟨h1, _⟩
      omega
    · intro h9
      exact absurd h9 (by decide)
  · rw [if_neg h6]
    have hj : e - s ≤ 6 := by omega
    have hd := pd_dig (c := c) (s := s) (N := 48965011) (d0 := 1) (d1 := 14) (d2 := 22) (d3 := 9) (d4 := 12) (d5 := 19) hj hc (by decide) (by decide) (by decide) (by decide) (by decide) (by decide) (by decide)
    have hl := cd_lt hj hc
    have hv : nI (cdA c s (e - s)) = 48965011 ↔ cdA c s (e - s) = 48965011 := nI_eq (b := 48965011) (by omega) (by decide)
    rw [hv, hd]
    constructor
    · rintro ⟨h1, h2⟩
      have g0 : c (s + 0) = 97 := (nI_eq (by have := hc 0 (by omega); omega) (by decide)).mp ((h2 0 (by decide)).trans (show wch (20 + 0) = nI 97 from rfl))
      have g1 : c (s + 1) = 110 := (nI_eq (by have := hc 1 (by omega); omega) (by decide)).mp ((h2 1 (by decide)).trans (show wch (20 + 1) = nI 110 from rfl))
      have g2 : c (s + 2) = 118 := (nI_eq (by have := hc 2 (by omega); omega) (by decide)).mp ((h2 2 (by decide)).trans (show wch (20 + 2) = nI 118 from rfl))
      have g3 : c (s + 3) = 105 := (nI_eq (by have := hc 3 (by omega); omega) (by decide)).mp ((h2 3 (by decide)).trans (show wch (20 + 3) = nI 105 from rfl))
      have g4 : c (s + 4) = 108 := (nI_eq (by have := hc 4 (by omega); omega) (by decide)).mp ((h2 4 (by decide)).trans (show wch (20 + 4) = nI 108 from rfl))
      have g5 : c (s + 5) = 115 := (nI_eq (by have := hc 5 (by omega); omega) (by decide)).mp ((h2 5 (by decide)).trans (show wch (20 + 5) = nI 115 from rfl))
      unfold pdA
      refine ⟨?_, ?_, ?_, ?_, ?_, ?_⟩
      · rw [if_pos (by omega), g0]
      · rw [if_pos (by omega), g1]
      · rw [if_pos (by omega), g2]
      · rw [if_pos (by omega), g3]
      · rw [if_pos (by omega), g4]
      · rw [if_pos (by omega), g5]
    · rintro ⟨h0, h1, h2, h3, h4, h5⟩
      have g0 := pd_pos h0 (by decide) hc
      have g1 := pd_pos h1 (by decide) hc
      have g2 := pd_pos h2 (by decide) hc
      have g3 := pd_pos h3 (by decide) hc
      have g4 := pd_pos h4 (by decide) hc
      have g5 := pd_pos h5 (by decide) hc
      refine ⟨by omega, fun q hq => ?_⟩
      rcases (show q = 0 ∨ q = 1 ∨ q = 2 ∨ q = 3 ∨ q = 4 ∨ q = 5 by omega) with rfl | rfl | rfl | rfl | rfl | rfl
      · rw [g0.2]; rfl
      · rw [g1.2]; rfl
      · rw [g2.2]; rfl
      · rw [g3.2]; rfl
      · rw [g4.2]; rfl
      · rw [g5.2]; rfl
theorem wd_5 {s e : Nat} (hse : s < e) (h : ∀ i, s ≤ i → i < e → 97 ≤ c i ∧ c i ≤ 122) : mtB c s e 27 6 = true ↔ vA c s e = 437853486 := by
  have hc : ∀ i, i < e - s → 97 ≤ c (s + i) ∧ c (s + i) ≤ 122 := fun i hi => h (s + i) (by omega) (by omega)
  rw [mtB_iff]
  unfold vA
  by_cases h6 : 6 < e - s
  · rw [if_pos h6]
    constructor
    · rintro ⟨h1, _⟩
      omega
    · intro h9
      exact absurd h9 (by decide)
  · rw [if_neg h6]
    have hj : e - s ≤ 6 := by omega
    have hd := pd_dig (c := c) (s := s) (N := 437853486) (d0 := 13) (d1 := 1) (d2 := 18) (d3 := 7) (d4 := 9) (d5 := 14) hj hc (by decide) (by decide) (by decide) (by decide) (by decide) (by decide) (by decide)
    have hl := cd_lt hj hc
    have hv : nI (cdA c s (e - s)) = 437853486 ↔ cdA c s (e - s) = 437853486 := nI_eq (b := 437853486) (by omega) (by decide)
    rw [hv, hd]
    constructor
    · rintro ⟨h1, h2⟩
      have g0 : c (s + 0) = 109 := (nI_eq (by have := hc 0 (by omega); omega) (by decide)).mp ((h2 0 (by decide)).trans (show wch (27 + 0) = nI 109 from rfl))
      have g1 : c (s + 1) = 97 := (nI_eq (by have := hc 1 (by omega); omega) (by decide)).mp ((h2 1 (by decide)).trans (show wch (27 + 1) = nI 97 from rfl))
      have g2 : c (s + 2) = 114 := (nI_eq (by have := hc 2 (by omega); omega) (by decide)).mp ((h2 2 (by decide)).trans (show wch (27 + 2) = nI 114 from rfl))
      have g3 : c (s + 3) = 103 := (nI_eq (by have := hc 3 (by omega); omega) (by decide)).mp ((h2 3 (by decide)).trans (show wch (27 + 3) = nI 103 from rfl))
      have g4 : c (s + 4) = 105 := (nI_eq (by have := hc 4 (by omega); omega) (by decide)).mp ((h2 4 (by decide)).trans (show wch (27 + 4) = nI 105 from rfl))
      have g5 : c (s + 5) = 110 := (nI_eq (by have := hc 5 (by omega); omega) (by decide)).mp ((h2 5 (by decide)).trans (show wch (27 + 5) = nI 110 from rfl))
      unfold pdA
      refine ⟨?_, ?_, ?_, ?_, ?_, ?_⟩
      · rw [if_pos (by omega), g0]
      · rw [if_pos (by omega), g1]
      · rw [if_pos (by omega), g2]
      · rw [if_pos (by omega), g3]
      · rw [if_pos (by omega), g4]
      · rw [if_pos (by omega), g5]
    · rintro ⟨h0, h1, h2, h3, h4, h5⟩
      have g0 := pd_pos h0 (by decide) hc
      have g1 := pd_pos h1 (by decide) hc
      have g2 := pd_pos h2 (by decide) hc
      have g3 := pd_pos h3 (by decide) hc
      have g4 := pd_pos h4 (by decide) hc
      have g5 := pd_pos h5 (by decide) hc
      refine ⟨by omega, fun q hq => ?_⟩
      rcases (show q = 0 ∨ q = 1 ∨ q = 2 ∨ q = 3 ∨ q = 4 ∨ q = 5 by omega) with rfl | rfl | rfl | rfl | rfl | rfl
      · rw [g0.2]; rfl
      · rw [g1.2]; rfl
      · rw [g2.2]; rfl
      · rw [g3.2]; rfl
      · rw [g4.2]; rfl
      · rw [g5.2]; rfl
theorem wd_6 {s e : Nat} (hse : s < e) (h : ∀ i, s ≤ i → i < e → 97 ≤ c i ∧ c i ≤ 122) : mtB c s e 34 4 = true ↔ vA c s e = 626398208 := by
  have hc : ∀ i, i < e - s → 97 ≤ c (s + i) ∧ c (s + i) ≤ 122 := fun i hi => h (s + i) (by omega) (by omega)
  rw [mtB_iff]
  unfold vA
  by_cases h6 : 6 < e - s
  · rw [if_pos h6]
    constructor
    · rintro ⟨h1, _⟩
      omega
    · intro h9
      exact absurd h9 (by decide)
  · rw [if_neg h6]
    have hj : e - s ≤ 6 := by omega
    have hd := pd_dig (c := c) (s := s) (N := 626398208) (d0 := 18) (d1 := 21) (d2 := 12) (d3 := 5) (d4 := 0) (d5 := 0) hj hc (by decide) (by decide) (by decide) (by decide) (by decide) (by decide) (by decide)
    have hl := cd_lt hj hc
    have hv : nI (cdA c s (e - s)) = 626398208 ↔ cdA c s (e - s) = 626398208 := nI_eq (b := 626398208) (by omega) (by decide)
    rw [hv, hd]
    constructor
    · rintro ⟨h1, h2⟩
      have g0 : c (s + 0) = 114 := (nI_eq (by have := hc 0 (by omega); omega) (by decide)).mp ((h2 0 (by decide)).trans (show wch (34 + 0) = nI 114 from rfl))
      have g1 : c (s + 1) = 117 := (nI_eq (by have := hc 1 (by omega); omega) (by decide)).mp ((h2 1 (by decide)).trans (show wch (34 + 1) = nI 117 from rfl))
      have g2 : c (s + 2) = 108 := (nI_eq (by have := hc 2 (by omega); omega) (by decide)).mp ((h2 2 (by decide)).trans (show wch (34 + 2) = nI 108 from rfl))
      have g3 : c (s + 3) = 101 := (nI_eq (by have := hc 3 (by omega); omega) (by decide)).mp ((h2 3 (by decide)).trans (show wch (34 + 3) = nI 101 from rfl))
      unfold pdA
      refine ⟨?_, ?_, ?_, ?_, ?_, ?_⟩
      · rw [if_pos (by omega), g0]
      · rw [if_pos (by omega), g1]
      · rw [if_pos (by omega), g2]
      · rw [if_pos (by omega), g3]
      · rw [if_neg (by omega)]
      · rw [if_neg (by omega)]
    · rintro ⟨h0, h1, h2, h3, h4, h5⟩
      have g0 := pd_pos h0 (by decide) hc
      have g1 := pd_pos h1 (by decide) hc
      have g2 := pd_pos h2 (by decide) hc
      have g3 := pd_pos h3 (by decide) hc
      have z := pd_zero h4 hc
      refine ⟨by omega, fun q hq => ?_⟩
      rcases (show q = 0 ∨ q = 1 ∨ q = 2 ∨ q = 3 by omega) with rfl | rfl | rfl | rfl
      · rw [g0.2]; rfl
      · rw [g1.2]; rfl
      · rw [g2.2]; rfl
      · rw [g3.2]; rfl
theorem wi_v {s e : Nat} (hse : s < e) (h : ∀ i, s ≤ i → i < e → 97 ≤ c i ∧ c i ≤ 122) : wiA c s e = wiX (vA c s e) := by
  unfold wiA wiX
  simp only [wd_0 hse h, wd_1 hse h, wd_2 hse h, wd_3 hse h, wd_4 hse h, wd_5 hse h, wd_6 hse h]
theorem vA_zero {s e : Nat} (hse : s < e) (h : ∀ i, s ≤ i → i < e → 97 ≤ c i ∧ c i ≤ 122) : vA c s e = 0 ↔ 6 < e - s := by
  have hc : ∀ i, i < e - s → 97 ≤ c (s + i) ∧ c (s + i) ≤ 122 := fun i hi => h (s + i) (by omega) (by omega)
  unfold vA
  by_cases h6 : 6 < e - s
  · rw [if_pos h6]
    exact ⟨fun _ => h6, fun _ => rfl⟩
  · rw [if_neg h6]
    have h1 := cd_lt (by omega) hc
    have h2 := cd_pos (by omega) (by omega) hc
    constructor
    · intro h9
      exact absurd h9 (nI_ne0 h2 (by omega))
    · intro h9; omega
theorem nu_rel {s : Nat} : ∀ (j : Nat), (∀ i, i < j → 48 ≤ c (s + i) ∧ c (s + i) ≤ 57) → nuX c s j ≤ 1000009 ∧ nuM c s j ≤ 1000009 ∧ (nuX c s j = nuM c s j ∨ (100000 ≤ nuX c s j ∧ 100000 ≤ nuM c s j))
  | 0, _ => ⟨by show 0 ≤ _; omega, by show 0 ≤ _; omega, Or.inl rfl⟩
  | j + 1, h => by
    obtain ⟨h1, h2, h3⟩ := nu_rel j (fun i hi => h i (by omega))
    have h4 := h j (by omega)
    have e1 : nuX c s (j + 1) = if nuX c s j < 100000 then nuX c s j * 10 + (c (s + j) - 48) else nuX c s j := rfl
    have e2 : nuM c s (j + 1) = if 100000 < nuM c s j then nuM c s j else 10 * nuM c s j + (c (s + j) - 48) := rfl
    rw [e1, e2]
    by_cases a1 : nuX c s j < 100000
    · rw [if_pos a1]
      by_cases a2 : 100000 < nuM c s j
      · rw [if_pos a2]; omega
      · rw [if_neg a2]; omega
    · rw [if_neg a1]
      by_cases a2 : 100000 < nuM c s j
      · rw [if_pos a2]; omega
      · rw [if_neg a2]; omega
end TOK
