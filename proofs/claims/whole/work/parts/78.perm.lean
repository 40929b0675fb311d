/-! orders: the next one, all of them -/
def riA (o : Nat → Nat) : Nat → Option Nat
  | 0 => none
  | i + 1 => if o (i + 1) < o i then riA o i else some i
def grA (o : Nat → Nat) (x : Nat) : Nat → Nat
  | 0 => 0
  | j + 1 => if o (j + 1) < x then grA o x j else j + 1
def swA (o : Nat → Nat) (i j : Nat) : Nat → Nat := fun k => if k = j then o i else if k = i then o j else o k
def rvA : Nat → Nat → Nat → (Nat → Nat) → Nat → Nat
  | 0, _, _, o => o
  | c + 1, a, b, o => if a < b then rvA c (a + 1) (b - 1) (swA o a b) else o
def nxA (n : Nat) (o : Nat → Nat) : Option (Nat → Nat) := match riA o (n - 1) with
  | none => none
  | some i => some (rvA 6 (i + 1) (n - 1) (swA o i (grA o (o i) (n - 1))))
def tmA (n : Nat) : Nat → (Nat → Nat) → Bool
  | 0, _ => false
  | c + 1, o => match nxA n o with
    | none => true
    | some o' => tmA n c o'
def cdO (o : Nat → Nat) : Nat := o 0 + 8 * (o 1 + 8 * (o 2 + 8 * (o 3 + 8 * (o 4 + 8 * o 5))))
def dcO (s : Nat) (i : Nat) : Nat := s / 8 ^ i % 8
def tmN (n : Nat) : Nat → Nat → Bool
  | 0, _ => false
  | c + 1, 0 => match nxA n (dcO 0) with
    | none => true
    | some o' => tmN n c (cdO o')
  | c + 1, s + 1 => match nxA n (dcO (s + 1)) with
    | none => true
    | some o' => tmN n c (cdO o')
theorem tmN_S (n c s : Nat) : tmN n (c + 1) s = match nxA n (dcO s) with
    | none => true
    | some o' => tmN n c (cdO o') := by
  cases s <;> rfl
section PERM
variable {o o' : Nat → Nat} {n : Nat}
theorem ri_cg : ∀ m, (∀ i, i ≤ m → o' i = o i) → riA o' m = riA o m
  | 0, _ => rfl
  | m + 1, h => by
    unfold riA
    rw [h (m + 1) (by omega), h m (by omega), ri_cg m (fun i hi => h i (by omega))]
theorem gr_cg {x : Nat} : ∀ m, (∀ i, i ≤ m → o' i = o i) → grA o' x m = grA o x m
  | 0, _ => rfl
  | m + 1, h => by
    unfold grA
    rw [h (m + 1) (by omega), gr_cg m (fun i hi => h i (by omega))]
theorem gr_le {x : Nat} : ∀ m, grA o x m ≤ m
  | 0 => Nat.le_refl _
  | m + 1 => by
    unfold grA
    have := gr_le (x := x) m
    split <;> omega
theorem ri_lt {i : Nat} : ∀ m, riA o m = some i → i < m ∧ ¬ o (i + 1) < o i
  | 0, h => by cases h
  | m + 1, h => by
    unfold riA at h
    split at h
    · have := ri_lt m h
      exact ⟨by omega, this.2⟩
    · cases h
      exact ⟨by omega, by assumption⟩
theorem gr_gt {i : Nat} (h : ¬ o (i + 1) < o i) : ∀ m, i < m → i < grA o (o i) m
  | 0, hm => by omega
  | m + 1, hm => by
    unfold grA
    by_cases e : m = i
    · subst e
      rw [if_neg h]
      omega
    · split
      · exact gr_gt h m (by omega)
      · omega
theorem sw_cg {a b : Nat} (ha : a < n) (hb : b < n) (h : ∀ i, i < n → o' i = o i) : ∀ i, i < n → swA o' a b i = swA o a b i := by
  intro i hi
  unfold swA
  rw [h a ha, h b hb, h i hi]
theorem rv_cg : ∀ (c a b : Nat) (o o' : Nat → Nat), b < n → (∀ i, i < n → o' i = o i) → ∀ i, i < n → rvA c a b o' i = rvA c a b o i
  | 0, a, b, o, o', _, h => h
  | c + 1, a, b, o, o', hb, h => by
    intro i hi
    unfold rvA
    by_cases e : a < b
    · rw [if_pos e, if_pos e]
      exact rv_cg c (a + 1) (b - 1) _ _ (by omega) (sw_cg (by omega) hb h) i hi
    · rw [if_neg e, if_neg e]
      exact h i hi
/-- numbers below n alone count -/
theorem nx_cg (h : ∀ i, i < n → o' i = o i) : (nxA n o = none ∧ nxA n o' = none) ∨ ∃ p p', nxA n o = some p ∧ nxA n o' = some p' ∧ ∀ i, i < n → p' i = p i := by
  by_cases hn : n = 0
  · subst hn
    exact Or.inl ⟨rfl, rfl⟩
  · have e1 : riA o' (n - 1) = riA o (n - 1) := ri_cg _ (fun i hi => h i (by omega))
    unfold nxA
    rw [e1]
    cases hr : riA o (n - 1) with
    | none => exact Or.inl ⟨rfl, rfl⟩
    | some i =>
      have hi := (ri_lt _ hr).1
      refine Or.inr ⟨_, _, rfl, rfl, ?_⟩
      rw [h i (by omega), gr_cg (n - 1) (fun j hj => h j (by omega))]
      have hg := gr_le (o := o) (x := o i) (n - 1)
      exact rv_cg _ _ _ _ _ (by omega) (sw_cg (by omega) (by omega) h)
theorem tm_cg : ∀ (c : Nat) (o o' : Nat → Nat), (∀ i, i < n → o' i = o i) → tmA n c o' = tmA n c o
  | 0, _, _, _ => rfl
  | c + 1, o, o', h => by
    unfold tmA
    rcases nx_cg h with ⟨h1, h2⟩ | ⟨p, p', h1, h2, h3⟩
    · rw [h1, h2]
    · rw [h1, h2]
      exact tm_cg c p p' h3
theorem dc_cd {x y : Nat} (h : x < 8) (i : Nat) : dcO (x + 8 * y) (i + 1) = dcO y i ∧ dcO (x + 8 * y) 0 = x := by
  unfold dcO
  constructor
  · rw [Nat.pow_succ, Nat.mul_comm (8 ^ i) 8, ← Nat.div_div_eq_div_mul, show (x + 8 * y) / 8 = y by omega]
  · rw [Nat.pow_zero, Nat.div_one]
    omega
theorem dc_o (hn : n ≤ 6) (h : ∀ i, i < 6 → o i < 8) : ∀ i, i < n → dcO (cdO o) i = o i := by
  intro i hi
  unfold cdO
  have h0 := h 0 (by omega)
  have h1 := h 1 (by omega)
  have h2 := h 2 (by omega)
  have h3 := h 3 (by omega)
  have h4 := h 4 (by omega)
  have h5 := h 5 (by omega)
  have hl : dcO (o 5) 0 = o 5 := by
    unfold dcO
    rw [Nat.pow_zero, Nat.div_one]
    omega
  rcases (show i = 0 ∨ i = 1 ∨ i = 2 ∨ i = 3 ∨ i = 4 ∨ i = 5 by omega) with rfl | rfl | rfl | rfl | rfl | rfl
  · exact (dc_cd h0 0).2
  · rw [(dc_cd h0 0).1]; exact (dc_cd h1 0).2
  · rw [(dc_cd h0 1).1, (dc_cd h1 0).1]; exact (dc_cd h2 0).2
  · rw [(dc_cd h0 2).1, (dc_cd h1 1).1, (dc_cd h2 0).1]; exact (dc_cd h3 0).2
  · rw [(dc_cd h0 3).1, (dc_cd h1 2).1, (dc_cd h2 1).1, (dc_cd h3 0).1]; exact (dc_cd h4 0).2
  · rw [(dc_cd h0 4).1, (dc_cd h1 3).1, (dc_cd h2 2).1, (dc_cd h3 1).1, (dc_cd h4 0).1]; exact hl
theorem sw_lt {a b N : Nat} (h : ∀ i, i < n → o i < N) (ha : a < n) (hb : b < n) : ∀ i, i < n → swA o a b i < N := by
  intro i hi
  unfold swA
  split
  · exact h a ha
  · split
    · exact h b hb
    · exact h i hi
theorem rv_lt {N : Nat} : ∀ (c a b : Nat) (o : Nat → Nat), b < n → (∀ i, i < n → o i < N) → ∀ i, i < n → rvA c a b o i < N
  | 0, a, b, o, _, h => h
  | c + 1, a, b, o, hb, h => by
    intro i hi
    unfold rvA
    by_cases e : a < b
    · rw [if_pos e]
      exact rv_lt c (a + 1) (b - 1) _ (by omega) (sw_lt h (by omega) hb) i hi
    · rw [if_neg e]
      exact h i hi
theorem nx_lt {m N : Nat} (hm : n ≤ m) (h : ∀ i, i < m → o i < N) {p : Nat → Nat} (hp : nxA n o = some p) : ∀ i, i < m → p i < N := by
  unfold nxA at hp
  cases hr : riA o (n - 1) with
  | none => rw [hr] at hp; cases hp
  | some i =>
    rw [hr] at hp
    cases hp
    have hi := (ri_lt _ hr).1
    have hg := gr_le (o := o) (x := o i) (n - 1)
    exact rv_lt _ _ _ _ (by omega) (sw_lt h (by omega) (by omega))
theorem tm_N (hn : n ≤ 6) : ∀ (c s : Nat), tmN n c s = true → tmA n c (dcO s) = true
  | 0, s, h => by cases h
  | c + 1, s, h => by
    rw [tmN_S] at h
    unfold tmA
    cases hx : nxA n (dcO s) with
    | none => rfl
    | some p =>
      rw [hx] at h
      have h8 : ∀ i, i < 6 → p i < 8 := nx_lt hn (fun i _ => Nat.mod_lt _ (by decide)) hx
      have h9 := tm_N hn c (cdO p) h
      rw [tm_cg c p _ (dc_o hn h8)] at h9
      exact h9
theorem tm_id (hn : n ≤ 6) : tmA n 720 (fun i => i) = true := by
  have h8 : ∀ i, i < n → dcO (cdO (fun i => i)) i = i := dc_o (o := fun i => i) hn (fun i hi => by omega)
  have h9 : tmN n 720 (cdO (fun i => i)) = true := by
    rcases (show n = 0 ∨ n = 1 ∨ n = 2 ∨ n = 3 ∨ n = 4 ∨ n = 5 ∨ n = 6 by omega) with rfl | rfl | rfl | rfl | rfl | rfl | rfl <;> decide +kernel
  have := tm_N hn _ _ h9
  rw [tm_cg 720 (fun i => i) _ h8] at this
  exact this
end PERM
def oF (F : Fg) (o : Nat → Nat) : Fg := fun c i => if c = 10 then o i else F c i
def Pm (n : Nat) (o : Nat → Nat) : Prop := (∀ i, i < n → o i < n) ∧ (∀ i j, i < n → j < n → o i = o j → i = j) ∧ (∀ k, k < n → ∃ i, i < n ∧ o i = k)
theorem pm_sw {n a b : Nat} {o : Nat → Nat} (h : Pm n o) (ha : a < n) (hb : b < n) : Pm n (swA o a b) := by
  have key : ∀ i, swA o a b i = o (if i = b then a else if i = a then b else i) := by
    intro i
    unfold swA
    split
    · rfl
    · split <;> rfl
  have inv : ∀ i, i < n → (if i = b then a else if i = a then b else i) < n := fun i hi => by
    split
    · exact ha
    · split
      · exact hb
      · exact hi
  refine ⟨fun i hi => ?_, fun i j hi hj he => ?_, fun k hk => ?_⟩
  · rw [key]; exact h.1 _ (inv i hi)
  · rw [key, key] at he
    have := h.2.1 _ _ (inv i hi) (inv j hj) he
    split at this <;> split at this <;> (try split at this) <;> (try split at this) <;> omega
  · obtain ⟨i, hi, e⟩ := h.2.2 k hk
    refine ⟨if i = b then a else if i = a then b else i, inv i hi, ?_⟩
    rw [key]
    rw [← e]
    congr 1
    by_cases h1 : i = b
    · rw [if_pos h1]
      by_cases h2 : a = b
      · rw [if_pos h2]; omega
      · rw [if_neg h2, if_pos rfl]; omega
    · rw [if_neg h1]
      by_cases h2 : i = a
      · rw [if_pos h2, if_pos rfl]; omega
      · rw [if_neg h2, if_neg h1, if_neg h2]
theorem pm_rv {n : Nat} : ∀ (c a b : Nat) (o : Nat → Nat), b < n → Pm n o → Pm n (rvA c a b o)
  | 0, a, b, o, _, h => h
  | c + 1, a, b, o, hb, h => by
    unfold rvA
    by_cases e : a < b
    · rw [if_pos e]
      exact pm_rv c (a + 1) (b - 1) _ (by omega) (pm_sw h (by omega) hb)
    · rw [if_neg e]
      exact h
theorem pm_nx {n : Nat} {o p : Nat → Nat} (h : Pm n o) (hp : nxA n o = some p) : Pm n p := by
  unfold nxA at hp
  cases hr : riA o (n - 1) with
  | none => rw [hr] at hp; cases hp
  | some i =>
    rw [hr] at hp
    cases hp
    have hi := (ri_lt _ hr).1
    have hg := gr_le (o := o) (x := o i) (n - 1)
    exact pm_rv _ _ _ _ (by omega) (pm_sw h (by omega) (by omega))
theorem ok_oF {F : Fg} {o : Nat → Nat} (hO : OkF F) (h : Pm (F 0 0) o) : OkF (oF F o) := by
  obtain ⟨h1, h2, h3, h4, h5, h6, h7, h8, h9⟩ := hO
  refine ⟨h1, h2, fun i hi => ?_, fun i j hi hj he => h.2.1 i j hi hj he, h5, h6, h7, h8, fun k hk => h.2.2 k hk⟩
  obtain ⟨a1, a2, a3, a4, -⟩ := h3 i hi
  exact ⟨a1, a2, a3, a4, h.1 i hi⟩
theorem ok_pm {F : Fg} (hO : OkF F) : Pm (F 0 0) (F 10) := ⟨fun i hi => ord_lt hO hi, hO.2.2.2.1, hO.2.2.2.2.2.2.2.2⟩
def stA (F : Fg) (o : Nat → Nat) (s : Option Nat × Nat × (Nat → Nat)) : Option Nat × Nat × (Nat → Nat) := match fnA (oF F o) 480 with
  | none => s
  | some e => match s.1 with
    | none => (some e, 1, o)
    | some m => if e < m then (some e, 1, o) else if e = m then (some m, s.2.1 + 1, s.2.2) else s
def trA (F : Fg) : Nat → (Nat → Nat) → Option Nat × Nat × (Nat → Nat) → Option Nat × Nat × (Nat → Nat)
  | 0, _, s => s
  | c + 1, o, s => match nxA (F 0 0) o with
    | none => stA F o s
    | some o' => trA F c o' (stA F o s)
def bsA (F : Fg) : Option Nat × Nat × (Nat → Nat) := trA F 720 (fun i => i) (none, 0, fun i => i)
