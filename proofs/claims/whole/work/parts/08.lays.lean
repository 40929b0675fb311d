def sgC (b n : Nat) : Sg := (fun j => b + j, fun k => cond (Nat.ble b k && Nat.blt k (b + n)) (some (k - b)) none)
theorem sgC_inv {b n k j : Nat} (h : (sgC b n).2 k = some j) : b + j = k ∧ j < n := by
  unfold sgC at h
  dsimp only at h
  cases hc : (Nat.ble b k && Nat.blt k (b + n)) with
  | false => rw [hc] at h; cases h
  | true =>
    rw [hc] at h
    cases h
    simp only [Bool.and_eq_true] at hc
    have h1 := Nat.le_of_ble_eq_true hc.1
    have h2 : k < b + n := Nat.le_of_ble_eq_true hc.2
    omega
theorem sgC_get {b n j : Nat} (h : j < n) : (sgC b n).2 (b + j) = some j := by
  have h1 : Nat.ble b (b + j) = true := Nat.ble_eq_true_of_le (Nat.le_add_right b j)
  have h2 : Nat.blt (b + j) (b + n) = true := Nat.ble_eq_true_of_le (by omega)
  simp only [sgC, h1, h2, Bool.and_self, cond_true, Option.some.injEq]
  omega
theorem cmpC {lay layC : List Shp} (b : Nat) (h : (List.range layC.length).all (fun j => decide (lay[b + j]? = (layC[j]?).map (rnS (fun j => b + j)))) = true) : Cmp lay layC (sgC b layC.length) := by
  refine ⟨fun j sh hj => ?_, fun j hj => sgC_get hj, fun k j hk => sgC_inv hk⟩
  have h1 := List.all_eq_true.mp h j (List.mem_range.mpr (List.getElem?_eq_some_iff.mp hj).1)
  rw [decide_eq_true_eq, hj] at h1
  exact h1
def sg2 (b1 b2 n : Nat) : Sg := (fun j => cond (Nat.blt j n) (b1 + j) (b2 + (j - n)), fun k => cond (Nat.ble b1 k && Nat.blt k (b1 + n)) (some (k - b1)) (cond (Nat.ble b2 k && Nat.blt k (b2 + n)) (some (k - b2 + n)) none))
theorem cmp2 {lay layC : List Shp} (b1 b2 : Nat) {n : Nat} (hn : layC.length = n + n ∧ (b1 + n ≤ b2 ∨ b2 + n ≤ b1)) (h : (List.range layC.length).all (fun j => decide (lay[(sg2 b1 b2 n).1 j]? = (layC[j]?).map (rnS (sg2 b1 b2 n).1))) = true) : Cmp lay layC (sg2 b1 b2 n) := by
  refine ⟨fun j sh hj => ?_, fun j hj => ?_, fun k j hk => ?_⟩
  · have h1 := List.all_eq_true.mp h j (List.mem_range.mpr (List.getElem?_eq_some_iff.mp hj).1)
    rw [decide_eq_true_eq, hj] at h1
    exact h1
  · rw [hn.1] at hj
    unfold sg2
    dsimp only
    by_cases h1 : j < n
    · have e1 : Nat.blt j n = true := Nat.ble_eq_true_of_le h1
      have e2 : Nat.ble b1 (b1 + j) = true := Nat.ble_eq_true_of_le (by omega)
      have e3 : Nat.blt (b1 + j) (b1 + n) = true := Nat.ble_eq_true_of_le (by omega)
      simp only [e1, cond_true, e2, e3, Bool.and_self, Option.some.injEq]
      omega
    · have e1 : Nat.blt j n = false := by
        cases hb : Nat.blt j n with
        | false => rfl
        | true => exact absurd (Nat.le_of_ble_eq_true hb) h1
      have e4 : Nat.ble b2 (b2 + (j - n)) = true := Nat.ble_eq_true_of_le (by omega)
      have e5 : Nat.blt (b2 + (j - n)) (b2 + n) = true := Nat.ble_eq_true_of_le (by omega)
      have e6 : (Nat.ble b1 (b2 + (j - n)) && Nat.blt (b2 + (j - n)) (b1 + n)) = false := by
        cases hb : (Nat.ble b1 (b2 + (j - n)) && Nat.blt (b2 + (j - n)) (b1 + n)) with
        | false => rfl
        | true =>
          simp only [Bool.and_eq_true] at hb
          have g1 := Nat.le_of_ble_eq_true hb.1
          have g2 : b2 + (j - n) < b1 + n := Nat.le_of_ble_eq_true hb.2
          omega
      simp only [e1, cond_false, e6, e4, e5, Bool.and_self, cond_true, Option.some.injEq]
      omega
  · unfold sg2 at hk ⊢
    dsimp only at hk ⊢
    cases hc : (Nat.ble b1 k && Nat.blt k (b1 + n)) with
    | true =>
      rw [hc] at hk
      cases hk
      simp only [Bool.and_eq_true] at hc
      have g1 := Nat.le_of_ble_eq_true hc.1
      have g2 : k < b1 + n := Nat.le_of_ble_eq_true hc.2
      have e1 : Nat.blt (k - b1) n = true := Nat.ble_eq_true_of_le (show k - b1 < n by omega)
      rw [e1, hn.1, cond_true]
      omega
    | false =>
      rw [hc, cond_false] at hk
      cases hd : (Nat.ble b2 k && Nat.blt k (b2 + n)) with
      | false => rw [hd] at hk; cases hk
      | true =>
        rw [hd] at hk
        cases hk
        simp only [Bool.and_eq_true] at hd
        have g1 := Nat.le_of_ble_eq_true hd.1
        have g2 : k < b2 + n := Nat.le_of_ble_eq_true hd.2
        have e1 : Nat.blt (k - b2 + n) n = false := by
          cases hb : Nat.blt (k - b2 + n) n with
          | false => rfl
          | true => exact absurd (show k - b2 + n < n from Nat.le_of_ble_eq_true hb) (by omega)
        rw [e1, hn.1, cond_false]
        omega
def sg0 : Sg := (fun j => j, fun _ => none)
def sgH : Sg := (fun j => cond (Nat.beq j 0) 1 68, fun k => cond (Nat.beq k 1) (some 0) none)
def layF : List Shp := [.inr (2, [none, none, some 1, some 2, some 3, some 4, some 5, some 6, some 7, some 8, some 9, some 10]), .inl (0, 6), .inl (0, 6), .inl (0, 6), .inl (0, 6), .inl (0, 30), .inl (0, 30), .inl (0, 3), .inl (0, 3), .inl (0, 3), .inl (0, 6)]
def layR : List Shp := [.inr (5, [some 12, some 1, some 2, some 3, some 4, some 5, some 6, some 7, some 8, some 9, some 10, some 11, none]), .inl (0, 6), .inl (0, 6), .inl (0, 6), .inl (0, 6), .inl (0, 6), .inl (0, 6), .inl (0, 6), .inl (0, 6), .inl (0, 6), .inl (0, 3), .inl (0, 3), .inr (2, [none, none, some 13, some 14, some 15, some 16, some 17, some 18, some 19, some 20, some 21, some 22]), .inl (0, 6), .inl (0, 6), .inl (0, 6), .inl (0, 6), .inl (0, 30), .inl (0, 30), .inl (0, 3), .inl (0, 3), .inl (0, 3), .inl (0, 6)]
def layL : List Shp := [.inr (3, [some 16, some 4, some 1, some 2, some 3]), .inl (0, 2886), .inl (0, 2886), .inl (0, 2880), .inr (5, [some 16, some 5, some 6, some 7, some 8, some 9, some 10, some 11, some 12, some 13, some 14, some 15, none]), .inl (0, 6), .inl (0, 6), .inl (0, 6), .inl (0, 6), .inl (0, 6), .inl (0, 6), .inl (0, 6), .inl (0, 6), .inl (0, 6), .inl (0, 3), .inl (0, 3), .inr (2, [none, none, some 17, some 18, some 19, some 20, some 21, some 22, some 23, some 24, some 25, some 26]), .inl (0, 6), .inl (0, 6), .inl (0, 6), .inl (0, 6), .inl (0, 30), .inl (0, 30), .inl (0, 3), .inl (0, 3), .inl (0, 3), .inl (0, 6)]
def layB : List Shp := [.inr (0, [some 1, none, none]), .inl (0, 6), .inr (5, [some 14, some 3, some 4, some 5, some 6, some 7, some 8, some 9, some 10, some 11, some 12, some 13, none]), .inl (0, 6), .inl (0, 6), .inl (0, 6), .inl (0, 6), .inl (0, 6), .inl (0, 6), .inl (0, 6), .inl (0, 6), .inl (0, 6), .inl (0, 3), .inl (0, 3), .inr (2, [none, none, some 15, some 16, some 17, some 18, some 19, some 20, some 21, some 22, some 23, some 24]), .inl (0, 6), .inl (0, 6), .inl (0, 6), .inl (0, 6), .inl (0, 30), .inl (0, 30), .inl (0, 3), .inl (0, 3), .inl (0, 3), .inl (0, 6)]
def layD : List Shp := [.inr (4, [some 1, some 3, some 2, none, none, none, none, none, none, none, none]), .inl (1, 900), .inl (2, 3), .inr (2, [none, none, some 4, some 5, some 6, some 7, some 8, some 9, some 10, some 11, some 12, some 13]), .inl (0, 6), .inl (0, 6), .inl (0, 6), .inl (0, 6), .inl (0, 30), .inl (0, 30), .inl (0, 3), .inl (0, 3), .inl (0, 3), .inl (0, 6)]
def layM : List Shp := [.inr (7, [none, some 1, none, some 2, some 3, some 4, some 5, some 6, none, none, none, none, none, none, none, none, none, none, none, none, some 7, none, none, none, some 8, some 9, some 10, some 11, some 12, some 13, some 14, some 15, some 16, some 17, some 18, some 19, some 20, none, none, some 21, none, none]), .inl (0, 900), .inl (0, 20), .inl (0, 20), .inl (0, 81), .inl (0, 81), .inl (0, 972), .inl (0, 6), .inl (0, 6), .inl (0, 6), .inl (0, 6), .inl (0, 6), .inl (0, 6), .inl (0, 6), .inl (0, 6), .inl (0, 2886), .inl (0, 2880), .inl (0, 2886), .inl (0, 6), .inl (0, 6), .inl (0, 6), .inl (0, 6)]
def layX : List Shp := [.inr (6, [some 32, some 1, some 2, some 16, some 43, some 57, some 45, none, none]), .inr (1, [some 68, none, none]), .inr (4, [some 3, some 5, some 4, none, none, none, none, none, none, none, none]), .inl (1, 900), .inl (2, 3), .inr (2, [none, none, some 6, some 7, some 8, some 9, some 10, some 11, some 12, some 13, some 14, some 15]), .inl (0, 6), .inl (0, 6), .inl (0, 6), .inl (0, 6), .inl (0, 30), .inl (0, 30), .inl (0, 3), .inl (0, 3), .inl (0, 3), .inl (0, 6), .inr (3, [some 32, some 20, some 17, some 18, some 19]), .inl (0, 2886), .inl (0, 2886), .inl (0, 2880), .inr (5, [some 32, some 21, some 22, some 23, some 24, some 25, some 26, some 27, some 28, some 29, some 30, some 31, none]), .inl (0, 6), .inl (0, 6), .inl (0, 6), .inl (0, 6), .inl (0, 6), .inl (0, 6), .inl (0, 6), .inl (0, 6), .inl (0, 6), .inl (0, 3), .inl (0, 3), .inr (2, [none, none, some 33, some 34, some 35, some 36, some 37, some 38, some 39, some 40, some 41, some 42]), .inl (0, 6), .inl (0, 6), .inl (0, 6), .inl (0, 6), .inl (0, 30), .inl (0, 30), .inl (0, 3), .inl (0, 3), .inl (0, 3), .inl (0, 6), .inr (0, [some 44, none, none]), .inl (0, 6), .inr (5, [some 57, some 46, some 47, some 48, some 49, some 50, some 51, some 52, some 53, some 54, some 55, some 56, none]), .inl (0, 6), .inl (0, 6), .inl (0, 6), .inl (0, 6), .inl (0, 6), .inl (0, 6), .inl (0, 6), .inl (0, 6), .inl (0, 6), .inl (0, 3), .inl (0, 3), .inr (2, [none, none, some 58, some 59, some 60, some 61, some 62, some 63, some 64, some 65, some 66, some 67]), .inl (0, 6), .inl (0, 6), .inl (0, 6), .inl (0, 6), .inl (0, 30), .inl (0, 30), .inl (0, 3), .inl (0, 3), .inl (0, 3), .inl (0, 6)]
def layFF : List Shp := [.inr (2, [none, none, some 1, some 2, some 3, some 4, some 5, some 6, some 7, some 8, some 9, some 10]), .inl (0, 6), .inl (0, 6), .inl (0, 6), .inl (0, 6), .inl (0, 30), .inl (0, 30), .inl (0, 3), .inl (0, 3), .inl (0, 3), .inl (0, 6), .inr (2, [none, none, some 12, some 13, some 14, some 15, some 16, some 17, some 18, some 19, some 20, some 21]), .inl (0, 6), .inl (0, 6), .inl (0, 6), .inl (0, 6), .inl (0, 30), .inl (0, 30), .inl (0, 3), .inl (0, 3), .inl (0, 3), .inl (0, 6)]
def lay0 : List Shp := []
def layC : List Shp := [.inr (1, [some 1, none, none])]
theorem cmp0 {lay : List Shp} : Cmp lay lay0 sg0 := ⟨fun j sh h => by simp [lay0] at h, fun j h => by simp [lay0] at h, fun k j h => by cases h⟩
theorem cmp_layB_sgC_14_11 : Cmp layB layF (sgC 14 11) := cmpC (lay := layB) (layC := layF) 14 (by decide +kernel)
theorem cmp_layB_sgC_2_23 : Cmp layB layR (sgC 2 23) := cmpC (lay := layB) (layC := layR) 2 (by decide +kernel)
theorem cmp_layD_sg0 : Cmp layD lay0 sg0 := cmp0
theorem cmp_layD_sgC_3_11 : Cmp layD layF (sgC 3 11) := cmpC (lay := layD) (layC := layF) 3 (by decide +kernel)
theorem cmp_layL_sgC_4_23 : Cmp layL layR (sgC 4 23) := cmpC (lay := layL) (layC := layR) 4 (by decide +kernel)
theorem cmp_layM_sg0 : Cmp layM lay0 sg0 := cmp0
theorem cmp_layR_sgC_12_11 : Cmp layR layF (sgC 12 11) := cmpC (lay := layR) (layC := layF) 12 (by decide +kernel)
theorem cmp_layX_sg0 : Cmp layX lay0 sg0 := cmp0
theorem cmp_layX_sg2_32_5_11 : Cmp layX layFF (sg2 32 5 11) := cmp2 (lay := layX) (layC := layFF) 32 5 (by decide +kernel) (by decide +kernel)
theorem cmp_layX_sg2_57_32_11 : Cmp layX layFF (sg2 57 32 11) := cmp2 (lay := layX) (layC := layFF) 57 32 (by decide +kernel) (by decide +kernel)
theorem cmp_layX_sgC_16_27 : Cmp layX layL (sgC 16 27) := cmpC (lay := layX) (layC := layL) 16 (by decide +kernel)
theorem cmp_layX_sgC_20_23 : Cmp layX layR (sgC 20 23) := cmpC (lay := layX) (layC := layR) 20 (by decide +kernel)
theorem cmp_layX_sgC_2_14 : Cmp layX layD (sgC 2 14) := cmpC (lay := layX) (layC := layD) 2 (by decide +kernel)
theorem cmp_layX_sgC_32_11 : Cmp layX layF (sgC 32 11) := cmpC (lay := layX) (layC := layF) 32 (by decide +kernel)
theorem cmp_layX_sgC_43_25 : Cmp layX layB (sgC 43 25) := cmpC (lay := layX) (layC := layB) 43 (by decide +kernel)
theorem cmp_layX_sgC_45_23 : Cmp layX layR (sgC 45 23) := cmpC (lay := layX) (layC := layR) 45 (by decide +kernel)
theorem cmp_layX_sgC_57_11 : Cmp layX layF (sgC 57 11) := cmpC (lay := layX) (layC := layF) 57 (by decide +kernel)
theorem cmp_layX_sgH : Cmp layX layC sgH := by
  refine ⟨fun j sh h => ?_, fun j h => ?_, fun k j h => ?_⟩
  · match j, h with
    | 0, h => cases h; rfl
    | j + 1, h => simp [layC] at h
  · match j, h with
    | 0, _ => rfl
    | j + 1, h => simp [layC] at h
  · unfold sgH at h
    dsimp only at h
    cases hb : Nat.beq k 1 with
    | false => rw [hb] at h; cases h
    | true =>
      rw [hb] at h
      cases h
      exact ⟨(Nat.eq_of_beq_eq_true hb).symm, by decide⟩
