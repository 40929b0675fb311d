/-! the getters -/
section GET2
variable {x : Nat → Int32} {n : Nat} {ρ : Nat → Mm} {σX σM : Mm} {I : Iv} {F : Fg}
theorem gg_8 (hF : Fr σX σM F) (hI : ∀ v, I n ρ σX (wr σM 0 0 v)) : go_8 x n ρ σX σM I := by
  obtain ⟨hO, hX, hM⟩ := hF
  have h6 := hO.1
  have hM' := hM
  unfold MF at hM'
  simp only [Nat.zero_add] at hM'
  unfold go_8 GT
  rw [e_X6_cooling, sp_reqIron hO.1 hX.1, e_X7_cooling, sm_isIron hO.1 hM.1, onI_s, sm_checks, onI_s]
  by_cases hi : inb (x 1) (F 0 0) = true
  · left
    obtain ⟨i, hi9, e9⟩ := (inb_out (by omega)).mp hi
    simp only [if_pos hi, onV_s]
    refine ⟨nI (F 3 i), σX, wr σM 0 0 0, ?_, ?_, wr_same, hI 0⟩
    · rw [e9, if_pos (inb_nI (by omega) (by decide)), nI_clamp (by omega), (hX.2.2.1 i hi9).2.1]
    · rw [if_neg (by decide), e9, n12, if_pos (inb_nI (by omega) (by decide)), nI_clamp (by omega), wr_cell (by decide), (hM'.2.2.1 i hi9).2.1]
  · right
    simp only [if_neg hi, onV_t]
    exact ⟨0, σX, wr σM 0 0 1, rfl, rfl, wr_same, hI 1⟩
theorem gg_9 (hF : Fr σX σM F) (hI : ∀ v, I n ρ σX (wr σM 0 0 v)) : go_9 x n ρ σX σM I := by
  obtain ⟨hO, hX, hM⟩ := hF
  have h6 := hO.1
  have hM' := hM
  unfold MF at hM'
  simp only [Nat.zero_add] at hM'
  unfold go_9 GT
  rw [e_X6_stepCount, sp_reqIron hO.1 hX.1, e_X7_stepCount, sm_isIron hO.1 hM.1, onI_s, sm_checks, onI_s]
  by_cases hi : inb (x 1) (F 0 0) = true
  · left
    obtain ⟨i, hi9, e9⟩ := (inb_out (by omega)).mp hi
    simp only [if_pos hi, onV_s]
    refine ⟨nI (F 4 i), σX, wr σM 0 0 0, ?_, ?_, wr_same, hI 0⟩
    · rw [e9, if_pos (inb_nI (by omega) (by decide)), nI_clamp (by omega), (hX.2.2.1 i hi9).2.2.1]
    · rw [if_neg (by decide), e9, z0, if_pos (inb_nI (by omega) (by decide)), nI_clamp (by omega), wr_cell (by decide), (hM'.2.2.1 i hi9).2.2.1]
  · right
    simp only [if_neg hi, onV_t]
    exact ⟨0, σX, wr σM 0 0 1, rfl, rfl, wr_same, hI 1⟩
theorem gg_15 (hF : Fr σX σM F) (hI : ∀ v, I n ρ σX (wr σM 0 0 v)) : go_15 x n ρ σX σM I := by
  obtain ⟨hO, hX, hM⟩ := hF
  have h6 := hO.1
  have hM' := hM
  unfold MF at hM'
  simp only [Nat.zero_add] at hM'
  unfold go_15 GT
  rw [e_X6_ironAt, sp_reqIron hO.1 hX.1, e_X7_ironAt, sm_isIron hO.1 hM.1, onI_s, sm_checks, onI_s]
  by_cases hi : inb (x 1) (F 0 0) = true
  · left
    obtain ⟨i, hi9, e9⟩ := (inb_out (by omega)).mp hi
    simp only [if_pos hi, onV_s]
    refine ⟨nI (F 10 i), σX, wr σM 0 0 0, ?_, ?_, wr_same, hI 0⟩
    · rw [e9, if_pos (inb_nI (by omega) (by decide)), nI_clamp (by omega), (hX.2.2.1 i hi9).2.2.2.1]
    · rw [if_neg (by decide), e9, n72, if_pos (inb_nI (by omega) (by decide)), nI_clamp (by omega), wr_cell (by decide), (hM'.2.2.1 i hi9).2.2.2.1]
  · right
    simp only [if_neg hi, onV_t]
    exact ⟨0, σX, wr σM 0 0 1, rfl, rfl, wr_same, hI 1⟩
theorem gg_12 (hF : Fr σX σM F) (hI : ∀ v, I n ρ σX (wr σM 0 0 v)) : go_12 x n ρ σX σM I := by
  obtain ⟨hO, hX, hM⟩ := hF
  have h3 := hO.2.1
  have hM' := hM
  unfold MF at hM'
  simp only [Nat.zero_add] at hM'
  unfold go_12 GT
  rw [e_X6_placeRate, sp_reqPlace (by omega) hX.2.1, e_X7_placeRate, sm_isPlace (by omega) hM.2.1, onI_s, sm_checks, onI_s]
  by_cases hi : inb (x 1) (F 0 1) = true
  · left
    obtain ⟨i, hi9, e9⟩ := (inb_out (by omega)).mp hi
    simp only [if_pos hi, onV_s]
    refine ⟨nI (F 7 i), σX, wr σM 0 0 0, ?_, ?_, wr_same, hI 0⟩
    · rw [e9, if_pos (inb_nI (by omega) (by decide)), nI_clamp (by omega), (hX.2.2.2.1 i hi9).1]
    · rw [if_neg (by decide), e9, n66, if_pos (inb_nI (by omega) (by decide)), nI_clamp (by omega), wr_cell (by decide), (hM'.2.2.2.1 i hi9).1]
  · right
    simp only [if_neg hi, onV_t]
    exact ⟨0, σX, wr σM 0 0 1, rfl, rfl, wr_same, hI 1⟩
theorem gg_13 (hF : Fr σX σM F) (hI : ∀ v, I n ρ σX (wr σM 0 0 v)) : go_13 x n ρ σX σM I := by
  obtain ⟨hO, hX, hM⟩ := hF
  have h3 := hO.2.1
  have hM' := hM
  unfold MF at hM'
  simp only [Nat.zero_add] at hM'
  unfold go_13 GT
  rw [e_X6_placeLimit, sp_reqPlace (by omega) hX.2.1, e_X7_placeLimit, sm_isPlace (by omega) hM.2.1, onI_s, sm_checks, onI_s]
  by_cases hi : inb (x 1) (F 0 1) = true
  · left
    obtain ⟨i, hi9, e9⟩ := (inb_out (by omega)).mp hi
    simp only [if_pos hi, onV_s]
    refine ⟨nI (F 8 i), σX, wr σM 0 0 0, ?_, ?_, wr_same, hI 0⟩
    · rw [e9, if_pos (inb_nI (by omega) (by decide)), nI_clamp (by omega), (hX.2.2.2.1 i hi9).2]
    · rw [if_neg (by decide), e9, n69, if_pos (inb_nI (by omega) (by decide)), nI_clamp (by omega), wr_cell (by decide), (hM'.2.2.2.1 i hi9).2]
  · right
    simp only [if_neg hi, onV_t]
    exact ⟨0, σX, wr σM 0 0 1, rfl, rfl, wr_same, hI 1⟩
theorem sp_reqStep {σ : Mm} (hO : OkF F) (hX : XF σ 32 F) (x y : Int32) : f_X6_requireStep [.inr (.inl 0), .inl x, .inl y] σ = (if inb x (F 0 0) = true ∧ inb y (F 4 x.toNatClampNeg) = true then some (some none, σ) else some (none, σ)) := by
  have h6 := hO.1
  rw [e_X6_requireStep, sp_reqIron hO.1 hX.1]
  by_cases hi : inb x (F 0 0) = true
  · obtain ⟨i, hi9, e9⟩ := (inb_out (by omega)).mp hi
    have h5 := (hO.2.2.1 i hi9).2.2.1
    rw [if_pos hi, onV_s, e9, if_pos (inb_nI (by omega) (by decide)), nI_clamp (by omega), (hX.2.2.1 i hi9).2.2.1, sp_isWithin, onI_s, pp0]
    by_cases hs : 0 ≤ y ∧ y ≤ nI (F 4 i) - 1
    · rw [if_pos hs, if_neg (by decide), if_pos ⟨inb_nI hi9 (by omega), (inb_out (by omega)).mpr ((within_iff (by omega)).mp hs)⟩]
    · rw [if_neg hs, if_pos rfl, if_neg]
      rintro ⟨h1, h2⟩
      exact hs ((within_iff (by omega)).mpr ((inb_out (by omega)).mp h2))
  · rw [if_neg hi, onV_t, if_neg (fun h9 => hi h9.1)]
theorem sm_isStep {σ : Mm} (hO : OkF F) (hM : MF (σ 2) (σ 4) 0 F) (x y : Int32) : f_X7_isStep [.inr (.inl 0), .inl x, .inl y] σ = some (some (some (.inl (if inb x (F 0 0) = true ∧ inb y (F 4 x.toNatClampNeg) = true then 1 else 0))), σ) := by
  have h6 := hO.1
  have hM' := hM
  unfold MF at hM'
  simp only [Nat.zero_add] at hM'
  rw [e_X7_isStep, sm_isIron hO.1 hM.1, onI_s]
  by_cases hi : inb x (F 0 0) = true
  · obtain ⟨i, hi9, e9⟩ := (inb_out (by omega)).mp hi
    have h5 := (hO.2.2.1 i hi9).2.2.1
    have hib := inb_nI hi9 (show F 0 0 < 2 ^ 31 by omega)
    rw [if_pos hi, if_neg (by decide), e9, z0, if_pos (inb_nI (by omega) (by decide)), nI_clamp (by omega), (hM'.2.2.1 i hi9).2.2.1]
    have hl := lt_inb (x := y) (k := F 4 i) (by omega)
    by_cases h1 : y < 0
    · rw [if_pos h1, if_neg (fun h9 => (hl.mpr h9.2).1 h1)]
    · rw [if_neg h1]
      by_cases h2 : y < nI (F 4 i)
      · rw [if_pos h2, if_pos ⟨hib, hl.mp ⟨h1, h2⟩⟩]
      · rw [if_neg h2, if_neg (fun h9 => h2 (hl.mpr h9.2).2)]
  · rw [if_neg hi, if_pos rfl, if_neg (fun h9 => hi h9.1)]
theorem sm_chk {σ : Mm} (p : Prop) [Decidable p] : f_X7_checks [.inr (.inl 0), .inl (if p then 1 else 0)] σ = some (some (some (.inl (if p then 1 else 0))), wr σ 0 0 (if p then 0 else 1)) := by
  rw [e_X7_checks]
  by_cases h : p
  · rw [if_pos h, if_pos h]
    rfl
  · rw [if_neg h, if_neg h]
    rfl
theorem gg_10 (hF : Fr σX σM F) (hI : ∀ v, I n ρ σX (wr σM 0 0 v)) : go_10 x n ρ σX σM I := by
  obtain ⟨hO, hX, hM⟩ := hF
  have h6 := hO.1
  have hM' := hM
  unfold MF at hM'
  simp only [Nat.zero_add] at hM'
  unfold go_10 GT
  rw [e_X6_stepHeat, sp_reqStep hO hX, e_X7_stepHeat, sm_isStep hO hM, onI_s, sm_chk, onI_s]
  by_cases hp : inb (x 1) (F 0 0) = true ∧ inb (x 2) (F 4 (x 1).toNatClampNeg) = true
  · left
    rw [if_pos hp, if_pos hp, if_pos hp, onV_s]
    obtain ⟨i, hi, e1⟩ := (inb_out (by omega)).mp hp.1
    have h5 := (hO.2.2.1 i hi).2.2.1
    have hp2 := hp.2
    rw [e1, nI_clamp (by omega)] at hp2
    obtain ⟨s, hs, e2⟩ := (inb_out (by omega)).mp hp2
    refine ⟨nI (F 5 (5 * i + s)), σX, wr σM 0 0 0, ?_, ?_, wr_same, hI 0⟩
    · rw [e_X2_heatOfStep, e1, e2, ni5, if_pos (inb_nI (by omega) (by decide)), onI_s, putC_id, nI_clamp (by omega)]
      have : pk (sgC 32 11) σX 5 (5 * i + s) = nI (F 5 (5 * i + s)) := ((hX.2.2.1 i hi).2.2.2.2.1 s hs).1
      rw [this]
    · rw [if_neg (by decide), e1, e2, show (6 : Int32) = nI 6 from rfl, n5s, if_pos (inb_nI (by omega) (by decide)), nI_clamp (by omega), wr_cell (by decide), ((hM'.2.2.1 i hi).2.2.2.2.1 s hs).1]
  · right
    rw [if_neg hp, if_neg hp, if_neg hp, onV_t]
    exact ⟨0, σX, wr σM 0 0 1, rfl, rfl, wr_same, hI 1⟩
theorem gg_11 (hF : Fr σX σM F) (hI : ∀ v, I n ρ σX (wr σM 0 0 v)) : go_11 x n ρ σX σM I := by
  obtain ⟨hO, hX, hM⟩ := hF
  have h6 := hO.1
  have hM' := hM
  unfold MF at hM'
  simp only [Nat.zero_add] at hM'
  unfold go_11 GT
  rw [e_X6_stepMinutes, sp_reqStep hO hX, e_X7_stepMinutes, sm_isStep hO hM, onI_s, sm_chk, onI_s]
  by_cases hp : inb (x 1) (F 0 0) = true ∧ inb (x 2) (F 4 (x 1).toNatClampNeg) = true
  · left
    rw [if_pos hp, if_pos hp, if_pos hp, onV_s]
    obtain ⟨i, hi, e1⟩ := (inb_out (by omega)).mp hp.1
    have h5 := (hO.2.2.1 i hi).2.2.1
    have hp2 := hp.2
    rw [e1, nI_clamp (by omega)] at hp2
    obtain ⟨s, hs, e2⟩ := (inb_out (by omega)).mp hp2
    refine ⟨nI (F 6 (5 * i + s)), σX, wr σM 0 0 0, ?_, ?_, wr_same, hI 0⟩
    · rw [e_X2_minutesOfStep, e1, e2, ni5, if_pos (inb_nI (by omega) (by decide)), onI_s, putC_id, nI_clamp (by omega)]
      have : pk (sgC 32 11) σX 6 (5 * i + s) = nI (F 6 (5 * i + s)) := ((hX.2.2.1 i hi).2.2.2.2.1 s hs).2
      rw [this]
    · rw [if_neg (by decide), e1, e2, show (36 : Int32) = nI 36 from rfl, n5s, if_pos (inb_nI (by omega) (by decide)), nI_clamp (by omega), wr_cell (by decide), ((hM'.2.2.1 i hi).2.2.2.2.1 s hs).2]
  · right
    rw [if_neg hp, if_neg hp, if_neg hp, onV_t]
    exact ⟨0, σX, wr σM 0 0 1, rfl, rfl, wr_same, hI 1⟩
theorem sp_isSet (y : Int32) (σ : Mm) : f_X6_isSetting [.inl y] σ = some (some (some (.inl (if inb y 3 = true then 1 else 0))), σ) := by
  have e : (0 ≤ y ∧ y ≤ 2) ↔ inb y 3 = true := (within_iff (k := 3) (by decide)).trans (inb_out (by decide)).symm
  rw [e_X6_isSetting, sp_isWithin, onI_s]
  by_cases h : inb y 3 = true
  · rw [if_pos (e.mpr h), if_pos h, if_pos (Or.inr rfl)]
  · rw [if_neg (fun h9 => h (e.mp h9)), if_neg h, if_pos (Or.inl rfl)]
theorem sm_isSet (y : Int32) (σ : Mm) : f_X7_isSetting [.inl y] σ = some (some (some (.inl (if inb y 3 = true then 1 else 0))), σ) := by
  rw [e_X7_isSetting]
  by_cases h1 : y < 0
  · rw [if_pos h1, if_neg (fun h9 => ((lt_inb (by decide)).mpr h9).1 h1)]
  · obtain ⟨t, ht, rfl⟩ := nI_of h1
    rw [if_neg h1]
    by_cases h2 : t < 3
    · rw [if_neg (show ¬ (2 : Int32) < nI t from nI_nlt (a := 2) (by omega) (by omega)), if_pos (inb_nI h2 (by decide))]
    · rw [if_pos (show (2 : Int32) < nI t from nI_lt (a := 2) (by omega) ht), if_neg (fun h9 => ?_)]
      have h8 := ((lt_inb (by decide)).mpr h9).2
      exact nI_nlt (a := t) (b := 3) (by omega) ht h8
theorem gg_14 (hF : Fr σX σM F) (hI : ∀ v, I n ρ σX (wr σM 0 0 v)) : go_14 x n ρ σX σM I := by
  obtain ⟨hO, hX, hM⟩ := hF
  have hM' := hM
  unfold MF at hM'
  simp only [Nat.zero_add] at hM'
  unfold go_14 GP
  rw [e_X6_getSetting, sp_isSet, onI_s, pp0, e_X7_getSetting, sm_isSet, onI_s, pp0]
  by_cases hp : inb (x 1) 3 = true
  · rw [if_pos hp, if_neg (show ¬ (1 : Int32) = 0 by decide), if_neg (show ¬ (1 : Int32) = 0 by decide)]
    obtain ⟨t, ht, e1⟩ := (inb_out (by decide)).mp hp
    refine ⟨nI (F 9 t), σX, wr σM 0 0 0, ?_, ?_, hI 0⟩
    · rw [e1, if_pos (inb_nI (by omega) (by decide)), nI_clamp (by omega), hX.2.2.2.2 t ht]
    · rw [e1, n78, if_pos (inb_nI (by omega) (by decide)), nI_clamp (by omega), hM'.2.2.2.2 t ht]
  · rw [if_neg hp, if_pos rfl, if_pos rfl]
    exact ⟨-2, σX, wr σM 0 0 0, rfl, rfl, hI 0⟩
def fdA (r : Nat → Int32) (y : Int32) : Nat → Nat → Int32
  | 0, _ => -1
  | c + 1, j => if r j = y then nI j else fdA r y c (j + 1)
theorem xg_find {φ : Mm} {y : Int32} {m : Nat} (hm : m ≤ 6) (h0 : φ 0 0 = nI m) : ∀ (c j N : Nat), j + c = m → c < N → b_X2_findName_2 N y (nI j) φ = some (some (some (.inl (fdA (φ 1) y c j))), φ) := by
  intro c
  induction c with
  | zero =>
    intro j N hj hN
    obtain ⟨N, rfl⟩ : ∃ N', N = N' + 1 := ⟨N - 1, by omega⟩
    rw [e_X2_findName_2, h0, if_neg (nI_nlt (by omega) (by omega))]
    rfl
  | succ c ih =>
    intro j N hj hN
    obtain ⟨N, rfl⟩ : ∃ N', N = N' + 1 := ⟨N - 1, by omega⟩
    rw [e_X2_findName_2, h0, if_pos (nI_lt (by omega) (by omega)), if_pos (inb_nI (by omega) (by decide)), nI_clamp (by omega), nI_1, ih (j + 1) N (by omega) (by omega)]
    have e1 : fdA (φ 1) y (c + 1) j = if φ 1 j = y then nI j else fdA (φ 1) y c (j + 1) := rfl
    rw [e1]
    by_cases e : φ 1 j = y
    · rw [if_pos e, if_pos e]
    · rw [if_neg e, if_neg e]
theorem mg_find {σ : Mm} {y : Int32} {m : Nat} (hm : m ≤ 6) (h0 : σ 2 18 = nI m) : ∀ (c j N : Nat), j + c = m → c < N → b_X7_found_2_told N y (nI j) σ = some (some (some (.inl (fdA (σ 2) y c j))), σ) := by
  intro c
  induction c with
  | zero =>
    intro j N hj hN
    obtain ⟨N, rfl⟩ : ∃ N', N = N' + 1 := ⟨N - 1, by omega⟩
    rw [e_X7_found_2_told, h0, if_neg (nI_nlt (by omega) (by omega))]
    rfl
  | succ c ih =>
    intro j N hj hN
    obtain ⟨N, rfl⟩ : ∃ N', N = N' + 1 := ⟨N - 1, by omega⟩
    rw [e_X7_found_2_told, h0, if_pos (nI_lt (by omega) (by omega)), z0, if_pos (inb_nI (by omega) (by decide)), nI_clamp (by omega), nI_1, ih (j + 1) N (by omega) (by omega)]
    have e1 : fdA (σ 2) y (c + 1) j = if σ 2 j = y then nI j else fdA (σ 2) y c (j + 1) := rfl
    rw [e1]
    by_cases e : σ 2 j = y
    · rw [if_pos e, if_pos e]
    · rw [if_neg e, if_neg e]
theorem fd_cg {r r' : Nat → Int32} {y : Int32} : ∀ (c j : Nat), (∀ i, j ≤ i → i < j + c → r' i = r i) → fdA r' y c j = fdA r y c j
  | 0, _, _ => rfl
  | c + 1, j, h => by
    unfold fdA
    rw [h j (by omega) (by omega), fd_cg c (j + 1) (fun i h1 h2 => h i (by omega) (by omega))]
theorem gg_6 (hF : Fr σX σM F) (hI : ∀ v, I n ρ σX (wr σM 0 0 v)) : go_6 x n ρ σX σM I := by
  obtain ⟨hO, hX, hM⟩ := hF
  have h6 := hO.1
  unfold go_6 GP
  rw [e_X6_ironNamed, e_X2_findName, e_X7_ironNamed, e_X7_found_told]
  have a1 := xg_find (φ := pk (sgC 32 11) σX) (y := x 1) h6 hX.1 (F 0 0) 0 bigM (by omega) (by unfold bigM; omega)
  have a2 := mg_find (σ := wr σM 0 0 0) (y := x 1) h6 (by rw [wr_cell (by decide)]; exact hM.1) (F 0 0) 0 bigM (by omega) (by unfold bigM; omega)
  have a1' : b_X2_findName_2 bigM (x 1) 0 (pk (sgC 32 11) σX) = _ := a1
  have a2' : b_X7_found_2_told bigM (x 1) 0 (wr σM 0 0 0) = _ := a2
  rw [a1', a2', onI_s, onI_s, putC_id]
  refine ⟨_, σX, wr σM 0 0 0, rfl, ?_, hI 0⟩
  rw [fd_cg (r := pk (sgC 32 11) σX 1) (F 0 0) 0 (fun i _ hi => ?_)]
  have e1 : pk (sgC 32 11) σX 1 i = nI (F 1 i) := (hX.2.2.1 i (by omega)).2.2.2.2.2
  rw [e1, wr_cell (by decide)]
  exact (hM.2.2.1 i (by omega)).2.2.2.2.2
theorem xg_pos {φ : Mm} {y : Int32} {m : Nat} (hm : m ≤ 6) (h0 : φ 0 0 = nI m) : ∀ (c j N : Nat), j + c = m → c < N → b_X2_findPosition_2 N y (nI j) φ = some (some (some (.inl (fdA (φ 10) y c j))), φ) := by
  intro c
  induction c with
  | zero =>
    intro j N hj hN
    obtain ⟨N, rfl⟩ : ∃ N', N = N' + 1 := ⟨N - 1, by omega⟩
    rw [e_X2_findPosition_2, h0, if_neg (nI_nlt (by omega) (by omega))]
    rfl
  | succ c ih =>
    intro j N hj hN
    obtain ⟨N, rfl⟩ : ∃ N', N = N' + 1 := ⟨N - 1, by omega⟩
    rw [e_X2_findPosition_2, h0, if_pos (nI_lt (by omega) (by omega)), if_pos (inb_nI (by omega) (by decide)), nI_clamp (by omega), nI_1, ih (j + 1) N (by omega) (by omega)]
    have e1 : fdA (φ 10) y (c + 1) j = if φ 10 j = y then nI j else fdA (φ 10) y c (j + 1) := rfl
    rw [e1]
    by_cases e : φ 10 j = y
    · rw [if_pos e, if_pos e]
    · rw [if_neg e, if_neg e]
theorem mg_pos {σ : Mm} {y : Int32} {m : Nat} (hm : m ≤ 6) (r : Nat → Int32) : ∀ (c j N : Nat), j + c = m → c < N → (∀ i, i < m → σ 4 (72 + i) = r i) → (∃ i, j ≤ i ∧ i < m ∧ r i = y) → b_X7_positionOf_16 N y (nI j) σ = some (some (some (.inl (fdA r y c j))), σ) := by
  intro c
  induction c with
  | zero =>
    intro j N hj hN hr he
    obtain ⟨i, h1, h2, -⟩ := he
    omega
  | succ c ih =>
    intro j N hj hN hr he
    obtain ⟨N, rfl⟩ : ∃ N', N = N' + 1 := ⟨N - 1, by omega⟩
    rw [e_X7_positionOf_16, n72, if_pos (inb_nI (by omega) (by decide)), nI_clamp (by omega), hr j (by omega), nI_1]
    have e1 : fdA r y (c + 1) j = if r j = y then nI j else fdA r y c (j + 1) := rfl
    rw [e1]
    by_cases e : r j = y
    · rw [if_pos e, if_pos e]
    · rw [if_neg e, if_neg e]
      obtain ⟨i, h1, h2, h3⟩ := he
      have : i ≠ j := fun h9 => e (h9 ▸ h3)
      exact ih (j + 1) N (by omega) (by omega) hr ⟨i, by omega, h2, h3⟩
theorem gg_16 (hF : Fr σX σM F) (hI : ∀ v, I n ρ σX (wr σM 0 0 v)) : go_16 x n ρ σX σM I := by
  obtain ⟨hO, hX, hM⟩ := hF
  have h6 := hO.1
  have hM' := hM
  unfold MF at hM'
  simp only [Nat.zero_add] at hM'
  unfold go_16 GT
  rw [e_X6_positionOf, sp_reqIron hO.1 hX.1, e_X7_positionOf, sm_isIron hO.1 hM.1, onI_s, sm_checks, onI_s]
  by_cases hi : inb (x 1) (F 0 0) = true
  · left
    obtain ⟨i, hi9, e9⟩ := (inb_out (by omega)).mp hi
    simp only [if_pos hi, onV_s]
    have a1 : b_X2_findPosition_2 bigM (x 1) 0 (pk (sgC 32 11) σX) = _ := xg_pos (φ := pk (sgC 32 11) σX) (y := x 1) h6 hX.1 (F 0 0) 0 bigM (by omega) (by unfold bigM; omega)
    obtain ⟨p, hp1, hp2⟩ := hO.2.2.2.2.2.2.2.2 i hi9
    have a2 : b_X7_positionOf_16 bigM (x 1) 0 (wr σM 0 0 0) = _ := mg_pos (σ := wr σM 0 0 0) (y := x 1) h6 (pk (sgC 32 11) σX 10) (F 0 0) 0 bigM (by omega) (by unfold bigM; omega) (fun k hk => by
      have e1 : pk (sgC 32 11) σX 10 k = nI (F 10 k) := (hX.2.2.1 k hk).2.2.2.1
      rw [e1, wr_cell (by decide)]
      exact (hM'.2.2.1 k hk).2.2.2.1) ⟨p, Nat.zero_le _, hp1, by
        have e1 : pk (sgC 32 11) σX 10 p = nI (F 10 p) := (hX.2.2.1 p hp1).2.2.2.1
        rw [e1, hp2, e9]⟩
    rw [e_X2_findPosition, a1, onI_s, putC_id, if_neg (by decide), a2]
    exact ⟨_, σX, wr σM 0 0 0, rfl, rfl, wr_same, hI 0⟩
  · right
    simp only [if_neg hi, onV_t]
    exact ⟨0, σX, wr σM 0 0 1, rfl, rfl, wr_same, hI 1⟩
theorem og_both (hO : OkF F) (hX : XF σX 32 F) (hM : MF (σM 2) (σM 4) 0 F) : ∀ (c j N N' : Nat) (y : Int32), j + c = F 0 0 → c < N → c < N' → ∃ r, b_X6_orderCode_4 N y (nI j) σX = some (some (some (.inl r)), σX) ∧ b_X7_orderCode_9 N' y (nI j) (wr σM 0 0 0) = some (some (some (.inl r)), wr σM 0 0 0) := by
  have h6 := hO.1
  have hM' := hM
  unfold MF at hM'
  simp only [Nat.zero_add] at hM'
  intro c
  induction c with
  | zero =>
    intro j N N' y hj hN hN'
    obtain ⟨N, rfl⟩ : ∃ N', N = N' + 1 := ⟨N - 1, by omega⟩
    obtain ⟨N', rfl⟩ : ∃ N1, N' = N1 + 1 := ⟨N' - 1, by omega⟩
    refine ⟨y, ?_, ?_⟩
    · rw [e_X6_orderCode_4, hX.1, if_neg (nI_nlt (by omega) (by omega))]
    · rw [e_X7_orderCode_9, wr_cell (by decide), hM.1, if_neg (nI_nlt (by omega) (by omega))]
  | succ c ih =>
    intro j N N' y hj hN hN'
    obtain ⟨N, rfl⟩ : ∃ N', N = N' + 1 := ⟨N - 1, by omega⟩
    obtain ⟨N', rfl⟩ : ∃ N1, N' = N1 + 1 := ⟨N' - 1, by omega⟩
    obtain ⟨r, h1, h2⟩ := ih (j + 1) N N' (y ||| ((nI (F 10 j) + 1) <<< ((3 * nI j) &&& 31))) (by omega) (by omega) (by omega)
    refine ⟨r, ?_, ?_⟩
    · rw [e_X6_orderCode_4, hX.1, if_pos (nI_lt (by omega) (by omega)), if_pos (inb_nI (by omega) (by decide)), nI_clamp (by omega), (hX.2.2.1 j (by omega)).2.2.2.1, nI_1 j]
      exact h1
    · rw [e_X7_orderCode_9, wr_cell (by decide), hM.1, if_pos (nI_lt (by omega) (by omega)), n72, if_pos (inb_nI (by omega) (by decide)), nI_clamp (by omega), wr_cell (by decide), (hM'.2.2.1 j (by omega)).2.2.2.1, nI_1 j]
      exact h2
theorem gg_38 (hF : Fr σX σM F) (hI : ∀ v, I n ρ σX (wr σM 0 0 v)) : go_38 x n ρ σX σM I := by
  obtain ⟨hO, hX, hM⟩ := hF
  have h6 := hO.1
  unfold go_38 GP
  obtain ⟨r, h1, h2⟩ := og_both hO hX hM (F 0 0) 0 bigM bigM 0 (by omega) (by unfold bigM; omega) (by unfold bigM; omega)
  rw [e_X6_orderCode, e_X7_orderCode]
  exact ⟨r, σX, wr σM 0 0 0, h1, h2, hI 0⟩
end GET2
section GET3
variable {x : Nat → Int32} {n : Nat} {ρ : Nat → Mm} {σX σM : Mm} {F : Fg}
theorem gg_2 (h : St n ρ σX σM F) : go_2 x n ρ σX σM Inv := by
  unfold go_2 GP
  obtain ⟨m, -, -, -, -, e⟩ := h.1.2.2.2.1
  refine ⟨_, σX, wr σM 0 0 0, by rw [e_X6_errorPosition], ?_, F, st_thr 0 h⟩
  rw [e_X7_errorPosition, e]
theorem gg_5 (h : St n ρ σX σM F) : go_5 x n ρ σX σM Inv := by
  unfold go_5 GP
  obtain ⟨-, i, c, -, -, -, -, e1, e2, -⟩ := h.1.2.2.2.2
  refine ⟨_, σX, wr σM 0 0 0, by rw [e_X6_undoCount], ?_, F, st_thr 0 h⟩
  rw [e_X7_undoCount, e1, e2]
end GET3
