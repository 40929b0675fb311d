/-! which iron the class takes -/
section PICK
variable {τ : Mm} {F S : Fg} {np : Nat}
theorem ord_lt (hO : OkF F) {j : Nat} (hj : j < F 0 0) : F 10 j < F 0 0 := (hO.2.2.1 j hj).2.2.2.2
theorem opI_none {b : Option Nat} (hb : ∀ v, b = some v → v < 6) : opI b = -1 ↔ b = none := by
  cases b with
  | none => exact ⟨fun _ => rfl, fun _ => rfl⟩
  | some v =>
    have := hb v rfl
    constructor
    · intro h
      have h2 : (nI v).toInt = (-1 : Int32).toInt := by rw [show nI v = -1 from h]
      rw [nI_toInt (by omega)] at h2
      have h3 : (-1 : Int32).toInt = -1 := by decide
      omega
    · intro h; cases h
theorem xv_choose (hO : OkF F) (hS : SI F np S) (h : XR τ F S) : ∀ (c j n : Nat) (b : Option Nat), j + c = F 0 0 → c < n → (∀ v, b = some v → v < F 0 0) → b_X5_chooseReady_4 n (opI b) (nI j) τ = some (some (some (.inl (opI (pickA F S (orF F j c) b)))), τ) := by
  have h6 := hO.1
  intro c
  induction c with
  | zero =>
    intro j n b hj hn hb
    obtain ⟨n, rfl⟩ : ∃ n', n = n' + 1 := ⟨n - 1, by omega⟩
    rw [e_X5_chooseReady_4, h.1.1, if_neg (nI_nlt (by omega) (by omega))]
    cases b <;> rfl
  | succ c ih =>
    intro j n b hj hn hb
    obtain ⟨n, rfl⟩ : ∃ n', n = n' + 1 := ⟨n - 1, by omega⟩
    have ho := ord_lt hO (show j < F 0 0 by omega)
    have hp : orF F j (c + 1) = F 10 j :: orF F (j + 1) c := rfl
    rw [e_X5_chooseReady_4, h.1.1, if_pos (nI_lt (by omega) (by omega)), if_pos (inb_nI (by omega) (by decide)), nI_clamp (by omega), (h.1.2.2.1 j (by omega)).2.2.2.1, xv_rd hO hS h ho, onI_s, nI_1, hp]
    have hb6 : ∀ v, b = some v → v < 6 := fun v hv => by have := hb v hv; omega
    by_cases hr : rdA F S (F 10 j) = true
    · rw [if_pos hr, if_neg (by decide)]
      cases b with
      | none =>
        rw [if_pos (show opI none = -1 from rfl)]
        have := ih (j + 1) n (some (F 10 j)) (by omega) (by omega) (fun v hv => by cases hv; exact ho)
        rw [show opI (some (F 10 j)) = nI (F 10 j) from rfl] at this
        rw [this]
        have hpk : pickA F S (F 10 j :: orF F (j + 1) c) none = pickA F S (orF F (j + 1) c) (if rdA F S (F 10 j) = true then some (F 10 j) else none) := rfl
        rw [hpk, if_pos hr]
      | some v =>
        rw [if_neg (fun h9 => by have := (opI_none hb6).mp h9; cases this)]
        rw [show opI (some v) = nI v from rfl, xv_bt hO hS h ho (hb v rfl), onI_s]
        have hpk : pickA F S (F 10 j :: orF F (j + 1) c) (some v) = pickA F S (orF F (j + 1) c) (if (rdA F S (F 10 j) && btA F S (F 10 j) v) = true then some (F 10 j) else some v) := rfl
        rw [hpk, hr]
        by_cases hbt : btA F S (F 10 j) v = true
        · have h9 := ih (j + 1) n (some (F 10 j)) (by omega) (by omega) (fun v hv => by cases hv; exact ho)
          rw [show opI (some (F 10 j)) = nI (F 10 j) from rfl] at h9
          rw [if_pos hbt, if_neg (by decide), h9, hbt]
          rfl
        · have h9 := ih (j + 1) n (some v) (by omega) (by omega) hb
          rw [show opI (some v) = nI v from rfl] at h9
          rw [if_neg hbt, if_pos rfl, h9]
          simp [hbt]
    · rw [if_neg hr, if_pos rfl, ih (j + 1) n b (by omega) (by omega) hb]
      have hr' : rdA F S (F 10 j) = false := by simpa using hr
      cases b with
      | none => 
        have : pickA F S (F 10 j :: orF F (j + 1) c) none = pickA F S (orF F (j + 1) c) (if rdA F S (F 10 j) = true then some (F 10 j) else none) := rfl
        rw [this, if_neg hr]
      | some v =>
        have : pickA F S (F 10 j :: orF F (j + 1) c) (some v) = pickA F S (orF F (j + 1) c) (if (rdA F S (F 10 j) && btA F S (F 10 j) v) = true then some (F 10 j) else some v) := rfl
        rw [this, hr']
        rfl
theorem xv_pick (hO : OkF F) (hS : SI F np S) (h : XR τ F S) : f_X5_chooseReady [.inr (.inl 0)] τ = some (some (some (.inl (opI (pickA F S (orL F) none)))), τ) := by
  rw [e_X5_chooseReady]
  exact xv_choose hO hS h (F 0 0) 0 bigM none (by omega) (by have := hO.1; unfold bigM; omega) (fun v hv => by cases hv)
theorem xv_first (hO : OkF F) (hS : SI F np S) (h : XR τ F S) : ∀ (c j n : Nat), j + c = F 0 0 → c < n → b_X5_firstWaiting_2 n (nI j) τ = some (some (some (.inl (opI (wtA F S (orF F j c))))), τ) := by
  have h6 := hO.1
  intro c
  induction c with
  | zero =>
    intro j n hj hn
    obtain ⟨n, rfl⟩ : ∃ n', n = n' + 1 := ⟨n - 1, by omega⟩
    rw [e_X5_firstWaiting_2, h.1.1, if_neg (nI_nlt (by omega) (by omega))]
    rfl
  | succ c ih =>
    intro j n hj hn
    obtain ⟨n, rfl⟩ : ∃ n', n = n' + 1 := ⟨n - 1, by omega⟩
    have ho := ord_lt hO (show j < F 0 0 by omega)
    have hb := loc_lt hO hS ho
    rw [e_X5_firstWaiting_2, h.1.1, if_pos (nI_lt (by omega) (by omega)), if_pos (inb_nI (by omega) (by decide)), nI_clamp (by omega), (h.1.2.2.1 j (by omega)).2.2.2.1, if_pos (inb_nI (by omega) (by decide)), nI_clamp (by omega), (h.2.1 _ ho).2.1, nI_1]
    have hw : wtA F S (orF F j (c + 1)) = if (!(dnA F S (F 10 j)) && decide (S 1 (F 10 j) = 0) && !(rdA F S (F 10 j))) = true then some (F 10 j) else wtA F S (orF F (j + 1) c) := by
      show List.find? _ (F 10 j :: orF F (j + 1) c) = _
      rw [List.find?_cons]
      cases (!(dnA F S (F 10 j)) && decide (S 1 (F 10 j) = 0) && !(rdA F S (F 10 j))) <;> rfl
    rw [hw]
    by_cases h0 : S 1 (F 10 j) = 0
    · rw [h0, if_pos (show nI 0 = 0 from rfl), xv_fin hO hS h ho, onI_s]
      by_cases hd : dnA F S (F 10 j) = true
      · rw [if_pos hd, if_neg (by decide), ih (j + 1) n (by omega) (by omega)]
        simp [hd]
      · rw [if_neg hd, if_pos rfl, xv_rd hO hS h ho, onI_s]
        by_cases hr : rdA F S (F 10 j) = true
        · rw [if_pos hr, if_neg (by decide), ih (j + 1) n (by omega) (by omega)]
          simp [hr]
        · rw [if_neg hr, if_pos rfl, if_pos (by simp [hd, hr])]
          rfl
    · rw [if_neg (show ¬ nI (S 1 (F 10 j)) = 0 from fun h9 => h0 ((nI_eq (b := 0) hb (by decide)).mp h9)), ih (j + 1) n (by omega) (by omega)]
      simp [h0]
theorem xv_wait (hO : OkF F) (hS : SI F np S) (h : XR τ F S) : f_X5_firstWaiting [.inr (.inl 0)] τ = some (some (some (.inl (opI (wtA F S (orL F))))), τ) := by
  rw [e_X5_firstWaiting]
  exact xv_first hO hS h (F 0 0) 0 bigM (by omega) (by have := hO.1; unfold bigM; omega)
end PICK
