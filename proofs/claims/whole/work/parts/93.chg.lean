/-! the methods that change -/
theorem pk0 (σ : Mm) : pk sg0 σ = σ := rfl
section CHG1
variable {F : Fg}
theorem set_iff {t : Nat} (ht : t < 3) (y : Int32) : (stv 0 t ≤ y ∧ y ≤ stv 1 t) ↔ ∃ v, setOk t v = true ∧ y = nI v := by
  rcases (show t = 0 ∨ t = 1 ∨ t = 2 by omega) with rfl | rfl | rfl
  · refine (le_iff (a := 1) (b := 3) (by decide) (by decide)).trans ?_
    constructor
    · rintro ⟨v, h1, h2, h3⟩
      exact ⟨v, decide_eq_true (Or.inl ⟨rfl, h1, h2⟩), h3⟩
    · rintro ⟨v, h1, h3⟩
      have := of_decide_eq_true h1
      exact ⟨v, by omega, by omega, h3⟩
  · refine (le_iff (a := 0) (b := 500) (by decide) (by decide)).trans ?_
    constructor
    · rintro ⟨v, h1, h2, h3⟩
      exact ⟨v, decide_eq_true (Or.inr (Or.inl ⟨rfl, h2⟩)), h3⟩
    · rintro ⟨v, h1, h3⟩
      have := of_decide_eq_true h1
      exact ⟨v, by omega, by omega, h3⟩
  · refine (le_iff (a := 0) (b := 2) (by decide) (by decide)).trans ?_
    constructor
    · rintro ⟨v, h1, h2, h3⟩
      exact ⟨v, decide_eq_true (Or.inr (Or.inr ⟨rfl, h2⟩)), h3⟩
    · rintro ⟨v, h1, h3⟩
      have := of_decide_eq_true h1
      exact ⟨v, by omega, by omega, h3⟩
theorem sp_setv (y0 y : Int32) (σ : Mm) : ∃ b : Bool, f_X6_isSettingValue [.inl y0, .inl y] σ = some (some (some (.inl (if b = true then 1 else 0))), σ) ∧ (b = true ↔ ∃ t v, t < 3 ∧ y0 = nI t ∧ setOk t v = true ∧ y = nI v) := by
  by_cases hi : inb y0 3 = true
  · obtain ⟨t, ht, rfl⟩ := (inb_out (by decide)).mp hi
    obtain ⟨b, h1, h2⟩ := sp_setval ht y σ
    refine ⟨b, h1, h2.trans ⟨fun ⟨v, a, e⟩ => ⟨t, v, ht, rfl, a, e⟩, fun ⟨t', v, ht', e', a, e⟩ => ?_⟩⟩
    have : t = t' := (nI_eq (by omega) (by omega)).mp e'
    exact ⟨v, this ▸ a, e⟩
  · refine ⟨false, ?_, ⟨fun h => (by cases h), fun ⟨t, v, ht, e, _⟩ => absurd (show inb y0 3 = true by rw [e]; exact inb_nI ht (by decide)) hi⟩⟩
    rw [e_X6_isSettingValue, sp_isSet, if_neg hi, onI_s, if_pos rfl, if_neg (show ¬ false = true by decide)]
theorem sm_least {t : Nat} (ht : t < 3) (σ : Mm) : f_X7_leastOf [.inl (nI t)] σ = some (some (some (.inl (stv 0 t))), σ) := by
  rw [e_X7_leastOf]
  rcases (show t = 0 ∨ t = 1 ∨ t = 2 by omega) with rfl | rfl | rfl
  · rw [if_pos (show nI 0 = 0 from rfl)]; rfl
  · rw [if_neg (show ¬ nI 1 = 0 by decide)]; rfl
  · rw [if_neg (show ¬ nI 2 = 0 by decide)]; rfl
theorem sm_most {t : Nat} (ht : t < 3) (σ : Mm) : f_X7_mostOf [.inl (nI t)] σ = some (some (some (.inl (stv 1 t))), σ) := by
  rw [e_X7_mostOf]
  rcases (show t = 0 ∨ t = 1 ∨ t = 2 by omega) with rfl | rfl | rfl
  · rw [if_pos (show nI 0 = 0 from rfl)]; rfl
  · rw [if_neg (show ¬ nI 1 = 0 by decide), if_pos (show nI 1 = 1 from rfl)]; rfl
  · rw [if_neg (show ¬ nI 2 = 0 by decide), if_neg (show ¬ nI 2 = 1 by decide)]; rfl
theorem ms_bad {y0 y : Int32} (h : ¬ ∃ t v, t < 3 ∧ y0 = nI t ∧ setOk t v = true ∧ y = nI v) (σ : Mm) : f_X7_setSetting [.inr (.inl 0), .inl y0, .inl y] σ = some (some (some (.inl (-2))), wr σ 0 0 0) := by
  rw [e_X7_setSetting, sm_isSet, onI_s]
  simp only [pk0, pp1]
  by_cases hi : inb y0 3 = true
  · obtain ⟨t, ht, rfl⟩ := (inb_out (by decide)).mp hi
    rw [if_pos hi, if_neg (show ¬ (1 : Int32) = 0 by decide), sm_least ht, onI_s]
    by_cases h1 : y < stv 0 t
    · rw [if_pos h1]
    · rw [if_neg h1, sm_most ht, onI_s]
      by_cases h2 : stv 1 t < y
      · rw [if_pos h2]
      · obtain ⟨v, hv, e⟩ := (set_iff ht y).mp ⟨Int32.not_lt.mp h1, Int32.not_lt.mp h2⟩
        exact absurd ⟨t, v, ht, rfl, hv, e⟩ h
  · rw [if_neg hi, if_pos rfl]
theorem ms_ok {t v : Nat} (ht : t < 3) (hv : setOk t v = true) (σ : Mm) : f_X7_setSetting [.inr (.inl 0), .inl (nI t), .inl (nI v)] σ = onV (f_X7_keeps [.inr (.inl 0)] (wr σ 0 0 0)) (fun τ4 => some (none, τ4)) (fun τ4 => some (some (some (.inl (τ4 4 (78 + t)))), wr τ4 4 (78 + t) (nI v))) := by
  obtain ⟨h1, h2⟩ := (set_iff ht (nI v)).mpr ⟨v, hv, rfl⟩
  have i1 : inb (78 + nI t) 81 = true := by rw [n78]; exact inb_nI (by omega) (by decide)
  rw [e_X7_setSetting, sm_isSet, onI_s]
  simp only [pk0, pp1]
  rw [if_pos (inb_nI ht (by decide)), if_neg (show ¬ (1 : Int32) = 0 by decide), sm_least ht, onI_s, if_neg (Int32.not_lt.mpr h1), sm_most ht, onI_s, if_neg (Int32.not_lt.mpr h2)]
  simp only [if_pos i1]
  rw [n78, nI_clamp (by omega)]
/-! a forge with its order, a limit, a step changed -/
theorem mf_oF {T N N' : Nat → Int32} {o : Nat → Nat} (hO : OkF F) (h : MF T N 0 F) (g : ∀ q, (q < 72 ∨ 78 ≤ q) → N' q = N q) (ho : ∀ i, i < F 0 0 → N' (72 + i) = nI (o i)) : MF T N' 0 (oF F o) := by
  have b6 := hO.1
  have b3 := hO.2.1
  unfold MF at h ⊢
  simp only [Nat.zero_add] at h ⊢
  obtain ⟨x1, x2, x3, x4, x5⟩ := h
  refine ⟨x1, x2, fun i hi => ?_, fun j hj => ?_, fun t ht => ?_⟩
  · have hi' : i < F 0 0 := hi
    obtain ⟨y1, y2, y3, y4, y5, y6⟩ := x3 i hi'
    have b5 := (hO.2.2.1 i hi').2.2.1
    refine ⟨y1, y2, ?_, ho i hi', fun s hs => ?_, y6⟩
    · rw [g i (by omega)]; exact y3
    · have hs' : s < F 4 i := hs
      rw [g _ (by omega), g _ (by omega)]
      exact y5 s hs'
  · have hj' : j < F 0 1 := hj
    rw [g _ (by omega), g _ (by omega)]
    exact x4 j hj'
  · rw [g _ (by omega)]
    exact x5 t ht
theorem ok_lim {v p : Nat} (hO : OkF F) (h1 : 100 ≤ v) (h2 : v ≤ 1500) : OkF (upA F 8 p v) := by
  obtain ⟨a1, a2, a3, a4, a5, a6, a7, a8, a9⟩ := hO
  refine ⟨a1, a2, a3, a4, fun j hj => ?_, a6, a7, a8, a9⟩
  obtain ⟨b1, b2⟩ := a5 j hj
  refine ⟨b1, ?_⟩
  rw [upA_at]
  split
  · exact ⟨h1, h2⟩
  · exact b2
theorem xf_lim {φ : Mm} {b p v : Nat} (h : XF φ b F) : XF (wr φ (b + 8) p (nI v)) b (upA F 8 p v) := by
  obtain ⟨x1, x2, x3, x4, x5⟩ := h
  refine ⟨by rw [wr_cell (by omega)]; exact x1, by rw [wr_cell (by omega)]; exact x2, fun i hi => ?_, fun j hj => ?_, fun t' ht => ?_⟩
  · rw [wr_cell (by omega), wr_cell (by omega), wr_cell (by omega), wr_cell (by omega), wr_cell (k' := b + 1) (by omega)]
    obtain ⟨y1, y2, y3, y4, y5, y6⟩ := x3 i hi
    refine ⟨y1, y2, y3, y4, fun s hs => ?_, y6⟩
    rw [wr_cell (by omega), wr_cell (by omega)]
    exact y5 s hs
  · rw [wr_cell (by omega)]
    refine ⟨(x4 j hj).1, ?_⟩
    rw [wr_at, upA_at]
    by_cases e : j = p
    · rw [if_pos ⟨rfl, e⟩, if_pos ⟨rfl, e⟩]
    · rw [if_neg (fun h9 => e h9.2), if_neg (fun h9 => e h9.2)]
      exact (x4 j hj).2
  · rw [wr_cell (by omega)]
    exact x5 t' ht
theorem mf_lim {T : Nat → Int32} {σ : Mm} {p v : Nat} (hO : OkF F) (h : MF T (σ 4) 0 F) (hp : p < F 0 1) : MF T (wr σ 4 (69 + p) (nI v) 4) 0 (upA F 8 p v) := by
  have b6 := hO.1
  have b3 := hO.2.1
  refine mf_ne (q := 69 + p) hO h (fun j hj => wr_place hj) (up_o (by decide)) (up_o (by decide)) (up_o (by decide)) (up_o (by decide)) (up_o (by decide)) (up_o (by decide)) (up_o (by decide)) (fun i hi => ?_) (fun j hj => ?_) (fun t' ht' => ?_) (by omega)
  · rw [if_neg (by omega), upA_c (by decide)]
    exact ⟨Nat.le_refl _, rfl⟩
  · rw [if_neg (show ¬ 66 + j = 69 + p by omega), upA_c (show (7 : Nat) ≠ 8 by decide)]
    refine ⟨rfl, ?_⟩
    rw [wr_same, upA_at]
    by_cases e : j = p
    · rw [if_pos (by omega), if_pos ⟨rfl, e⟩]
    · rw [if_neg (by omega), if_neg (fun h9 => e h9.2)]
  · rw [if_neg (by omega), upA_c (by decide)]
theorem mf_many {T : Nat → Int32} {σ : Mm} {k v : Nat} (hO : OkF F) (h : MF T (σ 4) 0 F) (hk : k < F 0 0) (hv : v ≤ F 4 k) : MF T (wr σ 4 k (nI v) 4) 0 (upA F 4 k v) := by
  have b6 := hO.1
  have b3 := hO.2.1
  refine mf_ne (q := k) hO h (fun j hj => wr_place hj) (up_o (by decide)) (up_o (by decide)) (up_o (by decide)) (up_o (by decide)) (up_o (by decide)) (up_o (by decide)) (up_o (by decide)) (fun i hi => ?_) (fun j hj => ?_) (fun t' ht' => ?_) (by omega)
  · rw [wr_same, upA_at]
    by_cases e : i = k
    · rw [if_pos ⟨rfl, e⟩, if_pos e, e]
      exact ⟨hv, rfl⟩
    · rw [if_neg (fun h9 => e h9.2), if_neg e]
      exact ⟨Nat.le_refl _, rfl⟩
  · rw [if_neg (by omega), if_neg (by omega), upA_c (by decide), upA_c (by decide)]
    exact ⟨rfl, rfl⟩
  · rw [if_neg (by omega), upA_c (by decide)]
/-- one step more for the iron i -/
def adF (F : Fg) (i h m : Nat) : Fg := fun c q => if c = 5 ∧ q = 5 * i + F 4 i then h else if c = 6 ∧ q = 5 * i + F 4 i then m else if c = 4 ∧ q = i then F 4 i + 1 else F c q
theorem ad_o {i h m c : Nat} (h4 : c ≠ 4) (h5 : c ≠ 5) (h6 : c ≠ 6) (q : Nat) : adF F i h m c q = F c q := by
  unfold adF
  rw [if_neg (fun h9 => h5 h9.1), if_neg (fun h9 => h6 h9.1), if_neg (fun h9 => h4 h9.1)]
theorem ad_4 {i h m : Nat} (q : Nat) : adF F i h m 4 q = if q = i then F 4 i + 1 else F 4 q := by
  unfold adF
  rw [if_neg (fun h9 => absurd h9.1 (by decide)), if_neg (fun h9 => absurd h9.1 (by decide))]
  by_cases e : q = i
  · rw [if_pos ⟨rfl, e⟩, if_pos e]
  · rw [if_neg (fun h9 => e h9.2), if_neg e]
theorem ad_5 {i h m : Nat} (q : Nat) : adF F i h m 5 q = if q = 5 * i + F 4 i then h else F 5 q := by
  unfold adF
  by_cases e : q = 5 * i + F 4 i
  · rw [if_pos ⟨rfl, e⟩, if_pos e]
  · rw [if_neg (fun h9 => e h9.2), if_neg (fun h9 => e h9.2), if_neg (fun h9 => absurd h9.1 (by decide)), if_neg e]
theorem ad_6 {i h m : Nat} (q : Nat) : adF F i h m 6 q = if q = 5 * i + F 4 i then m else F 6 q := by
  unfold adF
  by_cases e : q = 5 * i + F 4 i
  · rw [if_neg (fun h9 => absurd h9.1 (by decide)), if_pos ⟨rfl, e⟩, if_pos e]
  · rw [if_neg (fun h9 => e h9.2), if_neg (fun h9 => e h9.2), if_neg (fun h9 => absurd h9.1 (by decide)), if_neg e]
theorem ok_ad {i h m : Nat} (hO : OkF F) (hi : i < F 0 0) (hs : F 4 i < 5) (h1 : 100 ≤ h) (h2 : h ≤ 1400) (m1 : 1 ≤ m) (m2 : m ≤ 30) : OkF (adF F i h m) := by
  have e0 : ∀ q, adF F i h m 0 q = F 0 q := ad_o (by decide) (by decide) (by decide)
  have e2 : ∀ q, adF F i h m 2 q = F 2 q := ad_o (by decide) (by decide) (by decide)
  have e3 : ∀ q, adF F i h m 3 q = F 3 q := ad_o (by decide) (by decide) (by decide)
  have e7 : ∀ q, adF F i h m 7 q = F 7 q := ad_o (by decide) (by decide) (by decide)
  have e8 : ∀ q, adF F i h m 8 q = F 8 q := ad_o (by decide) (by decide) (by decide)
  have e9 : ∀ q, adF F i h m 9 q = F 9 q := ad_o (by decide) (by decide) (by decide)
  have e10 : ∀ q, adF F i h m 10 q = F 10 q := ad_o (by decide) (by decide) (by decide)
  obtain ⟨a1, a2, a3, a4, a5, a6, a7, a8, a9⟩ := hO
  unfold OkF
  simp only [e0, e2, e3, e7, e8, e9, e10, ad_4, ad_5, ad_6]
  refine ⟨a1, a2, fun k hk => ?_, a4, a5, a6, a7, a8, a9⟩
  obtain ⟨b1, b2, b3, b4, b5⟩ := a3 k hk
  refine ⟨b1, b2, ?_, fun s hs' => ?_, b5⟩
  · split <;> omega
  · by_cases e : 5 * k + s = 5 * i + F 4 i
    · rw [if_pos e, if_pos e]
      exact ⟨⟨h1, h2⟩, ⟨m1, m2⟩⟩
    · rw [if_neg e, if_neg e]
      refine b4 s ?_
      by_cases e1 : k = i
      · rw [if_pos e1] at hs'
        subst e1
        omega
      · rw [if_neg e1] at hs'
        exact hs'
theorem xf_ad {φ φ' : Mm} {b i h m : Nat} (hO : OkF F) (hX : XF φ b F) (hi : i < F 0 0) (hs : F 4 i < 5) (g : ∀ c, c ≠ b + 4 → c ≠ b + 5 → c ≠ b + 6 → φ' c = φ c) (g4 : ∀ q, φ' (b + 4) q = if q = i then nI (F 4 i + 1) else φ (b + 4) q) (g5 : ∀ q, φ' (b + 5) q = if q = 5 * i + F 4 i then nI h else φ (b + 5) q) (g6 : ∀ q, φ' (b + 6) q = if q = 5 * i + F 4 i then nI m else φ (b + 6) q) : XF φ' b (adF F i h m) := by
  have e0 : ∀ q, adF F i h m 0 q = F 0 q := ad_o (by decide) (by decide) (by decide)
  have e1 : ∀ q, adF F i h m 1 q = F 1 q := ad_o (by decide) (by decide) (by decide)
  have e2 : ∀ q, adF F i h m 2 q = F 2 q := ad_o (by decide) (by decide) (by decide)
  have e3 : ∀ q, adF F i h m 3 q = F 3 q := ad_o (by decide) (by decide) (by decide)
  have e7 : ∀ q, adF F i h m 7 q = F 7 q := ad_o (by decide) (by decide) (by decide)
  have e8 : ∀ q, adF F i h m 8 q = F 8 q := ad_o (by decide) (by decide) (by decide)
  have e9 : ∀ q, adF F i h m 9 q = F 9 q := ad_o (by decide) (by decide) (by decide)
  have e10 : ∀ q, adF F i h m 10 q = F 10 q := ad_o (by decide) (by decide) (by decide)
  obtain ⟨x1, x2, x3, x4, x5⟩ := hX
  unfold XF
  simp only [e0, e1, e2, e3, e7, e8, e9, e10, ad_4, ad_5, ad_6]
  rw [g b (by omega) (by omega) (by omega)]
  refine ⟨x1, x2, fun k hk => ?_, fun j hj => ?_, fun t ht => ?_⟩
  · obtain ⟨y1, y2, y3, y4, y5, y6⟩ := x3 k hk
    have b5 := (hO.2.2.1 k hk).2.2.1
    rw [g (b + 2) (by omega) (by omega) (by omega), g (b + 3) (by omega) (by omega) (by omega), g (b + 10) (by omega) (by omega) (by omega), g (b + 1) (by omega) (by omega) (by omega), g4]
    refine ⟨y1, y2, ?_, y4, fun s hs' => ?_, y6⟩
    · by_cases e : k = i
      · rw [if_pos e, if_pos e]
      · rw [if_neg e, if_neg e]; exact y3
    · rw [g5, g6]
      by_cases e : 5 * k + s = 5 * i + F 4 i
      · rw [if_pos e, if_pos e, if_pos e, if_pos e]
        exact ⟨rfl, rfl⟩
      · rw [if_neg e, if_neg e, if_neg e, if_neg e]
        refine y5 s ?_
        by_cases e9 : k = i
        · rw [if_pos e9] at hs'
          subst e9
          omega
        · rw [if_neg e9] at hs'
          exact hs'
  · rw [g (b + 7) (by omega) (by omega) (by omega), g (b + 8) (by omega) (by omega) (by omega)]
    exact x4 j hj
  · rw [g (b + 9) (by omega) (by omega) (by omega)]
    exact x5 t ht
theorem mf_ad {T N N' : Nat → Int32} {i h m : Nat} (hO : OkF F) (hM : MF T N 0 F) (hi : i < F 0 0) (hs : F 4 i < 5) (g : ∀ q, N' q = if q = i then nI (F 4 i + 1) else if q = 6 + (5 * i + F 4 i) then nI h else if q = 36 + (5 * i + F 4 i) then nI m else N q) : MF T N' 0 (adF F i h m) := by
  have b6 := hO.1
  have b3 := hO.2.1
  have e0 : ∀ q, adF F i h m 0 q = F 0 q := ad_o (by decide) (by decide) (by decide)
  have e1 : ∀ q, adF F i h m 1 q = F 1 q := ad_o (by decide) (by decide) (by decide)
  have e2 : ∀ q, adF F i h m 2 q = F 2 q := ad_o (by decide) (by decide) (by decide)
  have e3 : ∀ q, adF F i h m 3 q = F 3 q := ad_o (by decide) (by decide) (by decide)
  have e7 : ∀ q, adF F i h m 7 q = F 7 q := ad_o (by decide) (by decide) (by decide)
  have e8 : ∀ q, adF F i h m 8 q = F 8 q := ad_o (by decide) (by decide) (by decide)
  have e9 : ∀ q, adF F i h m 9 q = F 9 q := ad_o (by decide) (by decide) (by decide)
  have e10 : ∀ q, adF F i h m 10 q = F 10 q := ad_o (by decide) (by decide) (by decide)
  unfold MF at hM ⊢
  simp only [Nat.zero_add, e0, e1, e2, e3, e7, e8, e9, e10, ad_4, ad_5, ad_6] at hM ⊢
  obtain ⟨x1, x2, x3, x4, x5⟩ := hM
  refine ⟨x1, x2, fun k hk => ?_, fun j hj => ?_, fun t ht => ?_⟩
  · obtain ⟨y1, y2, y3, y4, y5, y6⟩ := x3 k hk
    have b5 := (hO.2.2.1 k hk).2.2.1
    refine ⟨y1, y2, ?_, ?_, fun s hs' => ?_, y6⟩
    · rw [g]
      by_cases e : k = i
      · rw [if_pos e, if_pos e]
      · rw [if_neg e, if_neg (by omega), if_neg (by omega), if_neg e]
        exact y3
    · rw [g, if_neg (by omega), if_neg (by omega), if_neg (by omega)]
      exact y4
    · have hs2 : s ≤ 4 := by
        by_cases e9 : k = i
        · rw [if_pos e9] at hs'; omega
        · rw [if_neg e9] at hs'; omega
      have gA : N' (6 + (5 * k + s)) = if 5 * k + s = 5 * i + F 4 i then nI h else N (6 + (5 * k + s)) := by
        rw [g, if_neg (by omega)]
        by_cases e : 5 * k + s = 5 * i + F 4 i
        · rw [if_pos (by omega), if_pos e]
        · rw [if_neg (by omega), if_neg (by omega), if_neg e]
      have gB : N' (36 + (5 * k + s)) = if 5 * k + s = 5 * i + F 4 i then nI m else N (36 + (5 * k + s)) := by
        rw [g, if_neg (by omega), if_neg (by omega)]
        by_cases e : 5 * k + s = 5 * i + F 4 i
        · rw [if_pos (by omega), if_pos e]
        · rw [if_neg (by omega), if_neg e]
      rw [gA, gB]
      by_cases e : 5 * k + s = 5 * i + F 4 i
      · simp only [if_pos e]
        exact ⟨trivial, trivial⟩
      · simp only [if_neg e]
        refine y5 s ?_
        by_cases e9 : k = i
        · rw [if_pos e9] at hs'
          subst e9
          omega
        · rw [if_neg e9] at hs'
          exact hs'
  · rw [g, g, if_neg (by omega), if_neg (by omega), if_neg (by omega), if_neg (by omega), if_neg (by omega), if_neg (by omega)]
    exact x4 j hj
  · rw [g, if_neg (by omega), if_neg (by omega), if_neg (by omega)]
    exact x5 t ht
/-- the best order is an order -/
theorem pm_st {o : Nat → Nat} {s : Option Nat × Nat × (Nat → Nat)} {n : Nat} (ho : Pm n o) (h : s.1 ≠ none → Pm n s.2.2) : (stA F o s).1 ≠ none → Pm n (stA F o s).2.2 := by
  unfold stA
  cases fnA (oF F o) 480 with
  | none => exact h
  | some e =>
    cases hs : s.1 with
    | none => exact fun _ => ho
    | some m =>
      show (if e < m then (some e, 1, o) else if e = m then (some m, s.2.1 + 1, s.2.2) else s).1 ≠ none → _
      by_cases h1 : e < m
      · simp only [if_pos h1]
        exact fun _ => ho
      · by_cases h2 : e = m
        · simp only [if_neg h1, if_pos h2]
          exact fun _ => h (by rw [hs]; exact fun h9 => by cases h9)
        · simp only [if_neg h1, if_neg h2]
          exact h
theorem pm_tr : ∀ (c : Nat) (o : Nat → Nat) (s : Option Nat × Nat × (Nat → Nat)), Pm (F 0 0) o → (s.1 ≠ none → Pm (F 0 0) s.2.2) → (trA F c o s).1 ≠ none → Pm (F 0 0) (trA F c o s).2.2
  | 0, _, _, _, h => h
  | c + 1, o, s, ho, h => by
    unfold trA
    cases hn : nxA (F 0 0) o with
    | none => exact pm_st ho h
    | some p => exact pm_tr c p (stA F o s) (pm_nx ho hn) (pm_st ho h)
theorem pm_bs (h : (bsA F).1 ≠ none) : Pm (F 0 0) (bsA F).2.2 := pm_tr 720 _ _ (pm_id _) (fun _ => pm_id _) h
end CHG1
