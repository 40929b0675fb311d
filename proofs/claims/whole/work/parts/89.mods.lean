/-! a forge with one number changed -/
theorem pp1 (σ τ : Mm) : put sg0 σ τ = σ := rfl
section MODS
variable {F : Fg} {φ : Mm} {b : Nat}
theorem ok_s0 {v : Nat} (hO : OkF F) (h1 : 1 ≤ v) (h2 : v ≤ 3) : OkF (upA F 9 0 v) := by
  obtain ⟨a1, a2, a3, a4, a5, a6, a7, a8, a9⟩ := hO
  exact ⟨a1, a2, a3, a4, a5, ⟨h1, h2⟩, a7, a8, a9⟩
theorem ok_s1 {v : Nat} (hO : OkF F) (h2 : v ≤ 500) : OkF (upA F 9 1 v) := by
  obtain ⟨a1, a2, a3, a4, a5, a6, a7, a8, a9⟩ := hO
  exact ⟨a1, a2, a3, a4, a5, a6, h2, a8, a9⟩
theorem ok_s2 {v : Nat} (hO : OkF F) (h2 : v ≤ 2) : OkF (upA F 9 2 v) := by
  obtain ⟨a1, a2, a3, a4, a5, a6, a7, a8, a9⟩ := hO
  exact ⟨a1, a2, a3, a4, a5, a6, a7, h2, a9⟩
theorem ok_rate {v p : Nat} (hO : OkF F) (h1 : 1 ≤ v) (h2 : v ≤ 2000) : OkF (upA F 7 p v) := by
  obtain ⟨a1, a2, a3, a4, a5, a6, a7, a8, a9⟩ := hO
  refine ⟨a1, a2, a3, a4, fun j hj => ?_, a6, a7, a8, a9⟩
  obtain ⟨b1, b2⟩ := a5 j hj
  refine ⟨?_, b2⟩
  rw [upA_at]
  split
  · exact ⟨h1, h2⟩
  · exact b1
theorem ok_many {v k : Nat} (hO : OkF F) (h : k < F 0 0 → v ≤ F 4 k) : OkF (upA F 4 k v) := by
  obtain ⟨a1, a2, a3, a4, a5, a6, a7, a8, a9⟩ := hO
  refine ⟨a1, a2, fun i hi => ?_, a4, a5, a6, a7, a8, a9⟩
  obtain ⟨b1, b2, b3, b4, b5⟩ := a3 i hi
  have hle : upA F 4 k v 4 i ≤ F 4 i := by
    rw [upA_at]
    split
    · rename_i e
      rw [e.2]
      exact h (e.2 ▸ hi)
    · exact Nat.le_refl _
  exact ⟨b1, b2, Nat.le_trans hle b3, fun s hs => b4 s (Nat.lt_of_lt_of_le hs hle), b5⟩
theorem xf_s {t v : Nat} (h : XF φ b F) : XF (wr φ (b + 9) t (nI v)) b (upA F 9 t v) := by
  obtain ⟨x1, x2, x3, x4, x5⟩ := h
  refine ⟨by rw [wr_cell (by omega)]; exact x1, by rw [wr_cell (by omega)]; exact x2, fun i hi => ?_, fun j hj => ?_, fun t' ht => ?_⟩
  · rw [wr_cell (by omega), wr_cell (by omega), wr_cell (by omega), wr_cell (by omega), wr_cell (k' := b + 1) (by omega)]
    obtain ⟨y1, y2, y3, y4, y5, y6⟩ := x3 i hi
    refine ⟨y1, y2, y3, y4, fun s hs => ?_, y6⟩
    rw [wr_cell (by omega), wr_cell (by omega)]
    exact y5 s hs
  · rw [wr_cell (by omega), wr_cell (by omega)]
    exact x4 j hj
  · rw [wr_at, upA_at]
    by_cases e : t' = t
    · rw [if_pos ⟨rfl, e⟩, if_pos ⟨rfl, e⟩]
    · rw [if_neg (fun h9 => e h9.2), if_neg (fun h9 => e h9.2)]
      exact x5 t' ht
theorem xf_rate {p v : Nat} (h : XF φ b F) : XF (wr φ (b + 7) p (nI v)) b (upA F 7 p v) := by
  obtain ⟨x1, x2, x3, x4, x5⟩ := h
  refine ⟨by rw [wr_cell (by omega)]; exact x1, by rw [wr_cell (by omega)]; exact x2, fun i hi => ?_, fun j hj => ?_, fun t' ht => ?_⟩
  · rw [wr_cell (by omega), wr_cell (by omega), wr_cell (by omega), wr_cell (by omega), wr_cell (k' := b + 1) (by omega)]
    obtain ⟨y1, y2, y3, y4, y5, y6⟩ := x3 i hi
    refine ⟨y1, y2, y3, y4, fun s hs => ?_, y6⟩
    rw [wr_cell (by omega), wr_cell (by omega)]
    exact y5 s hs
  · rw [wr_at, upA_at, wr_cell (by omega)]
    refine ⟨?_, (x4 j hj).2⟩
    by_cases e : j = p
    · rw [if_pos ⟨rfl, e⟩, if_pos ⟨rfl, e⟩]
    · rw [if_neg (fun h9 => e h9.2), if_neg (fun h9 => e h9.2)]
      exact (x4 j hj).1
  · rw [wr_cell (by omega)]
    exact x5 t' ht
theorem xf_many {k v : Nat} (h : XF φ b F) (hk : k < F 0 0 → v ≤ F 4 k) : XF (wr φ (b + 4) k (nI v)) b (upA F 4 k v) := by
  obtain ⟨x1, x2, x3, x4, x5⟩ := h
  refine ⟨by rw [wr_cell (by omega)]; exact x1, by rw [wr_cell (by omega)]; exact x2, fun i hi => ?_, fun j hj => ?_, fun t' ht => ?_⟩
  · rw [wr_cell (by omega), wr_cell (by omega), wr_at, wr_cell (by omega), wr_cell (k' := b + 1) (by omega)]
    obtain ⟨y1, y2, y3, y4, y5, y6⟩ := x3 i hi
    refine ⟨y1, y2, ?_, y4, fun s hs => ?_, y6⟩
    · rw [upA_at]
      by_cases e : i = k
      · rw [if_pos ⟨rfl, e⟩, if_pos ⟨rfl, e⟩]
      · rw [if_neg (fun h9 => e h9.2), if_neg (fun h9 => e h9.2)]
        exact y3
    · rw [wr_cell (by omega), wr_cell (by omega)]
      refine y5 s (Nat.lt_of_lt_of_le hs ?_)
      rw [upA_at]
      split
      · rename_i e
        rw [e.2]
        exact hk (e.2 ▸ hi)
      · exact Nat.le_refl _
  · rw [wr_cell (by omega), wr_cell (by omega)]
    exact x4 j hj
  · rw [wr_cell (by omega)]
    exact x5 t' ht
/-- a row of the reference, but for one place -/
theorem mf_ne {T N N' : Nat → Int32} {q : Nat} {F' : Fg} (hO : OkF F) (h : MF T N 0 F) (hN : ∀ j, j ≠ q → N' j = N j) (h0 : F' 0 = F 0) (h1 : F' 1 = F 1) (h2 : F' 2 = F 2) (h3 : F' 3 = F 3) (h5 : F' 5 = F 5) (h6 : F' 6 = F 6) (h10 : F' 10 = F 10)
    (g4 : ∀ i, i < F 0 0 → F' 4 i ≤ F 4 i ∧ (if i = q then N' q = nI (F' 4 i) else F' 4 i = F 4 i)) (g7 : ∀ j, j < F 0 1 → (if 66 + j = q then N' q = nI (F' 7 j) else F' 7 j = F 7 j) ∧ (if 69 + j = q then N' q = nI (F' 8 j) else F' 8 j = F 8 j)) (g9 : ∀ t, t < 3 → if 78 + t = q then N' q = nI (F' 9 t) else F' 9 t = F 9 t) (hq : q < 6 ∨ (66 ≤ q ∧ q < 72) ∨ 78 ≤ q) : MF T N' 0 F' := by
  have b6 := hO.1
  have b3 := hO.2.1
  unfold MF at h ⊢
  simp only [Nat.zero_add] at h ⊢
  rw [h0, h1, h2, h3, h5, h6, h10]
  obtain ⟨x1, x2, x3, x4, x5⟩ := h
  refine ⟨x1, x2, fun i hi => ?_, fun j hj => ?_, fun t ht => ?_⟩
  · obtain ⟨y1, y2, y3, y4, y5, y6⟩ := x3 i hi
    obtain ⟨a1, a2⟩ := g4 i hi
    have b5 := (hO.2.2.1 i hi).2.2.1
    refine ⟨y1, y2, ?_, ?_, fun s hs => ?_, y6⟩
    · by_cases e : i = q
      · rw [if_pos e] at a2
        rw [e] at a2 ⊢
        exact a2
      · rw [if_neg e] at a2
        rw [hN i e, a2]
        exact y3
    · rw [hN _ (by omega)]
      exact y4
    · rw [hN _ (by omega), hN _ (by omega)]
      exact y5 s (by omega)
  · obtain ⟨a1, a2⟩ := g7 j hj
    obtain ⟨y1, y2⟩ := x4 j hj
    refine ⟨?_, ?_⟩
    · by_cases e : 66 + j = q
      · rw [if_pos e] at a1
        rw [e]
        exact a1
      · rw [if_neg e] at a1
        rw [hN _ e, a1]
        exact y1
    · by_cases e : 69 + j = q
      · rw [if_pos e] at a2
        rw [e]
        exact a2
      · rw [if_neg e] at a2
        rw [hN _ e, a2]
        exact y2
  · have a1 := g9 t ht
    by_cases e : 78 + t = q
    · rw [if_pos e] at a1
      rw [e]
      exact a1
    · rw [if_neg e] at a1
      rw [hN _ e, a1]
      exact x5 t ht
theorem up_o {c k v q : Nat} (h : q ≠ c) : upA F c k v q = F q := by
  funext i
  exact upA_c h
theorem mf_s {T : Nat → Int32} {σ : Mm} {t v : Nat} (hO : OkF F) (h : MF T (σ 4) 0 F) (ht : t < 3) : MF T (wr σ 4 (78 + t) (nI v) 4) 0 (upA F 9 t v) := by
  have b6 := hO.1
  have b3 := hO.2.1
  refine mf_ne (q := 78 + t) hO h (fun j hj => wr_place hj) (up_o (by decide)) (up_o (by decide)) (up_o (by decide)) (up_o (by decide)) (up_o (by decide)) (up_o (by decide)) (up_o (by decide)) (fun i hi => ?_) (fun j hj => ?_) (fun t' ht' => ?_) (by omega)
  · rw [if_neg (by omega), upA_c (by decide)]
    exact ⟨Nat.le_refl _, rfl⟩
  · rw [if_neg (by omega), if_neg (by omega), upA_c (by decide), upA_c (by decide)]
    exact ⟨rfl, rfl⟩
  · rw [wr_same, upA_at]
    by_cases e : t' = t
    · rw [if_pos (by omega), if_pos ⟨rfl, e⟩]
    · rw [if_neg (by omega), if_neg (fun h9 => e h9.2)]
theorem mf_rate {T : Nat → Int32} {σ : Mm} {p v : Nat} (hO : OkF F) (h : MF T (σ 4) 0 F) (hp : p < F 0 1) : MF T (wr σ 4 (66 + p) (nI v) 4) 0 (upA F 7 p v) := by
  have b6 := hO.1
  have b3 := hO.2.1
  refine mf_ne (q := 66 + p) hO h (fun j hj => wr_place hj) (up_o (by decide)) (up_o (by decide)) (up_o (by decide)) (up_o (by decide)) (up_o (by decide)) (up_o (by decide)) (up_o (by decide)) (fun i hi => ?_) (fun j hj => ?_) (fun t' ht' => ?_) (by omega)
  · rw [if_neg (by omega), upA_c (by decide)]
    exact ⟨Nat.le_refl _, rfl⟩
  · rw [if_neg (show ¬ 69 + j = 66 + p by omega), upA_c (show (8 : Nat) ≠ 7 by decide)]
    refine ⟨?_, rfl⟩
    rw [wr_same, upA_at]
    by_cases e : j = p
    · rw [if_pos (by omega), if_pos ⟨rfl, e⟩]
    · rw [if_neg (by omega), if_neg (fun h9 => e h9.2)]
  · rw [if_neg (by omega), upA_c (by decide)]
theorem orF_cg {F' : Fg} (h : F' 10 = F 10) : ∀ (c j : Nat), orF F' j c = orF F j c
  | 0, _ => rfl
  | c + 1, j => by
    show F' 10 j :: orF F' (j + 1) c = F 10 j :: orF F (j + 1) c
    rw [h, orF_cg h c (j + 1)]
theorem orL_cg {F' : Fg} (h : F' 10 = F 10) (h0 : F' 0 = F 0) : orL F' = orL F := by
  unfold orL
  rw [h0]
  exact orF_cg h _ _
end MODS
section WITH
variable {x : Nat → Int32} {n : Nat} {ρ : Nat → Mm} {σX σM : Mm} {F F' : Fg}
theorem st_if (h : St n ρ σX σM F) {p : Nat} {y : Int32} (hp : p < 81) (hO : OkF F') (hM : MF (σM 2) (wr σM 4 p y 4) 0 F') : ∃ σM', f_X7_endsIf [.inr (.inl 0), .inl (nI p), .inl y] σM = some (some (some (.inl (opI (fnA F' 480)))), σM') ∧ St n ρ σX σM' F ∧ σM' 0 0 = σM 0 0 ∧ (∀ c, 1 ≤ c → c ≤ 6 → σM' c = σM c) := by
  have hi : inb (nI p) 81 = true := inb_nI hp (by decide)
  have hM' : MF ((wr σM 4 p y) 2) ((wr σM 4 p y) 4) 0 F' := by
    have : (wr σM 4 p y) 2 = σM 2 := by funext i; exact wr_cell (by decide)
    rw [this]
    exact hM
  obtain ⟨σ1, a1, a2, a3⟩ := mf_orders hO hM'
  obtain ⟨σ2, b1, b2⟩ := mf_ends hO (kp_all F') a2
  have g : ∀ c, (1 ≤ c ∧ c ≤ 6) ∨ (15 ≤ c ∧ c ≤ 21) → wr σ2 4 p (σM 4 p) c = σM c := by
    intro c hc
    funext j
    rw [wr_at]
    by_cases e : c = 4 ∧ j = p
    · rw [if_pos e, e.1, e.2]
    · rw [if_neg e, b2 c j (by omega), a3 c j (by omega) (by omega), wr_at, if_neg e]
  refine ⟨wr σ2 4 p (σM 4 p), ?_, st_m h g (fun j h0 h1 h2 h3 => ?_), ?_, fun c h1 h2 => g c (by omega)⟩
  · rw [e_X7_endsIf, if_pos hi, if_pos hi, nI_clamp (by omega), a1, onV_s, b1, onI_s, if_pos hi]
  · rw [wr_cell (by decide), b2 0 j (by omega), a3 0 j (by decide) (fun _ => ⟨h1, h2, h3⟩), wr_cell (by decide)]
  · rw [wr_cell (by decide), b2 0 0 (by omega), a3 0 0 (by decide) (fun _ => by decide), wr_cell (by decide)]
theorem st_mar (h : St n ρ σX σM F) {m : Nat} (hm : m ≤ 500) : ∃ σM', f_X7_endsWith [.inr (.inl 0), .inl (nI m)] σM = some (some (some (.inl (opI (fnA (upA F 9 1 m) 480)))), σM') ∧ St n ρ σX σM' F ∧ σM' 0 0 = σM 0 0 ∧ (∀ c, 1 ≤ c → c ≤ 6 → σM' c = σM c) := by
  have hO := h.1.1
  have hO' := ok_s1 hO hm
  obtain ⟨σ1, a1, a2, a3⟩ := mf_orders hO h.1.2.2.1
  have e1 : orL (upA F 9 1 m) = orL F := orL_cg (up_o (by decide)) (up_o (by decide))
  have hC : MC (wr σ1 0 22 (nI m)) (upA F 9 1 m) (orL (upA F 9 1 m)) (F 0 1) 9 := by
    rw [e1]
    obtain ⟨⟨c1, c2, c3, c4⟩, c5, c6, c7, c8, c9⟩ := a2
    have w2 : (wr σ1 0 22 (nI m)) 2 = σ1 2 := by funext i; exact wr_cell (by decide)
    have w4 : (wr σ1 0 22 (nI m)) 4 = σ1 4 := by funext i; exact wr_cell (by decide)
    have w7 : (wr σ1 0 22 (nI m)) 7 = σ1 7 := by funext i; exact wr_cell (by decide)
    refine ⟨⟨by rw [wr_place (by decide)]; exact c1, c2, by rw [w7]; exact c3, fun k hk => ?_⟩, ⟨c5.1, by rw [w2]; exact c5.2.1, by rw [wr_place (by decide)]; exact c5.2.2.1, c5.2.2.2⟩, fun j hj => ?_, by rw [w4]; exact c7, by rw [w4]; exact c8, wr_same⟩
    · obtain ⟨m1, m2⟩ := c4 k hk
      refine ⟨?_, m2⟩
      unfold MI at m1 ⊢
      rw [w2, w4]
      exact m1
    · rw [w4]
      exact c6 j hj
  obtain ⟨σ2, b1, b2⟩ := mf_ends hO' (kp_all _) hC
  have g : ∀ c, (1 ≤ c ∧ c ≤ 6) ∨ (15 ≤ c ∧ c ≤ 21) → σ2 c = σM c := by
    intro c hc
    funext j
    rw [b2 c j (by omega), wr_cell (by omega), a3 c j (by omega) (by omega)]
  refine ⟨σ2, ?_, st_m h g (fun j h0 h1 h2 h3 => ?_), ?_, fun c h1 h2 => g c (by omega)⟩
  · rw [e_X7_endsWith, a1, onV_s, b1, onI_s]
  · rw [b2 0 j (by omega), wr_place h2, a3 0 j (by decide) (fun _ => ⟨h1, h2, h3⟩)]
  · rw [b2 0 0 (by omega), wr_place (by decide), a3 0 0 (by decide) (fun _ => by decide)]
/-- the class's trial: a copy, changed, and run -/
theorem xt_copy (h : St n ρ σX σM F) : ∃ τ, f_X2_copyFrom [.inr (.inl 0), .inr (.inl 11)] (pk (sg2 57 32 11) σX) = some (some none, τ) ∧ XF (put (sg2 57 32 11) σX τ) 57 F ∧ ∀ c, c < 45 → put (sg2 57 32 11) σX τ c = σX c := by
  obtain ⟨τ, a1, a2, a3⟩ := x_copy (a := 57) (b := 32) (by omega) h.1.1 h.1.2.1
  exact ⟨τ, a1, a2, fun c hc => a3 c (by omega)⟩
theorem st_tr {σX' : Mm} (h : St n ρ σX σM F) (g : ∀ c, c < 45 → σX' c = σX c) : St n ρ σX' σM F := st_x h (fun c h1 h2 => g c (by omega)) (g 0 (by omega))
def setOk (t v : Nat) : Bool := decide ((t = 0 ∧ 1 ≤ v ∧ v ≤ 3) ∨ (t = 1 ∧ v ≤ 500) ∨ (t = 2 ∧ v ≤ 2))
theorem ok_set {t v : Nat} (hO : OkF F) (h : setOk t v = true) : OkF (upA F 9 t v) := by
  unfold setOk at h
  rw [decide_eq_true_iff] at h
  rcases h with ⟨rfl, h1, h2⟩ | ⟨rfl, h1⟩ | ⟨rfl, h1⟩
  · exact ok_s0 hO h1 h2
  · exact ok_s1 hO h1
  · exact ok_s2 hO h1
theorem le_iff {y : Int32} {a b : Nat} (ha : a < 2 ^ 31) (hb : b < 2 ^ 31) : (nI a ≤ y ∧ y ≤ nI b) ↔ ∃ v, a ≤ v ∧ v ≤ b ∧ y = nI v := by
  constructor
  · rintro ⟨h1, h2⟩
    have h0 : ¬ y < 0 := fun h9 => by
      have := Int32.lt_of_le_of_lt h1 h9
      exact nI_pos ha this
    obtain ⟨v, hv, rfl⟩ := nI_of h0
    exact ⟨v, (nI_leI ha hv).mp h1, (nI_leI hv hb).mp h2, rfl⟩
  · rintro ⟨v, h1, h2, rfl⟩
    exact ⟨(nI_leI ha (by omega)).mpr h1, (nI_leI (by omega) hb).mpr h2⟩
theorem sp_setval {t : Nat} (ht : t < 3) (y : Int32) (σ : Mm) : ∃ b : Bool, f_X6_isSettingValue [.inl (nI t), .inl y] σ = some (some (some (.inl (if b = true then 1 else 0))), σ) ∧ (b = true ↔ ∃ v, setOk t v = true ∧ y = nI v) := by
  have hi : inb (nI t) 3 = true := inb_nI ht (by decide)
  have hk : (stv 0 t ≤ y ∧ y ≤ stv 1 t) ↔ ∃ v, setOk t v = true ∧ y = nI v := by
    rcases (show t = 0 ∨ t = 1 ∨ t = 2 by omega) with rfl | rfl | rfl
    · refine (le_iff (a := 1) (b := 3) (by decide) (by decide)).trans ?_
      constructor
      · rintro ⟨v, h1, h2, h3⟩
        exact ⟨v, decide_eq_true (Or.inl ⟨rfl, h1, h2⟩), h3⟩
      · rintro ⟨v, h1, h3⟩
        have := of_decide_eq_true h1
        exact ⟨v, by omega, by omega, h3⟩
    · refine (le_iff (a := 0) (b := 500) (by decide) (by decide)).trans ?_
      constructor
      · rintro ⟨v, h1, h2, h3⟩
        exact ⟨v, decide_eq_true (Or.inr (Or.inl ⟨rfl, h2⟩)), h3⟩
      · rintro ⟨v, h1, h3⟩
        have := of_decide_eq_true h1
        exact ⟨v, by omega, by omega, h3⟩
    · refine (le_iff (a := 0) (b := 2) (by decide) (by decide)).trans ?_
      constructor
      · rintro ⟨v, h1, h2, h3⟩
        exact ⟨v, decide_eq_true (Or.inr (Or.inr ⟨rfl, h2⟩)), h3⟩
      · rintro ⟨v, h1, h3⟩
        have := of_decide_eq_true h1
        exact ⟨v, by omega, by omega, h3⟩
  refine ⟨decide (stv 0 t ≤ y ∧ y ≤ stv 1 t), ?_, by rw [decide_eq_true_iff]; exact hk⟩
  rw [e_X6_isSettingValue, sp_isSet, if_pos hi, onI_s, if_neg (show ¬ (1 : Int32) = 0 by decide), if_pos hi, if_pos hi, nI_clamp (by omega), sp_isWithin, onI_s]
  by_cases h : stv 0 t ≤ y ∧ y ≤ stv 1 t
  · rw [if_pos h, if_neg (show ¬ (1 : Int32) = 0 by decide), decide_eq_true h, if_pos rfl]
  · rw [if_neg h, if_pos rfl, decide_eq_false h, if_neg (by decide)]
theorem xw_set (h : St n ρ σX σM F) {t : Nat} (ht : t < 3) (y : Int32) : ((¬ ∃ v, setOk t v = true ∧ y = nI v) ∧ f_X6_finishWithSetting [.inr (.inl 0), .inl (nI t), .inl y] σX = some (some (some (.inl (-2))), σX)) ∨ ∃ v σX', setOk t v = true ∧ y = nI v ∧ f_X6_finishWithSetting [.inr (.inl 0), .inl (nI t), .inl y] σX = some (some (some (.inl (opI (fnA (upA F 9 t v) 480)))), σX') ∧ St n ρ σX' σM F := by
  have hi : inb (nI t) 3 = true := inb_nI ht (by decide)
  obtain ⟨b, hb1, hb2⟩ := sp_setval ht y σX
  rw [e_X6_finishWithSetting]
  have hb1' : f_X6_isSettingValue [.inl (nI t), .inl y] (pk sg0 σX) = _ := hb1
  rw [hb1', onI_s, pp1]
  cases b with
  | false =>
    left
    refine ⟨fun h9 => (by have := hb2.mpr h9; cases this), ?_⟩
    rw [if_neg (show ¬ false = true by decide), if_pos rfl]
  | true =>
    right
    obtain ⟨v, hv, e9⟩ := hb2.mp rfl
    obtain ⟨τ, c1, c2, c3⟩ := xt_copy h
    have hX := xf_s (t := t) (v := v) c2
    obtain ⟨τ2, d1, d2, d3⟩ := xt_end (m := 480) (ok_set h.1.1 hv) hX (by decide)
    have d1' : f_X5_endWithin [.inr (.inl 0), .inl 480] (pk (sgC 45 23) (wr (put (sg2 57 32 11) σX τ) 66 t (nI v))) = _ := d1
    refine ⟨v, put (sgC 45 23) (wr (put (sg2 57 32 11) σX τ) 66 t (nI v)) τ2, hv, e9, ?_, st_tr h (fun c hc => ?_)⟩
    · rw [if_pos rfl, if_neg (show ¬ (1 : Int32) = 0 by decide), c1, onV_s, if_pos hi, nI_clamp (by omega), e9, d1', onI_s]
    · have d3' : ∀ c, c < 45 → put (sgC 45 23) (wr (put (sg2 57 32 11) σX τ) 66 t (nI v)) τ2 c = (wr (put (sg2 57 32 11) σX τ) 66 t (nI v)) c := d3
      rw [d3' c hc]
      funext j
      rw [wr_cell (by omega), c3 c hc]
theorem gg_33 (h : St n ρ σX σM F) : go_33 x n ρ σX σM Inv := by
  unfold go_33 GP
  have e1 : f_X6_finishWithSetting [.inr (.inl 0), .inl 1, .inl (x 1)] σX = f_X6_finishWithSetting [.inr (.inl 0), .inl (nI 1), .inl (x 1)] σX := rfl
  have hm : f_X7_isMargin [.inl (x 1)] (pk sg0 (wr σM 0 0 0)) = some (some (some (.inl (if inb (x 1) 501 = true then 1 else 0))), wr σM 0 0 0) := by
    rw [e_X7_isMargin]
    by_cases h1 : x 1 < 0
    · rw [if_pos h1, if_neg (fun h9 => ((lt_inb (by decide)).mpr h9).1 h1)]; rfl
    · rw [if_neg h1]
      obtain ⟨t, ht, e9⟩ := nI_of h1
      rw [e9]
      by_cases h2 : t < 501
      · rw [if_neg (show ¬ (500 : Int32) < nI t from nI_nlt (a := 500) (by omega) (by omega)), if_pos (inb_nI h2 (by decide))]; rfl
      · rw [if_pos (show (500 : Int32) < nI t from nI_lt (a := 500) (by omega) ht), if_neg (fun h9 => nI_nlt (a := t) (b := 501) (by omega) ht ((lt_inb (by decide)).mpr h9).2)]; rfl
  rw [e_X6_finishWithMargin, e1, e_X7_finishWithMargin, hm, onI_s, pp1]
  rcases xw_set h (t := 1) (by decide) (x 1) with ⟨a1, a2⟩ | ⟨v, σX', a1, a2, a3, a4⟩
  · have : ¬ inb (x 1) 501 = true := fun h9 => by
      obtain ⟨v, hv, e⟩ := (inb_out (by decide)).mp h9
      exact a1 ⟨v, decide_eq_true (Or.inr (Or.inl ⟨rfl, by omega⟩)), e⟩
    rw [a2, onI_s, if_neg this, if_pos rfl]
    exact ⟨-2, σX, wr σM 0 0 0, rfl, rfl, F, st_thr 0 h⟩
  · have hv : v ≤ 500 := by have := of_decide_eq_true a1; omega
    obtain ⟨σM', b1, b2, b3, b4⟩ := st_mar (st_thr 0 a4) hv
    rw [a3, onI_s, a2, if_pos (inb_nI (by omega) (by decide)), if_neg (show ¬ (1 : Int32) = 0 by decide), b1, onI_s]
    exact ⟨_, σX', σM', rfl, rfl, F, b2⟩
theorem gg_52 (h : St n ρ σX σM F) : go_52 x n ρ σX σM Inv := by
  unfold go_52 GP
  have e1 : f_X6_finishWithSetting [.inr (.inl 0), .inl 0, .inl (x 1)] σX = f_X6_finishWithSetting [.inr (.inl 0), .inl (nI 0), .inl (x 1)] σX := rfl
  rw [e_X6_finishWithAnvils, e1, e_X7_finishWithAnvils]
  rcases xw_set h (t := 0) (by decide) (x 1) with ⟨a1, a2⟩ | ⟨v, σX', a1, a2, a3, a4⟩
  · rw [a2, onI_s]
    refine ⟨-2, σX, wr σM 0 0 0, rfl, ?_, F, st_thr 0 h⟩
    by_cases h1 : x 1 < 1
    · rw [if_pos h1]
    · rw [if_neg h1]
      by_cases h2 : 3 < x 1
      · rw [if_pos h2]
      · exfalso
        obtain ⟨v, b1, b2, b3⟩ := (le_iff (a := 1) (b := 3) (by decide) (by decide)).mp ⟨Int32.not_lt.mp h1, Int32.not_lt.mp h2⟩
        exact a1 ⟨v, decide_eq_true (Or.inl ⟨rfl, b1, b2⟩), b3⟩
  · have hv : 1 ≤ v ∧ v ≤ 3 := by have := of_decide_eq_true a1; omega
    have hs := st_thr 0 a4
    obtain ⟨σM', b1, b2, b3, b4⟩ := st_if hs (p := 78) (y := nI v) (by decide) (ok_s0 h.1.1 hv.1 hv.2) (mf_s (t := 0) h.1.1 hs.1.2.2.1 (by decide))
    have b1' : f_X7_endsIf [.inr (.inl 0), .inl 78, .inl (nI v)] (wr σM 0 0 0) = _ := b1
    rw [a3, onI_s, a2, if_neg (show ¬ nI v < 1 from nI_nlt (b := 1) hv.1 (by omega)), if_neg (show ¬ (3 : Int32) < nI v from nI_nlt (a := 3) hv.2 (by omega)), b1', onI_s]
    exact ⟨_, σX', σM', rfl, rfl, F, b2⟩
theorem gg_54 (h : St n ρ σX σM F) : go_54 x n ρ σX σM Inv := by
  have hO := h.1.1
  have h3 := hO.2.1
  unfold go_54 GT
  rw [e_X6_finishWithRate, sp_reqPlace (by omega) h.1.2.1.2.1, e_X7_finishWithRate, sm_isPlace (by omega) h.1.2.2.1.2.1, onI_s, sm_checks, onI_s]
  by_cases hi : inb (x 1) (F 0 1) = true
  · left
    obtain ⟨p, hp, e9⟩ := (inb_out (by omega)).mp hi
    simp only [if_pos hi, onV_s]
    rw [sp_isWithin, onI_s, pp1, if_neg (show ¬ (1 : Int32) = 0 by decide)]
    by_cases hr : 1 ≤ x 2 ∧ x 2 ≤ 2000
    · obtain ⟨v, hv1, hv2, e8⟩ := (le_iff (a := 1) (b := 2000) (by decide) (by decide)).mp hr
      obtain ⟨τ, c1, c2, c3⟩ := xt_copy h
      have hX := xf_rate (p := p) (v := v) c2
      obtain ⟨τ2, d1, d2, d3⟩ := xt_end (m := 480) (ok_rate (p := p) hO hv1 hv2) hX (by decide)
      have d1' : f_X5_endWithin [.inr (.inl 0), .inl 480] (pk (sgC 45 23) (wr (put (sg2 57 32 11) σX τ) 64 p (nI v))) = _ := d1
      have hSt : St n ρ (put (sgC 45 23) (wr (put (sg2 57 32 11) σX τ) 64 p (nI v)) τ2) σM F := st_tr h (fun c hc => by
        have d3' : ∀ c, c < 45 → put (sgC 45 23) (wr (put (sg2 57 32 11) σX τ) 64 p (nI v)) τ2 c = (wr (put (sg2 57 32 11) σX τ) 64 p (nI v)) c := d3
        rw [d3' c hc]
        funext j
        rw [wr_cell (by omega), c3 c hc])
      have hs := st_thr 0 hSt
      obtain ⟨σM', b1, b2, b3, b4⟩ := st_if hs (p := 66 + p) (y := nI v) (by omega) (ok_rate (p := p) hO hv1 hv2) (mf_rate hO hs.1.2.2.1 hp)
      rw [if_pos hr, if_neg (show ¬ (1 : Int32) = 0 by decide), c1, onV_s, e9, e8, if_pos (inb_nI (by omega) (by decide)), nI_clamp (by omega), d1', onI_s, if_neg (show ¬ nI v < 1 from nI_nlt (b := 1) hv1 (by omega)), if_neg (show ¬ (2000 : Int32) < nI v from nI_nlt (a := 2000) hv2 (by decide)), n66, b1, onI_s]
      exact ⟨_, _, σM', rfl, rfl, by rw [b3]; exact wr_same, F, b2⟩
    · rw [if_neg hr, if_pos rfl]
      refine ⟨-2, σX, wr σM 0 0 0, rfl, ?_, wr_same, F, st_thr 0 h⟩
      by_cases h1 : x 2 < 1
      · rw [if_pos h1]
      · rw [if_neg h1]
        by_cases h2 : 2000 < x 2
        · rw [if_pos h2]
        · exact absurd ⟨Int32.not_lt.mp h1, Int32.not_lt.mp h2⟩ hr
  · right
    simp only [if_neg hi, onV_t]
    exact ⟨0, σX, wr σM 0 0 1, rfl, rfl, wr_same, F, st_thr 1 h⟩
theorem gg_32 (h : St n ρ σX σM F) : go_32 x n ρ σX σM Inv := by
  have hO := h.1.1
  have h6 := hO.1
  unfold go_32 GT
  obtain ⟨m, hm⟩ : ∃ m, bigM = m + 1 := ⟨bigM - 1, rfl⟩
  have c0 := sm_checks (σ := σM) false
  rw [if_neg (by decide), if_neg (by decide)] at c0
  have c1 := sm_checks (σ := σM) true
  rw [if_pos rfl, if_pos rfl] at c1
  rw [e_X6_finishWithSwap, sp_reqIron hO.1 h.1.2.1.1, e_X7_finishWithSwap, sm_isIron hO.1 h.1.2.2.1.1, onI_s, sm_isIron hO.1 h.1.2.2.1.1, onI_s]
  by_cases hi : inb (x 1) (F 0 0) = true
  · rw [if_pos hi, onV_s, sp_reqIron hO.1 h.1.2.1.1, if_pos hi, if_neg (show ¬ (1 : Int32) = 0 by decide)]
    by_cases hj : inb (x 2) (F 0 0) = true
    · left
      obtain ⟨i, hi9, e9⟩ := (inb_out (by omega)).mp hi
      obtain ⟨j, hj9, e8⟩ := (inb_out (by omega)).mp hj
      rw [if_pos hj, onV_s, if_pos hj, if_neg (show ¬ (1 : Int32) = 0 by decide), hm, e_X7_finishWithSwap_22, c1, onI_s, if_neg (show ¬ (1 : Int32) = 0 by decide), e9, e8]
      have hP := pm_sw (ok_pm hO) hi9 hj9
      have hO' := ok_oF hO hP
      -- the class
      obtain ⟨τ, a1, a2, a3⟩ := xt_copy h
      have i1 : inb (nI i) 6 = true := inb_nI (by omega) (by decide)
      have i2 : inb (nI j) 6 = true := inb_nI (by omega) (by decide)
      have ex : f_X2_exchange [.inr (.inl 0), .inl (nI i), .inl (nI j)] (pk (sgC 57 11) (put (sg2 57 32 11) σX τ)) = some (some none, wr (wr (pk (sgC 57 11) (put (sg2 57 32 11) σX τ)) 10 i (pk (sgC 57 11) (put (sg2 57 32 11) σX τ) 10 j)) 10 j (pk (sgC 57 11) (put (sg2 57 32 11) σX τ) 10 i)) := by
        rw [e_X2_exchange, if_pos i1, if_pos i2, if_pos i1, if_pos i2, nI_clamp (by omega), nI_clamp (by omega)]
      generalize hτ4 : wr (wr (pk (sgC 57 11) (put (sg2 57 32 11) σX τ)) 10 i (pk (sgC 57 11) (put (sg2 57 32 11) σX τ) 10 j)) 10 j (pk (sgC 57 11) (put (sg2 57 32 11) σX τ) 10 i) = τ4 at ex
      have hX : XF (put (sgC 57 11) (put (sg2 57 32 11) σX τ) τ4) 57 (oF F (swA (F 10) i j)) := by
        refine xf_oF (fun c h1 h2 => ?_) a2 ?_
        · obtain ⟨d, rfl⟩ : ∃ d, c = 57 + d := ⟨c - 57, by omega⟩
          rw [putC_in (by omega), ← hτ4]
          funext q
          rw [wr_cell (by omega), wr_cell (by omega), pkC]
        · have e67 : put (sgC 57 11) (put (sg2 57 32 11) σX τ) τ4 (57 + 10) = τ4 10 := putC_in (by omega)
          rw [e67, ← hτ4]
          exact ov_sw (σ := pk (sgC 57 11) (put (sg2 57 32 11) σX τ)) (c := 10) (fun k hk => (a2.2.2.1 k hk).2.2.2.1) hi9 hj9
      obtain ⟨τ5, d1, d2, d3⟩ := xt_end (m := 480) hO' hX (by decide)
      have d1' : f_X5_endWithin [.inr (.inl 0), .inl 480] (pk (sgC 45 23) (put (sgC 57 11) (put (sg2 57 32 11) σX τ) τ4)) = _ := d1
      have hSt : St n ρ (put (sgC 45 23) (put (sgC 57 11) (put (sg2 57 32 11) σX τ) τ4) τ5) σM F := st_tr h (fun c hc => by
        rw [d3 c hc, putC_out (by omega), a3 c hc])
      -- the reference
      obtain ⟨σ1, b1, b2, b3, b4, b5, b6⟩ := st_ord hSt 0
      obtain ⟨σ2, f1, f2, f3⟩ := ma_exch h6 b6 hi9 hj9
      have e0 : oF F (F 10) = F := by
        funext c k
        unfold oF
        split
        · rename_i h9; rw [h9]
        · rfl
      have hC : MC σ2 (oF F (swA (F 10) i j)) (orL (oF F (swA (F 10) i j))) (F 0 1) 9 := mc_o hO (ok_pm hO) hP (σ := σ1) (by rw [e0]; exact b2) (fun q _ => by rw [f2 0 (by decide)]) (f2 2 (by decide)) (f2 4 (by decide)) f3
      obtain ⟨σM', g1, g2, g3, -⟩ := st_ends hSt hO' (kp_all _) hC (fun c hc => by rw [f2 c (by omega), b3 c hc]) (fun q h0 h1 h2 h3 => by rw [f2 0 (by decide), b4 q h0 h1 h2 h3])
      rw [a1, onV_s, ex, onV_s, d1', onI_s, b1, onV_s, f1, onV_s, g1, onI_s]
      exact ⟨_, _, σM', rfl, rfl, by rw [g3, f2 0 (by decide), b5], F, g2⟩
    · right
      rw [if_neg hj, onV_t, if_neg hj, if_pos rfl, hm, e_X7_finishWithSwap_22, c0, onI_s, if_pos rfl]
      exact ⟨0, σX, wr σM 0 0 1, rfl, rfl, wr_same, F, st_thr 1 h⟩
  · right
    rw [if_neg hi, onV_t, if_neg hi, if_pos rfl, hm, e_X7_finishWithSwap_22, c0, onI_s, if_pos rfl]
    exact ⟨0, σX, wr σM 0 0 1, rfl, rfl, wr_same, F, st_thr 1 h⟩
end WITH
