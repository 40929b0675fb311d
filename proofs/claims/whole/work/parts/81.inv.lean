/-! the invariant -/
def Rb (c r : Int32) : Prop := (∃ k, k < 128 ∧ c = nI k ∧ r = nI k) ∨ (c < 0 ∧ 127 < r)
def Rd (σX σM : Mm) : Prop := ∃ m, m ≤ 900 ∧ σX 2 3 = nI m ∧ σM 0 2 = nI m ∧ (∀ i, i < m → Rb (σX 3 i) (σM 1 i)) ∧ σX 2 4 = σM 0 17
def Ktp (n : Nat) (ρ : Nat → Mm) (σX σM : Mm) : Prop := n ≤ 12 ∧ ∃ i c, i < 12 ∧ i ≤ n ∧ c ≤ 12 ∧ σX 1 1 = nI i ∧ σX 1 2 = nI c ∧ σM 0 8 = nI c ∧ (n < 12 → c ≤ i) ∧ ∀ j, j < c → ∃ G, OkF G ∧ XF (ρ ((i + 12 - c + j) % 12)) 0 G ∧ MF (σM 2) (σM 6) (81 * j) G
def Co (n : Nat) (ρ : Nat → Mm) (σX σM : Mm) (F : Fg) : Prop := OkF F ∧ XF σX 32 F ∧ MF (σM 2) (σM 4) 0 F ∧ Rd σX σM ∧ Ktp n ρ σX σM
def LG (σX : Mm) (F : Fg) : Prop := σX 0 7 = 0 ∨ (σX 0 7 = 1 ∧ WL (pk (sgC 16 27) σX) F 480)
def BS (σX : Mm) (F : Fg) : Prop := σX 0 8 = 0 ∨ (σX 0 8 = 1 ∧ Bx (pk (sgC 43 25) σX) F (bsA F))
def RN (σM : Mm) (F : Fg) : Prop := σM 0 37 = 0 ∨ (σM 0 37 = 1 ∧ RR σM F)
def TR (σM : Mm) (F : Fg) : Prop := σM 0 38 = 0 ∨ (σM 0 38 = 1 ∧ Bm σM F (bsA F))
def St (n : Nat) (ρ : Nat → Mm) (σX σM : Mm) (F : Fg) : Prop := Co n ρ σX σM F ∧ LG σX F ∧ BS σX F ∧ RN σM F ∧ TR σM F
def Inv (n : Nat) (ρ : Nat → Mm) (σX σM : Mm) : Prop := ∃ F, St n ρ σX σM F
section INV
variable {n : Nat} {ρ : Nat → Mm} {σX σM σX' σM' : Mm} {F : Fg}
theorem co_x (h : Co n ρ σX σM F) (h1 : ∀ c, 1 ≤ c → c ≤ 15 → σX' c = σX c) (h2 : XF σX' 32 F) : Co n ρ σX' σM F := by
  obtain ⟨a, b, c, d, e⟩ := h
  refine ⟨a, h2, c, ?_, ?_⟩
  · unfold Rd at d ⊢
    rw [h1 2 (by omega) (by omega), h1 3 (by omega) (by omega)]
    exact d
  · unfold Ktp at e ⊢
    rw [h1 1 (by omega) (by omega)]
    exact e
theorem co_m (h : Co n ρ σX σM F) (h1 : ∀ c, 1 ≤ c → c ≤ 6 → σM' c = σM c) (h2 : σM' 0 2 = σM 0 2) (h8 : σM' 0 8 = σM 0 8) (h17 : σM' 0 17 = σM 0 17) : Co n ρ σX σM' F := by
  obtain ⟨a, b, c, d, e⟩ := h
  refine ⟨a, b, ?_, ?_, ?_⟩
  · rw [h1 2 (by omega) (by omega), h1 4 (by omega) (by omega)]
    exact c
  · unfold Rd at d ⊢
    rw [h1 1 (by omega) (by omega), h2, h17]
    exact d
  · unfold Ktp at e ⊢
    rw [h1 2 (by omega) (by omega), h1 6 (by omega) (by omega), h8]
    exact e
/-- the reference, where its rows and its best order stay -/
theorem st_m (h : St n ρ σX σM F) (h1 : ∀ c, (1 ≤ c ∧ c ≤ 6) ∨ (15 ≤ c ∧ c ≤ 21) → σM' c = σM c) (h2 : ∀ j, j ≠ 0 → j ≠ 21 → j ≠ 22 → j ≠ 23 → σM' 0 j = σM 0 j) : St n ρ σX σM' F := by
  obtain ⟨a, b, c, d, e⟩ := h
  refine ⟨co_m a (fun q h9 h8 => h1 q (by omega)) (h2 2 (by decide) (by decide) (by decide) (by decide)) (h2 8 (by decide) (by decide) (by decide) (by decide)) (h2 17 (by decide) (by decide) (by decide) (by decide)), b, c, ?_, ?_⟩
  · unfold RN RR at d ⊢
    rw [h2 37 (by decide) (by decide) (by decide) (by decide), h1 15 (by omega), h1 16 (by omega), h1 17 (by omega), h1 18 (by omega), h1 19 (by omega), h1 20 (by omega)]
    exact d
  · unfold TR Bm at e ⊢
    rw [h2 38 (by decide) (by decide) (by decide) (by decide), h2 40 (by decide) (by decide) (by decide) (by decide), h2 41 (by decide) (by decide) (by decide) (by decide), h1 21 (by omega)]
    exact e
theorem st_thr (v : Int32) (h : St n ρ σX σM F) : St n ρ σX (wr σM 0 0 v) F :=
  st_m h (fun c hc => by funext j; exact wr_cell (by omega)) (fun j h0 _ _ _ => wr_place h0)
theorem bx_pk {β β' : Mm} {s : Option Nat × Nat × (Nat → Nat)} (h : ∀ c, c = 43 ∨ c = 44 → β' c = β c) (hB : Bx (pk (sgC 43 25) β) F s) : Bx (pk (sgC 43 25) β') F s := by
  refine bx_eq ?_ ?_ hB
  · rw [pkC, pkC]; exact h 43 (Or.inl rfl)
  · rw [pkC, pkC]; exact h 44 (Or.inr rfl)
/-- the class, where the trial's cells alone change -/
theorem st_x (h : St n ρ σX σM F) (h1 : ∀ c, 1 ≤ c → c ≤ 44 → σX' c = σX c) (h0 : σX' 0 = σX 0) : St n ρ σX' σM F := by
  obtain ⟨a, b, c, d, e⟩ := h
  refine ⟨co_x a (fun q h9 h8 => h1 q h9 (by omega)) (XF_eq (fun q j h9 h8 => by rw [h1 q (by omega) (by omega)]) a.2.1), ?_, ?_, d, e⟩
  · unfold LG WL at b ⊢
    rw [h0]
    rcases b with b | ⟨b, l1, l2, l3, l4⟩
    · exact Or.inl b
    · refine Or.inr ⟨b, ?_, ?_, ?_, xr_ext (fun q hq => ?_) l4⟩
      · rw [pkC, h1 17 (by omega) (by omega)]; exact l1
      · rw [pkC, h1 18 (by omega) (by omega)]; exact l2
      · rw [pkC, h1 19 (by omega) (by omega)]; exact l3
      · rw [pkC, pkC, pkC, pkC, h1 _ (by omega) (by omega)]
  · unfold BS at c ⊢
    rw [h0]
    rcases c with c | ⟨c, l⟩
    · exact Or.inl c
    · exact Or.inr ⟨c, bx_pk (fun q hq => h1 q (by omega) (by omega)) l⟩
theorem wl_xf {l : Mm} (h : WL l F 480) : XF l 16 F := h.2.2.2.1
/-- the log is there -/
theorem st_log (h : St n ρ σX σM F) : ∃ σX', f_X6_presentLog [.inr (.inl 0)] σX = some (some (some (.inr (.inl 16))), σX') ∧ St n ρ σX' σM F ∧ WL (pk (sgC 16 27) σX') F 480 := by
  obtain ⟨a, b, c, d, e⟩ := h
  rw [e_X6_presentLog]
  rcases b with b | ⟨b, l⟩
  · have hX : XF (pk (sgC 16 27) σX) 16 F := a.2.1
    obtain ⟨l', w1, w2⟩ := lg_write a.1 hX
    have g : ∀ q, q < 27 → pk (sgC 16 27) (wr (put (sgC 16 27) σX l') 0 7 1) q = l' q := fun q hq => by
      rw [pkC]
      funext j
      rw [wr_cell (by omega), putC_in hq]
    have w3 : WL (pk (sgC 16 27) (wr (put (sgC 16 27) σX l') 0 7 1)) F 480 := by
      obtain ⟨l1, l2, l3, l4⟩ := w2
      refine ⟨?_, ?_, ?_, xr_ext (fun q hq => ?_) l4⟩
      · rw [g 1 (by omega)]; exact l1
      · rw [g 2 (by omega)]; exact l2
      · rw [g 3 (by omega)]; exact l3
      · rw [pkC (b := 4), g (4 + q) (by omega)]
        rfl
    rw [if_pos b, w1, onV_s]
    refine ⟨_, rfl, ⟨co_x a (fun q h1 h2 => ?_) ?_, Or.inr ⟨wr_same, w3⟩, ?_, d, e⟩, w3⟩
    · funext j
      rw [wr_cell (by omega), putC_out (by omega)]
    · have := wl_xf w3
      exact this
    · unfold BS at c ⊢
      have e8 : (wr (put (sgC 16 27) σX l') 0 7 1) 0 8 = σX 0 8 := by rw [wr_place (by decide), putC_out (by omega)]
      rw [e8]
      rcases c with c | ⟨c, l9⟩
      · exact Or.inl c
      · refine Or.inr ⟨c, bx_pk (fun q hq => ?_) l9⟩
        funext j
        rw [wr_cell (by omega), putC_out (by omega)]
  · rw [if_neg (by rw [b]; decide)]
    exact ⟨σX, rfl, ⟨a, Or.inr ⟨b, l⟩, c, d, e⟩, l⟩
/-- the reference's rows are there -/
theorem st_run (h : St n ρ σX σM F) : ∃ σM', f_X7_runs [.inr (.inl 0)] σM = some (some none, σM') ∧ St n ρ σX σM' F ∧ RR σM' F ∧ σM' 0 0 = σM 0 0 ∧ (∀ c, 1 ≤ c → c ≤ 6 → σM' c = σM c) := by
  obtain ⟨a, b, c, d, e⟩ := h
  obtain ⟨σM', r1, r2, r3, r4⟩ := mf_runs a.1 a.2.2.1 d
  refine ⟨σM', r1, ⟨co_m a (fun q h1 h2 => r2.1 q (by omega)) (r2.2 2 (by decide) (by decide) (by decide) (by decide)) (r2.2 8 (by decide) (by decide) (by decide) (by decide)) (r2.2 17 (by decide) (by decide) (by decide) (by decide)), b, c, Or.inr ⟨r3, r4⟩, ?_⟩, r4, r2.2 0 (by decide) (by decide) (by decide) (by decide), fun q h1 h2 => r2.1 q (by omega)⟩
  unfold TR Bm at e ⊢
  rw [r2.2 38 (by decide) (by decide) (by decide) (by decide), r2.2 40 (by decide) (by decide) (by decide) (by decide), r2.2 41 (by decide) (by decide) (by decide) (by decide), r2.1 21 (by omega)]
  exact e
end INV
