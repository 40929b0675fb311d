/-! what is kept for undo -/
section KEEP
theorem mf_row {T N N' : Nat → Int32} {d d' : Nat} {G : Fg} (hO : OkF G) (g : ∀ q, q < 81 → N' (d' + q) = N (d + q)) (h : MF T N d G) : MF T N' d' G := by
  have b6 := hO.1
  have b3 := hO.2.1
  obtain ⟨x1, x2, x3, x4, x5⟩ := h
  refine ⟨x1, x2, fun i hi => ?_, fun j hj => ?_, fun t ht => ?_⟩
  · obtain ⟨y1, y2, y3, y4, y5, y6⟩ := x3 i hi
    have b5 := (hO.2.2.1 i hi).2.2.1
    refine ⟨y1, y2, ?_, ?_, fun s hs => ⟨?_, ?_⟩, y6⟩
    · rw [g i (by omega)]; exact y3
    · rw [Nat.add_assoc, g (72 + i) (by omega), ← Nat.add_assoc]; exact y4
    · rw [Nat.add_assoc, g (6 + (5 * i + s)) (by omega), ← Nat.add_assoc]; exact (y5 s hs).1
    · rw [Nat.add_assoc, g (36 + (5 * i + s)) (by omega), ← Nat.add_assoc]; exact (y5 s hs).2
  · obtain ⟨y1, y2⟩ := x4 j hj
    refine ⟨?_, ?_⟩
    · rw [Nat.add_assoc, g (66 + j) (by omega), ← Nat.add_assoc]; exact y1
    · rw [Nat.add_assoc, g (69 + j) (by omega), ← Nat.add_assoc]; exact y2
  · rw [Nat.add_assoc, g (78 + t) (by omega), ← Nat.add_assoc]; exact x5 t ht
theorem ni81 (a k : Nat) : 81 * nI a + nI k = nI (81 * a + k) := by
  rw [show (81 : Int32) = nI 81 from rfl, nI_mul, nI_add]
theorem mk_22 {r : Nat → Int32} (M : Nat) : ∀ (c y N : Nat) (σ : Mm), y + c = 972 → 81 ≤ y → c + 1 + M ≤ N → (∀ i, i < 972 → σ 6 i = if i + 81 < y then r (i + 81) else r i) → ∃ N' σ', M ≤ N' ∧ b_X7_keeps_22 N (nI y) σ = b_X7_keeps_62 N' 0 (wr σ' 0 8 (σ' 0 8 - 1)) ∧ (∀ q, q ≠ 6 → σ' q = σ q) ∧ (∀ i, i + 81 < 972 → σ' 6 i = r (i + 81)) := by
  intro c
  induction c with
  | zero =>
    intro y N σ hy h81 hN h
    obtain ⟨N, rfl⟩ : ∃ N', N = N' + 1 := ⟨N - 1, by omega⟩
    obtain rfl : y = 972 := by omega
    refine ⟨N, σ, by omega, ?_, fun _ _ => rfl, fun i hi => by rw [h i (by omega), if_pos hi]⟩
    rw [e_X7_keeps_22, if_neg (by decide)]
  | succ c ih =>
    intro y N σ hy h81 hN h
    obtain ⟨N, rfl⟩ : ∃ N', N = N' + 1 := ⟨N - 1, by omega⟩
    have e1 : nI y - 81 = nI (y - 81) := nI_sub (b := 81) h81
    have ey : σ 6 y = r y := by rw [h y (by omega), if_neg (by omega)]
    rw [e_X7_keeps_22, if_pos (show nI y < 972 from nI_lt (b := 972) (by omega) (by decide)), if_pos (inb_nI (by omega) (by decide)), e1, if_pos (inb_nI (by omega) (by decide)), nI_clamp (by omega), nI_clamp (by omega), ey, nI_1]
    obtain ⟨N', σ', a1, a2, a3, a4⟩ := ih (y + 1) N (wr σ 6 (y - 81) (r y)) (by omega) (by omega) (by omega) (fun i hi => by
      by_cases e : i = y - 81
      · subst e
        rw [wr_same, if_pos (by omega), show y - 81 + 81 = y by omega]
      · rw [wr_place e, h i hi]
        by_cases hc : i + 81 < y
        · rw [if_pos hc, if_pos (by omega)]
        · rw [if_neg hc, if_neg (by omega)])
    refine ⟨N', σ', a1, a2, fun q hq => ?_, a4⟩
    rw [a3 q hq]
    funext i
    exact wr_cell hq
theorem mk_62 {b : Nat} (hb : b < 12) : ∀ (c y N : Nat) (σ : Mm), y + c = 81 → c < N → σ 0 8 = nI b → (∀ q, q < y → σ 6 (81 * b + q) = σ 4 q) → ∃ σ', b_X7_keeps_62 N (nI y) σ = some (some none, wr σ' 0 8 (nI (b + 1))) ∧ (∀ q, q ≠ 6 → σ' q = σ q) ∧ (∀ i, i < 81 * b ∨ 81 * b + 81 ≤ i → σ' 6 i = σ 6 i) ∧ (∀ q, q < 81 → σ' 6 (81 * b + q) = σ 4 q) := by
  intro c
  induction c with
  | zero =>
    intro y N σ hy hN h0 h
    obtain ⟨N, rfl⟩ : ∃ N', N = N' + 1 := ⟨N - 1, by omega⟩
    obtain rfl : y = 81 := by omega
    refine ⟨σ, ?_, fun _ _ => rfl, fun _ _ => rfl, h⟩
    rw [e_X7_keeps_62, if_neg (by decide), h0, nI_1]
  | succ c ih =>
    intro y N σ hy hN h0 h
    obtain ⟨N, rfl⟩ : ∃ N', N = N' + 1 := ⟨N - 1, by omega⟩
    rw [e_X7_keeps_62, if_pos (show nI y < 81 from nI_lt (b := 81) (by omega) (by decide)), if_pos (inb_nI (by omega) (by decide)), h0, ni81, if_pos (inb_nI (by omega) (by decide)), nI_clamp (by omega), nI_clamp (by omega), nI_1]
    obtain ⟨σ', a1, a2, a3, a4⟩ := ih (y + 1) N (wr σ 6 (81 * b + y) (σ 4 y)) (by omega) (by omega) (by rw [wr_cell (by decide)]; exact h0) (fun q hq => by
      rw [wr_cell (show (4 : Nat) ≠ 6 by decide)]
      by_cases e : q = y
      · rw [e]; exact wr_same
      · rw [wr_place (by omega)]; exact h q (by omega))
    refine ⟨σ', a1, fun q hq => ?_, fun i hi => ?_, fun q hq => ?_⟩
    · rw [a2 q hq]; funext i; exact wr_cell hq
    · rw [a3 i hi, wr_place (by omega)]
    · rw [a4 q hq, wr_cell (by decide)]
/-- the reference keeps its row -/
theorem mf_keeps {σ : Mm} {c : Nat} (hc : c ≤ 12) (h0 : σ 0 8 = nI c) : ∃ σ', f_X7_keeps [.inr (.inl 0)] σ = some (some none, σ') ∧ (∀ q, q ≠ 0 → q ≠ 6 → σ' q = σ q) ∧ (∀ j, j ≠ 8 → j ≠ 37 → j ≠ 38 → σ' 0 j = σ 0 j) ∧ σ' 0 37 = 0 ∧ σ' 0 38 = 0 ∧ σ' 0 8 = nI (min (c + 1) 12) ∧ (∀ q, q < 81 → σ' 6 (81 * (min (c + 1) 12 - 1) + q) = σ 4 q) ∧ (∀ j q, j + 1 < min (c + 1) 12 → q < 81 → σ' 6 (81 * j + q) = σ 6 (81 * (if c = 12 then j + 1 else j) + q)) := by
  rw [e_X7_keeps, h0]
  by_cases h12 : c = 12
  · subst h12
    obtain ⟨N1, σ1, a1, a2, a3, a4⟩ := mk_22 (r := σ 6) 200 (972 - 81) 81 bigM (wr (wr σ 0 37 0) 0 38 0) (by omega) (by omega) (by unfold bigM; omega) (fun i hi => by
      rw [if_neg (by omega), wr_cell (by decide), wr_cell (by decide)])
    have e8 : σ1 0 8 - 1 = nI 11 := by
      rw [a3 0 (by decide), wr_place (by decide), wr_place (by decide), h0]
      rfl
    obtain ⟨σ2, b1, b2, b3, b4⟩ := mk_62 (b := 11) (by decide) 81 0 N1 (wr σ1 0 8 (σ1 0 8 - 1)) (by omega) (by omega) (by rw [wr_same, e8]) (fun q hq => by omega)
    have a2' : b_X7_keeps_22 bigM 81 (wr (wr σ 0 37 0) 0 38 0) = _ := a2
    have b1' : b_X7_keeps_62 N1 0 (wr σ1 0 8 (σ1 0 8 - 1)) = _ := b1
    rw [if_pos (show nI 12 = 12 from rfl), a2', b1']
    refine ⟨_, rfl, fun q hq hq6 => ?_, fun j j1 j2 j3 => ?_, ?_, ?_, wr_same, fun q hq => ?_, fun j q hj hq => ?_⟩
    · funext i
      rw [wr_cell hq, b2 q hq6, wr_cell hq, a3 q hq6, wr_cell hq, wr_cell hq]
    · rw [wr_place j1, b2 0 (by decide), wr_place j1, a3 0 (by decide), wr_place j3, wr_place j2]
    · rw [wr_place (by decide), b2 0 (by decide), wr_place (by decide), a3 0 (by decide), wr_place (by decide), wr_same]
    · rw [wr_place (by decide), b2 0 (by decide), wr_place (by decide), a3 0 (by decide), wr_same]
    · rw [wr_cell (by decide)]
      refine (b4 q hq).trans ?_
      rw [wr_cell (by decide), a3 4 (by decide), wr_cell (by decide), wr_cell (by decide)]
    · rw [wr_cell (by decide), b3 _ (by omega), wr_cell (by decide), a4 _ (by omega), if_pos rfl]
      exact congrArg (σ 6) (by omega)
  · obtain ⟨σ2, b1, b2, b3, b4⟩ := mk_62 (b := c) (by omega) 81 0 bigM (wr (wr σ 0 37 0) 0 38 0) (by omega) (by unfold bigM; omega) (by rw [wr_place (by decide), wr_place (by decide)]; exact h0) (fun q hq => by omega)
    have b1' : b_X7_keeps_62 bigM 0 (wr (wr σ 0 37 0) 0 38 0) = _ := b1
    have em : min (c + 1) 12 = c + 1 := by omega
    rw [if_neg (show ¬ nI c = 12 from fun h9 => h12 ((nI_eq (b := 12) (by omega) (by decide)).mp h9)), b1', em]
    refine ⟨_, rfl, fun q hq hq6 => ?_, fun j j1 j2 j3 => ?_, ?_, ?_, wr_same, fun q hq => ?_, fun j q hj hq => ?_⟩
    · funext i
      rw [wr_cell hq, b2 q hq6, wr_cell hq, wr_cell hq]
    · rw [wr_place j1, b2 0 (by decide), wr_place j3, wr_place j2]
    · rw [wr_place (by decide), b2 0 (by decide), wr_place (by decide), wr_same]
    · rw [wr_place (by decide), b2 0 (by decide), wr_same]
    · rw [wr_cell (by decide), Nat.add_sub_cancel]
      refine (b4 q hq).trans ?_
      rw [wr_cell (by decide), wr_cell (by decide)]
    · rw [wr_cell (by decide), b3 _ (by omega), if_neg h12, wr_cell (by decide), wr_cell (by decide)]
theorem cpF_xf {a σ : Mm} {F : Fg} (hO : OkF F) (h : XF σ 32 F) : XF (cpF a (fun c => σ (32 + c))) 0 F := by
  unfold cpF
  refine cpR_xf hO ?_
  exact h
theorem kS_1 {σ : Mm} {i : Nat} (hi : i < 12) (h : σ 1 1 = nI i) : kS σ 1 1 = nI ((i + 1) % 12) := by
  unfold kS
  rw [wr_place (by decide), wr_same, h, nI_1, show (12 : Int32) = nI 12 from rfl, nI_div (by omega) (by decide) (by decide), nI_mul, nI_sub (by omega)]
  congr 1
  omega
theorem kS_2 {σ : Mm} {c : Nat} (hc : c ≤ 12) (h : σ 1 2 = nI c) : kS σ 1 2 = nI (min (c + 1) 12) := by
  unfold kS
  rw [wr_same, wr_place (by decide), h, nI_1]
  by_cases h9 : 12 < c + 1
  · rw [if_pos (show (12 : Int32) < nI (c + 1) from nI_lt (a := 12) h9 (by omega)), show min (c + 1) 12 = 12 by omega]
    rfl
  · rw [if_neg (show ¬ (12 : Int32) < nI (c + 1) from nI_nlt (a := 12) (by omega) (by decide)), show min (c + 1) 12 = c + 1 by omega]
theorem kS_o {σ : Mm} {q : Nat} (h : q ≠ 1) : kS σ q = σ q := by
  unfold kS
  funext j
  rw [wr_cell h, wr_cell h]
theorem kR_i {ρ : Nat → Mm} {σ : Mm} {n i : Nat} (h : i ≤ n) : ∃ a, kR ρ σ n i i = cpF a (fun c => σ (32 + c)) := by
  unfold kR
  by_cases e : i < n
  · rw [if_pos e]
    exact ⟨_, if_pos rfl⟩
  · have : i = n := by omega
    subst this
    rw [if_neg e]
    exact ⟨_, if_pos rfl⟩
theorem kR_o {ρ : Nat → Mm} {σ : Mm} {n i j : Nat} (h : i ≤ n) (hj : j ≠ i) : kR ρ σ n i j = ρ j := by
  unfold kR
  by_cases e : i < n
  · rw [if_pos e]
    exact if_neg hj
  · have : i = n := by omega
    subst this
    rw [if_neg e]
    show (if j = i then _ else (if j = i then _ else ρ j)) = ρ j
    rw [if_neg hj, if_neg hj]
variable {n : Nat} {ρ : Nat → Mm} {σX σM : Mm} {F : Fg}
/-- a change is kept; then the forge may become another one -/
theorem st_keep (h : St n ρ σX σM F) : ∃ i σM', i ≤ n ∧ i < 12 ∧ σX 1 1 = Int32.ofNat i ∧ f_X7_keeps [.inr (.inl 0)] σM = some (some none, σM') ∧ σM' 0 0 = σM 0 0 ∧ (∀ q, q ≠ 0 → q ≠ 6 → σM' q = σM q) ∧ (∀ q, q ≠ 0 → q ≠ 1 → fg (kS σX) q = σX q) ∧ σM' 0 40 = σM 0 40 ∧
    ∀ (σX'' σM'' : Mm) (F' : Fg), OkF F' → XF σX'' 32 F' → MF (σM'' 2) (σM'' 4) 0 F' → (∀ q, q ≤ 15 → σX'' q = fg (kS σX) q) → (∀ q, q ≠ 4 → σM'' q = σM' q) → St (kN n i) (kR ρ σX n i) σX'' σM'' F' := by
  obtain ⟨⟨hO, hX, hM, hR, hn, i, c, hi, hin, hc, e1, e2, e3, hni, hk⟩, -, -, -, -⟩ := h
  obtain ⟨σM', a1, a2, a3, a4, a5, a6, a7, a8⟩ := mf_keeps hc e3
  have gx : ∀ q, q ≠ 0 → q ≠ 1 → fg (kS σX) q = σX q := fun q h0 h1 => by
    refine Eq.trans ?_ (kS_o h1)
    unfold fg
    funext j
    rw [wr_cell h0, wr_cell h0]
  have gx1 : fg (kS σX) 1 = kS σX 1 := by
    unfold fg
    funext j
    rw [wr_cell (by decide), wr_cell (by decide)]
  refine ⟨i, σM', hin, hi, e1, a1, a3 0 (by decide) (by decide) (by decide), a2, gx, a3 40 (by decide) (by decide) (by decide), fun σX'' σM'' F' hO' hX' hM' gX gM => ?_⟩
  refine ⟨⟨hO', hX', hM', ?_, ?_⟩, Or.inl ?_, Or.inl ?_, Or.inl ?_, Or.inl ?_⟩
  · obtain ⟨m, r1, r2, r3, r4, r5⟩ := hR
    refine ⟨m, r1, ?_, ?_, fun q hq => ?_, ?_⟩
    · rw [gX 2 (by omega), gx 2 (by decide) (by decide)]; exact r2
    · rw [gM 0 (by decide), a3 2 (by decide) (by decide) (by decide)]; exact r3
    · rw [gX 3 (by omega), gx 3 (by decide) (by decide), gM 1 (by decide), a2 1 (by decide) (by decide)]; exact r4 q hq
    · rw [gX 2 (by omega), gx 2 (by decide) (by decide), gM 0 (by decide), a3 17 (by decide) (by decide) (by decide)]; exact r5
  · have hn' : kN n i = if i < n then n else n + 1 := rfl
    have hnle : kN n i ≤ 12 ∧ n ≤ kN n i ∧ i + 1 ≤ kN n i := by rw [hn']; split <;> omega
    refine ⟨hnle.1, (i + 1) % 12, min (c + 1) 12, by omega, by omega, by omega, ?_, ?_, ?_, fun h12 => ?_, fun j hj => ?_⟩
    · rw [gX 1 (by omega), gx1]; exact kS_1 hi e1
    · rw [gX 1 (by omega), gx1]; exact kS_2 hc e2
    · rw [gM 0 (by decide)]; exact a6
    · have h1 : n < 12 := by omega
      have h2 := hni h1
      have h3 : i < 11 := by
        rw [hn'] at h12
        by_cases e : i < n
        · omega
        · rw [if_neg e] at h12; omega
      rw [Nat.mod_eq_of_lt (by omega)]
      omega
    · rw [gM 2 (by decide), a2 2 (by decide) (by decide), gM 6 (by decide)]
      by_cases hlast : j + 1 = min (c + 1) 12
      · have es : ((i + 1) % 12 + 12 - min (c + 1) 12 + j) % 12 = i := by omega
        obtain ⟨a, ea⟩ := kR_i (ρ := ρ) (σ := σX) hin
        rw [es, ea]
        refine ⟨F, hO, cpF_xf hO hX, mf_row hO (d := 0) (fun q hq => ?_) hM⟩
        rw [show j = min (c + 1) 12 - 1 by omega, a7 q hq, Nat.zero_add]
      · have hj1 : j + 1 < min (c + 1) 12 := by omega
        have hjo : (if c = 12 then j + 1 else j) < c := by split <;> omega
        obtain ⟨G, g1, g2, g3⟩ := hk (if c = 12 then j + 1 else j) hjo
        have es : ((i + 1) % 12 + 12 - min (c + 1) 12 + j) % 12 = (i + 12 - c + (if c = 12 then j + 1 else j)) % 12 := by split <;> omega
        have ne : (i + 12 - c + (if c = 12 then j + 1 else j)) % 12 ≠ i := by split <;> omega
        rw [es, kR_o hin ne]
        exact ⟨G, g1, g2, mf_row g1 (fun q hq => a8 j q hj1 hq) g3⟩
  · rw [gX 0 (by omega)]
    unfold fg
    rw [wr_place (by decide), wr_same]
  · rw [gX 0 (by omega)]
    unfold fg
    rw [wr_same]
  · rw [gM 0 (by decide)]; exact a4
  · rw [gM 0 (by decide)]; exact a5
end KEEP
