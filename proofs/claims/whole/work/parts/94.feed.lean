/-! feed -/
section FEED
theorem i32_nat (y : Int32) : y = nI y.toBitVec.toNat := by
  apply Int32.toBitVec_inj.1
  show y.toBitVec = BitVec.ofNat 32 y.toBitVec.toNat
  simp
theorem bx_and (a b : Nat) : nI a &&& nI b = nI (a &&& b) := by
  apply Int32.toBitVec_inj.1
  show BitVec.ofNat 32 a &&& BitVec.ofNat 32 b = BitVec.ofNat 32 (a &&& b)
  exact BitVec.ofNat_and.symm
theorem bx_b (x : Int32) : x.toInt8.toInt32 &&& 255 = x &&& 255 := by
  apply Int32.toBitVec_inj.mp
  rw [Int32.toBitVec_and, Int32.toBitVec_and, Int8.toBitVec_toInt32, Int32.toBitVec_toInt8]
  apply BitVec.eq_of_getLsbD_eq
  intro i hi
  rw [BitVec.getLsbD_and, BitVec.getLsbD_and]
  have hm : ∀ i < 32, 8 ≤ i → (255 : Int32).toBitVec.getLsbD i = false := by decide
  rcases Nat.lt_or_ge i 8 with z | z
  · rw [BitVec.getLsbD_signExtend, BitVec.getLsbD_signExtend, if_pos z, if_pos hi]
    simp only [z, hi, decide_true, Bool.true_and]
  · rw [hm i hi z]; simp
theorem rb_byte (v : Int32) : Rb v.toInt8.toInt32 (v &&& 255) := by
  rw [← bx_b]
  have h1 : v.toInt8.toInt32.toInt = v.toInt8.toInt := Int8.toInt_toInt32 _
  have h2 : -128 ≤ v.toInt8.toInt := Int8.le_toInt _
  have h3 : v.toInt8.toInt < 128 := Int8.toInt_lt _
  rw [← h1] at h2 h3
  generalize v.toInt8.toInt32 = y at h2 h3 ⊢
  have e := i32_nat y
  have hc : y.toInt = if 2 * y.toBitVec.toNat < 2 ^ 32 then (y.toBitVec.toNat : Int) else (y.toBitVec.toNat : Int) - (2 ^ 32 : Nat) := BitVec.toInt_eq_toNat_cond _
  have ht : y.toBitVec.toNat < 2 ^ 32 := BitVec.isLt _
  generalize y.toBitVec.toNat = t at e hc ht
  have ea : y &&& 255 = nI (t % 256) := by
    rw [e, show (255 : Int32) = nI 255 from rfl, bx_and, show (255 : Nat) = 2 ^ 8 - 1 from rfl, Nat.and_two_pow_sub_one_eq_mod]
  rw [ea]
  by_cases h0 : 2 * t < 2 ^ 32
  · rw [if_pos h0] at hc
    left
    refine ⟨t, by omega, e, ?_⟩
    rw [Nat.mod_eq_of_lt (by omega)]
  · rw [if_neg h0] at hc
    right
    refine ⟨?_, ?_⟩
    · rw [Int32.lt_iff_toInt_lt]
      have z : (0 : Int32).toInt = 0 := by decide
      omega
    · exact nI_lt (a := 127) (by omega) (by omega)
def by8 (y : Int32) (i : Nat) : Int32 := y >>> (nI (24 - 8 * i) &&& 31)
theorem x_app1 {σ : Mm} {y : Int32} {m N s : Nat} (hs : s < 2 ^ 31) (hm : m < 900) (h0 : σ 0 3 = nI m) : b_X4_append_3 (N + 1) y (nI s) σ = b_X4_append_3 N y (nI s + (-8)) (wr (wr σ 1 m ((y >>> (nI s &&& 31)).toInt8.toInt32)) 0 3 (nI (m + 1))) := by
  rw [e_X4_append_3, if_neg (nI_pos hs), h0, if_pos (show nI m < 900 from nI_lt (b := 900) hm (by decide)), if_pos (by rw [Int8.toInt8_toInt32]), if_pos (inb_nI hm (by decide)), nI_clamp (by omega), nI_1]
theorem x_app {σ : Mm} (y : Int32) {m : Nat} (hm : m + 4 ≤ 900) (h0 : σ 0 3 = nI m) : ∃ σ', f_X4_append [.inr (.inl 0), .inl y] σ = some (some none, σ') ∧ σ' 0 3 = nI (m + 4) ∧ (∀ i, i < 4 → σ' 1 (m + i) = (by8 y i).toInt8.toInt32) ∧ (∀ q, q < m → σ' 1 q = σ 1 q) ∧ (∀ j, j ≠ 3 → σ' 0 j = σ 0 j) ∧ (∀ c, c ≠ 0 → c ≠ 1 → σ' c = σ c) := by
  obtain ⟨M, hM⟩ : ∃ M, bigM = M + 1 + 1 + 1 + 1 + 1 := ⟨bigM - 5, rfl⟩
  have k1 : nI 24 + (-8) = nI 16 := by decide
  have k2 : nI 16 + (-8) = nI 8 := by decide
  have k3 : nI 8 + (-8) = nI 0 := by decide
  have e24 : f_X4_append [.inr (.inl 0), .inl y] σ = b_X4_append_3 bigM y (nI 24) σ := e_X4_append y σ
  refine ⟨wr (wr (wr (wr (wr (wr (wr (wr σ 1 m ((y >>> (nI 24 &&& 31)).toInt8.toInt32)) 0 3 (nI (m + 1))) 1 (m + 1) ((y >>> (nI 16 &&& 31)).toInt8.toInt32)) 0 3 (nI (m + 1 + 1))) 1 (m + 1 + 1) ((y >>> (nI 8 &&& 31)).toInt8.toInt32)) 0 3 (nI (m + 1 + 1 + 1))) 1 (m + 1 + 1 + 1) ((y >>> (nI 0 &&& 31)).toInt8.toInt32)) 0 3 (nI (m + 1 + 1 + 1 + 1)), ?_, wr_same, fun i hi => ?_, fun q hq => ?_, fun j hj => ?_, fun c h1 h2 => ?_⟩
  · rw [e24, hM, x_app1 (by decide) (by omega) h0, k1, x_app1 (m := m + 1) (by decide) (by omega) wr_same, k2, x_app1 (m := m + 1 + 1) (by decide) (by omega) wr_same, k3, x_app1 (m := m + 1 + 1 + 1) (by decide) (by omega) wr_same, e_X4_append_3, if_pos (by decide)]
  · unfold by8
    rcases (show i = 0 ∨ i = 1 ∨ i = 2 ∨ i = 3 by omega) with rfl | rfl | rfl | rfl
    · rw [wr_cell (by decide), wr_place (by omega), wr_cell (by decide), wr_place (by omega), wr_cell (by decide), wr_place (by omega), wr_cell (by decide)]
      exact wr_same
    · rw [wr_cell (by decide), wr_place (by omega), wr_cell (by decide), wr_place (by omega), wr_cell (by decide)]
      exact wr_same
    · rw [wr_cell (by decide), wr_place (by omega), wr_cell (by decide)]
      exact wr_same
    · rw [wr_cell (by decide)]
      exact wr_same
  · rw [wr_cell (by decide), wr_place (by omega), wr_cell (by decide), wr_place (by omega), wr_cell (by decide), wr_place (by omega), wr_cell (by decide), wr_place (by omega)]
  · rw [wr_place hj, wr_cell (by decide), wr_place hj, wr_cell (by decide), wr_place hj, wr_cell (by decide), wr_place hj, wr_cell (by decide)]
  · funext j
    rw [wr_cell h1, wr_cell h2, wr_cell h1, wr_cell h2, wr_cell h1, wr_cell h2, wr_cell h1, wr_cell h2]
/-- the same in the whole class -/
theorem x_fd {σ : Mm} (x : Nat → Int32) {m j : Nat} (hm : m + 4 * j + 4 ≤ 900) (h0 : σ 2 3 = nI (m + 4 * j)) (hb : ∀ i, i < 4 * j → σ 3 (m + i) = (by8 (x (i / 4 + 1)) (i % 4)).toInt8.toInt32) : ∃ τ, f_X4_append [.inr (.inl 0), .inl (x (j + 1))] (pk (sgC 2 14) σ) = some (some none, τ) ∧ τ 0 3 = nI (m + 4 * (j + 1)) ∧ put (sgC 2 14) σ τ 2 3 = nI (m + 4 * (j + 1)) ∧ (∀ i, i < 4 * (j + 1) → put (sgC 2 14) σ τ 3 (m + i) = (by8 (x (i / 4 + 1)) (i % 4)).toInt8.toInt32) ∧ (∀ q, q < m → put (sgC 2 14) σ τ 3 q = σ 3 q) ∧ (∀ q, q ≠ 3 → put (sgC 2 14) σ τ 2 q = σ 2 q) ∧ (∀ c, c ≠ 2 → c ≠ 3 → put (sgC 2 14) σ τ c = σ c) := by
  obtain ⟨τ, a1, a2, a3, a4, a5, a6⟩ := x_app (σ := pk (sgC 2 14) σ) (x (j + 1)) hm h0
  have p0 : put (sgC 2 14) σ τ 2 = τ 0 := putC_in (b := 2) (j := 0) (by omega)
  have p1 : put (sgC 2 14) σ τ 3 = τ 1 := putC_in (b := 2) (j := 1) (by omega)
  refine ⟨τ, a1, a2, ?_, fun i hi => ?_, fun q hq => ?_, fun q hq => ?_, fun c h1 h2 => ?_⟩
  · rw [p0]; exact a2
  · rw [p1]
    by_cases h9 : i < 4 * j
    · rw [a4 (m + i) (by omega)]
      exact hb i h9
    · obtain ⟨d, rfl⟩ : ∃ d, i = 4 * j + d := ⟨i - 4 * j, by omega⟩
      rw [show (4 * j + d) / 4 + 1 = j + 1 by omega, show (4 * j + d) % 4 = d by omega, ← Nat.add_assoc]
      exact a3 d (by omega)
  · rw [p1, a4 q (by omega)]; rfl
  · rw [p0, a5 q hq]; rfl
  · by_cases hc : 2 ≤ c ∧ c < 16
    · obtain ⟨d, rfl⟩ : ∃ d, c = 2 + d := ⟨c - 2, by omega⟩
      rw [putC_in (by omega), a6 d (by omega) (by omega)]; rfl
    · exact putC_out (by omega)
theorem sh_eq : ∀ k, k < 20 → (24 : Int32) - 8 * (nI k - nI k / 4 * 4) = nI (24 - 8 * (k % 4)) := by decide +kernel
theorem m_fd1 {x : Nat → Int32} {k m N : Nat} {σ : Mm} (hk : k < 20) (hm : m + 20 ≤ 900) (h0 : σ 0 2 = nI m) : b_X7_feed_24 (N + 1 + 1) (x 1) (x 2) (x 3) (x 4) (x 5) (nI k) σ = b_X7_feed_24 N (x 1) (x 2) (x 3) (x 4) (x 5) (nI (k + 1)) (wr σ 1 (m + k) (by8 (x (k / 4 + 1)) (k % 4) &&& 255)) := by
  have g : ∀ y, b_X7_feed_77 (N + 1) (x 1) (x 2) (x 3) (x 4) (x 5) (nI k) y σ = b_X7_feed_24 N (x 1) (x 2) (x 3) (x 4) (x 5) (nI (k + 1)) (wr σ 1 (m + k) (by8 y (k % 4) &&& 255)) := fun y => by
    rw [e_X7_feed_77, h0, nI_add, if_pos (inb_nI (by omega) (by decide)), nI_clamp (by omega), nI_1, sh_eq k hk]
    rfl
  have lt : ∀ v : Nat, v < 100 → ((nI k < nI v) ↔ k < v) := fun v hv => nI_ltI (by omega) (by omega)
  rw [e_X7_feed_24, if_pos (show nI k < 20 from nI_lt (b := 20) hk (by decide)), g, g, g, g, g]
  by_cases h4 : k < 4
  · rw [if_pos (show nI k < 4 from (lt 4 (by decide)).mpr h4), show k / 4 + 1 = 1 by omega]
  · rw [if_neg (show ¬ nI k < 4 from fun h9 => h4 ((lt 4 (by decide)).mp h9))]
    by_cases h8 : k < 8
    · rw [if_pos (show nI k < 8 from (lt 8 (by decide)).mpr h8), show k / 4 + 1 = 2 by omega]
    · rw [if_neg (show ¬ nI k < 8 from fun h9 => h8 ((lt 8 (by decide)).mp h9))]
      by_cases h12 : k < 12
      · rw [if_pos (show nI k < 12 from (lt 12 (by decide)).mpr h12), show k / 4 + 1 = 3 by omega]
      · rw [if_neg (show ¬ nI k < 12 from fun h9 => h12 ((lt 12 (by decide)).mp h9))]
        by_cases h16 : k < 16
        · rw [if_pos (show nI k < 16 from (lt 16 (by decide)).mpr h16), show k / 4 + 1 = 4 by omega]
        · rw [if_neg (show ¬ nI k < 16 from fun h9 => h16 ((lt 16 (by decide)).mp h9)), show k / 4 + 1 = 5 by omega]
theorem m_fd {x : Nat → Int32} {m : Nat} (hm : m + 20 ≤ 900) : ∀ (c k N : Nat) (σ : Mm), k + c = 20 → 2 * c < N → σ 0 2 = nI m → (∀ i, i < k → σ 1 (m + i) = by8 (x (i / 4 + 1)) (i % 4) &&& 255) → ∃ σ', b_X7_feed_24 N (x 1) (x 2) (x 3) (x 4) (x 5) (nI k) σ = some (some (some (.inl (nI (m + 20)))), wr σ' 0 2 (nI (m + 20))) ∧ (∀ q, q ≠ 1 → σ' q = σ q) ∧ (∀ i, i < 20 → σ' 1 (m + i) = by8 (x (i / 4 + 1)) (i % 4) &&& 255) ∧ (∀ q, q < m → σ' 1 q = σ 1 q) := by
  intro c
  induction c with
  | zero =>
    intro k N σ hk hN h0 hb
    obtain ⟨N, rfl⟩ : ∃ N', N = N' + 1 := ⟨N - 1, by omega⟩
    obtain rfl : k = 20 := by omega
    refine ⟨σ, ?_, fun _ _ => rfl, hb, fun _ _ => rfl⟩
    rw [e_X7_feed_24, if_neg (by decide), h0, show nI m + 20 = nI (m + 20) from nI_add m 20]
  | succ c ih =>
    intro k N σ hk hN h0 hb
    obtain ⟨N, rfl⟩ : ∃ N', N = N' + 1 + 1 := ⟨N - 2, by omega⟩
    rw [m_fd1 (by omega) hm h0]
    obtain ⟨σ', a1, a2, a3, a4⟩ := ih (k + 1) N (wr σ 1 (m + k) (by8 (x (k / 4 + 1)) (k % 4) &&& 255)) (by omega) (by omega) (by rw [wr_cell (by decide)]; exact h0) (fun i hi => by
      by_cases e : i = k
      · rw [e]; exact wr_same
      · rw [wr_place (by omega)]; exact hb i (by omega))
    refine ⟨σ', a1, fun q hq => ?_, a3, fun q hq => ?_⟩
    · rw [a2 q hq]; funext i; exact wr_cell hq
    · rw [a4 q hq, wr_place (by omega)]
variable {x : Nat → Int32} {n : Nat} {ρ : Nat → Mm} {σX σM σX' σM' : Mm} {F : Fg}
/-- where the reader alone changes -/
theorem st_rd (h : St n ρ σX σM F) (g : ∀ c, c < 2 ∨ 15 < c → σX' c = σX c) (gm : ∀ c, c = 2 ∨ c = 4 ∨ c = 6 ∨ (15 ≤ c ∧ c ≤ 21) → σM' c = σM c) (g0 : ∀ j, j = 8 ∨ j = 37 ∨ j = 38 ∨ j = 40 ∨ j = 41 → σM' 0 j = σM 0 j) (hR : Rd σX' σM') : St n ρ σX' σM' F := by
  obtain ⟨⟨hO, hX, hM, -, hK⟩, b, c, d, e⟩ := h
  refine ⟨⟨hO, XF_eq (fun q j h1 h2 => by rw [g q (by omega)]) hX, by rw [gm 2 (by omega), gm 4 (by omega)]; exact hM, hR, ?_⟩, ?_, ?_, ?_, ?_⟩
  · unfold Ktp at hK ⊢
    rw [g 1 (by omega), g0 8 (by omega), gm 2 (by omega), gm 6 (by omega)]
    exact hK
  · unfold LG WL at b ⊢
    rw [g 0 (by omega)]
    rcases b with b | ⟨b, l1, l2, l3, l4⟩
    · exact Or.inl b
    · refine Or.inr ⟨b, ?_, ?_, ?_, xr_ext (fun q hq => ?_) l4⟩
      · rw [pkC, g 17 (by omega)]; exact l1
      · rw [pkC, g 18 (by omega)]; exact l2
      · rw [pkC, g 19 (by omega)]; exact l3
      · rw [pkC, pkC, pkC, pkC, g _ (by omega)]
  · unfold BS at c ⊢
    rw [g 0 (by omega)]
    rcases c with c | ⟨c, l⟩
    · exact Or.inl c
    · exact Or.inr ⟨c, bx_pk (fun q hq => g q (by omega)) l⟩
  · unfold RN RR at d ⊢
    rw [g0 37 (by omega), gm 15 (by omega), gm 16 (by omega), gm 17 (by omega), gm 18 (by omega), gm 19 (by omega), gm 20 (by omega)]
    exact d
  · unfold TR Bm at e ⊢
    rw [g0 38 (by omega), g0 40 (by omega), g0 41 (by omega), gm 21 (by omega)]
    exact e
theorem gg_0 (h : St n ρ σX σM F) : go_0 x n ρ σX σM Inv := by
  obtain ⟨m, r1, r2, r3, r4, r5⟩ := h.1.2.2.2.1
  have s0 : pk (sgC 2 14) σX 0 3 = nI m := r2
  unfold go_0 GP
  rw [e_X6_feed, e_X4_hasRoom, s0, e_X7_feed, r3, show nI m + 20 = nI (m + 20) from nI_add m 20]
  by_cases hr : m + 20 ≤ 900
  · have nl : ¬ (900 : Int32) < nI (m + 20) := nI_nlt (a := 900) hr (by decide)
    rw [if_neg nl, if_neg nl, onI_s, if_neg (show ¬ (1 : Int32) = 0 by decide), putC_id]
    obtain ⟨τ1, a1, a2, a3, a4, a5, a6, a7⟩ := x_fd x (j := 0) (m := m) (by omega) r2 (fun i hi => by omega)
    obtain ⟨τ2, b1, b2, b3, b4, b5, b6, b7⟩ := x_fd x (j := 1) (m := m) (by omega) a3 a4
    obtain ⟨τ3, c1, c2, c3, c4, c5, c6, c7⟩ := x_fd x (j := 2) (m := m) (by omega) b3 b4
    obtain ⟨τ4, d1, d2, d3, d4, d5, d6, d7⟩ := x_fd x (j := 3) (m := m) (by omega) c3 c4
    obtain ⟨τ5, e1, e2, e3, e4, e5, e6, e7⟩ := x_fd x (j := 4) (m := m) (by omega) d3 d4
    obtain ⟨σ', m1, m2, m3, m4⟩ := m_fd (x := x) hr 20 0 bigM (wr σM 0 0 0) (by omega) (by unfold bigM; omega) (by rw [wr_place (by decide)]; exact r3) (fun i hi => by omega)
    have m1' : b_X7_feed_24 bigM (x 1) (x 2) (x 3) (x 4) (x 5) 0 (wr σM 0 0 0) = _ := m1
    rw [a1, onV_s, b1, onV_s, c1, onV_s, d1, onV_s, e1, onV_s, m1', e2]
    refine ⟨_, _, _, rfl, rfl, F, st_rd h (fun c hc => ?_) (fun c hc => ?_) (fun j hj => ?_) ⟨m + 20, by omega, e3, wr_same, fun i hi => ?_, ?_⟩⟩
    · rw [e7 c (by omega) (by omega), d7 c (by omega) (by omega), c7 c (by omega) (by omega), b7 c (by omega) (by omega), a7 c (by omega) (by omega)]
    · funext q
      rw [wr_cell (by omega), m2 c (by omega), wr_cell (by omega)]
    · rw [wr_place (by omega), m2 0 (by decide), wr_place (by omega)]
    · rw [wr_cell (by decide)]
      by_cases hi9 : i < m
      · rw [e5 i hi9, d5 i hi9, c5 i hi9, b5 i hi9, a5 i hi9, m4 i hi9, wr_cell (by decide)]
        exact r4 i hi9
      · obtain ⟨q, rfl⟩ : ∃ q, i = m + q := ⟨i - m, by omega⟩
        rw [e4 q (by omega), m3 q (by omega)]
        exact rb_byte _
    · rw [e6 4 (by decide), d6 4 (by decide), c6 4 (by decide), b6 4 (by decide), a6 4 (by decide), r5, wr_place (by decide), m2 0 (by decide), wr_place (by decide)]
  · have nl : (900 : Int32) < nI (m + 20) := nI_lt (a := 900) (by omega) (by omega)
    rw [if_pos nl, if_pos nl, onI_s, if_pos rfl, putC_id]
    exact ⟨-3, σX, wr σM 0 0 0, rfl, rfl, F, st_thr 0 h⟩
end FEED
