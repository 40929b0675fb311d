section CHG2
variable {x : Nat → Int32} {n : Nat} {ρ : Nat → Mm} {σX σM : Mm} {F : Fg}
theorem st_kp (h : St n ρ σX σM F) : ∃ i σM', i ≤ n ∧ i < 12 ∧ σX 1 1 = Int32.ofNat i ∧ f_X7_keeps [.inr (.inl 0)] σM = some (some none, σM') ∧ XF (fg (kS σX)) 32 F ∧ MF (σM' 2) (σM' 4) 0 F ∧ (∀ q, 16 ≤ q → fg (kS σX) q = σX q) ∧ σM' 21 = σM 21 ∧ σM' 0 40 = σM 0 40 ∧ ∀ (σX'' σM'' : Mm) (F' : Fg), OkF F' → XF σX'' 32 F' → MF (σM' 2) (σM'' 4) 0 F' → (∀ q, q ≤ 15 → σX'' q = fg (kS σX) q) → (∀ q, q ≠ 4 → σM'' q = σM' q) → Inv (kN n i) (kR ρ σX n i) σX'' σM'' := by
  obtain ⟨i, σM', k1, k2, k3, k4, k5, k6, k7, k8, k9⟩ := st_keep h
  refine ⟨i, σM', k1, k2, k3, k4, XF_eq (fun c j h1 h2 => by rw [k7 c (by omega) (by omega)]) h.1.2.1, ?_, fun q hq => k7 q (by omega) (by omega), k6 21 (by decide) (by decide), k8, fun σX'' σM'' F' a1 a2 a3 a4 a5 => ⟨F', k9 σX'' σM'' F' a1 a2 ?_ a4 a5⟩⟩
  · rw [k6 2 (by decide) (by decide), k6 4 (by decide) (by decide)]
    exact h.1.2.2.1
  · rw [a5 2 (by decide)]
    exact a3
theorem gk_of {t : Tbl} {cs : Cs} {pcb : Nat} {vs : List Vv} {X M : Option Ou} {K : Iv} {i : Nat} {r : Int32} {σ1 σX' σM' : Mm} {lv1 : Lv} (h1 : ∀ k : Kt, rl cs k t 0 (en 0 vs) [] σX = k pcb lv1 [.inr (.inl 0)] σ1) (h2 : lv1.all (fun q => okv q.2) = true) (h3 : rn t cs 1 (pcb + 3) lv1 [] (fg (kS σ1)) = some (some (some (.inl r)), σX')) (h4 : i ≤ n) (h5 : i < 12) (h6 : σ1 1 1 = Int32.ofNat i) (h7 : M = some (some (some (.inl r)), σM')) (h8 : K (kN n i) (kR ρ σ1 n i) σX' σM') : GK t cs pcb vs X M n ρ σX K :=
  Or.inr ⟨r, _, _, σX', σM', _, _, ⟨lv1, σ1, i, h1, h2, h3, h4, h5, h6, rfl, rfl, rfl, rfl⟩, h7, h8⟩
theorem gg_39 (h : St n ρ σX σM F) : go_39 x n ρ σX σM Inv := by
  have hO := h.1.1
  have hX := h.1.2.1
  unfold go_39
  obtain ⟨b, hb1, hb2⟩ := sp_setv (x 1) (x 2) σX
  have hb1' : f_X6_isSettingValue [.inl (x 1), .inl (x 2)] (pk sg0 σX) = _ := hb1
  cases b with
  | false =>
    have hn : ¬ ∃ t v, t < 3 ∧ x 1 = nI t ∧ setOk t v = true ∧ x 2 = nI v := fun h9 => (by have := hb2.mpr h9; cases this)
    refine Or.inl ⟨-2, σX, wr σM 0 0 0, ?_, ms_bad hn σM, F, st_thr 0 h⟩
    rw [e_X6_setSetting, hb1', onI_s, pp1, if_neg (show ¬ false = true by decide), if_pos rfl]
  | true =>
    obtain ⟨t, v, ht, e1, hv, e2⟩ := hb2.mp rfl
    obtain ⟨i, σM', k1, k2, k3, k4, k5, k6, k7, k8, k8', k9⟩ := st_kp (st_thr 0 h)
    have i1 : inb (nI t) 3 = true := inb_nI ht (by decide)
    have ex : σX 41 t = nI (F 9 t) := hX.2.2.2.2 t ht
    have em : σM' 4 (78 + t) = nI (F 9 t) := by
      have := k6.2.2.2.2 t ht
      rwa [Nat.zero_add] at this
    refine gk_of (i := i) (σ1 := σX) (lv1 := [(0, .inr (.inl 0)), (1, .inl (x 1)), (2, .inl (x 2)), (3, .inl (nI (F 9 t)))]) (r := nI (F 9 t)) (σX' := wr (fg (kS σX)) 41 t (nI v)) (σM' := wr σM' 4 (78 + t) (nI v)) (fun k => ?_) rfl ?_ k1 k2 k3 ?_ (k9 _ _ (upA F 9 t v) (ok_set hO hv) (xf_s k5) (mf_s hO k6 ht) (fun q hq => ?_) (fun q hq => ?_))
    · refine (s_X6_setSetting k (x 1) (x 2) σX).trans ?_
      rw [hb1', onI_s, pp1, if_pos rfl, if_neg (show ¬ (1 : Int32) = 0 by decide), e1, if_pos i1, nI_clamp (by omega), ex]
    · refine (u_X6_setSetting (x 1) (x 2) (nI (F 9 t)) _).trans ?_
      rw [e1, e2, if_pos i1, nI_clamp (by omega)]
    · rw [e1, e2, ms_ok ht hv, k4, onV_s, em]
    · funext j; exact wr_cell (by omega)
    · funext j; exact wr_cell hq
theorem gg_40 (h : St n ρ σX σM F) : go_40 x n ρ σX σM Inv := by
  have hO := h.1.1
  have h6 := hO.1
  have hX := h.1.2.1
  have hs := st_thr 0 h
  unfold go_40
  by_cases hi : inb (x 1) (F 0 0) = true
  · by_cases hj : inb (x 2) (F 0 0) = true
    · obtain ⟨a, ha, e1⟩ := (inb_out (by omega)).mp hi
      obtain ⟨b, hb, e2⟩ := (inb_out (by omega)).mp hj
      obtain ⟨i, σM', k1, k2, k3, k4, k5, k6, k7, k8, k8', k9⟩ := st_kp hs
      have ia : inb (nI a) 6 = true := inb_nI (by omega) (by decide)
      have ib : inb (nI b) 6 = true := inb_nI (by omega) (by decide)
      have ja : inb (nI (72 + a)) 81 = true := inb_nI (by omega) (by decide)
      have jb : inb (nI (72 + b)) 81 = true := inb_nI (by omega) (by decide)
      have hP := pm_sw (ok_pm hO) ha hb
      have k6' : ∀ k, k < F 0 0 → σM' 4 (72 + k) = nI (F 10 k) := fun k hk => by
        have := (k6.2.2.1 k hk).2.2.2.1
        rwa [Nat.zero_add] at this
      have ex : f_X2_exchange [.inr (.inl 0), .inl (nI a), .inl (nI b)] (pk (sgC 32 11) (fg (kS σX))) = some (some none, wr (wr (pk (sgC 32 11) (fg (kS σX))) 10 a (pk (sgC 32 11) (fg (kS σX)) 10 b)) 10 b (pk (sgC 32 11) (fg (kS σX)) 10 a)) := by
        rw [e_X2_exchange, if_pos ia, if_pos ib, if_pos ia, if_pos ib, nI_clamp (by omega), nI_clamp (by omega)]
      generalize hτ : wr (wr (pk (sgC 32 11) (fg (kS σX))) 10 a (pk (sgC 32 11) (fg (kS σX)) 10 b)) 10 b (pk (sgC 32 11) (fg (kS σX)) 10 a) = τ at ex
      refine gk_of (i := i) (σ1 := σX) (lv1 := [(0, .inr (.inl 0)), (1, .inl (x 1)), (2, .inl (x 2))]) (r := 1) (σX' := put (sgC 32 11) (fg (kS σX)) τ) (σM' := wr (wr σM' 4 (72 + a) (σM' 4 (72 + b))) 4 (72 + b) (σM' 4 (72 + a))) (fun k => ?_) rfl ?_ k1 k2 k3 ?_ (k9 _ _ (oF F (swA (F 10) a b)) (ok_oF hO hP) ?_ ?_ (fun q hq => putC_out (by omega)) (fun q hq => ?_))
      · refine (s_X6_swap k (x 1) (x 2) σX).trans ?_
        rw [sp_isIron h6 hX.1, onI_s, if_pos hi, if_neg (show ¬ (1 : Int32) = 0 by decide), sp_isIron h6 hX.1, onI_s, if_pos hj, if_neg (show ¬ (1 : Int32) = 0 by decide)]
      · refine (u_X6_swap (x 1) (x 2) _).trans ?_
        rw [e1, e2, ex, onV_s]
      · rw [e_X7_swap, sm_isIron h6 hs.1.2.2.1.1, onI_s, if_pos hi, if_neg (show ¬ (1 : Int32) = 0 by decide), sm_isIron h6 hs.1.2.2.1.1, onI_s, if_pos hj, if_neg (show ¬ (1 : Int32) = 0 by decide), k4, onV_s, e1, e2, n72 a, n72 b]
        simp only [if_pos ja, if_pos jb]
        rw [nI_clamp (n := 72 + a) (by omega), nI_clamp (n := 72 + b) (by omega)]
      · refine xf_oF (φ := fg (kS σX)) (fun c h1 h2 => ?_) k5 ?_
        · obtain ⟨d, rfl⟩ : ∃ d, c = 32 + d := ⟨c - 32, by omega⟩
          rw [putC_in (by omega), ← hτ]
          funext q
          rw [wr_cell (by omega), wr_cell (by omega), pkC]
        · have e42 : put (sgC 32 11) (fg (kS σX)) τ (32 + 10) = τ 10 := putC_in (by omega)
          rw [e42, ← hτ]
          exact ov_sw (σ := pk (sgC 32 11) (fg (kS σX))) (c := 10) (fun k hk => (k5.2.2.1 k hk).2.2.2.1) ha hb
      · refine mf_oF hO k6 (fun q hq => ?_) (fun k hk => ?_)
        · rw [wr_place (by omega), wr_place (by omega)]
        · rw [wr_at, wr_at]
          unfold swA
          by_cases e : k = b
          · rw [if_pos ⟨rfl, by omega⟩, if_pos e]
            exact k6' a ha
          · rw [if_neg (fun h9 => e (by omega)), if_neg e]
            by_cases e9 : k = a
            · rw [if_pos ⟨rfl, by omega⟩, if_pos e9]
              exact k6' b hb
            · rw [if_neg (fun h9 => e9 (by omega)), if_neg e9]
              exact k6' k hk
      · funext j; rw [wr_cell hq, wr_cell hq]
    · refine Or.inl ⟨0, σX, wr σM 0 0 0, ?_, ?_, F, hs⟩
      · rw [e_X6_swap, sp_isIron h6 hX.1, onI_s, if_pos hi, if_neg (show ¬ (1 : Int32) = 0 by decide), sp_isIron h6 hX.1, onI_s, if_neg hj, if_pos rfl]
      · rw [e_X7_swap, sm_isIron h6 hs.1.2.2.1.1, onI_s, if_pos hi, if_neg (show ¬ (1 : Int32) = 0 by decide), sm_isIron h6 hs.1.2.2.1.1, onI_s, if_neg hj, if_pos rfl]
  · refine Or.inl ⟨0, σX, wr σM 0 0 0, ?_, ?_, F, hs⟩
    · rw [e_X6_swap, sp_isIron h6 hX.1, onI_s, if_neg hi, if_pos rfl]
    · rw [e_X7_swap, sm_isIron h6 hs.1.2.2.1.1, onI_s, if_neg hi, if_pos rfl]
theorem mb_loop {m : Nat} (hm : m ≤ 6) {σ0 : Mm} : ∀ (c j N : Nat) (σ : Mm), j + c = m → c < N → (∀ q, q ≠ 4 → σ q = σ0 q) → σ0 2 18 = nI m → (∀ i, i < j → σ 4 (72 + i) = σ0 21 i) → (∀ q, (q < 72 ∨ 78 ≤ q) → σ 4 q = σ0 4 q) → ∃ σ', b_X7_useBestOrder_25 N (nI j) σ = some (some (some (.inl (σ0 0 40))), σ') ∧ (∀ q, q ≠ 4 → σ' q = σ0 q) ∧ (∀ i, i < m → σ' 4 (72 + i) = σ0 21 i) ∧ (∀ q, (q < 72 ∨ 78 ≤ q) → σ' 4 q = σ0 4 q) := by
  intro c
  induction c with
  | zero =>
    intro j N σ hj hN g h0 hd ho
    obtain ⟨N, rfl⟩ : ∃ N', N = N' + 1 := ⟨N - 1, by omega⟩
    obtain rfl : j = m := by omega
    refine ⟨σ, ?_, g, hd, ho⟩
    rw [e_X7_useBestOrder_25, g 2 (by decide), h0, if_neg (nI_nlt (Nat.le_refl _) (by omega)), g 0 (by decide)]
  | succ c ih =>
    intro j N σ hj hN g h0 hd ho
    obtain ⟨N, rfl⟩ : ∃ N', N = N' + 1 := ⟨N - 1, by omega⟩
    obtain ⟨σ', a1, a2, a3, a4⟩ := ih (j + 1) N (wr σ 4 (72 + j) (σ 21 j)) (by omega) (by omega) (fun q hq => by rw [← g q hq]; funext i; exact wr_cell hq) h0 (fun i hi => by
      by_cases e : i = j
      · rw [e, wr_same, g 21 (by decide)]
      · rw [wr_place (by omega)]; exact hd i (by omega)) (fun q hq => by rw [wr_place (by omega)]; exact ho q hq)
    refine ⟨σ', ?_, a2, a3, a4⟩
    rw [e_X7_useBestOrder_25, g 2 (by decide), h0, if_pos (nI_lt (by omega) (by omega)), if_pos (inb_nI (by omega) (by decide)), n72, if_pos (inb_nI (by omega) (by decide)), nI_clamp (by omega), nI_clamp (by omega), nI_1]
    exact a1
theorem gg_41 (h : St n ρ σX σM F) : go_41 x n ρ σX σM Inv := by
  have hO := h.1.1
  have h6 := hO.1
  unfold go_41
  obtain ⟨σX', a1, a2, a3⟩ := st_best h
  obtain ⟨σM1, b1, b2, b3, b4, b5⟩ := st_try (st_thr 0 a2)
  have e1 : σX' 43 1 = opI (bsA F).1 := a3.1
  cases hb : (bsA F).1 with
  | none =>
    refine Or.inl ⟨-1, σX', σM1, ?_, ?_, F, b2⟩
    · rw [e_X6_useBestOrder, a1, onA_s, e1, hb, if_pos (show opI none = -1 from rfl)]
    · rw [e_X7_useBestOrder, b1, onV_s, b3.1, hb, if_pos (show opI none = -1 from rfl)]
  | some e =>
    have he := a3.2.2.2 e hb
    have hne := opI_ne he
    have hnn : (bsA F).1 ≠ none := by rw [hb]; exact fun h9 => by cases h9
    have hP := pm_bs hnn
    obtain ⟨i, σM', k1, k2, k3, k4, k5, k6, k7, k8, k8', k9⟩ := st_kp b2
    have hov : Ov (σX' 44) (F 0 0) (bsA F).2.2 := a3.2.2.1 hnn
    have hom : Ov (σM1 21) (F 0 0) (bsA F).2.2 := b3.2.2.1 hnn
    have ee : fg (kS σX') 43 1 = opI (some e) := by rw [k7 43 (by omega), e1, hb]
    obtain ⟨σM2, c1, c2, c3, c4⟩ := mb_loop h6 (σ0 := σM') (F 0 0) 0 bigM σM' (by omega) (by unfold bigM; omega) (fun _ _ => rfl) k6.1 (fun i hi => by omega) (fun _ _ => rfl)
    have c1' : b_X7_useBestOrder_25 bigM 0 σM' = _ := c1
    refine gk_of (i := i) (σ1 := σX') (lv1 := [(0, .inr (.inl 0)), (1, .inr (.inl 43))]) (r := opI (some e)) (σX' := cpm (fg (kS σX')) 44 42 0 0 6) (σM' := σM2) (fun k => ?_) rfl ?_ k1 k2 k3 ?_ (k9 _ _ (oF F (bsA F).2.2) (ok_oF hO hP) ?_ ?_ (fun q hq => cpm_o (by omega)) c2)
    · refine (s_X6_useBestOrder k σX).trans ?_
      rw [a1, onA_s, e1, hb, if_neg hne]
    · refine (u_X6_useBestOrder _).trans ?_
      rw [ee]
    · rw [e_X7_useBestOrder, b1, onV_s, b3.1, hb, if_neg hne, k4, onV_s, c1', k8', b3.1, hb]
    · refine xf_oF (φ := fg (kS σX')) (fun c h1 h2 => cpm_o (by omega)) k5 (fun q hq => ?_)
      show cpm (fg (kS σX')) 44 42 0 0 6 42 q = _
      rw [cpm_d (show (6 : Int32).toNatClampNeg = 6 by decide) (by omega), k7 44 (by omega)]
      exact hov q hq
    · exact mf_oF hO k6 c4 (fun q hq => by rw [c3 q hq, k8]; exact hom q hq)
theorem mp_bad {y0 y z : Int32} {σ : Mm} {P : Nat} (hP : P ≤ 6) (h0 : σ 2 19 = nI P) (h : ¬ (inb y0 P = true ∧ (1 ≤ y ∧ y ≤ 2000) ∧ (100 ≤ z ∧ z ≤ 1500))) : f_X7_setPlace [.inr (.inl 0), .inl y0, .inl y, .inl z] σ = some (some (some (.inl 0)), wr σ 0 0 0) := by
  have h0' : wr σ 0 0 0 2 19 = nI P := by rw [wr_cell (by decide)]; exact h0
  rw [e_X7_setPlace, sm_isPlace hP h0', onI_s]
  by_cases hi : inb y0 P = true
  · rw [if_pos hi, if_neg (show ¬ (1 : Int32) = 0 by decide)]
    by_cases h1 : y < 1
    · rw [if_pos h1]
    · rw [if_neg h1]
      by_cases h2 : 2000 < y
      · rw [if_pos h2]
      · rw [if_neg h2]
        by_cases h3 : z < 100
        · rw [if_pos h3]
        · rw [if_neg h3]
          by_cases h4 : 1500 < z
          · rw [if_pos h4]
          · exact absurd ⟨hi, ⟨Int32.not_lt.mp h1, Int32.not_lt.mp h2⟩, ⟨Int32.not_lt.mp h3, Int32.not_lt.mp h4⟩⟩ h
  · rw [if_neg hi, if_pos rfl]
theorem xp_bad {y0 y z : Int32} {σ : Mm} {P : Nat} (hP : P ≤ 6) (h0 : σ 32 1 = nI P) (h : ¬ (inb y0 P = true ∧ (1 ≤ y ∧ y ≤ 2000) ∧ (100 ≤ z ∧ z ≤ 1500))) : f_X6_setPlace [.inr (.inl 0), .inl y0, .inl y, .inl z] σ = some (some (some (.inl 0)), σ) := by
  rw [e_X6_setPlace, sp_isPlace hP h0, onI_s]
  by_cases hi : inb y0 P = true
  · rw [if_pos hi, if_neg (show ¬ (1 : Int32) = 0 by decide), sp_isWithin, onI_s]
    simp only [pk0, pp1]
    by_cases h1 : 1 ≤ y ∧ y ≤ 2000
    · rw [if_pos h1, if_neg (show ¬ (1 : Int32) = 0 by decide), sp_isWithin, onI_s, if_neg (fun h9 => h ⟨hi, h1, h9⟩), if_pos rfl]
    · rw [if_neg h1, if_pos rfl]
  · rw [if_neg hi, if_pos rfl]
theorem gg_42 (h : St n ρ σX σM F) : go_42 x n ρ σX σM Inv := by
  have hO := h.1.1
  have h3 := hO.2.1
  have hX := h.1.2.1
  have hs := st_thr 0 h
  unfold go_42
  by_cases hg : inb (x 1) (F 0 1) = true ∧ (1 ≤ x 2 ∧ x 2 ≤ 2000) ∧ (100 ≤ x 3 ∧ x 3 ≤ 1500)
  · obtain ⟨hi, hr, hl⟩ := hg
    obtain ⟨p, hp, e1⟩ := (inb_out (by omega)).mp hi
    obtain ⟨v, v1, v2, e2⟩ := (le_iff (a := 1) (b := 2000) (by decide) (by decide)).mp hr
    obtain ⟨w, w1, w2, e3⟩ := (le_iff (a := 100) (b := 1500) (by decide) (by decide)).mp hl
    obtain ⟨i, σM', k1, k2, k3, k4, k5, k6, k7, k8, k8', k9⟩ := st_kp hs
    have i1 : inb (nI p) 3 = true := inb_nI (by omega) (by decide)
    have hO1 := ok_rate (p := p) hO v1 v2
    refine gk_of (i := i) (σ1 := σX) (lv1 := [(0, .inr (.inl 0)), (1, .inl (x 1)), (2, .inl (x 2)), (3, .inl (x 3))]) (r := 1) (σX' := wr (wr (fg (kS σX)) 39 p (nI v)) 40 p (nI w)) (σM' := wr (wr σM' 4 (66 + p) (nI v)) 4 (69 + p) (nI w)) (fun k => ?_) rfl ?_ k1 k2 k3 ?_ (k9 _ _ (upA (upA F 7 p v) 8 p w) (ok_lim hO1 w1 w2) (xf_lim (xf_rate k5)) (mf_lim hO1 (mf_rate hO k6 hp) hp) (fun q hq => ?_) (fun q hq => ?_))
    · refine (s_X6_setPlace k (x 1) (x 2) (x 3) σX).trans ?_
      rw [sp_isPlace (by omega) hX.2.1, onI_s, if_pos hi, if_neg (show ¬ (1 : Int32) = 0 by decide), sp_isWithin, onI_s]
      simp only [pk0, pp1]
      rw [if_pos hr, if_neg (show ¬ (1 : Int32) = 0 by decide), sp_isWithin, onI_s, if_pos hl, if_neg (show ¬ (1 : Int32) = 0 by decide)]
    · refine (u_X6_setPlace (x 1) (x 2) (x 3) _).trans ?_
      rw [e1, e2, e3, if_pos i1, if_pos i1, nI_clamp (by omega)]
    · rw [e_X7_setPlace, sm_isPlace (by omega) hs.1.2.2.1.2.1, onI_s, if_pos hi, if_neg (show ¬ (1 : Int32) = 0 by decide), if_neg (Int32.not_lt.mpr hr.1), if_neg (Int32.not_lt.mpr hr.2), if_neg (Int32.not_lt.mpr hl.1), if_neg (Int32.not_lt.mpr hl.2), k4, onV_s, e1, e2, e3, n66, n69, if_pos (inb_nI (by omega) (by decide)), if_pos (inb_nI (by omega) (by decide)), nI_clamp (by omega), nI_clamp (by omega)]
    · funext j; rw [wr_cell (by omega), wr_cell (by omega)]
    · funext j; rw [wr_cell hq, wr_cell hq]
  · exact Or.inl ⟨0, σX, wr σM 0 0 0, xp_bad (by omega) hX.2.1 hg, mp_bad (by omega) h.1.2.2.1.2.1 hg, F, hs⟩
theorem ma_adds {σ : Mm} {k s h m : Nat} (hk : k < 6) (hs : s < 5) (h0 : σ 4 k = nI s) : ∃ σ', f_X7_adds [.inr (.inl 4), .inl (nI k), .inl (nI h), .inl (nI m)] σ = some (some none, σ') ∧ (∀ q, q ≠ 4 → σ' q = σ q) ∧ (∀ q, σ' 4 q = if q = k then nI (s + 1) else if q = 6 + (5 * k + s) then nI h else if q = 36 + (5 * k + s) then nI m else σ 4 q) := by
  have e1 : (6 : Int32) + 5 * nI k + nI s = nI (6 + (5 * k + s)) := n5s 6 k s
  have e2 : (36 : Int32) + 5 * nI k + nI s = nI (36 + (5 * k + s)) := n5s 36 k s
  have w1 : wr σ 4 (6 + (5 * k + s)) (nI h) 4 k = nI s := by rw [wr_place (by omega)]; exact h0
  have w2 : wr (wr σ 4 (6 + (5 * k + s)) (nI h)) 4 (36 + (5 * k + s)) (nI m) 4 k = nI s := by rw [wr_place (by omega)]; exact w1
  have i1 : inb (nI k) 81 = true := inb_nI (by omega) (by decide)
  have i2 : inb (nI (6 + (5 * k + s))) 81 = true := inb_nI (by omega) (by decide)
  have i3 : inb (nI (36 + (5 * k + s))) 81 = true := inb_nI (by omega) (by decide)
  refine ⟨wr (wr (wr σ 4 (6 + (5 * k + s)) (nI h)) 4 (36 + (5 * k + s)) (nI m)) 4 k (nI (s + 1)), ?_, fun q hq => ?_, fun q => ?_⟩
  · rw [e_X7_adds_now, z0, if_pos i1, nI_clamp (n := k) (by omega), h0, e1, if_pos i2, if_pos i1, nI_clamp (n := 6 + (5 * k + s)) (by omega), w1, e2, if_pos i3, if_pos i1, if_pos i1, nI_clamp (n := 36 + (5 * k + s)) (by omega), w2, nI_1]
  · funext j; rw [wr_cell hq, wr_cell hq, wr_cell hq]
  · rw [wr_at, wr_at, wr_at]
    simp only [true_and]
    by_cases c1 : q = k
    · rw [if_pos c1, if_pos c1]
    · rw [if_neg c1, if_neg c1]
      by_cases c2 : q = 6 + (5 * k + s)
      · rw [if_neg (by omega), if_pos c2, if_pos c2]
      · rw [if_neg c2, if_neg c2]
theorem xa_adds {φ : Mm} {k s h m : Nat} (hk : k < 6) (hs : s < 5) (h0 : φ 4 k = nI s) : f_X2_appendStep [.inr (.inl 0), .inl (nI k), .inl (nI h), .inl (nI m)] φ = some (some none, wr (wr (wr φ 5 (5 * k + s) (nI h)) 6 (5 * k + s) (nI m)) 4 k (nI (s + 1))) := by
  have i1 : inb (nI k) 6 = true := inb_nI (by omega) (by decide)
  have i2 : inb (nI (5 * k + s)) 30 = true := inb_nI (by omega) (by decide)
  rw [e_X2_appendStep, if_pos i1, nI_clamp (n := k) (by omega), h0, ni5, if_pos i2, if_pos i2, if_pos i1, if_pos i1, nI_clamp (n := 5 * k + s) (by omega), nI_1]
theorem ms_add_bad {y0 y z : Int32} {σ : Mm} {P : Nat} (hP : P ≤ 6) (h0 : σ 2 18 = nI P) : (¬ inb y0 P = true → f_X7_addStep [.inr (.inl 0), .inl y0, .inl y, .inl z] σ = some (some (some (.inl (-1))), wr σ 0 0 0)) ∧ (inb y0 P = true → ¬ ((100 ≤ y ∧ y ≤ 1400) ∧ (1 ≤ z ∧ z ≤ 30)) → f_X7_addStep [.inr (.inl 0), .inl y0, .inl y, .inl z] σ = some (some (some (.inl (-2))), wr σ 0 0 0)) := by
  have h0' : wr σ 0 0 0 2 18 = nI P := by rw [wr_cell (by decide)]; exact h0
  rw [e_X7_addStep, sm_isIron hP h0', onI_s]
  refine ⟨fun hi => ?_, fun hi h => ?_⟩
  · rw [if_neg hi, if_pos rfl]
  · rw [if_pos hi, if_neg (show ¬ (1 : Int32) = 0 by decide)]
    by_cases h1 : y < 100
    · rw [if_pos h1]
    · rw [if_neg h1]
      by_cases h2 : 1400 < y
      · rw [if_pos h2]
      · rw [if_neg h2]
        by_cases h3 : z < 1
        · rw [if_pos h3]
        · rw [if_neg h3]
          by_cases h4 : 30 < z
          · rw [if_pos h4]
          · exact absurd ⟨⟨Int32.not_lt.mp h1, Int32.not_lt.mp h2⟩, ⟨Int32.not_lt.mp h3, Int32.not_lt.mp h4⟩⟩ h
theorem gg_43 (h : St n ρ σX σM F) : go_43 x n ρ σX σM Inv := by
  have hO := h.1.1
  have h6 := hO.1
  have hX := h.1.2.1
  have hs := st_thr 0 h
  obtain ⟨m1, m2⟩ := ms_add_bad (y0 := x 1) (y := x 2) (z := x 3) h6 h.1.2.2.1.1
  unfold go_43
  by_cases hi : inb (x 1) (F 0 0) = true
  · by_cases hg : (100 ≤ x 2 ∧ x 2 ≤ 1400) ∧ (1 ≤ x 3 ∧ x 3 ≤ 30)
    · obtain ⟨hr, hl⟩ := hg
      obtain ⟨k, hk, e1⟩ := (inb_out (by omega)).mp hi
      obtain ⟨v, v1, v2, e2⟩ := (le_iff (a := 100) (b := 1400) (by decide) (by decide)).mp hr
      obtain ⟨w, w1, w2, e3⟩ := (le_iff (a := 1) (b := 30) (by decide) (by decide)).mp hl
      have b5 := (hO.2.2.1 k hk).2.2.1
      have i6 : inb (nI k) 6 = true := inb_nI (by omega) (by decide)
      have i81 : inb (nI k) 81 = true := inb_nI (by omega) (by decide)
      have ex : σX 36 k = nI (F 4 k) := (hX.2.2.1 k hk).2.2.1
      have em : wr σM 0 0 0 4 k = nI (F 4 k) := by
        have := (hs.1.2.2.1.2.2.1 k hk).2.2.1
        rwa [Nat.zero_add] at this
      by_cases h5 : F 4 k < 5
      · obtain ⟨i, σM', k1, k2, k3, k4, k5, k6, k7, k8, k8', k9⟩ := st_kp hs
        have em' : σM' 4 k = nI (F 4 k) := by
          have := (k6.2.2.1 k hk).2.2.1
          rwa [Nat.zero_add] at this
        have ex' : pk (sgC 32 11) (fg (kS σX)) 4 k = nI (F 4 k) := (k5.2.2.1 k hk).2.2.1
        obtain ⟨σM2, c1, c2, c3⟩ := ma_adds (h := v) (m := w) (show k < 6 by omega) h5 em'
        have d1 := xa_adds (h := v) (m := w) (show k < 6 by omega) h5 ex'
        generalize hτ : wr (wr (wr (pk (sgC 32 11) (fg (kS σX))) 5 (5 * k + F 4 k) (nI v)) 6 (5 * k + F 4 k) (nI w)) 4 k (nI (F 4 k + 1)) = τ at d1
        have t4 : τ 4 k = nI (F 4 k + 1) := by rw [← hτ, wr_same]
        have tg : ∀ d, d < 11 → put (sgC 32 11) (fg (kS σX)) τ (32 + d) = τ d := fun d hd => putC_in hd
        refine gk_of (i := i) (σ1 := σX) (lv1 := [(0, .inr (.inl 0)), (1, .inl (x 1)), (2, .inl (x 2)), (3, .inl (x 3))]) (r := nI (F 4 k + 1)) (σX' := put (sgC 32 11) (fg (kS σX)) τ) (σM' := σM2) (fun k' => ?_) rfl ?_ k1 k2 k3 ?_ (k9 _ _ (adF F k v w) (ok_ad hO hk h5 v1 v2 w1 w2) ?_ ?_ (fun q hq => putC_out (by omega)) c2)
        · refine (s_X6_addStep k' (x 1) (x 2) (x 3) σX).trans ?_
          rw [sp_isIron h6 hX.1, onI_s, if_pos hi, if_neg (show ¬ (1 : Int32) = 0 by decide), sp_isWithin, onI_s]
          simp only [pk0, pp1]
          rw [if_pos hr, if_neg (show ¬ (1 : Int32) = 0 by decide), sp_isWithin, onI_s, if_pos hl, if_neg (show ¬ (1 : Int32) = 0 by decide), e1, if_pos i6, nI_clamp (by omega), ex, if_pos (show nI (F 4 k) < 5 from nI_lt (b := 5) h5 (by decide))]
        · refine (u_X6_addStep (x 1) (x 2) (x 3) _).trans ?_
          rw [e1, e2, e3, d1, onV_s, if_pos i6, nI_clamp (by omega), t4]
        · rw [e_X7_addStep, sm_isIron h6 hs.1.2.2.1.1, onI_s, if_pos hi, if_neg (show ¬ (1 : Int32) = 0 by decide), if_neg (Int32.not_lt.mpr hr.1), if_neg (Int32.not_lt.mpr hr.2), if_neg (Int32.not_lt.mpr hl.1), if_neg (Int32.not_lt.mpr hl.2), e1, e2, e3, z0, if_pos i81, nI_clamp (by omega), em, if_neg (show ¬ nI (F 4 k) = 5 from fun h9 => by have := (nI_eq (b := 5) (by omega) (by decide)).mp h9; omega), k4, onV_s, c1, onV_s, if_pos i81, c3, if_pos rfl]
        · refine xf_ad hO k5 hk h5 (fun c g4 g5 g6 => ?_) (fun q => ?_) (fun q => ?_) (fun q => ?_)
          · by_cases hc : 32 ≤ c ∧ c < 43
            · obtain ⟨d, rfl⟩ : ∃ d, c = 32 + d := ⟨c - 32, by omega⟩
              rw [tg d (by omega), ← hτ]
              funext q
              rw [wr_cell (by omega), wr_cell (by omega), wr_cell (by omega), pkC]
            · exact putC_out (by omega)
          · rw [tg 4 (by omega), ← hτ, wr_at]
            simp only [true_and]
            by_cases e : q = k
            · rw [if_pos e, if_pos e]
            · rw [if_neg e, if_neg e, wr_cell (by decide), wr_cell (by decide), pkC]
          · rw [tg 5 (by omega), ← hτ, wr_cell (by decide), wr_cell (by decide), wr_at]
            simp only [true_and]
            by_cases e : q = 5 * k + F 4 k
            · rw [if_pos e, if_pos e]
            · rw [if_neg e, if_neg e, pkC]
          · rw [tg 6 (by omega), ← hτ, wr_cell (by decide), wr_at]
            simp only [true_and]
            by_cases e : q = 5 * k + F 4 k
            · rw [if_pos e, if_pos e]
            · rw [if_neg e, if_neg e, wr_cell (by decide), pkC]
        · exact mf_ad hO k6 hk h5 c3
      · have h5' : F 4 k = 5 := by omega
        refine Or.inl ⟨-3, σX, wr σM 0 0 0, ?_, ?_, F, hs⟩
        · rw [e_X6_addStep, sp_isIron h6 hX.1, onI_s, if_pos hi, if_neg (show ¬ (1 : Int32) = 0 by decide), sp_isWithin, onI_s]
          simp only [pk0, pp1]
          rw [if_pos hr, if_neg (show ¬ (1 : Int32) = 0 by decide), sp_isWithin, onI_s, if_pos hl, if_neg (show ¬ (1 : Int32) = 0 by decide), e1, if_pos i6, nI_clamp (by omega), ex, h5', if_neg (show ¬ nI 5 < 5 by decide)]
        · rw [e_X7_addStep, sm_isIron h6 hs.1.2.2.1.1, onI_s, if_pos hi, if_neg (show ¬ (1 : Int32) = 0 by decide), if_neg (Int32.not_lt.mpr hr.1), if_neg (Int32.not_lt.mpr hr.2), if_neg (Int32.not_lt.mpr hl.1), if_neg (Int32.not_lt.mpr hl.2), e1, z0, if_pos i81, nI_clamp (by omega), em, h5', if_pos (show nI 5 = 5 from rfl)]
    · refine Or.inl ⟨-2, σX, wr σM 0 0 0, ?_, m2 hi hg, F, hs⟩
      rw [e_X6_addStep, sp_isIron h6 hX.1, onI_s, if_pos hi, if_neg (show ¬ (1 : Int32) = 0 by decide), sp_isWithin, onI_s]
      simp only [pk0, pp1]
      by_cases hr : 100 ≤ x 2 ∧ x 2 ≤ 1400
      · rw [if_pos hr, if_neg (show ¬ (1 : Int32) = 0 by decide), sp_isWithin, onI_s, if_neg (fun h9 => hg ⟨hr, h9⟩), if_pos rfl]
      · rw [if_neg hr, if_pos rfl]
  · refine Or.inl ⟨-1, σX, wr σM 0 0 0, ?_, m1 hi, F, hs⟩
    rw [e_X6_addStep, sp_isIron h6 hX.1, onI_s, if_neg hi, if_pos rfl]
theorem gg_44 (h : St n ρ σX σM F) : go_44 x n ρ σX σM Inv := by
  have hO := h.1.1
  have h6 := hO.1
  have hX := h.1.2.1
  have hs := st_thr 0 h
  unfold go_44
  by_cases hi : inb (x 1) (F 0 0) = true
  · obtain ⟨k, hk, e1⟩ := (inb_out (by omega)).mp hi
    have b5 := (hO.2.2.1 k hk).2.2.1
    have i6 : inb (nI k) 6 = true := inb_nI (by omega) (by decide)
    have i81 : inb (nI k) 81 = true := inb_nI (by omega) (by decide)
    have ex : σX 36 k = nI (F 4 k) := (hX.2.2.1 k hk).2.2.1
    have em : wr σM 0 0 0 4 k = nI (F 4 k) := by
      have := (hs.1.2.2.1.2.2.1 k hk).2.2.1
      rwa [Nat.zero_add] at this
    by_cases h0 : F 4 k = 0
    · refine Or.inl ⟨-1, σX, wr σM 0 0 0, ?_, ?_, F, hs⟩
      · rw [e_X6_removeStep, sp_isIron h6 hX.1, onI_s, if_pos hi, if_neg (show ¬ (1 : Int32) = 0 by decide), e1, if_pos i6, nI_clamp (by omega), ex, h0, if_pos nI_0]
      · rw [e_X7_removeStep, sm_isIron h6 hs.1.2.2.1.1, onI_s, if_pos hi, if_neg (show ¬ (1 : Int32) = 0 by decide), e1, z0, if_pos i81, nI_clamp (by omega), em, h0, if_pos nI_0]
    · obtain ⟨i, σM', k1, k2, k3, k4, k5, k6, k7, k8, k8', k9⟩ := st_kp hs
      obtain ⟨v, hv⟩ : ∃ v, F 4 k = v + 1 := ⟨F 4 k - 1, by omega⟩
      have em' : σM' 4 k = nI (v + 1) := by
        have := (k6.2.2.1 k hk).2.2.1
        rwa [Nat.zero_add, hv] at this
      have ex' : fg (kS σX) 36 k = nI (v + 1) := by rw [k7 36 (by omega), ex, hv]
      refine gk_of (i := i) (σ1 := σX) (lv1 := [(0, .inr (.inl 0)), (1, .inl (x 1))]) (r := nI v) (σX' := wr (fg (kS σX)) 36 k (nI v)) (σM' := wr σM' 4 k (nI v)) (fun k' => ?_) rfl ?_ k1 k2 k3 ?_ (k9 _ _ (upA F 4 k v) (ok_many hO (fun _ => by omega)) (xf_many k5 (fun _ => by omega)) (mf_many hO k6 hk (by omega)) (fun q hq => ?_) (fun q hq => ?_))
      · refine (s_X6_removeStep k' (x 1) σX).trans ?_
        rw [sp_isIron h6 hX.1, onI_s, if_pos hi, if_neg (show ¬ (1 : Int32) = 0 by decide), e1, if_pos i6, nI_clamp (by omega), ex, if_neg (nI_ne0 (by omega) (by omega))]
      · refine (u_X6_removeStep (x 1) _).trans ?_
        rw [e1, if_pos i6, if_pos i6, if_pos i6, nI_clamp (by omega), ex', nI_pred, wr_same]
      · rw [e_X7_removeStep, sm_isIron h6 hs.1.2.2.1.1, onI_s, if_pos hi, if_neg (show ¬ (1 : Int32) = 0 by decide), e1, z0, if_pos i81, nI_clamp (by omega), em, if_neg (nI_ne0 (by omega) (by omega)), k4, onV_s, if_pos i81, if_pos i81, if_pos i81, em', nI_pred, wr_same]
      · funext j; exact wr_cell (by omega)
      · funext j; exact wr_cell hq
  · refine Or.inl ⟨-1, σX, wr σM 0 0 0, ?_, ?_, F, hs⟩
    · rw [e_X6_removeStep, sp_isIron h6 hX.1, onI_s, if_neg hi, if_pos rfl]
    · rw [e_X7_removeStep, sm_isIron h6 hs.1.2.2.1.1, onI_s, if_neg hi, if_pos rfl]
theorem mu_36 {b : Nat} (hb : b < 12) : ∀ (c y N : Nat) (σ : Mm), y + c = 81 → c < N → σ 0 8 = nI b → (∀ q, q < y → σ 4 q = σ 6 (81 * b + q)) → ∃ σ', b_X7_undo_36 N (nI y) σ = some (some (some (.inl (nI b))), σ') ∧ (∀ q, q ≠ 4 → σ' q = σ q) ∧ (∀ q, q < 81 → σ' 4 q = σ 6 (81 * b + q)) := by
  intro c
  induction c with
  | zero =>
    intro y N σ hy hN h0 h
    obtain ⟨N, rfl⟩ : ∃ N', N = N' + 1 := ⟨N - 1, by omega⟩
    obtain rfl : y = 81 := by omega
    refine ⟨σ, ?_, fun _ _ => rfl, h⟩
    rw [e_X7_undo_36, if_neg (by decide), h0]
  | succ c ih =>
    intro y N σ hy hN h0 h
    obtain ⟨N, rfl⟩ : ∃ N', N = N' + 1 := ⟨N - 1, by omega⟩
    rw [e_X7_undo_36, if_pos (show nI y < 81 from nI_lt (b := 81) (by omega) (by decide)), h0, ni81, if_pos (inb_nI (by omega) (by decide)), if_pos (inb_nI (by omega) (by decide)), nI_clamp (by omega), nI_clamp (by omega), nI_1]
    obtain ⟨σ', a1, a2, a3⟩ := ih (y + 1) N (wr σ 4 y (σ 6 (81 * b + y))) (by omega) (by omega) (by rw [wr_cell (by decide)]; exact h0) (fun q hq => by
      rw [wr_cell (show (6 : Nat) ≠ 4 by decide)]
      by_cases e : q = y
      · rw [e]; exact wr_same
      · rw [wr_place e]; exact h q (by omega))
    refine ⟨σ', a1, fun q hq => ?_, fun q hq => ?_⟩
    · rw [a2 q hq]; funext i; exact wr_cell hq
    · rw [a3 q hq, wr_cell (by decide)]
theorem rX_i {i : Nat} (hi : i < 12) (h : σX 1 1 = nI i) : rX σX = nI ((i + 11) % 12) := by
  have e : nI i + 12 - 1 = nI (i + 11) := by
    rw [show nI i + 12 = nI (i + 11 + 1) from nI_add i 12, nI_pred]
  unfold rX
  rw [h, e, show (12 : Int32) = nI 12 from rfl, nI_div (by omega) (by decide) (by decide), nI_mul, nI_sub (by omega)]
  congr 1
  omega
theorem gg_45 (h : St n ρ σX σM F) : go_45 x n ρ σX σM Inv := by
  obtain ⟨⟨hO, hX, hM, hR, hn, i, c, hi, hin, hc, e1, e2, e3, hni, hk⟩, -, -, -, -⟩ := id h
  have hx := rX_i hi e1
  unfold go_45 GU
  by_cases h0 : c = 0
  · subst h0
    refine ⟨-1, σX, wr σM 0 0 0, ⟨(i + 11) % 12, by omega, hx, Or.inl ⟨e2, rfl, rfl⟩⟩, ?_, F, st_thr 0 h⟩
    rw [e_X7_undo, e3, if_pos nI_0]
  · have hj : (i + 11) % 12 < n := by
      by_cases h12 : n < 12
      · have := hni h12
        omega
      · omega
    obtain ⟨d, rfl⟩ : ∃ d, c = d + 1 := ⟨c - 1, by omega⟩
    obtain ⟨G, g1, g2, g3⟩ := hk d (by omega)
    have ei : (i + 12 - (d + 1) + d) % 12 = (i + 11) % 12 := by omega
    rw [ei] at g2
    obtain ⟨σM', m1, m2, m3⟩ := mu_36 (b := d) (by omega) 81 0 bigM (wr (wr (wr (wr σM 0 0 0) 0 37 0) 0 38 0) 0 8 (nI d)) (by omega) (by unfold bigM; omega) wr_same (fun q hq => by omega)
    have m1' : b_X7_undo_36 bigM 0 (wr (wr (wr (wr σM 0 0 0) 0 37 0) 0 38 0) 0 8 (nI d)) = _ := m1
    have n0 : ∀ q, q ≠ 0 → q ≠ 4 → σM' q = σM q := fun q h1 h2 => by
      rw [m2 q h2]
      funext j
      rw [wr_cell h1, wr_cell h1, wr_cell h1, wr_cell h1]
    have n1 : ∀ j, j ≠ 0 → j ≠ 8 → j ≠ 37 → j ≠ 38 → σM' 0 j = σM 0 j := fun j j1 j2 j3 j4 => by
      rw [m2 0 (by decide), wr_place j2, wr_place j4, wr_place j3, wr_place j1]
    have r1 : rF σX (ρ ((i + 11) % 12)) 1 2 = nI (d + 1) := by
      unfold rF
      rw [putC_out (by omega)]
      exact e2
    generalize hσ : fg (wr (wr (rF σX (ρ ((i + 11) % 12))) 1 1 (rX σX)) 1 2 ((wr (rF σX (ρ ((i + 11) % 12))) 1 1 (rX σX)) 1 2 - 1)) = σX'
    have f12 : σX' 1 2 = nI d := by
      rw [← hσ]
      unfold fg
      rw [wr_cell (by decide), wr_cell (by decide), wr_same, wr_place (by decide), r1, nI_pred]
    have f11 : σX' 1 1 = nI ((i + 11) % 12) := by
      rw [← hσ]
      unfold fg
      rw [wr_cell (by decide), wr_cell (by decide), wr_place (by decide), wr_same, hx]
    have f07 : σX' 0 7 = 0 := by
      rw [← hσ]
      unfold fg
      rw [wr_place (by decide), wr_same]
    have f08 : σX' 0 8 = 0 := by
      rw [← hσ]
      unfold fg
      rw [wr_same]
    have fo : ∀ q, q = 2 ∨ q = 3 → σX' q = σX q := fun q hq => by
      rw [← hσ]
      unfold fg
      funext j
      rw [wr_cell (by omega), wr_cell (by omega), wr_cell (by omega), wr_cell (by omega)]
      unfold rF
      rw [putC_out (by omega)]
    have ff : ∀ q, q < 11 → σX' (32 + q) = cpF (fun c => σX (32 + c)) (ρ ((i + 11) % 12)) q := fun q hq => by
      rw [← hσ]
      unfold fg
      funext j
      rw [wr_cell (by omega), wr_cell (by omega), wr_cell (by omega), wr_cell (by omega)]
      unfold rF
      rw [putC_in hq]
    have hXG : XF (cpF (fun c => σX (32 + c)) (ρ ((i + 11) % 12))) 0 G := by
      unfold cpF
      refine cpR_xf g1 ?_
      exact g2
    have hXG' : XF σX' 32 G := by
      refine XF_eq (φ := fun c => cpF (fun c => σX (32 + c)) (ρ ((i + 11) % 12)) (c - 32)) (fun c j h1 h2 => ?_) hXG
      obtain ⟨q, rfl⟩ : ∃ q, c = 32 + q := ⟨c - 32, by omega⟩
      rw [ff q (by omega), show 32 + q - 32 = q by omega]
    refine ⟨nI d, σX', σM', ⟨(i + 11) % 12, by omega, hx, Or.inr ⟨?_, hj, hσ.symm, f12.symm⟩⟩, ?_, G, ⟨g1, hXG', ?_, ?_, hn, (i + 11) % 12, d, by omega, by omega, by omega, f11, f12, ?_, fun h12 => ?_, fun q hq => ?_⟩, Or.inl f07, Or.inl f08, Or.inl ?_, Or.inl ?_⟩
    · rw [e2]
      exact nI_ne0 (by omega) (by omega)
    · rw [e_X7_undo, e3, if_neg (nI_ne0 (by omega) (by omega)), nI_pred, m1']
    · rw [n0 2 (by decide) (by decide)]
      exact mf_row g1 (fun q hq => by rw [Nat.zero_add, m3 q hq, wr_cell (by decide), wr_cell (by decide), wr_cell (by decide), wr_cell (by decide)]) g3
    · obtain ⟨m, q1, q2, q3, q4, q5⟩ := hR
      refine ⟨m, q1, ?_, ?_, fun q hq => ?_, ?_⟩
      · rw [fo 2 (by omega)]; exact q2
      · rw [n1 2 (by decide) (by decide) (by decide) (by decide)]; exact q3
      · rw [fo 3 (by omega), n0 1 (by decide) (by decide)]; exact q4 q hq
      · rw [fo 2 (by omega), n1 17 (by decide) (by decide) (by decide) (by decide)]; exact q5
    · rw [m2 0 (by decide), wr_same]
    · have := hni h12
      omega
    · obtain ⟨G', a1, a2, a3⟩ := hk q (by omega)
      rw [show ((i + 11) % 12 + 12 - d + q) % 12 = (i + 12 - (d + 1) + q) % 12 by omega, n0 2 (by decide) (by decide), n0 6 (by decide) (by decide)]
      exact ⟨G', a1, a2, a3⟩
    · rw [m2 0 (by decide), wr_place (by decide), wr_place (by decide), wr_same]
    · rw [m2 0 (by decide), wr_place (by decide), wr_same]
end CHG2
