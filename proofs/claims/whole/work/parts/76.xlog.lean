/-! the class's log -/
theorem xr_ext {τ τ' : Mm} {F S : Fg} (g : ∀ c, c < 23 → τ' c = τ c) (h : XR τ F S) : XR τ' F S := by
  unfold XR at h ⊢
  rw [g 1 (by decide), g 2 (by decide), g 3 (by decide), g 4 (by decide), g 5 (by decide), g 6 (by decide), g 7 (by decide), g 8 (by decide), g 9 (by decide), g 10 (by decide), g 11 (by decide), g 0 (by decide)]
  exact ⟨XF_eq (fun c j _ h2 => by rw [g c (by omega)]) h.1, h.2⟩
theorem pk_put {n : Nat} {b : Nat} {σ τ : Mm} : ∀ c, c < n → pk (sgC b n) (put (sgC b n) σ τ) c = τ c := fun c hc => by
  rw [pkC, putC_in hc]
def RWh (r : Nat → Int32) (F : Fg) (q t : Nat) : Prop := ∀ k, k < F 0 0 → ∀ u, u ≤ t → r (481 * k + u) = nI (rnA F u q k)
def RWs (r : Nat → Int32) (F : Fg) (t : Nat) : Prop := ∀ k, k < F 0 0 → ∀ u, u < t → r (480 * k + u) = nI (mvA F (rnA F u) 1 k)
def WL (l : Mm) (F : Fg) (t : Nat) : Prop := RWh (l 1) F 0 t ∧ RWh (l 2) F 2 t ∧ RWs (l 3) F t ∧ XR (pk (sgC 4 23) l) F (rnA F t)
section LOG
variable {F : Fg} {t : Nat}
theorem ni481 (k u : Nat) : nI k * 481 + nI u = nI (481 * k + u) := by
  rw [show (481 : Int32) = nI 481 from rfl, nI_mul, nI_add, Nat.mul_comm]
theorem ni480 (k u : Nat) : nI k * 480 + nI u = nI (480 * k + u) := by
  rw [show (480 : Int32) = nI 480 from rfl, nI_mul, nI_add, Nat.mul_comm]
theorem lg_state (hO : OkF F) {S : Fg} (ht : t ≤ 480) : ∀ (c j n : Nat) (l : Mm), j + c = F 0 0 → c < n → XR (pk (sgC 4 23) l) F S → (∀ k, k < j → l 1 (481 * k + t) = nI (S 0 k) ∧ l 2 (481 * k + t) = nI (S 2 k)) → ∃ l', b_X3_writeState_2 n (nI t) (nI j) l = some (some none, l') ∧ (∀ c, 3 ≤ c → l' c = l c) ∧ (∀ k u, u ≤ 480 → u ≠ t → l' 1 (481 * k + u) = l 1 (481 * k + u) ∧ l' 2 (481 * k + u) = l 2 (481 * k + u)) ∧ (∀ k, k < F 0 0 → l' 1 (481 * k + t) = nI (S 0 k) ∧ l' 2 (481 * k + t) = nI (S 2 k)) := by
  have h6 := hO.1
  intro c
  induction c with
  | zero =>
    intro j n l hj hn h hk
    obtain ⟨n, rfl⟩ : ∃ n', n = n' + 1 := ⟨n - 1, by omega⟩
    have e16 : l 16 0 = nI (F 0 0) := h.1.1
    refine ⟨l, ?_, fun _ _ => rfl, fun _ _ _ _ => ⟨rfl, rfl⟩, fun k hk' => hk k (by omega)⟩
    rw [e_X3_writeState_2, e16, if_neg (nI_nlt (by omega) (by omega))]
  | succ c ih =>
    intro j n l hj hn h hk
    obtain ⟨n, rfl⟩ : ∃ n', n = n' + 1 := ⟨n - 1, by omega⟩
    have e16 : l 16 0 = nI (F 0 0) := h.1.1
    have hi : inb (nI j) 6 = true := inb_nI (by omega) (by decide)
    have hi2 : inb (nI (481 * j + t)) 2886 = true := inb_nI (by omega) (by decide)
    have e5 : l 5 j = nI (S 0 j) := (h.2.1 j (by omega)).1
    have e7 : l 7 j = nI (S 2 j) := (h.2.1 j (by omega)).2.2.1
    rw [e_X3_writeState_2, e16, if_pos (nI_lt (by omega) (by omega)), ni481, if_pos hi, if_pos hi2, if_pos hi, if_pos hi2, nI_clamp (by omega), nI_clamp (by omega), e5, e7, nI_1]
    obtain ⟨l', a1, a2, a3, a4⟩ := ih (j + 1) n (wr (wr l 1 (481 * j + t) (nI (S 0 j))) 2 (481 * j + t) (nI (S 2 j))) (by omega) (by omega) (xr_ext (fun c hc => by
      funext i
      rw [pkC, pkC, wr_cell (by omega), wr_cell (by omega)]) h) (fun k hkj => by
      by_cases e : k = j
      · subst e
        rw [wr_cell (by decide), wr_same, wr_same]
        exact ⟨rfl, rfl⟩
      · have := hk k (by omega)
        rw [wr_cell (by decide), wr_place (by omega), wr_place (by omega), wr_cell (by decide)]
        exact this)
    refine ⟨l', a1, fun c hc => ?_, fun k u hu hut => ?_, a4⟩
    · rw [a2 c hc]
      funext i
      rw [wr_cell (by omega), wr_cell (by omega)]
    · have := a3 k u hu hut
      rw [wr_cell (by decide), wr_place (by omega), wr_place (by omega), wr_cell (by decide)] at this
      exact this
theorem lg_spots (hO : OkF F) {S : Fg} (ht : t < 480) : ∀ (c j n : Nat) (l : Mm), j + c = F 0 0 → c < n → XR (pk (sgC 4 23) l) F S → (∀ k, k < j → l 3 (480 * k + t) = nI (S 1 k)) → ∃ l', b_X3_writeSpots_2 n (nI t) (nI j) l = some (some none, l') ∧ (∀ c, c ≠ 3 → l' c = l c) ∧ (∀ k u, u < 480 → u ≠ t → l' 3 (480 * k + u) = l 3 (480 * k + u)) ∧ (∀ k, k < F 0 0 → l' 3 (480 * k + t) = nI (S 1 k)) := by
  have h6 := hO.1
  intro c
  induction c with
  | zero =>
    intro j n l hj hn h hk
    obtain ⟨n, rfl⟩ : ∃ n', n = n' + 1 := ⟨n - 1, by omega⟩
    have e16 : l 16 0 = nI (F 0 0) := h.1.1
    refine ⟨l, ?_, fun _ _ => rfl, fun _ _ _ _ => rfl, fun k hk' => hk k (by omega)⟩
    rw [e_X3_writeSpots_2, e16, if_neg (nI_nlt (by omega) (by omega))]
  | succ c ih =>
    intro j n l hj hn h hk
    obtain ⟨n, rfl⟩ : ∃ n', n = n' + 1 := ⟨n - 1, by omega⟩
    have e16 : l 16 0 = nI (F 0 0) := h.1.1
    have hi : inb (nI j) 6 = true := inb_nI (by omega) (by decide)
    have hi2 : inb (nI (480 * j + t)) 2880 = true := inb_nI (by omega) (by decide)
    have e6 : l 6 j = nI (S 1 j) := (h.2.1 j (by omega)).2.1
    rw [e_X3_writeSpots_2, e16, if_pos (nI_lt (by omega) (by omega)), ni480, if_pos hi, if_pos hi2, nI_clamp (by omega), nI_clamp (by omega), e6, nI_1]
    obtain ⟨l', a1, a2, a3, a4⟩ := ih (j + 1) n (wr l 3 (480 * j + t) (nI (S 1 j))) (by omega) (by omega) (xr_ext (fun c hc => by
      funext i
      rw [pkC, pkC, wr_cell (by omega)]) h) (fun k hkj => by
      by_cases e : k = j
      · subst e
        exact wr_same
      · rw [wr_place (by omega)]
        exact hk k (by omega))
    refine ⟨l', a1, fun c hc => ?_, fun k u hu hut => ?_, a4⟩
    · rw [a2 c hc]
      funext i
      exact wr_cell hc
    · have := a3 k u hu hut
      rw [wr_place (by omega)] at this
      exact this
theorem lg_min (hO : OkF F) : ∀ (c t n : Nat) (l : Mm), t + c = 480 → c < n → WL l F t → ∃ l', b_X3_write_14 n (nI t) l = some (some none, l') ∧ WL l' F 480 := by
  have h6 := hO.1
  intro c
  induction c with
  | zero =>
    intro t n l ht hn h
    obtain ⟨n, rfl⟩ : ∃ n', n = n' + 1 := ⟨n - 1, by omega⟩
    obtain rfl : t = 480 := by omega
    refine ⟨l, ?_, h⟩
    rw [e_X3_write_14, if_neg (show ¬ nI 480 < 480 by decide)]
  | succ c ih =>
    intro t n l ht hn h
    obtain ⟨n, rfl⟩ : ∃ n', n = n' + 1 := ⟨n - 1, by omega⟩
    obtain ⟨r1, r2, r3, hX⟩ := h
    have hS := si_rn hO t
    have hmv := si_mv hO hS
    obtain ⟨τ1, a1, x1⟩ := xf_c hO hS hX
    have s1 := si_cl (F := F) hO (F 9 0) 0 _ hS
    have x1' := xr_ext (pk_put (b := 4) (σ := l)) x1
    obtain ⟨τ2, a2, x2⟩ := xf_a hO s1 x1'
    have s2 := an_all hO (F 9 0) 0 _ (by omega) s1 (pi_cl hO hS)
    have x2' := xr_ext (pk_put (b := 4) (σ := put (sgC 4 23) l τ1)) x2
    obtain ⟨τ3, a3, x3⟩ := xf_p hO s2.1 x2'
    have x3' := xr_ext (pk_put (b := 4) (σ := put (sgC 4 23) (put (sgC 4 23) l τ1) τ2)) x3
    have eo : ∀ c, c < 4 → put (sgC 4 23) (put (sgC 4 23) (put (sgC 4 23) l τ1) τ2) τ3 c = l c := fun c hc => by
      rw [putC_out (by omega), putC_out (by omega), putC_out (by omega)]
    obtain ⟨l4, a4, b4, d4, f4⟩ := lg_spots hO (t := t) (by omega) (F 0 0) 0 bigM (put (sgC 4 23) (put (sgC 4 23) (put (sgC 4 23) l τ1) τ2) τ3) (by omega) (by unfold bigM; omega) x3' (fun k hk => by omega)
    have x4 : XR (pk (sgC 4 23) l4) F (mvA F (rnA F t)) := xr_ext (fun c hc => by
      rw [pkC, pkC, b4 _ (by omega)]) x3'
    obtain ⟨τ5, a5, x5, s5⟩ := xf_pass (t := t) hO hmv.1 hmv.2 x4 (by omega)
    have x5' : XR (pk (sgC 4 23) (put (sgC 4 23) l4 τ5)) F (rnA F (t + 1)) := xr_ext (pk_put (b := 4) (σ := l4)) x5
    obtain ⟨l6, a6, b6, d6, f6⟩ := lg_state hO (t := t + 1) (by omega) (F 0 0) 0 bigM (put (sgC 4 23) l4 τ5) (by omega) (by unfold bigM; omega) x5' (fun k hk => by omega)
    have w4 : f_X3_writeSpots [.inr (.inl 0), .inl (nI t)] (put (sgC 4 23) (put (sgC 4 23) (put (sgC 4 23) l τ1) τ2) τ3) = some (some none, l4) := by
      rw [e_X3_writeSpots]; exact a4
    have w6 : f_X3_writeState [.inr (.inl 0), .inl (nI (t + 1))] (put (sgC 4 23) l4 τ5) = some (some none, l6) := by
      rw [e_X3_writeState]; exact a6
    rw [e_X3_write_14, if_pos (show nI t < 480 from nI_lt (b := 480) (by omega) (by decide)), a1, onV_s, a2, onV_s, a3, onV_s, w4, onV_s, a5, onI_s, nI_1, w6, onV_s]
    have e1 : ∀ c, c = 1 ∨ c = 2 → put (sgC 4 23) l4 τ5 c = l c := fun c hc => by
      rw [putC_out (by omega), b4 c (by omega), eo c (by omega)]
    refine ih (t + 1) n l6 (by omega) (by omega) ⟨fun k hk u hu => ?_, fun k hk u hu => ?_, fun k hk u hu => ?_, ?_⟩
    · by_cases e : u = t + 1
      · rw [e]; exact (f6 k hk).1
      · rw [(d6 k u (by omega) e).1, e1 1 (by omega)]
        exact r1 k hk u (by omega)
    · by_cases e : u = t + 1
      · rw [e]; exact (f6 k hk).2
      · rw [(d6 k u (by omega) e).2, e1 2 (by omega)]
        exact r2 k hk u (by omega)
    · rw [b6 3 (by omega), putC_out (by omega)]
      by_cases e : u = t
      · rw [e]; exact f4 k hk
      · rw [d4 k u (by omega) e, eo 3 (by omega)]
        exact r3 k hk u (by omega)
    · exact xr_ext (fun c hc => by rw [pkC, pkC, b6 _ (by omega)]) x5'
theorem lg_write (hO : OkF F) {l : Mm} (h : XF l 16 F) : ∃ l', f_X3_write [.inr (.inl 0)] l = some (some none, l') ∧ WL l' F 480 := by
  have h6 := hO.1
  have h0 : XF (pk (sgC 4 23) l) 12 F := h
  obtain ⟨τ1, a1, x1⟩ := xf_begin hO h0
  have x1' : XR (pk (sgC 4 23) (put (sgC 4 23) l τ1)) F (rnA F 0) := xr_ext (pk_put (b := 4) (σ := l)) x1
  obtain ⟨l2, a2, b2, d2, f2⟩ := lg_state hO (t := 0) (by omega) (F 0 0) 0 bigM (put (sgC 4 23) l τ1) (by omega) (by unfold bigM; omega) x1' (fun k hk => by omega)
  have w2 : f_X3_writeState [.inr (.inl 0), .inl 0] (put (sgC 4 23) l τ1) = some (some none, l2) := by
    rw [e_X3_writeState]; exact a2
  rw [e_X3_write, a1, onV_s, w2, onV_s]
  refine lg_min hO 480 0 bigM l2 (by omega) (by unfold bigM; omega) ⟨fun k hk u hu => ?_, fun k hk u hu => ?_, fun k hk u hu => by omega, ?_⟩
  · obtain rfl : u = 0 := by omega
    exact (f2 k hk).1
  · obtain rfl : u = 0 := by omega
    exact (f2 k hk).2
  · exact xr_ext (fun c hc => by rw [pkC, pkC, b2 _ (by omega)]) x1'
end LOG
