/-! the reference: orders(), runs() -/
def Fo (σ σ' : Mm) : Prop := ∀ c j, c ≠ 7 → (c = 0 → j ≠ 21 ∧ j ≠ 22 ∧ j ≠ 23) → σ' c j = σ c j
theorem bo_orF {r : Nat → Int32} {F : Fg} : ∀ (c j : Nat), (∀ i, j ≤ i → i < j + c → r i = nI (F 10 i)) → BoL r j (orF F j c)
  | 0, j, _ => trivial
  | c + 1, j, h => ⟨h j (by omega) (by omega), bo_orF c (j + 1) (fun i h1 h2 => h i (by omega) (by omega))⟩
theorem orF_len {F : Fg} : ∀ (c j : Nat), (orF F j c).length = c
  | 0, j => rfl
  | c + 1, j => by
    show (F 10 j :: orF F (j + 1) c).length = c + 1
    rw [List.length_cons, orF_len c (j + 1)]
section ORD
variable {F : Fg}
theorem mo_ord (hO : OkF F) : ∀ (c j n : Nat) (σ : Mm), j + c = F 0 0 → c < n → σ 0 21 = nI (F 0 0) → (∀ i, i < F 0 0 → σ 4 (72 + i) = nI (F 10 i)) → (∀ i, i < j → σ 7 i = nI (F 10 i)) → ∃ σ1, b_X7_orders_13 n (nI j) σ = some (some none, wr (wr σ1 0 22 (σ1 4 79)) 0 23 (-1)) ∧ (∀ c, c ≠ 7 → σ1 c = σ c) ∧ (∀ i, i < F 0 0 → σ1 7 i = nI (F 10 i)) := by
  have h6 := hO.1
  intro c
  induction c with
  | zero =>
    intro j n σ hj hn h1 h2 h3
    obtain ⟨n, rfl⟩ : ∃ n', n = n' + 1 := ⟨n - 1, by omega⟩
    refine ⟨σ, ?_, fun _ _ => rfl, fun i hi => h3 i (by omega)⟩
    rw [e_X7_orders_13, h1, if_neg (nI_nlt (by omega) (by omega))]
  | succ c ih =>
    intro j n σ hj hn h1 h2 h3
    obtain ⟨n, rfl⟩ : ∃ n', n = n' + 1 := ⟨n - 1, by omega⟩
    rw [e_X7_orders_13, h1, if_pos (nI_lt (by omega) (by omega)), n72, if_pos (inb_nI (by omega) (by decide)), if_pos (inb_nI (by omega) (by decide)), nI_clamp (by omega), nI_clamp (by omega), h2 j (by omega), nI_1]
    obtain ⟨σ1, a1, a2, a3⟩ := ih (j + 1) n (wr σ 7 j (nI (F 10 j))) (by omega) (by omega) (by rw [wr_cell (by decide)]; exact h1) (fun i hi => by rw [wr_cell (by decide)]; exact h2 i hi) (fun i hi => by
      by_cases e : i = j
      · rw [e]; exact wr_same
      · rw [wr_place e]; exact h3 i (by omega))
    refine ⟨σ1, a1, fun c hc => ?_, a3⟩
    rw [a2 c hc]
    funext i
    exact wr_cell hc
theorem mf_orders (hO : OkF F) {σ : Mm} (hM : MF (σ 2) (σ 4) 0 F) : ∃ σ', f_X7_orders [.inr (.inl 0)] σ = some (some none, σ') ∧ MC σ' F (orL F) (F 0 1) 9 ∧ Fo σ σ' := by
  have h6 := hO.1
  have h3 := hO.2.1
  have h := hM
  unfold MF at h
  simp only [Nat.zero_add] at h
  obtain ⟨t1, t2, t3, t4, t5⟩ := h
  obtain ⟨σ1, a1, a2, a3⟩ := mo_ord hO (F 0 0) 0 bigM (wr σ 0 21 (σ 2 18)) (by omega) (by unfold bigM; omega) (by rw [wr_same]; exact t1) (fun i hi => by rw [wr_cell (by decide)]; exact (t3 i hi).2.2.2.1) (fun i hi => by omega)
  have e2 : σ1 2 = σ 2 := by rw [a2 2 (by decide)]; funext i; exact wr_cell (by decide)
  have e4 : σ1 4 = σ 4 := by rw [a2 4 (by decide)]; funext i; exact wr_cell (by decide)
  refine ⟨wr (wr σ1 0 22 (σ1 4 79)) 0 23 (-1), ?_, ⟨⟨?_, ?_, ?_, fun k hk => ?_⟩, ⟨h3, ?_, ?_, ?_⟩, fun j hj => ?_, ?_, ?_, ?_⟩, fun c j hc hj => ?_⟩
  · rw [e_X7_orders]; exact a1
  · rw [wr_place (by decide), wr_place (by decide), a2 0 (by decide), wr_same, t1]
    unfold orL
    rw [orF_len]
  · unfold orL; rw [orF_len]; exact h6
  · have : (wr (wr σ1 0 22 (σ1 4 79)) 0 23 (-1)) 7 = σ1 7 := by funext i; rw [wr_cell (by decide), wr_cell (by decide)]
    rw [this]
    exact bo_orF _ _ (fun i _ h2 => a3 i (by omega))
  · have hk6 := orL_lt hO hk
    obtain ⟨m1, m2, m3, m4, m5, m6⟩ := t3 k hk6
    refine ⟨⟨by omega, ?_, ?_, ?_, fun s hs => ?_⟩, hk6⟩
    · rw [wr_cell (by decide), wr_cell (by decide), e2]; exact m1
    · rw [wr_cell (by decide), wr_cell (by decide), e2]; exact m2
    · rw [wr_cell (by decide), wr_cell (by decide), e4]; exact m3
    · rw [wr_cell (by decide), wr_cell (by decide), wr_cell (by decide), wr_cell (by decide), e4]; exact m5 s hs
  · rw [wr_cell (by decide), wr_cell (by decide), e2]; exact t2
  · rw [wr_same, if_neg (by omega)]
  · rw [if_neg (by omega)]
  · have : plW 9 j = j := by unfold plW; rw [if_pos (by omega)]
    rw [this, wr_cell (by decide), wr_cell (by decide), wr_cell (by decide), wr_cell (by decide), e4]
    exact t4 j hj
  · rw [wr_cell (by decide), wr_cell (by decide), e4]; exact t5 0 (by decide)
  · rw [wr_cell (by decide), wr_cell (by decide), e4]; exact t5 2 (by decide)
  · rw [wr_place (by decide), wr_same, e4]; exact t5 1 (by decide)
  · by_cases h0 : c = 0
    · subst h0
      obtain ⟨j1, j2, j3⟩ := hj rfl
      rw [wr_place j3, wr_place j2, a2 0 (by decide), wr_place j1]
    · rw [wr_cell h0, wr_cell h0, a2 c hc, wr_cell h0]
theorem kp_all (F : Fg) : Kp F (orL F) := ⟨fun _ => true, (List.filter_eq_self.mpr (fun _ _ => rfl)).symm, fun k _ h => by cases h⟩
end ORD
def RRh (r : Nat → Int32) (F : Fg) (q t : Nat) : Prop := ∀ k, k < F 0 0 → ∀ u, u < t → r (6 * u + k) = nI (rnA F u q k)
def RRs (r : Nat → Int32) (F : Fg) (t : Nat) : Prop := ∀ k, k < F 0 0 → ∀ u, u < t → r (6 * u + k) = nI (mvA F (rnA F u) 1 k)
def RR (σ : Mm) (F : Fg) : Prop := RRh (σ 15) F 0 481 ∧ RRh (σ 17) F 2 481 ∧ RRs (σ 16) F 480 ∧ (∀ k, k < F 0 0 → σ 18 k = nI (rnA F 480 4 k) - 1 ∧ σ 19 k = nI (rnA F 480 5 k) ∧ σ 20 k = nI (rnA F 480 6 k))
def Fu (σ σ' : Mm) : Prop := ∀ c j, (c < 8 ∨ 20 < c) → σ' c j = σ c j
theorem Fu_trans {σ σ1 σ2 : Mm} (h1 : Fu σ σ1) (h2 : Fu σ1 σ2) : Fu σ σ2 := fun c j h => (h2 c j h).trans (h1 c j h)
theorem Fu_fx {σ σ1 : Mm} (h : Fxm σ σ1) : Fu σ σ1 := fun c j h9 => h c j (by omega)
section RUNS
variable {F : Fg} {t : Nat}
theorem ni6 (t k : Nat) : 6 * nI t + nI k = nI (6 * t + k) := by
  rw [show (6 : Int32) = nI 6 from rfl, nI_mul, nI_add]
theorem mc_fu {σ σ' : Mm} {bo : List Nat} {P wo : Nat} (hf : Fu σ σ') (h : MC σ F bo P wo) : MC σ' F bo P wo := by
  have e0 : σ' 0 = σ 0 := funext (fun j => hf 0 j (by omega))
  have e2 : σ' 2 = σ 2 := funext (fun j => hf 2 j (by omega))
  have e4 : σ' 4 = σ 4 := funext (fun j => hf 4 j (by omega))
  have e7 : σ' 7 = σ 7 := funext (fun j => hf 7 j (by omega))
  unfold MC MI at h ⊢
  rw [e0, e2, e4, e7]
  exact h
theorem ru_state (hO : OkF F) {S : Fg} (ht : t ≤ 480) (N : Nat) : ∀ (c j n : Nat) (σ : Mm), j + c = 6 → c + 1 + N ≤ n → MSt σ S (orL F) 9 → (∀ k, k < j → k < F 0 0 → σ 15 (6 * t + k) = nI (S 0 k) ∧ σ 17 (6 * t + k) = nI (S 2 k)) → ∃ n' σ', N ≤ n' ∧ b_X7_runs_32 n (nI t) (nI j) σ = b_X7_runs_32 (n' + 1) (nI t) (nI 6) σ' ∧ (∀ c, c ≠ 15 → c ≠ 17 → σ' c = σ c) ∧ (∀ i, i < 6 * t → σ' 15 i = σ 15 i ∧ σ' 17 i = σ 17 i) ∧ (∀ k, k < F 0 0 → σ' 15 (6 * t + k) = nI (S 0 k) ∧ σ' 17 (6 * t + k) = nI (S 2 k)) := by
  have h6 := hO.1
  intro c
  induction c with
  | zero =>
    intro j n σ hj hn h hk
    obtain rfl : j = 6 := by omega
    exact ⟨n - 1, σ, by omega, by rw [show n - 1 + 1 = n by omega], fun _ _ _ => rfl, fun _ _ => ⟨rfl, rfl⟩, fun k hk' => hk k (by omega) hk'⟩
  | succ c ih =>
    intro j n σ hj hn h hk
    obtain ⟨n, rfl⟩ : ∃ n', n = n' + 1 := ⟨n - 1, by omega⟩
    have hi : inb (nI j) 6 = true := inb_nI (by omega) (by decide)
    have hi2 : inb (nI (6 * t + j)) 2886 = true := inb_nI (by omega) (by decide)
    rw [e_X7_runs_32, if_pos (show nI j < 6 from nI_lt (b := 6) (by omega) (by decide)), ni6, if_pos hi, if_pos hi2, if_pos hi, if_pos hi2, nI_clamp (by omega), nI_clamp (by omega), nI_1]
    obtain ⟨n', σ', a0, a1, a2, a3, a4⟩ := ih (j + 1) n (wr (wr σ 15 (6 * t + j) (σ 8 j)) 17 (6 * t + j) (σ 10 j)) (by omega) (by omega) (fun k hk' => m1_eq (fun c h1 h2 => by rw [wr_cell (by omega), wr_cell (by omega)]) (h k hk')) (fun k hkj hkn => by
      by_cases e : k = j
      · subst e
        have := h k (orL_all hO hkn)
        rw [wr_cell (by decide), wr_same, wr_same]
        exact ⟨this.1, this.2.2.1⟩
      · have := hk k (by omega) hkn
        rw [wr_cell (by decide), wr_place (by omega), wr_place (by omega), wr_cell (by decide)]
        exact this)
    refine ⟨n', σ', a0, a1, fun c h1 h2 => ?_, fun i hi' => ?_, a4⟩
    · rw [a2 c h1 h2]
      funext i
      rw [wr_cell h2, wr_cell h1]
    · have := a3 i hi'
      rw [wr_cell (by decide), wr_place (by omega), wr_place (by omega), wr_cell (by decide)] at this
      exact this
theorem lc9 {x : Nat} (h : x ≤ 3 ∨ 10 ≤ x) : lcA 9 x = x := by
  unfold lcA plW
  split
  · omega
  · split
    · rfl
    · rw [if_pos (by omega)]
      omega
theorem ru_works (hO : OkF F) {M : Fg} (hM : SI F (F 0 1) M) (hP : PI F M) (ht : t < 480) {P : Nat} (N : Nat) : ∀ (l d : List Nat) (n : Nat) (σ : Mm), orL F = d ++ l → l.length + 1 + N ≤ n → MC σ F (orL F) P 9 → (∀ k, k ∈ l → M1 σ M 9 k) → (∀ k, k ∈ d → M1 σ (psJ F t (F 0 0) M) 9 k ∧ σ 16 (6 * t + k) = nI (M 1 k)) → ∃ n' σ', N ≤ n' ∧ b_X7_runs_94 n (nI t) (nI d.length) σ = b_X7_runs_23 n' (nI (t + 1)) σ' ∧ Fu σ σ' ∧ (∀ c, 15 ≤ c → c ≠ 16 → σ' c = σ c) ∧ (∀ i, i < 6 * t → σ' 16 i = σ 16 i) ∧ (∀ k, k ∈ orL F → M1 σ' (psJ F t (F 0 0) M) 9 k ∧ σ' 16 (6 * t + k) = nI (M 1 k)) := by
  have h6 := hO.1
  intro l
  induction l with
  | nil =>
    intro d n σ hd hn hC h1 h2
    obtain ⟨n, rfl⟩ : ∃ n', n = n' + 1 := ⟨n - 1, by omega⟩
    have hl : (orL F).length = d.length := by rw [hd, List.append_nil]
    have c2 := hC.1.2.1
    refine ⟨n, σ, by simp at hn; omega, ?_, fun _ _ _ => rfl, fun _ _ _ => rfl, fun _ _ => rfl, fun k hk => h2 k (by rw [hd, List.append_nil] at hk; exact hk)⟩
    rw [e_X7_runs_94, hC.1.1, if_neg (nI_nlt (by omega) (by omega)), nI_1]
  | cons k r ih =>
    intro d n σ hd hn hC h1 h2
    rw [List.length_cons] at hn
    obtain ⟨n, rfl⟩ : ∃ n', n = n' + 1 := ⟨n - 1, by omega⟩
    have hl : (orL F).length = d.length + (r.length + 1) := by rw [hd, List.length_append, List.length_cons]
    have hkb : k ∈ orL F := by rw [hd]; exact List.mem_append_right _ List.mem_cons_self
    obtain ⟨c1, c2, c3, c4⟩ := hC.1
    have e7 : σ 7 d.length = nI k := by
      have := bo_app 0 d (k :: r) (hd ▸ c3)
      rw [Nat.zero_add] at this
      exact this.1
    have hk := (c4 k hkb).2
    have hnd := bo_nodup hO (kp_all F)
    rw [hd] at hnd
    have hkd : ∀ k', k' ∈ d → k' ≠ k := fun k' hk' e => by
      rw [List.nodup_append] at hnd
      exact hnd.2.2 k' hk' k List.mem_cons_self e
    have hkr : ∀ k', k' ∈ r → k' ≠ k := fun k' hk' e => by
      rw [List.nodup_append, List.nodup_cons] at hnd
      exact hnd.2.1.1 (e ▸ hk')
    have el : (d ++ [k]).length = d.length + 1 := by rw [List.length_append]; rfl
    have hid : inb (nI d.length) 6 = true := inb_nI (by omega) (by decide)
    have hfu : Fu σ (wr σ 16 (6 * t + k) (nI (M 1 k))) := fun c j h9 => wr_cell (by omega)
    have m1 := h1 k List.mem_cons_self
    have e9 : σ 9 k = nI (M 1 k) := by
      rw [m1.2.1, lc9 (by have := loc3 hO hM hk; omega)]
    have hC1 := mc_fu hfu hC
    obtain ⟨σ1, a1, a2, a3, a4⟩ := mf_work (t := t) hO hM hP (by omega) hC1 hkb (m1_eq (fun c _ _ => wr_cell (by omega)) m1)
    rw [e_X7_runs_94, c1, if_pos (nI_lt (by omega) (by omega)), nI_clamp (by omega), e7, if_pos hid, if_pos hid, if_pos (inb_nI (by omega) (by decide)), ni6, if_pos (inb_nI (by omega) (by decide)), if_pos hid, nI_clamp (by omega), nI_clamp (by omega), e9, a1, onV_s, nI_1]
    have e16 : ∀ c j, 15 ≤ c → σ1 c j = wr σ 16 (6 * t + k) (nI (M 1 k)) c j := fun c j hc => a2 c j (by omega)
    have := ih (d ++ [k]) n σ1 (by rw [hd, List.append_assoc]; rfl) (by omega) (mc_fx a2 hC1) (fun k' hk' => m1_eq (fun c h8 h9 => by rw [a3 c k' (hkr k' hk'), wr_cell (by omega)]) (h1 k' (List.mem_cons_of_mem _ hk'))) (fun k' hk' => by
      rcases List.mem_append.mp hk' with h9 | h9
      · refine ⟨m1_eq (fun c h8 h7 => by rw [a3 c k' (hkd k' h9), wr_cell (by omega)]) (h2 k' h9).1, ?_⟩
        rw [e16 16 _ (by omega), wr_place (by have := hkd k' h9; omega)]
        exact (h2 k' h9).2
      · rw [List.mem_singleton] at h9
        rw [h9]
        refine ⟨m1_S (fun c => ?_) a4, ?_⟩
        · unfold psJ
          rw [if_pos hk]
        · rw [e16 16 _ (by omega), wr_same])
    rw [el] at this
    obtain ⟨n', σ', b0, b1, b2, b3, b4, b5⟩ := this
    refine ⟨n', σ', b0, b1, Fu_trans hfu (Fu_trans (Fu_fx a2) b2), fun c h8 h9 => ?_, fun i hi => ?_, b5⟩
    · rw [b3 c h8 h9]
      funext j
      rw [e16 c j h8, wr_cell h9]
    · rw [b4 i hi, e16 16 i (by omega), wr_place (by omega)]
theorem ru_min (hO : OkF F) {P : Nat} : ∀ (c t n : Nat) (σ : Mm), t + c = 481 → 20 * c + 20 ≤ n → MC σ F (orL F) P 9 → (t ≤ 480 → MSt σ (rnA F t) (orL F) 9) → (t = 481 → MSt σ (rnA F 480) (orL F) 9) → RRh (σ 15) F 0 t → RRh (σ 17) F 2 t → RRs (σ 16) F (min t 480) → ∃ n' σ', 10 ≤ n' ∧ b_X7_runs_23 n (nI t) σ = b_X7_runs_154 n' 0 σ' ∧ Fu σ σ' ∧ MSt σ' (rnA F 480) (orL F) 9 ∧ RRh (σ' 15) F 0 481 ∧ RRh (σ' 17) F 2 481 ∧ RRs (σ' 16) F 480 := by
  have h6 := hO.1
  intro c
  induction c with
  | zero =>
    intro t n σ ht hn hC h1 h2 r1 r2 r3
    obtain ⟨n, rfl⟩ : ∃ n', n = n' + 1 := ⟨n - 1, by omega⟩
    obtain rfl : t = 481 := by omega
    refine ⟨n, σ, by omega, ?_, fun _ _ _ => rfl, h2 rfl, r1, r2, r3⟩
    rw [e_X7_runs_23, if_pos (show (480 : Int32) < nI 481 by decide)]
  | succ c ih =>
    intro t n σ ht hn hC h1 h2 r1 r2 r3
    obtain ⟨n, rfl⟩ : ∃ n', n = n' + 1 := ⟨n - 1, by omega⟩
    have hms := h1 (by omega)
    rw [e_X7_runs_23, if_neg (show ¬ (480 : Int32) < nI t from nI_nlt (a := 480) (by omega) (by decide))]
    obtain ⟨n1, σ1, a0, a1, a2, a3, a4⟩ := ru_state hO (S := rnA F t) (t := t) (by omega) (20 * c + 32) 6 0 n σ (by omega) (by omega) hms (fun k hk => by omega)
    have a1' : b_X7_runs_32 n (nI t) 0 σ = b_X7_runs_32 (n1 + 1) (nI t) (nI 6) σ1 := a1
    have hfu1 : Fu σ σ1 := fun c j h9 => by rw [a2 c (by omega) (by omega)]
    have hms1 : MSt σ1 (rnA F t) (orL F) 9 := fun k hk => m1_eq (fun c h8 h9 => by rw [a2 c (by omega) (by omega)]) (hms k hk)
    have q1 : RRh (σ1 15) F 0 (t + 1) := fun k hk u hu => by
      by_cases e : u = t
      · rw [e]; exact (a4 k hk).1
      · rw [(a3 (6 * u + k) (by omega)).1]; exact r1 k hk u (by omega)
    have q2 : RRh (σ1 17) F 2 (t + 1) := fun k hk u hu => by
      by_cases e : u = t
      · rw [e]; exact (a4 k hk).2
      · rw [(a3 (6 * u + k) (by omega)).2]; exact r2 k hk u (by omega)
    rw [a1', e_X7_runs_32, if_neg (show ¬ nI 6 < 6 by decide)]
    by_cases he : t = 480
    · subst he
      rw [if_pos (show nI 480 = 480 from rfl), nI_1]
      obtain ⟨n', σ', b0, b1, b2, b3⟩ := ih 481 n1 σ1 (by omega) (by omega) (mc_fu hfu1 hC) (fun h9 => by omega) (fun _ => hms1) q1 q2 (by rw [a2 16 (by decide) (by decide)]; exact r3)
      exact ⟨n', σ', b0, b1, Fu_trans hfu1 b2, b3⟩
    · have hS := si_rn hO t
      obtain ⟨σ2, d1, d2, d3, d4⟩ := mf_moves hO (kp_all F) hS (zi_rn hO t) (mc_fu hfu1 hC) hms1
      have hmv := si_mv hO hS
      obtain ⟨n3, σ3, f0, f1, f2, f3, f4, f5⟩ := ru_works (t := t) hO hmv.1 hmv.2 (by omega) (20 * c + 20) (orL F) [] n1 σ2 rfl (by have := hC.1.2.1; omega) (mc_fx d2 (mc_fu hfu1 hC)) d3 (fun k hk => by cases hk)
      have f1' : b_X7_runs_94 n1 (nI t) 0 σ2 = b_X7_runs_23 n3 (nI (t + 1)) σ3 := f1
      rw [if_neg (show ¬ nI t = 480 from fun h9 => he ((nI_eq (b := 480) (by omega) (by decide)).mp h9)), d1, onV_s, f1']
      have e15 : σ3 15 = σ1 15 := by rw [f3 15 (by decide) (by decide)]; funext j; exact d2 15 j (by decide)
      have e17 : σ3 17 = σ1 17 := by rw [f3 17 (by decide) (by decide)]; funext j; exact d2 17 j (by decide)
      obtain ⟨n', σ', b0, b1, b2, b3⟩ := ih (t + 1) n3 σ3 (by omega) f0 (mc_fu f2 (mc_fx d2 (mc_fu hfu1 hC))) (fun _ k hk => (f5 k hk).1) (fun h9 => by omega) (by rw [e15]; exact q1) (by rw [e17]; exact q2) (fun k hk u hu => by
        by_cases e : u = t
        · rw [e]; exact (f5 k (orL_all hO hk)).2
        · rw [f4 _ (by omega), d2 16 _ (by decide), a2 16 (by decide) (by decide)]
          exact r3 k hk u (by omega))
      exact ⟨n', σ', b0, b1, Fu_trans hfu1 (Fu_trans (Fu_fx d2) (Fu_trans f2 b2)), b3⟩
theorem ru_last (hO : OkF F) {S : Fg} : ∀ (c j n : Nat) (σ : Mm), j + c = 6 → c < n → MSt σ S (orL F) 9 → (∀ k, k < j → k < F 0 0 → σ 18 k = nI (S 4 k) - 1 ∧ σ 19 k = nI (S 5 k) ∧ σ 20 k = nI (S 6 k)) → ∃ σ', b_X7_runs_154 n (nI j) σ = some (some none, σ') ∧ (∀ c, c < 18 ∨ 20 < c → σ' c = σ c) ∧ (∀ k, k < F 0 0 → σ' 18 k = nI (S 4 k) - 1 ∧ σ' 19 k = nI (S 5 k) ∧ σ' 20 k = nI (S 6 k)) := by
  have h6 := hO.1
  intro c
  induction c with
  | zero =>
    intro j n σ hj hn h hk
    obtain ⟨n, rfl⟩ : ∃ n', n = n' + 1 := ⟨n - 1, by omega⟩
    refine ⟨σ, ?_, fun _ _ => rfl, fun k hk' => hk k (by omega) hk'⟩
    rw [e_X7_runs_154, if_neg (show ¬ nI j < 6 from nI_nlt (b := 6) (by omega) (by omega))]
  | succ c ih =>
    intro j n σ hj hn h hk
    obtain ⟨n, rfl⟩ : ∃ n', n = n' + 1 := ⟨n - 1, by omega⟩
    have hi : inb (nI j) 6 = true := inb_nI (by omega) (by decide)
    rw [e_X7_runs_154, if_pos (show nI j < 6 from nI_lt (b := 6) (by omega) (by decide))]
    simp only [if_pos hi]
    rw [nI_clamp (by omega), nI_1]
    obtain ⟨σ', a1, a2, a3⟩ := ih (j + 1) n (wr (wr (wr σ 18 j (σ 12 j)) 19 j (σ 13 j)) 20 j (σ 14 j)) (by omega) (by omega) (fun k hk' => m1_eq (fun c h1 h2 => by rw [wr_cell (by omega), wr_cell (by omega), wr_cell (by omega)]) (h k hk')) (fun k hkj hkn => by
      by_cases e : k = j
      · subst e
        have := h k (orL_all hO hkn)
        rw [wr_cell (by decide), wr_cell (by decide), wr_same, wr_cell (by decide), wr_same, wr_same]
        exact ⟨this.2.2.2.2.1, this.2.2.2.2.2.1, this.2.2.2.2.2.2⟩
      · have := hk k (by omega) hkn
        simp only [wr_at, e, and_false, if_false]
        exact this)
    refine ⟨σ', a1, fun c h1 => ?_, a3⟩
    rw [a2 c h1]
    funext i
    rw [wr_cell (by omega), wr_cell (by omega), wr_cell (by omega)]
/-- what runs() leaves alone -/
def Fvm (σ σ' : Mm) : Prop := (∀ c, (1 ≤ c ∧ c ≤ 6) ∨ 20 < c → σ' c = σ c) ∧ (∀ j, j ≠ 21 → j ≠ 22 → j ≠ 23 → j ≠ 37 → σ' 0 j = σ 0 j)
theorem mf_runs (hO : OkF F) {σ : Mm} (hM : MF (σ 2) (σ 4) 0 F) (hR : σ 0 37 = 0 ∨ (σ 0 37 = 1 ∧ RR σ F)) : ∃ σ', f_X7_runs [.inr (.inl 0)] σ = some (some none, σ') ∧ Fvm σ σ' ∧ σ' 0 37 = 1 ∧ RR σ' F := by
  rw [e_X7_runs]
  rcases hR with h0 | ⟨h1, hR⟩
  · rw [if_pos h0]
    obtain ⟨σ1, a1, a2, a3⟩ := mf_orders hO (σ := wr σ 0 37 1) hM
    obtain ⟨σ2, b1, b2, b3⟩ := mf_begins hO 6 0 bigM σ1 (by omega) (by unfold bigM; omega) a2 (fun k hk h0 => by omega)
    have b1' : f_X7_begins [.inr (.inl 0)] σ1 = some (some none, σ2) := by rw [e_X7_begins]; exact b1
    obtain ⟨n3, σ3, d0, d1, d2, d3, d4, d5, d6⟩ := ru_min hO 481 0 bigM σ2 (by omega) (by unfold bigM; omega) (mc_fx b2 a2) (fun _ => b3) (fun h9 => by omega) (fun k hk u hu => by omega) (fun k hk u hu => by omega) (fun k hk u hu => by omega)
    obtain ⟨σ4, f1, f2, f3⟩ := ru_last hO (S := rnA F 480) 6 0 n3 σ3 (by omega) (by omega) d3 (fun k hk => by omega)
    have d1' : b_X7_runs_23 bigM 0 σ2 = b_X7_runs_154 n3 0 σ3 := d1
    have f1' : b_X7_runs_154 n3 0 σ3 = some (some none, σ4) := f1
    rw [a1, onV_s, b1', onV_s, d1', f1']
    have key : ∀ c j, c < 8 ∨ 20 < c → σ4 c j = σ1 c j := fun c j hc => by
      rw [f2 c (by omega), d2 c j hc, b2 c j (by omega)]
    refine ⟨σ4, rfl, ⟨fun c hc => ?_, fun j h1 h2 h3 h4 => ?_⟩, ?_, ?_, ?_, ?_, f3⟩
    · funext j
      rw [key c j (by omega), a3 c j (by omega) (by omega), wr_cell (by omega)]
    · rw [key 0 j (by omega), a3 0 j (by decide) (fun _ => ⟨h1, h2, h3⟩), wr_place h4]
    · rw [key 0 37 (by omega), a3 0 37 (by decide) (fun _ => by decide), wr_same]
    · rw [f2 15 (by omega)]; exact d4
    · rw [f2 17 (by omega)]; exact d5
    · rw [f2 16 (by omega)]; exact d6
  · rw [if_neg (by rw [h1]; decide)]
    exact ⟨σ, rfl, ⟨fun _ _ => rfl, fun _ _ _ _ _ => rfl⟩, h1, hR⟩
end RUNS
