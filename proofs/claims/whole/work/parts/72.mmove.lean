/-! irons that have nothing to do stay on the rack -/
def ZI (F S : Fg) : Prop := ∀ k, k < F 0 0 → F 4 k = 0 → S 1 k = 0
section ZIS
variable {F S : Fg} {k t : Nat}
theorem zi_cl (hO : OkF F) (hS : SI F (F 0 1) S) (h : ZI F S) : ZI F (clB F (orL F) (F 9 0) 0 S) := by
  intro k hk h0
  rw [cl_at hO hS hk]
  have := h k hk h0
  unfold clK
  rw [if_neg (by omega)]
  exact this
theorem zi_dn (hS : SI F (F 0 1) S) (hk : k < F 0 0) (h0 : F 4 k = 0) : dnA F S k = true := dn_iff.mpr (by have := (hS.1 k hk).1; omega)
theorem zi_an1 (hO : OkF F) (hS : SI F (F 0 1) S) (h : ZI F S) (v : Nat) : ZI F (anS F (orL F) v S) := by
  unfold anS
  split
  · exact h
  · cases hp : pickA F S (orL F) none with
    | none => exact h
    | some j =>
      intro k hk h0
      have hj : rdA F S j = true := by
        rcases pick_mem _ _ _ hp with h9 | h9
        · exact h9.2
        · cases h9
      show upA S 1 j (10 + v) 1 k = 0
      rw [upA_at]
      by_cases e : k = j
      · subst e
        have := rd_nd hj
        rw [zi_dn hS hk h0] at this
        cases this
      · rw [if_neg (fun h9 => e h9.2)]
        exact h k hk h0
theorem wt_nd {ord : List Nat} (h : wtA F S ord = some k) : dnA F S k = false := by
  have := List.find?_some h
  simp only [Bool.and_eq_true, Bool.not_eq_true'] at this
  exact this.1.1
theorem zi_pl1 (hS : SI F (F 0 1) S) (h : ZI F S) (v : Nat) : ZI F (plS F (orL F) v S) := by
  unfold plS
  split
  · exact h
  · cases hp : wtA F S (orL F) with
    | none => exact h
    | some j =>
      intro k hk h0
      show upA (upA S 1 j (1 + v)) 6 j (S 6 j + 1) 1 k = 0
      rw [upA_c (by decide), upA_at]
      by_cases e : k = j
      · subst e
        have := wt_nd hp
        rw [zi_dn hS hk h0] at this
        cases this
      · rw [if_neg (fun h9 => e h9.2)]
        exact h k hk h0
end ZIS
section MMOVE
variable {F : Fg} {bo : List Nat} {P wo : Nat}
theorem mo_clr (hO : OkF F) {S : Fg} (hS : SI F (F 0 1) S) (hN : bo.Nodup) : ∀ (l d : List Nat) (n N : Nat) (σ : Mm), bo = d ++ l → 2 * l.length + 1 + N ≤ n → MC σ F bo P wo → (∀ k, k ∈ l → M1 σ S wo k) → (∀ k, k ∈ d → M1 σ (clB F (orL F) (F 9 0) 0 S) wo k) → ∃ n' σ', N ≤ n' ∧ b_X7_moves_2 n (nI d.length) σ = b_X7_moves_93 n' 0 σ' ∧ Fxm σ σ' ∧ MSt σ' (clB F (orL F) (F 9 0) 0 S) bo wo := by
  have h6 := hO.1
  intro l
  induction l with
  | nil =>
    intro d n N σ hd hn hC h1 h2
    obtain ⟨n, rfl⟩ : ∃ n', n = n' + 1 := ⟨n - 1, by omega⟩
    have hl : bo.length = d.length := by rw [hd, List.append_nil]
    have c2 := hC.1.2.1
    refine ⟨n, σ, by simp at hn; omega, ?_, Fxm_refl σ, fun k hk => h2 k (by rw [hd, List.append_nil] at hk; exact hk)⟩
    rw [e_X7_moves_2, hC.1.1, if_neg (nI_nlt (by omega) (by omega))]
  | cons k r ih =>
    intro d n N σ hd hn hC h1 h2
    rw [List.length_cons] at hn
    obtain ⟨n, rfl⟩ : ∃ n', n = n' + 2 := ⟨n - 2, by omega⟩
    have hl : bo.length = d.length + (r.length + 1) := by rw [hd, List.length_append, List.length_cons]
    have hkb : k ∈ bo := by rw [hd]; exact List.mem_append_right _ List.mem_cons_self
    obtain ⟨c1, c2, c3, c4⟩ := hC.1
    have e7 : σ 7 d.length = nI k := by
      have := bo_app 0 d (k :: r) (hd ▸ c3)
      rw [Nat.zero_add] at this
      exact this.1
    obtain ⟨hM, hk⟩ := c4 k hkb
    have m1 := h1 k List.mem_cons_self
    have hi : inb (nI k) 6 = true := inb_nI (by omega) (by decide)
    have hnd := hN
    rw [hd] at hnd
    have hkd : ∀ k', k' ∈ d → k' ≠ k := fun k' hk' e => by
      rw [List.nodup_append] at hnd
      exact hnd.2.2 k' hk' k List.mem_cons_self e
    have hkr : ∀ k', k' ∈ r → k' ≠ k := fun k' hk' e => by
      rw [List.nodup_append, List.nodup_cons] at hnd
      exact hnd.2.1.1 (e ▸ hk')
    have el : (d ++ [k]).length = d.length + 1 := by rw [List.length_append]; rfl
    have hbo : bo = (d ++ [k]) ++ r := by rw [hd, List.append_assoc]; rfl
    have hloc := loc3 hO hS hk
    have hll := lc_lt (wo := wo) hloc
    -- the next iron, from a memory in which this one is cleared
    have go : ∀ (n1 : Nat) (σ1 : Mm), 2 * r.length + 1 + N ≤ n1 → Fxm σ σ1 → (∀ c k', k' ≠ k → σ1 c k' = σ c k') → M1 σ1 (clB F (orL F) (F 9 0) 0 S) wo k → ∃ n' σ', N ≤ n' ∧ b_X7_moves_2 n1 (nI (d.length + 1)) σ1 = b_X7_moves_93 n' 0 σ' ∧ Fxm σ σ' ∧ MSt σ' (clB F (orL F) (F 9 0) 0 S) bo wo := by
      intro n1 σ1 hn1 hf hg hm
      have := ih (d ++ [k]) n1 N σ1 hbo hn1 (mc_fx hf hC) (fun k' hk' => m1_eq (fun c _ _ => hg c k' (hkr k' hk')) (h1 k' (List.mem_cons_of_mem _ hk'))) (fun k' hk' => by
        rcases List.mem_append.mp hk' with h9 | h9
        · exact m1_eq (fun c _ _ => hg c k' (hkd k' h9)) (h2 k' h9)
        · rw [List.mem_singleton] at h9
          rw [h9]
          exact hm)
      rw [el] at this
      obtain ⟨n', σ', a1, a2, a3, a4⟩ := this
      exact ⟨n', σ', a1, a2, Fxm_trans hf a3, a4⟩
    rw [e_X7_moves_2, c1, if_pos (nI_lt (by omega) (by omega)), if_pos (inb_nI (by omega) (by decide)), nI_clamp (by omega), e7, if_pos hi, nI_clamp (by omega), m1.2.1, nI_1]
    have hcl := fun q => cl_at (F := F) hO hS hk q
    by_cases h10 : S 1 k < 10
    · rw [if_pos (show nI _ < 10 from nI_lt (b := 10) ((lc_10 (by omega)).mpr h10) (by decide))]
      refine go (n + 1) σ (by omega) (Fxm_refl σ) (fun _ _ _ => rfl) (m1_S (fun c => ?_) m1)
      rw [hcl]
      unfold clK
      rw [if_neg (by omega)]
    · rw [if_neg (show ¬ nI _ < 10 from nI_nlt (b := 10) (by have := (lc_10 (wo := wo) (x := S 1 k) (by omega)); omega) (by omega)), sm_dn hO hS hk hM m1, onI_s]
      have hS0 : SI F (F 0 1) (upA S 1 k 0) := si_up hS hk (Or.inl rfl) (fun _ _ _ => rfl)
      have hfx0 : Fxm σ (wr σ 9 k 0) := Fxm_wr (by omega)
      have hM0 : MI (wr σ 9 k 0) F k := ((mc_fx hfx0 hC).1.2.2.2 k hkb).1
      have m10 : M1 (wr σ 9 k 0) (upA S 1 k 0) wo k := by
        refine ⟨?_, ?_, ?_, ?_, ?_, ?_, ?_⟩
        · rw [wr_cell (by decide), upA_c (by decide)]; exact m1.1
        · rw [wr_same, upA_at, if_pos ⟨rfl, rfl⟩]; rfl
        · rw [wr_cell (by decide), upA_c (by decide)]; exact m1.2.2.1
        · rw [wr_cell (by decide), upA_c (by decide)]; exact m1.2.2.2.1
        · rw [wr_cell (by decide), upA_c (by decide)]; exact m1.2.2.2.2.1
        · rw [wr_cell (by decide), upA_c (by decide)]; exact m1.2.2.2.2.2.1
        · rw [wr_cell (by decide), upA_c (by decide)]; exact m1.2.2.2.2.2.2
      have h56 : (dnA F S k = true ∨ S 0 k < ndA F S k) → ∃ n' σ', N ≤ n' ∧ b_X7_moves_56 (n + 1) (nI d.length) (nI k) σ = b_X7_moves_93 n' 0 σ' ∧ Fxm σ σ' ∧ MSt σ' (clB F (orL F) (F 9 0) 0 S) bo wo := by
        intro hcold
        rw [e_X7_moves_56, if_pos hi, if_pos hi, nI_clamp (by omega), sm_dn hO hS0 hk hM0 m10, onI_s, dn_up, if_pos hi, if_pos hi, nI_1, m1.2.2.2.2.2.1, nI_1]
        have e13 : ∀ x : Nat, (if dnA F S k = true then S 5 k else S 5 k + 1) = x → M1 (wr (wr σ 9 k 0) 13 k (nI x)) (clB F (orL F) (F 9 0) 0 S) wo k := by
          intro x hx
          have q : ∀ q, clB F (orL F) (F 9 0) 0 S q k = if q = 1 then 0 else if q = 5 then x else S q k := fun q => by
            rw [hcl]
            unfold clK
            rw [if_pos (by omega)]
            by_cases hd9 : dnA F S k = true
            · rw [if_pos hd9] at hx
              rw [if_pos hd9, ← hx]
              by_cases h1q : q = 1
              · rw [if_pos h1q, if_pos h1q]
              · rw [if_neg h1q, if_neg h1q]
                by_cases h5q : q = 5
                · rw [if_pos h5q, h5q]
                · rw [if_neg h5q]
            · rw [if_neg hd9] at hx
              rw [if_neg hd9, if_pos (hcold.resolve_left hd9), hx]
          refine ⟨?_, ?_, ?_, ?_, ?_, ?_, ?_⟩
          · rw [wr_cell (by decide), wr_cell (by decide), q]; exact m1.1
          · rw [wr_cell (by decide), wr_same, q]; rfl
          · rw [wr_cell (by decide), wr_cell (by decide), q]; exact m1.2.2.1
          · rw [wr_cell (by decide), wr_cell (by decide), q]; exact m1.2.2.2.1
          · rw [wr_cell (by decide), wr_cell (by decide), q]; exact m1.2.2.2.2.1
          · rw [wr_same, q]; rfl
          · rw [wr_cell (by decide), wr_cell (by decide), q]; exact m1.2.2.2.2.2.2
        have hfx1 : ∀ x, Fxm σ (wr (wr σ 9 k 0) 13 k x) := fun x => Fxm_trans hfx0 (Fxm_wr (by omega))
        have hg1 : ∀ x c k', k' ≠ k → wr (wr σ 9 k 0) 13 k x c k' = σ c k' := fun x c k' e => by
          rw [wr_at, if_neg (fun h9 => e h9.2), wr_at, if_neg (fun h9 => e h9.2)]
        cases hd9 : dnA F S k with
        | true =>
          rw [hd9] at e13
          rw [if_pos rfl, if_neg (by decide), Int32.add_zero]
          exact go n _ (by omega) (hfx1 _) (hg1 _) (e13 _ (if_pos rfl))
        | false =>
          rw [hd9] at e13
          rw [if_neg (show ¬ false = true by decide), if_pos rfl]
          exact go n _ (by omega) (hfx1 _) (hg1 _) (e13 _ (if_neg (by decide)))
      cases hd9 : dnA F S k with
      | true =>
        rw [if_pos rfl, if_neg (by decide)]
        exact h56 (Or.inl hd9)
      | false =>
        have hlt := dn_lt hS hk hd9
        have hnd9 : ndA F S k ≤ 1400 := ((hO.2.2.1 k hk).2.2.2.1 (S 2 k) hlt).1.2
        have hht := (hS.1 k hk).2.2.2.1
        rw [if_neg (show ¬ false = true by decide), if_pos rfl, if_pos hi, sm_nd hO hk hlt hM m1, onI_s, m1.1]
        by_cases hc : S 0 k < ndA F S k
        · rw [if_pos (nI_lt hc (by omega))]
          exact h56 (Or.inr hc)
        · rw [if_neg (nI_nlt (by omega) (by omega))]
          refine go (n + 1) σ (by omega) (Fxm_refl σ) (fun _ _ _ => rfl) (m1_S (fun c => ?_) m1)
          rw [hcl]
          unfold clK
          rw [if_pos (by omega), hd9, if_neg (by decide), if_neg hc]
end MMOVE
