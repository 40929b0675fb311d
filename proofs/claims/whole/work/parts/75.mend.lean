/-! the reference's run to its end -/
def loA (S : Fg) : List Nat → Nat → Option Nat
  | [], a => some a
  | k :: r, a => if S 4 k = 0 then none else loA S r (max a (S 4 k - 1))
section MEND
variable {F S : Fg} {bo : List Nat} {P wo t : Nat}
theorem mf_begins (hO : OkF F) : ∀ (c j n : Nat) (σ : Mm), j + c = 6 → 2 * c < n → MC σ F bo P wo → (∀ k, k ∈ bo → k < j → M1 σ (s0A F) wo k) → ∃ σ', b_X7_begins_2 n (nI j) σ = some (some none, σ') ∧ Fxm σ σ' ∧ MSt σ' (s0A F) bo wo := by
  have h6 := hO.1
  intro c
  induction c with
  | zero =>
    intro j n σ hj hn hC h
    obtain ⟨n, rfl⟩ : ∃ n', n = n' + 1 := ⟨n - 1, by omega⟩
    refine ⟨σ, ?_, Fxm_refl σ, fun k hk => h k hk (by have := (hC.1.2.2.2 k hk).2; omega)⟩
    rw [e_X7_begins_2, if_neg (show ¬ nI j < 6 from nI_nlt (b := 6) (by omega) (by omega))]
  | succ c ih =>
    intro j n σ hj hn hC h
    obtain ⟨n, rfl⟩ : ∃ n', n = n' + 2 := ⟨n - 2, by omega⟩
    have hi : inb (nI j) 6 = true := inb_nI (by omega) (by decide)
    rw [e_X7_begins_2, if_pos (show nI j < 6 from nI_lt (b := 6) (by omega) (by decide))]
    simp only [if_pos hi]
    rw [z0, if_pos (inb_nI (by omega) (by decide)), nI_clamp (by omega)]
    have e58 : ∀ x, b_X7_begins_58 (n + 1) (nI j) (nI j) x (wr (wr (wr (wr σ 8 j 20) 9 j 0) 10 j 0) 11 j 0) = b_X7_begins_2 n (nI (j + 1)) (wr (wr (wr (wr (wr (wr (wr σ 8 j 20) 9 j 0) 10 j 0) 11 j 0) 12 j x) 13 j 0) 14 j 0) := by
      intro x
      rw [e_X7_begins_58, if_pos hi, if_pos hi, if_pos hi, nI_clamp (by omega), nI_1]
    have hb : (if σ 4 j = 0 then b_X7_begins_58 (n + 1) (nI j) (nI j) 0 (wr (wr (wr (wr σ 8 j 20) 9 j 0) 10 j 0) 11 j 0) else b_X7_begins_58 (n + 1) (nI j) (nI j) (-1) (wr (wr (wr (wr σ 8 j 20) 9 j 0) 10 j 0) 11 j 0)) = b_X7_begins_2 n (nI (j + 1)) (wr (wr (wr (wr (wr (wr (wr σ 8 j 20) 9 j 0) 10 j 0) 11 j 0) 12 j (if σ 4 j = 0 then 0 else -1)) 13 j 0) 14 j 0) := by
      by_cases e : σ 4 j = 0
      · rw [if_pos e, if_pos e, e58]
      · rw [if_neg e, if_neg e, e58]
    rw [hb]
    generalize hM : wr (wr (wr (wr (wr (wr (wr σ 8 j 20) 9 j 0) 10 j 0) 11 j 0) 12 j (if σ 4 j = 0 then 0 else -1)) 13 j 0) 14 j 0 = σ1
    have hfx : Fxm σ σ1 := by
      rw [← hM]
      exact Fxm_trans (Fxm_wr (by omega)) (Fxm_trans (Fxm_wr (by omega)) (Fxm_trans (Fxm_wr (by omega)) (Fxm_trans (Fxm_wr (by omega)) (Fxm_trans (Fxm_wr (by omega)) (Fxm_trans (Fxm_wr (by omega)) (Fxm_wr (by omega)))))))
    have hg : ∀ c k', k' ≠ j → σ1 c k' = σ c k' := fun c k' e => by
      rw [← hM]
      simp only [wr_at, e, and_false, if_false]
    have hm : j ∈ bo → M1 σ1 (s0A F) wo j := by
      intro hjb
      obtain ⟨hMI, hj6⟩ := hC.1.2.2.2 j hjb
      have h5 := (hO.2.2.1 j hj6).2.2.1
      rw [← hM]
      refine ⟨?_, ?_, ?_, ?_, ?_, ?_, ?_⟩
      · simp only [wr_at]; simp; rfl
      · simp only [wr_at]; simp; rfl
      · simp only [wr_at]; simp; rfl
      · simp only [wr_at]; simp; rfl
      · simp only [wr_at]; simp
        rw [hMI.2.2.2.1]
        by_cases h0 : F 4 j = 0
        · have : s0A F 4 j = 1 := by unfold s0A; simp [h0]
          rw [h0, this, if_pos (show nI 0 = 0 from rfl)]
          rfl
        · have : s0A F 4 j = 0 := by unfold s0A; simp [h0]
          rw [this, if_neg (nI_ne0 (by omega) (by omega))]
          rfl
      · simp only [wr_at]; simp; rfl
      · simp only [wr_at]; simp; rfl
    obtain ⟨σ', a1, a2, a3⟩ := ih (j + 1) n σ1 (by omega) (by omega) (mc_fx hfx hC) (fun k hk hkj => by
      by_cases e : k = j
      · rw [e]
        exact hm (e ▸ hk)
      · exact m1_eq (fun c _ _ => hg c k e) (h k hk (by omega)))
    exact ⟨σ', a1, Fxm_trans hfx a2, a3⟩
theorem mo_last (hO : OkF F) {σ : Mm} (hC : MC σ F bo P wo) (h : MSt σ S bo wo) (hT : ∀ k, k ∈ bo → S 4 k < 2 ^ 30) : ∀ (l d : List Nat) (n a : Nat), bo = d ++ l → l.length < n → a < 2 ^ 30 → b_X7_lastOf_4 n (nI a) (nI d.length) σ = some (some (some (.inl (opI (loA S l a)))), σ) := by
  have h6 := hO.1
  obtain ⟨⟨c1, c2, c3, c4⟩, -⟩ := hC
  intro l
  induction l with
  | nil =>
    intro d n a hd hn ha
    obtain ⟨n, rfl⟩ : ∃ n', n = n' + 1 := ⟨n - 1, by omega⟩
    have hl : bo.length = d.length := by rw [hd, List.append_nil]
    rw [e_X7_lastOf_4, c1, if_neg (nI_nlt (by omega) (by omega))]
    rfl
  | cons k r ih =>
    intro d n a hd hn ha
    obtain ⟨n, rfl⟩ : ∃ n', n = n' + 1 := ⟨n - 1, by omega⟩
    have hl : bo.length = d.length + (r.length + 1) := by rw [hd, List.length_append, List.length_cons]
    have hkb : k ∈ bo := by rw [hd]; exact List.mem_append_right _ List.mem_cons_self
    have e7 : σ 7 d.length = nI k := by
      have := bo_app 0 d (k :: r) (hd ▸ c3)
      rw [Nat.zero_add] at this
      exact this.1
    obtain ⟨hM, hk⟩ := c4 k hkb
    have h12 := (h k hkb).2.2.2.2.1
    have hi : inb (nI k) 6 = true := inb_nI (by omega) (by decide)
    have hid : inb (nI d.length) 6 = true := inb_nI (by omega) (by decide)
    have hk4 := hT k hkb
    have el : (d ++ [k]).length = d.length + 1 := by rw [List.length_append]; rfl
    rw [e_X7_lastOf_4, c1, if_pos (nI_lt (by omega) (by omega)), nI_clamp (by omega), e7, if_pos hid, if_pos hi, nI_clamp (by omega), h12, nI_1]
    have e1 : loA S (k :: r) a = if S 4 k = 0 then none else loA S r (max a (S 4 k - 1)) := rfl
    rw [e1]
    by_cases h0 : S 4 k = 0
    · rw [h0, if_pos (show nI 0 - 1 = -1 from rfl), if_pos rfl]
      rfl
    · have e2 : nI (S 4 k) - 1 = nI (S 4 k - 1) := nI_sub (b := 1) (by omega)
      have e3 : (if nI a < nI (S 4 k - 1) then nI (S 4 k - 1) else nI a) = nI (max a (S 4 k - 1)) := by
        by_cases hlt : a < S 4 k - 1
        · rw [if_pos (nI_lt hlt (by omega)), show max a (S 4 k - 1) = S 4 k - 1 by omega]
        · rw [if_neg (nI_nlt (by omega) (by omega)), show max a (S 4 k - 1) = a by omega]
      have := ih (d ++ [k]) n (max a (S 4 k - 1)) (by rw [hd, List.append_assoc]; rfl) (by rw [List.length_cons] at hn; omega) (by omega)
      rw [el] at this
      rw [e2, if_neg (ne_m1 (by omega)), if_pos hid, if_pos hi, e3, if_neg h0]
      exact this
theorem lo_le : ∀ (l : List Nat) (a : Nat), (∀ k, k ∈ l → S 4 k ≠ 0) → ∃ e, loA S l a = some e ∧ ∀ x, e ≤ x ↔ (a ≤ x ∧ ∀ k, k ∈ l → S 4 k - 1 ≤ x)
  | [], a, _ => ⟨a, rfl, fun x => ⟨fun h => ⟨h, fun k hk => by cases hk⟩, fun h => h.1⟩⟩
  | k :: r, a, h => by
    obtain ⟨e, h1, h2⟩ := lo_le r (max a (S 4 k - 1)) (fun k' hk' => h k' (List.mem_cons_of_mem _ hk'))
    refine ⟨e, ?_, fun x => ?_⟩
    · show (if S 4 k = 0 then none else loA S r (max a (S 4 k - 1))) = some e
      rw [if_neg (h k List.mem_cons_self), h1]
    · rw [h2 x]
      constructor
      · rintro ⟨a1, a2⟩
        refine ⟨by omega, fun k' hk' => ?_⟩
        rcases List.mem_cons.mp hk' with rfl | h9
        · omega
        · exact a2 k' h9
      · rintro ⟨a1, a2⟩
        refine ⟨?_, fun k' hk' => a2 k' (List.mem_cons_of_mem _ hk')⟩
        have := a2 k List.mem_cons_self
        omega
theorem lo_none : ∀ (l : List Nat) (a k : Nat), k ∈ l → S 4 k = 0 → loA S l a = none
  | x :: r, a, k, hk, h0 => by
    show (if S 4 x = 0 then none else loA S r (max a (S 4 x - 1))) = none
    rcases List.mem_cons.mp hk with rfl | h9
    · rw [if_pos h0]
    · split
      · rfl
      · exact lo_none r _ k h9 h0
theorem mx_lex : ∀ (n x : Nat), mxA S n ≤ x ↔ ∀ k, k < n → S 4 k - 1 ≤ x
  | 0, x => ⟨fun _ k hk => absurd hk (Nat.not_lt_zero k), fun _ => Nat.zero_le _⟩
  | n + 1, x => by
    have ih := mx_lex n x
    unfold mxA
    constructor
    · intro h k hk
      by_cases e : k = n
      · subst e; omega
      · exact ih.mp (by omega) k (by omega)
    · intro h
      have := ih.mpr (fun k hk => h k (by omega))
      have := h n (by omega)
      omega
theorem lo_en (hO : OkF F) (hK : Kp F bo) (hT : TI F t S) (hZ : ∀ k, k < F 0 0 → F 4 k = 0 → S 4 k = 1) (hS : SI F (F 0 1) S) : loA S bo 0 = enA F S := by
  unfold enA
  obtain ⟨p, hp1, hp2⟩ := hK
  have hmem : ∀ k, k < F 0 0 → F 4 k ≠ 0 → k ∈ bo := fun k hk h0 => by
    rw [hp1]
    refine List.mem_filter.mpr ⟨orL_all hO hk, ?_⟩
    cases h9 : p k with
    | true => rfl
    | false => exact absurd (hp2 k hk h9) h0
  by_cases hcn : cnA F S (F 0 0) = 0
  · rw [if_pos hcn]
    have hd := (cn_zero _).mp hcn
    have hb : ∀ k, k ∈ bo → k < F 0 0 := fun k hk => by
      rw [hp1] at hk
      exact orL_lt hO (List.mem_filter.mp hk).1
    obtain ⟨e, h1, h2⟩ := lo_le (S := S) bo 0 (fun k hk => by
      have := (hT k (hb k hk)).2 (dn_iff.mp (hd k (hb k hk)))
      omega)
    rw [h1]
    congr 1
    have a1 : e ≤ mxA S (F 0 0) := (h2 _).mpr ⟨Nat.zero_le _, fun k hk => mx_ge _ (hb k hk)⟩
    have a2 : mxA S (F 0 0) ≤ e := (mx_lex _ _).mpr (fun k hk => by
      by_cases h0 : F 4 k = 0
      · rw [hZ k hk h0]
        exact Nat.zero_le _
      · exact ((h2 e).mp (Nat.le_refl _)).2 k (hmem k hk h0))
    omega
  · rw [if_neg hcn]
    have : ∃ k, k < F 0 0 ∧ dnA F S k = false := by
      refine Classical.byContradiction (fun h9 => hcn ((cn_zero _).mpr (fun k hk => ?_)))
      cases h8 : dnA F S k with
      | true => rfl
      | false => exact absurd ⟨k, hk, h8⟩ h9
    obtain ⟨k, hk, hd⟩ := this
    have hlt := dn_lt hS hk hd
    exact lo_none _ _ k (hmem k hk (by omega)) ((hT k hk).1 hlt)
theorem z_fin (hO : OkF F) {k : Nat} (hk : k < F 0 0) (h0 : F 4 k = 0) (t : Nat) : rnA F t 4 k = 1 := by
  have := (dn_mono (t := 0) hO hk (show rnA F 0 2 k = F 4 k by rw [h0]; rfl) t).2
  rw [Nat.zero_add] at this
  rw [this]
  show s0A F 4 k = 1
  unfold s0A
  simp [h0]
theorem mf_last (hO : OkF F) (hK : Kp F bo) {σ : Mm} (ht : t < 2 ^ 20) (hC : MC σ F bo P wo) (h : MSt σ (rnA F t) bo wo) : f_X7_lastOf [.inr (.inl 0)] σ = some (some (some (.inl (opI (fnA F t)))), σ) := by
  have hT := ti_rn hO t
  have hS := si_rn hO t
  have := mo_last hO hC h (fun k hk => by
    have hk6 := bo_lt hO hK hk
    have h1 := hT k hk6
    have h2 := (hS.1 k hk6).1
    by_cases e : rnA F t 2 k = F 4 k
    · have := h1.2 e
      omega
    · have := h1.1 (by omega)
      omega) bo [] bigM 0 rfl (by have := hC.1.2.1; unfold bigM; omega) (by decide)
  rw [lo_en hO hK hT (fun k hk h0 => z_fin hO hk h0 t) hS] at this
  rw [e_X7_lastOf]
  exact this
theorem zi_rn (hO : OkF F) : ∀ t, ZI F (rnA F t)
  | 0 => fun k hk h0 => rfl
  | t + 1 => by
    intro k hk h0
    have hS := si_rn hO t
    have h1 := zi_cl hO hS (zi_rn hO t)
    have s1 := si_cl (F := F) hO (F 9 0) 0 (rnA F t) hS
    have p1 := pi_cl hO hS
    have h2 : ∀ (c v : Nat) (S : Fg), v + c = F 9 0 → SI F (F 0 1) S → PI F S → ZI F S → ZI F (anA F (orL F) c v S) := by
      intro c
      induction c with
      | zero => intro v S _ _ _ h; exact h
      | succ c ih =>
        intro v S hv a b h
        have := an_one hO a b (v := v) (by omega)
        exact ih (v + 1) _ (by omega) this.1 this.2 (zi_an1 hO a h v)
    have h3 : ∀ (c v : Nat) (S : Fg), v + c = F 0 1 → SI F (F 0 1) S → PI F S → ZI F S → ZI F (plA F (orL F) c v S) := by
      intro c
      induction c with
      | zero => intro v S _ _ _ h; exact h
      | succ c ih =>
        intro v S hv a b h
        have := pl_one hO a b (v := v) (by omega) hO.2.1
        exact ih (v + 1) _ (by omega) this.1 this.2 (zi_pl1 a h v)
    have s2 := an_all hO (F 9 0) 0 _ (by omega) s1 p1
    have z2 := h3 (F 0 1) 0 _ (by omega) s2.1 s2.2 (h2 (F 9 0) 0 _ (by omega) s1 p1 h1)
    have := z2 k hk h0
    show mnA F t (rnA F t) 1 k = 0
    rw [mn_at hk, ps_1 (Or.inl rfl)]
    exact this
theorem mo_works (hO : OkF F) (hK : Kp F bo) {M : Fg} (hM : SI F (F 0 1) M) (hP : PI F M) (ht : t < 2 ^ 20) : ∀ (l d : List Nat) (n N : Nat) (σ : Mm), bo = d ++ l → l.length + 1 + N ≤ n → MC σ F bo P wo → (∀ k, k ∈ l → M1 σ M wo k) → (∀ k, k ∈ d → M1 σ (psJ F t (F 0 0) M) wo k) → ∃ n' σ', N ≤ n' ∧ b_X7_ends_27 n (nI t) (nI d.length) σ = b_X7_ends_6 n' (nI (t + 1)) σ' ∧ Fxm σ σ' ∧ MSt σ' (psJ F t (F 0 0) M) bo wo := by
  have h6 := hO.1
  intro l
  induction l with
  | nil =>
    intro d n N σ hd hn hC h1 h2
    obtain ⟨n, rfl⟩ : ∃ n', n = n' + 1 := ⟨n - 1, by omega⟩
    have hl : bo.length = d.length := by rw [hd, List.append_nil]
    have c2 := hC.1.2.1
    refine ⟨n, σ, by simp at hn; omega, ?_, Fxm_refl σ, fun k hk => h2 k (by rw [hd, List.append_nil] at hk; exact hk)⟩
    rw [e_X7_ends_27, hC.1.1, if_neg (nI_nlt (by omega) (by omega)), nI_1]
  | cons k r ih =>
    intro d n N σ hd hn hC h1 h2
    rw [List.length_cons] at hn
    obtain ⟨n, rfl⟩ : ∃ n', n = n' + 1 := ⟨n - 1, by omega⟩
    have hl : bo.length = d.length + (r.length + 1) := by rw [hd, List.length_append, List.length_cons]
    have hkb : k ∈ bo := by rw [hd]; exact List.mem_append_right _ List.mem_cons_self
    obtain ⟨c1, c2, c3, c4⟩ := hC.1
    have e7 : σ 7 d.length = nI k := by
      have := bo_app 0 d (k :: r) (hd ▸ c3)
      rw [Nat.zero_add] at this
      exact this.1
    have hk := (c4 k hkb).2
    have hnd := bo_nodup hO hK
    rw [hd] at hnd
    have hkd : ∀ k', k' ∈ d → k' ≠ k := fun k' hk' e => by
      rw [List.nodup_append] at hnd
      exact hnd.2.2 k' hk' k List.mem_cons_self e
    have hkr : ∀ k', k' ∈ r → k' ≠ k := fun k' hk' e => by
      rw [List.nodup_append, List.nodup_cons] at hnd
      exact hnd.2.1.1 (e ▸ hk')
    have el : (d ++ [k]).length = d.length + 1 := by rw [List.length_append]; rfl
    obtain ⟨σ1, a1, a2, a3, a4⟩ := mf_work (t := t) hO hM hP (by omega) hC hkb (h1 k List.mem_cons_self)
    rw [e_X7_ends_27, c1, if_pos (nI_lt (by omega) (by omega)), if_pos (inb_nI (by omega) (by decide)), nI_clamp (by omega), e7, a1, onV_s, nI_1]
    have := ih (d ++ [k]) n N σ1 (by rw [hd, List.append_assoc]; rfl) (by omega) (mc_fx a2 hC) (fun k' hk' => m1_eq (fun c _ _ => a3 c k' (hkr k' hk')) (h1 k' (List.mem_cons_of_mem _ hk'))) (fun k' hk' => by
      rcases List.mem_append.mp hk' with h9 | h9
      · exact m1_eq (fun c _ _ => a3 c k' (hkd k' h9)) (h2 k' h9)
      · rw [List.mem_singleton] at h9
        rw [h9]
        refine m1_S (fun c => ?_) a4
        unfold psJ
        rw [if_pos hk])
    rw [el] at this
    obtain ⟨n', σ', b1, b2, b3, b4⟩ := this
    exact ⟨n', σ', b1, b2, Fxm_trans a2 b3, b4⟩
theorem mo_ends (hO : OkF F) (hK : Kp F bo) : ∀ (c j n : Nat) (σ : Mm), j + c = 480 → 10 * c + 2 ≤ n → MC σ F bo P wo → MSt σ (rnA F j) bo wo → ∃ σ', b_X7_ends_6 n (nI j) σ = some (some (some (.inl (opI (fnA F 480)))), σ') ∧ Fxm σ σ' := by
  intro c
  induction c with
  | zero =>
    intro j n σ hj hn hC h
    obtain ⟨n, rfl⟩ : ∃ n', n = n' + 2 := ⟨n - 2, by omega⟩
    obtain rfl : j = 480 := by omega
    refine ⟨σ, ?_, Fxm_refl σ⟩
    rw [e_X7_ends_6, if_neg (show ¬ nI 480 < 480 by decide), e_X7_ends_58, mf_last hO hK (by decide) hC h, onI_s]
  | succ c ih =>
    intro j n σ hj hn hC h
    obtain ⟨n, rfl⟩ : ∃ n', n = n' + 2 := ⟨n - 2, by omega⟩
    rw [e_X7_ends_6, if_pos (show nI j < 480 from nI_lt (b := 480) (by omega) (by decide)), mf_last hO hK (by omega) hC h, onI_s]
    cases hf : fnA F j with
    | none =>
      have hS := si_rn hO j
      obtain ⟨σ1, a1, a2, a3, a4⟩ := mf_moves hO hK hS (zi_rn hO j) hC h
      have hmv := si_mv hO hS
      have hl := hC.1.2.1
      obtain ⟨n', σ2, b1, b2, b3, b4⟩ := mo_works (t := j) hO hK hmv.1 hmv.2 (by omega) bo [] (n + 1) (10 * c + 2) σ1 rfl (by omega) (mc_fx a2 hC) a3 (fun k hk => by cases hk)
      rw [if_pos (show opI none = -1 from rfl), a1, onV_s]
      obtain ⟨σ3, d1, d2⟩ := ih (j + 1) n' σ2 (by omega) b1 (mc_fx b3 (mc_fx a2 hC)) b4
      exact ⟨σ3, b2.trans d1, Fxm_trans a2 (Fxm_trans b3 d2)⟩
    | some e =>
      have he := fn_le hO hf
      refine ⟨σ, ?_, Fxm_refl σ⟩
      rw [show opI (some e) = nI e from rfl, if_neg (ne_m1 (by omega)), e_X7_ends_58, mf_last hO hK (by omega) hC h, onI_s, hf, fn_mono (u := 480) hO hf (by omega)]
theorem mf_ends (hO : OkF F) (hK : Kp F bo) {σ : Mm} (hC : MC σ F bo P wo) : ∃ σ', f_X7_ends [.inr (.inl 0)] σ = some (some (some (.inl (opI (fnA F 480)))), σ') ∧ Fxm σ σ' := by
  obtain ⟨σ1, a1, a2, a3⟩ := mf_begins hO 6 0 bigM σ (by omega) (by unfold bigM; omega) hC (fun k hk h0 => by omega)
  obtain ⟨σ2, b1, b2⟩ := mo_ends hO hK 480 0 bigM σ1 (by omega) (by unfold bigM; omega) (mc_fx a2 hC) a3
  refine ⟨σ2, ?_, Fxm_trans a2 b2⟩
  rw [e_X7_ends, e_X7_begins]
  have a1' : b_X7_begins_2 bigM 0 σ = some (some none, σ1) := a1
  rw [a1', onV_s]
  exact b1
end MEND
