/-! the reference fills anvils and places -/
section MFILL
variable {F : Fg} {bo : List Nat} {P wo : Nat}
theorem bo_lt (hO : OkF F) (hK : Kp F bo) {k : Nat} (h : k ∈ bo) : k < F 0 0 := by
  obtain ⟨p, rfl, -⟩ := hK
  exact orL_lt hO (List.mem_filter.mp h).1
theorem bo_pick (hO : OkF F) (hK : Kp F bo) {S : Fg} (hS : SI F (F 0 1) S) : pickA F S bo none = pickA F S (orL F) none := by
  obtain ⟨p, rfl, hp⟩ := hK
  refine pick_filter _ _ (fun k hk h9 => ?_)
  have hk6 := orL_lt hO hk
  unfold rdA
  rw [zi_dn hS hk6 (hp k hk6 h9)]
  rfl
theorem bo_wait (hO : OkF F) (hK : Kp F bo) {S : Fg} (hS : SI F (F 0 1) S) : wtA F S bo = wtA F S (orL F) := by
  obtain ⟨p, rfl, hp⟩ := hK
  refine wt_filter _ (fun k hk h9 => ?_)
  have hk6 := orL_lt hO hk
  exact zi_dn hS hk6 (hp k hk6 h9)
theorem bo_tk (hO : OkF F) (hK : Kp F bo) {S : Fg} (hZ : ZI F S) {v : Nat} (hv : 1 ≤ v) : tkA S bo v = tkA S (orL F) v := by
  obtain ⟨p, rfl, hp⟩ := hK
  refine tk_filter _ (fun k hk h9 => ?_)
  have hk6 := orL_lt hO hk
  have := hZ k hk6 (hp k hk6 h9)
  omega
theorem m1_up {σ : Mm} {S : Fg} {k v : Nat} (h : MSt σ S bo wo) : MSt (wr σ 9 k (nI (lcA wo v))) (upA S 1 k v) bo wo := by
  intro k' hk'
  obtain ⟨a1, a2, a3, a4, a5, a6, a7⟩ := h k' hk'
  refine ⟨?_, ?_, ?_, ?_, ?_, ?_, ?_⟩
  · rw [wr_cell (by decide), upA_c (by decide)]; exact a1
  · rw [wr_at, upA_at]
    by_cases e : k' = k
    · rw [if_pos ⟨rfl, e⟩, if_pos ⟨rfl, e⟩]
    · rw [if_neg (fun h9 => e h9.2), if_neg (fun h9 => e h9.2)]; exact a2
  · rw [wr_cell (by decide), upA_c (by decide)]; exact a3
  · rw [wr_cell (by decide), upA_c (by decide)]; exact a4
  · rw [wr_cell (by decide), upA_c (by decide)]; exact a5
  · rw [wr_cell (by decide), upA_c (by decide)]; exact a6
  · rw [wr_cell (by decide), upA_c (by decide)]; exact a7
theorem m1_up6 {σ : Mm} {S : Fg} {k v : Nat} (h : MSt σ S bo wo) : MSt (wr σ 14 k (nI v)) (upA S 6 k v) bo wo := by
  intro k' hk'
  obtain ⟨a1, a2, a3, a4, a5, a6, a7⟩ := h k' hk'
  refine ⟨?_, ?_, ?_, ?_, ?_, ?_, ?_⟩
  · rw [wr_cell (by decide), upA_c (by decide)]; exact a1
  · rw [wr_cell (by decide), upA_c (by decide)]; exact a2
  · rw [wr_cell (by decide), upA_c (by decide)]; exact a3
  · rw [wr_cell (by decide), upA_c (by decide)]; exact a4
  · rw [wr_cell (by decide), upA_c (by decide)]; exact a5
  · rw [wr_cell (by decide), upA_c (by decide)]; exact a6
  · rw [wr_at, upA_at]
    by_cases e : k' = k
    · rw [if_pos ⟨rfl, e⟩, if_pos ⟨rfl, e⟩]
    · rw [if_neg (fun h9 => e h9.2), if_neg (fun h9 => e h9.2)]; exact a7
theorem n10 (v : Nat) : (10 : Int32) + nI v = nI (10 + v) := nI_add 10 v
theorem n1 (v : Nat) : (1 : Int32) + nI v = nI (1 + v) := nI_add 1 v
theorem mo_taken (hO : OkF F) (hK : Kp F bo) {σ : Mm} {S : Fg} (hS : SI F (F 0 1) S) (hZ : ZI F S) (hC : MC σ F bo P wo) (h : MSt σ S bo wo) {y v : Nat} (hy : y < 2 ^ 20) (h1 : 1 ≤ v) (hv : ∀ k, k < F 0 0 → (lcA wo (S 1 k) = y ↔ S 1 k = v)) : f_X7_isTaken [.inr (.inl 0), .inl (nI y)] σ = some (some (some (.inl (if tkA S (orL F) v = true then 1 else 0))), σ) := by
  have := mo_tk hO hS hC h hy hv bo [] bigM false rfl (by have := hC.1.2.1; unfold bigM; omega)
  rw [Bool.false_or, bo_tk hO hK hZ h1] at this
  rw [e_X7_isTaken]
  exact this
theorem mo_ready (hO : OkF F) (hK : Kp F bo) {σ : Mm} {S : Fg} (hS : SI F (F 0 1) S) (hC : MC σ F bo P wo) (h : MSt σ S bo wo) : f_X7_readyOne [.inr (.inl 0)] σ = some (some (some (.inl (opI (pickA F S (orL F) none)))), σ) := by
  have := mo_pick hO hS hC h bo [] bigM none rfl (by have := hC.1.2.1; unfold bigM; omega) (fun v hv => by cases hv)
  rw [bo_pick hO hK hS] at this
  rw [e_X7_readyOne]
  exact this
theorem mo_waiting (hO : OkF F) (hK : Kp F bo) {σ : Mm} {S : Fg} (hS : SI F (F 0 1) S) (hC : MC σ F bo P wo) (h : MSt σ S bo wo) : f_X7_waitingOne [.inr (.inl 0)] σ = some (some (some (.inl (opI (wtA F S (orL F))))), σ) := by
  have := mo_wait hO hS hC h bo [] bigM rfl (by have := hC.1.2.1; unfold bigM; omega)
  rw [bo_wait hO hK hS] at this
  rw [e_X7_waitingOne]
  exact this
theorem mo_anv (hO : OkF F) (hK : Kp F bo) : ∀ (c v n N : Nat) (σ : Mm) (S : Fg), v + c = F 9 0 → 2 * c + 1 + N ≤ n → SI F (F 0 1) S → PI F S → ZI F S → MC σ F bo P wo → MSt σ S bo wo → ∃ n' σ', N ≤ n' ∧ b_X7_moves_93 n (nI v) σ = b_X7_moves_147 n' 0 σ' ∧ Fxm σ σ' ∧ MSt σ' (anA F (orL F) c v S) bo wo ∧ ZI F (anA F (orL F) c v S) := by
  have h6 := hO.1
  have h3 := hO.2.2.2.2.2.1
  intro c
  induction c with
  | zero =>
    intro v n N σ S hv hn hS hP hZ hC h
    obtain ⟨n, rfl⟩ : ∃ n', n = n' + 1 := ⟨n - 1, by omega⟩
    refine ⟨n, σ, by omega, ?_, Fxm_refl σ, h, hZ⟩
    rw [e_X7_moves_93, hC.2.2.2.1, if_neg (nI_nlt (by omega) (by omega))]
  | succ c ih =>
    intro v n N σ S hv hn hS hP hZ hC h
    obtain ⟨n, rfl⟩ : ∃ n', n = n' + 2 := ⟨n - 2, by omega⟩
    have h1S := an_one hO hS hP (v := v) (by omega)
    have h1Z := zi_an1 hO hS hZ v
    rw [e_X7_moves_93, hC.2.2.2.1, if_pos (nI_lt (by omega) (by omega)), n10, mo_taken hO hK hS hZ hC h (y := 10 + v) (v := 10 + v) (by omega) (by omega) (fun k hk => lc_an (by have := loc3 hO hS hk; omega)), onI_s]
    have hst : anA F (orL F) (c + 1) v S = anA F (orL F) c (v + 1) (anS F (orL F) v S) := rfl
    rw [hst]
    by_cases ht : tkA S (orL F) (10 + v) = true
    · have e : anS F (orL F) v S = S := by unfold anS; rw [if_pos ht]
      rw [e, if_pos ht, if_neg (by decide), e_X7_moves_123, if_pos rfl, nI_1]
      exact ih (v + 1) n N σ S (by omega) (by omega) hS hP hZ hC h
    · rw [if_neg ht, if_pos rfl, mo_ready hO hK hS hC h, onI_s, e_X7_moves_123, nI_1]
      cases hp : pickA F S (orL F) none with
      | none =>
        have e : anS F (orL F) v S = S := by unfold anS; rw [if_neg ht, hp]
        rw [e, if_pos (show opI none = -1 from rfl)]
        exact ih (v + 1) n N σ S (by omega) (by omega) hS hP hZ hC h
      | some k =>
        have e : anS F (orL F) v S = upA S 1 k (10 + v) := by unfold anS; rw [if_neg ht, hp]
        have hk : k < F 0 0 := by
          rcases pick_mem _ _ _ hp with h9 | h9
          · exact orL_lt hO h9.1
          · cases h9
        rw [e] at h1S h1Z ⊢
        have hfx : Fxm σ (wr σ 9 k (nI (10 + v))) := Fxm_wr (by omega)
        have hms : MSt (wr σ 9 k (nI (10 + v))) (upA S 1 k (10 + v)) bo wo := by
          have := m1_up (k := k) (v := 10 + v) h
          rw [(lc_an (wo := wo) (x := 10 + v) (v := v) (by omega)).mpr rfl] at this
          exact this
        rw [show opI (some k) = nI k from rfl, if_neg (ne_m1 (by omega)), if_pos (inb_nI (by omega) (by decide)), nI_clamp (by omega), n10]
        obtain ⟨n', σ', a1, a2, a3, a4⟩ := ih (v + 1) n N _ _ (by omega) (by omega) h1S.1 h1S.2 h1Z (mc_fx hfx hC) hms
        exact ⟨n', σ', a1, a2, Fxm_trans hfx a3, a4⟩
def jW (wo p : Nat) : Nat := if p ≤ wo then p else p - 1
theorem jw_ne {p : Nat} (h : p ≠ wo) : plW wo (jW wo p) = p ∧ jW wo (p + 1) = jW wo p + 1 := by
  unfold plW jW
  by_cases h1 : p ≤ wo
  · rw [if_pos h1, if_pos (by omega), if_pos (by omega)]
    exact ⟨rfl, rfl⟩
  · rw [if_neg h1, if_neg (by omega), if_neg (by omega)]
    omega
theorem jw_eq {p : Nat} (h : p = wo) : jW wo (p + 1) = jW wo p := by
  unfold jW
  rw [if_neg (by omega), if_pos (by omega)]
  omega
theorem mo_plc (hO : OkF F) (hK : Kp F bo) : ∀ (c p n : Nat) (σ : Mm) (S : Fg), p + c = P → 2 * c + 1 ≤ n → SI F (F 0 1) S → PI F S → ZI F S → MC σ F bo P wo → MSt σ S bo wo → ∃ σ', b_X7_moves_147 n (nI p) σ = some (some none, σ') ∧ Fxm σ σ' ∧ MSt σ' (plA F (orL F) (F 0 1 - jW wo p) (jW wo p) S) bo wo ∧ ZI F (plA F (orL F) (F 0 1 - jW wo p) (jW wo p) S) := by
  have h6 := hO.1
  intro c
  induction c with
  | zero =>
    intro p n σ S hp hn hS hP hZ hC h
    obtain ⟨n, rfl⟩ : ∃ n', n = n' + 1 := ⟨n - 1, by omega⟩
    have e0 : F 0 1 - jW wo p = 0 := by
      rw [hC.2.1.2.2.2]
      unfold jW
      split <;> split <;> omega
    rw [e0]
    refine ⟨σ, ?_, Fxm_refl σ, h, hZ⟩
    have := hC.2.1.1
    rw [e_X7_moves_147, hC.2.1.2.1, if_neg (nI_nlt (by omega) (by omega))]
  | succ c ih =>
    intro p n σ S hp hn hS hP hZ hC h
    obtain ⟨n, rfl⟩ : ∃ n', n = n' + 2 := ⟨n - 2, by omega⟩
    have hP3 := hC.2.1.1
    have ew : nI p = σ 0 23 ↔ p = wo := by
      rw [hC.2.1.2.2.1]
      by_cases hw : wo < P
      · rw [if_pos hw]
        exact nI_eq (by omega) (by omega)
      · rw [if_neg hw]
        exact ⟨fun h9 => absurd h9 (ne_m1 (by omega)), fun h9 => by omega⟩
    rw [e_X7_moves_147, hC.2.1.2.1, if_pos (nI_lt (by omega) (by omega))]
    by_cases hw : p = wo
    · rw [if_pos (ew.mpr hw), e_X7_moves_184, if_pos rfl, nI_1]
      have := ih (p + 1) n σ S (by omega) (by omega) hS hP hZ hC h
      rw [jw_eq hw] at this
      exact this
    · obtain ⟨j1, j2⟩ := jw_ne (wo := wo) (p := p) hw
      have hj : jW wo p < F 0 1 := by
        rw [hC.2.1.2.2.2]
        unfold jW
        split <;> split <;> omega
      have hj3 : jW wo p < 3 := by have := hO.2.1; omega
      have h1S := pl_one hO hS hP (v := jW wo p) hj hO.2.1
      have h1Z := zi_pl1 hS hZ (jW wo p)
      have hst : plA F (orL F) (F 0 1 - jW wo p) (jW wo p) S = plA F (orL F) (F 0 1 - jW wo (p + 1)) (jW wo (p + 1)) (plS F (orL F) (jW wo p) S) := by
        rw [j2]
        obtain ⟨c9, hc9⟩ : ∃ c9, F 0 1 - jW wo p = c9 + 1 := ⟨F 0 1 - jW wo p - 1, by omega⟩
        rw [hc9, show F 0 1 - (jW wo p + 1) = c9 by omega]
        rfl
      have htk := mo_taken hO hK hS hZ hC h (y := 1 + p) (v := 1 + jW wo p) (by omega) (by omega) (fun k hk => by
        have := lc_pl (wo := wo) (x := S 1 k) (v := jW wo p) (by have := loc3 hO hS hk; omega) hj3
        rw [j1] at this
        exact this)
      rw [if_neg (fun h9 => hw (ew.mp h9)), n1, htk, onI_s, hst]
      by_cases ht : tkA S (orL F) (1 + jW wo p) = true
      · have e : plS F (orL F) (jW wo p) S = S := by unfold plS; rw [if_pos ht]
        rw [e, if_pos ht, if_neg (by decide), e_X7_moves_184, if_pos rfl, nI_1]
        exact ih (p + 1) n σ S (by omega) (by omega) hS hP hZ hC h
      · rw [if_neg ht, if_pos rfl, mo_waiting hO hK hS hC h, onI_s, e_X7_moves_184, nI_1]
        cases hp9 : wtA F S (orL F) with
        | none =>
          have e : plS F (orL F) (jW wo p) S = S := by unfold plS; rw [if_neg ht, hp9]
          rw [e, if_pos (show opI none = -1 from rfl)]
          exact ih (p + 1) n σ S (by omega) (by omega) hS hP hZ hC h
        | some k =>
          have e : plS F (orL F) (jW wo p) S = upA (upA S 1 k (1 + jW wo p)) 6 k (S 6 k + 1) := by unfold plS; rw [if_neg ht, hp9]
          have hkb : k ∈ bo := by
            rw [← bo_wait hO hK hS] at hp9
            exact (wt_mem hp9).1
          have hk := bo_lt hO hK hkb
          have hi : inb (nI k) 6 = true := inb_nI (by omega) (by decide)
          rw [e] at h1S h1Z ⊢
          have hfx : Fxm σ (wr (wr σ 9 k (nI (1 + p))) 14 k (nI (S 6 k + 1))) := Fxm_trans (Fxm_wr (by omega)) (Fxm_wr (by omega))
          have hms : MSt (wr (wr σ 9 k (nI (1 + p))) 14 k (nI (S 6 k + 1))) (upA (upA S 1 k (1 + jW wo p)) 6 k (S 6 k + 1)) bo wo := by
            have := m1_up (k := k) (v := 1 + jW wo p) h
            rw [(lc_pl (wo := wo) (x := 1 + jW wo p) (v := jW wo p) (by omega) hj3).mpr rfl, j1] at this
            exact m1_up6 this
          rw [show opI (some k) = nI k from rfl, if_neg (ne_m1 (by omega)), if_pos hi, if_pos hi, if_pos hi, nI_clamp (by omega), n1, (h k hkb).2.2.2.2.2.2, nI_1]
          obtain ⟨σ', a2, a3, a4⟩ := ih (p + 1) n _ _ (by omega) (by omega) h1S.1 h1S.2 h1Z (mc_fx hfx hC) hms
          exact ⟨σ', a2, Fxm_trans hfx a3, a4⟩
theorem bo_nodup (hO : OkF F) (hK : Kp F bo) : bo.Nodup := by
  obtain ⟨p, rfl, -⟩ := hK
  refine List.Pairwise.filter _ ?_
  have : ∀ (c j : Nat), j + c ≤ F 0 0 → (orF F j c).Nodup := by
    intro c
    induction c with
    | zero => intro j _; exact List.nodup_nil
    | succ c ih =>
      intro j hj
      show (F 10 j :: orF F (j + 1) c).Nodup
      rw [List.nodup_cons]
      refine ⟨fun h9 => ?_, ih (j + 1) (by omega)⟩
      obtain ⟨i, h1, h2, h3⟩ := orF_mem _ _ _ h9
      have := hO.2.2.2.1 i j (by omega) (by omega) h3
      omega
  exact this _ _ (by omega)
theorem mf_moves (hO : OkF F) (hK : Kp F bo) {σ : Mm} {S : Fg} (hS : SI F (F 0 1) S) (hZ : ZI F S) (hC : MC σ F bo P wo) (h : MSt σ S bo wo) : ∃ σ', f_X7_moves [.inr (.inl 0)] σ = some (some none, σ') ∧ Fxm σ σ' ∧ MSt σ' (mvA F S) bo wo ∧ ZI F (mvA F S) := by
  have h3 := hO.2.2.2.2.2.1
  have hl := hC.1.2.1
  have hP3 := hC.2.1.1
  obtain ⟨n1, σ1, a1, a2, a3, a4⟩ := mo_clr hO hS (bo_nodup hO hK) bo [] bigM 100 σ rfl (by unfold bigM; omega) hC h (fun k hk => by cases hk)
  have s1 := si_cl (F := F) hO (F 9 0) 0 S hS
  have p1 := pi_cl hO hS
  have z1 := zi_cl hO hS hZ
  obtain ⟨n2, σ2, b1, b2, b3, b4, z2⟩ := mo_anv hO hK (F 9 0) 0 n1 50 σ1 _ (by omega) (by omega) s1 p1 z1 (mc_fx a3 hC) a4
  have s2 := an_all hO (F 9 0) 0 _ (by omega) s1 p1
  obtain ⟨σ3, d2, d3, d4, z3⟩ := mo_plc hO hK P 0 n2 σ2 _ (by omega) (by omega) s2.1 s2.2 z2 (mc_fx b3 (mc_fx a3 hC)) b4
  have j0 : jW wo 0 = 0 := by unfold jW; rw [if_pos (Nat.zero_le _)]
  rw [j0] at d4 z3
  refine ⟨σ3, ?_, Fxm_trans a3 (Fxm_trans b3 d3), d4, z3⟩
  rw [e_X7_moves]
  exact a2.trans (b2.trans d2)
end MFILL
