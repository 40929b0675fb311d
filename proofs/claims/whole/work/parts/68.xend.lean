/-! the class's run to its end -/
def lsA (S : Fg) : Nat → Nat → Option Nat → Option Nat
  | 0, _, b => b
  | c + 1, j, none => lsA S c (j + 1) (some j)
  | c + 1, j, some b => lsA S c (j + 1) (if S 4 b < S 4 j then some j else some b)
section XEND
variable {F S : Fg} {τ : Mm} {t : Nat}
theorem fin_v (h : XR τ F S) {k : Nat} (hk : k < F 0 0) (h1 : 1 ≤ S 4 k) : τ 7 k = nI (S 4 k - 1) := by
  rw [(h.2.1 k hk).2.2.2.2.1, show (1 : Int32) = nI 1 from rfl, nI_sub h1]
theorem xf_last4 (hO : OkF F) (h : XR τ F S) (hT : TI F t S) (ht : t < 2 ^ 30) (hcn : cnA F S (F 0 0) = 0) : ∀ (c j n : Nat) (b : Option Nat), j + c = F 0 0 → c < n → (∀ v, b = some v → v < F 0 0) → b_X5_lastFinished_4 n (opI b) (nI j) τ = some (some (some (.inl (opI (lsA S c j b)))), τ) := by
  have h6 := hO.1
  have hU : τ 0 12 = 0 := by rw [h.2.2.2.2, hcn]; rfl
  have hd : ∀ k, k < F 0 0 → 1 ≤ S 4 k ∧ S 4 k ≤ t + 1 := fun k hk => (hT k hk).2 (dn_iff.mp ((cn_zero _).mp hcn k hk))
  intro c
  induction c with
  | zero =>
    intro j n b hj hn hb
    obtain ⟨n, rfl⟩ : ∃ n', n = n' + 1 := ⟨n - 1, by omega⟩
    rw [e_X5_lastFinished_4, if_pos hU, h.1.1, if_neg (nI_nlt (by omega) (by omega))]
    cases b <;> rfl
  | succ c ih =>
    intro j n b hj hn hb
    obtain ⟨n, rfl⟩ : ∃ n', n = n' + 1 := ⟨n - 1, by omega⟩
    have hj6 : j < F 0 0 := by omega
    have ihj := ih (j + 1) n (some j) (by omega) (by omega) (fun v hv => by cases hv; exact hj6)
    rw [e_X5_lastFinished_4, if_pos hU, h.1.1, if_pos (nI_lt (by omega) (by omega)), nI_1]
    cases b with
    | none =>
      rw [if_pos (show opI none = -1 from rfl)]
      exact ihj
    | some v =>
      have hv := hb v rfl
      have d1 := hd j hj6
      have d2 := hd v hv
      have e1 : lsA S (c + 1) j (some v) = lsA S c (j + 1) (if S 4 v < S 4 j then some j else some v) := rfl
      rw [show opI (some v) = nI v from rfl, if_neg (ne_m1 (by omega)), if_pos (inb_nI (by omega) (by decide)), if_pos (inb_nI (by omega) (by decide)), nI_clamp (by omega), nI_clamp (by omega), fin_v h hv d2.1, fin_v h hj6 d1.1, e1]
      by_cases hc : S 4 v < S 4 j
      · rw [if_pos (nI_lt (by omega) (by omega)), if_pos hc]
        exact ihj
      · rw [if_neg (nI_nlt (by omega) (by omega)), if_neg hc]
        exact ih (j + 1) n (some v) (by omega) (by omega) hb
theorem ls_mx (hd : ∀ k, k < F 0 0 → 1 ≤ S 4 k) : ∀ (c j b : Nat), j + c = F 0 0 → b < j → S 4 b - 1 = mxA S j → ∃ r, lsA S c j (some b) = some r ∧ r < F 0 0 ∧ S 4 r - 1 = mxA S (F 0 0)
  | 0, j, b, hj, hb, h => ⟨b, rfl, by omega, by rw [h, show j = F 0 0 by omega]⟩
  | c + 1, j, b, hj, hb, h => by
    have d1 := hd j (by omega)
    have d2 := hd b (by omega)
    have e1 : lsA S (c + 1) j (some b) = lsA S c (j + 1) (if S 4 b < S 4 j then some j else some b) := rfl
    have e2 : mxA S (j + 1) = max (mxA S j) (S 4 j - 1) := rfl
    rw [e1]
    by_cases hc : S 4 b < S 4 j
    · rw [if_pos hc]
      exact ls_mx hd c (j + 1) j (by omega) (by omega) (by omega)
    · rw [if_neg hc]
      exact ls_mx hd c (j + 1) b (by omega) (by omega) (by omega)
theorem xf_last (hO : OkF F) (h : XR τ F S) (hT : TI F t S) (ht : t < 2 ^ 30) : f_X5_lastFinished [.inr (.inl 0)] τ = some (some (some (.inl (if cnA F S (F 0 0) = 0 then opI (lsA S (F 0 0) 0 none) else -1))), τ) := by
  have h6 := hO.1
  have hc := cn_le (F := F) (S := S) (F 0 0)
  rw [e_X5_lastFinished]
  by_cases hcn : cnA F S (F 0 0) = 0
  · rw [if_pos hcn]
    exact xf_last4 hO h hT ht hcn (F 0 0) 0 bigM none (by omega) (by unfold bigM; omega) (fun v hv => by cases hv)
  · obtain ⟨m, hm⟩ : ∃ m, bigM = m + 1 := ⟨bigM - 1, rfl⟩
    rw [hm, e_X5_lastFinished_4, h.2.2.2.2, if_neg (nI_ne0 (by omega) (by omega)), if_neg hcn]
theorem xf_endm (hO : OkF F) (h : XR τ F S) (hT : TI F t S) (ht : t < 2 ^ 30) : f_X5_endMinute [.inr (.inl 0)] τ = some (some (some (.inl (opI (enA F S)))), τ) := by
  have h6 := hO.1
  have hc := cn_le (F := F) (S := S) (F 0 0)
  rw [e_X5_endMinute, xf_last hO h hT ht, onI_s, h.2.2.2.2]
  unfold enA
  by_cases hcn : cnA F S (F 0 0) = 0
  · have hd : ∀ k, k < F 0 0 → 1 ≤ S 4 k := fun k hk => ((hT k hk).2 (dn_iff.mp ((cn_zero _).mp hcn k hk))).1
    rw [if_pos hcn, if_pos hcn]
    by_cases h0 : F 0 0 = 0
    · rw [h0, if_pos (show opI (lsA S 0 0 none) = -1 from rfl), show cnA F S 0 = 0 from rfl, if_neg (show ¬ (0 : Int32) < nI 0 by decide)]
      rfl
    · obtain ⟨c, hc9⟩ : ∃ c, F 0 0 = c + 1 := ⟨F 0 0 - 1, by omega⟩
      obtain ⟨r, e1, e2, e3⟩ := ls_mx hd c 1 0 (by omega) (by omega) (by show S 4 0 - 1 = max 0 (S 4 0 - 1); omega)
      have e4 : lsA S (F 0 0) 0 none = some r := by rw [hc9]; exact e1
      rw [e4, show opI (some r) = nI r from rfl, if_neg (ne_m1 (by omega)), if_pos (inb_nI (by omega) (by decide)), nI_clamp (by omega), fin_v h e2 (hd r e2), e3]
      rfl
  · rw [if_neg hcn, if_neg hcn, if_pos rfl, if_pos (show (0 : Int32) < nI _ from nI_lt (a := 0) (by omega) (by omega))]
    rfl
theorem xf_end8 (hO : OkF F) {m : Nat} (hm : m < 2 ^ 20) : ∀ (c j n : Nat) (τ : Mm) (fl : Int32), j + c = m → c + 1 < n → XR τ F (rnA F j) → (fl = 1 ∨ (fl = 0 ∧ Sk F (rnA F j))) → ∃ τ', b_X5_endWithin_8 n (nI m) fl (nI j) τ = some (some (some (.inl (opI (fnA F m)))), τ') ∧ XF τ' 12 F := by
  have h6 := hO.1
  intro c
  induction c with
  | zero =>
    intro j n τ fl hj hn h hf
    obtain ⟨n, rfl⟩ : ∃ n', n = n' + 2 := ⟨n - 2, by omega⟩
    obtain rfl : j = m := by omega
    refine ⟨τ, ?_, h.1⟩
    rw [e_X5_endWithin_8, if_neg (nI_nlt (by omega) (by omega)), e_X5_endWithin_48, xf_endm hO h (ti_rn hO j) (by omega), onI_s]
    rfl
  | succ c ih =>
    intro j n τ fl hj hn h hf
    obtain ⟨n, rfl⟩ : ∃ n', n = n' + 2 := ⟨n - 2, by omega⟩
    have hc := cn_le (F := F) (S := rnA F j) (F 0 0)
    rw [e_X5_endWithin_8, if_pos (nI_lt (by omega) (by omega)), h.2.2.2.2]
    by_cases hcn : cnA F (rnA F j) (F 0 0) = 0
    · have e1 : fnA F j = some (mxA (rnA F j) (F 0 0)) := if_pos hcn
      have e2 := fn_mono (u := m) hO e1 (by omega)
      refine ⟨τ, ?_, h.1⟩
      rw [hcn, if_neg (show ¬ (0 : Int32) < nI 0 by decide), e_X5_endWithin_48, xf_endm hO h (ti_rn hO j) (by omega), onI_s, e2, ← e1]
      rfl
    · have e1 : fnA F j = none := if_neg hcn
      rw [if_pos (show (0 : Int32) < nI _ from nI_lt (a := 0) (by omega) (by omega))]
      rcases hf with hf | ⟨hf, hk⟩
      · rw [if_neg (by rw [hf]; decide)]
        have hS := si_rn hO j
        obtain ⟨τ1, τ2, τ3, a1, a2, a3, x3⟩ := xf_moves hO hS h
        have hmv := si_mv hO hS
        obtain ⟨τ4, a4, x4, s4⟩ := xf_pass (t := j) hO hmv.1 hmv.2 x3 (by omega)
        rw [a1, onV_s, a2, onV_s, a3, onV_s, a4, onI_s, nI_1]
        refine ih (j + 1) (n + 1) τ4 _ (by omega) (by omega) x4 ?_
        cases hv : mvJ F (mvA F (rnA F j)) (F 0 0) with
        | true => exact Or.inl rfl
        | false => exact Or.inr ⟨rfl, sk_first hO hv⟩
      · refine ⟨τ, ?_, h.1⟩
        rw [if_pos hf, e_X5_endWithin_48, xf_endm hO h (ti_rn hO j) (by omega), onI_s, sk_fn hO hk e1 (show j ≤ m by omega)]
        show some (some (some (Sum.inl (opI (fnA F j)))), τ) = _
        rw [e1]
theorem xf_end (hO : OkF F) (h : XF τ 12 F) {m : Nat} (hm : m ≤ 480) : ∃ τ', f_X5_endWithin [.inr (.inl 0), .inl (nI m)] τ = some (some (some (.inl (opI (fnA F m)))), τ') ∧ XF τ' 12 F := by
  obtain ⟨τ1, a1, x1⟩ := xf_begin hO h
  rw [e_X5_endWithin, a1, onV_s]
  exact xf_end8 hO (by omega) m 0 bigM τ1 1 (by omega) (by unfold bigM; omega) x1 (Or.inl rfl)
end XEND
