/-! which iron the reference takes -/
section MPICK
variable {σ : Mm} {F S : Fg} {bo : List Nat} {P wo k : Nat}
theorem bo_app {r : Nat → Int32} : ∀ (i : Nat) (d l : List Nat), BoL r i (d ++ l) → BoL r (i + d.length) l
  | i, [], l, h => h
  | i, x :: d, l, h => by
    have := bo_app (i + 1) d l h.2
    rw [List.length_cons, show i + (d.length + 1) = i + 1 + d.length by omega]
    exact this
def MSt (σ : Mm) (S : Fg) (bo : List Nat) (wo : Nat) : Prop := ∀ k, k ∈ bo → M1 σ S wo k
theorem mo_pick (hO : OkF F) (hS : SI F (F 0 1) S) (hC : MC σ F bo P wo) (h : MSt σ S bo wo) : ∀ (l d : List Nat) (n : Nat) (b : Option Nat), bo = d ++ l → l.length < n → (∀ v, b = some v → v ∈ bo) → b_X7_readyOne_4 n (opI b) (nI d.length) σ = some (some (some (.inl (opI (pickA F S l b)))), σ) := by
  have h6 := hO.1
  obtain ⟨⟨c1, c2, c3, c4⟩, -, -, -, cr, cg⟩ := hC
  intro l
  induction l with
  | nil =>
    intro d n b hd hn hb
    obtain ⟨n, rfl⟩ : ∃ n', n = n' + 1 := ⟨n - 1, by omega⟩
    have hl : bo.length = d.length := by rw [hd, List.append_nil]
    rw [e_X7_readyOne_4, c1, if_neg (nI_nlt (by omega) (by omega))]
    cases b <;> rfl
  | cons k r ih =>
    intro d n b hd hn hb
    obtain ⟨n, rfl⟩ : ∃ n', n = n' + 1 := ⟨n - 1, by omega⟩
    have hl : bo.length = d.length + (r.length + 1) := by rw [hd, List.length_append, List.length_cons]
    have hkb : k ∈ bo := by rw [hd]; exact List.mem_append_right _ List.mem_cons_self
    have e7 : σ 7 d.length = nI k := by
      have := bo_app 0 d (k :: r) (hd ▸ c3)
      rw [Nat.zero_add] at this
      exact this.1
    obtain ⟨hM, hk⟩ := c4 k hkb
    have h1 := h k hkb
    have ihk := fun b hb => ih (d ++ [k]) n b (by rw [hd, List.append_assoc]; rfl) (by rw [List.length_cons] at hn; omega) hb
    have el : (d ++ [k]).length = d.length + 1 := by rw [List.length_append]; rfl
    rw [el] at ihk
    rw [List.length_cons] at hn
    rw [e_X7_readyOne_4, c1, if_pos (nI_lt (by omega) (by omega)), if_pos (inb_nI (by omega) (by decide)), nI_clamp (by omega), e7, sm_rd hO hS hk hM h1 cg, onI_s, nI_1]
    have hb6 : ∀ v, b = some v → v < 6 := fun v hv => by have := (c4 v (hb v hv)).2; omega
    by_cases hr : rdA F S k = true
    · rw [if_pos hr, if_neg (by decide)]
      cases b with
      | none =>
        rw [if_pos (show opI none = -1 from rfl)]
        have := ihk (some k) (fun v hv => by cases hv; exact hkb)
        rw [show opI (some k) = nI k from rfl] at this
        rw [this]
        have hpk : pickA F S (k :: r) none = pickA F S r (if rdA F S k = true then some k else none) := rfl
        rw [hpk, if_pos hr]
      | some v =>
        have hvb := hb v rfl
        obtain ⟨x, y, ex, ey, exy⟩ := sm_bt hO hS hk (c4 v hvb).2 hM (c4 v hvb).1 h1 (h v hvb) cr
        have hpk : pickA F S (k :: r) (some v) = pickA F S r (if (rdA F S k && btA F S k v) = true then some k else some v) := rfl
        rw [if_neg (fun h9 => by have := (opI_none hb6).mp h9; cases this), show opI (some v) = nI v from rfl, ex, onI_s, ey, onI_s, hpk, hr]
        by_cases hbt : btA F S k v = true
        · have h9 := ihk (some k) (fun v hv => by cases hv; exact hkb)
          rw [show opI (some k) = nI k from rfl] at h9
          rw [if_pos (exy.mpr hbt), h9, hbt]
          rfl
        · have h9 := ihk (some v) hb
          rw [show opI (some v) = nI v from rfl] at h9
          rw [if_neg (fun h8 => hbt (exy.mp h8)), h9]
          simp [hbt]
    · rw [if_neg hr, if_pos rfl, ihk b hb]
      have hr' : rdA F S k = false := by simpa using hr
      cases b with
      | none =>
        have : pickA F S (k :: r) none = pickA F S r (if rdA F S k = true then some k else none) := rfl
        rw [this, if_neg hr]
      | some v =>
        have : pickA F S (k :: r) (some v) = pickA F S r (if (rdA F S k && btA F S k v) = true then some k else some v) := rfl
        rw [this, hr']
        rfl
theorem mo_wait (hO : OkF F) (hS : SI F (F 0 1) S) (hC : MC σ F bo P wo) (h : MSt σ S bo wo) : ∀ (l d : List Nat) (n : Nat), bo = d ++ l → l.length < n → b_X7_waitingOne_2 n (nI d.length) σ = some (some (some (.inl (opI (wtA F S l)))), σ) := by
  have h6 := hO.1
  obtain ⟨⟨c1, c2, c3, c4⟩, -, -, -, cr, cg⟩ := hC
  intro l
  induction l with
  | nil =>
    intro d n hd hn
    obtain ⟨n, rfl⟩ : ∃ n', n = n' + 1 := ⟨n - 1, by omega⟩
    have hl : bo.length = d.length := by rw [hd, List.append_nil]
    rw [e_X7_waitingOne_2, c1, if_neg (nI_nlt (by omega) (by omega))]
    rfl
  | cons k r ih =>
    intro d n hd hn
    obtain ⟨n, rfl⟩ : ∃ n', n = n' + 1 := ⟨n - 1, by omega⟩
    have hl : bo.length = d.length + (r.length + 1) := by rw [hd, List.length_append, List.length_cons]
    have hkb : k ∈ bo := by rw [hd]; exact List.mem_append_right _ List.mem_cons_self
    have e7 : σ 7 d.length = nI k := by
      have := bo_app 0 d (k :: r) (hd ▸ c3)
      rw [Nat.zero_add] at this
      exact this.1
    obtain ⟨hM, hk⟩ := c4 k hkb
    have h1 := h k hkb
    have ihk := ih (d ++ [k]) n (by rw [hd, List.append_assoc]; rfl) (by rw [List.length_cons] at hn; omega)
    have el : (d ++ [k]).length = d.length + 1 := by rw [List.length_append]; rfl
    rw [el] at ihk
    have hll := lc_lt (wo := wo) (loc3 hO hS hk)
    rw [e_X7_waitingOne_2, c1, if_pos (nI_lt (by omega) (by omega)), if_pos (inb_nI (by omega) (by decide)), nI_clamp (by omega), e7, sm_dn hO hS hk hM h1, onI_s, nI_1, if_pos (inb_nI (n := 6) (i := k) (by omega) (by decide)), nI_clamp (by omega), h1.2.1, ihk, sm_rd hO hS hk hM h1 cg, onI_s]
    have hw : wtA F S (k :: r) = if (!(dnA F S k) && decide (S 1 k = 0) && !(rdA F S k)) = true then some k else wtA F S r := by
      show List.find? _ (k :: r) = _
      rw [List.find?_cons]
      cases (!(dnA F S k) && decide (S 1 k = 0) && !(rdA F S k)) <;> rfl
    rw [hw]
    cases hd9 : dnA F S k with
    | true =>
      rw [if_pos rfl, if_neg (by decide), if_neg (by simp)]
    | false =>
      rw [if_neg (show ¬ false = true by decide), if_pos rfl]
      by_cases h0 : S 1 k = 0
      · rw [h0, show lcA wo 0 = 0 from rfl, if_pos (show nI 0 = 0 from rfl)]
        cases hr : rdA F S k with
        | true =>
          rw [if_pos rfl, if_neg (by decide), if_neg (by simp)]
          exact ihk
        | false =>
          rw [if_neg (show ¬ false = true by decide), if_pos rfl, if_pos (by simp)]
          rfl
      · rw [if_neg (show ¬ nI _ = 0 from fun h9 => h0 (lcz.mp ((nI_eq (b := 0) (by omega) (by decide)).mp h9))), if_neg (by simp [h0])]
theorem mo_tk (hO : OkF F) (hS : SI F (F 0 1) S) (hC : MC σ F bo P wo) (h : MSt σ S bo wo) {y v : Nat} (hy : y < 2 ^ 20) (hv : ∀ k, k < F 0 0 → (lcA wo (S 1 k) = y ↔ S 1 k = v)) : ∀ (l d : List Nat) (n : Nat) (a : Bool), bo = d ++ l → l.length < n → b_X7_isTaken_4 n (nI y) (if a = true then 1 else 0) (nI d.length) σ = some (some (some (.inl (if (a || tkA S l v) = true then 1 else 0))), σ) := by
  have h6 := hO.1
  obtain ⟨⟨c1, c2, c3, c4⟩, -⟩ := hC
  intro l
  induction l with
  | nil =>
    intro d n a hd hn
    obtain ⟨n, rfl⟩ : ∃ n', n = n' + 1 := ⟨n - 1, by omega⟩
    have hl : bo.length = d.length := by rw [hd, List.append_nil]
    rw [e_X7_isTaken_4, c1, if_neg (nI_nlt (by omega) (by omega)), show tkA S [] v = false from rfl, Bool.or_false]
    cases a
    · exact if_pos (Or.inl rfl)
    · exact if_pos (Or.inr rfl)
  | cons k r ih =>
    intro d n a hd hn
    obtain ⟨n, rfl⟩ : ∃ n', n = n' + 1 := ⟨n - 1, by omega⟩
    have hl : bo.length = d.length + (r.length + 1) := by rw [hd, List.length_append, List.length_cons]
    have hkb : k ∈ bo := by rw [hd]; exact List.mem_append_right _ List.mem_cons_self
    have e7 : σ 7 d.length = nI k := by
      have := bo_app 0 d (k :: r) (hd ▸ c3)
      rw [Nat.zero_add] at this
      exact this.1
    obtain ⟨hM, hk⟩ := c4 k hkb
    have h1 := h k hkb
    have ihk := fun a => ih (d ++ [k]) n a (by rw [hd, List.append_assoc]; rfl) (by rw [List.length_cons] at hn; omega)
    have el : (d ++ [k]).length = d.length + 1 := by rw [List.length_append]; rfl
    rw [el] at ihk
    have hll := lc_lt (wo := wo) (loc3 hO hS hk)
    have et : tkA S (k :: r) v = (decide (S 1 k = v) || tkA S r v) := List.any_cons
    rw [e_X7_isTaken_4, c1, if_pos (nI_lt (by omega) (by omega)), if_pos (inb_nI (by omega) (by decide)), nI_clamp (by omega), e7, if_pos (inb_nI (n := 6) (i := k) (by omega) (by decide)), nI_clamp (by omega), h1.2.1, nI_1, et]
    by_cases he : S 1 k = v
    · have hb := bor a true
      rw [if_pos rfl] at hb
      rw [if_pos (by rw [(hv k hk).mpr he]), hb, ihk, decide_eq_true he]
      simp
    · have hb := bor a false
      rw [if_neg (show ¬ false = true by decide)] at hb
      rw [if_neg (fun h9 => he ((hv k hk).mp ((nI_eq (by omega) (by omega)).mp h9))), hb, ihk, decide_eq_false he]
      simp
/-! leaving out irons that have nothing to do -/
theorem pick_filter {p : Nat → Bool} : ∀ (l : List Nat) (b : Option Nat), (∀ k, k ∈ l → p k = false → rdA F S k = false) → pickA F S (l.filter p) b = pickA F S l b
  | [], b, _ => rfl
  | x :: r, b, h => by
    have ih := fun b => pick_filter r b (fun k hk => h k (List.mem_cons_of_mem _ hk))
    by_cases hp : p x = true
    · rw [List.filter_cons_of_pos hp]
      cases b with
      | none => exact ih _
      | some v => exact ih _
    · have hr := h x List.mem_cons_self (by simpa using hp)
      rw [List.filter_cons_of_neg hp, ih]
      cases b with
      | none =>
        have : pickA F S (x :: r) none = pickA F S r (if rdA F S x = true then some x else none) := rfl
        rw [this, hr]
        rfl
      | some v =>
        have : pickA F S (x :: r) (some v) = pickA F S r (if (rdA F S x && btA F S x v) = true then some x else some v) := rfl
        rw [this, hr]
        rfl
theorem wt_filter {p : Nat → Bool} : ∀ (l : List Nat), (∀ k, k ∈ l → p k = false → dnA F S k = true) → wtA F S (l.filter p) = wtA F S l
  | [], _ => rfl
  | x :: r, h => by
    have ih := wt_filter r (fun k hk => h k (List.mem_cons_of_mem _ hk))
    unfold wtA at ih ⊢
    by_cases hp : p x = true
    · rw [List.filter_cons_of_pos hp, List.find?_cons, List.find?_cons, ih]
    · have hr := h x List.mem_cons_self (by simpa using hp)
      rw [List.filter_cons_of_neg hp, List.find?_cons, ih, hr]
      rfl
theorem tk_filter {p : Nat → Bool} {v : Nat} : ∀ (l : List Nat), (∀ k, k ∈ l → p k = false → S 1 k ≠ v) → tkA S (l.filter p) v = tkA S l v
  | [], _ => rfl
  | x :: r, h => by
    have ih := tk_filter r (fun k hk => h k (List.mem_cons_of_mem _ hk))
    unfold tkA at ih ⊢
    by_cases hp : p x = true
    · rw [List.filter_cons_of_pos hp, List.any_cons, List.any_cons, ih]
    · have hr := h x List.mem_cons_self (by simpa using hp)
      rw [List.filter_cons_of_neg hp, List.any_cons, ih, decide_eq_false hr]
      rfl
end MPICK
