/-! the reference's run: what it stands on, what its tests answer -/
def plW (wo j : Nat) : Nat := if j < wo then j else j + 1
def lcA (wo x : Nat) : Nat := if x = 0 then 0 else if 10 ≤ x then x else 1 + plW wo (x - 1)
def BoL (r : Nat → Int32) : Nat → List Nat → Prop
  | _, [] => True
  | i, x :: l => r i = nI x ∧ BoL r (i + 1) l
/-- an iron's numbers -/
def MI (σ : Mm) (F : Fg) (k : Nat) : Prop := k < 6 ∧ σ 2 (6 + k) = nI (F 2 k) ∧ σ 2 (12 + k) = nI (F 3 k) ∧ σ 4 k = nI (F 4 k) ∧ (∀ s, s < F 4 k → σ 4 (6 + (5 * k + s)) = nI (F 5 (5 * k + s)) ∧ σ 4 (36 + (5 * k + s)) = nI (F 6 (5 * k + s)))
/-- what a run stands on: the irons bo in their order; wo: the place left out (of P) -/
def MC (σ : Mm) (F : Fg) (bo : List Nat) (P wo : Nat) : Prop := (σ 0 21 = nI bo.length ∧ bo.length ≤ 6 ∧ BoL (σ 7) 0 bo ∧ ∀ k, k ∈ bo → MI σ F k ∧ k < F 0 0) ∧ (P ≤ 3 ∧ σ 2 19 = nI P ∧ σ 0 23 = (if wo < P then nI wo else -1) ∧ F 0 1 = (if wo < P then P - 1 else P)) ∧ (∀ j, j < F 0 1 → σ 4 (66 + plW wo j) = nI (F 7 j) ∧ σ 4 (69 + plW wo j) = nI (F 8 j)) ∧ σ 4 78 = nI (F 9 0) ∧ σ 4 80 = nI (F 9 2) ∧ σ 0 22 = nI (F 9 1)
/-- the irons left out have nothing to do -/
def Kp (F : Fg) (bo : List Nat) : Prop := ∃ p : Nat → Bool, bo = (orL F).filter p ∧ ∀ k, k < F 0 0 → p k = false → F 4 k = 0
/-- the reference's cells of an iron -/
def M1 (σ : Mm) (S : Fg) (wo k : Nat) : Prop := σ 8 k = nI (S 0 k) ∧ σ 9 k = nI (lcA wo (S 1 k)) ∧ σ 10 k = nI (S 2 k) ∧ σ 11 k = nI (S 3 k) ∧ σ 12 k = nI (S 4 k) - 1 ∧ σ 13 k = nI (S 5 k) ∧ σ 14 k = nI (S 6 k)
def Fxm (σ σ' : Mm) : Prop := ∀ c j, (c < 8 ∨ 14 < c) → σ' c j = σ c j
theorem Fxm_refl (σ : Mm) : Fxm σ σ := fun _ _ _ => rfl
theorem Fxm_trans {σ σ1 σ2 : Mm} (h1 : Fxm σ σ1) (h2 : Fxm σ1 σ2) : Fxm σ σ2 := fun c j h => (h2 c j h).trans (h1 c j h)
theorem Fxm_wr {σ : Mm} {c j : Nat} {v : Int32} (h : 8 ≤ c ∧ c ≤ 14) : Fxm σ (wr σ c j v) := fun c' j' h' => wr_cell (by omega)
section MVAL
variable {σ σ' : Mm} {F S S' : Fg} {bo : List Nat} {P wo k b : Nat}
theorem mc_fx (hf : Fxm σ σ') (h : MC σ F bo P wo) : MC σ' F bo P wo := by
  have e0 : σ' 0 = σ 0 := funext (fun j => hf 0 j (by omega))
  have e2 : σ' 2 = σ 2 := funext (fun j => hf 2 j (by omega))
  have e4 : σ' 4 = σ 4 := funext (fun j => hf 4 j (by omega))
  have e7 : σ' 7 = σ 7 := funext (fun j => hf 7 j (by omega))
  unfold MC MI at h ⊢
  rw [e0, e2, e4, e7]
  exact h
theorem m1_eq (g : ∀ c, 8 ≤ c → c ≤ 14 → σ' c k = σ c k) (h : M1 σ S wo k) : M1 σ' S wo k := by
  unfold M1 at h ⊢
  rw [g 8 (by omega) (by omega), g 9 (by omega) (by omega), g 10 (by omega) (by omega), g 11 (by omega) (by omega), g 12 (by omega) (by omega), g 13 (by omega) (by omega), g 14 (by omega) (by omega)]
  exact h
theorem m1_S (g : ∀ c, S' c k = S c k) (h : M1 σ S wo k) : M1 σ S' wo k := by
  unfold M1 at h ⊢
  simp only [g]
  exact h
theorem n5s (a k s : Nat) : (nI a + 5 * nI k) + nI s = nI (a + (5 * k + s)) := by
  rw [show (5 : Int32) = nI 5 from rfl, nI_mul, nI_add, nI_add, Nat.add_assoc]
theorem z0 (k : Nat) : (0 : Int32) + nI k = nI k := Int32.zero_add _
theorem lc_lt (h : S 1 k = 0 ∨ (1 ≤ S 1 k ∧ S 1 k ≤ 3) ∨ (10 ≤ S 1 k ∧ S 1 k < 13)) : lcA wo (S 1 k) < 13 := by
  unfold lcA plW
  split
  · omega
  · split
    · omega
    · split <;> omega
theorem lcz {x : Nat} : lcA wo x = 0 ↔ x = 0 := by
  unfold lcA
  split
  · rename_i h; simp [h]
  · split
    · rename_i h1 h2; constructor <;> omega
    · rename_i h1 h2; constructor
      · omega
      · intro h; omega
theorem lc_10 {x : Nat} (h : x ≤ 3 ∨ 10 ≤ x) : (lcA wo x < 10 ↔ x < 10) := by
  unfold lcA plW
  split
  · constructor <;> omega
  · split
    · constructor <;> omega
    · split <;> constructor <;> omega
theorem lc_an {x v : Nat} (h : x ≤ 3 ∨ 10 ≤ x) : (lcA wo x = 10 + v ↔ x = 10 + v) := by
  unfold lcA plW
  split
  · constructor <;> omega
  · split
    · constructor <;> omega
    · split <;> constructor <;> omega
theorem lc_pl {x v : Nat} (h : x ≤ 3 ∨ 10 ≤ x) (hv : v < 3) : (lcA wo x = 1 + plW wo v ↔ x = 1 + v) := by
  unfold lcA plW
  by_cases h0 : x = 0
  · rw [if_pos h0]; split <;> constructor <;> omega
  · rw [if_neg h0]
    by_cases h1 : 10 ≤ x
    · rw [if_pos h1]; split <;> constructor <;> omega
    · rw [if_neg h1]
      by_cases h2 : x - 1 < wo
      · rw [if_pos h2]; split <;> constructor <;> omega
      · rw [if_neg h2]; split <;> constructor <;> omega
theorem loc3 (hO : OkF F) (hS : SI F (F 0 1) S) (hk : k < F 0 0) : S 1 k = 0 ∨ (1 ≤ S 1 k ∧ S 1 k ≤ 3) ∨ (10 ≤ S 1 k ∧ S 1 k < 13) := by
  have h1 := hO.2.2.2.2.2.1
  have h2 := hS.2.2
  have h3 := (hS.1 k hk).2.2.2.2
  omega
theorem sm_dn (hO : OkF F) (hS : SI F (F 0 1) S) (hk : k < F 0 0) (hM : MI σ F k) (h1 : M1 σ S wo k) : f_X7_isDone [.inr (.inl 0), .inl (nI k)] σ = some (some (some (.inl (if dnA F S k = true then 1 else 0))), σ) := by
  have h6 := hO.1
  have h5 := (hO.2.2.1 k hk).2.2.1
  have hs := (hS.1 k hk).1
  rw [e_X7_isDone, if_pos (inb_nI (by omega) (by decide)), z0, if_pos (inb_nI (by omega) (by decide)), nI_clamp (by omega), h1.2.2.1, hM.2.2.2.1]
  by_cases hd : dnA F S k = true
  · rw [if_pos hd, if_pos (by rw [dn_iff.mp hd])]
  · rw [if_neg hd, if_neg (fun h9 => hd (dn_iff.mpr ((nI_eq (by omega) (by omega)).mp h9)))]
theorem sm_nd (hO : OkF F) (hk : k < F 0 0) (hlt : S 2 k < F 4 k) (hM : MI σ F k) (h1 : M1 σ S wo k) : f_X7_needs [.inr (.inl 0), .inl (nI k)] σ = some (some (some (.inl (nI (ndA F S k)))), σ) := by
  have h6 := hO.1
  have h5 := (hO.2.2.1 k hk).2.2.1
  rw [e_X7_needs, if_pos (inb_nI (by omega) (by decide)), nI_clamp (by omega), h1.2.2.1, show (6 : Int32) = nI 6 from rfl, n5s, if_pos (inb_nI (by omega) (by decide)), nI_clamp (by omega), (hM.2.2.2.2 _ hlt).1]
  rfl
theorem sm_rd (hO : OkF F) (hS : SI F (F 0 1) S) (hk : k < F 0 0) (hM : MI σ F k) (h1 : M1 σ S wo k) (hg : σ 0 22 = nI (F 9 1)) : f_X7_isReady [.inr (.inl 0), .inl (nI k)] σ = some (some (some (.inl (if rdA F S k = true then 1 else 0))), σ) := by
  have h6 := hO.1
  have hm := hO.2.2.2.2.2.2.1
  have hl := loc3 hO hS hk
  have hll := lc_lt (wo := wo) hl
  have hht := (hS.1 k hk).2.2.2.1
  have hi : inb (nI k) 6 = true := inb_nI (by omega) (by decide)
  rw [e_X7_isReady, sm_dn hO hS hk hM h1, onI_s]
  unfold rdA
  cases hd : dnA F S k with
  | true =>
    rw [if_pos rfl, if_neg (by decide)]
    rfl
  | false =>
    have hlt := dn_lt hS hk hd
    have hnd : ndA F S k ≤ 1400 := ((hO.2.2.1 k hk).2.2.2.1 (S 2 k) hlt).1.2
    rw [if_neg (show ¬ false = true by decide), if_pos rfl, if_pos hi, nI_clamp (by omega), h1.2.1]
    by_cases h10 : S 1 k < 10
    · rw [if_pos (show nI _ < 10 from nI_lt (b := 10) ((lc_10 (by omega)).mpr h10) (by decide)), if_pos hi, sm_nd hO hk hlt hM h1, onI_s, h1.1, hg, nI_add]
      by_cases hr : ndA F S k + F 9 1 ≤ S 0 k
      · rw [if_neg (nI_nlt hr (by omega))]
        simp [h10, hr]
      · rw [if_pos (nI_lt (by omega) (by omega))]
        simp [h10, hr]
    · rw [if_neg (show ¬ nI _ < 10 from nI_nlt (b := 10) (by have := (lc_10 (wo := wo) (x := S 1 k) (by omega)); omega) (by omega))]
      simp [h10]
theorem sm_left (hO : OkF F) (hk : k < F 0 0) (hM : MI σ F k) : ∀ (c s n : Nat) (x : Int32), s + c = F 4 k → c < n → b_X7_left_15 n (nI k) x (nI s) σ = some (some (some (.inl (x + nI (smA F k s c)))), σ) := by
  have h6 := hO.1
  have h5 := (hO.2.2.1 k hk).2.2.1
  have hi : inb (nI k) 81 = true := inb_nI (by omega) (by decide)
  intro c
  induction c with
  | zero =>
    intro s n x hs hn
    obtain ⟨n, rfl⟩ : ∃ n', n = n' + 1 := ⟨n - 1, by omega⟩
    rw [e_X7_left_15, z0, if_pos hi, nI_clamp (by omega), hM.2.2.2.1, if_neg (nI_nlt (by omega) (by omega))]
    have : x + nI 0 = x := Int32.add_zero x
    rw [show smA F k s 0 = 0 from rfl, this]
  | succ c ih =>
    intro s n x hs hn
    obtain ⟨n, rfl⟩ : ∃ n', n = n' + 1 := ⟨n - 1, by omega⟩
    rw [e_X7_left_15, z0, if_pos hi, nI_clamp (by omega), hM.2.2.2.1, if_pos (nI_lt (by omega) (by omega)), show (36 : Int32) = nI 36 from rfl, n5s, if_pos (inb_nI (by omega) (by decide)), nI_clamp (by omega), (hM.2.2.2.2 s (by omega)).2, nI_1, ih (s + 1) n _ (by omega) (by omega), sm_S, ← nI_add, Int32.add_assoc]
theorem sm_le3 (hS : SI F (F 0 1) S) (hk : k < F 0 0) : S 3 k ≤ smA F k (S 2 k) (F 4 k - S 2 k) := by
  obtain ⟨s1, s2, s3, -, -⟩ := hS.1 k hk
  by_cases h : S 2 k < F 4 k
  · have := s2 h
    obtain ⟨c, hc⟩ : ∃ c, F 4 k - S 2 k = c + 1 := ⟨F 4 k - S 2 k - 1, by omega⟩
    rw [hc, sm_S]
    omega
  · have := s3 (by omega)
    omega
theorem sm_lf (hO : OkF F) (hS : SI F (F 0 1) S) (hk : k < F 0 0) (hM : MI σ F k) (h1 : M1 σ S wo k) : f_X7_left [.inr (.inl 0), .inl (nI k)] σ = some (some (some (.inl (nI (lfA F S k)))), σ) := by
  have h6 := hO.1
  have h5 := (hO.2.2.1 k hk).2.2.1
  have hs := (hS.1 k hk).1
  rw [e_X7_left, if_pos (inb_nI (by omega) (by decide)), if_pos (inb_nI (by omega) (by decide)), nI_clamp (by omega), h1.2.2.1, h1.2.2.2.1, sm_left hO hk hM (F 4 k - S 2 k) (S 2 k) bigM _ (by omega) (by unfold bigM; omega), Int32.add_comm, ← Int32.sub_eq_add_neg, nI_sub (sm_le3 hS hk)]
  rfl
theorem sm_bt (hO : OkF F) (hS : SI F (F 0 1) S) (hk : k < F 0 0) (hb : b < F 0 0) (hM : MI σ F k) (hMb : MI σ F b) (h1 : M1 σ S wo k) (h1b : M1 σ S wo b) (hr : σ 4 80 = nI (F 9 2)) : ∃ x y, f_X7_rank [.inr (.inl 0), .inl (nI k)] σ = some (some (some (.inl x)), σ) ∧ f_X7_rank [.inr (.inl 0), .inl (nI b)] σ = some (some (some (.inl y)), σ) ∧ (y < x ↔ btA F S k b = true) := by
  have h6 := hO.1
  have hr2 := hO.2.2.2.2.2.2.2.1
  have hl1 := lf_le hO hS hk
  have hl2 := lf_le hO hS hb
  have hs1 := (hS.1 k hk).2.2.2.1
  have hs2 := (hS.1 b hb).2.2.2.1
  rw [e_X7_rank, e_X7_rank, hr, sm_lf hO hS hk hM h1, sm_lf hO hS hb hMb h1b, if_pos (inb_nI (n := 6) (i := k) (by omega) (by decide)), if_pos (inb_nI (n := 6) (i := b) (by omega) (by decide)), nI_clamp (by omega), nI_clamp (by omega), h1.1, h1b.1]
  unfold btA
  by_cases r1 : F 9 2 = 1
  · rw [r1]
    refine ⟨nI (S 0 k), nI (S 0 b), if_pos rfl, if_pos rfl, ?_⟩
    rw [if_pos rfl, nI_ltI (by omega) (by omega)]
    exact decide_eq_true_iff.symm
  · have r1' : ¬ nI (F 9 2) = 1 := fun h9 => r1 ((nI_eq (b := 1) (by omega) (by decide)).mp h9)
    rw [if_neg r1', if_neg r1', if_neg r1]
    by_cases r2 : F 9 2 = 2
    · rw [r2]
      refine ⟨-nI (lfA F S k), -nI (lfA F S b), if_pos rfl, if_pos rfl, ?_⟩
      rw [if_pos rfl, decide_eq_true_iff, Int32.lt_iff_toInt_lt, Int32.toInt_neg, Int32.toInt_neg, nI_toInt (by omega), nI_toInt (by omega)]
      have e1 : (-(lfA F S k : Int)).bmod (2 ^ 32) = -(lfA F S k : Int) := by apply Int.bmod_eq_of_le <;> omega
      have e2 : (-(lfA F S b : Int)).bmod (2 ^ 32) = -(lfA F S b : Int) := by apply Int.bmod_eq_of_le <;> omega
      rw [e1, e2]
      omega
    · have r2' : ¬ nI (F 9 2) = 2 := fun h9 => r2 ((nI_eq (b := 2) (by omega) (by decide)).mp h9)
      rw [if_neg r2', if_neg r2', if_neg r2]
      exact ⟨0, 0, rfl, rfl, ⟨fun h9 => absurd h9 (by decide), fun h9 => by cases h9⟩⟩
end MVAL
