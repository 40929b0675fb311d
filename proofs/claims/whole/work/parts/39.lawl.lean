theorem nI_int {k : Nat} (h : k < 2 ^ 31) : (Int32.ofNat k).toInt = (k : Int) := Int32.toInt_ofNat_of_lt h
theorem lw_idx {L i : Nat} (hL : L ≤ 3072) (h : i < L) : (Int32.ofNat i).toNatClampNeg = i ∧ vp_in (Int32.ofNat i) L := by
  have h1 := nI_int (k := i) (by omega)
  have h2 : (Int32.ofNat i).toNatClampNeg = i := by
    show ((Int32.ofNat i).toInt).toNat = i
    rw [h1]
    rfl
  refine ⟨h2, ?_⟩
  rintro (h3 | h3)
  · rw [Int32.lt_iff_toInt_lt, h1] at h3
    have : (0 : Int32).toInt = 0 := by decide
    omega
  · omega
theorem lw_cmp {L i : Nat} (hL : L ≤ 3072) (hi : i ≤ L) : ¬ (Int32.ofNat L - 6 < Int32.ofNat i) ↔ i + 6 ≤ L := by
  have h1 := nI_int (k := i) (by omega)
  have h2 := nI_int (k := L) (by omega)
  have h3 : (Int32.ofNat L - 6).toInt = (L : Int) - 6 := by
    rw [Int32.toInt_sub, h2]
    have : (6 : Int32).toInt = 6 := by decide
    rw [this]
    apply Int.bmod_eq_of_le <;> omega
  rw [Int32.lt_iff_toInt_lt, h1, h3]
  omega
/-- every call of a script, as plain facts: c is the call's number -/
def Go (c : Nat) (x : Nat → Int32) (n : Nat) (ρ : Nat → Mm) (σX σM : Mm) (K : Iv) : Prop := (c = 0 → go_0 x n ρ σX σM K) ∧ (c = 1 → go_1 x n ρ σX σM K) ∧ (c = 2 → go_2 x n ρ σX σM K) ∧ (c = 3 → go_3 x n ρ σX σM K) ∧ (c = 4 → go_4 x n ρ σX σM K) ∧ (c = 5 → go_5 x n ρ σX σM K) ∧ (c = 6 → go_6 x n ρ σX σM K) ∧ (c = 7 → go_7 x n ρ σX σM K) ∧ (c = 8 → go_8 x n ρ σX σM K) ∧ (c = 9 → go_9 x n ρ σX σM K) ∧ (c = 10 → go_10 x n ρ σX σM K) ∧ (c = 11 → go_11 x n ρ σX σM K) ∧ (c = 12 → go_12 x n ρ σX σM K) ∧ (c = 13 → go_13 x n ρ σX σM K) ∧ (c = 14 → go_14 x n ρ σX σM K) ∧ (c = 15 → go_15 x n ρ σX σM K) ∧ (c = 16 → go_16 x n ρ σX σM K) ∧ (c = 17 → go_17 x n ρ σX σM K) ∧ (c = 18 → go_18 x n ρ σX σM K) ∧ (c = 19 → go_19 x n ρ σX σM K) ∧ (c = 20 → go_20 x n ρ σX σM K) ∧ (c = 21 → go_21 x n ρ σX σM K) ∧ (c = 22 → go_22 x n ρ σX σM K) ∧ (c = 23 → go_23 x n ρ σX σM K) ∧ (c = 24 → go_24 x n ρ σX σM K) ∧ (c = 25 → go_25 x n ρ σX σM K) ∧ (c = 26 → go_26 x n ρ σX σM K) ∧ (c = 27 → go_27 x n ρ σX σM K) ∧ (c = 28 → go_28 x n ρ σX σM K) ∧ (c = 29 → go_29 x n ρ σX σM K) ∧ (c = 30 → go_30 x n ρ σX σM K) ∧ (c = 31 → go_31 x n ρ σX σM K) ∧ (c = 32 → go_32 x n ρ σX σM K) ∧ (c = 33 → go_33 x n ρ σX σM K) ∧ (c = 34 → go_34 x n ρ σX σM K) ∧ (c = 35 → go_35 x n ρ σX σM K) ∧ (c = 36 → go_36 x n ρ σX σM K) ∧ (c = 37 → go_37 x n ρ σX σM K) ∧ (c = 38 → go_38 x n ρ σX σM K) ∧ (c = 39 → go_39 x n ρ σX σM K) ∧ (c = 40 → go_40 x n ρ σX σM K) ∧ (c = 41 → go_41 x n ρ σX σM K) ∧ (c = 42 → go_42 x n ρ σX σM K) ∧ (c = 43 → go_43 x n ρ σX σM K) ∧ (c = 44 → go_44 x n ρ σX σM K) ∧ (c = 45 → go_45 x n ρ σX σM K) ∧ (c = 46 → go_46 x n ρ σX σM K) ∧ (c = 47 → go_47 x n ρ σX σM K) ∧ (c = 48 → go_48 x n ρ σX σM K) ∧ (c = 49 → go_49 x n ρ σX σM K) ∧ (c = 50 → go_50 x n ρ σX σM K) ∧ (c = 51 → go_51 x n ρ σX σM K) ∧ (c = 52 → go_52 x n ρ σX σM K) ∧ (c = 53 → go_53 x n ρ σX σM K) ∧ (c = 54 → go_54 x n ρ σX σM K) ∧ (c = 55 → go_55 x n ρ σX σM K) ∧ (c = 56 → go_56 x n ρ σX σM K)
section LAWL
variable {p : Program} {l : Launch} {e : Env} {s : State} {m : MethodId} {below : List Frame} {meth : Method} {c : Code} {D : va_G} {z : Nat → ClassId} {ts : Nat → Nat} {b L : Nat} {xs : Nat → Int32} {aM : Nat → Nat} {o : Nat} {Q : State → Prop} {I : Iv}
theorem and63 (x : Int32) : ∃ k : Nat, k < 64 ∧ x &&& 63 = Int32.ofNat k ∧ (x &&& 63).toInt = (k : Int) := by
  refine ⟨(x &&& 63).toNatClampNeg, ?_⟩
  have h : (x &&& 63).toBitVec = x.toBitVec &&& 63#32 := rfl
  have h2 : (x &&& 63).toBitVec.toNat < 64 := by
    rw [h, BitVec.toNat_and]
    exact Nat.lt_of_le_of_lt Nat.and_le_right (by decide)
  have h3 : (x &&& 63).toInt = ((x &&& 63).toBitVec.toNat : Int) := by
    show (x &&& 63).toBitVec.toInt = _
    rw [BitVec.toInt_eq_toNat_cond]
    omega
  have h4 : (x &&& 63).toNatClampNeg = (x &&& 63).toBitVec.toNat := by
    show ((x &&& 63).toInt).toNat = _
    rw [h3]
    rfl
  rw [h4]
  refine ⟨h2, ?_, h3⟩
  apply Int32.toInt_inj.mp
  rw [h3, Int32.toInt_ofNat_of_lt (by omega)]
theorem law_loop (hl9 : l.stackTraces = false) (hI12 : ∀ n ρ σX σM, I n ρ σX σM → n ≤ 12) (hL : Lc p s m c D z ts b L xs) (hgo : ∀ (k : Nat) (x : Nat → Int32) (n : Nat) (ρ : Nat → Mm) (σX σM : Mm), I n ρ σX σM → Go k x n ρ σX σM I)
    (hend : ∀ (H : Heap) (locs : List Loc) (ls : Array Slot) (cells slots : Nat), va_S (fun q => s.heap.size ≤ q) s.heap H locs → cells ≤ 601024 ∧ slots ≤ 7293034 → W p l e roomL s m #[Value.ref b] below meth c H locs cells slots Q (F0 m 2694 ls [.int 1])) :
    ∀ (q i : Nat), L < i + 6 * q + 6 → i ≤ L → Kn p l e s m below meth c D z b aM o Q I 23 i q := by
  have hLc := id hL
  obtain ⟨hF, hX, hbl, hL3⟩ := hL
  obtain ⟨hx, hb, hml, hown, hts, hK, hA, hA0, hSt⟩ := id hF
  intro q
  induction q with
  | zero =>
    intro i hq hi n ρ σX σM a g H locs ls cells slots hI hP hD hS hl hbu
    refine lv_iload hx hb dL_law_23 (lv_at hl 4 rfl) ?_
    refine lv_aload_n hx hb dL_law_25 rfl (lv_at hl 0 rfl) ?_
    refine va_slen hx hb hX hbl (fun h => by omega) hS dL_law_26 ?_
    refine lv_bipush (v := 6) hx hb dL_law_27 (by decide) ?_
    refine lv_isub hx hb dL_law_29 ?_
    refine lv_icmp_gt hx hb dL_law_30 (tgt := 2693) (by decide) (fun h9 => ?_) (fun h9 => ?_)
    · refine lv_iconst (v := 1) hx hb dL_law_2693 (by decide) ?_
      exact hend H locs ls cells slots hS ⟨by omega, by omega⟩
    · exfalso
      have := (lw_cmp hL3 hi).mp h9
      omega
  | succ q ih =>
    intro i hq hi n ρ σX σM a g H locs ls cells slots hI hP hD hS hl hbu
    refine lv_iload hx hb dL_law_23 (lv_at hl 4 rfl) ?_
    refine lv_aload_n hx hb dL_law_25 rfl (lv_at hl 0 rfl) ?_
    refine va_slen hx hb hX hbl (fun h => by omega) hS dL_law_26 ?_
    refine lv_bipush (v := 6) hx hb dL_law_27 (by decide) ?_
    refine lv_isub hx hb dL_law_29 ?_
    refine lv_icmp_gt hx hb dL_law_30 (tgt := 2693) (by decide) (fun h9 => ?_) (fun h9 => ?_)
    · refine lv_iconst (v := 1) hx hb dL_law_2693 (by decide) ?_
      exact hend H locs ls cells slots hS ⟨by omega, by omega⟩
    · have hi6 : i + 6 ≤ L := (lw_cmp hL3 hi).mp h9
      refine lv_aload_n hx hb dL_law_33 rfl (lv_at hl 0 rfl) ?_
      refine lv_iload hx hb dL_law_34 (lv_at hl 4 rfl) ?_
      obtain ⟨e1, e2⟩ := lw_idx hL3 (show i < L by omega)
      refine va_sld hx hb hX hbl (fun h => by omega) hS e2 dL_law_36 ?_
      rw [e1]
      refine lv_bipush (v := 63) hx hb dL_law_37 (by decide) ?_
      refine lv_iand hx hb dL_law_39 ?_
      have hKn : Kn p l e s m below meth c D z b aM o Q I 2687 i q := by
        intro n ρ σX σM a g H locs ls cells slots hI hP hD hS hl hbu
        refine lv_iinc hx hb dL_law_2687 hl (k := 4) rfl rfl (by decide) rfl (fun ls' hl' => ?_)
        refine lv_goto hx hb dL_law_2690 (tgt := 23) (by decide) ?_
        refine ih (i + 6) (by omega) (by omega) n ρ σX σM a g H locs ls' cells slots hI hP hD hS ?_ hbu
        have e6 : Int32.ofNat i + Int32.ofInt 6 = Int32.ofNat (i + 6) := by rw [Int32.ofNat_add]; rfl
        have hl2 : lv_has ls' 7 [(4, .int (Int32.ofNat i + Int32.ofInt 6)), (0, .ref b), (1, .ref (a 0)), (2, .ref (aM 0)), (3, .ref o)] := hl'
        rw [e6] at hl2
        exact lv_sb9 hl2 (by intro q hq; simp only [List.mem_cons, List.not_mem_nil, or_false] at hq ⊢; rcases hq with h | h | h | h | h <;> simp [h])
      obtain ⟨k, hk64, hk, hkI⟩ := and63 (xs i)
      have hg := hgo k (fun k => xs (i + k)) n ρ σX σM hI
      unfold Go at hg
      obtain ⟨g0, g1, g2, g3, g4, g5, g6, g7, g8, g9, g10, g11, g12, g13, g14, g15, g16, g17, g18, g19, g20, g21, g22, g23, g24, g25, g26, g27, g28, g29, g30, g31, g32, g33, g34, g35, g36, g37, g38, g39, g40, g41, g42, g43, g44, g45, g46, g47, g48, g49, g50, g51, g52, g53, g54, g55, g56⟩ := hg
      by_cases hk57 : k < 57
      · have hkk : k = 0 ∨ k = 1 ∨ k = 2 ∨ k = 3 ∨ k = 4 ∨ k = 5 ∨ k = 6 ∨ k = 7 ∨ k = 8 ∨ k = 9 ∨ k = 10 ∨ k = 11 ∨ k = 12 ∨ k = 13 ∨ k = 14 ∨ k = 15 ∨ k = 16 ∨ k = 17 ∨ k = 18 ∨ k = 19 ∨ k = 20 ∨ k = 21 ∨ k = 22 ∨ k = 23 ∨ k = 24 ∨ k = 25 ∨ k = 26 ∨ k = 27 ∨ k = 28 ∨ k = 29 ∨ k = 30 ∨ k = 31 ∨ k = 32 ∨ k = 33 ∨ k = 34 ∨ k = 35 ∨ k = 36 ∨ k = 37 ∨ k = 38 ∨ k = 39 ∨ k = 40 ∨ k = 41 ∨ k = 42 ∨ k = 43 ∨ k = 44 ∨ k = 45 ∨ k = 46 ∨ k = 47 ∨ k = 48 ∨ k = 49 ∨ k = 50 ∨ k = 51 ∨ k = 52 ∨ k = 53 ∨ k = 54 ∨ k = 55 ∨ k = 56 := by omega
        rcases hkk with h0 | h1 | h2 | h3 | h4 | h5 | h6 | h7 | h8 | h9 | h10 | h11 | h12 | h13 | h14 | h15 | h16 | h17 | h18 | h19 | h20 | h21 | h22 | h23 | h24 | h25 | h26 | h27 | h28 | h29 | h30 | h31 | h32 | h33 | h34 | h35 | h36 | h37 | h38 | h39 | h40 | h41 | h42 | h43 | h44 | h45 | h46 | h47 | h48 | h49 | h50 | h51 | h52 | h53 | h54 | h55 | h56
        · exact lv_tableIn hx hb dL_law_40 (by rw [hkI]; omega) (by rw [hkI]; omega) (off := 244) (tgt := 284) (by rw [hkI, h0]; rfl) (by decide) (gc_0 hl9 hI12 hLc hi6 hP hD hS hl hbu hKn (g0 h0))
        · exact lv_tableIn hx hb dL_law_40 (by rw [hkI]; omega) (by rw [hkI]; omega) (off := 317) (tgt := 357) (by rw [hkI, h1]; rfl) (by decide) (gc_1 hl9 hI12 hLc hi6 hP hD hS hl hbu hKn (g1 h1))
        · exact lv_tableIn hx hb dL_law_40 (by rw [hkI]; omega) (by rw [hkI]; omega) (off := 342) (tgt := 382) (by rw [hkI, h2]; rfl) (by decide) (gc_2 hl9 hI12 hLc hi6 hP hD hS hl hbu hKn (g2 h2))
        · exact lv_tableIn hx hb dL_law_40 (by rw [hkI]; omega) (by rw [hkI]; omega) (off := 355) (tgt := 395) (by rw [hkI, h3]; rfl) (by decide) (gc_3 hl9 hI12 hLc hi6 hP hD hS hl hbu hKn (g3 h3))
        · exact lv_tableIn hx hb dL_law_40 (by rw [hkI]; omega) (by rw [hkI]; omega) (off := 368) (tgt := 408) (by rw [hkI, h4]; rfl) (by decide) (gc_4 hl9 hI12 hLc hi6 hP hD hS hl hbu hKn (g4 h4))
        · exact lv_tableIn hx hb dL_law_40 (by rw [hkI]; omega) (by rw [hkI]; omega) (off := 381) (tgt := 421) (by rw [hkI, h5]; rfl) (by decide) (gc_5 hl9 hI12 hLc hi6 hP hD hS hl hbu hKn (g5 h5))
        · exact lv_tableIn hx hb dL_law_40 (by rw [hkI]; omega) (by rw [hkI]; omega) (off := 394) (tgt := 434) (by rw [hkI, h6]; rfl) (by decide) (gc_6 hl9 hI12 hLc hi6 hP hD hS hl hbu hKn (g6 h6))
        · exact lv_tableIn hx hb dL_law_40 (by rw [hkI]; omega) (by rw [hkI]; omega) (off := 419) (tgt := 459) (by rw [hkI, h7]; rfl) (by decide) (gc_7 hl9 hI12 hLc hi6 hP hD hS hl hbu hKn (g7 h7))
        · exact lv_tableIn hx hb dL_law_40 (by rw [hkI]; omega) (by rw [hkI]; omega) (off := 475) (tgt := 515) (by rw [hkI, h8]; rfl) (by decide) (gc_8 hl9 hI12 hLc hi6 hP hD hS hl hbu hKn (g8 h8))
        · exact lv_tableIn hx hb dL_law_40 (by rw [hkI]; omega) (by rw [hkI]; omega) (off := 531) (tgt := 571) (by rw [hkI, h9]; rfl) (by decide) (gc_9 hl9 hI12 hLc hi6 hP hD hS hl hbu hKn (g9 h9))
        · exact lv_tableIn hx hb dL_law_40 (by rw [hkI]; omega) (by rw [hkI]; omega) (off := 587) (tgt := 627) (by rw [hkI, h10]; rfl) (by decide) (gc_10 hl9 hI12 hLc hi6 hP hD hS hl hbu hKn (g10 h10))
        · exact lv_tableIn hx hb dL_law_40 (by rw [hkI]; omega) (by rw [hkI]; omega) (off := 655) (tgt := 695) (by rw [hkI, h11]; rfl) (by decide) (gc_11 hl9 hI12 hLc hi6 hP hD hS hl hbu hKn (g11 h11))
        · exact lv_tableIn hx hb dL_law_40 (by rw [hkI]; omega) (by rw [hkI]; omega) (off := 723) (tgt := 763) (by rw [hkI, h12]; rfl) (by decide) (gc_12 hl9 hI12 hLc hi6 hP hD hS hl hbu hKn (g12 h12))
        · exact lv_tableIn hx hb dL_law_40 (by rw [hkI]; omega) (by rw [hkI]; omega) (off := 779) (tgt := 819) (by rw [hkI, h13]; rfl) (by decide) (gc_13 hl9 hI12 hLc hi6 hP hD hS hl hbu hKn (g13 h13))
        · exact lv_tableIn hx hb dL_law_40 (by rw [hkI]; omega) (by rw [hkI]; omega) (off := 835) (tgt := 875) (by rw [hkI, h14]; rfl) (by decide) (gc_14 hl9 hI12 hLc hi6 hP hD hS hl hbu hKn (g14 h14))
        · exact lv_tableIn hx hb dL_law_40 (by rw [hkI]; omega) (by rw [hkI]; omega) (off := 860) (tgt := 900) (by rw [hkI, h15]; rfl) (by decide) (gc_15 hl9 hI12 hLc hi6 hP hD hS hl hbu hKn (g15 h15))
        · exact lv_tableIn hx hb dL_law_40 (by rw [hkI]; omega) (by rw [hkI]; omega) (off := 916) (tgt := 956) (by rw [hkI, h16]; rfl) (by decide) (gc_16 hl9 hI12 hLc hi6 hP hD hS hl hbu hKn (g16 h16))
        · exact lv_tableIn hx hb dL_law_40 (by rw [hkI]; omega) (by rw [hkI]; omega) (off := 972) (tgt := 1012) (by rw [hkI, h17]; rfl) (by decide) (gc_17 hl9 hI12 hLc hi6 hP hD hS hl hbu hKn (g17 h17))
        · exact lv_tableIn hx hb dL_law_40 (by rw [hkI]; omega) (by rw [hkI]; omega) (off := 985) (tgt := 1025) (by rw [hkI, h18]; rfl) (by decide) (gc_18 hl9 hI12 hLc hi6 hP hD hS hl hbu hKn (g18 h18))
        · exact lv_tableIn hx hb dL_law_40 (by rw [hkI]; omega) (by rw [hkI]; omega) (off := 1041) (tgt := 1081) (by rw [hkI, h19]; rfl) (by decide) (gc_19 hl9 hI12 hLc hi6 hP hD hS hl hbu hKn (g19 h19))
        · exact lv_tableIn hx hb dL_law_40 (by rw [hkI]; omega) (by rw [hkI]; omega) (off := 1109) (tgt := 1149) (by rw [hkI, h20]; rfl) (by decide) (gc_20 hl9 hI12 hLc hi6 hP hD hS hl hbu hKn (g20 h20))
        · exact lv_tableIn hx hb dL_law_40 (by rw [hkI]; omega) (by rw [hkI]; omega) (off := 1177) (tgt := 1217) (by rw [hkI, h21]; rfl) (by decide) (gc_21 hl9 hI12 hLc hi6 hP hD hS hl hbu hKn (g21 h21))
        · exact lv_tableIn hx hb dL_law_40 (by rw [hkI]; omega) (by rw [hkI]; omega) (off := 1245) (tgt := 1285) (by rw [hkI, h22]; rfl) (by decide) (gc_22 hl9 hI12 hLc hi6 hP hD hS hl hbu hKn (g22 h22))
        · exact lv_tableIn hx hb dL_law_40 (by rw [hkI]; omega) (by rw [hkI]; omega) (off := 1301) (tgt := 1341) (by rw [hkI, h23]; rfl) (by decide) (gc_23 hl9 hI12 hLc hi6 hP hD hS hl hbu hKn (g23 h23))
        · exact lv_tableIn hx hb dL_law_40 (by rw [hkI]; omega) (by rw [hkI]; omega) (off := 1357) (tgt := 1397) (by rw [hkI, h24]; rfl) (by decide) (gc_24 hl9 hI12 hLc hi6 hP hD hS hl hbu hKn (g24 h24))
        · exact lv_tableIn hx hb dL_law_40 (by rw [hkI]; omega) (by rw [hkI]; omega) (off := 1413) (tgt := 1453) (by rw [hkI, h25]; rfl) (by decide) (gc_25 hl9 hI12 hLc hi6 hP hD hS hl hbu hKn (g25 h25))
        · exact lv_tableIn hx hb dL_law_40 (by rw [hkI]; omega) (by rw [hkI]; omega) (off := 1469) (tgt := 1509) (by rw [hkI, h26]; rfl) (by decide) (gc_26 hl9 hI12 hLc hi6 hP hD hS hl hbu hKn (g26 h26))
        · exact lv_tableIn hx hb dL_law_40 (by rw [hkI]; omega) (by rw [hkI]; omega) (off := 1525) (tgt := 1565) (by rw [hkI, h27]; rfl) (by decide) (gc_27 hl9 hI12 hLc hi6 hP hD hS hl hbu hKn (g27 h27))
        · exact lv_tableIn hx hb dL_law_40 (by rw [hkI]; omega) (by rw [hkI]; omega) (off := 1581) (tgt := 1621) (by rw [hkI, h28]; rfl) (by decide) (gc_28 hl9 hI12 hLc hi6 hP hD hS hl hbu hKn (g28 h28))
        · exact lv_tableIn hx hb dL_law_40 (by rw [hkI]; omega) (by rw [hkI]; omega) (off := 1594) (tgt := 1634) (by rw [hkI, h29]; rfl) (by decide) (gc_29 hl9 hI12 hLc hi6 hP hD hS hl hbu hKn (g29 h29))
        · exact lv_tableIn hx hb dL_law_40 (by rw [hkI]; omega) (by rw [hkI]; omega) (off := 1607) (tgt := 1647) (by rw [hkI, h30]; rfl) (by decide) (gc_30 hl9 hI12 hLc hi6 hP hD hS hl hbu hKn (g30 h30))
        · exact lv_tableIn hx hb dL_law_40 (by rw [hkI]; omega) (by rw [hkI]; omega) (off := 1663) (tgt := 1703) (by rw [hkI, h31]; rfl) (by decide) (gc_31 hl9 hI12 hLc hi6 hP hD hS hl hbu hKn (g31 h31))
        · exact lv_tableIn hx hb dL_law_40 (by rw [hkI]; omega) (by rw [hkI]; omega) (off := 1676) (tgt := 1716) (by rw [hkI, h32]; rfl) (by decide) (gc_32 hl9 hI12 hLc hi6 hP hD hS hl hbu hKn (g32 h32))
        · exact lv_tableIn hx hb dL_law_40 (by rw [hkI]; omega) (by rw [hkI]; omega) (off := 1744) (tgt := 1784) (by rw [hkI, h33]; rfl) (by decide) (gc_33 hl9 hI12 hLc hi6 hP hD hS hl hbu hKn (g33 h33))
        · exact lv_tableIn hx hb dL_law_40 (by rw [hkI]; omega) (by rw [hkI]; omega) (off := 1769) (tgt := 1809) (by rw [hkI, h34]; rfl) (by decide) (gc_34 hl9 hI12 hLc hi6 hP hD hS hl hbu hKn (g34 h34))
        · exact lv_tableIn hx hb dL_law_40 (by rw [hkI]; omega) (by rw [hkI]; omega) (off := 1782) (tgt := 1822) (by rw [hkI, h35]; rfl) (by decide) (gc_35 hl9 hI12 hLc hi6 hP hD hS hl hbu hKn (g35 h35))
        · exact lv_tableIn hx hb dL_law_40 (by rw [hkI]; omega) (by rw [hkI]; omega) (off := 1838) (tgt := 1878) (by rw [hkI, h36]; rfl) (by decide) (gc_36 hl9 hI12 hLc hi6 hP hD hS hl hbu hKn (g36 h36))
        · exact lv_tableIn hx hb dL_law_40 (by rw [hkI]; omega) (by rw [hkI]; omega) (off := 1894) (tgt := 1934) (by rw [hkI, h37]; rfl) (by decide) (gc_37 hl9 hI12 hLc hi6 hP hD hS hl hbu hKn (g37 h37))
        · exact lv_tableIn hx hb dL_law_40 (by rw [hkI]; omega) (by rw [hkI]; omega) (off := 1950) (tgt := 1990) (by rw [hkI, h38]; rfl) (by decide) (gc_38 hl9 hI12 hLc hi6 hP hD hS hl hbu hKn (g38 h38))
        · exact lv_tableIn hx hb dL_law_40 (by rw [hkI]; omega) (by rw [hkI]; omega) (off := 1963) (tgt := 2003) (by rw [hkI, h39]; rfl) (by decide) (gc_39 hl9 hI12 hLc hi6 hP hD hS hl hbu hKn (g39 h39))
        · exact lv_tableIn hx hb dL_law_40 (by rw [hkI]; omega) (by rw [hkI]; omega) (off := 2000) (tgt := 2040) (by rw [hkI, h40]; rfl) (by decide) (gc_40 hl9 hI12 hLc hi6 hP hD hS hl hbu hKn (g40 h40))
        · exact lv_tableIn hx hb dL_law_40 (by rw [hkI]; omega) (by rw [hkI]; omega) (off := 2037) (tgt := 2077) (by rw [hkI, h41]; rfl) (by decide) (gc_41 hl9 hI12 hLc hi6 hP hD hS hl hbu hKn (g41 h41))
        · exact lv_tableIn hx hb dL_law_40 (by rw [hkI]; omega) (by rw [hkI]; omega) (off := 2050) (tgt := 2090) (by rw [hkI, h42]; rfl) (by decide) (gc_42 hl9 hI12 hLc hi6 hP hD hS hl hbu hKn (g42 h42))
        · exact lv_tableIn hx hb dL_law_40 (by rw [hkI]; omega) (by rw [hkI]; omega) (off := 2099) (tgt := 2139) (by rw [hkI, h43]; rfl) (by decide) (gc_43 hl9 hI12 hLc hi6 hP hD hS hl hbu hKn (g43 h43))
        · exact lv_tableIn hx hb dL_law_40 (by rw [hkI]; omega) (by rw [hkI]; omega) (off := 2148) (tgt := 2188) (by rw [hkI, h44]; rfl) (by decide) (gc_44 hl9 hI12 hLc hi6 hP hD hS hl hbu hKn (g44 h44))
        · exact lv_tableIn hx hb dL_law_40 (by rw [hkI]; omega) (by rw [hkI]; omega) (off := 2173) (tgt := 2213) (by rw [hkI, h45]; rfl) (by decide) (gc_45 hl9 hI12 hLc hi6 hP hD hS hl hbu hKn (g45 h45))
        · exact lv_tableIn hx hb dL_law_40 (by rw [hkI]; omega) (by rw [hkI]; omega) (off := 2186) (tgt := 2226) (by rw [hkI, h46]; rfl) (by decide) (gc_46 hl9 hI12 hLc hi6 hP hD hS hl hbu hKn (g46 h46))
        · exact lv_tableIn hx hb dL_law_40 (by rw [hkI]; omega) (by rw [hkI]; omega) (off := 2242) (tgt := 2282) (by rw [hkI, h47]; rfl) (by decide) (gc_47 hl9 hI12 hLc hi6 hP hD hS hl hbu hKn (g47 h47))
        · exact lv_tableIn hx hb dL_law_40 (by rw [hkI]; omega) (by rw [hkI]; omega) (off := 2298) (tgt := 2338) (by rw [hkI, h48]; rfl) (by decide) (gc_48 hl9 hI12 hLc hi6 hP hD hS hl hbu hKn (g48 h48))
        · exact lv_tableIn hx hb dL_law_40 (by rw [hkI]; omega) (by rw [hkI]; omega) (off := 2366) (tgt := 2406) (by rw [hkI, h49]; rfl) (by decide) (gc_49 hl9 hI12 hLc hi6 hP hD hS hl hbu hKn (g49 h49))
        · exact lv_tableIn hx hb dL_law_40 (by rw [hkI]; omega) (by rw [hkI]; omega) (off := 2434) (tgt := 2474) (by rw [hkI, h50]; rfl) (by decide) (gc_50 hl9 hI12 hLc hi6 hP hD hS hl hbu hKn (g50 h50))
        · exact lv_tableIn hx hb dL_law_40 (by rw [hkI]; omega) (by rw [hkI]; omega) (off := 2459) (tgt := 2499) (by rw [hkI, h51]; rfl) (by decide) (gc_51 hl9 hI12 hLc hi6 hP hD hS hl hbu hKn (g51 h51))
        · exact lv_tableIn hx hb dL_law_40 (by rw [hkI]; omega) (by rw [hkI]; omega) (off := 2472) (tgt := 2512) (by rw [hkI, h52]; rfl) (by decide) (gc_52 hl9 hI12 hLc hi6 hP hD hS hl hbu hKn (g52 h52))
        · exact lv_tableIn hx hb dL_law_40 (by rw [hkI]; omega) (by rw [hkI]; omega) (off := 2497) (tgt := 2537) (by rw [hkI, h53]; rfl) (by decide) (gc_53 hl9 hI12 hLc hi6 hP hD hS hl hbu hKn (g53 h53))
        · exact lv_tableIn hx hb dL_law_40 (by rw [hkI]; omega) (by rw [hkI]; omega) (off := 2510) (tgt := 2550) (by rw [hkI, h54]; rfl) (by decide) (gc_54 hl9 hI12 hLc hi6 hP hD hS hl hbu hKn (g54 h54))
        · exact lv_tableIn hx hb dL_law_40 (by rw [hkI]; omega) (by rw [hkI]; omega) (off := 2578) (tgt := 2618) (by rw [hkI, h55]; rfl) (by decide) (gc_55 hl9 hI12 hLc hi6 hP hD hS hl hbu hKn (g55 h55))
        · exact lv_tableIn hx hb dL_law_40 (by rw [hkI]; omega) (by rw [hkI]; omega) (off := 2634) (tgt := 2674) (by rw [hkI, h56]; rfl) (by decide) (gc_56 hl9 hI12 hLc hi6 hP hD hS hl hbu hKn (g56 h56))
      · exact lv_tableOut hx hb dL_law_40 (by rw [hkI]; omega) (tgt := 2687) (by decide) (hKn n ρ σX σM a g H locs ls cells slots hI hP hD hS hl ⟨by omega, by omega⟩)
end LAWL
