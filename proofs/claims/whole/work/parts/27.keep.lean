theorem dX1_keep_0 : decode cX1_keep 0 = .ok (.aload_n 0, 1) := by decide +kernel
theorem dX1_keep_1 : decode cX1_keep 1 = .ok (.getfield 11, 3) := by decide +kernel
theorem dX1_keep_4 : decode cX1_keep 4 = .ok (.aload_n 0, 1) := by decide +kernel
theorem dX1_keep_5 : decode cX1_keep 5 = .ok (.getfield 17, 3) := by decide +kernel
theorem dX1_keep_8 : decode cX1_keep 8 = .ok (.aaload, 1) := by decide +kernel
theorem dX1_keep_9 : decode cX1_keep 9 = .ok (.ifnonnull 19, 3) := by decide +kernel
theorem dX1_keep_12 : decode cX1_keep 12 = .ok (.aload_n 0, 1) := by decide +kernel
theorem dX1_keep_13 : decode cX1_keep 13 = .ok (.getfield 11, 3) := by decide +kernel
theorem dX1_keep_16 : decode cX1_keep 16 = .ok (.aload_n 0, 1) := by decide +kernel
theorem dX1_keep_17 : decode cX1_keep 17 = .ok (.getfield 17, 3) := by decide +kernel
theorem dX1_keep_20 : decode cX1_keep 20 = .ok (.new 9, 3) := by decide +kernel
theorem dX1_keep_23 : decode cX1_keep 23 = .ok (.dup, 1) := by decide +kernel
theorem dX1_keep_24 : decode cX1_keep 24 = .ok (.invokespecial 21, 3) := by decide +kernel
theorem dX1_keep_27 : decode cX1_keep 27 = .ok (.aastore, 1) := by decide +kernel
theorem dX1_keep_28 : decode cX1_keep 28 = .ok (.aload_n 0, 1) := by decide +kernel
theorem dX1_keep_29 : decode cX1_keep 29 = .ok (.getfield 11, 3) := by decide +kernel
theorem dX1_keep_32 : decode cX1_keep 32 = .ok (.aload_n 0, 1) := by decide +kernel
theorem dX1_keep_33 : decode cX1_keep 33 = .ok (.getfield 17, 3) := by decide +kernel
theorem dX1_keep_36 : decode cX1_keep 36 = .ok (.aaload, 1) := by decide +kernel
theorem dX1_keep_37 : decode cX1_keep 37 = .ok (.aload_n 1, 1) := by decide +kernel
theorem dX1_keep_38 : decode cX1_keep 38 = .ok (.invokevirtual 22, 3) := by decide +kernel
theorem dX1_keep_41 : decode cX1_keep 41 = .ok (.aload_n 0, 1) := by decide +kernel
theorem dX1_keep_42 : decode cX1_keep 42 = .ok (.aload_n 0, 1) := by decide +kernel
theorem dX1_keep_43 : decode cX1_keep 43 = .ok (.getfield 17, 3) := by decide +kernel
theorem dX1_keep_46 : decode cX1_keep 46 = .ok (.iconst 1, 1) := by decide +kernel
theorem dX1_keep_47 : decode cX1_keep 47 = .ok (.iadd, 1) := by decide +kernel
theorem dX1_keep_48 : decode cX1_keep 48 = .ok (.bipush 12, 2) := by decide +kernel
theorem dX1_keep_50 : decode cX1_keep 50 = .ok (.irem, 1) := by decide +kernel
theorem dX1_keep_51 : decode cX1_keep 51 = .ok (.putfield 17, 3) := by decide +kernel
theorem dX1_keep_54 : decode cX1_keep 54 = .ok (.aload_n 0, 1) := by decide +kernel
theorem dX1_keep_55 : decode cX1_keep 55 = .ok (.aload_n 0, 1) := by decide +kernel
theorem dX1_keep_56 : decode cX1_keep 56 = .ok (.getfield 26, 3) := by decide +kernel
theorem dX1_keep_59 : decode cX1_keep 59 = .ok (.iconst 1, 1) := by decide +kernel
theorem dX1_keep_60 : decode cX1_keep 60 = .ok (.iadd, 1) := by decide +kernel
theorem dX1_keep_61 : decode cX1_keep 61 = .ok (.bipush 12, 2) := by decide +kernel
theorem dX1_keep_63 : decode cX1_keep 63 = .ok (.invokestatic 29, 3) := by decide +kernel
theorem dX1_keep_66 : decode cX1_keep 66 = .ok (.putfield 26, 3) := by decide +kernel
theorem dX1_keep_69 : decode cX1_keep 69 = .ok (.return_, 1) := by decide +kernel
theorem dX1_restore_0 : decode cX1_restore 0 = .ok (.aload_n 0, 1) := by decide +kernel
theorem dX1_restore_1 : decode cX1_restore 1 = .ok (.getfield 17, 3) := by decide +kernel
theorem dX1_restore_4 : decode cX1_restore 4 = .ok (.bipush 12, 2) := by decide +kernel
theorem dX1_restore_6 : decode cX1_restore 6 = .ok (.iadd, 1) := by decide +kernel
theorem dX1_restore_7 : decode cX1_restore 7 = .ok (.iconst 1, 1) := by decide +kernel
theorem dX1_restore_8 : decode cX1_restore 8 = .ok (.isub, 1) := by decide +kernel
theorem dX1_restore_9 : decode cX1_restore 9 = .ok (.bipush 12, 2) := by decide +kernel
theorem dX1_restore_11 : decode cX1_restore 11 = .ok (.irem, 1) := by decide +kernel
theorem dX1_restore_12 : decode cX1_restore 12 = .ok (.istore_n 2, 1) := by decide +kernel
theorem dX1_restore_13 : decode cX1_restore 13 = .ok (.aload_n 0, 1) := by decide +kernel
theorem dX1_restore_14 : decode cX1_restore 14 = .ok (.getfield 11, 3) := by decide +kernel
theorem dX1_restore_17 : decode cX1_restore 17 = .ok (.iload_n 2, 1) := by decide +kernel
theorem dX1_restore_18 : decode cX1_restore 18 = .ok (.aaload, 1) := by decide +kernel
theorem dX1_restore_19 : decode cX1_restore 19 = .ok (.astore_n 3, 1) := by decide +kernel
theorem dX1_restore_20 : decode cX1_restore 20 = .ok (.aload_n 0, 1) := by decide +kernel
theorem dX1_restore_21 : decode cX1_restore 21 = .ok (.getfield 26, 3) := by decide +kernel
theorem dX1_restore_24 : decode cX1_restore 24 = .ok (.ifCond .eq 7, 3) := by decide +kernel
theorem dX1_restore_27 : decode cX1_restore 27 = .ok (.aload_n 3, 1) := by decide +kernel
theorem dX1_restore_28 : decode cX1_restore 28 = .ok (.ifnonnull 5, 3) := by decide +kernel
theorem dX1_restore_31 : decode cX1_restore 31 = .ok (.iconst 0, 1) := by decide +kernel
theorem dX1_restore_32 : decode cX1_restore 32 = .ok (.ireturn, 1) := by decide +kernel
theorem dX1_restore_33 : decode cX1_restore 33 = .ok (.aload_n 1, 1) := by decide +kernel
theorem dX1_restore_34 : decode cX1_restore 34 = .ok (.aload_n 3, 1) := by decide +kernel
theorem dX1_restore_35 : decode cX1_restore 35 = .ok (.invokevirtual 22, 3) := by decide +kernel
theorem dX1_restore_38 : decode cX1_restore 38 = .ok (.aload_n 0, 1) := by decide +kernel
theorem dX1_restore_39 : decode cX1_restore 39 = .ok (.iload_n 2, 1) := by decide +kernel
theorem dX1_restore_40 : decode cX1_restore 40 = .ok (.putfield 17, 3) := by decide +kernel
theorem dX1_restore_43 : decode cX1_restore 43 = .ok (.aload_n 0, 1) := by decide +kernel
theorem dX1_restore_44 : decode cX1_restore 44 = .ok (.dup, 1) := by decide +kernel
theorem dX1_restore_45 : decode cX1_restore 45 = .ok (.getfield 26, 3) := by decide +kernel
theorem dX1_restore_48 : decode cX1_restore 48 = .ok (.iconst 1, 1) := by decide +kernel
theorem dX1_restore_49 : decode cX1_restore 49 = .ok (.isub, 1) := by decide +kernel
theorem dX1_restore_50 : decode cX1_restore 50 = .ok (.putfield 26, 3) := by decide +kernel
theorem dX1_restore_53 : decode cX1_restore 53 = .ok (.iconst 1, 1) := by decide +kernel
theorem dX1_restore_54 : decode cX1_restore 54 = .ok (.ireturn, 1) := by decide +kernel
theorem wq_199 : Cond.fieldLink "ForgeScheduler$Changes" 17 "ForgeScheduler$Changes" "next" "I" ∈ gtb := List.mem_filter.mpr ⟨List.mem_of_getElem? (i := 199) (by decide +kernel), rfl⟩
theorem wq_724 : Cond.code ⟨"ForgeScheduler$Changes", "keep", "(LForgeScheduler$Forge;)V"⟩ prog_3_method_2_code 2 none ∈ gtb := List.mem_filter.mpr ⟨List.mem_of_getElem? (i := 724) (by decide +kernel), rfl⟩
theorem wq_725 : Cond.methodLink "ForgeScheduler$Changes" 21 ⟨"ForgeScheduler$Forge", "<init>", "()V"⟩ ∈ gtb := List.mem_filter.mpr ⟨List.mem_of_getElem? (i := 725) (by decide +kernel), rfl⟩
theorem wq_726 : Cond.methodLink "ForgeScheduler$Changes" 22 ⟨"ForgeScheduler$Forge", "copyFrom", "(LForgeScheduler$Forge;)V"⟩ ∈ gtb := List.mem_filter.mpr ⟨List.mem_of_getElem? (i := 726) (by decide +kernel), rfl⟩
theorem wq_727 : Cond.methodLink "ForgeScheduler$Changes" 29 ⟨"java/lang/Math", "min", "(II)I"⟩ ∈ gtb := List.mem_filter.mpr ⟨List.mem_of_getElem? (i := 727) (by decide +kernel), rfl⟩
theorem wq_766 : Cond.code ⟨"ForgeScheduler$Changes", "restore", "(LForgeScheduler$Forge;)Z"⟩ prog_3_method_3_code 4 (some .boolean) ∈ gtb := List.mem_filter.mpr ⟨List.mem_of_getElem? (i := 766) (by decide +kernel), rfl⟩
noncomputable def t_K4 : Tbl := [(41, s_al 42 0), (42, s_al 43 0), (43, s_gf 46 layX 1 1), (46, s_ic 47 1), (47, s_b 48 (fun x y => x + y)), (48, s_ic 50 12), (50, s_bd 51 (fun x y => x - x / y * y)), (51, s_pf 54 layX 1 1), (54, s_al 55 0), (55, s_al 56 0), (56, s_gf 59 layX 1 2), (59, s_ic 60 1), (60, s_b 61 (fun x y => x + y)), (61, s_ic 63 12), (63, s_m 66 (fun x y => if y < x then y else x)), (66, s_pf 69 layX 1 2), (69, s_vr)]
theorem ok_K4 (l : Launch) : Ok l RX1 cX1_keep 2 2 none layX t_K4 :=
  Ok.cons (so_aload_n dX1_keep_41 rfl rfl) <|
  Ok.cons (so_aload_n dX1_keep_42 rfl rfl) <|
  Ok.cons (so_gf (C := RX1) (T := TX1) (N := 3) inGX1 rfl (by decide) wq_199 rfl dX1_keep_43 rfl) <|
  Ok.cons (so_iconst dX1_keep_46 (by decide) rfl) <|
  Ok.cons (so_iadd dX1_keep_47 rfl) <|
  Ok.cons (so_bipush dX1_keep_48 (by decide) rfl) <|
  Ok.cons (so_irem dX1_keep_50 rfl) <|
  Ok.cons (so_pf (C := RX1) (T := TX1) (N := 3) inGX1 tyX1_ok nmX1 rfl (by decide) wq_199 rfl rfl rfl dX1_keep_51 rfl) <|
  Ok.cons (so_aload_n dX1_keep_54 rfl rfl) <|
  Ok.cons (so_aload_n dX1_keep_55 rfl rfl) <|
  Ok.cons (so_gf (C := RX1) (T := TX1) (N := 3) inGX1 rfl (by decide) wq_200 rfl dX1_keep_56 rfl) <|
  Ok.cons (so_iconst dX1_keep_59 (by decide) rfl) <|
  Ok.cons (so_iadd dX1_keep_60 rfl) <|
  Ok.cons (so_bipush dX1_keep_61 (by decide) rfl) <|
  Ok.cons (so_min (by decide) wq_727 wq_408 wq_96 wc_min dX1_keep_63 rfl) <|
  Ok.cons (so_pf (C := RX1) (T := TX1) (N := 3) inGX1 tyX1_ok nmX1 rfl (by decide) wq_200 rfl rfl rfl dX1_keep_66 rfl) <|
  Ok.cons (so_vr rfl dX1_keep_69) <| Ok.nil
def kS (σ : Mm) : Mm := wr (wr σ 1 1 (σ 1 1 + 1 - (σ 1 1 + 1) / 12 * 12)) 1 2 (if 12 < (wr σ 1 1 (σ 1 1 + 1 - (σ 1 1 + 1) / 12 * 12)) 1 2 + 1 then 12 else (wr σ 1 1 (σ 1 1 + 1 - (σ 1 1 + 1) / 12 * 12)) 1 2 + 1)
theorem rn_K4 (σ : Mm) : rn t_K4 [] 1 41 [(0, .inr (.inl 1)), (1, .inr (.inl 32))] [] σ = some (some none, kS σ) := by
  show (if (12 : Int32) = 0 then none else (if ([.inr (.inl 1)] : List Vv).length ≤ 8 then some (some none, kS σ) else none)) = _
  rw [if_neg (by decide), if_pos (by decide)]
theorem wgo_cong {z : Nat → ClassId} {a a' : Nat → Nat} {σ : Mm} {B : Nat} (ha : ∀ j, j < B → a' j = a j) : ∀ (lay : List Shp) (k : Nat), k + lay.length ≤ B → lay.all (fun sh => match sh with
    | .inl _ => true
    | .inr o => o.2.all (fun x => match x with
      | none => true
      | some c => decide (c < B))) = true → wgo z a' σ k lay = wgo z a σ k lay
  | [], k, _, _ => rfl
  | sh :: lay, k, hk, h => by
    simp only [List.all_cons, Bool.and_eq_true, List.length_cons] at h hk
    unfold wgo
    rw [wgo_cong ha lay (k + 1) (by omega) h.2, ha k (by omega)]
    congr 2
    rcases sh with q | o
    · rfl
    · show Sum.inr (o.1, fgo a' (σ k) 0 o.2) = Sum.inr (o.1, fgo a (σ k) 0 o.2)
      congr 2
      apply List.ext_getElem?
      intro j
      rw [fgo_get, fgo_get]
      cases hj : o.2[j]? with
      | none => rfl
      | some x =>
        have h9 := List.all_eq_true.mp h.1 x (List.mem_of_getElem? hj)
        cases x with
        | none => rfl
        | some c => simp only [decide_eq_true_eq] at h9; simp only [Option.map_some, fv, ha c h9]
theorem wX_cong {z : Nat → ClassId} {a a' : Nat → Nat} {σ : Mm} {tl : va_W} (ha : ∀ j, j < 69 → a' j = a j) : wT z layX a' tl σ = wT z layX a tl σ := by
  rw [wT_go, wT_go, wgo_cong ha layX 0 (by decide +kernel) (by decide +kernel)]
def exA (a a9 : Nat → Nat) (B : Nat) : Nat → Nat := fun j => if j < B then a j else a9 (j - B)
theorem exA_lt {a a9 : Nat → Nat} {B j : Nat} (h : j < B) : exA a a9 B j = a j := if_pos h
theorem exA_ge {a a9 : Nat → Nat} {B j : Nat} : exA a a9 B (B + j) = a9 j := by
  unfold exA
  rw [if_neg (by omega), Nat.add_sub_cancel_left]
theorem clampI {i : Nat} (hi : i < 12) : (Int32.ofNat i).toNatClampNeg = i ∧ vp_in (Int32.ofNat i) 12 := by
  have h : ∀ i : Nat, i < 12 → (Int32.ofNat i).toNatClampNeg = i ∧ ¬ (Int32.ofNat i) < 0 := by decide
  obtain ⟨h1, h2⟩ := h i hi
  refine ⟨h1, ?_⟩
  rintro (h3 | h3)
  · exact h2 h3
  · rw [h1] at h3; omega
theorem xt_no {p : Program} {l : Launch} {y : MethodName} {cc : ByteArray} {nL : Nat} {rt : Option FieldType} {G : List Cond} {rm : Room} {e : Env} {s : State} {m : MethodId} {args : Array Value} {below : List Frame} {meth : Method} {c : Code} {s₁ : State} (B : BodyLoose p l y (headSpec (.code y cc nL rt :: G) rm) cc nL rt e s m args below meth c s₁) (hat : ∀ w ∈ (.code y cc nL rt :: G : List Cond), w.before args s = true) : ∀ x ∈ c.exceptionTable.toList, False := by
  obtain ⟨meth9, c9, h1, h2, -, -, -, -, h7, -⟩ := Cond.code_spec B.named (hat _ List.mem_cons_self)
  cases Option.some.inj (h1.symm.trans B.method)
  cases Option.some.inj (h2.symm.trans (Stand.of_body B).code)
  intro x hx
  rw [Array.isEmpty_iff.mp h7] at hx
  cases hx
theorem A_z0 {ws : va_W} {z0 sz : Nat} (hD0 : va_D (fun q => z0 ≤ q) ws) (hz : z0 ≤ sz) : ∀ q, va_A ws sz q → z0 ≤ q := by
  rintro q (⟨k9, e9, hk9⟩ | h9)
  · exact hD0.2 k9 _ hk9
  · exact Nat.le_trans hz h9
section KEEP
variable {p : Program} {l : Launch} {e : Env} {R : Room} {s : State} {m : MethodId} {args : Array Value} {below : List Frame} {meth : Method} {c : Code} {D : va_G} {z : Nat → ClassId} {ts : Nat → Nat} {z0 : Nat} {a : Nat → Nat} {A : Nat → Prop} {H : Heap} {locs : List Loc} {ls : Array Slot} {nc ns n i : Nat} {σ : Mm} {ρ : Nat → Mm}
theorem keep_28 (hM : Fm p R s m args meth c D z ts z0 A RX1 cX1_keep 2 2 none) {a0 : Nat → Nat} {n0 : Nat} (hag : ∀ j, j < 69 + 11 * n0 → a j = a0 j) (hi : i < n) (hi12 : i < 12) (hnx : σ 1 1 = Int32.ofNat i) (hP : va_P D vwCl (wT z layX a (ktl z a n ρ) σ) H) (hD : va_D A (wT z layX a (ktl z a n ρ) σ)) (hS : va_S A s.heap H locs) (hl : lv_has ls 2 [(0, .ref (a 1)), (1, .ref (a 32))]) (hnn : nc ≤ R.cells ∧ ns ≤ R.slots) :
    W p l e R s m args below meth c H locs nc ns (MQ below (Qk D z n (upR ρ i (cpF (ρ i) (fun c => σ (32 + c)))) (kS σ) none a0 n0 A) args s nc ns A) (F0 m 28 ls []) := by
  obtain ⟨⟨hx, hb, hml, hown, hts, hK, hA, hA0, hSt⟩, hlk, hr, hR1, hR2, hxt⟩ := id hM
  have hg : (wT z layX a (ktl z a n ρ) σ)[1]? = some (a 1, .inr (1, [.ref (a 68), .int (σ 1 1), .int (σ 1 2)])) := wT_get (k := 1) (sh := .inr (1, [some 68, none, none])) rfl
  refine lv_aload_n hx hb dX1_keep_28 rfl (lv_at hl 0 rfl) ?_
  refine va_get (D := D) (ci := 1) (v := .ref (a 68)) (C := RX1) (T := TX1) (N := 3) hx hb hts inGX1 hown hK hP 1 hg rfl 0 (by decide) (hts _ wq_198) (fun _ h9 => h9) rfl dX1_keep_29 ?_
  refine lv_aload_n hx hb dX1_keep_32 rfl (lv_at hl 0 rfl) ?_
  refine va_get (D := D) (ci := 1) (v := .int (σ 1 1)) (C := RX1) (T := TX1) (N := 3) hx hb hts inGX1 hown hK hP 1 hg rfl 1 (by decide) (hts _ wq_199) (fun _ h9 => h9) rfl dX1_keep_33 ?_
  obtain ⟨hcl, hvp⟩ := clampI hi12
  refine va_aldq hx hb hK hP 68 4 k68 rfl (i := σ 1 1) (by rw [hnx]; exact hvp) dX1_keep_36 ?_
  rw [hnx, hcl, if_pos hi]
  refine lv_aload_n hx hb dX1_keep_37 rfl (lv_at hl 1 rfl) ?_
  obtain ⟨Y, hY, -⟩ := k_perm (z := z) (a := a) (ρ := ρ) (σ := σ) hi
  have hp0 := hY (ρ i)
  rw [upR_self] at hp0
  refine cp_go (index := 22) (a1 := fun c => a (69 + 11 * i + c)) (a2 := sh32 a) (own := RX1) (nL := 2) (rest := []) hM.1 (P_perm hp0 hP) (D_perm hp0 hD) hS wq_726 ⟨by omega, by omega⟩ hl.1 (by decide) dX1_keep_38 hnn (fun H1 locs1 hP1 hS1 => ?_)
  have hp1 := hY (cpF (ρ i) (fun c => σ (32 + c)))
  have hP2 := P_perm hp1.symm hP1
  have hD2 : va_D A (wT z layX a (ktl z a n (upR ρ i (cpF (ρ i) (fun c => σ (32 + c))))) σ) := D_perm hp1.symm (va_D_fst (by rw [List.map_append, wT_len (ρ i) (cpF (ρ i) (fun c => σ (32 + c))), ← List.map_append]) (D_perm hp0 hD))
  refine W_q (Q1 := Qo below args s D z ts layX a (ktl z a n (upR ρ i (cpF (ρ i) (fun c => σ (32 + c))))) A (some none, kS σ) nc ns) (fun t h => ?_) (rn_ok [] (ok_K4 l) (hM.fx hD2) (Q := Qo below args s D z ts layX a (ktl z a n (upR ρ i (cpF (ρ i) (fun c => σ (32 + c))))) A (some none, kS σ)) (fun _ _ _ _ h => h) (fun h => by cases h) 1 41 [(0, .inr (.inl 1)), (1, .inr (.inl 32))] [] σ (rn_K4 σ) H1 locs1 ls nc ns hnn hP2 hS1 hl)
  obtain ⟨oc, g1, g2, ⟨g3, g4, g5⟩, g6⟩ := h
  exact ⟨oc, g1, g2, ⟨⟨a, g3, hag, g4, va_D_fst (wT_len σ (kS σ)) hD2⟩, g5⟩, g6⟩
theorem k_new {a9 : Nat → Nat} (hi : i = n) : (wT z layX a (ktl z a n ρ) σ ++ wT z layF a9 [] mmF).set 68 (a 68, .inl (z 4, 12, .inr (.inr (.inr (.inr (va_up (fun j => if j < n then some (a (69 + 11 * j)) else none) i (some (a9 0)))))))) =
    wT z layX (exA a a9 (69 + 11 * n)) (ktl z (exA a a9 (69 + 11 * n)) (n + 1) (upR ρ n mmF)) σ := by
  subst hi
  rw [wX_cong (a := a) (fun j hj => exA_lt (by omega))]
  have hl : (wG z layX a σ).length = 68 := by simp [wG, layX]
  have e1 : kcell z (exA a a9 (69 + 11 * i)) (i + 1) = (a 68, .inl (z 4, 12, .inr (.inr (.inr (.inr (va_up (fun j => if j < i then some (a (69 + 11 * j)) else none) i (some (a9 0)))))))) := by
    have hfun : (fun j => if j < i + 1 then some (exA a a9 (69 + 11 * i) (69 + 11 * j)) else none) = va_up (fun j => if j < i then some (a (69 + 11 * j)) else none) i (some (a9 0)) := by
      funext j
      unfold va_up
      by_cases h1 : j = i
      · subst h1
        have h9 := exA_ge (a := a) (a9 := a9) (B := 69 + 11 * j) (j := 0)
        rw [Nat.add_zero] at h9
        rw [if_pos (by omega), h9, if_pos rfl]
      · rw [if_neg h1]
        show _ = (if j < i then some (a (69 + 11 * j)) else none)
        by_cases h2 : j < i
        · rw [if_pos (by omega), if_pos h2, exA_lt (by omega)]
        · rw [if_neg (by omega), if_neg h2]
    unfold kcell
    rw [exA_lt (by omega), hfun]
  have e2 : kfs z (exA a a9 (69 + 11 * i)) (upR ρ i mmF) (i + 1) = kfs z a ρ i ++ wT z layF a9 [] mmF := by
    show kfs z _ _ i ++ wT z layF _ [] _ = _
    rw [kfs_cong (a := a) (ρ := ρ) i (fun j hj => exA_lt hj) (fun j hj => by unfold upR; rw [if_neg (by omega)])]
    have e3 : (fun c => exA a a9 (69 + 11 * i) (69 + 11 * i + c)) = a9 := by
      funext c
      exact exA_ge
    rw [e3, show upR ρ i mmF i = mmF from if_pos rfl]
  show (wG z layX a σ ++ (kcell z a i :: kfs z a ρ i) ++ wT z layF a9 [] mmF).set 68 _ = wG z layX a σ ++ (kcell z (exA a a9 (69 + 11 * i)) (i + 1) :: kfs z (exA a a9 (69 + 11 * i)) (upR ρ i mmF) (i + 1))
  rw [e1, e2, List.append_assoc, List.set_append_right _ _ (by omega), hl]
  rfl
end KEEP
theorem ci_keep0 (l : Launch) (D : va_G) (z : Nat → ClassId) (ts : Nat → Nat) (z0 sz : Nat) (a : Nat → Nat) (n i : Nat) (ρ : Nat → Mm) (σ : Mm) (hi : i < n) (hi12 : i < 12) (hnx : σ 1 1 = Int32.ofNat i) : Met l yX1_keep (.code yX1_keep cX1_keep 2 none :: gtb) (rmD 2 0 0) (va_Pc [.ref (a 1), .ref (a 32)] (Pr D z ts z0 (wT z layX a (ktl z a n ρ) σ) sz)) (Qk D z n (upR ρ i (cpF (ρ i) (fun c => σ (32 + c)))) (kS σ) none a n (va_A (wT z layX a (ktl z a n ρ) σ) sz)) 0 0 (va_A (wT z layX a (ktl z a n ρ) σ) sz) := by
  refine Met.ofW (cc := cX1_keep) (maxL := 2) (ret := none) (by decide) rfl ?_
  intro p e s m args below meth c s₁ B hml hv
  obtain ⟨rfl, hsz, hP, hK, hD0, hz, hSt⟩ := hv
  have hat := atoms_spec (ws := .code yX1_keep cX1_keep 2 none :: gtb) B.pre
  have hxt := xt_no B hat
  subst hsz
  have hM : Fm p (rmD 2 0 0) s m [.ref (a 1), .ref (a 32)].toArray meth c D z ts z0 (va_A (wT z layX a (ktl z a n ρ) σ) s.heap.size) RX1 cX1_keep 2 2 none := ⟨⟨B.exec, B.bytes, hml, findClass_of_methodNamed B.named, fun w hw => hat w (List.mem_cons_of_mem _ hw), hK, fun q h => Or.inr h, A_z0 hD0 hz, hSt⟩, B.notSynchronized, B.returns, Nat.le_refl _, Nat.le_refl _, hxt⟩
  have hD := hD0.self (sz := s.heap.size)
  obtain ⟨⟨hx, hb, hml, hown, hts, hK, hA, hA0, hSt⟩, hlk, hr, hR1, hR2, hxt⟩ := id hM
  have hl := lv_entry ([.ref (a 1), .ref (a 32)]) (n := 2) (Nat.le_of_ble_eq_true rfl)
  rw [lg_entry_eq]
  generalize (lg_sl ([.ref (a 1), .ref (a 32)]) ++ List.replicate (2 - (lg_sl ([.ref (a 1), .ref (a 32)])).length) Slot.unset).toArray = ls at hl ⊢
  have hl : lv_has ls 2 [(0, .ref (a 1)), (1, .ref (a 32))] := hl
  have hg : (wT z layX a (ktl z a n ρ) σ)[1]? = some (a 1, .inr (1, [.ref (a 68), .int (σ 1 1), .int (σ 1 2)])) := wT_get (k := 1) (sh := .inr (1, [some 68, none, none])) rfl
  refine lv_aload_n hx hb dX1_keep_0 rfl (lv_at hl 0 rfl) ?_
  refine va_get (D := D) (ci := 1) (v := .ref (a 68)) (C := RX1) (T := TX1) (N := 3) hx hb hts inGX1 hown hK hP 1 hg rfl 0 (by decide) (hts _ wq_198) (fun _ h9 => h9) rfl dX1_keep_1 ?_
  refine lv_aload_n hx hb dX1_keep_4 rfl (lv_at hl 0 rfl) ?_
  refine va_get (D := D) (ci := 1) (v := .int (σ 1 1)) (C := RX1) (T := TX1) (N := 3) hx hb hts inGX1 hown hK hP 1 hg rfl 1 (by decide) (hts _ wq_199) (fun _ h9 => h9) rfl dX1_keep_5 ?_
  obtain ⟨hcl, hvp⟩ := clampI hi12
  refine va_aldq hx hb hK hP 68 4 k68 rfl (i := σ 1 1) (by rw [hnx]; exact hvp) dX1_keep_8 ?_
  rw [hnx, hcl, if_pos hi]
  refine lv_ifnonnull hx hb dX1_keep_9 (tgt := 28) (by decide) ?_
  exact keep_28 hM (fun _ _ => rfl) hi hi12 hnx hP hD va_S.rf hl ⟨Nat.le_refl _, Nat.le_refl _⟩
theorem ci_keep1 (l : Launch) (D : va_G) (z : Nat → ClassId) (ts : Nat → Nat) (z0 sz : Nat) (a : Nat → Nat) (n : Nat) (ρ : Nat → Mm) (σ : Mm) (hi12 : n < 12) (hnx : σ 1 1 = Int32.ofNat n) : Met l yX1_keep (.code yX1_keep cX1_keep 2 none :: gtb) (rmD 2 11 111) (va_Pc [.ref (a 1), .ref (a 32)] (Pr D z ts z0 (wT z layX a (ktl z a n ρ) σ) sz)) (Qk D z (n + 1) (upR (upR ρ n mmF) n (cpF (upR ρ n mmF n) (fun c => σ (32 + c)))) (kS σ) none a n (va_A (wT z layX a (ktl z a n ρ) σ) sz)) 11 111 (va_A (wT z layX a (ktl z a n ρ) σ) sz) := by
  refine Met.ofW (cc := cX1_keep) (maxL := 2) (ret := none) (by decide) rfl ?_
  intro p e s m args below meth c s₁ B hml hv
  obtain ⟨rfl, hsz, hP, hK, hD0, hz, hSt⟩ := hv
  have hat := atoms_spec (ws := .code yX1_keep cX1_keep 2 none :: gtb) B.pre
  have hxt := xt_no B hat
  subst hsz
  have hM : Fm p (rmD 2 11 111) s m [.ref (a 1), .ref (a 32)].toArray meth c D z ts z0 (va_A (wT z layX a (ktl z a n ρ) σ) s.heap.size) RX1 cX1_keep 2 2 none := ⟨⟨B.exec, B.bytes, hml, findClass_of_methodNamed B.named, fun w hw => hat w (List.mem_cons_of_mem _ hw), hK, fun q h => Or.inr h, A_z0 hD0 hz, hSt⟩, B.notSynchronized, B.returns, Nat.le_refl _, Nat.le_refl _, hxt⟩
  have hD := hD0.self (sz := s.heap.size)
  obtain ⟨⟨hx, hb, hml, hown, hts, hK, hA, hA0, hSt⟩, hlk, hr, hR1, hR2, hxt⟩ := id hM
  have hl := lv_entry ([.ref (a 1), .ref (a 32)]) (n := 2) (Nat.le_of_ble_eq_true rfl)
  rw [lg_entry_eq]
  generalize (lg_sl ([.ref (a 1), .ref (a 32)]) ++ List.replicate (2 - (lg_sl ([.ref (a 1), .ref (a 32)])).length) Slot.unset).toArray = ls at hl ⊢
  have hl : lv_has ls 2 [(0, .ref (a 1)), (1, .ref (a 32))] := hl
  have hS : va_S (va_A (wT z layX a (ktl z a n ρ) σ) s.heap.size) s.heap s.heap [] := va_S.rf
  generalize hAe : va_A (wT z layX a (ktl z a n ρ) σ) s.heap.size = A at hD hA0 hM hA hS ⊢
  have hg : (wT z layX a (ktl z a n ρ) σ)[1]? = some (a 1, .inr (1, [.ref (a 68), .int (σ 1 1), .int (σ 1 2)])) := wT_get (k := 1) (sh := .inr (1, [some 68, none, none])) rfl
  refine lv_aload_n hx hb dX1_keep_0 rfl (lv_at hl 0 rfl) ?_
  refine va_get (D := D) (ci := 1) (v := .ref (a 68)) (C := RX1) (T := TX1) (N := 3) hx hb hts inGX1 hown hK hP 1 hg rfl 0 (by decide) (hts _ wq_198) (fun _ h9 => h9) rfl dX1_keep_1 ?_
  refine lv_aload_n hx hb dX1_keep_4 rfl (lv_at hl 0 rfl) ?_
  refine va_get (D := D) (ci := 1) (v := .int (σ 1 1)) (C := RX1) (T := TX1) (N := 3) hx hb hts inGX1 hown hK hP 1 hg rfl 1 (by decide) (hts _ wq_199) (fun _ h9 => h9) rfl dX1_keep_5 ?_
  obtain ⟨hcl, hvp⟩ := clampI hi12
  have hvp1 : vp_in (σ 1 1) 12 := by rw [hnx]; exact hvp
  refine va_aldq hx hb hK hP 68 4 k68 rfl (i := σ 1 1) hvp1 dX1_keep_8 ?_
  rw [hnx, hcl, if_neg (Nat.lt_irrefl _)]
  refine lv_ifnonnullN hx hb dX1_keep_9 ?_
  refine lv_aload_n hx hb dX1_keep_12 rfl (lv_at hl 0 rfl) ?_
  refine va_get (D := D) (ci := 1) (v := .ref (a 68)) (C := RX1) (T := TX1) (N := 3) hx hb hts inGX1 hown hK hP 1 hg rfl 0 (by decide) (hts _ wq_198) (fun _ h9 => h9) rfl dX1_keep_13 ?_
  refine lv_aload_n hx hb dX1_keep_16 rfl (lv_at hl 0 rfl) ?_
  refine va_get (D := D) (ci := 1) (v := .int (σ 1 1)) (C := RX1) (T := TX1) (N := 3) hx hb hts inGX1 hown hK hP 1 hg rfl 1 (by decide) (hts _ wq_199) (fun _ h9 => h9) rfl dX1_keep_17 ?_
  refine va_new (ci := 2) (fs := [.int 0, .int 0, .null, .null, .null, .null, .null, .null, .null, .null, .null, .null]) (C := RX2) (T := TX2) (N := 12) hx hb hts inGX2 tyX2 tyX2_ok hown (hts _ wq_196) (hts _ wq_114) (hts _ wq_88) hK hP hD hS hA rfl (by decide +kernel) (Nat.le_of_ble_eq_true rfl) (Nat.le_of_ble_eq_true rfl) dX1_keep_20 (fun q H hP hD hS => ?_)
  refine lv_dup hx hb dX1_keep_23 rfl ?_
  refine ini_c (As := []) (rest := [.ref q, .int (σ 1 1), .ref (a 68)]) (W0 := wT z layX a (ktl z a n ρ) σ) (w1 := fun a => wT z layF a [] mmF) (q := q) (n := 0) hM.1 (ci_X2 l D z ts z0 q H.size) hP hD hS wq_117 wq_725 wq_116 wq_88 rfl (by decide +kernel) ⟨Nat.le_of_ble_eq_true rfl, Nat.le_of_ble_eq_true rfl⟩ rfl hl.1 (Nat.le_of_ble_eq_true rfl) dX1_keep_24 ⟨Nat.le_of_ble_eq_true rfl, Nat.le_of_ble_eq_true rfl⟩ (fun a9 H9 locs9 ha hP9 hD9 hS9 => ?_)
  clear hP hD hS
  subst ha
  have hlW : ∀ τ, (wT z layX a (ktl z a n ρ) τ).length = (wT z layX a (ktl z a n ρ) σ).length := fun τ => by simpa using congrArg List.length (wT_len (z := z) (lay := layX) (a := a) (tl := ktl z a n ρ) τ σ)
  have hv : (wT z layX a (ktl z a n ρ) σ ++ wT z layF a9 [] mmF)[(wT z layX a (ktl z a n ρ) σ).length]? = some (a9 0, .inr (2, [.int 0, .int 0, .ref (a9 1), .ref (a9 2), .ref (a9 3), .ref (a9 4), .ref (a9 5), .ref (a9 6), .ref (a9 7), .ref (a9 8), .ref (a9 9), .ref (a9 10)])) := by
    rw [List.getElem?_append_right (Nat.le_refl _), Nat.sub_self]
    exact wT_get (k := 0) (sh := .inr (2, [none, none, some 1, some 2, some 3, some 4, some 5, some 6, some 7, some 8, some 9, some 10])) rfl
  have hk9 : (wT z layX a (ktl z a n ρ) σ ++ wT z layF a9 [] mmF)[68]? = some (kcell z a n) := by
    rw [List.getElem?_append_left (List.getElem?_eq_some_iff.mp k68).1]
    exact k68
  refine va_astq hx hb hK hP9 hD9 hS9 68 4 (wT z layX a (ktl z a n ρ) σ).length 2 (r := (RX2, TX2, 12)) hk9 rfl hv rfl hvp1 dX1_keep_27 (fun H1 locs1 hP1 hD1 hS1 => ?_)
  have hcn : (σ 1 1).toNatClampNeg = n := by rw [hnx]; exact hcl
  rw [k_new hcn] at hP1 hD1
  have hl2 : lv_has ls 2 [(0, .ref (exA a a9 (69 + 11 * n) 1)), (1, .ref (exA a a9 (69 + 11 * n) 32))] := by
    rw [exA_lt (by omega), exA_lt (by omega)]
    exact hl
  exact keep_28 hM (fun j hj => exA_lt hj) (Nat.lt_succ_self n) hi12 hnx hP1 hD1 hS1 hl2 ⟨Nat.le_of_ble_eq_true rfl, Nat.le_of_ble_eq_true rfl⟩
