/-- a method's contract out of its walk -/
theorem met_k {l : Launch} {y : MethodName} {own : String} {cc : ByteArray} {nL dl mc ms : Nat} {rt : Option FieldType} {D : va_G} {z : Nat → ClassId} {ts : Nat → Nat} {z0 sz : Nat} {ws : va_W} {As : List Value} {Qc : Array Value → State → Outcome → State → Prop} (hpl : plainName y.cls = true) (hy : y.cls = own) (hn : (lg_sl As).length ≤ nL)
    (h : ∀ (p : Program) (e : Env) (s : State) (m : MethodId) (below : List Frame) (meth : Method) (c : Code) (ls : Array Slot), Fm p (rmD dl mc ms) s m As.toArray meth c D z ts z0 (va_A ws sz) own cc nL dl rt → s.heap.size = sz → va_P D vwCl ws s.heap → va_D (va_A ws sz) ws → lv_has ls nL (lv_args 0 As) → W p l e (rmD dl mc ms) s m As.toArray below meth c s.heap [] 0 0 (MQ below Qc As.toArray s mc ms (va_A ws sz)) (F0 m 0 ls [])) :
    Met l y (.code y cc nL rt :: gtb) (rmD dl mc ms) (va_Pc As (Pr D z ts z0 ws sz)) Qc mc ms (va_A ws sz) := by
  refine Met.ofW (cc := cc) (maxL := nL) (ret := rt) hpl rfl ?_
  intro p e s m args below meth c s₁ B hml hv
  obtain ⟨rfl, hsz, hP, hK, hD0, hz, hSt⟩ := hv
  have hat := atoms_spec (ws := .code y cc nL rt :: gtb) B.pre
  have hxt := xt_no B hat
  subst hsz
  rw [lg_entry_eq]
  exact h p e s m below meth c _ ⟨⟨B.exec, B.bytes, hml, hy ▸ findClass_of_methodNamed B.named, fun w hw => hat w (List.mem_cons_of_mem _ hw), hK, fun q h => Or.inr h, A_z0 hD0 hz, hSt⟩, B.notSynchronized, B.returns, Nat.le_refl _, Nat.le_refl _, hxt⟩ rfl hP (hD0.self (sz := s.heap.size)) (lv_entry As hn)
def s_inn (tgt : Nat) : Sst := fun k lv st σ => match st with
  | .inr (.inl x) :: r => k tgt lv r σ
  | _ => none
theorem so_inn {l : Launch} {own : String} {cc : ByteArray} {nL dl : Nat} {rt : Option FieldType} {lay : List Shp} {pc tgt : Nat} {off : Int} (hdg : decode cc pc = .ok (.ifnonnull off, 3)) (ht : (pc : Int) + off = (tgt : Int)) : So l own cc nL dl rt lay pc (s_inn tgt) := by
  intro p e R s m args below meth c D z ts z0 a tl A hF k lv st σ o Q hQ ho h hk H locs ls nc ns hnn hP hS hl
  simp only [s_inn] at h
  split at h
  · next x r => exact lv_ifnonnull hF.1 hF.2.1 hdg ht (hk _ _ _ _ h H locs ls nc ns hnn hP hS hl)
  · cases h
noncomputable def t_R1 : Tbl := [(0, s_al 1 0), (1, s_gf 4 layX 1 1), (4, s_ic 6 12), (6, s_b 7 (fun x y => x + y)), (7, s_ic 8 1), (8, s_b 9 (fun x y => x - y)), (9, s_ic 11 12), (11, s_bd 12 (fun x y => x - x / y * y)), (12, s_is 13 2), (13, s_al 14 0), (14, s_gf 17 layX 1 0), (17, s_il 18 2)]
theorem ok_R1 (l : Launch) : Ok l RX1 cX1_restore 4 2 (some .boolean) layX t_R1 :=
  Ok.cons (so_aload_n dX1_restore_0 rfl rfl) <|
  Ok.cons (so_gf (C := RX1) (T := TX1) (N := 3) inGX1 rfl (by decide) wq_199 rfl dX1_restore_1 rfl) <|
  Ok.cons (so_bipush dX1_restore_4 (by decide) rfl) <|
  Ok.cons (so_iadd dX1_restore_6 rfl) <|
  Ok.cons (so_iconst dX1_restore_7 (by decide) rfl) <|
  Ok.cons (so_isub dX1_restore_8 rfl) <|
  Ok.cons (so_bipush dX1_restore_9 (by decide) rfl) <|
  Ok.cons (so_irem dX1_restore_11 rfl) <|
  Ok.cons (so_istore_n dX1_restore_12 rfl (by decide) rfl) <|
  Ok.cons (so_aload_n dX1_restore_13 rfl rfl) <|
  Ok.cons (so_gf (C := RX1) (T := TX1) (N := 3) inGX1 rfl (by decide) wq_198 rfl dX1_restore_14 rfl) <|
  Ok.cons (so_iload_n dX1_restore_17 rfl rfl) <| Ok.nil
noncomputable def t_R2 : Tbl := [(20, s_al 21 0), (21, s_gf 24 layX 1 2), (24, s_zeq 27 31), (27, s_al 28 3), (28, s_inn 33), (31, s_ic 32 0), (32, s_zr), (33, s_al 34 1), (34, s_al 35 3), (38, s_al 39 0), (39, s_il 40 2), (40, s_pf 43 layX 1 1), (43, s_al 44 0), (44, s_dup 45), (45, s_gf 48 layX 1 2), (48, s_ic 49 1), (49, s_b 50 (fun x y => x - y)), (50, s_pf 53 layX 1 2), (53, s_ic 54 1), (54, s_zr)]
theorem ok_R2 (l : Launch) : Ok l RX1 cX1_restore 4 2 (some .boolean) layX t_R2 :=
  Ok.cons (so_aload_n dX1_restore_20 rfl rfl) <|
  Ok.cons (so_gf (C := RX1) (T := TX1) (N := 3) inGX1 rfl (by decide) wq_200 rfl dX1_restore_21 rfl) <|
  Ok.cons (so_zeq dX1_restore_24 (by decide) rfl) <|
  Ok.cons (so_aload_n dX1_restore_27 rfl rfl) <|
  Ok.cons (so_inn dX1_restore_28 (by decide)) <|
  Ok.cons (so_iconst dX1_restore_31 (by decide) rfl) <|
  Ok.cons (so_zr rfl dX1_restore_32) <|
  Ok.cons (so_aload_n dX1_restore_33 rfl rfl) <|
  Ok.cons (so_aload_n dX1_restore_34 rfl rfl) <|
  Ok.cons (so_aload_n dX1_restore_38 rfl rfl) <|
  Ok.cons (so_iload_n dX1_restore_39 rfl rfl) <|
  Ok.cons (so_pf (C := RX1) (T := TX1) (N := 3) inGX1 tyX1_ok nmX1 rfl (by decide) wq_199 rfl rfl rfl dX1_restore_40 rfl) <|
  Ok.cons (so_aload_n dX1_restore_43 rfl rfl) <|
  Ok.cons (so_dup dX1_restore_44 rfl) <|
  Ok.cons (so_gf (C := RX1) (T := TX1) (N := 3) inGX1 rfl (by decide) wq_200 rfl dX1_restore_45 rfl) <|
  Ok.cons (so_iconst dX1_restore_48 (by decide) rfl) <|
  Ok.cons (so_isub dX1_restore_49 rfl) <|
  Ok.cons (so_pf (C := RX1) (T := TX1) (N := 3) inGX1 tyX1_ok nmX1 rfl (by decide) wq_200 rfl rfl rfl dX1_restore_50 rfl) <|
  Ok.cons (so_iconst dX1_restore_53 (by decide) rfl) <|
  Ok.cons (so_zr rfl dX1_restore_54) <| Ok.nil
theorem lv_sb9 {ls : Array Slot} {nL : Nat} {l1 l2 : List (Nat × Value)} (h : lv_has ls nL l1) (hs : ∀ q ∈ l2, q ∈ l1) : lv_has ls nL l2 := ⟨h.1, h.2.1, fun w hw => h.2.2 w (hs w hw)⟩
def rX (σ : Mm) : Int32 := σ 1 1 + 12 - 1 - (σ 1 1 + 12 - 1) / 12 * 12
theorem sg_R1 (σ : Mm) (k : Kt) : rl [(18, [0, 1, 2])] k t_R1 0 [(0, .inr (.inl 1)), (1, .inr (.inl 32))] [] σ = k 18 [(0, .inr (.inl 1)), (1, .inr (.inl 32)), (2, .inl (rX σ))] [.inl (rX σ), .inr (.inl 68)] σ := by
  show (if (12 : Int32) = 0 then none else k 18 [(0, .inr (.inl 1)), (1, .inr (.inl 32)), (2, .inl (rX σ))] [.inl (rX σ), .inr (.inl 68)] σ) = _
  rw [if_neg (by decide)]
theorem rn_R2 {σ : Mm} (h : σ 1 2 = 0) : rn t_R2 [(35, [0, 1, 2, 3])] 1 20 [(0, .inr (.inl 1)), (1, .inr (.inl 32)), (2, .inl (rX σ))] [] σ = some (some (some (.inl 0)), σ) := by
  show (if σ 1 2 = 0 then (if (0 : Int32) = 0 ∨ (0 : Int32) = 1 then rI 0 σ else none) else none) = _
  rw [if_pos h, if_pos (Or.inl rfl)]
  rfl
theorem sg_R2 {σ : Mm} {j : Nat} (h : ¬ σ 1 2 = 0) (k : Kt) : rl [(35, [0, 1, 2, 3])] k t_R2 20 [(3, .inr (.inl (69 + 11 * j))), (0, .inr (.inl 1)), (1, .inr (.inl 32)), (2, .inl (rX σ))] [] σ = k 35 [(0, .inr (.inl 1)), (1, .inr (.inl 32)), (2, .inl (rX σ)), (3, .inr (.inl (69 + 11 * j)))] [.inr (.inl (69 + 11 * j)), .inr (.inl 32)] σ := by
  show (if σ 1 2 = 0 then _ else k 35 [(0, .inr (.inl 1)), (1, .inr (.inl 32)), (2, .inl (rX σ)), (3, .inr (.inl (69 + 11 * j)))] [.inr (.inl (69 + 11 * j)), .inr (.inl 32)] σ) = _
  rw [if_neg h]
theorem rn_R3 {τ : Mm} {x : Int32} {j : Nat} : rn t_R2 [(35, [0, 1, 2, 3])] 1 38 [(0, .inr (.inl 1)), (1, .inr (.inl 32)), (2, .inl x), (3, .inr (.inl (69 + 11 * j)))] [] τ = some (some (some (.inl 1)), wr (wr τ 1 1 x) 1 2 ((wr τ 1 1 x) 1 2 - 1)) := by
  show (if (1 : Int32) = 0 ∨ (1 : Int32) = 1 then rI 1 (wr (wr τ 1 1 x) 1 2 ((wr τ 1 1 x) 1 2 - 1)) else none) = _
  rw [if_pos (Or.inr rfl)]
  rfl
theorem wT_cs {z : Nat → ClassId} {lay : List Shp} {a : Nat → Nat} {tl : va_W} {σ τ : Mm} (h : ∀ k, k < lay.length → τ k = σ k) : wT z lay a tl τ = wT z lay a tl σ := by
  unfold wT wG
  congr 1
  apply List.ext_getElem?
  intro j
  rw [List.getElem?_mapIdx, List.getElem?_mapIdx]
  cases hj : lay[j]? with
  | none => rfl
  | some sh => rw [h j (List.getElem?_eq_some_iff.mp hj).1]
/-- the forge as the kept one j -/
def rF (σ : Mm) (r : Mm) : Mm := put (sgC 32 11) σ (cpF (fun c => σ (32 + c)) r)
theorem rF_in {σ r : Mm} {c : Nat} (h : c < 11) : rF σ r (32 + c) = cpF (fun c => σ (32 + c)) r c := by
  unfold rF put
  rw [sgC_get h]
theorem rF_out {σ r : Mm} {k : Nat} (h : k < 32 ∨ 43 ≤ k) : rF σ r k = σ k := by
  unfold rF put
  have : (sgC 32 11).2 k = none := by
    cases h9 : (sgC 32 11).2 k with
    | none => rfl
    | some j =>
      have := sgC_inv h9
      omega
  rw [this]
section REST
variable {l : Launch} {D : va_G} {z : Nat → ClassId} {ts : Nat → Nat} {z0 sz : Nat} {a : Nat → Nat} {n j : Nat} {σ : Mm} {ρ : Nat → Mm}
theorem ci_rest0 (hj12 : j < 12) (hjx : rX σ = Int32.ofNat j) (h0 : σ 1 2 = 0) : Met l yX1_restore (.code yX1_restore cX1_restore 4 (some .boolean) :: gtb) (rmD 2 0 0) (va_Pc [.ref (a 1), .ref (a 32)] (Pr D z ts z0 (wT z layX a (ktl z a n ρ) σ) sz)) (Qk D z n ρ σ (some (.int 0)) a n (va_A (wT z layX a (ktl z a n ρ) σ) sz)) 0 0 (va_A (wT z layX a (ktl z a n ρ) σ) sz) := by
  refine met_k (own := RX1) (by decide) rfl (Nat.le_of_ble_eq_true rfl) ?_
  intro p e s m below meth c ls hM hsz hP hD hl
  subst hsz
  have hl : lv_has ls 4 [(0, .ref (a 1)), (1, .ref (a 32))] := hl
  generalize hAe : va_A (wT z layX a (ktl z a n ρ) σ) s.heap.size = A at hM hD ⊢
  have hS : va_S A s.heap s.heap [] := va_S.rf
  obtain ⟨⟨hx, hb, hml, hown, hts, hK, hA, hA0, hSt⟩, hlk, hr, hR1, hR2, hxt⟩ := id hM
  refine W_q (Q1 := Qo below [.ref (a 1), .ref (a 32)].toArray s D z ts layX a (ktl z a n ρ) A (some (some (.inl 0)), σ) 0 0) (fun t h => ?_) (seg (Q := Qo below [.ref (a 1), .ref (a 32)].toArray s D z ts layX a (ktl z a n ρ) A (some (some (.inl 0)), σ)) (hM.fx hD) (ok_R1 l) (sg_R1 σ) (fun H locs ls nc ns hnn hP hS hl => ?_) s.heap [] ls 0 0 ⟨Nat.le_refl _, Nat.le_refl _⟩ hP hS hl)
  · obtain ⟨oc, g1, g2, ⟨g3, g4, g5⟩, g6⟩ := h
    exact ⟨oc, g1, g2, ⟨⟨a, g3, fun _ _ => rfl, g4, hD⟩, g5⟩, g6⟩
  · obtain ⟨hcl, hvp⟩ := clampI hj12
    refine va_aldq hx hb hK hP 68 4 k68 rfl (i := rX σ) (by rw [hjx]; exact hvp) dX1_restore_18 ?_
    have hl : lv_has ls 4 [(0, .ref (a 1)), (1, .ref (a 32)), (2, .int (rX σ))] := hl
    have go : ∀ (ls' : Array Slot) (v : Value), lv_has ls' 4 [(3, v), (0, .ref (a 1)), (1, .ref (a 32)), (2, .int (rX σ))] → W p l e (rmD 2 0 0) s m [.ref (a 1), .ref (a 32)].toArray below meth c H locs nc ns (Qo below [.ref (a 1), .ref (a 32)].toArray s D z ts layX a (ktl z a n ρ) A (some (some (.inl 0)), σ) nc ns) (F0 m 20 ls' []) := fun ls' v hl' =>
      rn_ok [(35, [0, 1, 2, 3])] (ok_R2 l) (hM.fx hD) (Q := Qo below [.ref (a 1), .ref (a 32)].toArray s D z ts layX a (ktl z a n ρ) A (some (some (.inl 0)), σ)) (fun _ _ _ _ h => h) (fun h => by cases h) 1 20 [(0, .inr (.inl 1)), (1, .inr (.inl 32)), (2, .inl (rX σ))] [] σ (rn_R2 h0) H locs ls' nc ns hnn hP hS (lv_sb9 hl' (fun q hq => List.mem_cons_of_mem _ hq))
    rw [hjx, hcl]
    by_cases hjn : j < n
    · rw [if_pos hjn]
      exact lv_astore_n hx hb dX1_restore_19 rfl hl (by decide) rfl (fun ls' hl' => go ls' _ hl')
    · rw [if_neg hjn]
      exact lv_astore_nN hx hb dX1_restore_19 rfl hl (by decide) rfl (fun ls' hl' => go ls' _ hl')
theorem ci_rest1 (hj12 : j < 12) (hjn : j < n) (hjx : rX σ = Int32.ofNat j) (h0 : ¬ σ 1 2 = 0) : Met l yX1_restore (.code yX1_restore cX1_restore 4 (some .boolean) :: gtb) (rmD 2 0 0) (va_Pc [.ref (a 1), .ref (a 32)] (Pr D z ts z0 (wT z layX a (ktl z a n ρ) σ) sz)) (Qk D z n ρ (wr (wr (rF σ (ρ j)) 1 1 (rX σ)) 1 2 ((wr (rF σ (ρ j)) 1 1 (rX σ)) 1 2 - 1)) (some (.int 1)) a n (va_A (wT z layX a (ktl z a n ρ) σ) sz)) 0 0 (va_A (wT z layX a (ktl z a n ρ) σ) sz) := by
  refine met_k (own := RX1) (by decide) rfl (Nat.le_of_ble_eq_true rfl) ?_
  intro p e s m below meth c ls hM hsz hP hD hl
  subst hsz
  have hl : lv_has ls 4 [(0, .ref (a 1)), (1, .ref (a 32))] := hl
  generalize hAe : va_A (wT z layX a (ktl z a n ρ) σ) s.heap.size = A at hM hD ⊢
  have hS : va_S A s.heap s.heap [] := va_S.rf
  obtain ⟨⟨hx, hb, hml, hown, hts, hK, hA, hA0, hSt⟩, hlk, hr, hR1, hR2, hxt⟩ := id hM
  refine W_q (Q1 := Qo below [.ref (a 1), .ref (a 32)].toArray s D z ts layX a (ktl z a n ρ) A (some (some (.inl 1)), wr (wr (rF σ (ρ j)) 1 1 (rX σ)) 1 2 ((wr (rF σ (ρ j)) 1 1 (rX σ)) 1 2 - 1)) 0 0) (fun t h => ?_) (seg (Q := Qo below [.ref (a 1), .ref (a 32)].toArray s D z ts layX a (ktl z a n ρ) A (some (some (.inl 1)), wr (wr (rF σ (ρ j)) 1 1 (rX σ)) 1 2 ((wr (rF σ (ρ j)) 1 1 (rX σ)) 1 2 - 1))) (hM.fx hD) (ok_R1 l) (sg_R1 σ) (fun H locs ls nc ns hnn hP hS hl => ?_) s.heap [] ls 0 0 ⟨Nat.le_refl _, Nat.le_refl _⟩ hP hS hl)
  · obtain ⟨oc, g1, g2, ⟨g3, g4, g5⟩, g6⟩ := h
    exact ⟨oc, g1, g2, ⟨⟨a, g3, fun _ _ => rfl, g4, va_D_fst (wT_len σ _) hD⟩, g5⟩, g6⟩
  · obtain ⟨hcl, hvp⟩ := clampI hj12
    refine va_aldq hx hb hK hP 68 4 k68 rfl (i := rX σ) (by rw [hjx]; exact hvp) dX1_restore_18 ?_
    have hl : lv_has ls 4 [(0, .ref (a 1)), (1, .ref (a 32)), (2, .int (rX σ))] := hl
    rw [show (rX σ).toNatClampNeg = j by rw [hjx]; exact hcl, if_pos hjn]
    refine lv_astore_n hx hb dX1_restore_19 rfl hl (by decide) rfl (fun ls' hl' => ?_)
    refine seg (Q := Qo below [.ref (a 1), .ref (a 32)].toArray s D z ts layX a (ktl z a n ρ) A (some (some (.inl 1)), wr (wr (rF σ (ρ j)) 1 1 (rX σ)) 1 2 ((wr (rF σ (ρ j)) 1 1 (rX σ)) 1 2 - 1))) (hM.fx hD) (ok_R2 l) (sg_R2 (j := j) h0) (fun H locs ls nc ns hnn hP hS hl => ?_) H locs ls' nc ns hnn hP hS hl'
    obtain ⟨Y, hY, hY2⟩ := k_perm (z := z) (a := a) (ρ := ρ) (σ := σ) hjn
    have hp0 := hY (ρ j)
    rw [upR_self] at hp0
    have sw : ∀ P Q9 : va_W, (P ++ (Q9 ++ Y σ)).Perm (Q9 ++ (P ++ Y σ)) := fun P Q9 => by
      rw [← List.append_assoc, ← List.append_assoc]
      exact List.perm_append_comm.append_right _
    have hp1 := hp0.trans (sw _ _)
    refine cp_go (index := 22) (a1 := sh32 a) (a2 := fun c => a (69 + 11 * j + c)) (own := RX1) (nL := 4) (rest := []) hM.1 (P_perm hp1 hP) (D_perm hp1 hD) hS wq_726 ⟨by show 2 ≤ 2; omega, by show 58 ≤ 37 * 2; omega⟩ hl.1 (by decide) dX1_restore_35 hnn (fun H1 locs1 hP1 hS1 => ?_)
    have hp2 := hY2 (ρ j) (rF σ (ρ j)) (fun k hk => rF_out (Or.inl hk)) (fun k hk => rF_out (Or.inr hk))
    rw [upR_self, wT_cs (lay := layF) (σ := cpF (fun c => σ (32 + c)) (ρ j)) (τ := fun c => rF σ (ρ j) (32 + c)) (fun k hk => rF_in hk)] at hp2
    have hP2 := P_perm (hp2.trans (sw _ _)).symm hP1
    exact rn_ok [(35, [0, 1, 2, 3])] (ok_R2 l) (hM.fx hD) (Q := Qo below [.ref (a 1), .ref (a 32)].toArray s D z ts layX a (ktl z a n ρ) A (some (some (.inl 1)), wr (wr (rF σ (ρ j)) 1 1 (rX σ)) 1 2 ((wr (rF σ (ρ j)) 1 1 (rX σ)) 1 2 - 1))) (fun _ _ _ _ h => h) (fun h => by cases h) 1 38 [(0, .inr (.inl 1)), (1, .inr (.inl 32)), (2, .inl (rX σ)), (3, .inr (.inl (69 + 11 * j)))] [] (rF σ (ρ j)) rn_R3 H1 locs1 ls nc ns hnn hP2 hS1 hl
end REST
