/-! calls that leave kept forges in another state; keep -/
def Qk (D : va_G) (z : Nat → ClassId) (n' : Nat) (ρ' : Nat → Mm) (σ' : Mm) (v : Option Value) (a : Nat → Nat) (n : Nat) (A : Nat → Prop) : Array Value → State → Outcome → State → Prop := fun _ st oc t =>
  (∃ a' : Nat → Nat, oc = .returned v ∧ (∀ j, j < 69 + 11 * n → a' j = a j) ∧ va_P D vwCl (wT z layX a' (ktl z a' n' ρ') σ') t.heap ∧ va_D A (wT z layX a' (ktl z a' n' ρ') σ')) ∧ va_F A st t
/-- what holds all through a method's run, its world apart -/
def Fm (p : Program) (R : Room) (s : State) (m : MethodId) (args : Array Value) (meth : Method) (c : Code) (D : va_G) (z : Nat → ClassId) (ts : Nat → Nat) (z0 : Nat) (A : Nat → Prop) (own : String) (cc : ByteArray) (nL dl : Nat) (rt : Option FieldType) : Prop :=
  Fn p s m args c D z ts z0 A own cc nL ∧ meth.locks = false ∧ meth.sig.returnType = rt ∧ dl ≤ R.frames ∧ 37 * dl ≤ R.locals ∧ (∀ x ∈ c.exceptionTable.toList, False)
section KEPT
variable {p : Program} {l : Launch} {e : Env} {R : Room} {s : State} {m : MethodId} {args : Array Value} {below : List Frame} {meth : Method} {c : Code} {D : va_G} {z : Nat → ClassId} {ts : Nat → Nat} {z0 : Nat} {lay : List Shp} {a : Nat → Nat} {tl : va_W} {A A1 : Nat → Prop} {own : String} {cc : ByteArray} {nL dl : Nat} {rt : Option FieldType} {H : Heap} {locs : List Loc} {ls : Array Slot} {pc : Nat} {st0 rest : List Value} {Q : State → Prop} {cells slots mc ms : Nat} {σ σ' : Mm} {t : Tbl} {cs : Cs}
theorem Fm.fx (h : Fm p R s m args meth c D z ts z0 A own cc nL dl rt) (hD : va_D A (wT z lay a tl σ)) : Fx p l R s m args meth c D z ts z0 lay a tl A own cc nL dl rt := by
  obtain ⟨⟨h1, h2, h3, h4, h5, h6, h7, h8, h9⟩, h10, h11, h12, h13, h14⟩ := h
  exact ⟨h1, h2, h3, h4, h5, h6, fun τ => va_D_fst (wT_len σ τ) hD, h7, h8, h9, h10, h11, h12, h13, h14⟩
/-- a run of a table from one program counter to another -/
theorem seg {pc1 : Nat} {lv lv1 : Lv} {st st1 : List Vv} {σ1 : Mm} {Q : Nat → Nat → State → Prop} (hF : Fx p l R s m args meth c D z ts z0 lay a tl A own cc nL dl rt) (hO : Ok l own cc nL dl rt lay t) (h : ∀ k : Kt, rl cs k t pc lv st σ = k pc1 lv1 st1 σ1) (hW : Wr p l e R s m args below meth c D z ts lay a tl A nL Q pc1 lv1 st1 σ1) : Wr p l e R s m args below meth c D z ts lay a tl A nL Q pc lv st σ := by
  refine rl_ok cs hF (o := (mk9, σ1)) (fun h9 => absurd rfl h9) (fun h9 => by cases h9) (fun p9 l9 s9 m9 => @ite _ ((p9, l9, s9, m9) = (pc1, lv1, st1, σ1)) (Classical.propDecidable _) (some (mk9, m9)) none) (fun pc' lv' st' σ' hk => ?_) t hO pc lv st σ ((h _).trans (if_pos rfl))
  split at hk
  · next he =>
    cases he
    exact hW
  · cases hk
theorem callk {n n' : Nat} {ρ' : Nat → Mm} {v : Option Value} {asA : Array Value} (hr : va_Run p l e R s m args below meth c H locs cells slots mc ms (F0 m pc ls st0) rest (Qk D z n' ρ' σ' v a n A1 asA) A1) (hS : va_S A s.heap H locs) (hA1 : ∀ q, A1 q → A q)
    (kk : ∀ (a' : Nat → Nat) (H1 : Heap) (locs1 : List Loc), (∀ j, j < 69 + 11 * n → a' j = a j) → va_P D vwCl (wT z layX a' (ktl z a' n' ρ') σ') H1 → va_D A (wT z layX a' (ktl z a' n' ρ') σ') → (∀ q : Nat, q < H.size → ¬ A1 q → H1[q]? = H[q]?) → va_S A s.heap H1 locs1 → W p l e R s m args below meth c H1 locs1 (cells + mc) (slots + ms) Q (F0 m (pc + 3) ls (v.toList ++ rest))) : W p l e R s m args below meth c H locs cells slots Q (F0 m pc ls st0) := by
  intro T hT X
  obtain ⟨v9, st₀, t, T', L, h0, X', hL, e1, e2, ⟨⟨a', hv, hp, hP1, hD1⟩, hz, hk⟩, st⟩ := hr T hT X
  cases hv
  rw [h0] at hz hk
  obtain ⟨t2, a1, b1⟩ := kk a' T'.heap (locs ++ L) hp (by rw [e1]; exact hP1) (hD1.weaken (fun _ _ _ h => hA1 _ h)) (fun q h1 h2 => by rw [e1]; exact hk q h1 h2)
    ⟨Nat.le_trans hS.1 (by rw [e1]; exact hz), fun q h1 h2 => by rw [e1, hk q (Nat.lt_of_lt_of_le h1 hS.1) (fun z => h2 (hA1 q z))]; exact hS.2.1 q h1 h2, fun q hq => by
      rcases List.mem_append.mp hq with h | h
      · exact hS.2.2 q h
      · exact hA1 _ (hL q h)⟩ T' rfl X'
  exact ⟨t2, st t2 a1, b1⟩
/-- copyFrom from a forge to another one, whatever lies beside them -/
theorem cp_go {index : Nat} {a1 a2 : Nat → Nat} {σ1 σ2 : Mm} {rw9 : va_W} (hF : Fn p s m args c D z ts z0 A own cc nL) (hP : va_P D vwCl (wT z layF a1 [] σ1 ++ (wT z layF a2 [] σ2 ++ rw9)) H) (hD : va_D A (wT z layF a1 [] σ1 ++ (wT z layF a2 [] σ2 ++ rw9))) (hS : va_S A s.heap H locs)
    (hml : Cond.methodLink own index yX2_copyFrom ∈ gtb) (hR : 2 ≤ R.frames ∧ 58 ≤ R.locals) (hls : ls.size = nL) (hrest : (rest.map fun v => v.category).sum ≤ 8) (hdg : decode cc pc = .ok (.invokevirtual index, 3)) (hf : cells ≤ R.cells ∧ slots ≤ R.slots)
    (kk : ∀ (H1 : Heap) (locs1 : List Loc), va_P D vwCl (wT z layF a1 [] (cpF σ1 σ2) ++ (wT z layF a2 [] σ2 ++ rw9)) H1 → va_S A s.heap H1 locs1 → W p l e R s m args below meth c H1 locs1 cells slots Q (F0 m (pc + 3) ls rest)) :
    W p l e R s m args below meth c H locs cells slots Q (F0 m pc ls (.ref (a2 0) :: .ref (a1 0) :: rest)) := by
  obtain ⟨hx, hb, hml9, hown, hts, hK, hA, hA0, hSt⟩ := id hF
  rw [← wFF] at hP hD
  have hM := (ct_X2_copyFrom l D z ts z0 (aFF a1 a2) rw9 [.inr (.inl 0), .inr (.inl 11)] (cFF σ1 σ2) (cpR (cFF σ1 σ2)) H.size).1 none (e_X2_copyFrom (cFF σ1 σ2))
  have hpre : ∀ U : State, U.heap = H → s.WarmedH U.vm → va_Pc [.ref (a1 0), .ref (a2 0)] (Pr D z ts z0 (wT z layFF (aFF a1 a2) rw9 (cFF σ1 σ2)) H.size) [.ref (a1 0), .ref (a2 0)].toArray U := fun U hU hW =>
    ⟨rfl, by rw [hU], by rw [hU]; exact hP, va_K.moved hW.alike hK, hD.weaken (fun _ _ _ h => hA0 _ h), Nat.le_trans (hA0 _ (hA _ (Nat.le_refl _))) hS.1, hSt.at (fun q h1 h2 => hS.2.1 q h1 (fun h => h2 (hA0 q h))) hU hW (fun _ h => h)⟩
  have hA1 : ∀ q, va_A (wT z layFF (aFF a1 a2) rw9 (cFF σ1 σ2)) H.size q → A q := by
    rintro q (⟨k9, e9, hk9⟩ | h9)
    · exact hD.2 _ _ hk9
    · exact hA q (Nat.le_trans hS.1 h9)
  have hrc : layFF[0]? = some (.inr (2, [none, none, some 1, some 2, some 3, some 4, some 5, some 6, some 7, some 8, some 9, some 10])) := rfl
  have hcl : vwCl[2]? = some (yX2_copyFrom.cls, TX2, 12) := rfl
  refine call_go (v := none) (va_runV (As := [.ref (a2 0)]) (rest := rest) (C := yX2_copyFrom.cls) ⟨hx, hb, hml9, hown, hts⟩ hM
    (cwV 1 hts (gtb_in (fun w hw => by
      rcases List.mem_append.mp hw with hw | hw
      · simp only [List.mem_cons, List.not_mem_nil, or_false] at hw
        rcases hw with rfl | rfl | rfl | rfl
        · exact hml
        · exact wq_495
        · exact wq_496
        · exact wq_88
      · exact gtb_c wq_497 w hw)) rfl rfl rfl ⟨rfl, by decide +kernel⟩ ⟨by show 1 + 1 ≤ _; omega, by show 8 + (2 + 11) + 37 * 1 ≤ _; omega⟩)
    ⟨Pr_blind, va_recv hK hP (q0 := 0) hcl (wT_get hrc), hpre⟩ rfl rfl hls rfl (lv_room hrest) hdg hf) hS hA1 (fun H1 locs1 hP1 hk1 hS1 => ?_)
  rw [wFF'] at hP1
  exact kk H1 locs1 hP1 hS1
end KEPT
theorem k68 {z : Nat → ClassId} {a : Nat → Nat} {n : Nat} {ρ : Nat → Mm} {σ : Mm} : (wT z layX a (ktl z a n ρ) σ)[68]? = some (kcell z a n) := by
  have hl : (wG z layX a σ).length = 68 := by simp [wG, layX]
  unfold wT
  rw [List.getElem?_append_right (by omega), hl]
  rfl
/-- ForgeScheduler's world with kept forge i ahead, then the forge -/
theorem k_perm {z : Nat → ClassId} {a : Nat → Nat} {n i : Nat} {ρ : Nat → Mm} {σ : Mm} (hi : i < n) : ∃ Y : Mm → va_W, (∀ r : Mm, (wT z layX a (ktl z a n (upR ρ i r)) σ).Perm (wT z layF (fun c => a (69 + 11 * i + c)) [] r ++ (wT z layF (sh32 a) [] (fun c => σ (32 + c)) ++ Y σ))) ∧ (∀ (r τ : Mm), (∀ k, k < 32 → τ k = σ k) → (∀ k, 43 ≤ k → τ k = σ k) → (wT z layX a (ktl z a n (upR ρ i r)) τ).Perm (wT z layF (fun c => a (69 + 11 * i + c)) [] r ++ (wT z layF (sh32 a) [] (fun c => τ (32 + c)) ++ Y σ))) := by
  obtain ⟨X, Y, hXY⟩ := kfs_split (z := z) (a := a) (ρ := ρ) n hi
  have go : ∀ (r τ : Mm), (wT z layX a (ktl z a n (upR ρ i r)) τ).Perm (wT z layF (fun c => a (69 + 11 * i + c)) [] r ++ (wT z layF (sh32 a) [] (fun c => τ (32 + c)) ++ (wgo z a τ 0 (layX.take 32) ++ (wgo z a τ 43 (layX.drop 43) ++ (kcell z a n :: (X ++ Y)))))) := by
    intro r τ
    rw [wX_split, ktl, hXY r]
    generalize wgo z a τ 0 (layX.take 32) = P1
    generalize wgo z a τ 43 (layX.drop 43) = P3
    generalize wT z layF (sh32 a) [] (fun c => τ (32 + c)) = P2
    generalize wT z layF (fun c => a (69 + 11 * i + c)) [] r = P4
    generalize kcell z a n = q
    have inst : DecidableEq (Nat × va_E) := fun a b => Classical.propDecidable _
    rw [List.perm_iff_count]
    intro x
    simp only [List.count_append, List.count_cons]
    omega
  refine ⟨fun τ => wgo z a τ 0 (layX.take 32) ++ (wgo z a τ 43 (layX.drop 43) ++ (kcell z a n :: (X ++ Y))), fun r => go r σ, fun r τ h1 h2 => ?_⟩
  have e1 : wgo z a τ 0 (layX.take 32) = wgo z a σ 0 (layX.take 32) := by
    apply List.ext_getElem?
    intro j
    rw [wgo_get, wgo_get]
    cases hj : (layX.take 32)[j]? with
    | none => rfl
    | some sh =>
      have : j < 32 := by
        have h9 := (List.getElem?_eq_some_iff.mp hj).1
        rw [List.length_take] at h9
        omega
      simp only [Nat.zero_add, Option.map_some, h1 j this]
  have e3 : wgo z a τ 43 (layX.drop 43) = wgo z a σ 43 (layX.drop 43) := by
    apply List.ext_getElem?
    intro j
    rw [wgo_get, wgo_get]
    cases hj : (layX.drop 43)[j]? with
    | none => rfl
    | some sh => simp only [Option.map_some, h2 (43 + j) (by omega)]
  have h9 := go r τ
  rw [e1, e3] at h9
  exact h9
