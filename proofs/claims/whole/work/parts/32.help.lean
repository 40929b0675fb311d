/-! the law's helpers: a call, an exception caught -/
section LHELP
variable {p : Program} {l : Launch} {e : Env} {R : Room} {s : State} {m : MethodId} {args : Array Value} {below : List Frame} {meth : Method} {c : Code} {D : va_G} {z : Nat → ClassId} {ts : Nat → Nat} {z0 sz : Nat} {lay : List Shp} {a : Nat → Nat} {tl : va_W} {A : Nat → Prop} {own : String} {cc : ByteArray} {nL : Nat} {H : Heap} {locs : List Loc} {ls : Array Slot} {pc : Nat} {st0 rest : List Value} {Q : State → Prop} {cells slots : Nat} {σ σ' : Mm} {w0 : va_W}
variable {y : MethodName} {cy : ByteArray} {nLy dly index nA ci N : Nat} {rty : Option FieldType} {f : List Vv → Mm → Option Ou} {vs' : List Vv} {r : Int32} {T : u_T} {fds : List (Option Nat)}
theorem lax_call (hF : Fn p s m args c D z ts z0 A own cc nL) (hC : Ct l y cy nLy rty dly lay f) (hcode : Cond.code y cy nLy rty ∈ gtb) (hml : Cond.methodLink own index y ∈ gtb) (hins : Cond.instanceMethod y ∈ gtb) (hsel : Cond.selects y.cls y y ∈ gtb) (hini : Cond.initialized y.cls ∈ gtb)
    (hd : y.cls ≠ "java/lang/invoke/MethodHandle" ∧ y.cls ≠ "java/lang/invoke/VarHandle" ∧ (parseMethodDescriptor y.desc).map (fun d => d.parameters.length) = some nA) (hR : dly + 1 ≤ R.frames ∧ 8 + (nLy + 11) + 37 * dly ≤ R.locals) (hrecv : lay[0]? = some (.inr (ci, fds))) (hcl : vwCl[ci]? = some (y.cls, T, N))
    (h : f (.inr (.inl 0) :: vs') σ = some (none, σ')) (hP : va_P D vwCl (w0 ++ wT z lay a tl σ) H) (hD : va_D A (w0 ++ wT z lay a tl σ)) (hS : va_S A s.heap H locs) (hls : ls.size = nL) (hrest : (rest.map fun v => v.category).sum ≤ 8) (hn : vs'.length = nA) (hstk : st0 = (vs'.map (cv a ts)).reverse ++ .ref (a 0) :: rest) (hdg : decode cc pc = .ok (.invokevirtual index, 3)) (hf : cells + 1 ≤ R.cells ∧ slots + 6 ≤ R.slots)
    {x : ExceptionTableEntry} (hsplit : c.exceptionTable.toList = [x]) (hcov : covers x pc = true) (h0 : x.catchType ≠ 0) (hlink : Cond.classLink own x.catchType "java/lang/IndexOutOfBoundsException" ∈ gtb)
    (kk : ∀ (q : Nat) (H1 : Heap) (locs1 : List Loc), va_P D vwCl (w0 ++ wT z lay a tl σ') H1 → va_D A (w0 ++ wT z lay a tl σ') → va_S A s.heap H1 locs1 → W p l e R s m args below meth c H1 locs1 (cells + 1) (slots + 6) Q (F0 m x.handlerPc ls [.ref q])) : W p l e R s m args below meth c H locs cells slots Q (F0 m pc ls st0) := by
  have hPc := sub_P hP
  have hDc := sub_D hD
  have hpre := fn_pre hF hPc hDc hS (as := Value.ref (a 0) :: vs'.map (cv a ts))
  have hfr := fn_free hF hDc hS
  obtain ⟨hx, hb, hml9, hown, hts, hK, hA, hA0, hSt⟩ := id hF
  have hM := (hC D z ts z0 a tl (.inr (.inl 0) :: vs') σ σ' H.size).2 h
  have hr := vx_runV (l := l) (e := e) (R := R) (below := below) (meth := meth) (locs := locs) (cells := cells) (slots := slots) (As := vs'.map (cv a ts)) (rest := rest) (C := y.cls) (g := F0 m pc ls st0) ⟨hx, hb, hml9, hown, hts⟩ hM
    (cwV nA hts (gtb_in (fun w hw => by
      rcases List.mem_append.mp hw with hw | hw
      · simp only [List.mem_cons, List.not_mem_nil, or_false] at hw
        rcases hw with rfl | rfl | rfl | rfl <;> assumption
      · exact gtb_c hcode w hw)) rfl rfl rfl ⟨rfl, hd⟩ hR)
    ⟨Pr_blind, va_recv hK hPc (q0 := 0) hcl (wT_get hrecv), hpre⟩ rfl (by rw [List.length_map]; exact hn) hls hstk (lv_room hrest) hdg hf
  intro T hT X
  rcases hr T hT X with ⟨v9, st₀, t, T', L, h0', X', hL, e1, e2, hFa, st⟩ | ⟨q, st₀, t, T', L, E, ce, h0', X', hL, e1, e2, ⟨hE, hP1, hFa⟩, hce, hcv, hcl9, st⟩
  · exact hFa.elim
  · obtain ⟨k1, k2, k3⟩ := vx_keep h0' e1 hS (fun q _ h => hfr q h) hfr hL hFa
    obtain ⟨hP2, hD2⟩ := join_r (H1 := T'.heap) hP hD k2 hfr (by rw [e1]; exact hP1) (va_D_fst (wT_len σ σ') (hDc.self (sz := H.size)))
    have hw := vx_catch (l := l) (e := e) (R := R) (below := below) (meth := meth) (rest := rest) (pc := pc) (ls := ls) (Q := Q) (cells := cells + 1) (slots := slots + 6) hown [] x [] hsplit (fun z hz => by cases hz) hcov h0 (hts _ hlink) (by rw [hE]; exact va_Nw.use rfl hSt.2.1.2.2.2.2.2.2.2.1) (by rw [e1]; exact hce) hcv hcl9 (kk q T'.heap (locs ++ L) hP2 hD2 k3)
    obtain ⟨t2, a1, b1⟩ := hw T' rfl X'
    exact ⟨t2, st.trans a1, b1⟩
end LHELP
section HP
variable {l : Launch} {D : va_G} {z : Nat → ClassId} {ts : Nat → Nat} {z0 sz : Nat} {a : Nat → Nat} {tl : va_W} {σ σ' : Mm} {o : Nat} {g : Nat → Int64} {p0 p1 r : Int32}
variable {yh y : MethodName} {ch cy : ByteArray} {nLy dly index k0 : Nat} {rty : Option FieldType} {f : List Vv → Mm → Option Ou} {T : u_T} {N : Nat}
def wO (z : Nat → ClassId) (o : Nat) (g : Nat → Int64) : va_W := [(o, .inl (z 3, 1, .inr (.inl g)))]
theorem mh_k {l : Launch} {y : MethodName} {own : String} {cc : ByteArray} {nL dl mc ms : Nat} {rt : Option FieldType} {hh : List (Nat × Nat × Nat × Nat)} {D : va_G} {z : Nat → ClassId} {ts : Nat → Nat} {z0 sz : Nat} {ws : va_W} {As : List Value} {Qc : Array Value → State → Outcome → State → Prop} (hpl : plainName y.cls = true) (hy : y.cls = own) (hn : (lg_sl As).length ≤ nL)
    (h : ∀ (p : Program) (e : Env) (s : State) (m : MethodId) (below : List Frame) (meth : Method) (c : Code) (ls : Array Slot), Fn p s m As.toArray c D z ts z0 (va_A ws sz) own cc nL → meth.locks = false → meth.sig.returnType = rt → c.exceptionTable.toList = tableOf hh → s.heap.size = sz → va_P D vwCl ws s.heap → va_D (va_A ws sz) ws → lv_has ls nL (lv_args 0 As) → W p l e (rmD dl mc ms) s m As.toArray below meth c s.heap [] 0 0 (MQ below Qc As.toArray s mc ms (va_A ws sz)) (F0 m 0 ls [])) :
    vx_Met l y (.codeWith y cc nL rt hh :: gtb) (rmD dl mc ms) (va_Pc As (Pr D z ts z0 ws sz)) Qc (fun _ _ _ => False) mc ms (va_A ws sz) := by
  refine vx_ofWH (cc := cc) (maxL := nL) (ret := rt) (hh := hh) hpl rfl ?_
  intro p e s m args below meth c s₁ B hml hv
  obtain ⟨rfl, hsz, hP, hK, hD0, hz, hSt⟩ := hv
  have hat := atoms_spec (ws := .codeWith y cc nL rt hh :: gtb) B.pre
  have hxt := vx_table (x := y) B (hat _ List.mem_cons_self)
  subst hsz
  rw [lg_entry_eq]
  exact vx_ret (h p e s m below meth c _ ⟨B.exec, B.bytes, hml, hy ▸ findClass_of_methodNamed B.named, fun w hw => hat w (List.mem_cons_of_mem _ hw), hK, fun q h => Or.inr h, A_z0 hD0 hz, hSt⟩ B.notSynchronized B.returns hxt rfl hP (hD0.self (sz := s.heap.size)) (lv_entry As hn))
theorem hp1r (hpl : plainName yh.cls = true) (hyh : yh.cls = RL) (hC : Ct l y cy nLy rty dly layX f) (hcode : Cond.code y cy nLy rty ∈ gtb) (hml : Cond.methodLink RL index y ∈ gtb) (hins : Cond.instanceMethod y ∈ gtb) (hsel : Cond.selects y.cls y y ∈ gtb) (hini : Cond.initialized y.cls ∈ gtb)
    (hd : y.cls ≠ "java/lang/invoke/MethodHandle" ∧ y.cls ≠ "java/lang/invoke/VarHandle" ∧ (parseMethodDescriptor y.desc).map (fun d => d.parameters.length) = some 1) (hdl : dly + 1 ≤ 13 ∧ nLy ≤ 18) (hcl : vwCl[6]? = some (y.cls, T, N))
    (d0 : decode ch 0 = .ok (.aload_n 2, 1)) (d1 : decode ch 1 = .ok (.iconst 0, 1)) (d2 : decode ch 2 = .ok (.aload_n 0, 1)) (d3 : decode ch 3 = .ok (.iload_n 1, 1)) (di : decode ch 4 = .ok (.invokevirtual index, 3)) (dl9 : decode ch 7 = .ok (.i2l, 1)) (ds : decode ch 8 = .ok (.lastore, 1)) (dg : decode ch 9 = .ok (.goto 6, 3)) (dk : decode ch 15 = .ok (.iconst 0, 1)) (dr : decode ch 16 = .ok (.ireturn, 1))
    (h : f (.inr (.inl 0) :: [.inl p0]) σ = some (some (some (.inl r)), σ')) :
    vx_Met l yh (.codeWith yh ch 4 (some .int) [(0, 9, 12, k0)] :: gtb) (rmD 13 0 0) (va_Pc [.ref (a 0), .int p0, .ref o] (Pr D z ts z0 (wO z o g ++ wT z layX a tl σ) sz)) (Qx D (wO z o (vp_updL g 0 r.toInt64) ++ wT z layX a tl σ') (some (.int 0)) (va_A (wO z o g ++ wT z layX a tl σ) sz)) (fun _ _ _ => False) 0 0 (va_A (wO z o g ++ wT z layX a tl σ) sz) := by
  refine mh_k (own := RL) hpl hyh (Nat.le_of_ble_eq_true rfl) ?_
  intro p e s m below meth c ls hF hlk hr hxt hsz hP hD hl
  subst hsz
  have hl : lv_has ls 4 [(0, .ref (a 0)), (1, .int p0), (2, .ref o)] := hl
  generalize hAe : va_A (wO z o g ++ wT z layX a tl σ) s.heap.size = A at hF hD ⊢
  have hS : va_S A s.heap s.heap [] := va_S.rf
  obtain ⟨hx, hb, hml9, hown, hts, hK, hA, hA0, hSt⟩ := id hF
  refine lv_aload_n hx hb d0 rfl (lv_at hl 2 rfl) ?_
  refine lv_iconst (v := 0) hx hb d1 (by decide) ?_
  refine lv_aload_n hx hb d2 rfl (lv_at hl 0 rfl) ?_
  refine lv_iload_n hx hb d3 rfl (lv_at hl 1 rfl) ?_
  refine la_call (lay := layX) (ci := 6) (fds := [some 32, some 1, some 2, some 16, some 43, some 57, some 45, none, none]) (vs' := [.inl p0]) (rest := [.int 0, .ref o]) hF hC hcode hml hins hsel hini hd ⟨by show dly + 1 ≤ 13; omega, by show 8 + (nLy + 11) + 37 * dly ≤ 37 * 13; omega⟩ rfl hcl h hP hD hS hl.1 (Nat.le_of_ble_eq_true rfl) rfl rfl di ⟨Nat.le_refl _, Nat.le_refl _⟩ (fun H1 locs1 hP1 hD1 hS1 => ?_)
  refine lv_i2l hx hb dl9 rfl ?_
  refine va_last hx hb hK hP1 hD1 hS1 0 3 rfl rfl (inb_vp rfl) ds (fun H2 locs2 hP2 hD2 hS2 => ?_)
  refine lv_goto hx hb dg (tgt := 15) (by decide) ?_
  refine lv_iconst (v := 0) hx hb dk (by decide) ?_
  exact W.iret hx hb hr (fun t ht hW => ⟨rfl, by rw [ht]; exact hP2, hS2.F ht⟩) hS2.2.2 dr hlk
theorem hp1t (hpl : plainName yh.cls = true) (hyh : yh.cls = RL) (hC : Ct l y cy nLy rty dly layX f) (hcode : Cond.code y cy nLy rty ∈ gtb) (hml : Cond.methodLink RL index y ∈ gtb) (hins : Cond.instanceMethod y ∈ gtb) (hsel : Cond.selects y.cls y y ∈ gtb) (hini : Cond.initialized y.cls ∈ gtb)
    (hd : y.cls ≠ "java/lang/invoke/MethodHandle" ∧ y.cls ≠ "java/lang/invoke/VarHandle" ∧ (parseMethodDescriptor y.desc).map (fun d => d.parameters.length) = some 1) (hdl : dly + 1 ≤ 13 ∧ nLy ≤ 18) (hcl : vwCl[6]? = some (y.cls, T, N))
    (d0 : decode ch 0 = .ok (.aload_n 2, 1)) (d1 : decode ch 1 = .ok (.iconst 0, 1)) (d2 : decode ch 2 = .ok (.aload_n 0, 1)) (d3 : decode ch 3 = .ok (.iload_n 1, 1)) (di : decode ch 4 = .ok (.invokevirtual index, 3)) (da : decode ch 12 = .ok (.astore_n 3, 1)) (dk : decode ch 13 = .ok (.iconst 1, 1)) (dr : decode ch 14 = .ok (.ireturn, 1)) (hk0 : k0 ≠ 0) (hlink : Cond.classLink RL k0 "java/lang/IndexOutOfBoundsException" ∈ gtb)
    (h : f (.inr (.inl 0) :: [.inl p0]) σ = some (none, σ')) :
    vx_Met l yh (.codeWith yh ch 4 (some .int) [(0, 9, 12, k0)] :: gtb) (rmD 13 1 6) (va_Pc [.ref (a 0), .int p0, .ref o] (Pr D z ts z0 (wO z o g ++ wT z layX a tl σ) sz)) (Qx D (wO z o g ++ wT z layX a tl σ') (some (.int 1)) (va_A (wO z o g ++ wT z layX a tl σ) sz)) (fun _ _ _ => False) 1 6 (va_A (wO z o g ++ wT z layX a tl σ) sz) := by
  refine mh_k (own := RL) hpl hyh (Nat.le_of_ble_eq_true rfl) ?_
  intro p e s m below meth c ls hF hlk hr hxt hsz hP hD hl
  subst hsz
  have hl : lv_has ls 4 [(0, .ref (a 0)), (1, .int p0), (2, .ref o)] := hl
  generalize hAe : va_A (wO z o g ++ wT z layX a tl σ) s.heap.size = A at hF hD ⊢
  have hS : va_S A s.heap s.heap [] := va_S.rf
  obtain ⟨hx, hb, hml9, hown, hts, hK, hA, hA0, hSt⟩ := id hF
  refine lv_aload_n hx hb d0 rfl (lv_at hl 2 rfl) ?_
  refine lv_iconst (v := 0) hx hb d1 (by decide) ?_
  refine lv_aload_n hx hb d2 rfl (lv_at hl 0 rfl) ?_
  refine lv_iload_n hx hb d3 rfl (lv_at hl 1 rfl) ?_
  refine lax_call (lay := layX) (ci := 6) (fds := [some 32, some 1, some 2, some 16, some 43, some 57, some 45, none, none]) (vs' := [.inl p0]) (rest := [.int 0, .ref o]) hF hC hcode hml hins hsel hini hd ⟨by show dly + 1 ≤ 13; omega, by show 8 + (nLy + 11) + 37 * dly ≤ 37 * 13; omega⟩ rfl hcl h hP hD hS hl.1 (Nat.le_of_ble_eq_true rfl) rfl rfl di ⟨Nat.le_refl _, Nat.le_refl _⟩ hxt rfl hk0 hlink (fun q H1 locs1 hP1 hD1 hS1 => ?_)
  refine lv_astore_n hx hb da rfl hl (by decide) rfl (fun ls' hl' => ?_)
  refine lv_iconst (v := 1) hx hb dk (by decide) ?_
  exact W.iret hx hb hr (fun t ht hW => ⟨rfl, by rw [ht]; exact hP1, hS1.F ht⟩) hS1.2.2 dr hlk
theorem hp2r (hpl : plainName yh.cls = true) (hyh : yh.cls = RL) (hC : Ct l y cy nLy rty dly layX f) (hcode : Cond.code y cy nLy rty ∈ gtb) (hml : Cond.methodLink RL index y ∈ gtb) (hins : Cond.instanceMethod y ∈ gtb) (hsel : Cond.selects y.cls y y ∈ gtb) (hini : Cond.initialized y.cls ∈ gtb)
    (hd : y.cls ≠ "java/lang/invoke/MethodHandle" ∧ y.cls ≠ "java/lang/invoke/VarHandle" ∧ (parseMethodDescriptor y.desc).map (fun d => d.parameters.length) = some 2) (hdl : dly + 1 ≤ 13 ∧ nLy ≤ 18) (hcl : vwCl[6]? = some (y.cls, T, N))
    (d0 : decode ch 0 = .ok (.aload_n 3, 1)) (d1 : decode ch 1 = .ok (.iconst 0, 1)) (d2 : decode ch 2 = .ok (.aload_n 0, 1)) (d3 : decode ch 3 = .ok (.iload_n 1, 1)) (d4 : decode ch 4 = .ok (.iload_n 2, 1)) (di : decode ch 5 = .ok (.invokevirtual index, 3)) (dl9 : decode ch 8 = .ok (.i2l, 1)) (ds : decode ch 9 = .ok (.lastore, 1)) (dg : decode ch 10 = .ok (.goto 7, 3)) (dk : decode ch 17 = .ok (.iconst 0, 1)) (dr : decode ch 18 = .ok (.ireturn, 1))
    (h : f (.inr (.inl 0) :: [.inl p0, .inl p1]) σ = some (some (some (.inl r)), σ')) :
    vx_Met l yh (.codeWith yh ch 5 (some .int) [(0, 10, 13, k0)] :: gtb) (rmD 13 0 0) (va_Pc [.ref (a 0), .int p0, .int p1, .ref o] (Pr D z ts z0 (wO z o g ++ wT z layX a tl σ) sz)) (Qx D (wO z o (vp_updL g 0 r.toInt64) ++ wT z layX a tl σ') (some (.int 0)) (va_A (wO z o g ++ wT z layX a tl σ) sz)) (fun _ _ _ => False) 0 0 (va_A (wO z o g ++ wT z layX a tl σ) sz) := by
  refine mh_k (own := RL) hpl hyh (Nat.le_of_ble_eq_true rfl) ?_
  intro p e s m below meth c ls hF hlk hr hxt hsz hP hD hl
  subst hsz
  have hl : lv_has ls 5 [(0, .ref (a 0)), (1, .int p0), (2, .int p1), (3, .ref o)] := hl
  generalize hAe : va_A (wO z o g ++ wT z layX a tl σ) s.heap.size = A at hF hD ⊢
  have hS : va_S A s.heap s.heap [] := va_S.rf
  obtain ⟨hx, hb, hml9, hown, hts, hK, hA, hA0, hSt⟩ := id hF
  refine lv_aload_n hx hb d0 rfl (lv_at hl 3 rfl) ?_
  refine lv_iconst (v := 0) hx hb d1 (by decide) ?_
  refine lv_aload_n hx hb d2 rfl (lv_at hl 0 rfl) ?_
  refine lv_iload_n hx hb d3 rfl (lv_at hl 1 rfl) ?_
  refine lv_iload_n hx hb d4 rfl (lv_at hl 2 rfl) ?_
  refine la_call (lay := layX) (ci := 6) (fds := [some 32, some 1, some 2, some 16, some 43, some 57, some 45, none, none]) (vs' := [.inl p0, .inl p1]) (rest := [.int 0, .ref o]) hF hC hcode hml hins hsel hini hd ⟨by show dly + 1 ≤ 13; omega, by show 8 + (nLy + 11) + 37 * dly ≤ 37 * 13; omega⟩ rfl hcl h hP hD hS hl.1 (Nat.le_of_ble_eq_true rfl) rfl rfl di ⟨Nat.le_refl _, Nat.le_refl _⟩ (fun H1 locs1 hP1 hD1 hS1 => ?_)
  refine lv_i2l hx hb dl9 rfl ?_
  refine va_last hx hb hK hP1 hD1 hS1 0 3 rfl rfl (inb_vp rfl) ds (fun H2 locs2 hP2 hD2 hS2 => ?_)
  refine lv_goto hx hb dg (tgt := 17) (by decide) ?_
  refine lv_iconst (v := 0) hx hb dk (by decide) ?_
  exact W.iret hx hb hr (fun t ht hW => ⟨rfl, by rw [ht]; exact hP2, hS2.F ht⟩) hS2.2.2 dr hlk
theorem hp2t (hpl : plainName yh.cls = true) (hyh : yh.cls = RL) (hC : Ct l y cy nLy rty dly layX f) (hcode : Cond.code y cy nLy rty ∈ gtb) (hml : Cond.methodLink RL index y ∈ gtb) (hins : Cond.instanceMethod y ∈ gtb) (hsel : Cond.selects y.cls y y ∈ gtb) (hini : Cond.initialized y.cls ∈ gtb)
    (hd : y.cls ≠ "java/lang/invoke/MethodHandle" ∧ y.cls ≠ "java/lang/invoke/VarHandle" ∧ (parseMethodDescriptor y.desc).map (fun d => d.parameters.length) = some 2) (hdl : dly + 1 ≤ 13 ∧ nLy ≤ 18) (hcl : vwCl[6]? = some (y.cls, T, N))
    (d0 : decode ch 0 = .ok (.aload_n 3, 1)) (d1 : decode ch 1 = .ok (.iconst 0, 1)) (d2 : decode ch 2 = .ok (.aload_n 0, 1)) (d3 : decode ch 3 = .ok (.iload_n 1, 1)) (d4 : decode ch 4 = .ok (.iload_n 2, 1)) (di : decode ch 5 = .ok (.invokevirtual index, 3)) (da : decode ch 13 = .ok (.astore 4, 2)) (dk : decode ch 15 = .ok (.iconst 1, 1)) (dr : decode ch 16 = .ok (.ireturn, 1)) (hk0 : k0 ≠ 0) (hlink : Cond.classLink RL k0 "java/lang/IndexOutOfBoundsException" ∈ gtb)
    (h : f (.inr (.inl 0) :: [.inl p0, .inl p1]) σ = some (none, σ')) :
    vx_Met l yh (.codeWith yh ch 5 (some .int) [(0, 10, 13, k0)] :: gtb) (rmD 13 1 6) (va_Pc [.ref (a 0), .int p0, .int p1, .ref o] (Pr D z ts z0 (wO z o g ++ wT z layX a tl σ) sz)) (Qx D (wO z o g ++ wT z layX a tl σ') (some (.int 1)) (va_A (wO z o g ++ wT z layX a tl σ) sz)) (fun _ _ _ => False) 1 6 (va_A (wO z o g ++ wT z layX a tl σ) sz) := by
  refine mh_k (own := RL) hpl hyh (Nat.le_of_ble_eq_true rfl) ?_
  intro p e s m below meth c ls hF hlk hr hxt hsz hP hD hl
  subst hsz
  have hl : lv_has ls 5 [(0, .ref (a 0)), (1, .int p0), (2, .int p1), (3, .ref o)] := hl
  generalize hAe : va_A (wO z o g ++ wT z layX a tl σ) s.heap.size = A at hF hD ⊢
  have hS : va_S A s.heap s.heap [] := va_S.rf
  obtain ⟨hx, hb, hml9, hown, hts, hK, hA, hA0, hSt⟩ := id hF
  refine lv_aload_n hx hb d0 rfl (lv_at hl 3 rfl) ?_
  refine lv_iconst (v := 0) hx hb d1 (by decide) ?_
  refine lv_aload_n hx hb d2 rfl (lv_at hl 0 rfl) ?_
  refine lv_iload_n hx hb d3 rfl (lv_at hl 1 rfl) ?_
  refine lv_iload_n hx hb d4 rfl (lv_at hl 2 rfl) ?_
  refine lax_call (lay := layX) (ci := 6) (fds := [some 32, some 1, some 2, some 16, some 43, some 57, some 45, none, none]) (vs' := [.inl p0, .inl p1]) (rest := [.int 0, .ref o]) hF hC hcode hml hins hsel hini hd ⟨by show dly + 1 ≤ 13; omega, by show 8 + (nLy + 11) + 37 * dly ≤ 37 * 13; omega⟩ rfl hcl h hP hD hS hl.1 (Nat.le_of_ble_eq_true rfl) rfl rfl di ⟨Nat.le_refl _, Nat.le_refl _⟩ hxt rfl hk0 hlink (fun q H1 locs1 hP1 hD1 hS1 => ?_)
  refine lv_astore hx hb da hl (by decide) rfl (fun ls' hl' => ?_)
  refine lv_iconst (v := 1) hx hb dk (by decide) ?_
  exact W.iret hx hb hr (fun t ht hW => ⟨rfl, by rw [ht]; exact hP1, hS1.F ht⟩) hS1.2.2 dr hlk
end HP
