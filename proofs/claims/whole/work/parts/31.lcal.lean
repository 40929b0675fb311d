/-! calls with a part of the world left aside -/
section LCAL
variable {p : Program} {l : Launch} {e : Env} {R : Room} {s : State} {m : MethodId} {args : Array Value} {below : List Frame} {meth : Method} {c : Code} {D : va_G} {z : Nat → ClassId} {ts : Nat → Nat} {z0 : Nat} {lay : List Shp} {a : Nat → Nat} {tl : va_W} {A : Nat → Prop} {own : String} {cc : ByteArray} {nL : Nat} {H : Heap} {locs : List Loc} {ls : Array Slot} {pc : Nat} {st0 rest : List Value} {Q : State → Prop} {cells slots mc ms : Nat} {σ σ' : Mm} {w0 wc : va_W}
variable {y : MethodName} {cy : ByteArray} {nLy dly index nA ci N : Nat} {rty : Option FieldType} {f : List Vv → Mm → Option Ou} {vs' : List Vv} {r : Int32} {T : u_T} {fds : List (Option Nat)}
theorem sub_P (hP : va_P D vwCl (w0 ++ wc) H) : va_P D vwCl wc H := fun k q hk => hP (w0.length + k) q (by rw [List.getElem?_append_right (by omega), Nat.add_sub_cancel_left]; exact hk)
theorem sub_D (hD : va_D A (w0 ++ wc)) : va_D A wc := by
  obtain ⟨h1, h2⟩ := D_nodup.mp hD
  rw [List.map_append] at h1
  exact D_nodup.mpr ⟨(List.nodup_append.mp h1).2.1, fun q hq => h2 q (List.mem_append_right _ hq)⟩
theorem fn_pre (hF : Fn p s m args c D z ts z0 A own cc nL) (hP : va_P D vwCl wc H) (hD : va_D A wc) (hS : va_S A s.heap H locs) {as : List Value} : ∀ U : State, U.heap = H → s.WarmedH U.vm → va_Pc as (Pr D z ts z0 wc H.size) as.toArray U := by
  obtain ⟨hx, hb, hml, hown, hts, hK, hA, hA0, hSt⟩ := hF
  intro U hU hW
  exact ⟨rfl, by rw [hU], by rw [hU]; exact hP, va_K.moved hW.alike hK, hD.weaken (fun _ _ _ h => hA0 _ h), Nat.le_trans (hA0 _ (hA _ (Nat.le_refl _))) hS.1, hSt.at (fun q h1 h2 => hS.2.1 q h1 (fun h => h2 (hA0 q h))) hU hW (fun _ h => h)⟩
theorem fn_free (hF : Fn p s m args c D z ts z0 A own cc nL) (hD : va_D A wc) (hS : va_S A s.heap H locs) : ∀ q, va_A wc H.size q → A q := by
  obtain ⟨hx, hb, hml, hown, hts, hK, hA, hA0, hSt⟩ := hF
  rintro q (⟨k9, e9, hk9⟩ | h9)
  · exact hD.2 _ _ hk9
  · exact hA q (Nat.le_trans hS.1 h9)
/-- a plain method of an object, called with the cells w0 left aside -/
theorem la_call (hF : Fn p s m args c D z ts z0 A own cc nL) (hC : Ct l y cy nLy rty dly lay f) (hcode : Cond.code y cy nLy rty ∈ gtb) (hml : Cond.methodLink own index y ∈ gtb) (hins : Cond.instanceMethod y ∈ gtb) (hsel : Cond.selects y.cls y y ∈ gtb) (hini : Cond.initialized y.cls ∈ gtb)
    (hd : y.cls ≠ "java/lang/invoke/MethodHandle" ∧ y.cls ≠ "java/lang/invoke/VarHandle" ∧ (parseMethodDescriptor y.desc).map (fun d => d.parameters.length) = some nA) (hR : dly + 1 ≤ R.frames ∧ 8 + (nLy + 11) + 37 * dly ≤ R.locals) (hrecv : lay[0]? = some (.inr (ci, fds))) (hcl : vwCl[ci]? = some (y.cls, T, N))
    (h : f (.inr (.inl 0) :: vs') σ = some (some (some (.inl r)), σ')) (hP : va_P D vwCl (w0 ++ wT z lay a tl σ) H) (hD : va_D A (w0 ++ wT z lay a tl σ)) (hS : va_S A s.heap H locs) (hls : ls.size = nL) (hrest : (rest.map fun v => v.category).sum ≤ 8) (hn : vs'.length = nA) (hstk : st0 = (vs'.map (cv a ts)).reverse ++ .ref (a 0) :: rest) (hdg : decode cc pc = .ok (.invokevirtual index, 3)) (hf : cells ≤ R.cells ∧ slots ≤ R.slots)
    (kk : ∀ (H1 : Heap) (locs1 : List Loc), va_P D vwCl (w0 ++ wT z lay a tl σ') H1 → va_D A (w0 ++ wT z lay a tl σ') → va_S A s.heap H1 locs1 → W p l e R s m args below meth c H1 locs1 cells slots Q (F0 m (pc + 3) ls (.int r :: rest))) : W p l e R s m args below meth c H locs cells slots Q (F0 m pc ls st0) := by
  have hPc := sub_P hP
  have hDc := sub_D hD
  have hpre := fn_pre hF hPc hDc hS (as := Value.ref (a 0) :: vs'.map (cv a ts))
  have hfr := fn_free hF hDc hS
  obtain ⟨hx, hb, hml9, hown, hts, hK, hA, hA0, hSt⟩ := id hF
  have hM := (hC D z ts z0 a tl (.inr (.inl 0) :: vs') σ σ' H.size).1 (some (.inl r)) h
  refine call_go (v := some (.int r)) (va_runV (As := vs'.map (cv a ts)) (rest := rest) (C := y.cls) ⟨hx, hb, hml9, hown, hts⟩ hM
    (cwV nA hts (gtb_in (fun w hw => by
      rcases List.mem_append.mp hw with hw | hw
      · simp only [List.mem_cons, List.not_mem_nil, or_false] at hw
        rcases hw with rfl | rfl | rfl | rfl <;> assumption
      · exact gtb_c hcode w hw)) rfl rfl rfl ⟨rfl, hd⟩ hR)
    ⟨Pr_blind, va_recv hK hPc (q0 := 0) hcl (wT_get hrecv), hpre⟩ rfl (by rw [List.length_map]; exact hn) hls hstk (lv_room hrest) hdg hf) hS hfr (fun H1 locs1 hP1 hk1 hS1 => ?_)
  obtain ⟨hP2, hD2⟩ := join_r hP hD hk1 hfr hP1 (va_D_fst (wT_len σ σ') (hDc.self (sz := H.size)))
  exact kk H1 locs1 hP2 hD2 hS1
/-- a method that changes the kept forges, called with the cells w0 left aside -/
theorem lk_call {n n' : Nat} {ρ ρ' : Nat → Mm} (hF : Fn p s m args c D z ts z0 A own cc nL) (hM : Met l y (.code y cy nLy rty :: gtb) (rmD dly mc ms) (va_Pc (.ref (a 0) :: vs'.map (cv a ts)) (Pr D z ts z0 (wT z layX a (ktl z a n ρ) σ) H.size)) (Qk D z n' ρ' σ' (some (.int r)) a n (va_A (wT z layX a (ktl z a n ρ) σ) H.size)) mc ms (va_A (wT z layX a (ktl z a n ρ) σ) H.size))
    (hcode : Cond.code y cy nLy rty ∈ gtb) (hml : Cond.methodLink own index y ∈ gtb) (hins : Cond.instanceMethod y ∈ gtb) (hsel : Cond.selects y.cls y y ∈ gtb) (hini : Cond.initialized y.cls ∈ gtb)
    (hd : y.cls ≠ "java/lang/invoke/MethodHandle" ∧ y.cls ≠ "java/lang/invoke/VarHandle" ∧ (parseMethodDescriptor y.desc).map (fun d => d.parameters.length) = some nA) (hR : dly + 1 ≤ R.frames ∧ 8 + (nLy + 11) + 37 * dly ≤ R.locals) (hcl : vwCl[6]? = some (y.cls, T, N))
    (hP : va_P D vwCl (w0 ++ wT z layX a (ktl z a n ρ) σ) H) (hD : va_D A (w0 ++ wT z layX a (ktl z a n ρ) σ)) (hS : va_S A s.heap H locs) (hls : ls.size = nL) (hrest : (rest.map fun v => v.category).sum ≤ 8) (hn : vs'.length = nA) (hstk : st0 = (vs'.map (cv a ts)).reverse ++ .ref (a 0) :: rest) (hdg : decode cc pc = .ok (.invokevirtual index, 3)) (hf : cells + mc ≤ R.cells ∧ slots + ms ≤ R.slots)
    (kk : ∀ (a' : Nat → Nat) (H1 : Heap) (locs1 : List Loc), (∀ j, j < 69 + 11 * n → a' j = a j) → va_P D vwCl (w0 ++ wT z layX a' (ktl z a' n' ρ') σ') H1 → va_D A (w0 ++ wT z layX a' (ktl z a' n' ρ') σ') → va_S A s.heap H1 locs1 → W p l e R s m args below meth c H1 locs1 (cells + mc) (slots + ms) Q (F0 m (pc + 3) ls (.int r :: rest))) : W p l e R s m args below meth c H locs cells slots Q (F0 m pc ls st0) := by
  have hPc := sub_P hP
  have hDc := sub_D hD
  have hpre := fn_pre hF hPc hDc hS (as := Value.ref (a 0) :: vs'.map (cv a ts))
  have hfr := fn_free hF hDc hS
  obtain ⟨hx, hb, hml9, hown, hts, hK, hA, hA0, hSt⟩ := id hF
  have hr := va_runV (l := l) (e := e) (R := R) (below := below) (meth := meth) (locs := locs) (cells := cells) (slots := slots) (As := vs'.map (cv a ts)) (rest := rest) (C := y.cls) (g := F0 m pc ls st0) ⟨hx, hb, hml9, hown, hts⟩ hM
    (cwV nA hts (gtb_in (fun w hw => by
      rcases List.mem_append.mp hw with hw | hw
      · simp only [List.mem_cons, List.not_mem_nil, or_false] at hw
        rcases hw with rfl | rfl | rfl | rfl <;> assumption
      · exact gtb_c hcode w hw)) rfl rfl rfl ⟨rfl, hd⟩ hR)
    ⟨Pr_blind, va_recv hK hPc (q0 := 0) hcl (wT_get (k := 0) (sh := .inr (6, [some 32, some 1, some 2, some 16, some 43, some 57, some 45, none, none])) rfl), hpre⟩ rfl (by rw [List.length_map]; exact hn) hls hstk (lv_room hrest) hdg hf
  intro T hT X
  obtain ⟨v9, st₀, t, T', L, h0, X', hL, e1, e2, ⟨⟨a', hv, hp, hP1, hD1⟩, hz, hk⟩, st⟩ := hr T hT X
  cases hv
  rw [h0] at hz hk
  obtain ⟨hP2, hD2⟩ := join_r (H1 := T'.heap) hP hD (fun q h1 h2 => by rw [e1]; exact hk q h1 h2) hfr (by rw [e1]; exact hP1) hD1
  obtain ⟨t2, a1, b1⟩ := kk a' T'.heap (locs ++ L) hp hP2 hD2
    ⟨Nat.le_trans hS.1 (by rw [e1]; exact hz), fun q h1 h2 => by rw [e1, hk q (Nat.lt_of_lt_of_le h1 hS.1) (fun z => h2 (hfr q z))]; exact hS.2.1 q h1 h2, fun q hq => by
      rcases List.mem_append.mp hq with h | h
      · exact hS.2.2 q h
      · exact hfr _ (hL q h)⟩ T' rfl X'
  exact ⟨t2, st t2 a1, b1⟩
end LCAL
