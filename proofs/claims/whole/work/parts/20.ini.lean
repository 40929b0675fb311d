/-! a constructor called on a fresh cell -/
section INI
variable {p : Program} {l : Launch} {e : Env} {R : Room} {s : State} {m : MethodId} {args : Array Value} {below : List Frame} {meth : Method} {c : Code} {H : Heap} {locs : List Loc} {cells slots : Nat} {Q : State → Prop} {cc : ByteArray} {pc nL : Nat} {ls : Array Slot} {rest As : List Value} {A : Nat → Prop} {D : va_G} {z : Nat → ClassId} {ts : Nat → Nat} {z0 : Nat} {W0 : va_W} {own : String}
variable {y : MethodName} {cy : ByteArray} {nLy dly mc ms index n q : Nat} {e0 : va_E} {w1 : (Nat → Nat) → va_W} {post : (Nat → Nat) → Prop}
/-- what holds all through a constructor's run -/
def Fn (p : Program) (s : State) (m : MethodId) (args : Array Value) (c : Code) (D : va_G) (z : Nat → ClassId) (ts : Nat → Nat) (z0 : Nat) (A : Nat → Prop) (own : String) (cc : ByteArray) (nL : Nat) : Prop :=
  p.tables.exec = Jvm.exec ∧ c.code = cc ∧ c.maxLocals = nL ∧ s.vm.findClass own = some m.cls ∧ (∀ w ∈ gtb, w.before args s = true) ∧ va_K D vwCl (tyl z) s ∧ (∀ q, s.heap.size ≤ q → A q) ∧ (∀ q, A q → z0 ≤ q) ∧ Sta ts (fun q => z0 ≤ q) s
theorem one_get {x0 x : Nat × va_E} {k : Nat} (h : [x0][k]? = some x) : k = 0 ∧ x = x0 := by
  cases k with
  | zero => exact ⟨rfl, (Option.some.inj h).symm⟩
  | succ k => simp at h
theorem ini_pre (hF : Fn p s m args c D z ts z0 A own cc nL) (hP : va_P D vwCl (W0 ++ [(q, e0)]) H) (hD : va_D A (W0 ++ [(q, e0)])) (hS : va_S A s.heap H locs) {as : List Value} : ∀ U : State, U.heap = H → s.WarmedH U.vm → va_Pc as (Pr D z ts z0 [(q, e0)] H.size) as.toArray U := by
  obtain ⟨hx, hb, hml, hown, hts, hK, hA, hA0, hSt⟩ := hF
  have hq : (W0 ++ [(q, e0)])[W0.length]? = some (q, e0) := by simp
  have hPc : va_P D vwCl [(q, e0)] H := fun k x hk => by rw [(one_get hk).2]; exact hP _ _ hq
  have hDc : va_D (fun q => z0 ≤ q) [(q, e0)] := ⟨fun i j x y9 hi hj _ => by rw [(one_get hi).1, (one_get hj).1], fun k x hk => by rw [(one_get hk).2]; exact hA0 _ (hD.2 _ _ hq)⟩
  intro U hU hW
  exact ⟨rfl, by rw [hU], by rw [hU]; exact hPc, va_K.moved hW.alike hK, hDc, Nat.le_trans (hA0 _ (hA _ (Nat.le_refl _))) hS.1, hSt.at (fun q h1 h2 => hS.2.1 q h1 (fun h => h2 (hA0 q h))) hU hW (fun _ h => h)⟩
theorem ini_free (hF : Fn p s m args c D z ts z0 A own cc nL) (hD : va_D A (W0 ++ [(q, e0)])) (hS : va_S A s.heap H locs) : ∀ x, va_A [(q, e0)] H.size x → A x := by
  obtain ⟨hx, hb, hml, hown, hts, hK, hA, hA0, hSt⟩ := hF
  have hq : (W0 ++ [(q, e0)])[W0.length]? = some (q, e0) := by simp
  rintro x (⟨k, e9, hk⟩ | h)
  · have h9 := (one_get hk).2
    have h8 : x = q := congrArg Prod.fst h9
    rw [h8]
    exact hD.2 _ _ hq
  · exact hA x (Nat.le_trans hS.1 h)
theorem ini_go (hF : Fn p s m args c D z ts z0 A own cc nL) (hP : va_P D vwCl (W0 ++ [(q, e0)]) H) (hD : va_D A (W0 ++ [(q, e0)])) (hS : va_S A s.heap H locs)
    (hr : va_Run p l e R s m args below meth c H locs cells slots mc ms (F0 m pc ls (As.reverse ++ .ref q :: rest)) rest (va_Qv post (fun a t => va_P D vwCl (w1 a) t.heap ∧ va_D (va_A [(q, e0)] H.size) (w1 a)) (va_A [(q, e0)] H.size) (Value.ref q :: As).toArray) (va_A [(q, e0)] H.size))
    (kk : ∀ (a : Nat → Nat) (H1 : Heap) (locs1 : List Loc), post a → va_P D vwCl (W0 ++ w1 a) H1 → va_D A (W0 ++ w1 a) → va_S A s.heap H1 locs1 → W p l e R s m args below meth c H1 locs1 (cells + mc) (slots + ms) Q (F0 m (pc + 3) ls rest)) :
    W p l e R s m args below meth c H locs cells slots Q (F0 m pc ls (As.reverse ++ .ref q :: rest)) := by
  have hf := ini_free hF hD hS
  refine va_callv hr hS (fun q _ h => hf q h) hf (fun a t H1 locs1 ht hvm hp hB hz1 hk1 hS1 => ?_)
  obtain ⟨hP1, hD1⟩ := hB
  rw [ht] at hP1
  obtain ⟨hP2, hD2⟩ := join_r hP hD hk1 hf hP1 hD1
  exact kk a H1 locs1 hp hP2 hD2 hS1
theorem ini_c (hF : Fn p s m args c D z ts z0 A own cc nL) (hM : Met l y (.code y cy nLy none :: gtb) (rmD dly mc ms) (va_Pc (.ref q :: As) (Pr D z ts z0 [(q, e0)] H.size)) (va_Qv post (fun a t => va_P D vwCl (w1 a) t.heap ∧ va_D (va_A [(q, e0)] H.size) (w1 a)) (va_A [(q, e0)] H.size)) mc ms (va_A [(q, e0)] H.size))
    (hP : va_P D vwCl (W0 ++ [(q, e0)]) H) (hD : va_D A (W0 ++ [(q, e0)])) (hS : va_S A s.heap H locs)
    (hcode : Cond.code y cy nLy none ∈ gtb) (hml : Cond.methodLink own index y ∈ gtb) (hins : Cond.instanceMethod y ∈ gtb) (hini : Cond.initialized y.cls ∈ gtb) (hy1 : y.name = "<init>") (hd : y.cls ≠ "java/lang/invoke/MethodHandle" ∧ y.cls ≠ "java/lang/invoke/VarHandle" ∧ (parseMethodDescriptor y.desc).map (fun d => d.parameters.length) = some n)
    (hR : dly + 1 ≤ R.frames ∧ 8 + (nLy + 11) + 37 * dly ≤ R.locals) (hn : As.length = n) (hls : ls.size = nL) (hrest : (rest.map fun v => v.category).sum ≤ 8) (hdg : decode cc pc = .ok (.invokespecial index, 3)) (hf : cells + mc ≤ R.cells ∧ slots + ms ≤ R.slots)
    (kk : ∀ (a : Nat → Nat) (H1 : Heap) (locs1 : List Loc), post a → va_P D vwCl (W0 ++ w1 a) H1 → va_D A (W0 ++ w1 a) → va_S A s.heap H1 locs1 → W p l e R s m args below meth c H1 locs1 (cells + mc) (slots + ms) Q (F0 m (pc + 3) ls rest)) :
    W p l e R s m args below meth c H locs cells slots Q (F0 m pc ls (As.reverse ++ .ref q :: rest)) := by
  obtain ⟨hx, hb, hml9, hown, hts, hK, hA, hA0, hSt⟩ := id hF
  exact ini_go hF hP hD hS (va_runI (As := As) (rest := rest) ⟨hx, hb, hml9, hown, hts⟩ hM (cwI n hts (gtb_in (gtb_c hcode)) rfl rfl rfl (hts _ hini) (hts _ hml) (hts _ hins) hy1 hd hR) ⟨Pr_blind, ini_pre hF hP hD hS⟩ rfl hn hls rfl (lv_room hrest) hdg hf) kk
theorem ini_cn {host : String} (hF : Fn p s m args c D z ts z0 A own cc nL) (hM : Met l y (.code y cy nLy none :: gtb) (rmD dly mc ms) (va_Pc (.ref q :: As) (Pr D z ts z0 [(q, e0)] H.size)) (va_Qv post (fun a t => va_P D vwCl (w1 a) t.heap ∧ va_D (va_A [(q, e0)] H.size) (w1 a)) (va_A [(q, e0)] H.size)) mc ms (va_A [(q, e0)] H.size))
    (hP : va_P D vwCl (W0 ++ [(q, e0)]) H) (hD : va_D A (W0 ++ [(q, e0)])) (hS : va_S A s.heap H locs)
    (hcode : Cond.code y cy nLy none ∈ gtb) (hml : ∀ U : State, Nst U → va_Nw (.methodLinkNest own index y host) U) (hins : Cond.instanceMethod y ∈ gtb) (hini : Cond.initialized y.cls ∈ gtb) (hy1 : y.name = "<init>") (hd : y.cls ≠ "java/lang/invoke/MethodHandle" ∧ y.cls ≠ "java/lang/invoke/VarHandle" ∧ (parseMethodDescriptor y.desc).map (fun d => d.parameters.length) = some n)
    (hR : dly + 1 ≤ R.frames ∧ 8 + (nLy + 11) + 37 * dly ≤ R.locals) (hn : As.length = n) (hls : ls.size = nL) (hrest : (rest.map fun v => v.category).sum ≤ 8) (hdg : decode cc pc = .ok (.invokespecial index, 3)) (hf : cells + mc ≤ R.cells ∧ slots + ms ≤ R.slots)
    (kk : ∀ (a : Nat → Nat) (H1 : Heap) (locs1 : List Loc), post a → va_P D vwCl (W0 ++ w1 a) H1 → va_D A (W0 ++ w1 a) → va_S A s.heap H1 locs1 → W p l e R s m args below meth c H1 locs1 (cells + mc) (slots + ms) Q (F0 m (pc + 3) ls rest)) :
    W p l e R s m args below meth c H locs cells slots Q (F0 m pc ls (As.reverse ++ .ref q :: rest)) := by
  obtain ⟨hx, hb, hml9, hown, hts, hK, hA, hA0, hSt⟩ := id hF
  exact ini_go hF hP hD hS (va_runIN (As := As) (rest := rest) (host := host) ⟨hx, hb, hml9, hown, hts⟩ hM ⟨va_cnB n hts (gtb_in (gtb_c hcode)) rfl rfl rfl (hml s hSt.2.1) (hts _ hini) hd hR, hy1, hts _ hins⟩ ⟨Pr_blind, ini_pre hF hP hD hS⟩ rfl hn hls rfl (lv_room hrest) hdg hf) kk
end INI
