/-! steps that call -/
def onI (r : Option Ou) (th : Mm → Option Ou) (κ : Int32 → Mm → Option Ou) : Option Ou := match r with
  | some (some (some (.inl x)), τ) => κ x τ
  | some (none, τ) => th τ
  | _ => none
def onV (r : Option Ou) (th : Mm → Option Ou) (κ : Mm → Option Ou) : Option Ou := match r with
  | some (some none, τ) => κ τ
  | some (none, τ) => th τ
  | _ => none
def onA (r : Option Ou) (jx : Nat) (th : Mm → Option Ou) (κ : Mm → Option Ou) : Option Ou := match r with
  | some (some (some (.inr (.inl j))), τ) => cond (Nat.beq j jx) (κ τ) none
  | some (none, τ) => th τ
  | _ => none
def tr (g : Sg) : Vv → Option Vv
  | .inl x => some (.inl x)
  | .inr (.inl k) => match g.2 k with
    | some j => some (.inr (.inl j))
    | none => none
  | .inr (.inr t) => some (.inr (.inr t))
def trs (g : Sg) : List Vv → Option (List Vv)
  | [] => some []
  | v :: vs => match tr g v with
    | none => none
    | some w => match trs g vs with
      | none => none
      | some ws => some (w :: ws)
def fst0 : List Vv → Bool
  | .inr (.inl 0) :: _ => true
  | _ => false
/-- the numbers of a call, and what is below them; w: the receiver is the callee's cell 0 -/
def ag (w : Bool) (n : Nat) (st : List Vv) (t : List Vv → Option (List Vv)) (k : List Vv → List Vv → Option Ou) : Option Ou :=
  match t (st.take n).reverse with
  | none => none
  | some vs => cond (Nat.ble (st.drop n).length 8 && Nat.beq (st.take n).length n && (!w || fst0 vs)) (k vs (st.drop n)) none
def s_ci (w : Bool) (pc' n : Nat) (g : Sg) (f : List Vv → Mm → Option Ou) : Sst := fun k lv st σ => ag w n st (trs g) (fun vs r => onI (f vs (pk g σ)) (fun τ => some (none, put g σ τ)) (fun x τ => k pc' lv (.inl x :: r) (put g σ τ)))
def s_cv (w : Bool) (pc' n : Nat) (g : Sg) (f : List Vv → Mm → Option Ou) : Sst := fun k lv st σ => ag w n st (trs g) (fun vs r => onV (f vs (pk g σ)) (fun τ => some (none, put g σ τ)) (fun τ => k pc' lv r (put g σ τ)))
def s_ci0 (w : Bool) (pc' n : Nat) (f : List Vv → Mm → Option Ou) : Sst := fun k lv st σ => ag w n st some (fun vs r => onI (f vs σ) (fun τ => some (none, τ)) (fun x τ => k pc' lv (.inl x :: r) τ))
def s_cv0 (w : Bool) (pc' n : Nat) (f : List Vv → Mm → Option Ou) : Sst := fun k lv st σ => ag w n st some (fun vs r => onV (f vs σ) (fun τ => some (none, τ)) (fun τ => k pc' lv r τ))
def s_ca0 (w : Bool) (pc' n jx : Nat) (f : List Vv → Mm → Option Ou) : Sst := fun k lv st σ => ag w n st some (fun vs r => onA (f vs σ) jx (fun τ => some (none, τ)) (fun τ => k pc' lv (.inr (.inl jx) :: r) τ))
theorem trs_cv {lay layC : List Shp} {g : Sg} {a ts : Nat → Nat} (hC : Cmp lay layC g) : ∀ {vs ws : List Vv}, trs g vs = some ws → ws.map (cv (fun j => a (g.1 j)) ts) = vs.map (cv a ts)
  | [], ws, h => by cases h; rfl
  | v :: vs, ws, h => by
    unfold trs at h
    cases h1 : tr g v with
    | none => rw [h1] at h; cases h
    | some w =>
      rw [h1] at h
      cases h2 : trs g vs with
      | none => rw [h2] at h; cases h
      | some ws2 =>
        rw [h2] at h
        cases h
        rw [List.map_cons, List.map_cons, trs_cv hC h2]
        congr 1
        rcases v with x | k | t
        · cases h1; rfl
        · unfold tr at h1
          dsimp only at h1
          cases h3 : g.2 k with
          | none => rw [h3] at h1; cases h1
          | some j =>
            rw [h3] at h1
            cases h1
            show Value.ref (a (g.1 j)) = Value.ref (a k)
            rw [(hC.2.2 k j h3).1]
        · cases h1; rfl
theorem ag_inv {w : Bool} {n : Nat} {st : List Vv} {t : List Vv → Option (List Vv)} {k : List Vv → List Vv → Option Ou} {o : Ou} (h : ag w n st t k = some o) : ∃ vs, t (st.take n).reverse = some vs ∧ (st.drop n).length ≤ 8 ∧ (st.take n).length = n ∧ (w = true → ∃ vs', vs = .inr (.inl 0) :: vs') ∧ k vs (st.drop n) = some o := by
  unfold ag at h
  cases h1 : t (st.take n).reverse with
  | none => rw [h1] at h; cases h
  | some vs =>
    rw [h1] at h
    dsimp only at h
    cases h2 : (Nat.ble (st.drop n).length 8 && Nat.beq (st.take n).length n && (!w || fst0 vs)) with
    | false => rw [h2] at h; cases h
    | true =>
      rw [h2] at h
      simp only [Bool.and_eq_true, Bool.or_eq_true, Bool.not_eq_true'] at h2
      obtain ⟨⟨h3, h4⟩, h5⟩ := h2
      refine ⟨vs, rfl, Nat.le_of_ble_eq_true h3, Nat.eq_of_beq_eq_true h4, fun hw => ?_, h⟩
      rcases h5 with h5 | h5
      · rw [hw] at h5; cases h5
      · unfold fst0 at h5
        split at h5
        · next vs' => exact ⟨vs', rfl⟩
        · cases h5
theorem gtb_in {L : List Cond} (h : ∀ w ∈ L, w ∈ gtb) : GoodIn gtb L := fun w hw => ⟨h w hw, good_of_word (List.mem_filter.mp (h w hw)).2⟩
theorem gtb_c {y : MethodName} {cy : ByteArray} {n : Nat} {rt : Option FieldType} (h : Cond.code y cy n rt ∈ gtb) : ∀ w ∈ (Cond.code y cy n rt :: gtb), w ∈ gtb := fun w hw => (List.mem_cons.mp hw).elim (fun e => e ▸ h) id
theorem Pr_blind {D : va_G} {z : Nat → ClassId} {ts : Nat → Nat} {z0 : Nat} {w : va_W} {sz : Nat} {as : List Value} : FrameBlind (va_Pc as (Pr D z ts z0 w sz)) := by
  intro a U g mk q
  obtain ⟨h1, h2, h3, h4, h5, h6, h7⟩ := q
  exact ⟨h1, h2, h3, va_K.moved (u := U) (U := U.calling g mk a) (Vm.Alike.refl U.vm) h4, h5, h6, h7.at (U := U.calling g mk a) (fun _ _ _ => rfl) rfl (State.WarmedH.refl U) (fun _ h => h)⟩
section CALLS
variable {p : Program} {l : Launch} {e : Env} {R : Room} {s : State} {m : MethodId} {args : Array Value} {below : List Frame} {meth : Method} {c : Code} {D : va_G} {z : Nat → ClassId} {ts : Nat → Nat} {z0 : Nat} {lay layC : List Shp} {a : Nat → Nat} {tl : va_W} {A A1 : Nat → Prop} {own : String} {cc : ByteArray} {nL dl : Nat} {rt : Option FieldType} {H : Heap} {locs : List Loc} {ls : Array Slot} {pc : Nat} {st0 rest : List Value} {Q : State → Prop} {w1 w2 : va_W} {v : Option Value} {asA : Array Value} {cells slots : Nat}
theorem call_go (hr : va_Run p l e R s m args below meth c H locs cells slots 0 0 (F0 m pc ls st0) rest (Qx D w1 v A1 asA) A1) (hS : va_S A s.heap H locs) (hA1 : ∀ q, A1 q → A q)
    (kk : ∀ (H1 : Heap) (locs1 : List Loc), va_P D vwCl w1 H1 → (∀ q : Nat, q < H.size → ¬ A1 q → H1[q]? = H[q]?) → va_S A s.heap H1 locs1 → W p l e R s m args below meth c H1 locs1 cells slots Q (F0 m (pc + 3) ls (v.toList ++ rest))) : W p l e R s m args below meth c H locs cells slots Q (F0 m pc ls st0) := by
  intro T hT X
  obtain ⟨v9, st₀, t, T', L, h0, X', hL, e1, e2, ⟨hv, hp, hz, hk⟩, st⟩ := hr T hT X
  cases hv
  rw [h0] at hz hk
  obtain ⟨t2, a1, b1⟩ := kk T'.heap (locs ++ L) (by rw [e1]; exact hp) (fun q h1 h2 => by rw [e1]; exact hk q h1 h2)
    ⟨Nat.le_trans hS.1 (by rw [e1]; exact hz), fun q h1 h2 => by rw [e1, hk q (Nat.lt_of_lt_of_le h1 hS.1) (fun z => h2 (hA1 q z))]; exact hS.2.1 q h1 h2, fun q hq => by
      rcases List.mem_append.mp hq with h | h
      · exact hS.2.2 q h
      · exact hA1 _ (hL q h)⟩ T' rfl X'
  exact ⟨t2, st t2 a1, b1⟩
theorem call_th (hr : vx_Run p l e R s m args below meth c H locs 0 0 1 6 (F0 m pc ls st0) rest ((fun _ _ _ _ => False : Array Value → State → Outcome → State → Prop) asA) (Qt D w1 A1) A1) (hS : va_S A s.heap H locs) (hA1 : ∀ q, A1 q → A q) (hxt : ∀ x ∈ c.exceptionTable.toList, False) (hlk : meth.locks = false)
    (kk : ∀ (H1 : Heap), va_P D vwCl w1 H1 → (∀ q : Nat, q < H.size → ¬ A1 q → H1[q]? = H[q]?) → va_P D vwCl w2 H1) : W p l e R s m args below meth c H locs 0 0 (vx_MQ below (fun _ _ _ _ => False) (Qt D w2 A) args s 1 6 A) (F0 m pc ls st0) := by
  intro T hT X
  rcases hr T hT X with ⟨v9, st₀, t, T', L, h0, X', hL, e1, e2, hF, st⟩ | ⟨q, st₀, t, T', L, E, ce, h0, X', hL, e1, e2, ⟨hE, hP1, hF⟩, hce, hcv, hcl, st⟩
  · exact hF.elim
  · obtain ⟨k1, k2, k3⟩ := vx_keep h0 e1 hS (fun q _ h => hA1 q h) hA1 hL hF
    obtain ⟨t2, a1, b1⟩ := vx_out (pc := pc) (E := E) (ce := ce) (q := q) (mc := 1) (ms := 6) (Qc := fun _ _ _ _ => False) (XC := Qt D w2 A) (free := A) (fun x hx => (hxt x hx).elim) hlk (by rw [e1]; exact hce) hcv hcl
      (fun t9 ht9 _ => ⟨hE, by rw [ht9]; exact kk T'.heap (by rw [e1]; exact hP1) k2, k3.F ht9⟩) k3.2.2 (Nat.le_refl _) (Nat.le_refl _) T' rfl X'
    exact ⟨t2, st.trans a1, b1⟩
theorem Fx_z0 (hF : Fx p l R s m args meth c D z ts z0 lay a tl A own cc nL dl rt) (hS : va_S A s.heap H locs) : z0 ≤ H.size := by
  obtain ⟨hx, hb, hml, hown, hts, hK, hD, hA, hA0, hF⟩ := hF
  exact Nat.le_trans (hA0 _ (hA _ (Nat.le_refl _))) hS.1
theorem Fx_pre (hF : Fx p l R s m args meth c D z ts z0 lay a tl A own cc nL dl rt) (hS : va_S A s.heap H locs) {w : va_W} (hPc : va_P D vwCl w H) (hDc : va_D (fun q => z0 ≤ q) w) {as : List Value} : ∀ U : State, U.heap = H → s.WarmedH U.vm → va_Pc as (Pr D z ts z0 w H.size) as.toArray U := by
  have hz := Fx_z0 hF hS
  obtain ⟨hx, hb, hml, hown, hts, hK, hD, hA, hA0, hSt, hF⟩ := hF
  intro U hU hW
  exact ⟨rfl, by rw [hU], by rw [hU]; exact hPc, va_K.moved hW.alike hK, hDc, hz, hSt.at (fun q h1 h2 => hS.2.1 q h1 (fun h => h2 (hA0 q h))) hU hW (fun _ h => h)⟩
variable {y : MethodName} {cy : ByteArray} {nLy dly index : Nat} {rty : Option FieldType} {f : List Vv → Mm → Option Ou} {aC : Nat → Nat} {tlC : va_W} {σC τ : Mm} {vs' : List Vv} {vr : Option Vv} {ci N nA : Nat} {T : u_T} {fds : List (Option Nat)}
theorem run_v (hF : Fx p l R s m args meth c D z ts z0 lay a tl A own cc nL dl rt) (hC : Ct l y cy nLy rty dly layC f) (hcode : Cond.code y cy nLy rty ∈ gtb) (hml : Cond.methodLink own index y ∈ gtb) (hins : Cond.instanceMethod y ∈ gtb) (hsel : Cond.selects y.cls y y ∈ gtb) (hini : Cond.initialized y.cls ∈ gtb)
    (hd : y.cls ≠ "java/lang/invoke/MethodHandle" ∧ y.cls ≠ "java/lang/invoke/VarHandle" ∧ (parseMethodDescriptor y.desc).map (fun d => d.parameters.length) = some nA) (hdl : dly + 1 ≤ dl ∧ nLy ≤ 18) (hrecv : layC[0]? = some (.inr (ci, fds))) (hcl : vwCl[ci]? = some (y.cls, T, N))
    (h : f (.inr (.inl 0) :: vs') σC = some (some vr, τ)) (hPc : va_P D vwCl (wT z layC aC tlC σC) H) (hDc : va_D (fun q => z0 ≤ q) (wT z layC aC tlC σC)) (hS : va_S A s.heap H locs) (hls : ls.size = nL) (hrest : (rest.map fun v => v.category).sum ≤ 8) (hn : vs'.length = nA) (hstk : st0 = (vs'.map (cv aC ts)).reverse ++ .ref (aC 0) :: rest) (hdg : decode cc pc = .ok (.invokevirtual index, 3)) (hf : cells ≤ R.cells ∧ slots ≤ R.slots) :
    va_Run p l e R s m args below meth c H locs cells slots 0 0 (F0 m pc ls st0) rest (Qx D (wT z layC aC tlC τ) (vr.map (cv aC ts)) (va_A (wT z layC aC tlC σC) H.size) (Value.ref (aC 0) :: vs'.map (cv aC ts)).toArray) (va_A (wT z layC aC tlC σC) H.size) := by
  have hpre := Fx_pre hF hS hPc hDc (as := Value.ref (aC 0) :: vs'.map (cv aC ts))
  obtain ⟨hx, hb, hml9, hown, hts, hK, hD, hA, hA0, hSt, hlk, hr, hR1, hR2, hxt⟩ := hF
  have hM := (hC D z ts z0 aC tlC (.inr (.inl 0) :: vs') σC τ H.size).1 vr h
  exact va_runV (As := vs'.map (cv aC ts)) (rest := rest) (C := y.cls) ⟨hx, hb, hml9, hown, hts⟩ hM
    (cwV nA hts (gtb_in (fun w hw => by
      rcases List.mem_append.mp hw with hw | hw
      · simp only [List.mem_cons, List.not_mem_nil, or_false] at hw
        rcases hw with rfl | rfl | rfl | rfl <;> assumption
      · exact gtb_c hcode w hw)) rfl rfl rfl ⟨rfl, hd⟩ ⟨by show dly + 1 ≤ _; omega, by show 8 + (nLy + 11) + 37 * dly ≤ _; omega⟩)
    ⟨Pr_blind, va_recv hK hPc (q0 := 0) hcl (wT_get hrecv), hpre⟩ rfl (by rw [List.length_map]; exact hn) hls hstk (lv_room hrest) hdg hf
theorem run_vx (hF : Fx p l R s m args meth c D z ts z0 lay a tl A own cc nL dl rt) (hRc : 1 ≤ R.cells ∧ 6 ≤ R.slots) (hC : Ct l y cy nLy rty dly layC f) (hcode : Cond.code y cy nLy rty ∈ gtb) (hml : Cond.methodLink own index y ∈ gtb) (hins : Cond.instanceMethod y ∈ gtb) (hsel : Cond.selects y.cls y y ∈ gtb) (hini : Cond.initialized y.cls ∈ gtb)
    (hd : y.cls ≠ "java/lang/invoke/MethodHandle" ∧ y.cls ≠ "java/lang/invoke/VarHandle" ∧ (parseMethodDescriptor y.desc).map (fun d => d.parameters.length) = some nA) (hdl : dly + 1 ≤ dl ∧ nLy ≤ 18) (hrecv : layC[0]? = some (.inr (ci, fds))) (hcl : vwCl[ci]? = some (y.cls, T, N))
    (h : f (.inr (.inl 0) :: vs') σC = some (none, τ)) (hPc : va_P D vwCl (wT z layC aC tlC σC) H) (hDc : va_D (fun q => z0 ≤ q) (wT z layC aC tlC σC)) (hS : va_S A s.heap H locs) (hls : ls.size = nL) (hrest : (rest.map fun v => v.category).sum ≤ 8) (hn : vs'.length = nA) (hstk : st0 = (vs'.map (cv aC ts)).reverse ++ .ref (aC 0) :: rest) (hdg : decode cc pc = .ok (.invokevirtual index, 3)) :
    vx_Run p l e R s m args below meth c H locs 0 0 1 6 (F0 m pc ls st0) rest ((fun _ _ _ _ => False : Array Value → State → Outcome → State → Prop) (Value.ref (aC 0) :: vs'.map (cv aC ts)).toArray) (Qt D (wT z layC aC tlC τ) (va_A (wT z layC aC tlC σC) H.size)) (va_A (wT z layC aC tlC σC) H.size) := by
  have hpre := Fx_pre hF hS hPc hDc (as := Value.ref (aC 0) :: vs'.map (cv aC ts))
  obtain ⟨hx, hb, hml9, hown, hts, hK, hD, hA, hA0, hSt, hlk, hr, hR1, hR2, hxt⟩ := hF
  have hM := (hC D z ts z0 aC tlC (.inr (.inl 0) :: vs') σC τ H.size).2 h
  exact vx_runV (As := vs'.map (cv aC ts)) (rest := rest) (C := y.cls) ⟨hx, hb, hml9, hown, hts⟩ hM
    (cwV nA hts (gtb_in (fun w hw => by
      rcases List.mem_append.mp hw with hw | hw
      · simp only [List.mem_cons, List.not_mem_nil, or_false] at hw
        rcases hw with rfl | rfl | rfl | rfl <;> assumption
      · exact gtb_c hcode w hw)) rfl rfl rfl ⟨rfl, hd⟩ ⟨by show dly + 1 ≤ _; omega, by show 8 + (nLy + 11) + 37 * dly ≤ _; omega⟩)
    ⟨Pr_blind, va_recv hK hPc (q0 := 0) hcl (wT_get hrecv), hpre⟩ rfl (by rw [List.length_map]; exact hn) hls hstk (lv_room hrest) hdg ⟨hRc.1, hRc.2⟩
theorem run_s (hF : Fx p l R s m args meth c D z ts z0 lay a tl A own cc nL dl rt) (hC : Ct l y cy nLy rty dly layC f) (hcode : Cond.code y cy nLy rty ∈ gtb) (hml : Cond.methodLink own index y ∈ gtb) (hsta : Cond.static y ∈ gtb) (hini : Cond.initialized y.cls ∈ gtb)
    (hd : y.cls ≠ "java/lang/invoke/MethodHandle" ∧ y.cls ≠ "java/lang/invoke/VarHandle" ∧ (parseMethodDescriptor y.desc).map (fun d => d.parameters.length) = some nA) (hdl : dly + 1 ≤ dl ∧ nLy ≤ 18)
    (h : f vs' σC = some (some vr, τ)) (hPc : va_P D vwCl (wT z layC aC tlC σC) H) (hDc : va_D (fun q => z0 ≤ q) (wT z layC aC tlC σC)) (hS : va_S A s.heap H locs) (hls : ls.size = nL) (hrest : (rest.map fun v => v.category).sum ≤ 8) (hn : vs'.length = nA) (hstk : st0 = (vs'.map (cv aC ts)).reverse ++ rest) (hdg : decode cc pc = .ok (.invokestatic index, 3)) (hf : cells ≤ R.cells ∧ slots ≤ R.slots) :
    va_Run p l e R s m args below meth c H locs cells slots 0 0 (F0 m pc ls st0) rest (Qx D (wT z layC aC tlC τ) (vr.map (cv aC ts)) (va_A (wT z layC aC tlC σC) H.size) (vs'.map (cv aC ts)).toArray) (va_A (wT z layC aC tlC σC) H.size) := by
  have hpre := Fx_pre hF hS hPc hDc (as := vs'.map (cv aC ts))
  obtain ⟨hx, hb, hml9, hown, hts, hK, hD, hA, hA0, hSt, hlk, hr, hR1, hR2, hxt⟩ := hF
  have hM := (hC D z ts z0 aC tlC vs' σC τ H.size).1 vr h
  exact va_runS (As := vs'.map (cv aC ts)) (rest := rest) ⟨hx, hb, hml9, hown, hts⟩ hM
    (va_cwS nA hts (gtb_in (fun w hw => by
      rcases List.mem_append.mp hw with hw | hw
      · simp only [List.mem_cons, List.not_mem_nil, or_false] at hw
        rcases hw with rfl | rfl | rfl <;> assumption
      · exact gtb_c hcode w hw)) rfl rfl rfl hd ⟨by show dly + 1 ≤ _; omega, by show 8 + (nLy + 11) + 37 * dly ≤ _; omega⟩)
    ⟨Pr_blind, hpre⟩ rfl (by rw [List.length_map]; exact hn) hls hstk (lv_room hrest) hdg hf
theorem run_sx (hF : Fx p l R s m args meth c D z ts z0 lay a tl A own cc nL dl rt) (hRc : 1 ≤ R.cells ∧ 6 ≤ R.slots) (hC : Ct l y cy nLy rty dly layC f) (hcode : Cond.code y cy nLy rty ∈ gtb) (hml : Cond.methodLink own index y ∈ gtb) (hsta : Cond.static y ∈ gtb) (hini : Cond.initialized y.cls ∈ gtb)
    (hd : y.cls ≠ "java/lang/invoke/MethodHandle" ∧ y.cls ≠ "java/lang/invoke/VarHandle" ∧ (parseMethodDescriptor y.desc).map (fun d => d.parameters.length) = some nA) (hdl : dly + 1 ≤ dl ∧ nLy ≤ 18)
    (h : f vs' σC = some (none, τ)) (hPc : va_P D vwCl (wT z layC aC tlC σC) H) (hDc : va_D (fun q => z0 ≤ q) (wT z layC aC tlC σC)) (hS : va_S A s.heap H locs) (hls : ls.size = nL) (hrest : (rest.map fun v => v.category).sum ≤ 8) (hn : vs'.length = nA) (hstk : st0 = (vs'.map (cv aC ts)).reverse ++ rest) (hdg : decode cc pc = .ok (.invokestatic index, 3)) :
    vx_Run p l e R s m args below meth c H locs 0 0 1 6 (F0 m pc ls st0) rest ((fun _ _ _ _ => False : Array Value → State → Outcome → State → Prop) (vs'.map (cv aC ts)).toArray) (Qt D (wT z layC aC tlC τ) (va_A (wT z layC aC tlC σC) H.size)) (va_A (wT z layC aC tlC σC) H.size) := by
  have hpre := Fx_pre hF hS hPc hDc (as := vs'.map (cv aC ts))
  obtain ⟨hx, hb, hml9, hown, hts, hK, hD, hA, hA0, hSt, hlk, hr, hR1, hR2, hxt⟩ := hF
  have hM := (hC D z ts z0 aC tlC vs' σC τ H.size).2 h
  exact vx_runS (As := vs'.map (cv aC ts)) (rest := rest) ⟨hx, hb, hml9, hown, hts⟩ hM
    (va_cwS nA hts (gtb_in (fun w hw => by
      rcases List.mem_append.mp hw with hw | hw
      · simp only [List.mem_cons, List.not_mem_nil, or_false] at hw
        rcases hw with rfl | rfl | rfl <;> assumption
      · exact gtb_c hcode w hw)) rfl rfl rfl hd ⟨by show dly + 1 ≤ _; omega, by show 8 + (nLy + 11) + 37 * dly ≤ _; omega⟩)
    ⟨Pr_blind, hpre⟩ rfl (by rw [List.length_map]; exact hn) hls hstk (lv_room hrest) hdg ⟨hRc.1, hRc.2⟩
end CALLS
