/-! contracts, and calls by them -/
def rmD (d mc ms : Nat) : Room := { frames := d, cells := mc, slots := ms, locals := 37 * d }
def Pr (D : va_G) (z : Nat → ClassId) (ts : Nat → Nat) (z0 : Nat) (w : va_W) (sz : Nat) (U : State) : Prop := U.heap.size = sz ∧ va_P D vwCl w U.heap ∧ va_K D vwCl (tyl z) U ∧ va_D (fun q => z0 ≤ q) w ∧ z0 ≤ sz ∧ Sta ts (fun q => z0 ≤ q) U
/-- a method that is the function f of its numbers and of its cells -/
def Ct (l : Launch) (y : MethodName) (cc : ByteArray) (nL : Nat) (rt : Option FieldType) (dl : Nat) (lay : List Shp) (f : List Vv → Mm → Option Ou) : Prop :=
  ∀ (D : va_G) (z : Nat → ClassId) (ts : Nat → Nat) (z0 : Nat) (a : Nat → Nat) (tl : va_W) (vs : List Vv) (σ σ' : Mm) (sz : Nat),
    (∀ v : Option Vv, f vs σ = some (some v, σ') → Met l y (.code y cc nL rt :: gtb) (rmD dl 0 0) (va_Pc (vs.map (cv a ts)) (Pr D z ts z0 (wT z lay a tl σ) sz)) (Qx D (wT z lay a tl σ') (v.map (cv a ts)) (va_A (wT z lay a tl σ) sz)) 0 0 (va_A (wT z lay a tl σ) sz)) ∧
    (f vs σ = some (none, σ') → vx_Met l y (.code y cc nL rt :: gtb) (rmD dl 1 6) (va_Pc (vs.map (cv a ts)) (Pr D z ts z0 (wT z lay a tl σ) sz)) (fun _ _ _ _ => False) (Qt D (wT z lay a tl σ') (va_A (wT z lay a tl σ) sz)) 1 6 (va_A (wT z lay a tl σ) sz))
def bigM : Nat := 99999
def en : Nat → List Vv → Lv
  | _, [] => []
  | i, v :: vs => (i, v) :: en (i + 1) vs
def sem0 (t : Tbl) (cs : Cs) (nL n : Nat) (vs : List Vv) (σ : Mm) : Option Ou := cond (Nat.ble vs.length nL) (rn t cs (n + 1) 0 (en 0 vs) [] σ) none
def sem (t : Tbl) (cs : Cs) (nL : Nat) (vs : List Vv) (σ : Mm) : Option Ou := sem0 t cs nL bigM vs σ
theorem en_args {a ts : Nat → Nat} : ∀ (vs : List Vv) (i : Nat), lv_args i (vs.map (cv a ts)) = (en i vs).map (fun q => (q.1, cv a ts q.2))
  | [], i => rfl
  | v :: vs, i => by
    rw [List.map_cons, lv_args, en, List.map_cons, if_neg (by rw [cv_cat]; decide), en_args vs (i + 1)]
theorem en_sl {a ts : Nat → Nat} (vs : List Vv) : (lg_sl (vs.map (cv a ts))).length = vs.length := by
  induction vs with
  | nil => rfl
  | cons v vs ih => simp only [lg_sl, List.map_cons, List.flatMap_cons, List.length_append, List.length_cons] at ih ⊢; rw [if_neg (by rw [cv_cat]; decide), ih]; simp; omega
section ENTRY
variable {p : Program} {l : Launch} {e : Env} {R : Room} {s : State} {m : MethodId} {args : Array Value} {below : List Frame} {meth : Method} {c : Code} {D : va_G} {z : Nat → ClassId} {ts : Nat → Nat} {z0 : Nat} {lay : List Shp} {a : Nat → Nat} {tl : va_W} {A : Nat → Prop} {own : String} {cc : ByteArray} {nL dl : Nat} {rt : Option FieldType} {t : Tbl} {cs : Cs} {o : Ou}
theorem entry_ok (hO : Ok l own cc nL dl rt lay t) (hF : Fx p l R s m args meth c D z ts z0 lay a tl A own cc nL dl rt) (ho : o.1 = none → 1 ≤ R.cells ∧ 6 ≤ R.slots) {vs : List Vv} {σ : Mm} (h : sem t cs nL vs σ = some o) (hP : va_P D vwCl (wT z lay a tl σ) s.heap) :
    W p l e R s m args below meth c s.heap [] 0 0 (Qo below args s D z ts lay a tl A o 0 0) (entryFrame m (vs.map (cv a ts)).toArray nL) := by
  unfold sem sem0 at h
  cases hb : Nat.ble vs.length nL with
  | false => rw [hb] at h; cases h
  | true =>
    rw [hb] at h
    rw [lg_entry_eq]
    refine rn_ok cs hO hF (Q := Qo below args s D z ts lay a tl A o) (fun _ _ _ _ h => h) ho (bigM + 1) 0 (en 0 vs) [] σ h s.heap [] _ 0 0 ⟨Nat.zero_le _, Nat.zero_le _⟩ hP va_S.rf ?_
    rw [← en_args]
    exact lv_entry _ (by rw [en_sl]; exact Nat.le_of_ble_eq_true hb)
end ENTRY
theorem ofRun {l : Launch} {y : MethodName} {own : String} {cc : ByteArray} {nL dl : Nat} {rt : Option FieldType} {lay : List Shp} {t : Tbl} {cs : Cs} (hpl : plainName y.cls = true) (hy : y.cls = own) (hO : Ok l own cc nL dl rt lay t) : Ct l y cc nL rt dl lay (sem t cs nL) := by
  intro D z ts z0 a tl vs σ σ' sz
  have key : ∀ (mc ms : Nat) (p : Program) (e : Env) (s : State) (m : MethodId) (args : Array Value) (below : List Frame) (meth : Method) (c : Code) (s₁ : State), BodyLoose p l y (headSpec (.code y cc nL rt :: gtb) (rmD dl mc ms)) cc nL rt e s m args below meth c s₁ → c.maxLocals = nL → va_Pc (vs.map (cv a ts)) (Pr D z ts z0 (wT z lay a tl σ) sz) args s →
      Fx p l (headSpec (.code y cc nL rt :: gtb) (rmD dl mc ms)).room s m args meth c D z ts z0 lay a tl (va_A (wT z lay a tl σ) sz) own cc nL dl rt ∧ args = (vs.map (cv a ts)).toArray ∧ va_P D vwCl (wT z lay a tl σ) s.heap := by
    intro mc ms p e s m args below meth c s₁ B hml hv
    obtain ⟨rfl, hsz, hP, hK, hD0, hz, hSt⟩ := hv
    have hat := atoms_spec (ws := .code y cc nL rt :: gtb) B.pre
    have hxt : ∀ x ∈ c.exceptionTable.toList, False := by
      obtain ⟨meth9, c9, h1, h2, -, -, -, -, h7, -⟩ := Cond.code_spec B.named (hat _ List.mem_cons_self)
      cases Option.some.inj (h1.symm.trans B.method)
      cases Option.some.inj (h2.symm.trans (Stand.of_body B).code)
      intro x hx
      rw [Array.isEmpty_iff.mp h7] at hx
      cases hx
    subst hsz
    refine ⟨⟨B.exec, B.bytes, hml, hy ▸ findClass_of_methodNamed B.named, fun w hw => hat w (List.mem_cons_of_mem _ hw), hK, fun τ => va_D_fst (wT_len σ τ) (hD0.self (sz := s.heap.size)), fun q h => Or.inr h, ?_, hSt, B.notSynchronized, B.returns, Nat.le_refl _, Nat.le_refl _, hxt⟩, rfl, hP⟩
    rintro q (⟨k, e1, hk⟩ | h)
    · exact hD0.2 k _ hk
    · exact Nat.le_trans hz h
  refine ⟨fun v h => ?_, fun h => ?_⟩
  · refine Met.ofW (cc := cc) (maxL := nL) (ret := rt) hpl rfl ?_
    intro p e s m args below meth c s₁ B hml hv
    obtain ⟨hF, hargs, hP⟩ := key 0 0 p e s m args below meth c s₁ B hml hv
    have hW := entry_ok (e := e) (below := below) hO hF (o := (some v, σ')) (fun h9 => by cases h9) h hP
    rw [← hargs] at hW
    exact hW
  · refine vx_ofW (cc := cc) (maxL := nL) (ret := rt) hpl rfl ?_
    intro p e s m args below meth c s₁ B hml _ hv
    obtain ⟨hF, hargs, hP⟩ := key 1 6 p e s m args below meth c s₁ B hml hv
    have hW := entry_ok (e := e) (below := below) hO hF (o := (none, σ')) (fun _ => ⟨Nat.le_refl _, Nat.le_refl _⟩) h hP
    rw [← hargs] at hW
    exact fun T hT X => let ⟨t, a, b⟩ := hW T hT X; ⟨t, a, b rfl rfl⟩
/-! a function that doesn't unfold -/
theorem lock_ex {α : Type} (x : α) : ∃ y, y = x := ⟨x, rfl⟩
noncomputable def lock {α : Type} (x : α) : α := Classical.choose (lock_ex x)
theorem lock_eq {α : Type} (x : α) : lock x = x := Classical.choose_spec (lock_ex x)
theorem lock_ap {t : Tbl} {cs : Cs} {nL : Nat} (vs : List Vv) (σ : Mm) : lock (sem t cs nL) vs σ = sem0 t cs nL bigM vs σ := by rw [lock_eq]; rfl
theorem ofRunL {l : Launch} {y : MethodName} {own : String} {cc : ByteArray} {nL dl : Nat} {rt : Option FieldType} {lay : List Shp} {t : Tbl} {cs : Cs} (hpl : plainName y.cls = true) (hy : y.cls = own) (hO : Ok l own cc nL dl rt lay t) : Ct l y cc nL rt dl lay (lock (sem t cs nL)) := by
  rw [lock_eq]
  exact ofRun hpl hy hO
/-! frames: a callee's cells among the caller's -/
abbrev Sg : Type := (Nat → Nat) × (Nat → Option Nat)
def pk (g : Sg) (σ : Mm) : Mm := fun j => σ (g.1 j)
def put (g : Sg) (σ τ : Mm) : Mm := fun k => match g.2 k with
  | some j => τ j
  | none => σ k
def rnS (ι : Nat → Nat) : Shp → Shp
  | .inl q => .inl q
  | .inr o => .inr (o.1, o.2.map (Option.map ι))
def Cmp (lay layC : List Shp) (g : Sg) : Prop := (∀ j sh, layC[j]? = some sh → lay[g.1 j]? = some (rnS g.1 sh)) ∧ (∀ j, j < layC.length → g.2 (g.1 j) = some j) ∧ (∀ k j, g.2 k = some j → g.1 j = k ∧ j < layC.length)
theorem ce_ren {z : Nat → ClassId} {a ι : Nat → Nat} {sh : Shp} {row : Nat → Int32} : ce z a (rnS ι sh) row = ce z (fun j => a (ι j)) sh row := by
  rcases sh with q | o
  · rfl
  · show Sum.inr (o.1, (o.2.map (Option.map ι)).mapIdx (fv a row)) = Sum.inr (o.1, o.2.mapIdx (fv (fun j => a (ι j)) row))
    congr 2
    apply List.ext_getElem?
    intro j
    rw [List.getElem?_mapIdx, List.getElem?_map, List.getElem?_mapIdx]
    cases o.2[j]? with
    | none => rfl
    | some x => cases x <;> rfl
section FRAME
variable {D : va_G} {z : Nat → ClassId} {ts : Nat → Nat} {z0 : Nat} {lay layC : List Shp} {a : Nat → Nat} {tl : va_W} {A : Nat → Prop} {g : Sg} {σ τ : Mm} {H H1 : Heap}
theorem wG_inv {k : Nat} {q : Nat × va_E} (h : (wG z lay a σ)[k]? = some q) : ∃ sh, lay[k]? = some sh ∧ q = (a k, ce z a sh (σ k)) := by
  rw [wG, List.getElem?_mapIdx] at h
  cases hs : lay[k]? with
  | none => rw [hs] at h; cases h
  | some sh => rw [hs] at h; exact ⟨sh, rfl, (Option.some.inj h).symm⟩
theorem wT_inv {k : Nat} {q : Nat × va_E} (h : (wT z lay a tl σ)[k]? = some q) : (∃ sh, lay[k]? = some sh ∧ q = (a k, ce z a sh (σ k))) ∨ (lay.length ≤ k ∧ tl[k - lay.length]? = some q) := by
  have hl : (wG z lay a σ).length = lay.length := by simp [wG]
  unfold wT at h
  by_cases hk : k < lay.length
  · rw [List.getElem?_append_left (by rw [hl]; exact hk)] at h
    exact Or.inl (wG_inv h)
  · rw [List.getElem?_append_right (by rw [hl]; omega), hl] at h
    exact Or.inr ⟨by omega, h⟩
theorem fr_get (hC : Cmp lay layC g) {j : Nat} {q : Nat × va_E} (h : (wT z layC (fun j => a (g.1 j)) [] (pk g σ))[j]? = some q) : (wT z lay a tl σ)[g.1 j]? = some q ∧ j < layC.length := by
  rcases wT_inv h with ⟨sh, h1, h2⟩ | ⟨h1, h2⟩
  · refine ⟨?_, (List.getElem?_eq_some_iff.mp h1).1⟩
    rw [wT_get (hC.1 j sh h1), ce_ren, h2]
    rfl
  · simp at h2
theorem fr_P (hC : Cmp lay layC g) (hP : va_P D vwCl (wT z lay a tl σ) H) : va_P D vwCl (wT z layC (fun j => a (g.1 j)) [] (pk g σ)) H := fun j q h => hP _ q (fr_get hC h).1
theorem fr_D (hC : Cmp lay layC g) (hA0 : ∀ q, A q → z0 ≤ q) (hD : va_D A (wT z lay a tl σ)) : va_D (fun q => z0 ≤ q) (wT z layC (fun j => a (g.1 j)) [] (pk g σ)) := by
  refine ⟨fun i j x y hi hj hxy => ?_, fun k q hk => hA0 _ (hD.2 _ _ (fr_get (tl := tl) hC hk).1)⟩
  obtain ⟨h1, h2⟩ := fr_get (tl := tl) hC hi
  obtain ⟨h3, h4⟩ := fr_get (tl := tl) hC hj
  have h5 := hD.1 _ _ x y h1 h3 hxy
  have h6 := hC.2.1 i h2
  rw [h5, hC.2.1 j h4] at h6
  exact (Option.some.inj h6).symm
theorem fr_A (hC : Cmp lay layC g) (hD : va_D A (wT z lay a tl σ)) (hA : ∀ q, H.size ≤ q → A q) : ∀ q, va_A (wT z layC (fun j => a (g.1 j)) [] (pk g σ)) H.size q → A q := by
  rintro q (⟨k, e, hk⟩ | h)
  · exact hD.2 _ _ (fr_get (tl := tl) hC hk).1
  · exact hA q h
theorem fr_up (hC : Cmp lay layC g) (hP : va_P D vwCl (wT z lay a tl σ) H) (hD : va_D A (wT z lay a tl σ)) (hP1 : va_P D vwCl (wT z layC (fun j => a (g.1 j)) [] τ) H1)
    (hk : ∀ q : Nat, q < H.size → ¬ va_A (wT z layC (fun j => a (g.1 j)) [] (pk g σ)) H.size q → H1[q]? = H[q]?) : va_P D vwCl (wT z lay a tl (put g σ τ)) H1 := by
  have keep : ∀ (k : Nat) (q : Nat × va_E), (wT z lay a tl σ)[k]? = some q → g.2 k = none ∨ lay.length ≤ k → va_at D vwCl q H1 := by
    intro k q hq hn
    refine (hP k q hq).kept (hk q.1 (hP k q hq).lt ?_)
    rintro (⟨j, e, hj⟩ | h)
    · obtain ⟨h1, h2⟩ := fr_get (tl := tl) hC hj
      have h3 := hD.1 _ _ (q.1, e) q h1 hq rfl
      have h4 := hC.2.1 j h2
      rw [h3] at h4
      rcases hn with hn | hn
      · rw [hn] at h4; cases h4
      · have h5 : lay[g.1 j]? ≠ none := by
          have : layC[j]? = some layC[j] := List.getElem?_eq_getElem h2
          rw [hC.1 j _ this]
          exact fun h => by cases h
        rw [h3, List.getElem?_eq_none hn] at h5
        exact h5 rfl
    · have := (hP k q hq).lt
      omega
  intro k q hq
  rcases wT_inv hq with ⟨sh, h1, h2⟩ | ⟨h1, h2⟩
  · cases hg : g.2 k with
    | none =>
      have e : put g σ τ k = σ k := by simp only [put, hg]
      rw [e] at h2
      rw [h2]
      exact keep k _ (wT_get h1) (Or.inl hg)
    | some j =>
      have e : put g σ τ k = τ j := by simp only [put, hg]
      obtain ⟨h3, h4⟩ := hC.2.2 k j hg
      have h5 : layC[j]? = some layC[j] := List.getElem?_eq_getElem h4
      have h6 := hC.1 j _ h5
      rw [h3, h1] at h6
      have h7 := hP1 j _ (wT_get (tl := []) h5)
      rw [e, Option.some.inj h6, ce_ren, ← h3] at h2
      rw [h2]
      exact h7
  · have h3 : (wT z lay a tl σ)[k]? = some q := by
      have hl : (wG z lay a σ).length = lay.length := by simp [wG]
      unfold wT
      rw [List.getElem?_append_right (by rw [hl]; omega), hl]
      exact h2
    exact keep k q h3 (Or.inr h1)
end FRAME
