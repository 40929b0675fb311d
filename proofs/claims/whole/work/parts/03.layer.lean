/-! values, memories, steps: a method is a table of steps over numbered cells; a step goes on by its continuation -/
abbrev Vv : Type := Int32 ⊕ (Nat ⊕ Nat)
abbrev Mm : Type := Nat → Nat → Int32
abbrev Lv : Type := List (Nat × Vv)
abbrev Ou : Type := Option (Option Vv) × Mm
abbrev Kt : Type := Nat → Lv → List Vv → Mm → Option Ou
abbrev Sst : Type := Kt → Lv → List Vv → Mm → Option Ou
abbrev Tbl : Type := List (Nat × Sst)
def wr (σ : Mm) (k i : Nat) (v : Int32) : Mm := va_up σ k (upd (σ k) i v)
def inb (i : Int32) (n : Nat) : Bool := decide (0 ≤ i) && decide (i.toNatClampNeg < n)
theorem inb_vp {i : Int32} {n : Nat} (h : inb i n = true) : vp_in i n := by
  simp only [inb, Bool.and_eq_true, decide_eq_true_eq] at h
  rintro (h1 | h1)
  · exact absurd h.1 (Int32.not_le.mpr h1)
  · omega
def lq : Lv → Nat → Option Vv
  | [], _ => none
  | q :: l, i => cond (Nat.beq q.1 i) (some q.2) (lq l i)
def nrm : List Nat → Lv → Lv
  | [], _ => []
  | i :: ix, lv => match lq lv i with
    | some v => (i, v) :: nrm ix lv
    | none => nrm ix lv
/-- the cuts: program counters at which a run stops over to the next number of rounds, with the places that live there -/
abbrev Cs : Type := List (Nat × List Nat)
def cu : Cs → Nat → Option (List Nat)
  | [], _ => none
  | q :: l, i => cond (Nat.beq q.1 i) (some q.2) (cu l i)
def nx (k r : Kt) (pc' : Nat) (lv : Lv) (st : List Vv) (σ : Mm) : Option (List Nat) → Option Ou
  | some ix => k pc' (nrm ix lv) st σ
  | none => r pc' lv st σ
/-- forward through the rows of a table, to the next cut -/
def rl (cs : Cs) (k : Kt) : Tbl → Kt
  | [] => fun _ _ _ _ => none
  | q :: t => fun pc lv st σ => cond (Nat.beq q.1 pc) (q.2 (fun pc' lv' st' σ' => nx k (rl cs k t) pc' lv' st' σ' (cu cs pc')) lv st σ) (rl cs k t pc lv st σ)
def rn (t : Tbl) (cs : Cs) : Nat → Kt
  | 0 => fun _ _ _ _ => none
  | n + 1 => rl cs (rn t cs n) t
def sl (lv : Lv) (i : Nat) (v : Vv) : Lv := (i, v) :: lv.filter (fun q => !(Nat.beq q.1 i))
/-! the world: shapes of cells by their numbers -/
def tyl (z : Nat → ClassId) : List (ClassId × FieldType) := [(z 0, .int), (z 1, .byte), (z 2, .boolean), (z 3, .long), (z 4, .object "ForgeScheduler$Forge")]
abbrev Shp : Type := (Nat × Nat) ⊕ (Nat × List (Option Nat))
def fv (a : Nat → Nat) (row : Nat → Int32) (f : Nat) : Option Nat → Value
  | none => .int (row f)
  | some c => .ref (a c)
def ce (z : Nat → ClassId) (a : Nat → Nat) (sh : Shp) (row : Nat → Int32) : va_E := match sh with
  | .inl q => .inl (z q.1, q.2, .inl row)
  | .inr o => .inr (o.1, o.2.mapIdx (fv a row))
def wG (z : Nat → ClassId) (lay : List Shp) (a : Nat → Nat) (σ : Mm) : va_W := lay.mapIdx (fun k sh => (a k, ce z a sh (σ k)))
def wT (z : Nat → ClassId) (lay : List Shp) (a : Nat → Nat) (tl : va_W) (σ : Mm) : va_W := wG z lay a σ ++ tl
def cv (a ts : Nat → Nat) : Vv → Value
  | .inl x => .int x
  | .inr (.inl k) => .ref (a k)
  | .inr (.inr k) => .ref (ts k)
theorem fv_set {a : Nat → Nat} {row : Nat → Int32} {fs : List (Option Nat)} {f : Nat} (h : fs[f]? = some none) (v : Int32) : (fs.mapIdx (fv a row)).set f (.int v) = fs.mapIdx (fv a (upd row f v)) := by
  have hl : f < fs.length := (List.getElem?_eq_some_iff.mp h).1
  apply List.ext_getElem?
  intro j
  by_cases hj : f = j
  · subst hj
    rw [List.getElem?_set_self (by rw [List.length_mapIdx]; exact hl), List.getElem?_mapIdx, h]
    simp [fv, upd]
  · rw [List.getElem?_set_ne hj, List.getElem?_mapIdx, List.getElem?_mapIdx]
    have hj' : ¬ j = f := fun e => hj e.symm
    cases h2 : fs[j]? with
    | none => rfl
    | some x => cases x <;> simp [fv, upd, hj']
theorem wG_get {z : Nat → ClassId} {lay : List Shp} {a : Nat → Nat} {σ : Mm} {k : Nat} {sh : Shp} (h : lay[k]? = some sh) : (wG z lay a σ)[k]? = some (a k, ce z a sh (σ k)) := by
  simp [wG, List.getElem?_mapIdx, h]
theorem wT_get {z : Nat → ClassId} {lay : List Shp} {a : Nat → Nat} {tl : va_W} {σ : Mm} {k : Nat} {sh : Shp} (h : lay[k]? = some sh) : (wT z lay a tl σ)[k]? = some (a k, ce z a sh (σ k)) := by
  have h1 := wG_get (z := z) (a := a) (σ := σ) h
  unfold wT
  rw [List.getElem?_append_left (List.getElem?_eq_some_iff.mp h1).1]
  exact h1
theorem wT_set {z : Nat → ClassId} {lay : List Shp} {a : Nat → Nat} {tl : va_W} {σ : Mm} {k : Nat} {sh : Shp} (h : lay[k]? = some sh) (row : Nat → Int32) : (wT z lay a tl σ).set k (a k, ce z a sh row) = wT z lay a tl (va_up σ k row) := by
  have hk : k < lay.length := (List.getElem?_eq_some_iff.mp h).1
  have hl : ∀ τ : Mm, (wG z lay a τ).length = lay.length := fun τ => by simp [wG]
  unfold wT
  rw [List.set_append_left _ _ (by rw [hl]; exact hk)]
  congr 1
  apply List.ext_getElem?
  intro j
  by_cases hj : k = j
  · subst hj
    rw [List.getElem?_set_self (by rw [hl]; exact hk), wG_get h]
    simp [va_up]
  · rw [List.getElem?_set_ne hj]
    have hj' : ¬ j = k := fun e => hj e.symm
    simp [wG, List.getElem?_mapIdx, va_up, hj']
theorem wT_len {z : Nat → ClassId} {lay : List Shp} {a : Nat → Nat} {tl : va_W} (σ τ : Mm) : (wT z lay a tl σ).map Prod.fst = (wT z lay a tl τ).map Prod.fst := by
  unfold wT wG
  rw [List.map_append, List.map_append]
  congr 1
  apply List.ext_getElem?
  intro j
  rw [List.getElem?_map, List.getElem?_map, List.getElem?_mapIdx, List.getElem?_mapIdx]
  cases lay[j]? <;> rfl
theorem va_D_fst {A : Nat → Prop} {w w' : va_W} (h : w.map Prod.fst = w'.map Prod.fst) (hD : va_D A w) : va_D A w' := by
  have key : ∀ (k : Nat) (q : Nat × va_E), w'[k]? = some q → ∃ q0, w[k]? = some q0 ∧ q0.1 = q.1 := by
    intro k q hk
    have h1 : (w'.map Prod.fst)[k]? = some q.1 := by rw [List.getElem?_map, hk]; rfl
    rw [← h, List.getElem?_map] at h1
    cases h2 : w[k]? with
    | none => rw [h2] at h1; cases h1
    | some q0 => rw [h2] at h1; exact ⟨q0, rfl, Option.some.inj h1⟩
  refine ⟨fun i j x y hi hj hxy => ?_, fun k q hk => ?_⟩
  · obtain ⟨x0, h1, h2⟩ := key i x hi
    obtain ⟨y0, h3, h4⟩ := key j y hj
    exact hD.1 i j x0 y0 h1 h3 (h2.trans (hxy.trans h4.symm))
  · obtain ⟨q0, h1, h2⟩ := key k q hk
    rw [← h2]
    exact hD.2 k q0 h1
/-! what holds all through a method: the tables, the statics -/
def stn : Nat → String
  | 0 => "LEAST_SETTING"
  | 1 => "MOST_SETTING"
  | _ => "INITIAL_SETTING"
def stv : Nat → Nat → Int32
  | 0, 0 => 1
  | 0, _ => 0
  | 1, 0 => 3
  | 1, 1 => 500
  | 1, _ => 2
  | _, 0 => 1
  | _, 1 => 50
  | _, _ => 0
def Nst (U : State) : Prop := va_Nw (.fieldLinkNest "ForgeScheduler$Forge" 42 "ForgeScheduler" "INITIAL_SETTING" "[I" "ForgeScheduler") U ∧ va_Nw (.fieldLinkNest "ForgeScheduler$Reader" 122 "ForgeScheduler" "LEAST_SETTING" "[I" "ForgeScheduler") U ∧ va_Nw (.fieldLinkNest "ForgeScheduler$Reader" 125 "ForgeScheduler" "MOST_SETTING" "[I" "ForgeScheduler") U ∧ va_Nw (.methodLinkNest "ForgeScheduler$Reader" 134 yX6_isWithin "ForgeScheduler") U ∧
  va_Nw (.methodLinkNest "ForgeScheduler" 18 yX1_init "ForgeScheduler") U ∧ va_Nw (.methodLinkNest "ForgeScheduler" 25 yX4_init "ForgeScheduler") U ∧ va_Nw (.methodLinkNest "ForgeScheduler" 41 yX0_init "ForgeScheduler") U ∧ va_Nw (.castable "java/lang/IndexOutOfBoundsException" "java/lang/IndexOutOfBoundsException") U ∧
  va_Nw (.declares (Bundle.initS "java/lang/RuntimeException")) U ∧ va_Nw (.declares (Bundle.initS "java/lang/Exception")) U ∧ va_Nw (.declares (Bundle.initS Bundle.tN)) U ∧ va_AO "ForgeScheduler$Forge" U
theorem Nst.warm {s U : State} (hW : s.WarmedH U.vm) (h : Nst s) : Nst U := by
  obtain ⟨h1, h2, h3, h4, h5, h6, h7, h8, h9, h10, h11, h12⟩ := h
  exact ⟨va_Nw.warmF hW h1, va_Nw.warmF hW h2, va_Nw.warmF hW h3, va_Nw.warmM hW h4, va_Nw.warmM hW h5, va_Nw.warmM hW h6, va_Nw.warmM hW h7, va_Nw.warmC hW h8, va_Nw.warmD hW h9, va_Nw.warmD hW h10, va_Nw.warmD hW h11, va_AO.moved hW.alike h12⟩
def wby : List Int32 := [105, 114, 111, 110, 32, 115, 116, 101, 112, 32, 112, 108, 97, 99, 101, 32, 115, 101, 116, 32, 97, 110, 118, 105, 108, 115, 32, 109, 97, 114, 103, 105, 110, 32, 114, 117, 108, 101, 32]
def Str (ts : Nat → Nat) (A : Nat → Prop) (U : State) : Prop := vk_R RX7 135 "iron step place set anvils margin rule " (ts 3) U ∧ vk_S 1 [39] [wby] (fun _ => ts 3) (fun _ => ts 4) A U U.heap ∧ vk_R RX6 285 "no such iron or position" (ts 5) U ∧ vk_R RX6 290 "no such step" (ts 6) U ∧ vk_R RX6 292 "no such fire place" (ts 7) U ∧ vk_R RX6 294 "no such anvil" (ts 8) U ∧ vx_Zq Bundle.tN "UNASSIGNED_STACK" Bundle.steD A U U.heap ∧ vx_Zq Bundle.tN "SUPPRESSED_SENTINEL" Bundle.listD A U U.heap ∧ va_Z "java/lang/String" "COMPACT_STRINGS" "Z" (.int 1) A U U.heap ∧ va_Zq "jdk/internal/util/Preconditions" "SIOOBE_FORMATTER" "Ljava/util/function/BiFunction;" A U U.heap
def Sta (ts : Nat → Nat) (A : Nat → Prop) (U : State) : Prop := (∀ t : Nat, t < 3 → va_Z "ForgeScheduler" (stn t) "[I" (.ref (ts t)) A U U.heap ∧ va_T .int (ts t) 3 (fun j => .int (stv t j)) A U U.heap) ∧ Nst U ∧ Str ts A U
theorem Sta.at {ts : Nat → Nat} {A B : Nat → Prop} {s U : State} {H : Heap} (h : Sta ts A s) (hS : ∀ q : Nat, q < s.heap.size → ¬ A q → H[q]? = s.heap[q]?) (hU : U.heap = H) (hW : s.WarmedH U.vm) (hB : ∀ q, B q → A q) : Sta ts B U := by
  obtain ⟨h1, h2, r1, r2, r3, r4, r5, r6, r7, r8, r9, r10⟩ := h
  refine ⟨fun t ht => ?_, h2.warm hW, ?_⟩
  · obtain ⟨h1, h2⟩ := h1 t ht
    rw [hU]
    exact ⟨va_Z.moved hW.alike ((h1.kept hS).narrow hB), va_T.moved hW.alike ((h2.kept hS).narrow hB)⟩
  · unfold Str
    rw [hU]
    exact ⟨vk_R.warm hW r1, vk_S.moved hW.alike ((r2.kept hS).narrow hB), vk_R.warm hW r3, vk_R.warm hW r4, vk_R.warm hW r5, vk_R.warm hW r6, vx_Zq.moved hW.alike ((r7.kept hS).narrow hB), vx_Zq.moved hW.alike ((r8.kept hS).narrow hB), va_Z.moved hW.alike ((r9.kept hS).narrow hB), va_Zq.moved hW.alike ((r10.kept hS).narrow hB)⟩
/-! the judgements: where a run stands, what a step owes -/
def Qx (D : va_G) (w1 : va_W) (v : Option Value) (A : Nat → Prop) : Array Value → State → Outcome → State → Prop := fun _ st oc t => oc = .returned v ∧ va_P D vwCl w1 t.heap ∧ va_F A st t
def Qt (D : va_G) (w1 : va_W) (A : Nat → Prop) : String → State → State → Prop := fun E st t => E = "java/lang/IndexOutOfBoundsException" ∧ va_P D vwCl w1 t.heap ∧ va_F A st t
def Qo (below : List Frame) (args : Array Value) (s : State) (D : va_G) (z : Nat → ClassId) (ts : Nat → Nat) (lay : List Shp) (a : Nat → Nat) (tl : va_W) (A : Nat → Prop) (o : Ou) (nc ns : Nat) : State → Prop := match o.1 with
  | some v => MQ below (Qx D (wT z lay a tl o.2) (v.map (cv a ts)) A) args s nc ns A
  | none => fun t => nc = 0 → ns = 0 → vx_MQ below (fun _ _ _ _ => False) (Qt D (wT z lay a tl o.2) A) args s 1 6 A t
theorem W_th {p : Program} {l : Launch} {e : Env} {R : Room} {s : State} {m : MethodId} {args : Array Value} {below : List Frame} {meth : Method} {c : Code} {H : Heap} {locs : List Loc} {nc ns : Nat} {Q : State → Prop} {g : JFrame} (h : nc = 0 → ns = 0 → W p l e R s m args below meth c H locs 0 0 Q g) : W p l e R s m args below meth c H locs nc ns (fun t => nc = 0 → ns = 0 → Q t) g := by
  by_cases h1 : nc = 0
  · by_cases h2 : ns = 0
    · have h9 := h h1 h2
      subst h1
      subst h2
      intro T hT X
      obtain ⟨t, a, b⟩ := h9 T hT X
      exact ⟨t, a, fun _ _ => b⟩
    · intro T hT X
      exact ⟨_, Steps.refl _, fun _ h3 => absurd h3 h2⟩
  · intro T hT X
    exact ⟨_, Steps.refl _, fun h3 => absurd h3 h1⟩
/-- the mark of a run that stops at a cut -/
def mk9 : Option (Option Vv) := some (some (.inr (.inr 777)))
theorem W_q {p : Program} {l : Launch} {e : Env} {R : Room} {s : State} {m : MethodId} {args : Array Value} {below : List Frame} {meth : Method} {c : Code} {H : Heap} {locs : List Loc} {nc ns : Nat} {Q1 Q : State → Prop} {g : JFrame} (hQ : ∀ t, Q1 t → Q t) (h : W p l e R s m args below meth c H locs nc ns Q1 g) : W p l e R s m args below meth c H locs nc ns Q g := by
  intro T hT X
  obtain ⟨t, a, b⟩ := h T hT X
  exact ⟨t, a, hQ t b⟩
/-- the machine at a program counter, with these numbers in its places, comes to the outcome o -/
def Wr (p : Program) (l : Launch) (e : Env) (R : Room) (s : State) (m : MethodId) (args : Array Value) (below : List Frame) (meth : Method) (c : Code) (D : va_G) (z : Nat → ClassId) (ts : Nat → Nat) (lay : List Shp) (a : Nat → Nat) (tl : va_W) (A : Nat → Prop) (nL : Nat) (Q : Nat → Nat → State → Prop) (pc : Nat) (lv : Lv) (st : List Vv) (σ : Mm) : Prop :=
  ∀ (H : Heap) (locs : List Loc) (ls : Array Slot) (nc ns : Nat), nc ≤ R.cells ∧ ns ≤ R.slots → va_P D vwCl (wT z lay a tl σ) H → va_S A s.heap H locs → lv_has ls nL (lv.map (fun q => (q.1, cv a ts q.2))) →
    W p l e R s m args below meth c H locs nc ns (Q nc ns) (F0 m pc ls (st.map (cv a ts)))
/-- what holds all through a method's run -/
def Fx (p : Program) (l : Launch) (R : Room) (s : State) (m : MethodId) (args : Array Value) (meth : Method) (c : Code) (D : va_G) (z : Nat → ClassId) (ts : Nat → Nat) (z0 : Nat) (lay : List Shp) (a : Nat → Nat) (tl : va_W) (A : Nat → Prop) (own : String) (cc : ByteArray) (nL dl : Nat) (rt : Option FieldType) : Prop :=
  p.tables.exec = Jvm.exec ∧ c.code = cc ∧ c.maxLocals = nL ∧ s.vm.findClass own = some m.cls ∧ (∀ w ∈ gtb, w.before args s = true) ∧ va_K D vwCl (tyl z) s ∧ (∀ σ, va_D A (wT z lay a tl σ)) ∧ (∀ q, s.heap.size ≤ q → A q) ∧ (∀ q, A q → z0 ≤ q) ∧ Sta ts (fun q => z0 ≤ q) s ∧ meth.locks = false ∧ meth.sig.returnType = rt ∧ dl ≤ R.frames ∧ 37 * dl ≤ R.locals ∧ (∀ x ∈ c.exceptionTable.toList, False)
/-- a step that the machine keeps to -/
def So (l : Launch) (own : String) (cc : ByteArray) (nL dl : Nat) (rt : Option FieldType) (lay : List Shp) (pc : Nat) (f : Sst) : Prop :=
  ∀ (p : Program) (e : Env) (R : Room) (s : State) (m : MethodId) (args : Array Value) (below : List Frame) (meth : Method) (c : Code) (D : va_G) (z : Nat → ClassId) (ts : Nat → Nat) (z0 : Nat) (a : Nat → Nat) (tl : va_W) (A : Nat → Prop),
    Fx p l R s m args meth c D z ts z0 lay a tl A own cc nL dl rt → ∀ (k : Kt) (lv : Lv) (st : List Vv) (σ : Mm) (o : Ou) (Q : Nat → Nat → State → Prop), (o.1 ≠ mk9 → ∀ nc ns t, Qo below args s D z ts lay a tl A o nc ns t → Q nc ns t) → (o.1 = none → 1 ≤ R.cells ∧ 6 ≤ R.slots) → f k lv st σ = some o →
    (∀ pc' lv' st' σ', k pc' lv' st' σ' = some o → Wr p l e R s m args below meth c D z ts lay a tl A nL Q pc' lv' st' σ') →
    Wr p l e R s m args below meth c D z ts lay a tl A nL Q pc lv st σ
def Ok (l : Launch) (own : String) (cc : ByteArray) (nL dl : Nat) (rt : Option FieldType) (lay : List Shp) (t : Tbl) : Prop := ∀ q ∈ t, So l own cc nL dl rt lay q.1 q.2
theorem Ok.nil {l : Launch} {own : String} {cc : ByteArray} {nL dl : Nat} {rt : Option FieldType} {lay : List Shp} : Ok l own cc nL dl rt lay [] := fun _ h => absurd h List.not_mem_nil
theorem Ok.cons {l : Launch} {own : String} {cc : ByteArray} {nL dl : Nat} {rt : Option FieldType} {lay : List Shp} {pc : Nat} {f : Sst} {t : Tbl} (h : So l own cc nL dl rt lay pc f) (ht : Ok l own cc nL dl rt lay t) : Ok l own cc nL dl rt lay ((pc, f) :: t) := fun q hq => (List.mem_cons.mp hq).elim (fun e => e ▸ h) (ht q)
theorem lq_mem : ∀ {lv : Lv} {i : Nat} {v : Vv}, lq lv i = some v → (i, v) ∈ lv
  | [], i, v, h => by cases h
  | q :: l, i, v, h => by
    unfold lq at h
    cases hb : Nat.beq q.1 i with
    | true =>
      rw [hb] at h
      have e : q = (i, v) := Prod.ext (Nat.eq_of_beq_eq_true hb) (Option.some.inj h)
      rw [e]
      exact List.mem_cons_self
    | false =>
      rw [hb] at h
      exact List.mem_cons_of_mem _ (lq_mem h)
theorem nrm_mem : ∀ (ix : List Nat) (lv : Lv) (w : Nat × Vv), w ∈ nrm ix lv → w ∈ lv
  | [], lv, w, h => absurd h List.not_mem_nil
  | i :: ix, lv, w, h => by
    unfold nrm at h
    cases hq : lq lv i with
    | none => rw [hq] at h; exact nrm_mem ix lv w h
    | some v =>
      rw [hq] at h
      rcases List.mem_cons.mp h with e | e
      · rw [e]; exact lq_mem hq
      · exact nrm_mem ix lv w e
section RUN
variable {p : Program} {l : Launch} {e : Env} {R : Room} {s : State} {m : MethodId} {args : Array Value} {below : List Frame} {meth : Method} {c : Code} {D : va_G} {z : Nat → ClassId} {ts : Nat → Nat} {z0 : Nat} {lay : List Shp} {a : Nat → Nat} {tl : va_W} {A : Nat → Prop} {own : String} {cc : ByteArray} {nL dl : Nat} {rt : Option FieldType} {t : Tbl} {o : Ou} {Q : Nat → Nat → State → Prop}
theorem rl_ok (cs : Cs) (hF : Fx p l R s m args meth c D z ts z0 lay a tl A own cc nL dl rt) (hQ : o.1 ≠ mk9 → ∀ nc ns t, Qo below args s D z ts lay a tl A o nc ns t → Q nc ns t) (ho : o.1 = none → 1 ≤ R.cells ∧ 6 ≤ R.slots) (k : Kt)
    (hk : ∀ pc' lv' st' σ', k pc' lv' st' σ' = some o → Wr p l e R s m args below meth c D z ts lay a tl A nL Q pc' lv' st' σ') :
    ∀ (t : Tbl), Ok l own cc nL dl rt lay t → ∀ (pc : Nat) (lv : Lv) (st : List Vv) (σ : Mm), rl cs k t pc lv st σ = some o → Wr p l e R s m args below meth c D z ts lay a tl A nL Q pc lv st σ := by
  intro t
  induction t with
  | nil => intro _ pc lv st σ h; cases h
  | cons q t ih =>
    intro hO pc lv st σ h
    have ih := ih (fun r hr => hO r (List.mem_cons_of_mem _ hr))
    unfold rl at h
    cases hb : Nat.beq q.1 pc with
    | false => rw [hb] at h; exact ih pc lv st σ h
    | true =>
      rw [hb] at h
      have h5 := hO q List.mem_cons_self p e R s m args below meth c D z ts z0 a tl A hF _ lv st σ o Q hQ ho h (fun pc' lv' st' σ' h6 => by
        cases hcu : cu cs pc' with
        | some ix =>
          rw [hcu] at h6
          have h7 := hk pc' (nrm ix lv') st' σ' h6
          intro H locs ls nc ns hnn hP hS hl
          exact h7 H locs ls nc ns hnn hP hS ⟨hl.1, hl.2.1, fun w hw => by
            obtain ⟨w0, hw0, rfl⟩ := List.mem_map.mp hw
            exact hl.2.2 _ (List.mem_map.mpr ⟨w0, nrm_mem ix lv' w0 hw0, rfl⟩)⟩
        | none =>
          rw [hcu] at h6
          exact ih pc' lv' st' σ' h6)
      rw [Nat.eq_of_beq_eq_true hb] at h5
      exact h5
theorem rn_ok (cs : Cs) (hO : Ok l own cc nL dl rt lay t) (hF : Fx p l R s m args meth c D z ts z0 lay a tl A own cc nL dl rt) (hQ : o.1 ≠ mk9 → ∀ nc ns t, Qo below args s D z ts lay a tl A o nc ns t → Q nc ns t) (ho : o.1 = none → 1 ≤ R.cells ∧ 6 ≤ R.slots) :
    ∀ (n pc : Nat) (lv : Lv) (st : List Vv) (σ : Mm), rn t cs n pc lv st σ = some o → Wr p l e R s m args below meth c D z ts lay a tl A nL Q pc lv st σ := by
  intro n
  induction n with
  | zero => intro pc lv st σ h; cases h
  | succ n ih =>
    intro pc lv st σ h
    exact rl_ok cs hF hQ ho (rn t cs n) ih t hO pc lv st σ h
end RUN
