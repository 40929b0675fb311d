/-! what is made: rows for constructors -/
section NEWS
variable {p : Program} {l : Launch} {e : Env} {R : Room} {s : State} {m : MethodId} {args : Array Value} {below : List Frame} {meth : Method} {c : Code} {H : Heap} {locs : List Loc} {cells slots : Nat} {Q : State → Prop} {cc : ByteArray} {pc : Nat} {ls : Array Slot} {rest : List Value} {A : Nat → Prop} {D : va_G} {z : Nat → ClassId} {ws : va_W} {H0 : Heap}
/-- a new array of numbers, of the kind t of tyl -/
theorem nw_a (t : Nat) {ty : FieldType} (ht : (tyl z)[t]? = some (z t, ty)) (hexec : p.tables.exec = Jvm.exec) (hb : c.code = cc) {atype : ArrayType} (harr : (Cond.arrayClass (newarray.typeOf atype)).before args s = true) (hty : newarray.typeOf atype = ty) (hobj : ∀ C, ty ≠ .object C) (hK : va_K D vwCl (tyl z) s) (hP : va_P D vwCl ws H) (hD : va_D A ws) (hS : va_S A H0 H locs) (hA : ∀ q, H0.size ≤ q → A q)
    {n : Int32} {N' : Nat} {a0 : vp_A} (ha : ∀ cA : ClassId, vp_cell cA a0 = arrV cA N' (fun _ => defaultValue ty)) (hn : ¬ n < 0) (hN : n.toNatClampNeg = N') (hbytes : N' * componentBytes ty ≤ 536870912) (hcells : cells + 1 ≤ R.cells) (hslots : slots + N' ≤ R.slots) (hdg : decode cc pc = .ok (.newarray atype, 2))
    (kk : ∀ (q : Nat) (H1 : Heap), va_P D vwCl (ws ++ [(q, .inl (z t, a0))]) H1 → va_D A (ws ++ [(q, .inl (z t, a0))]) → va_S A H0 H1 locs →
      W p l e R s m args below meth c H1 locs (cells + 1) (slots + N') Q (F0 m (pc + 2) ls (.ref q :: rest))) : W p l e R s m args below meth c H locs cells slots Q (F0 m pc ls (.int n :: rest)) := by
  refine va_newa hexec hb harr hty hK hP hD hS hA ha hn hN hbytes hcells hslots hdg (fun q cA H1 hK1 hP1 hD1 hS1 => ?_)
  have e1 := (hK1.2 (tyl z).length (cA, ty) (by simp)).2
  have e2 := (hK.2 t (z t, ty) ht).2
  have e3 : cA = z t := by
    cases ty with
    | object C => exact absurd rfl (hobj C)
    | _ => exact Option.some.inj (e1.symm.trans e2)
  subst e3
  exact kk q H1 hP1 hD1 hS1
end NEWS
theorem join_r {D : va_G} {A : Nat → Prop} {w0 wc w1 : va_W} {H H1 : Heap} (hP : va_P D vwCl (w0 ++ wc) H) (hD : va_D A (w0 ++ wc)) (hk : ∀ q : Nat, q < H.size → ¬ va_A wc H.size q → H1[q]? = H[q]?) (hF : ∀ q, va_A wc H.size q → A q) (hP1 : va_P D vwCl w1 H1) (hD1 : va_D (va_A wc H.size) w1) : va_P D vwCl (w0 ++ w1) H1 ∧ va_D A (w0 ++ w1) := by
  refine va_join (wr := w0) (wc := wc) (w1 := w1) hP hD ((List.range wc.length).map (fun i => w0.length + i)) (List.range w0.length) ?_ ?_ ?_ ?_ hk hF hP1 hD1
  · apply List.ext_getElem?
    intro j
    simp only [List.getElem?_map, List.map_map]
    by_cases hj : j < wc.length
    · rw [List.getElem?_range hj]
      simp [List.getElem?_append_right, hj]
    · rw [List.getElem?_eq_none (by simpa using hj), List.getElem?_eq_none (by simpa using hj)]
      rfl
  · apply List.ext_getElem?
    intro j
    simp only [List.getElem?_map]
    by_cases hj : j < w0.length
    · rw [List.getElem?_range hj]
      simp [List.getElem?_append_left, hj]
    · rw [List.getElem?_eq_none (by simpa using hj), List.getElem?_eq_none (by simpa using hj)]
      rfl
  · have nd : ∀ n : Nat, va_nd ((List.range' 0 n)) = true := by
      have gen : ∀ n k : Nat, va_nd (List.range' k n) = true := by
        intro n
        induction n with
        | zero => intro k; rfl
        | succ n ih =>
          intro k
          rw [List.range'_succ]
          unfold va_nd
          rw [ih, Bool.and_true, decide_eq_true_eq, List.mem_range'_1]
          omega
      exact fun n => gen n 0
    rw [List.range_eq_range']
    exact nd _
  · intro i hi hc
    obtain ⟨j, -, hj⟩ := List.mem_map.mp hc
    have := List.mem_range.mp hi
    omega
theorem wn_int : Cond.arrayClass .int ∈ gtb := List.mem_filter.mpr ⟨List.mem_of_getElem? (i := 189) (by decide +kernel), rfl⟩
theorem wn_byte : Cond.arrayClass .byte ∈ gtb := List.mem_filter.mpr ⟨List.mem_of_getElem? (i := 254) (by decide +kernel), rfl⟩
theorem wn_bool : Cond.arrayClass .boolean ∈ gtb := List.mem_filter.mpr ⟨List.mem_of_getElem? (i := 255) (by decide +kernel), rfl⟩
theorem wn_objI : Cond.instanceMethod Lib.objectInit ∈ gtb := List.mem_filter.mpr ⟨List.mem_of_getElem? (i := 111) (by decide +kernel), rfl⟩
theorem wn_objC : Cond.code Lib.objectInit ⟨#[0xb1]⟩ 1 none ∈ gtb := List.mem_filter.mpr ⟨List.mem_of_getElem? (i := 112) (by decide +kernel), rfl⟩
