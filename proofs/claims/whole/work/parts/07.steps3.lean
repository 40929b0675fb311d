theorem stk_v {a ts : Nat → Nat} {st : List Vv} {n : Nat} {x : Value} {xs : List Value} (h : (st.take n).reverse.map (cv a ts) = x :: xs) : st.map (cv a ts) = xs.reverse ++ x :: (st.drop n).map (cv a ts) := by
  have e : (st.take n).map (cv a ts) = xs.reverse ++ [x] := by
    have h1 := congrArg List.reverse h
    rw [← List.map_reverse, List.reverse_reverse, List.reverse_cons] at h1
    exact h1
  conv => lhs; rw [← List.take_append_drop n st, List.map_append, e, List.append_assoc]
  rfl
theorem stk_s {a ts : Nat → Nat} {st : List Vv} {n : Nat} {xs : List Value} (h : (st.take n).reverse.map (cv a ts) = xs) : st.map (cv a ts) = xs.reverse ++ (st.drop n).map (cv a ts) := by
  have e : (st.take n).map (cv a ts) = xs.reverse := by
    have h1 := congrArg List.reverse h
    rw [← List.map_reverse, List.reverse_reverse] at h1
    exact h1
  conv => lhs; rw [← List.take_append_drop n st, List.map_append, e]
section CALLS
variable {l : Launch} {own : String} {cc : ByteArray} {nL dl : Nat} {rt : Option FieldType} {lay layC : List Shp} {pc pc' : Nat} {y : MethodName} {cy : ByteArray} {nLy dly index : Nat} {rty : Option FieldType} {f : List Vv → Mm → Option Ou} {ci N nA : Nat} {T : u_T} {fds : List (Option Nat)} {g : Sg}
theorem so_vi (hC : Ct l y cy nLy rty dly layC f) (hcode : Cond.code y cy nLy rty ∈ gtb) (hml : Cond.methodLink own index y ∈ gtb) (hins : Cond.instanceMethod y ∈ gtb) (hsel : Cond.selects y.cls y y ∈ gtb) (hini : Cond.initialized y.cls ∈ gtb) (hd : y.cls ≠ "java/lang/invoke/MethodHandle" ∧ y.cls ≠ "java/lang/invoke/VarHandle" ∧ (parseMethodDescriptor y.desc).map (fun d => d.parameters.length) = some nA) (hdl : dly + 1 ≤ dl ∧ nLy ≤ 18) (hrecv : layC[0]? = some (.inr (ci, fds))) (hcl : vwCl[ci]? = some (y.cls, T, N)) (hcmp : Cmp lay layC g) (hdg : decode cc pc = .ok (.invokevirtual index, 3)) (hp : pc + 3 = pc') : So l own cc nL dl rt lay pc (s_ci true pc' (nA + 1) g f) := by
  subst hp
  intro p e R s m args below meth c D z ts z0 a tl A hF k lv st σ o ho h hk H locs ls hP hS hl
  obtain ⟨vs, ht, hr8, hlen, hw, h⟩ := ag_inv h
  obtain ⟨vs', rfl⟩ := hw rfl
  have hcvs : (st.take (nA + 1)).reverse.map (cv a ts) = (.inr (.inl 0) :: vs').map (cv (fun j => a (g.1 j)) ts) := (trs_cv (a := a) (ts := ts) hcmp ht).symm
  have hln : vs'.length = nA := by
    have h9 := congrArg List.length hcvs
    simp only [List.length_map, List.length_reverse, hlen, List.length_cons] at h9
    omega
  have hstk := stk_v hcvs
  have hr9 : (((st.drop (nA + 1)).map (cv a ts)).map fun v => v.category).sum ≤ 8 := by rw [cv_sum]; exact hr8
  obtain ⟨-, -, -, -, -, -, hD, hA, hA0, -, hlk, -, -, -, hxt⟩ := id hF
  have hPc := fr_P hcmp hP
  have hDc := fr_D hcmp hA0 (hD σ)
  have hA1 := fr_A (H := H) hcmp (hD σ) (fun q h => hA q (Nat.le_trans hS.1 h))
  unfold onI at h
  split at h
  · next x τ heq =>
    refine call_go (run_v (vr := some (.inl x)) hF hC hcode hml hins hsel hini hd hdl hrecv hcl heq hPc hDc hS hl.1 hr9 hln hstk hdg) hS hA1 (fun H1 locs1 hP1 hk1 hS1 => ?_)
    exact hk _ _ _ _ h H1 locs1 ls (fr_up hcmp hP (hD σ) hP1 hk1) hS1 hl
  · next τ heq =>
    cases h
    exact call_th (asA := #[]) (run_vx hF (ho rfl) hC hcode hml hins hsel hini hd hdl hrecv hcl heq hPc hDc hS hl.1 hr9 hln hstk hdg) hS hA1 hxt hlk (fun H1 hP1 hk1 => (fr_up hcmp hP (hD σ) hP1 hk1))
  · cases h
theorem so_vv (hC : Ct l y cy nLy rty dly layC f) (hcode : Cond.code y cy nLy rty ∈ gtb) (hml : Cond.methodLink own index y ∈ gtb) (hins : Cond.instanceMethod y ∈ gtb) (hsel : Cond.selects y.cls y y ∈ gtb) (hini : Cond.initialized y.cls ∈ gtb) (hd : y.cls ≠ "java/lang/invoke/MethodHandle" ∧ y.cls ≠ "java/lang/invoke/VarHandle" ∧ (parseMethodDescriptor y.desc).map (fun d => d.parameters.length) = some nA) (hdl : dly + 1 ≤ dl ∧ nLy ≤ 18) (hrecv : layC[0]? = some (.inr (ci, fds))) (hcl : vwCl[ci]? = some (y.cls, T, N)) (hcmp : Cmp lay layC g) (hdg : decode cc pc = .ok (.invokevirtual index, 3)) (hp : pc + 3 = pc') : So l own cc nL dl rt lay pc (s_cv true pc' (nA + 1) g f) := by
  subst hp
  intro p e R s m args below meth c D z ts z0 a tl A hF k lv st σ o ho h hk H locs ls hP hS hl
  obtain ⟨vs, ht, hr8, hlen, hw, h⟩ := ag_inv h
  obtain ⟨vs', rfl⟩ := hw rfl
  have hcvs : (st.take (nA + 1)).reverse.map (cv a ts) = (.inr (.inl 0) :: vs').map (cv (fun j => a (g.1 j)) ts) := (trs_cv (a := a) (ts := ts) hcmp ht).symm
  have hln : vs'.length = nA := by
    have h9 := congrArg List.length hcvs
    simp only [List.length_map, List.length_reverse, hlen, List.length_cons] at h9
    omega
  have hstk := stk_v hcvs
  have hr9 : (((st.drop (nA + 1)).map (cv a ts)).map fun v => v.category).sum ≤ 8 := by rw [cv_sum]; exact hr8
  obtain ⟨-, -, -, -, -, -, hD, hA, hA0, -, hlk, -, -, -, hxt⟩ := id hF
  have hPc := fr_P hcmp hP
  have hDc := fr_D hcmp hA0 (hD σ)
  have hA1 := fr_A (H := H) hcmp (hD σ) (fun q h => hA q (Nat.le_trans hS.1 h))
  unfold onV at h
  split at h
  · next τ heq =>
    refine call_go (run_v (vr := none) hF hC hcode hml hins hsel hini hd hdl hrecv hcl heq hPc hDc hS hl.1 hr9 hln hstk hdg) hS hA1 (fun H1 locs1 hP1 hk1 hS1 => ?_)
    exact hk _ _ _ _ h H1 locs1 ls (fr_up hcmp hP (hD σ) hP1 hk1) hS1 hl
  · next τ heq =>
    cases h
    exact call_th (asA := #[]) (run_vx hF (ho rfl) hC hcode hml hins hsel hini hd hdl hrecv hcl heq hPc hDc hS hl.1 hr9 hln hstk hdg) hS hA1 hxt hlk (fun H1 hP1 hk1 => (fr_up hcmp hP (hD σ) hP1 hk1))
  · cases h
theorem so_va (hC : Ct l y cy nLy rty dly layC f) (hcode : Cond.code y cy nLy rty ∈ gtb) (hml : Cond.methodLink own index y ∈ gtb) (hins : Cond.instanceMethod y ∈ gtb) (hsel : Cond.selects y.cls y y ∈ gtb) (hini : Cond.initialized y.cls ∈ gtb) (hd : y.cls ≠ "java/lang/invoke/MethodHandle" ∧ y.cls ≠ "java/lang/invoke/VarHandle" ∧ (parseMethodDescriptor y.desc).map (fun d => d.parameters.length) = some nA) (hdl : dly + 1 ≤ dl ∧ nLy ≤ 18) (hrecv : layC[0]? = some (.inr (ci, fds))) (hcl : vwCl[ci]? = some (y.cls, T, N)) (hcmp : Cmp lay layC g) (hdg : decode cc pc = .ok (.invokevirtual index, 3)) (hp : pc + 3 = pc') : So l own cc nL dl rt lay pc (s_ca true pc' (nA + 1) g f) := by
  subst hp
  intro p e R s m args below meth c D z ts z0 a tl A hF k lv st σ o ho h hk H locs ls hP hS hl
  obtain ⟨vs, ht, hr8, hlen, hw, h⟩ := ag_inv h
  obtain ⟨vs', rfl⟩ := hw rfl
  have hcvs : (st.take (nA + 1)).reverse.map (cv a ts) = (.inr (.inl 0) :: vs').map (cv (fun j => a (g.1 j)) ts) := (trs_cv (a := a) (ts := ts) hcmp ht).symm
  have hln : vs'.length = nA := by
    have h9 := congrArg List.length hcvs
    simp only [List.length_map, List.length_reverse, hlen, List.length_cons] at h9
    omega
  have hstk := stk_v hcvs
  have hr9 : (((st.drop (nA + 1)).map (cv a ts)).map fun v => v.category).sum ≤ 8 := by rw [cv_sum]; exact hr8
  obtain ⟨-, -, -, -, -, -, hD, hA, hA0, -, hlk, -, -, -, hxt⟩ := id hF
  have hPc := fr_P hcmp hP
  have hDc := fr_D hcmp hA0 (hD σ)
  have hA1 := fr_A (H := H) hcmp (hD σ) (fun q h => hA q (Nat.le_trans hS.1 h))
  unfold onA at h
  split at h
  · next j τ heq =>
    refine call_go (run_v (vr := some (.inr (.inl j))) hF hC hcode hml hins hsel hini hd hdl hrecv hcl heq hPc hDc hS hl.1 hr9 hln hstk hdg) hS hA1 (fun H1 locs1 hP1 hk1 hS1 => ?_)
    exact hk _ _ _ _ h H1 locs1 ls (fr_up hcmp hP (hD σ) hP1 hk1) hS1 hl
  · next τ heq =>
    cases h
    exact call_th (asA := #[]) (run_vx hF (ho rfl) hC hcode hml hins hsel hini hd hdl hrecv hcl heq hPc hDc hS hl.1 hr9 hln hstk hdg) hS hA1 hxt hlk (fun H1 hP1 hk1 => (fr_up hcmp hP (hD σ) hP1 hk1))
  · cases h
theorem so_vi0 (hC : Ct l y cy nLy rty dly lay f) (hcode : Cond.code y cy nLy rty ∈ gtb) (hml : Cond.methodLink own index y ∈ gtb) (hins : Cond.instanceMethod y ∈ gtb) (hsel : Cond.selects y.cls y y ∈ gtb) (hini : Cond.initialized y.cls ∈ gtb) (hd : y.cls ≠ "java/lang/invoke/MethodHandle" ∧ y.cls ≠ "java/lang/invoke/VarHandle" ∧ (parseMethodDescriptor y.desc).map (fun d => d.parameters.length) = some nA) (hdl : dly + 1 ≤ dl ∧ nLy ≤ 18) (hrecv : lay[0]? = some (.inr (ci, fds))) (hcl : vwCl[ci]? = some (y.cls, T, N)) (hdg : decode cc pc = .ok (.invokevirtual index, 3)) (hp : pc + 3 = pc') : So l own cc nL dl rt lay pc (s_ci0 true pc' (nA + 1) f) := by
  subst hp
  intro p e R s m args below meth c D z ts z0 a tl A hF k lv st σ o ho h hk H locs ls hP hS hl
  obtain ⟨vs, ht, hr8, hlen, hw, h⟩ := ag_inv h
  obtain ⟨vs', rfl⟩ := hw rfl
  have hcvs : (st.take (nA + 1)).reverse.map (cv a ts) = (.inr (.inl 0) :: vs').map (cv a ts) := by rw [Option.some.inj ht]
  have hln : vs'.length = nA := by
    have h9 := congrArg List.length hcvs
    simp only [List.length_map, List.length_reverse, hlen, List.length_cons] at h9
    omega
  have hstk := stk_v hcvs
  have hr9 : (((st.drop (nA + 1)).map (cv a ts)).map fun v => v.category).sum ≤ 8 := by rw [cv_sum]; exact hr8
  obtain ⟨-, -, -, -, -, -, hD, hA, hA0, -, hlk, -, -, -, hxt⟩ := id hF
  have hPc := hP
  have hDc : va_D (fun q => z0 ≤ q) (wT z lay a tl σ) := (hD σ).weaken (fun _ _ _ h => hA0 _ h)
  have hA1 : ∀ q, va_A (wT z lay a tl σ) H.size q → A q := by
    rintro q (⟨k9, e9, hk9⟩ | h9)
    · exact (hD σ).2 _ _ hk9
    · exact hA q (Nat.le_trans hS.1 h9)
  unfold onI at h
  split at h
  · next x τ heq =>
    refine call_go (run_v (vr := some (.inl x)) hF hC hcode hml hins hsel hini hd hdl hrecv hcl heq hPc hDc hS hl.1 hr9 hln hstk hdg) hS hA1 (fun H1 locs1 hP1 hk1 hS1 => ?_)
    exact hk _ _ _ _ h H1 locs1 ls hP1 hS1 hl
  · next τ heq =>
    cases h
    exact call_th (asA := #[]) (run_vx hF (ho rfl) hC hcode hml hins hsel hini hd hdl hrecv hcl heq hPc hDc hS hl.1 hr9 hln hstk hdg) hS hA1 hxt hlk (fun H1 hP1 hk1 => hP1)
  · cases h
theorem so_vv0 (hC : Ct l y cy nLy rty dly lay f) (hcode : Cond.code y cy nLy rty ∈ gtb) (hml : Cond.methodLink own index y ∈ gtb) (hins : Cond.instanceMethod y ∈ gtb) (hsel : Cond.selects y.cls y y ∈ gtb) (hini : Cond.initialized y.cls ∈ gtb) (hd : y.cls ≠ "java/lang/invoke/MethodHandle" ∧ y.cls ≠ "java/lang/invoke/VarHandle" ∧ (parseMethodDescriptor y.desc).map (fun d => d.parameters.length) = some nA) (hdl : dly + 1 ≤ dl ∧ nLy ≤ 18) (hrecv : lay[0]? = some (.inr (ci, fds))) (hcl : vwCl[ci]? = some (y.cls, T, N)) (hdg : decode cc pc = .ok (.invokevirtual index, 3)) (hp : pc + 3 = pc') : So l own cc nL dl rt lay pc (s_cv0 true pc' (nA + 1) f) := by
  subst hp
  intro p e R s m args below meth c D z ts z0 a tl A hF k lv st σ o ho h hk H locs ls hP hS hl
  obtain ⟨vs, ht, hr8, hlen, hw, h⟩ := ag_inv h
  obtain ⟨vs', rfl⟩ := hw rfl
  have hcvs : (st.take (nA + 1)).reverse.map (cv a ts) = (.inr (.inl 0) :: vs').map (cv a ts) := by rw [Option.some.inj ht]
  have hln : vs'.length = nA := by
    have h9 := congrArg List.length hcvs
    simp only [List.length_map, List.length_reverse, hlen, List.length_cons] at h9
    omega
  have hstk := stk_v hcvs
  have hr9 : (((st.drop (nA + 1)).map (cv a ts)).map fun v => v.category).sum ≤ 8 := by rw [cv_sum]; exact hr8
  obtain ⟨-, -, -, -, -, -, hD, hA, hA0, -, hlk, -, -, -, hxt⟩ := id hF
  have hPc := hP
  have hDc : va_D (fun q => z0 ≤ q) (wT z lay a tl σ) := (hD σ).weaken (fun _ _ _ h => hA0 _ h)
  have hA1 : ∀ q, va_A (wT z lay a tl σ) H.size q → A q := by
    rintro q (⟨k9, e9, hk9⟩ | h9)
    · exact (hD σ).2 _ _ hk9
    · exact hA q (Nat.le_trans hS.1 h9)
  unfold onV at h
  split at h
  · next τ heq =>
    refine call_go (run_v (vr := none) hF hC hcode hml hins hsel hini hd hdl hrecv hcl heq hPc hDc hS hl.1 hr9 hln hstk hdg) hS hA1 (fun H1 locs1 hP1 hk1 hS1 => ?_)
    exact hk _ _ _ _ h H1 locs1 ls hP1 hS1 hl
  · next τ heq =>
    cases h
    exact call_th (asA := #[]) (run_vx hF (ho rfl) hC hcode hml hins hsel hini hd hdl hrecv hcl heq hPc hDc hS hl.1 hr9 hln hstk hdg) hS hA1 hxt hlk (fun H1 hP1 hk1 => hP1)
  · cases h
theorem so_va0 (hC : Ct l y cy nLy rty dly lay f) (hcode : Cond.code y cy nLy rty ∈ gtb) (hml : Cond.methodLink own index y ∈ gtb) (hins : Cond.instanceMethod y ∈ gtb) (hsel : Cond.selects y.cls y y ∈ gtb) (hini : Cond.initialized y.cls ∈ gtb) (hd : y.cls ≠ "java/lang/invoke/MethodHandle" ∧ y.cls ≠ "java/lang/invoke/VarHandle" ∧ (parseMethodDescriptor y.desc).map (fun d => d.parameters.length) = some nA) (hdl : dly + 1 ≤ dl ∧ nLy ≤ 18) (hrecv : lay[0]? = some (.inr (ci, fds))) (hcl : vwCl[ci]? = some (y.cls, T, N)) (hdg : decode cc pc = .ok (.invokevirtual index, 3)) (hp : pc + 3 = pc') : So l own cc nL dl rt lay pc (s_ca0 true pc' (nA + 1) f) := by
  subst hp
  intro p e R s m args below meth c D z ts z0 a tl A hF k lv st σ o ho h hk H locs ls hP hS hl
  obtain ⟨vs, ht, hr8, hlen, hw, h⟩ := ag_inv h
  obtain ⟨vs', rfl⟩ := hw rfl
  have hcvs : (st.take (nA + 1)).reverse.map (cv a ts) = (.inr (.inl 0) :: vs').map (cv a ts) := by rw [Option.some.inj ht]
  have hln : vs'.length = nA := by
    have h9 := congrArg List.length hcvs
    simp only [List.length_map, List.length_reverse, hlen, List.length_cons] at h9
    omega
  have hstk := stk_v hcvs
  have hr9 : (((st.drop (nA + 1)).map (cv a ts)).map fun v => v.category).sum ≤ 8 := by rw [cv_sum]; exact hr8
  obtain ⟨-, -, -, -, -, -, hD, hA, hA0, -, hlk, -, -, -, hxt⟩ := id hF
  have hPc := hP
  have hDc : va_D (fun q => z0 ≤ q) (wT z lay a tl σ) := (hD σ).weaken (fun _ _ _ h => hA0 _ h)
  have hA1 : ∀ q, va_A (wT z lay a tl σ) H.size q → A q := by
    rintro q (⟨k9, e9, hk9⟩ | h9)
    · exact (hD σ).2 _ _ hk9
    · exact hA q (Nat.le_trans hS.1 h9)
  unfold onA at h
  split at h
  · next j τ heq =>
    refine call_go (run_v (vr := some (.inr (.inl j))) hF hC hcode hml hins hsel hini hd hdl hrecv hcl heq hPc hDc hS hl.1 hr9 hln hstk hdg) hS hA1 (fun H1 locs1 hP1 hk1 hS1 => ?_)
    exact hk _ _ _ _ h H1 locs1 ls hP1 hS1 hl
  · next τ heq =>
    cases h
    exact call_th (asA := #[]) (run_vx hF (ho rfl) hC hcode hml hins hsel hini hd hdl hrecv hcl heq hPc hDc hS hl.1 hr9 hln hstk hdg) hS hA1 hxt hlk (fun H1 hP1 hk1 => hP1)
  · cases h
theorem so_si (hnt : ∀ vs σ τ, f vs σ ≠ some (none, τ)) (hC : Ct l y cy nLy rty dly layC f) (hcode : Cond.code y cy nLy rty ∈ gtb) (hml : Cond.methodLink own index y ∈ gtb) (hsta : Cond.static y ∈ gtb) (hini : Cond.initialized y.cls ∈ gtb) (hd : y.cls ≠ "java/lang/invoke/MethodHandle" ∧ y.cls ≠ "java/lang/invoke/VarHandle" ∧ (parseMethodDescriptor y.desc).map (fun d => d.parameters.length) = some nA) (hdl : dly + 1 ≤ dl ∧ nLy ≤ 18) (hcmp : Cmp lay layC g) (hdg : decode cc pc = .ok (.invokestatic index, 3)) (hp : pc + 3 = pc') : So l own cc nL dl rt lay pc (s_ci false pc' nA g f) := by
  subst hp
  intro p e R s m args below meth c D z ts z0 a tl A hF k lv st σ o ho h hk H locs ls hP hS hl
  obtain ⟨vs, ht, hr8, hlen, hw, h⟩ := ag_inv h
  obtain ⟨vs', rfl⟩ : ∃ z, z = vs := ⟨_, rfl⟩
  have hcvs : (st.take nA).reverse.map (cv a ts) = vs'.map (cv (fun j => a (g.1 j)) ts) := (trs_cv (a := a) (ts := ts) hcmp ht).symm
  have hln : vs'.length = nA := by
    have h9 := congrArg List.length hcvs
    simp only [List.length_map, List.length_reverse, hlen, List.length_cons] at h9
    omega
  have hstk := stk_s hcvs
  have hr9 : (((st.drop nA).map (cv a ts)).map fun v => v.category).sum ≤ 8 := by rw [cv_sum]; exact hr8
  obtain ⟨-, -, -, -, -, -, hD, hA, hA0, -, hlk, -, -, -, hxt⟩ := id hF
  have hPc := fr_P hcmp hP
  have hDc := fr_D hcmp hA0 (hD σ)
  have hA1 := fr_A (H := H) hcmp (hD σ) (fun q h => hA q (Nat.le_trans hS.1 h))
  unfold onI at h
  split at h
  · next x τ heq =>
    refine call_go (run_s (vr := some (.inl x)) hF hC hcode hml hsta hini hd hdl heq hPc hDc hS hl.1 hr9 hln hstk hdg) hS hA1 (fun H1 locs1 hP1 hk1 hS1 => ?_)
    exact hk _ _ _ _ h H1 locs1 ls (fr_up hcmp hP (hD σ) hP1 hk1) hS1 hl
  · next τ heq => exact absurd heq (hnt _ _ _)
  · cases h
theorem so_sv (hnt : ∀ vs σ τ, f vs σ ≠ some (none, τ)) (hC : Ct l y cy nLy rty dly layC f) (hcode : Cond.code y cy nLy rty ∈ gtb) (hml : Cond.methodLink own index y ∈ gtb) (hsta : Cond.static y ∈ gtb) (hini : Cond.initialized y.cls ∈ gtb) (hd : y.cls ≠ "java/lang/invoke/MethodHandle" ∧ y.cls ≠ "java/lang/invoke/VarHandle" ∧ (parseMethodDescriptor y.desc).map (fun d => d.parameters.length) = some nA) (hdl : dly + 1 ≤ dl ∧ nLy ≤ 18) (hcmp : Cmp lay layC g) (hdg : decode cc pc = .ok (.invokestatic index, 3)) (hp : pc + 3 = pc') : So l own cc nL dl rt lay pc (s_cv false pc' nA g f) := by
  subst hp
  intro p e R s m args below meth c D z ts z0 a tl A hF k lv st σ o ho h hk H locs ls hP hS hl
  obtain ⟨vs, ht, hr8, hlen, hw, h⟩ := ag_inv h
  obtain ⟨vs', rfl⟩ : ∃ z, z = vs := ⟨_, rfl⟩
  have hcvs : (st.take nA).reverse.map (cv a ts) = vs'.map (cv (fun j => a (g.1 j)) ts) := (trs_cv (a := a) (ts := ts) hcmp ht).symm
  have hln : vs'.length = nA := by
    have h9 := congrArg List.length hcvs
    simp only [List.length_map, List.length_reverse, hlen, List.length_cons] at h9
    omega
  have hstk := stk_s hcvs
  have hr9 : (((st.drop nA).map (cv a ts)).map fun v => v.category).sum ≤ 8 := by rw [cv_sum]; exact hr8
  obtain ⟨-, -, -, -, -, -, hD, hA, hA0, -, hlk, -, -, -, hxt⟩ := id hF
  have hPc := fr_P hcmp hP
  have hDc := fr_D hcmp hA0 (hD σ)
  have hA1 := fr_A (H := H) hcmp (hD σ) (fun q h => hA q (Nat.le_trans hS.1 h))
  unfold onV at h
  split at h
  · next τ heq =>
    refine call_go (run_s (vr := none) hF hC hcode hml hsta hini hd hdl heq hPc hDc hS hl.1 hr9 hln hstk hdg) hS hA1 (fun H1 locs1 hP1 hk1 hS1 => ?_)
    exact hk _ _ _ _ h H1 locs1 ls (fr_up hcmp hP (hD σ) hP1 hk1) hS1 hl
  · next τ heq => exact absurd heq (hnt _ _ _)
  · cases h
theorem so_sa (hnt : ∀ vs σ τ, f vs σ ≠ some (none, τ)) (hC : Ct l y cy nLy rty dly layC f) (hcode : Cond.code y cy nLy rty ∈ gtb) (hml : Cond.methodLink own index y ∈ gtb) (hsta : Cond.static y ∈ gtb) (hini : Cond.initialized y.cls ∈ gtb) (hd : y.cls ≠ "java/lang/invoke/MethodHandle" ∧ y.cls ≠ "java/lang/invoke/VarHandle" ∧ (parseMethodDescriptor y.desc).map (fun d => d.parameters.length) = some nA) (hdl : dly + 1 ≤ dl ∧ nLy ≤ 18) (hcmp : Cmp lay layC g) (hdg : decode cc pc = .ok (.invokestatic index, 3)) (hp : pc + 3 = pc') : So l own cc nL dl rt lay pc (s_ca false pc' nA g f) := by
  subst hp
  intro p e R s m args below meth c D z ts z0 a tl A hF k lv st σ o ho h hk H locs ls hP hS hl
  obtain ⟨vs, ht, hr8, hlen, hw, h⟩ := ag_inv h
  obtain ⟨vs', rfl⟩ : ∃ z, z = vs := ⟨_, rfl⟩
  have hcvs : (st.take nA).reverse.map (cv a ts) = vs'.map (cv (fun j => a (g.1 j)) ts) := (trs_cv (a := a) (ts := ts) hcmp ht).symm
  have hln : vs'.length = nA := by
    have h9 := congrArg List.length hcvs
    simp only [List.length_map, List.length_reverse, hlen, List.length_cons] at h9
    omega
  have hstk := stk_s hcvs
  have hr9 : (((st.drop nA).map (cv a ts)).map fun v => v.category).sum ≤ 8 := by rw [cv_sum]; exact hr8
  obtain ⟨-, -, -, -, -, -, hD, hA, hA0, -, hlk, -, -, -, hxt⟩ := id hF
  have hPc := fr_P hcmp hP
  have hDc := fr_D hcmp hA0 (hD σ)
  have hA1 := fr_A (H := H) hcmp (hD σ) (fun q h => hA q (Nat.le_trans hS.1 h))
  unfold onA at h
  split at h
  · next j τ heq =>
    refine call_go (run_s (vr := some (.inr (.inl j))) hF hC hcode hml hsta hini hd hdl heq hPc hDc hS hl.1 hr9 hln hstk hdg) hS hA1 (fun H1 locs1 hP1 hk1 hS1 => ?_)
    exact hk _ _ _ _ h H1 locs1 ls (fr_up hcmp hP (hD σ) hP1 hk1) hS1 hl
  · next τ heq => exact absurd heq (hnt _ _ _)
  · cases h
theorem so_si0 (hnt : ∀ vs σ τ, f vs σ ≠ some (none, τ)) (hC : Ct l y cy nLy rty dly lay f) (hcode : Cond.code y cy nLy rty ∈ gtb) (hml : Cond.methodLink own index y ∈ gtb) (hsta : Cond.static y ∈ gtb) (hini : Cond.initialized y.cls ∈ gtb) (hd : y.cls ≠ "java/lang/invoke/MethodHandle" ∧ y.cls ≠ "java/lang/invoke/VarHandle" ∧ (parseMethodDescriptor y.desc).map (fun d => d.parameters.length) = some nA) (hdl : dly + 1 ≤ dl ∧ nLy ≤ 18) (hdg : decode cc pc = .ok (.invokestatic index, 3)) (hp : pc + 3 = pc') : So l own cc nL dl rt lay pc (s_ci0 false pc' nA f) := by
  subst hp
  intro p e R s m args below meth c D z ts z0 a tl A hF k lv st σ o ho h hk H locs ls hP hS hl
  obtain ⟨vs, ht, hr8, hlen, hw, h⟩ := ag_inv h
  obtain ⟨vs', rfl⟩ : ∃ z, z = vs := ⟨_, rfl⟩
  have hcvs : (st.take nA).reverse.map (cv a ts) = vs'.map (cv a ts) := by rw [Option.some.inj ht]
  have hln : vs'.length = nA := by
    have h9 := congrArg List.length hcvs
    simp only [List.length_map, List.length_reverse, hlen, List.length_cons] at h9
    omega
  have hstk := stk_s hcvs
  have hr9 : (((st.drop nA).map (cv a ts)).map fun v => v.category).sum ≤ 8 := by rw [cv_sum]; exact hr8
  obtain ⟨-, -, -, -, -, -, hD, hA, hA0, -, hlk, -, -, -, hxt⟩ := id hF
  have hPc := hP
  have hDc : va_D (fun q => z0 ≤ q) (wT z lay a tl σ) := (hD σ).weaken (fun _ _ _ h => hA0 _ h)
  have hA1 : ∀ q, va_A (wT z lay a tl σ) H.size q → A q := by
    rintro q (⟨k9, e9, hk9⟩ | h9)
    · exact (hD σ).2 _ _ hk9
    · exact hA q (Nat.le_trans hS.1 h9)
  unfold onI at h
  split at h
  · next x τ heq =>
    refine call_go (run_s (vr := some (.inl x)) hF hC hcode hml hsta hini hd hdl heq hPc hDc hS hl.1 hr9 hln hstk hdg) hS hA1 (fun H1 locs1 hP1 hk1 hS1 => ?_)
    exact hk _ _ _ _ h H1 locs1 ls hP1 hS1 hl
  · next τ heq => exact absurd heq (hnt _ _ _)
  · cases h
theorem so_sv0 (hnt : ∀ vs σ τ, f vs σ ≠ some (none, τ)) (hC : Ct l y cy nLy rty dly lay f) (hcode : Cond.code y cy nLy rty ∈ gtb) (hml : Cond.methodLink own index y ∈ gtb) (hsta : Cond.static y ∈ gtb) (hini : Cond.initialized y.cls ∈ gtb) (hd : y.cls ≠ "java/lang/invoke/MethodHandle" ∧ y.cls ≠ "java/lang/invoke/VarHandle" ∧ (parseMethodDescriptor y.desc).map (fun d => d.parameters.length) = some nA) (hdl : dly + 1 ≤ dl ∧ nLy ≤ 18) (hdg : decode cc pc = .ok (.invokestatic index, 3)) (hp : pc + 3 = pc') : So l own cc nL dl rt lay pc (s_cv0 false pc' nA f) := by
  subst hp
  intro p e R s m args below meth c D z ts z0 a tl A hF k lv st σ o ho h hk H locs ls hP hS hl
  obtain ⟨vs, ht, hr8, hlen, hw, h⟩ := ag_inv h
  obtain ⟨vs', rfl⟩ : ∃ z, z = vs := ⟨_, rfl⟩
  have hcvs : (st.take nA).reverse.map (cv a ts) = vs'.map (cv a ts) := by rw [Option.some.inj ht]
  have hln : vs'.length = nA := by
    have h9 := congrArg List.length hcvs
    simp only [List.length_map, List.length_reverse, hlen, List.length_cons] at h9
    omega
  have hstk := stk_s hcvs
  have hr9 : (((st.drop nA).map (cv a ts)).map fun v => v.category).sum ≤ 8 := by rw [cv_sum]; exact hr8
  obtain ⟨-, -, -, -, -, -, hD, hA, hA0, -, hlk, -, -, -, hxt⟩ := id hF
  have hPc := hP
  have hDc : va_D (fun q => z0 ≤ q) (wT z lay a tl σ) := (hD σ).weaken (fun _ _ _ h => hA0 _ h)
  have hA1 : ∀ q, va_A (wT z lay a tl σ) H.size q → A q := by
    rintro q (⟨k9, e9, hk9⟩ | h9)
    · exact (hD σ).2 _ _ hk9
    · exact hA q (Nat.le_trans hS.1 h9)
  unfold onV at h
  split at h
  · next τ heq =>
    refine call_go (run_s (vr := none) hF hC hcode hml hsta hini hd hdl heq hPc hDc hS hl.1 hr9 hln hstk hdg) hS hA1 (fun H1 locs1 hP1 hk1 hS1 => ?_)
    exact hk _ _ _ _ h H1 locs1 ls hP1 hS1 hl
  · next τ heq => exact absurd heq (hnt _ _ _)
  · cases h
theorem so_sa0 (hnt : ∀ vs σ τ, f vs σ ≠ some (none, τ)) (hC : Ct l y cy nLy rty dly lay f) (hcode : Cond.code y cy nLy rty ∈ gtb) (hml : Cond.methodLink own index y ∈ gtb) (hsta : Cond.static y ∈ gtb) (hini : Cond.initialized y.cls ∈ gtb) (hd : y.cls ≠ "java/lang/invoke/MethodHandle" ∧ y.cls ≠ "java/lang/invoke/VarHandle" ∧ (parseMethodDescriptor y.desc).map (fun d => d.parameters.length) = some nA) (hdl : dly + 1 ≤ dl ∧ nLy ≤ 18) (hdg : decode cc pc = .ok (.invokestatic index, 3)) (hp : pc + 3 = pc') : So l own cc nL dl rt lay pc (s_ca0 false pc' nA f) := by
  subst hp
  intro p e R s m args below meth c D z ts z0 a tl A hF k lv st σ o ho h hk H locs ls hP hS hl
  obtain ⟨vs, ht, hr8, hlen, hw, h⟩ := ag_inv h
  obtain ⟨vs', rfl⟩ : ∃ z, z = vs := ⟨_, rfl⟩
  have hcvs : (st.take nA).reverse.map (cv a ts) = vs'.map (cv a ts) := by rw [Option.some.inj ht]
  have hln : vs'.length = nA := by
    have h9 := congrArg List.length hcvs
    simp only [List.length_map, List.length_reverse, hlen, List.length_cons] at h9
    omega
  have hstk := stk_s hcvs
  have hr9 : (((st.drop nA).map (cv a ts)).map fun v => v.category).sum ≤ 8 := by rw [cv_sum]; exact hr8
  obtain ⟨-, -, -, -, -, -, hD, hA, hA0, -, hlk, -, -, -, hxt⟩ := id hF
  have hPc := hP
  have hDc : va_D (fun q => z0 ≤ q) (wT z lay a tl σ) := (hD σ).weaken (fun _ _ _ h => hA0 _ h)
  have hA1 : ∀ q, va_A (wT z lay a tl σ) H.size q → A q := by
    rintro q (⟨k9, e9, hk9⟩ | h9)
    · exact (hD σ).2 _ _ hk9
    · exact hA q (Nat.le_trans hS.1 h9)
  unfold onA at h
  split at h
  · next j τ heq =>
    refine call_go (run_s (vr := some (.inr (.inl j))) hF hC hcode hml hsta hini hd hdl heq hPc hDc hS hl.1 hr9 hln hstk hdg) hS hA1 (fun H1 locs1 hP1 hk1 hS1 => ?_)
    exact hk _ _ _ _ h H1 locs1 ls hP1 hS1 hl
  · next τ heq => exact absurd heq (hnt _ _ _)
  · cases h
end CALLS
