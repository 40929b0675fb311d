theorem if_cg {c : Prop} [Decidable c] {A A' B B' : Option Ou} (h1 : A = A') (h2 : B = B') : (if c then A else B) = (if c then A' else B') := by rw [h1, h2]
theorem if_tr {c : Prop} [Decidable c] {A A' B : Option Ou} (h : c) (h1 : A = A') : (if c then A else B) = A' := by rw [if_pos h, h1]
theorem onI_cg {r : Option Ou} {th th' : Mm → Option Ou} {κ κ' : Int32 → Mm → Option Ou} (h1 : ∀ τ, th τ = th' τ) (h2 : ∀ x τ, κ x τ = κ' x τ) : onI r th κ = onI r th' κ' := by rw [funext h1, funext fun x => funext (h2 x)]
theorem onV_cg {r : Option Ou} {th th' : Mm → Option Ou} {κ κ' : Mm → Option Ou} (h1 : ∀ τ, th τ = th' τ) (h2 : ∀ τ, κ τ = κ' τ) : onV r th κ = onV r th' κ' := by rw [funext h1, funext h2]
theorem onA_cg {r : Option Ou} {jx : Nat} {th th' : Mm → Option Ou} {κ κ' : Mm → Option Ou} (h1 : ∀ τ, th τ = th' τ) (h2 : ∀ τ, κ τ = κ' τ) : onA r jx th κ = onA r jx th' κ' := by rw [funext h1, funext h2]
theorem stk_v {a ts : Nat → Nat} {st : List Vv} {n : Nat} {x : Value} {xs : List Value} (h : (st.take n).reverse.map (cv a ts) = x :: xs) : st.map (cv a ts) = xs.reverse ++ x :: (st.drop n).map (cv a ts) := by
  have e : (st.take n).map (cv a ts) = xs.reverse ++ [x] := by
    have h1 := congrArg List.reverse h
    rw [← List.map_reverse, List.reverse_reverse, List.reverse_cons] at h1
    exact h1
  conv => lhs; rw [← List.take_append_drop n st, List.map_append, e, List.append_assoc]
  rfl
theorem stk_s {a ts : Nat → Nat} {st : List Vv} {n : Nat} {xs : List Value} (h : (st.take n).reverse.map (cv a ts) = xs) : st.map (cv a ts) = xs.reverse ++ (st.drop n).map (cv a ts) := by
  have e : (st.take n).map (cv a ts) = xs.reverse := by
    have h1 := congrArg List.reverse h
    rw [← List.map_reverse, List.reverse_reverse] at h1
    exact h1
  conv => lhs; rw [← List.take_append_drop n st, List.map_append, e]
section CALLS
variable {l : Launch} {own : String} {cc : ByteArray} {nL dl : Nat} {rt : Option FieldType} {lay layC : List Shp} {pc pc' : Nat} {y : MethodName} {cy : ByteArray} {nLy dly index : Nat} {rty : Option FieldType} {f : List Vv → Mm → Option Ou} {ci N nA : Nat} {T : u_T} {fds : List (Option Nat)} {g : Sg} {jx : Nat}
theorem so_vi (hC : Ct l y cy nLy rty dly layC f) (hcode : Cond.code y cy nLy rty ∈ gtb) (hml : Cond.methodLink own index y ∈ gtb) (hins : Cond.instanceMethod y ∈ gtb) (hsel : Cond.selects y.cls y y ∈ gtb) (hini : Cond.initialized y.cls ∈ gtb) (hd : y.cls ≠ "java/lang/invoke/MethodHandle" ∧ y.cls ≠ "java/lang/invoke/VarHandle" ∧ (parseMethodDescriptor y.desc).map (fun d => d.parameters.length) = some nA) (hdl : dly + 1 ≤ dl ∧ nLy ≤ 18) (hrecv : layC[0]? = some (.inr (ci, fds))) (hcl : vwCl[ci]? = some (y.cls, T, N)) (hcmp : Cmp lay layC g) (hdg : decode cc pc = .ok (.invokevirtual index, 3)) (hp : pc + 3 = pc') : So l own cc nL dl rt lay pc (s_ci true pc' (nA + 1) g f) := by
  subst hp
  intro p e R s m args below meth c D z ts z0 a tl A hF k lv st σ o Q hQ ho h hk H locs ls nc ns hnn hP hS hl
  obtain ⟨vs, ht, hr8, hlen, hw, h⟩ := ag_inv h
  obtain ⟨vs', rfl⟩ := hw rfl
  have hcvs : (st.take (nA + 1)).reverse.map (cv a ts) = (.inr (.inl 0) :: vs').map (cv (fun j => a (g.1 j)) ts) := (trs_cv (a := a) (ts := ts) hcmp ht).symm
  have hln : vs'.length = nA := by
    have h9 := congrArg List.length hcvs
    simp only [List.length_map, List.length_reverse, hlen, List.length_cons] at h9
    omega
  have hstk := stk_v hcvs
  have hr9 : (((st.drop (nA + 1)).map (cv a ts)).map fun v => v.category).sum ≤ 8 := by rw [cv_sum]; exact hr8
  obtain ⟨-, -, -, -, -, -, hD, hA, hA0, -, hlk, -, -, -, hxt⟩ := id hF
  have hPc := fr_P hcmp hP
  have hDc := fr_D hcmp hA0 (hD σ)
  have hA1 := fr_A (H := H) hcmp (hD σ) (fun q h => hA q (Nat.le_trans hS.1 h))
  unfold onI at h
  split at h
  · next x τ heq =>
    refine call_go (run_v (vr := some (.inl x)) hF hC hcode hml hins hsel hini hd hdl hrecv hcl heq hPc hDc hS hl.1 hr9 hln hstk hdg hnn) hS hA1 (fun H1 locs1 hP1 hk1 hS1 => ?_)
    exact hk _ _ _ _ h H1 locs1 ls nc ns hnn (fr_up hcmp hP (hD σ) hP1 hk1) hS1 hl
  · next τ heq =>
    cases h
    refine W_q (hQ (fun h9 => by cases h9) _ _) (W_th (fun e1 e2 => ?_))
    exact call_th (asA := #[]) (run_vx hF (ho rfl) hC hcode hml hins hsel hini hd hdl hrecv hcl heq hPc hDc hS hl.1 hr9 hln hstk hdg) hS hA1 hxt hlk (fun H1 hP1 hk1 => (fr_up hcmp hP (hD σ) hP1 hk1))
  · cases h
theorem so_vv (hC : Ct l y cy nLy rty dly layC f) (hcode : Cond.code y cy nLy rty ∈ gtb) (hml : Cond.methodLink own index y ∈ gtb) (hins : Cond.instanceMethod y ∈ gtb) (hsel : Cond.selects y.cls y y ∈ gtb) (hini : Cond.initialized y.cls ∈ gtb) (hd : y.cls ≠ "java/lang/invoke/MethodHandle" ∧ y.cls ≠ "java/lang/invoke/VarHandle" ∧ (parseMethodDescriptor y.desc).map (fun d => d.parameters.length) = some nA) (hdl : dly + 1 ≤ dl ∧ nLy ≤ 18) (hrecv : layC[0]? = some (.inr (ci, fds))) (hcl : vwCl[ci]? = some (y.cls, T, N)) (hcmp : Cmp lay layC g) (hdg : decode cc pc = .ok (.invokevirtual index, 3)) (hp : pc + 3 = pc') : So l own cc nL dl rt lay pc (s_cv true pc' (nA + 1) g f) := by
  subst hp
  intro p e R s m args below meth c D z ts z0 a tl A hF k lv st σ o Q hQ ho h hk H locs ls nc ns hnn hP hS hl
  obtain ⟨vs, ht, hr8, hlen, hw, h⟩ := ag_inv h
  obtain ⟨vs', rfl⟩ := hw rfl
  have hcvs : (st.take (nA + 1)).reverse.map (cv a ts) = (.inr (.inl 0) :: vs').map (cv (fun j => a (g.1 j)) ts) := (trs_cv (a := a) (ts := ts) hcmp ht).symm
  have hln : vs'.length = nA := by
    have h9 := congrArg List.length hcvs
    simp only [List.length_map, List.length_reverse, hlen, List.length_cons] at h9
    omega
  have hstk := stk_v hcvs
  have hr9 : (((st.drop (nA + 1)).map (cv a ts)).map fun v => v.category).sum ≤ 8 := by rw [cv_sum]; exact hr8
  obtain ⟨-, -, -, -, -, -, hD, hA, hA0, -, hlk, -, -, -, hxt⟩ := id hF
  have hPc := fr_P hcmp hP
  have hDc := fr_D hcmp hA0 (hD σ)
  have hA1 := fr_A (H := H) hcmp (hD σ) (fun q h => hA q (Nat.le_trans hS.1 h))
  unfold onV at h
  split at h
  · next τ heq =>
    refine call_go (run_v (vr := none) hF hC hcode hml hins hsel hini hd hdl hrecv hcl heq hPc hDc hS hl.1 hr9 hln hstk hdg hnn) hS hA1 (fun H1 locs1 hP1 hk1 hS1 => ?_)
    exact hk _ _ _ _ h H1 locs1 ls nc ns hnn (fr_up hcmp hP (hD σ) hP1 hk1) hS1 hl
  · next τ heq =>
    cases h
    refine W_q (hQ (fun h9 => by cases h9) _ _) (W_th (fun e1 e2 => ?_))
    exact call_th (asA := #[]) (run_vx hF (ho rfl) hC hcode hml hins hsel hini hd hdl hrecv hcl heq hPc hDc hS hl.1 hr9 hln hstk hdg) hS hA1 hxt hlk (fun H1 hP1 hk1 => (fr_up hcmp hP (hD σ) hP1 hk1))
  · cases h
theorem so_vi0 (hC : Ct l y cy nLy rty dly lay f) (hcode : Cond.code y cy nLy rty ∈ gtb) (hml : Cond.methodLink own index y ∈ gtb) (hins : Cond.instanceMethod y ∈ gtb) (hsel : Cond.selects y.cls y y ∈ gtb) (hini : Cond.initialized y.cls ∈ gtb) (hd : y.cls ≠ "java/lang/invoke/MethodHandle" ∧ y.cls ≠ "java/lang/invoke/VarHandle" ∧ (parseMethodDescriptor y.desc).map (fun d => d.parameters.length) = some nA) (hdl : dly + 1 ≤ dl ∧ nLy ≤ 18) (hrecv : lay[0]? = some (.inr (ci, fds))) (hcl : vwCl[ci]? = some (y.cls, T, N)) (hdg : decode cc pc = .ok (.invokevirtual index, 3)) (hp : pc + 3 = pc') : So l own cc nL dl rt lay pc (s_ci0 true pc' (nA + 1) f) := by
  subst hp
  intro p e R s m args below meth c D z ts z0 a tl A hF k lv st σ o Q hQ ho h hk H locs ls nc ns hnn hP hS hl
  obtain ⟨vs, ht, hr8, hlen, hw, h⟩ := ag_inv h
  obtain ⟨vs', rfl⟩ := hw rfl
  have hcvs : (st.take (nA + 1)).reverse.map (cv a ts) = (.inr (.inl 0) :: vs').map (cv a ts) := by rw [Option.some.inj ht]
  have hln : vs'.length = nA := by
    have h9 := congrArg List.length hcvs
    simp only [List.length_map, List.length_reverse, hlen, List.length_cons] at h9
    omega
  have hstk := stk_v hcvs
  have hr9 : (((st.drop (nA + 1)).map (cv a ts)).map fun v => v.category).sum ≤ 8 := by rw [cv_sum]; exact hr8
  obtain ⟨-, -, -, -, -, -, hD, hA, hA0, -, hlk, -, -, -, hxt⟩ := id hF
  have hPc := hP
  have hDc : va_D (fun q => z0 ≤ q) (wT z lay a tl σ) := (hD σ).weaken (fun _ _ _ h => hA0 _ h)
  have hA1 : ∀ q, va_A (wT z lay a tl σ) H.size q → A q := by
    rintro q (⟨k9, e9, hk9⟩ | h9)
    · exact (hD σ).2 _ _ hk9
    · exact hA q (Nat.le_trans hS.1 h9)
  unfold onI at h
  split at h
  · next x τ heq =>
    refine call_go (run_v (vr := some (.inl x)) hF hC hcode hml hins hsel hini hd hdl hrecv hcl heq hPc hDc hS hl.1 hr9 hln hstk hdg hnn) hS hA1 (fun H1 locs1 hP1 hk1 hS1 => ?_)
    exact hk _ _ _ _ h H1 locs1 ls nc ns hnn hP1 hS1 hl
  · next τ heq =>
    cases h
    refine W_q (hQ (fun h9 => by cases h9) _ _) (W_th (fun e1 e2 => ?_))
    exact call_th (asA := #[]) (run_vx hF (ho rfl) hC hcode hml hins hsel hini hd hdl hrecv hcl heq hPc hDc hS hl.1 hr9 hln hstk hdg) hS hA1 hxt hlk (fun H1 hP1 hk1 => hP1)
  · cases h
theorem so_vv0 (hC : Ct l y cy nLy rty dly lay f) (hcode : Cond.code y cy nLy rty ∈ gtb) (hml : Cond.methodLink own index y ∈ gtb) (hins : Cond.instanceMethod y ∈ gtb) (hsel : Cond.selects y.cls y y ∈ gtb) (hini : Cond.initialized y.cls ∈ gtb) (hd : y.cls ≠ "java/lang/invoke/MethodHandle" ∧ y.cls ≠ "java/lang/invoke/VarHandle" ∧ (parseMethodDescriptor y.desc).map (fun d => d.parameters.length) = some nA) (hdl : dly + 1 ≤ dl ∧ nLy ≤ 18) (hrecv : lay[0]? = some (.inr (ci, fds))) (hcl : vwCl[ci]? = some (y.cls, T, N)) (hdg : decode cc pc = .ok (.invokevirtual index, 3)) (hp : pc + 3 = pc') : So l own cc nL dl rt lay pc (s_cv0 true pc' (nA + 1) f) := by
  subst hp
  intro p e R s m args below meth c D z ts z0 a tl A hF k lv st σ o Q hQ ho h hk H locs ls nc ns hnn hP hS hl
  obtain ⟨vs, ht, hr8, hlen, hw, h⟩ := ag_inv h
  obtain ⟨vs', rfl⟩ := hw rfl
  have hcvs : (st.take (nA + 1)).reverse.map (cv a ts) = (.inr (.inl 0) :: vs').map (cv a ts) := by rw [Option.some.inj ht]
  have hln : vs'.length = nA := by
    have h9 := congrArg List.length hcvs
    simp only [List.length_map, List.length_reverse, hlen, List.length_cons] at h9
    omega
  have hstk := stk_v hcvs
  have hr9 : (((st.drop (nA + 1)).map (cv a ts)).map fun v => v.category).sum ≤ 8 := by rw [cv_sum]; exact hr8
  obtain ⟨-, -, -, -, -, -, hD, hA, hA0, -, hlk, -, -, -, hxt⟩ := id hF
  have hPc := hP
  have hDc : va_D (fun q => z0 ≤ q) (wT z lay a tl σ) := (hD σ).weaken (fun _ _ _ h => hA0 _ h)
  have hA1 : ∀ q, va_A (wT z lay a tl σ) H.size q → A q := by
    rintro q (⟨k9, e9, hk9⟩ | h9)
    · exact (hD σ).2 _ _ hk9
    · exact hA q (Nat.le_trans hS.1 h9)
  unfold onV at h
  split at h
  · next τ heq =>
    refine call_go (run_v (vr := none) hF hC hcode hml hins hsel hini hd hdl hrecv hcl heq hPc hDc hS hl.1 hr9 hln hstk hdg hnn) hS hA1 (fun H1 locs1 hP1 hk1 hS1 => ?_)
    exact hk _ _ _ _ h H1 locs1 ls nc ns hnn hP1 hS1 hl
  · next τ heq =>
    cases h
    refine W_q (hQ (fun h9 => by cases h9) _ _) (W_th (fun e1 e2 => ?_))
    exact call_th (asA := #[]) (run_vx hF (ho rfl) hC hcode hml hins hsel hini hd hdl hrecv hcl heq hPc hDc hS hl.1 hr9 hln hstk hdg) hS hA1 hxt hlk (fun H1 hP1 hk1 => hP1)
  · cases h
theorem so_va0 (hC : Ct l y cy nLy rty dly lay f) (hcode : Cond.code y cy nLy rty ∈ gtb) (hml : Cond.methodLink own index y ∈ gtb) (hins : Cond.instanceMethod y ∈ gtb) (hsel : Cond.selects y.cls y y ∈ gtb) (hini : Cond.initialized y.cls ∈ gtb) (hd : y.cls ≠ "java/lang/invoke/MethodHandle" ∧ y.cls ≠ "java/lang/invoke/VarHandle" ∧ (parseMethodDescriptor y.desc).map (fun d => d.parameters.length) = some nA) (hdl : dly + 1 ≤ dl ∧ nLy ≤ 18) (hrecv : lay[0]? = some (.inr (ci, fds))) (hcl : vwCl[ci]? = some (y.cls, T, N)) (hdg : decode cc pc = .ok (.invokevirtual index, 3)) (hp : pc + 3 = pc') : So l own cc nL dl rt lay pc (s_ca0 true pc' (nA + 1) jx f) := by
  subst hp
  intro p e R s m args below meth c D z ts z0 a tl A hF k lv st σ o Q hQ ho h hk H locs ls nc ns hnn hP hS hl
  obtain ⟨vs, ht, hr8, hlen, hw, h⟩ := ag_inv h
  obtain ⟨vs', rfl⟩ := hw rfl
  have hcvs : (st.take (nA + 1)).reverse.map (cv a ts) = (.inr (.inl 0) :: vs').map (cv a ts) := by rw [Option.some.inj ht]
  have hln : vs'.length = nA := by
    have h9 := congrArg List.length hcvs
    simp only [List.length_map, List.length_reverse, hlen, List.length_cons] at h9
    omega
  have hstk := stk_v hcvs
  have hr9 : (((st.drop (nA + 1)).map (cv a ts)).map fun v => v.category).sum ≤ 8 := by rw [cv_sum]; exact hr8
  obtain ⟨-, -, -, -, -, -, hD, hA, hA0, -, hlk, -, -, -, hxt⟩ := id hF
  have hPc := hP
  have hDc : va_D (fun q => z0 ≤ q) (wT z lay a tl σ) := (hD σ).weaken (fun _ _ _ h => hA0 _ h)
  have hA1 : ∀ q, va_A (wT z lay a tl σ) H.size q → A q := by
    rintro q (⟨k9, e9, hk9⟩ | h9)
    · exact (hD σ).2 _ _ hk9
    · exact hA q (Nat.le_trans hS.1 h9)
  unfold onA at h
  split at h
  · next j τ heq =>
    cases hjx : Nat.beq j jx with
    | false => rw [hjx] at h; cases h
    | true =>
    rw [hjx] at h
    have hj9 := Nat.eq_of_beq_eq_true hjx
    subst hj9
    refine call_go (run_v (vr := some (.inr (.inl j))) hF hC hcode hml hins hsel hini hd hdl hrecv hcl heq hPc hDc hS hl.1 hr9 hln hstk hdg hnn) hS hA1 (fun H1 locs1 hP1 hk1 hS1 => ?_)
    exact hk _ _ _ _ h H1 locs1 ls nc ns hnn hP1 hS1 hl
  · next τ heq =>
    cases h
    refine W_q (hQ (fun h9 => by cases h9) _ _) (W_th (fun e1 e2 => ?_))
    exact call_th (asA := #[]) (run_vx hF (ho rfl) hC hcode hml hins hsel hini hd hdl hrecv hcl heq hPc hDc hS hl.1 hr9 hln hstk hdg) hS hA1 hxt hlk (fun H1 hP1 hk1 => hP1)
  · cases h
theorem so_si (hC : Ct l y cy nLy rty dly layC f) (hcode : Cond.code y cy nLy rty ∈ gtb) (hml : Cond.methodLink own index y ∈ gtb) (hsta : Cond.static y ∈ gtb) (hini : Cond.initialized y.cls ∈ gtb) (hd : y.cls ≠ "java/lang/invoke/MethodHandle" ∧ y.cls ≠ "java/lang/invoke/VarHandle" ∧ (parseMethodDescriptor y.desc).map (fun d => d.parameters.length) = some nA) (hdl : dly + 1 ≤ dl ∧ nLy ≤ 18) (hcmp : Cmp lay layC g) (hdg : decode cc pc = .ok (.invokestatic index, 3)) (hp : pc + 3 = pc') : So l own cc nL dl rt lay pc (s_ci false pc' nA g f) := by
  subst hp
  intro p e R s m args below meth c D z ts z0 a tl A hF k lv st σ o Q hQ ho h hk H locs ls nc ns hnn hP hS hl
  obtain ⟨vs, ht, hr8, hlen, hw, h⟩ := ag_inv h
  obtain ⟨vs', rfl⟩ : ∃ z, z = vs := ⟨_, rfl⟩
  have hcvs : (st.take nA).reverse.map (cv a ts) = vs'.map (cv (fun j => a (g.1 j)) ts) := (trs_cv (a := a) (ts := ts) hcmp ht).symm
  have hln : vs'.length = nA := by
    have h9 := congrArg List.length hcvs
    simp only [List.length_map, List.length_reverse, hlen, List.length_cons] at h9
    omega
  have hstk := stk_s hcvs
  have hr9 : (((st.drop nA).map (cv a ts)).map fun v => v.category).sum ≤ 8 := by rw [cv_sum]; exact hr8
  obtain ⟨-, -, -, -, -, -, hD, hA, hA0, -, hlk, -, -, -, hxt⟩ := id hF
  have hPc := fr_P hcmp hP
  have hDc := fr_D hcmp hA0 (hD σ)
  have hA1 := fr_A (H := H) hcmp (hD σ) (fun q h => hA q (Nat.le_trans hS.1 h))
  unfold onI at h
  split at h
  · next x τ heq =>
    refine call_go (run_s (vr := some (.inl x)) hF hC hcode hml hsta hini hd hdl heq hPc hDc hS hl.1 hr9 hln hstk hdg hnn) hS hA1 (fun H1 locs1 hP1 hk1 hS1 => ?_)
    exact hk _ _ _ _ h H1 locs1 ls nc ns hnn (fr_up hcmp hP (hD σ) hP1 hk1) hS1 hl
  · next τ heq =>
    cases h
    refine W_q (hQ (fun h9 => by cases h9) _ _) (W_th (fun e1 e2 => ?_))
    exact call_th (asA := #[]) (run_sx hF (ho rfl) hC hcode hml hsta hini hd hdl heq hPc hDc hS hl.1 hr9 hln hstk hdg) hS hA1 hxt hlk (fun H1 hP1 hk1 => (fr_up hcmp hP (hD σ) hP1 hk1))
  · cases h
theorem so_sv (hC : Ct l y cy nLy rty dly layC f) (hcode : Cond.code y cy nLy rty ∈ gtb) (hml : Cond.methodLink own index y ∈ gtb) (hsta : Cond.static y ∈ gtb) (hini : Cond.initialized y.cls ∈ gtb) (hd : y.cls ≠ "java/lang/invoke/MethodHandle" ∧ y.cls ≠ "java/lang/invoke/VarHandle" ∧ (parseMethodDescriptor y.desc).map (fun d => d.parameters.length) = some nA) (hdl : dly + 1 ≤ dl ∧ nLy ≤ 18) (hcmp : Cmp lay layC g) (hdg : decode cc pc = .ok (.invokestatic index, 3)) (hp : pc + 3 = pc') : So l own cc nL dl rt lay pc (s_cv false pc' nA g f) := by
  subst hp
  intro p e R s m args below meth c D z ts z0 a tl A hF k lv st σ o Q hQ ho h hk H locs ls nc ns hnn hP hS hl
  obtain ⟨vs, ht, hr8, hlen, hw, h⟩ := ag_inv h
  obtain ⟨vs', rfl⟩ : ∃ z, z = vs := ⟨_, rfl⟩
  have hcvs : (st.take nA).reverse.map (cv a ts) = vs'.map (cv (fun j => a (g.1 j)) ts) := (trs_cv (a := a) (ts := ts) hcmp ht).symm
  have hln : vs'.length = nA := by
    have h9 := congrArg List.length hcvs
    simp only [List.length_map, List.length_reverse, hlen, List.length_cons] at h9
    omega
  have hstk := stk_s hcvs
  have hr9 : (((st.drop nA).map (cv a ts)).map fun v => v.category).sum ≤ 8 := by rw [cv_sum]; exact hr8
  obtain ⟨-, -, -, -, -, -, hD, hA, hA0, -, hlk, -, -, -, hxt⟩ := id hF
  have hPc := fr_P hcmp hP
  have hDc := fr_D hcmp hA0 (hD σ)
  have hA1 := fr_A (H := H) hcmp (hD σ) (fun q h => hA q (Nat.le_trans hS.1 h))
  unfold onV at h
  split at h
  · next τ heq =>
    refine call_go (run_s (vr := none) hF hC hcode hml hsta hini hd hdl heq hPc hDc hS hl.1 hr9 hln hstk hdg hnn) hS hA1 (fun H1 locs1 hP1 hk1 hS1 => ?_)
    exact hk _ _ _ _ h H1 locs1 ls nc ns hnn (fr_up hcmp hP (hD σ) hP1 hk1) hS1 hl
  · next τ heq =>
    cases h
    refine W_q (hQ (fun h9 => by cases h9) _ _) (W_th (fun e1 e2 => ?_))
    exact call_th (asA := #[]) (run_sx hF (ho rfl) hC hcode hml hsta hini hd hdl heq hPc hDc hS hl.1 hr9 hln hstk hdg) hS hA1 hxt hlk (fun H1 hP1 hk1 => (fr_up hcmp hP (hD σ) hP1 hk1))
  · cases h
theorem so_si0 (hC : Ct l y cy nLy rty dly lay f) (hcode : Cond.code y cy nLy rty ∈ gtb) (hml : Cond.methodLink own index y ∈ gtb) (hsta : Cond.static y ∈ gtb) (hini : Cond.initialized y.cls ∈ gtb) (hd : y.cls ≠ "java/lang/invoke/MethodHandle" ∧ y.cls ≠ "java/lang/invoke/VarHandle" ∧ (parseMethodDescriptor y.desc).map (fun d => d.parameters.length) = some nA) (hdl : dly + 1 ≤ dl ∧ nLy ≤ 18) (hdg : decode cc pc = .ok (.invokestatic index, 3)) (hp : pc + 3 = pc') : So l own cc nL dl rt lay pc (s_ci0 false pc' nA f) := by
  subst hp
  intro p e R s m args below meth c D z ts z0 a tl A hF k lv st σ o Q hQ ho h hk H locs ls nc ns hnn hP hS hl
  obtain ⟨vs, ht, hr8, hlen, hw, h⟩ := ag_inv h
  obtain ⟨vs', rfl⟩ : ∃ z, z = vs := ⟨_, rfl⟩
  have hcvs : (st.take nA).reverse.map (cv a ts) = vs'.map (cv a ts) := by rw [Option.some.inj ht]
  have hln : vs'.length = nA := by
    have h9 := congrArg List.length hcvs
    simp only [List.length_map, List.length_reverse, hlen, List.length_cons] at h9
    omega
  have hstk := stk_s hcvs
  have hr9 : (((st.drop nA).map (cv a ts)).map fun v => v.category).sum ≤ 8 := by rw [cv_sum]; exact hr8
  obtain ⟨-, -, -, -, -, -, hD, hA, hA0, -, hlk, -, -, -, hxt⟩ := id hF
  have hPc := hP
  have hDc : va_D (fun q => z0 ≤ q) (wT z lay a tl σ) := (hD σ).weaken (fun _ _ _ h => hA0 _ h)
  have hA1 : ∀ q, va_A (wT z lay a tl σ) H.size q → A q := by
    rintro q (⟨k9, e9, hk9⟩ | h9)
    · exact (hD σ).2 _ _ hk9
    · exact hA q (Nat.le_trans hS.1 h9)
  unfold onI at h
  split at h
  · next x τ heq =>
    refine call_go (run_s (vr := some (.inl x)) hF hC hcode hml hsta hini hd hdl heq hPc hDc hS hl.1 hr9 hln hstk hdg hnn) hS hA1 (fun H1 locs1 hP1 hk1 hS1 => ?_)
    exact hk _ _ _ _ h H1 locs1 ls nc ns hnn hP1 hS1 hl
  · next τ heq =>
    cases h
    refine W_q (hQ (fun h9 => by cases h9) _ _) (W_th (fun e1 e2 => ?_))
    exact call_th (asA := #[]) (run_sx hF (ho rfl) hC hcode hml hsta hini hd hdl heq hPc hDc hS hl.1 hr9 hln hstk hdg) hS hA1 hxt hlk (fun H1 hP1 hk1 => hP1)
  · cases h
theorem so_sv0 (hC : Ct l y cy nLy rty dly lay f) (hcode : Cond.code y cy nLy rty ∈ gtb) (hml : Cond.methodLink own index y ∈ gtb) (hsta : Cond.static y ∈ gtb) (hini : Cond.initialized y.cls ∈ gtb) (hd : y.cls ≠ "java/lang/invoke/MethodHandle" ∧ y.cls ≠ "java/lang/invoke/VarHandle" ∧ (parseMethodDescriptor y.desc).map (fun d => d.parameters.length) = some nA) (hdl : dly + 1 ≤ dl ∧ nLy ≤ 18) (hdg : decode cc pc = .ok (.invokestatic index, 3)) (hp : pc + 3 = pc') : So l own cc nL dl rt lay pc (s_cv0 false pc' nA f) := by
  subst hp
  intro p e R s m args below meth c D z ts z0 a tl A hF k lv st σ o Q hQ ho h hk H locs ls nc ns hnn hP hS hl
  obtain ⟨vs, ht, hr8, hlen, hw, h⟩ := ag_inv h
  obtain ⟨vs', rfl⟩ : ∃ z, z = vs := ⟨_, rfl⟩
  have hcvs : (st.take nA).reverse.map (cv a ts) = vs'.map (cv a ts) := by rw [Option.some.inj ht]
  have hln : vs'.length = nA := by
    have h9 := congrArg List.length hcvs
    simp only [List.length_map, List.length_reverse, hlen, List.length_cons] at h9
    omega
  have hstk := stk_s hcvs
  have hr9 : (((st.drop nA).map (cv a ts)).map fun v => v.category).sum ≤ 8 := by rw [cv_sum]; exact hr8
  obtain ⟨-, -, -, -, -, -, hD, hA, hA0, -, hlk, -, -, -, hxt⟩ := id hF
  have hPc := hP
  have hDc : va_D (fun q => z0 ≤ q) (wT z lay a tl σ) := (hD σ).weaken (fun _ _ _ h => hA0 _ h)
  have hA1 : ∀ q, va_A (wT z lay a tl σ) H.size q → A q := by
    rintro q (⟨k9, e9, hk9⟩ | h9)
    · exact (hD σ).2 _ _ hk9
    · exact hA q (Nat.le_trans hS.1 h9)
  unfold onV at h
  split at h
  · next τ heq =>
    refine call_go (run_s (vr := none) hF hC hcode hml hsta hini hd hdl heq hPc hDc hS hl.1 hr9 hln hstk hdg hnn) hS hA1 (fun H1 locs1 hP1 hk1 hS1 => ?_)
    exact hk _ _ _ _ h H1 locs1 ls nc ns hnn hP1 hS1 hl
  · next τ heq =>
    cases h
    refine W_q (hQ (fun h9 => by cases h9) _ _) (W_th (fun e1 e2 => ?_))
    exact call_th (asA := #[]) (run_sx hF (ho rfl) hC hcode hml hsta hini hd hdl heq hPc hDc hS hl.1 hr9 hln hstk hdg) hS hA1 hxt hlk (fun H1 hP1 hk1 => hP1)
  · cases h
end CALLS
/-! a copy out of a static row of ints -/
section COPYT
variable {p : Program} {l : Launch} {e : Env} {R : Room} {s : State} {m : MethodId} {args : Array Value} {below : List Frame} {meth : Method} {c : Code} {H : Heap} {locs : List Loc} {cells slots : Nat} {Q : State → Prop} {cc : ByteArray} {pc : Nat} {ls : Array Slot} {rest : List Value} {A : Nat → Prop} {D : va_G} {cl : List vw_C} {tys : List (ClassId × FieldType)} {ws : va_W} {a : Nat}
theorem tb_copy (hexec : p.tables.exec = Jvm.exec) (hb : c.code = cc) (hml : c.maxLocals = ls.size) {own : String} {index : Nat} (hown : s.vm.findClass own = some m.cls) (hlink : (Cond.methodLink own index arraycopyName).before args s = true) (hnat : (Cond.native arraycopyName).before args s = true) (hstat : (Cond.static arraycopyName).before args s = true) (hini : (Cond.initialized "java/lang/System").before args s = true)
    (hK : va_K D cl tys s) (hP : va_P D cl ws H) (hD : va_D A ws) (hS : va_S A s.heap H locs) {b0 n0 : Nat} {f : Nat → Int32} (hX : va_T .int b0 n0 (fun j => .int (f j)) A s s.heap) (q1 t1 : Nat) {c1 : ClassId} {n1 : Nat} {g : Nat → Int32} (ha1 : ws[q1]? = some (a, .inl (c1, n1, .inl g))) (ht1 : tys[t1]? = some (c1, .int))
    {sp dp n : Int32} (h1 : ¬ sp < 0) (h2 : ¬ dp < 0) (h3 : ¬ n < 0) (h4 : sp.toNatClampNeg + n.toNatClampNeg ≤ n0) (h5 : dp.toNatClampNeg + n.toNatClampNeg ≤ n1)
    (hframes : 1 ≤ R.frames) (hlocals : (rest.map fun v => v.category).sum + (nativeFrameWords "java/lang/System" "arraycopy" 5 + 11) ≤ R.locals) (hdg : decode cc pc = .ok (.invokestatic index, 3))
    (kk : ∀ (H1 : Heap) (locs1 : List Loc), va_P D cl (ws.set q1 (a, .inl (c1, n1, .inl (va_cpy f g sp.toNatClampNeg dp.toNatClampNeg n.toNatClampNeg)))) H1 → va_S A s.heap H1 locs1 → W p l e R s m args below meth c H1 locs1 cells slots Q (F0 m (pc + 3) ls rest)) : W p l e R s m args below meth c H locs cells slots Q (F0 m pc ls (.int n :: .int dp :: .ref a :: .int sp :: .ref b0 :: rest)) := by
  have nn : ∀ z : Int32, ¬ z < 0 → z.toInt = (z.toNatClampNeg : Int) := by
    intro z hz
    have hz0 : (0 : Int) ≤ z.toInt := by simpa using Int32.le_iff_toInt_le.mp (Int32.not_lt.mp hz)
    show z.toInt = ((z.toInt.toNat : Nat) : Int)
    omega
  intro T hT X
  obtain ⟨scr, hs1, hs2, hs3, hs4, -, hs5, hs7⟩ := hX
  have hc0 : T.heap[b0]? = some scr := by rw [hT, hS.2.1 b0 (Array.getElem?_eq_some_iff.mp hs1).1 hs7]; exact hs1
  have hc1 : H[a]? = some (vp_cell c1 (n1, .inl g)) := hP q1 _ ha1
  obtain ⟨hs6, k0, hk0, cm0, hkk0⟩ := hs2
  obtain ⟨-, k1, hk1, cm1, hkk1⟩ := (hK.2 t1 _ ht1).1 n1 (fun j => .int (g j))
  have el : ∀ i : Nat, i < n.toNatClampNeg → scr.slots.getD (sp.toNatClampNeg + i) .null = .int (f (sp.toNatClampNeg + i)) := fun i hi => by
    rw [Array.getD_eq_getD_getElem?, hs5 _ (by omega)]
    rfl
  obtain ⟨vm', X', step⟩ := X.arraycopy hexec hown hlink hnat hstat hini (src := b0) (dst := a) (cs := scr) (cd := vp_cell c1 (n1, .inl g)) (srcPos := sp) (destPos := dp) (n := n) hc0 (by rw [hT]; exact hc1)
    hs6 (fun _ h => by cases h) hs3 (fun h => by cases h) hk0 hk1 hkk0 hkk1 (by simp [refKind]) h1 h2 h3
    (by rw [nn sp h1, nn n h3]; omega)
    (by rw [nn dp h2, nn n h3]; show ¬ _ > ((arrV c1 n1 (fun j => .int (g j))).slots.size : Int); rw [arrV_size]; omega)
    (fun vm₁ _ i hi => by rw [el i hi]; exact ⟨rfl, trivial⟩)
    (g := F0 m pc ls (.int n :: .int dp :: .ref a :: .int sp :: .ref b0 :: rest)) rfl (by rw [hml]) (rest := rest) rfl (by rw [hb]; exact hdg) hframes (by show 2 * 0 + _ + _ ≤ _; omega)
  have e1 : copied scr (vp_cell c1 (n1, .inl g)) sp dp n = vp_cell c1 (n1, .inl (va_cpy f g sp.toNatClampNeg dp.toNatClampNeg n.toNatClampNeg)) := va_copiedX (fun z => .int z) scr c1 f g hs5 h4
  rw [e1] at X' step
  generalize hnew : vp_cell c1 (n1, .inl (va_cpy f g sp.toNatClampNeg dp.toNatClampNeg n.toNatClampNeg)) = new at X' step
  have hl : a < H.size := (Array.getElem?_eq_some_iff.mp hc1).1
  have hheap : ((T.setVm vm').setCell a new).heap = H.setIfInBounds a new := by rw [← hT]; rfl
  have oq : ∀ q : Nat, q ≠ a → (H.setIfInBounds a new)[q]? = H[q]? := fun q hq => by simp [Array.getElem?_setIfInBounds, Ne.symm hq]
  obtain ⟨t, a1, b1⟩ := kk _ _ (hP.set hD ha1 (show (H.setIfInBounds a new)[a]? = some _ by rw [← hnew]; simp [Array.getElem?_setIfInBounds, hl]) oq) ⟨by simp; exact hS.1, fun q g1 g2 => by
      rw [oq q (fun e => g2 (by rw [e]; exact hD.2 q1 _ ha1))]
      exact hS.2.1 q g1 g2, fun q hq => by
      rcases List.mem_append.mp hq with h | h
      · exact hS.2.2 q h
      · obtain ⟨z, -, hz⟩ := List.mem_map.mp h
        rw [← hz]
        exact hD.2 q1 _ ha1⟩ _ hheap X'
  exact ⟨t, step t a1, b1⟩
end COPYT
def s_cps (pc' : Nat) (lay : List Shp) : Sst := fun k lv st σ => match st with
  | .inl n :: .inl dp :: .inr (.inl q1) :: .inl sp :: .inr (.inr t) :: r => match lay[q1]? with
    | some (.inl h1) => if t < 3 ∧ h1.1 = 0 ∧ ¬ sp < 0 ∧ ¬ dp < 0 ∧ ¬ n < 0 ∧ sp.toNatClampNeg + n.toNatClampNeg ≤ 3 ∧ dp.toNatClampNeg + n.toNatClampNeg ≤ h1.2 ∧ r.length ≤ 8 then k pc' lv r (cpt σ t q1 sp dp n) else none
    | _ => none
  | _ => none
theorem so_cps {l : Launch} {own : String} {cc : ByteArray} {nL dl : Nat} {rt : Option FieldType} {lay : List Shp} {pc pc' index : Nat} (hd1 : 1 ≤ dl) (hlink : Cond.methodLink own index arraycopyName ∈ gtb) (hnat : Cond.native arraycopyName ∈ gtb) (hstat : Cond.static arraycopyName ∈ gtb) (hini : Cond.initialized "java/lang/System" ∈ gtb) (hdg : decode cc pc = .ok (.invokestatic index, 3)) (hp : pc + 3 = pc') : So l own cc nL dl rt lay pc (s_cps pc' lay) := by
  subst hp
  intro p e R s m args below meth c D z ts z0 a tl A hF k lv st σ o Q hQ ho h hk H locs ls nc ns hnn hP hS hl
  obtain ⟨hx, hb, hml, hown, hts, hK, hD, hA, hA0, hSt, hlk, hr, hR1, hR2, hF⟩ := hF
  simp only [s_cps] at h
  split at h
  · next n dp q1 sp t r =>
    split at h
    · next w1 hw1 =>
      split at h
      · next hc =>
        obtain ⟨c1, n1⟩ := w1
        obtain ⟨ht, e1, h1, h2, h3, h4, h5, h6⟩ := hc
        dsimp only at e1 h5
        subst e1
        have he1 := wT_get (z := z) (a := a) (tl := tl) (σ := σ) hw1
        refine tb_copy hx hb (hml.trans hl.1.symm) hown (hts _ hlink) (hts _ hnat) (hts _ hstat) (hts _ hini) hK hP (hD σ) hS ((hSt.1 t ht).2.narrow hA0) q1 0 he1 rfl h1 h2 h3 h4 h5 (by omega) (by rw [cv_sum]; show _ + (7 + 11) ≤ _; omega) hdg (fun H1 locs1 hP1 hS1 => ?_)
        refine hk _ _ _ _ h H1 locs1 ls nc ns hnn ?_ hS1 hl
        have e := wT_set (z := z) (a := a) (tl := tl) (σ := σ) hw1 (va_cpy (stv t) (σ q1) sp.toNatClampNeg dp.toNatClampNeg n.toNatClampNeg)
        unfold ce at e
        rw [e] at hP1
        exact hP1
      · cases h
    · cases h
  · cases h
/-! a static of a nest mate -/
def s_cin (w : Bool) (pc' n : Nat) (g : Sg) (f : List Vv → Mm → Option Ou) : Sst := fun k lv st σ => ag w n st (trs g) (fun vs r => onI (f vs (pk g σ)) (fun _ => none) (fun x τ => k pc' lv (.inl x :: r) (put g σ τ)))
theorem so_sni {l : Launch} {own : String} {cc : ByteArray} {nL dl : Nat} {rt : Option FieldType} {lay layC : List Shp} {pc pc' : Nat} {y : MethodName} {cy : ByteArray} {nLy dly index : Nat} {rty : Option FieldType} {f : List Vv → Mm → Option Ou} {nA : Nat} {g : Sg} {host : String} (hC : Ct l y cy nLy rty dly layC f) (hcode : Cond.code y cy nLy rty ∈ gtb) (hml : ∀ U : State, Nst U → va_Nw (.methodLinkNest own index y host) U) (hsta : Cond.static y ∈ gtb) (hini : Cond.initialized y.cls ∈ gtb) (hd : y.cls ≠ "java/lang/invoke/MethodHandle" ∧ y.cls ≠ "java/lang/invoke/VarHandle" ∧ (parseMethodDescriptor y.desc).map (fun d => d.parameters.length) = some nA) (hdl : dly + 1 ≤ dl ∧ nLy ≤ 18) (hcmp : Cmp lay layC g) (hdg : decode cc pc = .ok (.invokestatic index, 3)) (hp : pc + 3 = pc') : So l own cc nL dl rt lay pc (s_cin false pc' nA g f) := by
  subst hp
  intro p e R s m args below meth c D z ts z0 a tl A hF k lv st σ o Q hQ ho h hk H locs ls nc ns hnn hP hS hl
  obtain ⟨vs, ht, hr8, hlen, hw, h⟩ := ag_inv h
  have hcvs : (st.take nA).reverse.map (cv a ts) = vs.map (cv (fun j => a (g.1 j)) ts) := (trs_cv (a := a) (ts := ts) hcmp ht).symm
  have hln : vs.length = nA := by
    have h9 := congrArg List.length hcvs
    simp only [List.length_map, List.length_reverse, hlen] at h9
    omega
  have hstk := stk_s hcvs
  have hr9 : (((st.drop nA).map (cv a ts)).map fun v => v.category).sum ≤ 8 := by rw [cv_sum]; exact hr8
  obtain ⟨hx, hb, hml9, hown, hts, hK, hD, hA, hA0, hSt, hlk, hr, hR1, hR2, hxt⟩ := id hF
  have hPc := fr_P hcmp hP
  have hDc := fr_D hcmp hA0 (hD σ)
  have hA1 := fr_A (H := H) hcmp (hD σ) (fun q h => hA q (Nat.le_trans hS.1 h))
  have hpre := Fx_pre hF hS hPc hDc (as := vs.map (cv (fun j => a (g.1 j)) ts))
  unfold onI at h
  split at h
  · next x τ heq =>
    have hM := (hC D z ts z0 (fun j => a (g.1 j)) [] vs (pk g σ) τ H.size).1 (some (.inl x)) heq
    refine call_go (va_runSN (As := vs.map (cv (fun j => a (g.1 j)) ts)) (rest := (st.drop nA).map (cv a ts)) (host := host) ⟨hx, hb, hml9, hown, hts⟩ hM
      ⟨va_cnB nA hts (gtb_in (gtb_c hcode)) rfl rfl rfl (hml s hSt.2.1) (hts _ hini) hd ⟨by show dly + 1 ≤ _; omega, by show 8 + (nLy + 11) + 37 * dly ≤ _; omega⟩, hts _ hsta, trivial⟩
      ⟨Pr_blind, hpre⟩ rfl (by rw [List.length_map]; exact hln) hl.1 hstk (lv_room hr9) hdg hnn) hS hA1 (fun H1 locs1 hP1 hk1 hS1 => ?_)
    exact hk _ _ _ _ h H1 locs1 ls nc ns hnn (fr_up hcmp hP (hD σ) hP1 hk1) hS1 hl
  · cases h
  · cases h
/-! the throw of an IndexOutOfBoundsException with a written text -/
def s_th : Sst := fun _ _ st σ => if st.length ≤ 8 then some (none, σ) else none
theorem so_th {l : Launch} {own : String} {cc : ByteArray} {nL dl : Nat} {rt : Option FieldType} {lay : List Shp} {pc ik is ic sai : Nat} {text : String} (hl0 : l.stackTraces = false) (hdl : 6 ≤ dl) (hk0 : Cond.classLink own ik "java/lang/IndexOutOfBoundsException" ∈ gtb) (hini : Cond.initialized "java/lang/IndexOutOfBoundsException" ∈ gtb)
    (hstr : ∀ (ts : Nat → Nat) (A : Nat → Prop) (U : State), Str ts A U → vk_R own is text (ts sai) U)
    (hat : ∀ w ∈ vx_atS own ic "java/lang/IndexOutOfBoundsException" ["java/lang/RuntimeException", "java/lang/Exception"], w ∈ gtb ∨ w = .castable "java/lang/IndexOutOfBoundsException" "java/lang/IndexOutOfBoundsException" ∨ w = .declares (Bundle.initS "java/lang/RuntimeException") ∨ w = .declares (Bundle.initS "java/lang/Exception") ∨ w = .declares (Bundle.initS Bundle.tN))
    (hgood : ∀ w ∈ Cond.classLink own ik "java/lang/IndexOutOfBoundsException" :: Cond.initialized "java/lang/IndexOutOfBoundsException" :: vx_atS own ic "java/lang/IndexOutOfBoundsException" ["java/lang/RuntimeException", "java/lang/Exception"], vx_ot w = true)
    (d0 : decode cc pc = .ok (.new ik, 3)) (d3 : decode cc (pc + 3) = .ok (.dup, 1)) (d4 : decode cc (pc + 4) = .ok (.ldc_w is, 3)) (d7 : decode cc (pc + 7) = .ok (.invokespecial ic, 3)) (d10 : decode cc (pc + 10) = .ok (.athrow, 1)) : So l own cc nL dl rt lay pc s_th := by
  intro p e R s m args below meth c D z ts z0 a tl A hF k lv st σ o Q hQ ho h hk H locs ls nc ns hnn hP hS hl
  obtain ⟨hx, hb, hml, hown, hts, hK, hD, hA, hA0, hSt, hlk, hr, hR1, hR2, hxt⟩ := hF
  unfold s_th at h
  split at h
  · next h8 =>
    cases h
    obtain ⟨-, hN, r1, r2, r3, r4, r5, r6, r7, r8, -, -⟩ := id hSt
    obtain ⟨q1, q2⟩ := ho rfl
    refine W_q (hQ (fun h9 => by cases h9) _ _) (W_th (fun e1 e2 => ?_))
    refine vx_throwSW hx hb hl0 hown (by decide +kernel) (by decide +kernel) (hts _ hk0) (hts _ hini) (hstr ts _ s hSt.2.2) (fun w hw => ?_) hgood (r7.narrow hA0) (r8.narrow hA0) hS (hl.1.trans hml.symm) d0 d3 d4 d7 d10 (fun x hx => (hxt x hx).elim) (by show 2 + 3 < _; omega) (by rw [cv_sum]; show _ + (13 * (2 + 1) + 43) ≤ _; omega) (by omega) (by omega) hlk (fun t hvm hsz hq => ?_) hS.2.2 (Nat.le_refl _) (Nat.le_refl _)
    · obtain ⟨-, -, -, -, -, -, -, n8, n9, n10, n11, -⟩ := hN
      rcases hat w hw with h9 | h9 | h9 | h9 | h9
      · exact hts w h9
      · rw [h9]; exact va_Nw.use rfl n8
      · rw [h9]; exact va_Nw.use rfl n9
      · rw [h9]; exact va_Nw.use rfl n10
      · rw [h9]; exact va_Nw.use rfl n11
    · refine ⟨rfl, hP.kept (fun k q hk9 => hq q.1 (hP k q hk9).lt), Nat.le_trans hS.1 hsz, fun q h1 h2 => ?_⟩
      rw [hq q (Nat.lt_of_lt_of_le h1 hS.1)]
      exact hS.2.1 q h1 h2
  · cases h
