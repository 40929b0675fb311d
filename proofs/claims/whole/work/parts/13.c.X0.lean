set_option maxRecDepth 20000 in
theorem e0_X0_take (n : Nat) (x2 : Int32) (σ : Mm) : sem0 t_X0_take cs_X0_take 3 n [.inr (.inl 0), .inr (.inl 14), .inl x2] σ =
  (if x2 = (σ 0 1) then
    some (some none, (wr σ 0 2 ((σ 0 2) + 1)))
  else
    some (some none, (cpm (wr (wr σ 0 1 x2) 0 2 1) 24 1 0 0 6))) := (if_cg rfl rfl)
theorem e_X0_take (x2 : Int32) (σ : Mm) : f_X0_take [.inr (.inl 0), .inr (.inl 14), .inl x2] σ = (if x2 = (σ 0 1) then some (some none, (wr σ 0 2 ((σ 0 2) + 1))) else some (some none, (cpm (wr (wr σ 0 1 x2) 0 2 1) 24 1 0 0 6))) := (lock_ap _ _).trans (e0_X0_take bigM x2 σ)
noncomputable def b_X0_advance_12 (n : Nat) (x3 : Int32) (σ : Mm) : Option Ou := rn t_X0_advance cs_X0_advance n 12 [(1, .inr (.inl 14)), (2, .inr (.inl 24)), (3, .inl x3)] [] σ
noncomputable def b_X0_advance_33 (n : Nat) (x3 : Int32) (σ : Mm) : Option Ou := rn t_X0_advance cs_X0_advance n 33 [(1, .inr (.inl 14)), (2, .inr (.inl 24)), (3, .inl x3)] [] σ
noncomputable def b_X0_advance_47 (n : Nat) (x3 x4 : Int32) (σ : Mm) : Option Ou := rn t_X0_advance cs_X0_advance n 47 [(1, .inr (.inl 14)), (2, .inr (.inl 24)), (3, .inl x3), (4, .inl x4)] [] σ
noncomputable def b_X0_advance_69 (n : Nat) (x3 x4 : Int32) (σ : Mm) : Option Ou := rn t_X0_advance cs_X0_advance n 69 [(1, .inr (.inl 14)), (3, .inl x3), (4, .inl x4)] [] σ
noncomputable def b_X0_advance_89 (n : Nat) (x5 x6 : Int32) (σ : Mm) : Option Ou := rn t_X0_advance cs_X0_advance n 89 [(1, .inr (.inl 14)), (5, .inl x5), (6, .inl x6)] [] σ
set_option maxRecDepth 20000 in
theorem e_X0_advance_12 (n : Nat) (x3 : Int32) (σ : Mm) : b_X0_advance_12 (n + 1) x3 σ =
  (if x3 < 0 then
    (b_X0_advance_33 n x3 σ)
  else
    (if inb x3 6 = true then
    (if inb (x3 + 1) 6 = true then
    (if (σ 24 (x3 + 1).toNatClampNeg) < (σ 24 x3.toNatClampNeg) then
      (b_X0_advance_12 n (x3 + (-1)) σ)
    else
      (b_X0_advance_33 n x3 σ))
    else none)
    else none)) := (if_cg rfl (if_cg (if_cg (if_cg rfl rfl) rfl) rfl))
set_option maxRecDepth 20000 in
theorem e_X0_advance_33 (n : Nat) (x3 : Int32) (σ : Mm) : b_X0_advance_33 (n + 1) x3 σ =
  (if x3 < 0 then
    some (some (some (.inl 0)), σ)
  else
    (b_X0_advance_47 n x3 ((σ 14 0) - 1) σ)) := (if_cg rfl rfl)
set_option maxRecDepth 20000 in
theorem e_X0_advance_47 (n : Nat) (x3 x4 : Int32) (σ : Mm) : b_X0_advance_47 (n + 1) x3 x4 σ =
  (if x3 < x4 then
    (if inb x4 6 = true then
    (if inb x3 6 = true then
    (if (σ 24 x4.toNatClampNeg) < (σ 24 x3.toNatClampNeg) then
      (b_X0_advance_47 n x3 (x4 + (-1)) σ)
    else
      (b_X0_advance_69 n x3 x4 σ))
    else none)
    else none)
  else
    (b_X0_advance_69 n x3 x4 σ)) := (if_cg (if_cg (if_cg (if_cg rfl rfl) rfl) rfl) rfl)
set_option maxRecDepth 20000 in
theorem e_X0_advance_69 (n : Nat) (x3 x4 : Int32) (σ : Mm) : b_X0_advance_69 (n + 1) x3 x4 σ =
  (onV (f_X2_exchange [.inr (.inl 0), .inl x3, .inl x4] (pk (sgC 14 11) σ)) (fun τ1 => some (none, (put (sgC 14 11) σ τ1))) (fun τ1 =>
  (b_X0_advance_89 n (x3 + 1) ((τ1 0 0) - 1) (put (sgC 14 11) σ τ1)))) := (onV_cg (fun _ => rfl) (fun τ1 => rfl))
set_option maxRecDepth 20000 in
theorem e_X0_advance_89 (n : Nat) (x5 x6 : Int32) (σ : Mm) : b_X0_advance_89 (n + 1) x5 x6 σ =
  (if x5 < x6 then
    (onV (f_X2_exchange [.inr (.inl 0), .inl x5, .inl x6] (pk (sgC 14 11) σ)) (fun τ1 => some (none, (put (sgC 14 11) σ τ1))) (fun τ1 =>
    (b_X0_advance_89 n (x5 + 1) (x6 + (-1)) (put (sgC 14 11) σ τ1))))
  else
    some (some (some (.inl 1)), σ)) := (if_cg (onV_cg (fun _ => rfl) (fun τ1 => rfl)) rfl)
set_option maxRecDepth 20000 in
theorem e0_X0_advance (n : Nat) (σ : Mm) : sem0 t_X0_advance cs_X0_advance 7 n [.inr (.inl 0), .inr (.inl 14)] σ =
  (b_X0_advance_12 n ((σ 14 0) - 2) σ) := rfl
theorem e_X0_advance (σ : Mm) : f_X0_advance [.inr (.inl 0), .inr (.inl 14)] σ = (b_X0_advance_12 bigM ((σ 14 0) - 2) σ) := (lock_ap _ _).trans (e0_X0_advance bigM σ)
noncomputable def b_X0_search_19 (n : Nat) (x3 x4 : Int32) (σ : Mm) : Option Ou := rn t_X0_search cs_X0_search n 19 [(0, .inr (.inl 0)), (1, .inr (.inl 14)), (2, .inr (.inl 2)), (3, .inl x3), (4, .inl x4)] [] σ
noncomputable def b_X0_search_50 (n : Nat) (x4 s1 : Int32) (σ : Mm) : Option Ou := rn t_X0_search cs_X0_search n 50 [(0, .inr (.inl 0)), (1, .inr (.inl 14)), (2, .inr (.inl 2)), (4, .inl x4)] [.inl s1, .inr (.inl 2)] σ
noncomputable def b_X0_search_68 (n : Nat) (x4 : Int32) (σ : Mm) : Option Ou := rn t_X0_search cs_X0_search n 68 [(0, .inr (.inl 0)), (1, .inr (.inl 14)), (2, .inr (.inl 2)), (4, .inl x4)] [] σ
set_option maxRecDepth 20000 in
theorem e_X0_search_19 (n : Nat) (x3 x4 : Int32) (σ : Mm) : b_X0_search_19 (n + 1) x3 x4 σ =
  (if x4 < 720 then
    (if x3 = 0 then
      some (some none, σ)
    else
      (if (σ 0 1) = (-1) then
        (b_X0_search_50 n x4 480 σ)
      else
        (b_X0_search_50 n x4 (σ 0 1) σ)))
  else
    some (some none, σ)) := (if_cg (if_cg rfl (if_cg rfl rfl)) rfl)
set_option maxRecDepth 20000 in
theorem e_X0_search_50 (n : Nat) (x4 s1 : Int32) (σ : Mm) : b_X0_search_50 (n + 1) x4 s1 σ =
  (onI (f_X5_endWithin [.inr (.inl 0), .inl s1] (pk (sgC 2 23) σ)) (fun τ1 => some (none, (put (sgC 2 23) σ τ1))) (fun r1 τ1 =>
  (if r1 = (-1) then
    (b_X0_search_68 n x4 (put (sgC 2 23) σ τ1))
  else
    (onV (f_X0_take [.inr (.inl 0), .inr (.inl 14), .inl r1] (put (sgC 2 23) σ τ1)) (fun τ2 => some (none, τ2)) (fun τ2 =>
    (b_X0_search_68 n x4 τ2)))))) := (onI_cg (fun _ => rfl) (fun r1 τ1 => (if_cg rfl (onV_cg (fun _ => rfl) (fun τ2 => rfl)))))
set_option maxRecDepth 20000 in
theorem e_X0_search_68 (n : Nat) (x4 : Int32) (σ : Mm) : b_X0_search_68 (n + 1) x4 σ =
  (onI (f_X0_advance [.inr (.inl 0), .inr (.inl 14)] σ) (fun τ1 => some (none, τ1)) (fun r1 τ1 =>
  (b_X0_search_19 n r1 (x4 + 1) τ1))) := (onI_cg (fun _ => rfl) (fun r1 τ1 => rfl))
set_option maxRecDepth 20000 in
theorem e0_X0_search (n : Nat) (σ : Mm) : sem0 t_X0_search cs_X0_search 6 n [.inr (.inl 0), .inr (.inl 14), .inr (.inl 2)] σ =
  (onV (f_X2_orderByIndex [.inr (.inl 0)] (pk (sgC 14 11) (wr (wr σ 0 1 (-1)) 0 2 0))) (fun τ1 => some (none, (put (sgC 14 11) (wr (wr σ 0 1 (-1)) 0 2 0) τ1))) (fun τ1 =>
  (b_X0_search_19 n 1 0 (put (sgC 14 11) (wr (wr σ 0 1 (-1)) 0 2 0) τ1)))) := (onV_cg (fun _ => rfl) (fun τ1 => rfl))
theorem e_X0_search (σ : Mm) : f_X0_search [.inr (.inl 0), .inr (.inl 14), .inr (.inl 2)] σ = (onV (f_X2_orderByIndex [.inr (.inl 0)] (pk (sgC 14 11) (wr (wr σ 0 1 (-1)) 0 2 0))) (fun τ1 => some (none, (put (sgC 14 11) (wr (wr σ 0 1 (-1)) 0 2 0) τ1))) (fun τ1 => (b_X0_search_19 bigM 1 0 (put (sgC 14 11) (wr (wr σ 0 1 (-1)) 0 2 0) τ1)))) := (lock_ap _ _).trans (e0_X0_search bigM σ)
