set_option maxRecDepth 20000 in
theorem e0_X2_clear (n : Nat) (σ : Mm) : sem0 t_X2_clear cs_X2_clear 1 n [.inr (.inl 0)] σ =
  some (some none, (cpt (wr (wr σ 0 0 0) 0 1 0) 2 9 0 0 3)) := rfl
theorem e_X2_clear (σ : Mm) : f_X2_clear [.inr (.inl 0)] σ = some (some none, (cpt (wr (wr σ 0 0 0) 0 1 0) 2 9 0 0 3)) := (lock_ap _ _).trans (e0_X2_clear bigM σ)
set_option maxRecDepth 20000 in
theorem e0_X2_copyFrom (n : Nat) (σ : Mm) : sem0 t_X2_copyFrom cs_X2_copyFrom 2 n [.inr (.inl 0), .inr (.inl 11)] σ =
  some (some none, (cpm (cpm (cpm (cpm (cpm (cpm (cpm (cpm (cpm (cpm (wr (wr σ 0 0 (σ 11 0)) 0 1 (σ 11 1)) 12 1 0 0 6) 13 2 0 0 6) 14 3 0 0 6) 15 4 0 0 6) 16 5 0 0 30) 17 6 0 0 30) 18 7 0 0 3) 19 8 0 0 3) 20 9 0 0 3) 21 10 0 0 6)) := rfl
theorem e_X2_copyFrom (σ : Mm) : f_X2_copyFrom [.inr (.inl 0), .inr (.inl 11)] σ = some (some none, (cpm (cpm (cpm (cpm (cpm (cpm (cpm (cpm (cpm (cpm (wr (wr σ 0 0 (σ 11 0)) 0 1 (σ 11 1)) 12 1 0 0 6) 13 2 0 0 6) 14 3 0 0 6) 15 4 0 0 6) 16 5 0 0 30) 17 6 0 0 30) 18 7 0 0 3) 19 8 0 0 3) 20 9 0 0 3) 21 10 0 0 6)) := (lock_ap _ _).trans (e0_X2_copyFrom bigM σ)
set_option maxRecDepth 20000 in
theorem e0_X2_heatOfStep (n : Nat) (x1 x2 : Int32) (σ : Mm) : sem0 t_X2_heatOfStep cs_X2_heatOfStep 3 n [.inr (.inl 0), .inl x1, .inl x2] σ =
  (if inb ((x1 * 5) + x2) 30 = true then
  some (some (some (.inl (σ 5 ((x1 * 5) + x2).toNatClampNeg))), σ)
  else none) := (if_cg rfl rfl)
theorem e_X2_heatOfStep (x1 x2 : Int32) (σ : Mm) : f_X2_heatOfStep [.inr (.inl 0), .inl x1, .inl x2] σ = (if inb ((x1 * 5) + x2) 30 = true then some (some (some (.inl (σ 5 ((x1 * 5) + x2).toNatClampNeg))), σ) else none) := (lock_ap _ _).trans (e0_X2_heatOfStep bigM x1 x2 σ)
set_option maxRecDepth 20000 in
theorem e0_X2_minutesOfStep (n : Nat) (x1 x2 : Int32) (σ : Mm) : sem0 t_X2_minutesOfStep cs_X2_minutesOfStep 3 n [.inr (.inl 0), .inl x1, .inl x2] σ =
  (if inb ((x1 * 5) + x2) 30 = true then
  some (some (some (.inl (σ 6 ((x1 * 5) + x2).toNatClampNeg))), σ)
  else none) := (if_cg rfl rfl)
theorem e_X2_minutesOfStep (x1 x2 : Int32) (σ : Mm) : f_X2_minutesOfStep [.inr (.inl 0), .inl x1, .inl x2] σ = (if inb ((x1 * 5) + x2) 30 = true then some (some (some (.inl (σ 6 ((x1 * 5) + x2).toNatClampNeg))), σ) else none) := (lock_ap _ _).trans (e0_X2_minutesOfStep bigM x1 x2 σ)
noncomputable def b_X2_minutesOfWork_4 (n : Nat) (x1 x2 x3 : Int32) (σ : Mm) : Option Ou := rn t_X2_minutesOfWork cs_X2_minutesOfWork n 4 [(0, .inr (.inl 0)), (1, .inl x1), (2, .inl x2), (3, .inl x3)] [] σ
set_option maxRecDepth 20000 in
theorem e_X2_minutesOfWork_4 (n : Nat) (x1 x2 x3 : Int32) (σ : Mm) : b_X2_minutesOfWork_4 (n + 1) x1 x2 x3 σ =
  (if inb x1 6 = true then
  (if x3 < (σ 4 x1.toNatClampNeg) then
    (if inb ((x1 * 5) + x3) 30 = true then
    (b_X2_minutesOfWork_4 n x1 (x2 + (σ 6 ((x1 * 5) + x3).toNatClampNeg)) (x3 + 1) σ)
    else none)
  else
    some (some (some (.inl x2)), σ))
  else none) := (if_cg (if_cg (if_cg rfl rfl) rfl) rfl)
set_option maxRecDepth 20000 in
theorem e0_X2_minutesOfWork (n : Nat) (x1 : Int32) (σ : Mm) : sem0 t_X2_minutesOfWork cs_X2_minutesOfWork 4 n [.inr (.inl 0), .inl x1] σ =
  (b_X2_minutesOfWork_4 n x1 0 0 σ) := rfl
theorem e_X2_minutesOfWork (x1 : Int32) (σ : Mm) : f_X2_minutesOfWork [.inr (.inl 0), .inl x1] σ = (b_X2_minutesOfWork_4 bigM x1 0 0 σ) := (lock_ap _ _).trans (e0_X2_minutesOfWork bigM x1 σ)
noncomputable def b_X2_findName_2 (n : Nat) (x1 x2 : Int32) (σ : Mm) : Option Ou := rn t_X2_findName cs_X2_findName n 2 [(0, .inr (.inl 0)), (1, .inl x1), (2, .inl x2)] [] σ
set_option maxRecDepth 20000 in
theorem e_X2_findName_2 (n : Nat) (x1 x2 : Int32) (σ : Mm) : b_X2_findName_2 (n + 1) x1 x2 σ =
  (if x2 < (σ 0 0) then
    (if inb x2 6 = true then
    (if (σ 1 x2.toNatClampNeg) = x1 then
      some (some (some (.inl x2)), σ)
    else
      (b_X2_findName_2 n x1 (x2 + 1) σ))
    else none)
  else
    some (some (some (.inl (-1))), σ)) := (if_cg (if_cg (if_cg rfl rfl) rfl) rfl)
set_option maxRecDepth 20000 in
theorem e0_X2_findName (n : Nat) (x1 : Int32) (σ : Mm) : sem0 t_X2_findName cs_X2_findName 3 n [.inr (.inl 0), .inl x1] σ =
  (b_X2_findName_2 n x1 0 σ) := rfl
theorem e_X2_findName (x1 : Int32) (σ : Mm) : f_X2_findName [.inr (.inl 0), .inl x1] σ = (b_X2_findName_2 bigM x1 0 σ) := (lock_ap _ _).trans (e0_X2_findName bigM x1 σ)
noncomputable def b_X2_findPosition_2 (n : Nat) (x1 x2 : Int32) (σ : Mm) : Option Ou := rn t_X2_findPosition cs_X2_findPosition n 2 [(0, .inr (.inl 0)), (1, .inl x1), (2, .inl x2)] [] σ
set_option maxRecDepth 20000 in
theorem e_X2_findPosition_2 (n : Nat) (x1 x2 : Int32) (σ : Mm) : b_X2_findPosition_2 (n + 1) x1 x2 σ =
  (if x2 < (σ 0 0) then
    (if inb x2 6 = true then
    (if (σ 10 x2.toNatClampNeg) = x1 then
      some (some (some (.inl x2)), σ)
    else
      (b_X2_findPosition_2 n x1 (x2 + 1) σ))
    else none)
  else
    some (some (some (.inl (-1))), σ)) := (if_cg (if_cg (if_cg rfl rfl) rfl) rfl)
set_option maxRecDepth 20000 in
theorem e0_X2_findPosition (n : Nat) (x1 : Int32) (σ : Mm) : sem0 t_X2_findPosition cs_X2_findPosition 3 n [.inr (.inl 0), .inl x1] σ =
  (b_X2_findPosition_2 n x1 0 σ) := rfl
theorem e_X2_findPosition (x1 : Int32) (σ : Mm) : f_X2_findPosition [.inr (.inl 0), .inl x1] σ = (b_X2_findPosition_2 bigM x1 0 σ) := (lock_ap _ _).trans (e0_X2_findPosition bigM x1 σ)
noncomputable def b_X2_orderByIndex_2 (n : Nat) (x1 : Int32) (σ : Mm) : Option Ou := rn t_X2_orderByIndex cs_X2_orderByIndex n 2 [(0, .inr (.inl 0)), (1, .inl x1)] [] σ
set_option maxRecDepth 20000 in
theorem e_X2_orderByIndex_2 (n : Nat) (x1 : Int32) (σ : Mm) : b_X2_orderByIndex_2 (n + 1) x1 σ =
  (if x1 < (σ 0 0) then
    (if inb x1 6 = true then
    (b_X2_orderByIndex_2 n (x1 + 1) (wr σ 10 x1.toNatClampNeg x1))
    else none)
  else
    some (some none, σ)) := (if_cg (if_cg rfl rfl) rfl)
set_option maxRecDepth 20000 in
theorem e0_X2_orderByIndex (n : Nat) (σ : Mm) : sem0 t_X2_orderByIndex cs_X2_orderByIndex 2 n [.inr (.inl 0)] σ =
  (b_X2_orderByIndex_2 n 0 σ) := rfl
theorem e_X2_orderByIndex (σ : Mm) : f_X2_orderByIndex [.inr (.inl 0)] σ = (b_X2_orderByIndex_2 bigM 0 σ) := (lock_ap _ _).trans (e0_X2_orderByIndex bigM σ)
set_option maxRecDepth 20000 in
theorem e0_X2_exchange (n : Nat) (x1 x2 : Int32) (σ : Mm) : sem0 t_X2_exchange cs_X2_exchange 4 n [.inr (.inl 0), .inl x1, .inl x2] σ =
  (if inb x1 6 = true then
  (if inb x2 6 = true then
  (if inb x1 6 = true then
  (if inb x2 6 = true then
  some (some none, (wr (wr σ 10 x1.toNatClampNeg (σ 10 x2.toNatClampNeg)) 10 x2.toNatClampNeg (σ 10 x1.toNatClampNeg)))
  else none)
  else none)
  else none)
  else none) := (if_cg (if_cg (if_cg (if_cg rfl rfl) rfl) rfl) rfl)
theorem e_X2_exchange (x1 x2 : Int32) (σ : Mm) : f_X2_exchange [.inr (.inl 0), .inl x1, .inl x2] σ = (if inb x1 6 = true then (if inb x2 6 = true then (if inb x1 6 = true then (if inb x2 6 = true then some (some none, (wr (wr σ 10 x1.toNatClampNeg (σ 10 x2.toNatClampNeg)) 10 x2.toNatClampNeg (σ 10 x1.toNatClampNeg))) else none) else none) else none) else none) := (lock_ap _ _).trans (e0_X2_exchange bigM x1 x2 σ)
set_option maxRecDepth 20000 in
theorem e0_X2_appendIron (n : Nat) (x1 x2 x3 : Int32) (σ : Mm) : sem0 t_X2_appendIron cs_X2_appendIron 4 n [.inr (.inl 0), .inl x1, .inl x2, .inl x3] σ =
  (if inb (σ 0 0) 6 = true then
  (if inb (σ 0 0) 6 = true then
  (if inb (σ 0 0) 6 = true then
  (if inb (σ 0 0) 6 = true then
  (if inb (σ 0 0) 6 = true then
  some (some none, (wr (wr (wr (wr (wr (wr σ 1 (σ 0 0).toNatClampNeg x1) 2 (σ 0 0).toNatClampNeg x2) 3 (σ 0 0).toNatClampNeg x3) 4 (σ 0 0).toNatClampNeg 0) 10 (σ 0 0).toNatClampNeg (σ 0 0)) 0 0 ((σ 0 0) + 1)))
  else none)
  else none)
  else none)
  else none)
  else none) := (if_cg (if_cg (if_cg (if_cg (if_cg rfl rfl) rfl) rfl) rfl) rfl)
theorem e_X2_appendIron (x1 x2 x3 : Int32) (σ : Mm) : f_X2_appendIron [.inr (.inl 0), .inl x1, .inl x2, .inl x3] σ = (if inb (σ 0 0) 6 = true then (if inb (σ 0 0) 6 = true then (if inb (σ 0 0) 6 = true then (if inb (σ 0 0) 6 = true then (if inb (σ 0 0) 6 = true then some (some none, (wr (wr (wr (wr (wr (wr σ 1 (σ 0 0).toNatClampNeg x1) 2 (σ 0 0).toNatClampNeg x2) 3 (σ 0 0).toNatClampNeg x3) 4 (σ 0 0).toNatClampNeg 0) 10 (σ 0 0).toNatClampNeg (σ 0 0)) 0 0 ((σ 0 0) + 1))) else none) else none) else none) else none) else none) := (lock_ap _ _).trans (e0_X2_appendIron bigM x1 x2 x3 σ)
set_option maxRecDepth 20000 in
theorem e0_X2_appendStep (n : Nat) (x1 x2 x3 : Int32) (σ : Mm) : sem0 t_X2_appendStep cs_X2_appendStep 5 n [.inr (.inl 0), .inl x1, .inl x2, .inl x3] σ =
  (if inb x1 6 = true then
  (if inb ((x1 * 5) + (σ 4 x1.toNatClampNeg)) 30 = true then
  (if inb ((x1 * 5) + (σ 4 x1.toNatClampNeg)) 30 = true then
  (if inb x1 6 = true then
  (if inb x1 6 = true then
  some (some none, (wr (wr (wr σ 5 ((x1 * 5) + (σ 4 x1.toNatClampNeg)).toNatClampNeg x2) 6 ((x1 * 5) + (σ 4 x1.toNatClampNeg)).toNatClampNeg x3) 4 x1.toNatClampNeg ((σ 4 x1.toNatClampNeg) + 1)))
  else none)
  else none)
  else none)
  else none)
  else none) := (if_cg (if_cg (if_cg (if_cg (if_cg rfl rfl) rfl) rfl) rfl) rfl)
theorem e_X2_appendStep (x1 x2 x3 : Int32) (σ : Mm) : f_X2_appendStep [.inr (.inl 0), .inl x1, .inl x2, .inl x3] σ = (if inb x1 6 = true then (if inb ((x1 * 5) + (σ 4 x1.toNatClampNeg)) 30 = true then (if inb ((x1 * 5) + (σ 4 x1.toNatClampNeg)) 30 = true then (if inb x1 6 = true then (if inb x1 6 = true then some (some none, (wr (wr (wr σ 5 ((x1 * 5) + (σ 4 x1.toNatClampNeg)).toNatClampNeg x2) 6 ((x1 * 5) + (σ 4 x1.toNatClampNeg)).toNatClampNeg x3) 4 x1.toNatClampNeg ((σ 4 x1.toNatClampNeg) + 1))) else none) else none) else none) else none) else none) := (lock_ap _ _).trans (e0_X2_appendStep bigM x1 x2 x3 σ)
set_option maxRecDepth 20000 in
theorem e0_X2_appendPlace (n : Nat) (x1 x2 : Int32) (σ : Mm) : sem0 t_X2_appendPlace cs_X2_appendPlace 3 n [.inr (.inl 0), .inl x1, .inl x2] σ =
  (if inb (σ 0 1) 3 = true then
  (if inb (σ 0 1) 3 = true then
  some (some none, (wr (wr (wr σ 7 (σ 0 1).toNatClampNeg x1) 8 (σ 0 1).toNatClampNeg x2) 0 1 ((σ 0 1) + 1)))
  else none)
  else none) := (if_cg (if_cg rfl rfl) rfl)
theorem e_X2_appendPlace (x1 x2 : Int32) (σ : Mm) : f_X2_appendPlace [.inr (.inl 0), .inl x1, .inl x2] σ = (if inb (σ 0 1) 3 = true then (if inb (σ 0 1) 3 = true then some (some none, (wr (wr (wr σ 7 (σ 0 1).toNatClampNeg x1) 8 (σ 0 1).toNatClampNeg x2) 0 1 ((σ 0 1) + 1))) else none) else none) := (lock_ap _ _).trans (e0_X2_appendPlace bigM x1 x2 σ)
noncomputable def b_X2_dropPlace_4 (n : Nat) (x2 : Int32) (σ : Mm) : Option Ou := rn t_X2_dropPlace cs_X2_dropPlace n 4 [(0, .inr (.inl 0)), (2, .inl x2)] [] σ
set_option maxRecDepth 20000 in
theorem e_X2_dropPlace_4 (n : Nat) (x2 : Int32) (σ : Mm) : b_X2_dropPlace_4 (n + 1) x2 σ =
  (if x2 < (σ 0 1) then
    (if inb x2 3 = true then
    (if inb (x2 - 1) 3 = true then
    (if inb x2 3 = true then
    (if inb (x2 - 1) 3 = true then
    (b_X2_dropPlace_4 n (x2 + 1) (wr (wr σ 7 (x2 - 1).toNatClampNeg (σ 7 x2.toNatClampNeg)) 8 (x2 - 1).toNatClampNeg (σ 8 x2.toNatClampNeg)))
    else none)
    else none)
    else none)
    else none)
  else
    some (some none, (wr σ 0 1 ((σ 0 1) - 1)))) := (if_cg (if_cg (if_cg (if_cg (if_cg rfl rfl) rfl) rfl) rfl) rfl)
set_option maxRecDepth 20000 in
theorem e0_X2_dropPlace (n : Nat) (x1 : Int32) (σ : Mm) : sem0 t_X2_dropPlace cs_X2_dropPlace 3 n [.inr (.inl 0), .inl x1] σ =
  (b_X2_dropPlace_4 n (x1 + 1) σ) := rfl
theorem e_X2_dropPlace (x1 : Int32) (σ : Mm) : f_X2_dropPlace [.inr (.inl 0), .inl x1] σ = (b_X2_dropPlace_4 bigM (x1 + 1) σ) := (lock_ap _ _).trans (e0_X2_dropPlace bigM x1 σ)
