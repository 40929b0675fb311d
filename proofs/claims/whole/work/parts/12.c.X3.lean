noncomputable def b_X3_writeState_2 (n : Nat) (x1 x2 : Int32) (σ : Mm) : Option Ou := rn t_X3_writeState cs_X3_writeState n 2 [(0, .inr (.inl 0)), (1, .inl x1), (2, .inl x2)] [] σ
set_option maxRecDepth 20000 in
theorem e_X3_writeState_2 (n : Nat) (x1 x2 : Int32) (σ : Mm) : b_X3_writeState_2 (n + 1) x1 x2 σ =
  (if x2 < (σ 16 0) then
    (if inb x2 6 = true then
    (if inb ((x2 * 481) + x1) 2886 = true then
    (if inb x2 6 = true then
    (if inb ((x2 * 481) + x1) 2886 = true then
    (b_X3_writeState_2 n x1 (x2 + 1) (wr (wr σ 1 ((x2 * 481) + x1).toNatClampNeg (σ 5 x2.toNatClampNeg)) 2 ((x2 * 481) + x1).toNatClampNeg (σ 7 x2.toNatClampNeg)))
    else none)
    else none)
    else none)
    else none)
  else
    some (some none, σ)) := (if_cg (if_cg (if_cg (if_cg (if_cg rfl rfl) rfl) rfl) rfl) rfl)
set_option maxRecDepth 20000 in
theorem e0_X3_writeState (n : Nat) (x1 : Int32) (σ : Mm) : sem0 t_X3_writeState cs_X3_writeState 3 n [.inr (.inl 0), .inl x1] σ =
  (b_X3_writeState_2 n x1 0 σ) := rfl
theorem e_X3_writeState (x1 : Int32) (σ : Mm) : f_X3_writeState [.inr (.inl 0), .inl x1] σ = (b_X3_writeState_2 bigM x1 0 σ) := (lock_ap _ _).trans (e0_X3_writeState bigM x1 σ)
noncomputable def b_X3_writeSpots_2 (n : Nat) (x1 x2 : Int32) (σ : Mm) : Option Ou := rn t_X3_writeSpots cs_X3_writeSpots n 2 [(0, .inr (.inl 0)), (1, .inl x1), (2, .inl x2)] [] σ
set_option maxRecDepth 20000 in
theorem e_X3_writeSpots_2 (n : Nat) (x1 x2 : Int32) (σ : Mm) : b_X3_writeSpots_2 (n + 1) x1 x2 σ =
  (if x2 < (σ 16 0) then
    (if inb x2 6 = true then
    (if inb ((x2 * 480) + x1) 2880 = true then
    (b_X3_writeSpots_2 n x1 (x2 + 1) (wr σ 3 ((x2 * 480) + x1).toNatClampNeg (σ 6 x2.toNatClampNeg)))
    else none)
    else none)
  else
    some (some none, σ)) := (if_cg (if_cg (if_cg rfl rfl) rfl) rfl)
set_option maxRecDepth 20000 in
theorem e0_X3_writeSpots (n : Nat) (x1 : Int32) (σ : Mm) : sem0 t_X3_writeSpots cs_X3_writeSpots 3 n [.inr (.inl 0), .inl x1] σ =
  (b_X3_writeSpots_2 n x1 0 σ) := rfl
theorem e_X3_writeSpots (x1 : Int32) (σ : Mm) : f_X3_writeSpots [.inr (.inl 0), .inl x1] σ = (b_X3_writeSpots_2 bigM x1 0 σ) := (lock_ap _ _).trans (e0_X3_writeSpots bigM x1 σ)
noncomputable def b_X3_write_14 (n : Nat) (x1 : Int32) (σ : Mm) : Option Ou := rn t_X3_write cs_X3_write n 14 [(0, .inr (.inl 0)), (1, .inl x1)] [] σ
set_option maxRecDepth 20000 in
theorem e_X3_write_14 (n : Nat) (x1 : Int32) (σ : Mm) : b_X3_write_14 (n + 1) x1 σ =
  (if x1 < 480 then
    (onV (f_X5_clearAnvils [.inr (.inl 0)] (pk (sgC 4 23) σ)) (fun τ1 => some (none, (put (sgC 4 23) σ τ1))) (fun τ1 =>
    (onV (f_X5_fillAnvils [.inr (.inl 0)] (pk (sgC 4 23) (put (sgC 4 23) σ τ1))) (fun τ2 => some (none, (put (sgC 4 23) (put (sgC 4 23) σ τ1) τ2))) (fun τ2 =>
    (onV (f_X5_fillPlaces [.inr (.inl 0)] (pk (sgC 4 23) (put (sgC 4 23) (put (sgC 4 23) σ τ1) τ2))) (fun τ3 => some (none, (put (sgC 4 23) (put (sgC 4 23) (put (sgC 4 23) σ τ1) τ2) τ3))) (fun τ3 =>
    (onV (f_X3_writeSpots [.inr (.inl 0), .inl x1] (put (sgC 4 23) (put (sgC 4 23) (put (sgC 4 23) σ τ1) τ2) τ3)) (fun τ4 => some (none, τ4)) (fun τ4 =>
    (onI (f_X5_pass [.inr (.inl 0), .inl x1] (pk (sgC 4 23) τ4)) (fun τ5 => some (none, (put (sgC 4 23) τ4 τ5))) (fun r5 τ5 =>
    (onV (f_X3_writeState [.inr (.inl 0), .inl (x1 + 1)] (put (sgC 4 23) τ4 τ5)) (fun τ6 => some (none, τ6)) (fun τ6 =>
    (b_X3_write_14 n (x1 + 1) τ6)))))))))))))
  else
    some (some none, σ)) := (if_cg (onV_cg (fun _ => rfl) (fun τ1 => (onV_cg (fun _ => rfl) (fun τ2 => (onV_cg (fun _ => rfl) (fun τ3 => (onV_cg (fun _ => rfl) (fun τ4 => (onI_cg (fun _ => rfl) (fun r5 τ5 => (onV_cg (fun _ => rfl) (fun τ6 => rfl)))))))))))) rfl)
set_option maxRecDepth 20000 in
theorem e0_X3_write (n : Nat) (σ : Mm) : sem0 t_X3_write cs_X3_write 2 n [.inr (.inl 0)] σ =
  (onV (f_X5_begin [.inr (.inl 0)] (pk (sgC 4 23) σ)) (fun τ1 => some (none, (put (sgC 4 23) σ τ1))) (fun τ1 =>
  (onV (f_X3_writeState [.inr (.inl 0), .inl 0] (put (sgC 4 23) σ τ1)) (fun τ2 => some (none, τ2)) (fun τ2 =>
  (b_X3_write_14 n 0 τ2))))) := (onV_cg (fun _ => rfl) (fun τ1 => (onV_cg (fun _ => rfl) (fun τ2 => rfl))))
theorem e_X3_write (σ : Mm) : f_X3_write [.inr (.inl 0)] σ = (onV (f_X5_begin [.inr (.inl 0)] (pk (sgC 4 23) σ)) (fun τ1 => some (none, (put (sgC 4 23) σ τ1))) (fun τ1 => (onV (f_X3_writeState [.inr (.inl 0), .inl 0] (put (sgC 4 23) σ τ1)) (fun τ2 => some (none, τ2)) (fun τ2 => (b_X3_write_14 bigM 0 τ2))))) := (lock_ap _ _).trans (e0_X3_write bigM σ)
set_option maxRecDepth 20000 in
theorem e0_X3_heatOf (n : Nat) (x1 x2 : Int32) (σ : Mm) : sem0 t_X3_heatOf cs_X3_heatOf 3 n [.inr (.inl 0), .inl x1, .inl x2] σ =
  (if inb ((x1 * 481) + x2) 2886 = true then
  some (some (some (.inl (σ 1 ((x1 * 481) + x2).toNatClampNeg))), σ)
  else none) := (if_cg rfl rfl)
theorem e_X3_heatOf (x1 x2 : Int32) (σ : Mm) : f_X3_heatOf [.inr (.inl 0), .inl x1, .inl x2] σ = (if inb ((x1 * 481) + x2) 2886 = true then some (some (some (.inl (σ 1 ((x1 * 481) + x2).toNatClampNeg))), σ) else none) := (lock_ap _ _).trans (e0_X3_heatOf bigM x1 x2 σ)
set_option maxRecDepth 20000 in
theorem e0_X3_stepsOf (n : Nat) (x1 x2 : Int32) (σ : Mm) : sem0 t_X3_stepsOf cs_X3_stepsOf 3 n [.inr (.inl 0), .inl x1, .inl x2] σ =
  (if inb ((x1 * 481) + x2) 2886 = true then
  some (some (some (.inl (σ 2 ((x1 * 481) + x2).toNatClampNeg))), σ)
  else none) := (if_cg rfl rfl)
theorem e_X3_stepsOf (x1 x2 : Int32) (σ : Mm) : f_X3_stepsOf [.inr (.inl 0), .inl x1, .inl x2] σ = (if inb ((x1 * 481) + x2) 2886 = true then some (some (some (.inl (σ 2 ((x1 * 481) + x2).toNatClampNeg))), σ) else none) := (lock_ap _ _).trans (e0_X3_stepsOf bigM x1 x2 σ)
set_option maxRecDepth 20000 in
theorem e0_X3_spotOf (n : Nat) (x1 x2 : Int32) (σ : Mm) : sem0 t_X3_spotOf cs_X3_spotOf 3 n [.inr (.inl 0), .inl x1, .inl x2] σ =
  (if inb ((x1 * 480) + x2) 2880 = true then
  some (some (some (.inl (σ 3 ((x1 * 480) + x2).toNatClampNeg))), σ)
  else none) := (if_cg rfl rfl)
theorem e_X3_spotOf (x1 x2 : Int32) (σ : Mm) : f_X3_spotOf [.inr (.inl 0), .inl x1, .inl x2] σ = (if inb ((x1 * 480) + x2) 2880 = true then some (some (some (.inl (σ 3 ((x1 * 480) + x2).toNatClampNeg))), σ) else none) := (lock_ap _ _).trans (e0_X3_spotOf bigM x1 x2 σ)
noncomputable def b_X3_greatestHeat_5 (n : Nat) (x1 x2 x3 : Int32) (σ : Mm) : Option Ou := rn t_X3_greatestHeat cs_X3_greatestHeat n 5 [(0, .inr (.inl 0)), (1, .inl x1), (2, .inl x2), (3, .inl x3)] [] σ
set_option maxRecDepth 20000 in
theorem e_X3_greatestHeat_5 (n : Nat) (x1 x2 x3 : Int32) (σ : Mm) : b_X3_greatestHeat_5 (n + 1) x1 x2 x3 σ =
  (if 480 < x3 then
    some (some (some (.inl x2)), σ)
  else
    (onI (f_X3_heatOf [.inr (.inl 0), .inl x1, .inl x3] σ) (fun τ1 => some (none, τ1)) (fun r1 τ1 =>
    (b_X3_greatestHeat_5 n x1 (if x2 < r1 then r1 else x2) (x3 + 1) τ1)))) := (if_cg rfl (onI_cg (fun _ => rfl) (fun r1 τ1 => rfl)))
set_option maxRecDepth 20000 in
theorem e0_X3_greatestHeat (n : Nat) (x1 : Int32) (σ : Mm) : sem0 t_X3_greatestHeat cs_X3_greatestHeat 4 n [.inr (.inl 0), .inl x1] σ =
  (b_X3_greatestHeat_5 n x1 20 0 σ) := rfl
theorem e_X3_greatestHeat (x1 : Int32) (σ : Mm) : f_X3_greatestHeat [.inr (.inl 0), .inl x1] σ = (b_X3_greatestHeat_5 bigM x1 20 0 σ) := (lock_ap _ _).trans (e0_X3_greatestHeat bigM x1 σ)
noncomputable def b_X3_minutesInFire_4 (n : Nat) (x1 x2 x3 : Int32) (σ : Mm) : Option Ou := rn t_X3_minutesInFire cs_X3_minutesInFire n 4 [(0, .inr (.inl 0)), (1, .inl x1), (2, .inl x2), (3, .inl x3)] [] σ
set_option maxRecDepth 20000 in
theorem e_X3_minutesInFire_4 (n : Nat) (x1 x2 x3 : Int32) (σ : Mm) : b_X3_minutesInFire_4 (n + 1) x1 x2 x3 σ =
  (if x3 < 480 then
    (onI (f_X3_spotOf [.inr (.inl 0), .inl x1, .inl x3] σ) (fun τ1 => some (none, τ1)) (fun r1 τ1 =>
    (if r1 < 1 then
      (b_X3_minutesInFire_4 n x1 x2 (x3 + 1) τ1)
    else
      (if r1 < 10 then
        (b_X3_minutesInFire_4 n x1 (x2 + 1) (x3 + 1) τ1)
      else
        (b_X3_minutesInFire_4 n x1 x2 (x3 + 1) τ1)))))
  else
    some (some (some (.inl x2)), σ)) := (if_cg (onI_cg (fun _ => rfl) (fun r1 τ1 => (if_cg rfl (if_cg rfl rfl)))) rfl)
set_option maxRecDepth 20000 in
theorem e0_X3_minutesInFire (n : Nat) (x1 : Int32) (σ : Mm) : sem0 t_X3_minutesInFire cs_X3_minutesInFire 5 n [.inr (.inl 0), .inl x1] σ =
  (b_X3_minutesInFire_4 n x1 0 0 σ) := rfl
theorem e_X3_minutesInFire (x1 : Int32) (σ : Mm) : f_X3_minutesInFire [.inr (.inl 0), .inl x1] σ = (b_X3_minutesInFire_4 bigM x1 0 0 σ) := (lock_ap _ _).trans (e0_X3_minutesInFire bigM x1 σ)
noncomputable def b_X3_minutesOnRack_5 (n : Nat) (x1 x2 x3 x4 : Int32) (σ : Mm) : Option Ou := rn t_X3_minutesOnRack cs_X3_minutesOnRack n 5 [(0, .inr (.inl 0)), (1, .inl x1), (2, .inl x2), (3, .inl x3), (4, .inl x4)] [] σ
set_option maxRecDepth 20000 in
theorem e_X3_minutesOnRack_5 (n : Nat) (x1 x2 x3 x4 : Int32) (σ : Mm) : b_X3_minutesOnRack_5 (n + 1) x1 x2 x3 x4 σ =
  (if x4 < 480 then
    (onI (f_X3_spotOf [.inr (.inl 0), .inl x1, .inl x4] σ) (fun τ1 => some (none, τ1)) (fun r1 τ1 =>
    (if r1 = 0 then
      (onI (f_X3_stepsOf [.inr (.inl 0), .inl x1, .inl x4] τ1) (fun τ2 => some (none, τ2)) (fun r2 τ2 =>
      (if r2 < x2 then
        (b_X3_minutesOnRack_5 n x1 x2 (x3 + 1) (x4 + 1) τ2)
      else
        (b_X3_minutesOnRack_5 n x1 x2 x3 (x4 + 1) τ2))))
    else
      (b_X3_minutesOnRack_5 n x1 x2 x3 (x4 + 1) τ1))))
  else
    some (some (some (.inl x3)), σ)) := (if_cg (onI_cg (fun _ => rfl) (fun r1 τ1 => (if_cg (onI_cg (fun _ => rfl) (fun r2 τ2 => (if_cg rfl rfl))) rfl))) rfl)
set_option maxRecDepth 20000 in
theorem e0_X3_minutesOnRack (n : Nat) (x1 x2 : Int32) (σ : Mm) : sem0 t_X3_minutesOnRack cs_X3_minutesOnRack 5 n [.inr (.inl 0), .inl x1, .inl x2] σ =
  (b_X3_minutesOnRack_5 n x1 x2 0 0 σ) := rfl
theorem e_X3_minutesOnRack (x1 x2 : Int32) (σ : Mm) : f_X3_minutesOnRack [.inr (.inl 0), .inl x1, .inl x2] σ = (b_X3_minutesOnRack_5 bigM x1 x2 0 0 σ) := (lock_ap _ _).trans (e0_X3_minutesOnRack bigM x1 x2 σ)
noncomputable def b_X3_firstOnAnvil_2 (n : Nat) (x1 x2 : Int32) (σ : Mm) : Option Ou := rn t_X3_firstOnAnvil cs_X3_firstOnAnvil n 2 [(0, .inr (.inl 0)), (1, .inl x1), (2, .inl x2)] [] σ
set_option maxRecDepth 20000 in
theorem e_X3_firstOnAnvil_2 (n : Nat) (x1 x2 : Int32) (σ : Mm) : b_X3_firstOnAnvil_2 (n + 1) x1 x2 σ =
  (if x2 < 480 then
    (onI (f_X3_spotOf [.inr (.inl 0), .inl x1, .inl x2] σ) (fun τ1 => some (none, τ1)) (fun r1 τ1 =>
    (if r1 < 10 then
      (b_X3_firstOnAnvil_2 n x1 (x2 + 1) τ1)
    else
      some (some (some (.inl x2)), τ1))))
  else
    some (some (some (.inl (-1))), σ)) := (if_cg (onI_cg (fun _ => rfl) (fun r1 τ1 => (if_cg rfl rfl))) rfl)
set_option maxRecDepth 20000 in
theorem e0_X3_firstOnAnvil (n : Nat) (x1 : Int32) (σ : Mm) : sem0 t_X3_firstOnAnvil cs_X3_firstOnAnvil 3 n [.inr (.inl 0), .inl x1] σ =
  (b_X3_firstOnAnvil_2 n x1 0 σ) := rfl
theorem e_X3_firstOnAnvil (x1 : Int32) (σ : Mm) : f_X3_firstOnAnvil [.inr (.inl 0), .inl x1] σ = (b_X3_firstOnAnvil_2 bigM x1 0 σ) := (lock_ap _ _).trans (e0_X3_firstOnAnvil bigM x1 σ)
noncomputable def b_X3_ironOnSpot_2 (n : Nat) (x1 x2 x3 : Int32) (σ : Mm) : Option Ou := rn t_X3_ironOnSpot cs_X3_ironOnSpot n 2 [(0, .inr (.inl 0)), (1, .inl x1), (2, .inl x2), (3, .inl x3)] [] σ
set_option maxRecDepth 20000 in
theorem e_X3_ironOnSpot_2 (n : Nat) (x1 x2 x3 : Int32) (σ : Mm) : b_X3_ironOnSpot_2 (n + 1) x1 x2 x3 σ =
  (if x3 < (σ 16 0) then
    (onI (f_X3_spotOf [.inr (.inl 0), .inl x3, .inl x2] σ) (fun τ1 => some (none, τ1)) (fun r1 τ1 =>
    (if r1 = x1 then
      some (some (some (.inl x3)), τ1)
    else
      (b_X3_ironOnSpot_2 n x1 x2 (x3 + 1) τ1))))
  else
    some (some (some (.inl (-1))), σ)) := (if_cg (onI_cg (fun _ => rfl) (fun r1 τ1 => (if_cg rfl rfl))) rfl)
set_option maxRecDepth 20000 in
theorem e0_X3_ironOnSpot (n : Nat) (x1 x2 : Int32) (σ : Mm) : sem0 t_X3_ironOnSpot cs_X3_ironOnSpot 4 n [.inr (.inl 0), .inl x1, .inl x2] σ =
  (b_X3_ironOnSpot_2 n x1 x2 0 σ) := rfl
theorem e_X3_ironOnSpot (x1 x2 : Int32) (σ : Mm) : f_X3_ironOnSpot [.inr (.inl 0), .inl x1, .inl x2] σ = (b_X3_ironOnSpot_2 bigM x1 x2 0 σ) := (lock_ap _ _).trans (e0_X3_ironOnSpot bigM x1 x2 σ)
noncomputable def b_X3_minutesUsed_4 (n : Nat) (x1 x2 x3 : Int32) (σ : Mm) : Option Ou := rn t_X3_minutesUsed cs_X3_minutesUsed n 4 [(0, .inr (.inl 0)), (1, .inl x1), (2, .inl x2), (3, .inl x3)] [] σ
set_option maxRecDepth 20000 in
theorem e_X3_minutesUsed_4 (n : Nat) (x1 x2 x3 : Int32) (σ : Mm) : b_X3_minutesUsed_4 (n + 1) x1 x2 x3 σ =
  (if x3 < 480 then
    (onI (f_X3_ironOnSpot [.inr (.inl 0), .inl x1, .inl x3] σ) (fun τ1 => some (none, τ1)) (fun r1 τ1 =>
    (if r1 = (-1) then
      (b_X3_minutesUsed_4 n x1 x2 (x3 + 1) τ1)
    else
      (b_X3_minutesUsed_4 n x1 (x2 + 1) (x3 + 1) τ1))))
  else
    some (some (some (.inl x2)), σ)) := (if_cg (onI_cg (fun _ => rfl) (fun r1 τ1 => (if_cg rfl rfl))) rfl)
set_option maxRecDepth 20000 in
theorem e0_X3_minutesUsed (n : Nat) (x1 : Int32) (σ : Mm) : sem0 t_X3_minutesUsed cs_X3_minutesUsed 4 n [.inr (.inl 0), .inl x1] σ =
  (b_X3_minutesUsed_4 n x1 0 0 σ) := rfl
theorem e_X3_minutesUsed (x1 : Int32) (σ : Mm) : f_X3_minutesUsed [.inr (.inl 0), .inl x1] σ = (b_X3_minutesUsed_4 bigM x1 0 0 σ) := (lock_ap _ _).trans (e0_X3_minutesUsed bigM x1 σ)
noncomputable def b_X3_finishedAfter_4 (n : Nat) (x1 x2 x3 : Int32) (σ : Mm) : Option Ou := rn t_X3_finishedAfter cs_X3_finishedAfter n 4 [(0, .inr (.inl 0)), (1, .inl x1), (2, .inl x2), (3, .inl x3)] [] σ
set_option maxRecDepth 20000 in
theorem e_X3_finishedAfter_4 (n : Nat) (x1 x2 x3 : Int32) (σ : Mm) : b_X3_finishedAfter_4 (n + 1) x1 x2 x3 σ =
  (if x3 < (σ 16 0) then
    (onI (f_X3_stepsOf [.inr (.inl 0), .inl x3, .inl x1] σ) (fun τ1 => some (none, τ1)) (fun r1 τ1 =>
    (if inb x3 6 = true then
    (if r1 < (τ1 20 x3.toNatClampNeg) then
      (b_X3_finishedAfter_4 n x1 x2 (x3 + 1) τ1)
    else
      (b_X3_finishedAfter_4 n x1 (x2 + 1) (x3 + 1) τ1))
    else none)))
  else
    some (some (some (.inl x2)), σ)) := (if_cg (onI_cg (fun _ => rfl) (fun r1 τ1 => (if_cg (if_cg rfl rfl) rfl))) rfl)
set_option maxRecDepth 20000 in
theorem e0_X3_finishedAfter (n : Nat) (x1 : Int32) (σ : Mm) : sem0 t_X3_finishedAfter cs_X3_finishedAfter 4 n [.inr (.inl 0), .inl x1] σ =
  (b_X3_finishedAfter_4 n x1 0 0 σ) := rfl
theorem e_X3_finishedAfter (x1 : Int32) (σ : Mm) : f_X3_finishedAfter [.inr (.inl 0), .inl x1] σ = (b_X3_finishedAfter_4 bigM x1 0 0 σ) := (lock_ap _ _).trans (e0_X3_finishedAfter bigM x1 σ)
noncomputable def b_X3_anvilsUsed_4 (n : Nat) (x1 x2 x3 : Int32) (σ : Mm) : Option Ou := rn t_X3_anvilsUsed cs_X3_anvilsUsed n 4 [(0, .inr (.inl 0)), (1, .inl x1), (2, .inl x2), (3, .inl x3)] [] σ
set_option maxRecDepth 20000 in
theorem e_X3_anvilsUsed_4 (n : Nat) (x1 x2 x3 : Int32) (σ : Mm) : b_X3_anvilsUsed_4 (n + 1) x1 x2 x3 σ =
  (if x3 < (σ 16 0) then
    (onI (f_X3_spotOf [.inr (.inl 0), .inl x3, .inl x1] σ) (fun τ1 => some (none, τ1)) (fun r1 τ1 =>
    (if r1 < 10 then
      (b_X3_anvilsUsed_4 n x1 x2 (x3 + 1) τ1)
    else
      (b_X3_anvilsUsed_4 n x1 (x2 + 1) (x3 + 1) τ1))))
  else
    some (some (some (.inl x2)), σ)) := (if_cg (onI_cg (fun _ => rfl) (fun r1 τ1 => (if_cg rfl rfl))) rfl)
set_option maxRecDepth 20000 in
theorem e0_X3_anvilsUsed (n : Nat) (x1 : Int32) (σ : Mm) : sem0 t_X3_anvilsUsed cs_X3_anvilsUsed 4 n [.inr (.inl 0), .inl x1] σ =
  (b_X3_anvilsUsed_4 n x1 0 0 σ) := rfl
theorem e_X3_anvilsUsed (x1 : Int32) (σ : Mm) : f_X3_anvilsUsed [.inr (.inl 0), .inl x1] σ = (b_X3_anvilsUsed_4 bigM x1 0 0 σ) := (lock_ap _ _).trans (e0_X3_anvilsUsed bigM x1 σ)
noncomputable def b_X3_minutesIdle_4 (n : Nat) (x1 x2 : Int32) (σ : Mm) : Option Ou := rn t_X3_minutesIdle cs_X3_minutesIdle n 4 [(0, .inr (.inl 0)), (1, .inl x1), (2, .inl x2)] [] σ
set_option maxRecDepth 20000 in
theorem e_X3_minutesIdle_4 (n : Nat) (x1 x2 : Int32) (σ : Mm) : b_X3_minutesIdle_4 (n + 1) x1 x2 σ =
  (if x2 < 480 then
    (onI (f_X3_finishedAfter [.inr (.inl 0), .inl x2] σ) (fun τ1 => some (none, τ1)) (fun r1 τ1 =>
    (if r1 < (τ1 16 0) then
      (onI (f_X3_anvilsUsed [.inr (.inl 0), .inl x2] τ1) (fun τ2 => some (none, τ2)) (fun r2 τ2 =>
      (if r2 < (τ2 25 0) then
        (b_X3_minutesIdle_4 n (x1 + 1) (x2 + 1) τ2)
      else
        (b_X3_minutesIdle_4 n x1 (x2 + 1) τ2))))
    else
      (b_X3_minutesIdle_4 n x1 (x2 + 1) τ1))))
  else
    some (some (some (.inl x1)), σ)) := (if_cg (onI_cg (fun _ => rfl) (fun r1 τ1 => (if_cg (onI_cg (fun _ => rfl) (fun r2 τ2 => (if_cg rfl rfl))) rfl))) rfl)
set_option maxRecDepth 20000 in
theorem e0_X3_minutesIdle (n : Nat) (σ : Mm) : sem0 t_X3_minutesIdle cs_X3_minutesIdle 3 n [.inr (.inl 0)] σ =
  (b_X3_minutesIdle_4 n 0 0 σ) := rfl
theorem e_X3_minutesIdle (σ : Mm) : f_X3_minutesIdle [.inr (.inl 0)] σ = (b_X3_minutesIdle_4 bigM 0 0 σ) := (lock_ap _ _).trans (e0_X3_minutesIdle bigM σ)
