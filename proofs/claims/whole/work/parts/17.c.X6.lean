set_option maxRecDepth 20000 in
theorem e0_X6_feed (n : Nat) (x1 x2 x3 x4 x5 : Int32) (σ : Mm) : sem0 t_X6_feed cs_X6_feed 6 n [.inr (.inl 0), .inl x1, .inl x2, .inl x3, .inl x4, .inl x5] σ =
  (onI (f_X4_hasRoom [.inr (.inl 0)] (pk (sgC 2 14) σ)) (fun τ1 => some (none, (put (sgC 2 14) σ τ1))) (fun r1 τ1 =>
  (if r1 = 0 then
    some (some (some (.inl (-3))), (put (sgC 2 14) σ τ1))
  else
    (onV (f_X4_append [.inr (.inl 0), .inl x1] (pk (sgC 2 14) (put (sgC 2 14) σ τ1))) (fun τ2 => some (none, (put (sgC 2 14) (put (sgC 2 14) σ τ1) τ2))) (fun τ2 =>
    (onV (f_X4_append [.inr (.inl 0), .inl x2] (pk (sgC 2 14) (put (sgC 2 14) (put (sgC 2 14) σ τ1) τ2))) (fun τ3 => some (none, (put (sgC 2 14) (put (sgC 2 14) (put (sgC 2 14) σ τ1) τ2) τ3))) (fun τ3 =>
    (onV (f_X4_append [.inr (.inl 0), .inl x3] (pk (sgC 2 14) (put (sgC 2 14) (put (sgC 2 14) (put (sgC 2 14) σ τ1) τ2) τ3))) (fun τ4 => some (none, (put (sgC 2 14) (put (sgC 2 14) (put (sgC 2 14) (put (sgC 2 14) σ τ1) τ2) τ3) τ4))) (fun τ4 =>
    (onV (f_X4_append [.inr (.inl 0), .inl x4] (pk (sgC 2 14) (put (sgC 2 14) (put (sgC 2 14) (put (sgC 2 14) (put (sgC 2 14) σ τ1) τ2) τ3) τ4))) (fun τ5 => some (none, (put (sgC 2 14) (put (sgC 2 14) (put (sgC 2 14) (put (sgC 2 14) (put (sgC 2 14) σ τ1) τ2) τ3) τ4) τ5))) (fun τ5 =>
    (onV (f_X4_append [.inr (.inl 0), .inl x5] (pk (sgC 2 14) (put (sgC 2 14) (put (sgC 2 14) (put (sgC 2 14) (put (sgC 2 14) (put (sgC 2 14) σ τ1) τ2) τ3) τ4) τ5))) (fun τ6 => some (none, (put (sgC 2 14) (put (sgC 2 14) (put (sgC 2 14) (put (sgC 2 14) (put (sgC 2 14) (put (sgC 2 14) σ τ1) τ2) τ3) τ4) τ5) τ6))) (fun τ6 =>
    some (some (some (.inl (τ6 0 3))), (put (sgC 2 14) (put (sgC 2 14) (put (sgC 2 14) (put (sgC 2 14) (put (sgC 2 14) (put (sgC 2 14) σ τ1) τ2) τ3) τ4) τ5) τ6))))))))))))))) := (onI_cg (fun _ => rfl) (fun r1 τ1 => (if_cg rfl (onV_cg (fun _ => rfl) (fun τ2 => (onV_cg (fun _ => rfl) (fun τ3 => (onV_cg (fun _ => rfl) (fun τ4 => (onV_cg (fun _ => rfl) (fun τ5 => (onV_cg (fun _ => rfl) (fun τ6 => rfl)))))))))))))
theorem e_X6_feed (x1 x2 x3 x4 x5 : Int32) (σ : Mm) : f_X6_feed [.inr (.inl 0), .inl x1, .inl x2, .inl x3, .inl x4, .inl x5] σ = (onI (f_X4_hasRoom [.inr (.inl 0)] (pk (sgC 2 14) σ)) (fun τ1 => some (none, (put (sgC 2 14) σ τ1))) (fun r1 τ1 => (if r1 = 0 then some (some (some (.inl (-3))), (put (sgC 2 14) σ τ1)) else (onV (f_X4_append [.inr (.inl 0), .inl x1] (pk (sgC 2 14) (put (sgC 2 14) σ τ1))) (fun τ2 => some (none, (put (sgC 2 14) (put (sgC 2 14) σ τ1) τ2))) (fun τ2 => (onV (f_X4_append [.inr (.inl 0), .inl x2] (pk (sgC 2 14) (put (sgC 2 14) (put (sgC 2 14) σ τ1) τ2))) (fun τ3 => some (none, (put (sgC 2 14) (put (sgC 2 14) (put (sgC 2 14) σ τ1) τ2) τ3))) (fun τ3 => (onV (f_X4_append [.inr (.inl 0), .inl x3] (pk (sgC 2 14) (put (sgC 2 14) (put (sgC 2 14) (put (sgC 2 14) σ τ1) τ2) τ3))) (fun τ4 => some (none, (put (sgC 2 14) (put (sgC 2 14) (put (sgC 2 14) (put (sgC 2 14) σ τ1) τ2) τ3) τ4))) (fun τ4 => (onV (f_X4_append [.inr (.inl 0), .inl x4] (pk (sgC 2 14) (put (sgC 2 14) (put (sgC 2 14) (put (sgC 2 14) (put (sgC 2 14) σ τ1) τ2) τ3) τ4))) (fun τ5 => some (none, (put (sgC 2 14) (put (sgC 2 14) (put (sgC 2 14) (put (sgC 2 14) (put (sgC 2 14) σ τ1) τ2) τ3) τ4) τ5))) (fun τ5 => (onV (f_X4_append [.inr (.inl 0), .inl x5] (pk (sgC 2 14) (put (sgC 2 14) (put (sgC 2 14) (put (sgC 2 14) (put (sgC 2 14) (put (sgC 2 14) σ τ1) τ2) τ3) τ4) τ5))) (fun τ6 => some (none, (put (sgC 2 14) (put (sgC 2 14) (put (sgC 2 14) (put (sgC 2 14) (put (sgC 2 14) (put (sgC 2 14) σ τ1) τ2) τ3) τ4) τ5) τ6))) (fun τ6 => some (some (some (.inl (τ6 0 3))), (put (sgC 2 14) (put (sgC 2 14) (put (sgC 2 14) (put (sgC 2 14) (put (sgC 2 14) (put (sgC 2 14) σ τ1) τ2) τ3) τ4) τ5) τ6))))))))))))))) := (lock_ap _ _).trans (e0_X6_feed bigM x1 x2 x3 x4 x5 σ)
set_option maxRecDepth 20000 in
theorem e0_X6_forgetResults (n : Nat) (σ : Mm) : sem0 t_X6_forgetResults cs_X6_forgetResults 1 n [.inr (.inl 0)] σ =
  some (some none, (wr (wr σ 0 7 0) 0 8 0)) := rfl
theorem e_X6_forgetResults (σ : Mm) : f_X6_forgetResults [.inr (.inl 0)] σ = some (some none, (wr (wr σ 0 7 0) 0 8 0)) := (lock_ap _ _).trans (e0_X6_forgetResults bigM σ)
set_option maxRecDepth 20000 in
theorem e0_X6_load (n : Nat) (x1 : Int32) (σ : Mm) : sem0 t_X6_load cs_X6_load 3 n [.inr (.inl 0), .inl x1] σ =
  (onI (f_X6_isWithin [.inl x1, .inl 0, .inl (σ 2 3)] (pk (sg0) σ)) (fun τ1 => some (none, (put (sg0) σ τ1))) (fun r1 τ1 =>
  (if r1 = 0 then
    some (some (some (.inl (-2))), (put (sg0) σ τ1))
  else
    (onI (f_X4_readText [.inr (.inl 0), .inl x1] (pk (sgC 2 14) (put (sg0) σ τ1))) (fun τ2 => some (none, (put (sgC 2 14) (put (sg0) σ τ1) τ2))) (fun r2 τ2 =>
    (if r2 < 0 then
      some (some (some (.inl r2)), (put (sgC 2 14) (put (sg0) σ τ1) τ2))
    else
      (onV (f_X2_copyFrom [.inr (.inl 0), .inr (.inl 11)] (pk (sg2 32 5 11) (put (sgC 2 14) (put (sg0) σ τ1) τ2))) (fun τ3 => some (none, (put (sg2 32 5 11) (put (sgC 2 14) (put (sg0) σ τ1) τ2) τ3))) (fun τ3 =>
      (onV (f_X1_forget [.inr (.inl 0)] (pk (sgH) (put (sg2 32 5 11) (put (sgC 2 14) (put (sg0) σ τ1) τ2) τ3))) (fun τ4 => some (none, (put (sgH) (put (sg2 32 5 11) (put (sgC 2 14) (put (sg0) σ τ1) τ2) τ3) τ4))) (fun τ4 =>
      (onV (f_X6_forgetResults [.inr (.inl 0)] (put (sgH) (put (sg2 32 5 11) (put (sgC 2 14) (put (sg0) σ τ1) τ2) τ3) τ4)) (fun τ5 => some (none, τ5)) (fun τ5 =>
      some (some (some (.inl r2)), τ5))))))))))))) := (onI_cg (fun _ => rfl) (fun r1 τ1 => (if_cg rfl (onI_cg (fun _ => rfl) (fun r2 τ2 => (if_cg rfl (onV_cg (fun _ => rfl) (fun τ3 => (onV_cg (fun _ => rfl) (fun τ4 => (onV_cg (fun _ => rfl) (fun τ5 => rfl))))))))))))
theorem e_X6_load (x1 : Int32) (σ : Mm) : f_X6_load [.inr (.inl 0), .inl x1] σ = (onI (f_X6_isWithin [.inl x1, .inl 0, .inl (σ 2 3)] (pk (sg0) σ)) (fun τ1 => some (none, (put (sg0) σ τ1))) (fun r1 τ1 => (if r1 = 0 then some (some (some (.inl (-2))), (put (sg0) σ τ1)) else (onI (f_X4_readText [.inr (.inl 0), .inl x1] (pk (sgC 2 14) (put (sg0) σ τ1))) (fun τ2 => some (none, (put (sgC 2 14) (put (sg0) σ τ1) τ2))) (fun r2 τ2 => (if r2 < 0 then some (some (some (.inl r2)), (put (sgC 2 14) (put (sg0) σ τ1) τ2)) else (onV (f_X2_copyFrom [.inr (.inl 0), .inr (.inl 11)] (pk (sg2 32 5 11) (put (sgC 2 14) (put (sg0) σ τ1) τ2))) (fun τ3 => some (none, (put (sg2 32 5 11) (put (sgC 2 14) (put (sg0) σ τ1) τ2) τ3))) (fun τ3 => (onV (f_X1_forget [.inr (.inl 0)] (pk (sgH) (put (sg2 32 5 11) (put (sgC 2 14) (put (sg0) σ τ1) τ2) τ3))) (fun τ4 => some (none, (put (sgH) (put (sg2 32 5 11) (put (sgC 2 14) (put (sg0) σ τ1) τ2) τ3) τ4))) (fun τ4 => (onV (f_X6_forgetResults [.inr (.inl 0)] (put (sgH) (put (sg2 32 5 11) (put (sgC 2 14) (put (sg0) σ τ1) τ2) τ3) τ4)) (fun τ5 => some (none, τ5)) (fun τ5 => some (some (some (.inl r2)), τ5))))))))))))) := (lock_ap _ _).trans (e0_X6_load bigM x1 σ)
set_option maxRecDepth 20000 in
theorem e0_X6_errorPosition (n : Nat) (σ : Mm) : sem0 t_X6_errorPosition cs_X6_errorPosition 1 n [.inr (.inl 0)] σ =
  some (some (some (.inl (σ 2 4))), σ) := rfl
theorem e_X6_errorPosition (σ : Mm) : f_X6_errorPosition [.inr (.inl 0)] σ = some (some (some (.inl (σ 2 4))), σ) := (lock_ap _ _).trans (e0_X6_errorPosition bigM σ)
set_option maxRecDepth 20000 in
theorem e0_X6_ironCount (n : Nat) (σ : Mm) : sem0 t_X6_ironCount cs_X6_ironCount 1 n [.inr (.inl 0)] σ =
  some (some (some (.inl (σ 32 0))), σ) := rfl
theorem e_X6_ironCount (σ : Mm) : f_X6_ironCount [.inr (.inl 0)] σ = some (some (some (.inl (σ 32 0))), σ) := (lock_ap _ _).trans (e0_X6_ironCount bigM σ)
set_option maxRecDepth 20000 in
theorem e0_X6_placeCount (n : Nat) (σ : Mm) : sem0 t_X6_placeCount cs_X6_placeCount 1 n [.inr (.inl 0)] σ =
  some (some (some (.inl (σ 32 1))), σ) := rfl
theorem e_X6_placeCount (σ : Mm) : f_X6_placeCount [.inr (.inl 0)] σ = some (some (some (.inl (σ 32 1))), σ) := (lock_ap _ _).trans (e0_X6_placeCount bigM σ)
set_option maxRecDepth 20000 in
theorem e0_X6_undoCount (n : Nat) (σ : Mm) : sem0 t_X6_undoCount cs_X6_undoCount 1 n [.inr (.inl 0)] σ =
  some (some (some (.inl (σ 1 2))), σ) := rfl
theorem e_X6_undoCount (σ : Mm) : f_X6_undoCount [.inr (.inl 0)] σ = some (some (some (.inl (σ 1 2))), σ) := (lock_ap _ _).trans (e0_X6_undoCount bigM σ)
set_option maxRecDepth 20000 in
theorem e0_X6_ironNamed (n : Nat) (x1 : Int32) (σ : Mm) : sem0 t_X6_ironNamed cs_X6_ironNamed 2 n [.inr (.inl 0), .inl x1] σ =
  (onI (f_X2_findName [.inr (.inl 0), .inl x1] (pk (sgC 32 11) σ)) (fun τ1 => some (none, (put (sgC 32 11) σ τ1))) (fun r1 τ1 =>
  some (some (some (.inl r1)), (put (sgC 32 11) σ τ1)))) := (onI_cg (fun _ => rfl) (fun r1 τ1 => rfl))
theorem e_X6_ironNamed (x1 : Int32) (σ : Mm) : f_X6_ironNamed [.inr (.inl 0), .inl x1] σ = (onI (f_X2_findName [.inr (.inl 0), .inl x1] (pk (sgC 32 11) σ)) (fun τ1 => some (none, (put (sgC 32 11) σ τ1))) (fun r1 τ1 => some (some (some (.inl r1)), (put (sgC 32 11) σ τ1)))) := (lock_ap _ _).trans (e0_X6_ironNamed bigM x1 σ)
set_option maxRecDepth 20000 in
theorem e0_X6_isIron (n : Nat) (x1 : Int32) (σ : Mm) : sem0 t_X6_isIron cs_X6_isIron 2 n [.inr (.inl 0), .inl x1] σ =
  (onI (f_X6_isWithin [.inl x1, .inl 0, .inl ((σ 32 0) - 1)] (pk (sg0) σ)) (fun τ1 => some (none, (put (sg0) σ τ1))) (fun r1 τ1 =>
  (if r1 = 0 ∨ r1 = 1 then some (some (some (.inl r1)), (put (sg0) σ τ1)) else none))) := (onI_cg (fun _ => rfl) (fun r1 τ1 => rfl))
theorem e_X6_isIron (x1 : Int32) (σ : Mm) : f_X6_isIron [.inr (.inl 0), .inl x1] σ = (onI (f_X6_isWithin [.inl x1, .inl 0, .inl ((σ 32 0) - 1)] (pk (sg0) σ)) (fun τ1 => some (none, (put (sg0) σ τ1))) (fun r1 τ1 => (if r1 = 0 ∨ r1 = 1 then some (some (some (.inl r1)), (put (sg0) σ τ1)) else none))) := (lock_ap _ _).trans (e0_X6_isIron bigM x1 σ)
set_option maxRecDepth 20000 in
theorem e0_X6_requireIron (n : Nat) (x1 : Int32) (σ : Mm) : sem0 t_X6_requireIron cs_X6_requireIron 2 n [.inr (.inl 0), .inl x1] σ =
  (onI (f_X6_isIron [.inr (.inl 0), .inl x1] σ) (fun τ1 => some (none, τ1)) (fun r1 τ1 =>
  (if r1 = 0 then
    some (none, τ1)
  else
    some (some none, τ1)))) := (onI_cg (fun _ => rfl) (fun r1 τ1 => (if_cg rfl rfl)))
theorem e_X6_requireIron (x1 : Int32) (σ : Mm) : f_X6_requireIron [.inr (.inl 0), .inl x1] σ = (onI (f_X6_isIron [.inr (.inl 0), .inl x1] σ) (fun τ1 => some (none, τ1)) (fun r1 τ1 => (if r1 = 0 then some (none, τ1) else some (some none, τ1)))) := (lock_ap _ _).trans (e0_X6_requireIron bigM x1 σ)
set_option maxRecDepth 20000 in
theorem e0_X6_mass (n : Nat) (x1 : Int32) (σ : Mm) : sem0 t_X6_mass cs_X6_mass 2 n [.inr (.inl 0), .inl x1] σ =
  (onV (f_X6_requireIron [.inr (.inl 0), .inl x1] σ) (fun τ1 => some (none, τ1)) (fun τ1 =>
  (if inb x1 6 = true then
  some (some (some (.inl (τ1 34 x1.toNatClampNeg))), τ1)
  else none))) := (onV_cg (fun _ => rfl) (fun τ1 => (if_cg rfl rfl)))
theorem e_X6_mass (x1 : Int32) (σ : Mm) : f_X6_mass [.inr (.inl 0), .inl x1] σ = (onV (f_X6_requireIron [.inr (.inl 0), .inl x1] σ) (fun τ1 => some (none, τ1)) (fun τ1 => (if inb x1 6 = true then some (some (some (.inl (τ1 34 x1.toNatClampNeg))), τ1) else none))) := (lock_ap _ _).trans (e0_X6_mass bigM x1 σ)
set_option maxRecDepth 20000 in
theorem e0_X6_cooling (n : Nat) (x1 : Int32) (σ : Mm) : sem0 t_X6_cooling cs_X6_cooling 2 n [.inr (.inl 0), .inl x1] σ =
  (onV (f_X6_requireIron [.inr (.inl 0), .inl x1] σ) (fun τ1 => some (none, τ1)) (fun τ1 =>
  (if inb x1 6 = true then
  some (some (some (.inl (τ1 35 x1.toNatClampNeg))), τ1)
  else none))) := (onV_cg (fun _ => rfl) (fun τ1 => (if_cg rfl rfl)))
theorem e_X6_cooling (x1 : Int32) (σ : Mm) : f_X6_cooling [.inr (.inl 0), .inl x1] σ = (onV (f_X6_requireIron [.inr (.inl 0), .inl x1] σ) (fun τ1 => some (none, τ1)) (fun τ1 => (if inb x1 6 = true then some (some (some (.inl (τ1 35 x1.toNatClampNeg))), τ1) else none))) := (lock_ap _ _).trans (e0_X6_cooling bigM x1 σ)
set_option maxRecDepth 20000 in
theorem e0_X6_stepCount (n : Nat) (x1 : Int32) (σ : Mm) : sem0 t_X6_stepCount cs_X6_stepCount 2 n [.inr (.inl 0), .inl x1] σ =
  (onV (f_X6_requireIron [.inr (.inl 0), .inl x1] σ) (fun τ1 => some (none, τ1)) (fun τ1 =>
  (if inb x1 6 = true then
  some (some (some (.inl (τ1 36 x1.toNatClampNeg))), τ1)
  else none))) := (onV_cg (fun _ => rfl) (fun τ1 => (if_cg rfl rfl)))
theorem e_X6_stepCount (x1 : Int32) (σ : Mm) : f_X6_stepCount [.inr (.inl 0), .inl x1] σ = (onV (f_X6_requireIron [.inr (.inl 0), .inl x1] σ) (fun τ1 => some (none, τ1)) (fun τ1 => (if inb x1 6 = true then some (some (some (.inl (τ1 36 x1.toNatClampNeg))), τ1) else none))) := (lock_ap _ _).trans (e0_X6_stepCount bigM x1 σ)
set_option maxRecDepth 20000 in
theorem e0_X6_requireStep (n : Nat) (x1 x2 : Int32) (σ : Mm) : sem0 t_X6_requireStep cs_X6_requireStep 3 n [.inr (.inl 0), .inl x1, .inl x2] σ =
  (onV (f_X6_requireIron [.inr (.inl 0), .inl x1] σ) (fun τ1 => some (none, τ1)) (fun τ1 =>
  (if inb x1 6 = true then
  (onI (f_X6_isWithin [.inl x2, .inl 0, .inl ((τ1 36 x1.toNatClampNeg) - 1)] (pk (sg0) τ1)) (fun τ2 => some (none, (put (sg0) τ1 τ2))) (fun r2 τ2 =>
  (if r2 = 0 then
    some (none, (put (sg0) τ1 τ2))
  else
    some (some none, (put (sg0) τ1 τ2)))))
  else none))) := (onV_cg (fun _ => rfl) (fun τ1 => (if_cg (onI_cg (fun _ => rfl) (fun r2 τ2 => (if_cg rfl rfl))) rfl)))
theorem e_X6_requireStep (x1 x2 : Int32) (σ : Mm) : f_X6_requireStep [.inr (.inl 0), .inl x1, .inl x2] σ = (onV (f_X6_requireIron [.inr (.inl 0), .inl x1] σ) (fun τ1 => some (none, τ1)) (fun τ1 => (if inb x1 6 = true then (onI (f_X6_isWithin [.inl x2, .inl 0, .inl ((τ1 36 x1.toNatClampNeg) - 1)] (pk (sg0) τ1)) (fun τ2 => some (none, (put (sg0) τ1 τ2))) (fun r2 τ2 => (if r2 = 0 then some (none, (put (sg0) τ1 τ2)) else some (some none, (put (sg0) τ1 τ2))))) else none))) := (lock_ap _ _).trans (e0_X6_requireStep bigM x1 x2 σ)
set_option maxRecDepth 20000 in
theorem e0_X6_stepHeat (n : Nat) (x1 x2 : Int32) (σ : Mm) : sem0 t_X6_stepHeat cs_X6_stepHeat 3 n [.inr (.inl 0), .inl x1, .inl x2] σ =
  (onV (f_X6_requireStep [.inr (.inl 0), .inl x1, .inl x2] σ) (fun τ1 => some (none, τ1)) (fun τ1 =>
  (onI (f_X2_heatOfStep [.inr (.inl 0), .inl x1, .inl x2] (pk (sgC 32 11) τ1)) (fun τ2 => some (none, (put (sgC 32 11) τ1 τ2))) (fun r2 τ2 =>
  some (some (some (.inl r2)), (put (sgC 32 11) τ1 τ2)))))) := (onV_cg (fun _ => rfl) (fun τ1 => (onI_cg (fun _ => rfl) (fun r2 τ2 => rfl))))
theorem e_X6_stepHeat (x1 x2 : Int32) (σ : Mm) : f_X6_stepHeat [.inr (.inl 0), .inl x1, .inl x2] σ = (onV (f_X6_requireStep [.inr (.inl 0), .inl x1, .inl x2] σ) (fun τ1 => some (none, τ1)) (fun τ1 => (onI (f_X2_heatOfStep [.inr (.inl 0), .inl x1, .inl x2] (pk (sgC 32 11) τ1)) (fun τ2 => some (none, (put (sgC 32 11) τ1 τ2))) (fun r2 τ2 => some (some (some (.inl r2)), (put (sgC 32 11) τ1 τ2)))))) := (lock_ap _ _).trans (e0_X6_stepHeat bigM x1 x2 σ)
set_option maxRecDepth 20000 in
theorem e0_X6_stepMinutes (n : Nat) (x1 x2 : Int32) (σ : Mm) : sem0 t_X6_stepMinutes cs_X6_stepMinutes 3 n [.inr (.inl 0), .inl x1, .inl x2] σ =
  (onV (f_X6_requireStep [.inr (.inl 0), .inl x1, .inl x2] σ) (fun τ1 => some (none, τ1)) (fun τ1 =>
  (onI (f_X2_minutesOfStep [.inr (.inl 0), .inl x1, .inl x2] (pk (sgC 32 11) τ1)) (fun τ2 => some (none, (put (sgC 32 11) τ1 τ2))) (fun r2 τ2 =>
  some (some (some (.inl r2)), (put (sgC 32 11) τ1 τ2)))))) := (onV_cg (fun _ => rfl) (fun τ1 => (onI_cg (fun _ => rfl) (fun r2 τ2 => rfl))))
theorem e_X6_stepMinutes (x1 x2 : Int32) (σ : Mm) : f_X6_stepMinutes [.inr (.inl 0), .inl x1, .inl x2] σ = (onV (f_X6_requireStep [.inr (.inl 0), .inl x1, .inl x2] σ) (fun τ1 => some (none, τ1)) (fun τ1 => (onI (f_X2_minutesOfStep [.inr (.inl 0), .inl x1, .inl x2] (pk (sgC 32 11) τ1)) (fun τ2 => some (none, (put (sgC 32 11) τ1 τ2))) (fun r2 τ2 => some (some (some (.inl r2)), (put (sgC 32 11) τ1 τ2)))))) := (lock_ap _ _).trans (e0_X6_stepMinutes bigM x1 x2 σ)
set_option maxRecDepth 20000 in
theorem e0_X6_isPlace (n : Nat) (x1 : Int32) (σ : Mm) : sem0 t_X6_isPlace cs_X6_isPlace 2 n [.inr (.inl 0), .inl x1] σ =
  (onI (f_X6_isWithin [.inl x1, .inl 0, .inl ((σ 32 1) - 1)] (pk (sg0) σ)) (fun τ1 => some (none, (put (sg0) σ τ1))) (fun r1 τ1 =>
  (if r1 = 0 ∨ r1 = 1 then some (some (some (.inl r1)), (put (sg0) σ τ1)) else none))) := (onI_cg (fun _ => rfl) (fun r1 τ1 => rfl))
theorem e_X6_isPlace (x1 : Int32) (σ : Mm) : f_X6_isPlace [.inr (.inl 0), .inl x1] σ = (onI (f_X6_isWithin [.inl x1, .inl 0, .inl ((σ 32 1) - 1)] (pk (sg0) σ)) (fun τ1 => some (none, (put (sg0) σ τ1))) (fun r1 τ1 => (if r1 = 0 ∨ r1 = 1 then some (some (some (.inl r1)), (put (sg0) σ τ1)) else none))) := (lock_ap _ _).trans (e0_X6_isPlace bigM x1 σ)
set_option maxRecDepth 20000 in
theorem e0_X6_requirePlace (n : Nat) (x1 : Int32) (σ : Mm) : sem0 t_X6_requirePlace cs_X6_requirePlace 2 n [.inr (.inl 0), .inl x1] σ =
  (onI (f_X6_isPlace [.inr (.inl 0), .inl x1] σ) (fun τ1 => some (none, τ1)) (fun r1 τ1 =>
  (if r1 = 0 then
    some (none, τ1)
  else
    some (some none, τ1)))) := (onI_cg (fun _ => rfl) (fun r1 τ1 => (if_cg rfl rfl)))
theorem e_X6_requirePlace (x1 : Int32) (σ : Mm) : f_X6_requirePlace [.inr (.inl 0), .inl x1] σ = (onI (f_X6_isPlace [.inr (.inl 0), .inl x1] σ) (fun τ1 => some (none, τ1)) (fun r1 τ1 => (if r1 = 0 then some (none, τ1) else some (some none, τ1)))) := (lock_ap _ _).trans (e0_X6_requirePlace bigM x1 σ)
set_option maxRecDepth 20000 in
theorem e0_X6_placeRate (n : Nat) (x1 : Int32) (σ : Mm) : sem0 t_X6_placeRate cs_X6_placeRate 2 n [.inr (.inl 0), .inl x1] σ =
  (onV (f_X6_requirePlace [.inr (.inl 0), .inl x1] σ) (fun τ1 => some (none, τ1)) (fun τ1 =>
  (if inb x1 3 = true then
  some (some (some (.inl (τ1 39 x1.toNatClampNeg))), τ1)
  else none))) := (onV_cg (fun _ => rfl) (fun τ1 => (if_cg rfl rfl)))
theorem e_X6_placeRate (x1 : Int32) (σ : Mm) : f_X6_placeRate [.inr (.inl 0), .inl x1] σ = (onV (f_X6_requirePlace [.inr (.inl 0), .inl x1] σ) (fun τ1 => some (none, τ1)) (fun τ1 => (if inb x1 3 = true then some (some (some (.inl (τ1 39 x1.toNatClampNeg))), τ1) else none))) := (lock_ap _ _).trans (e0_X6_placeRate bigM x1 σ)
set_option maxRecDepth 20000 in
theorem e0_X6_placeLimit (n : Nat) (x1 : Int32) (σ : Mm) : sem0 t_X6_placeLimit cs_X6_placeLimit 2 n [.inr (.inl 0), .inl x1] σ =
  (onV (f_X6_requirePlace [.inr (.inl 0), .inl x1] σ) (fun τ1 => some (none, τ1)) (fun τ1 =>
  (if inb x1 3 = true then
  some (some (some (.inl (τ1 40 x1.toNatClampNeg))), τ1)
  else none))) := (onV_cg (fun _ => rfl) (fun τ1 => (if_cg rfl rfl)))
theorem e_X6_placeLimit (x1 : Int32) (σ : Mm) : f_X6_placeLimit [.inr (.inl 0), .inl x1] σ = (onV (f_X6_requirePlace [.inr (.inl 0), .inl x1] σ) (fun τ1 => some (none, τ1)) (fun τ1 => (if inb x1 3 = true then some (some (some (.inl (τ1 40 x1.toNatClampNeg))), τ1) else none))) := (lock_ap _ _).trans (e0_X6_placeLimit bigM x1 σ)
set_option maxRecDepth 20000 in
theorem e0_X6_getSetting (n : Nat) (x1 : Int32) (σ : Mm) : sem0 t_X6_getSetting cs_X6_getSetting 2 n [.inr (.inl 0), .inl x1] σ =
  (onI (f_X6_isSetting [.inl x1] (pk (sg0) σ)) (fun τ1 => some (none, (put (sg0) σ τ1))) (fun r1 τ1 =>
  (if r1 = 0 then
    some (some (some (.inl (-2))), (put (sg0) σ τ1))
  else
    (if inb x1 3 = true then
    some (some (some (.inl (σ 41 x1.toNatClampNeg))), (put (sg0) σ τ1))
    else none)))) := (onI_cg (fun _ => rfl) (fun r1 τ1 => (if_cg rfl (if_cg rfl rfl))))
theorem e_X6_getSetting (x1 : Int32) (σ : Mm) : f_X6_getSetting [.inr (.inl 0), .inl x1] σ = (onI (f_X6_isSetting [.inl x1] (pk (sg0) σ)) (fun τ1 => some (none, (put (sg0) σ τ1))) (fun r1 τ1 => (if r1 = 0 then some (some (some (.inl (-2))), (put (sg0) σ τ1)) else (if inb x1 3 = true then some (some (some (.inl (σ 41 x1.toNatClampNeg))), (put (sg0) σ τ1)) else none)))) := (lock_ap _ _).trans (e0_X6_getSetting bigM x1 σ)
set_option maxRecDepth 20000 in
theorem e0_X6_ironAt (n : Nat) (x1 : Int32) (σ : Mm) : sem0 t_X6_ironAt cs_X6_ironAt 2 n [.inr (.inl 0), .inl x1] σ =
  (onV (f_X6_requireIron [.inr (.inl 0), .inl x1] σ) (fun τ1 => some (none, τ1)) (fun τ1 =>
  (if inb x1 6 = true then
  some (some (some (.inl (τ1 42 x1.toNatClampNeg))), τ1)
  else none))) := (onV_cg (fun _ => rfl) (fun τ1 => (if_cg rfl rfl)))
theorem e_X6_ironAt (x1 : Int32) (σ : Mm) : f_X6_ironAt [.inr (.inl 0), .inl x1] σ = (onV (f_X6_requireIron [.inr (.inl 0), .inl x1] σ) (fun τ1 => some (none, τ1)) (fun τ1 => (if inb x1 6 = true then some (some (some (.inl (τ1 42 x1.toNatClampNeg))), τ1) else none))) := (lock_ap _ _).trans (e0_X6_ironAt bigM x1 σ)
set_option maxRecDepth 20000 in
theorem e0_X6_positionOf (n : Nat) (x1 : Int32) (σ : Mm) : sem0 t_X6_positionOf cs_X6_positionOf 2 n [.inr (.inl 0), .inl x1] σ =
  (onV (f_X6_requireIron [.inr (.inl 0), .inl x1] σ) (fun τ1 => some (none, τ1)) (fun τ1 =>
  (onI (f_X2_findPosition [.inr (.inl 0), .inl x1] (pk (sgC 32 11) τ1)) (fun τ2 => some (none, (put (sgC 32 11) τ1 τ2))) (fun r2 τ2 =>
  some (some (some (.inl r2)), (put (sgC 32 11) τ1 τ2)))))) := (onV_cg (fun _ => rfl) (fun τ1 => (onI_cg (fun _ => rfl) (fun r2 τ2 => rfl))))
theorem e_X6_positionOf (x1 : Int32) (σ : Mm) : f_X6_positionOf [.inr (.inl 0), .inl x1] σ = (onV (f_X6_requireIron [.inr (.inl 0), .inl x1] σ) (fun τ1 => some (none, τ1)) (fun τ1 => (onI (f_X2_findPosition [.inr (.inl 0), .inl x1] (pk (sgC 32 11) τ1)) (fun τ2 => some (none, (put (sgC 32 11) τ1 τ2))) (fun r2 τ2 => some (some (some (.inl r2)), (put (sgC 32 11) τ1 τ2)))))) := (lock_ap _ _).trans (e0_X6_positionOf bigM x1 σ)
set_option maxRecDepth 20000 in
theorem e0_X6_presentLog (n : Nat) (σ : Mm) : sem0 t_X6_presentLog cs_X6_presentLog 1 n [.inr (.inl 0)] σ =
  (if (σ 0 7) = 0 then
    (onV (f_X3_write [.inr (.inl 0)] (pk (sgC 16 27) σ)) (fun τ1 => some (none, (put (sgC 16 27) σ τ1))) (fun τ1 =>
    some (some (some (.inr (.inl 16))), (wr (put (sgC 16 27) σ τ1) 0 7 1))))
  else
    some (some (some (.inr (.inl 16))), σ)) := (if_cg (onV_cg (fun _ => rfl) (fun τ1 => rfl)) rfl)
theorem e_X6_presentLog (σ : Mm) : f_X6_presentLog [.inr (.inl 0)] σ = (if (σ 0 7) = 0 then (onV (f_X3_write [.inr (.inl 0)] (pk (sgC 16 27) σ)) (fun τ1 => some (none, (put (sgC 16 27) σ τ1))) (fun τ1 => some (some (some (.inr (.inl 16))), (wr (put (sgC 16 27) σ τ1) 0 7 1)))) else some (some (some (.inr (.inl 16))), σ)) := (lock_ap _ _).trans (e0_X6_presentLog bigM σ)
set_option maxRecDepth 20000 in
theorem e0_X6_finish (n : Nat) (σ : Mm) : sem0 t_X6_finish cs_X6_finish 1 n [.inr (.inl 0)] σ =
  (onA (f_X6_presentLog [.inr (.inl 0)] σ) 16 (fun τ1 => some (none, τ1)) (fun τ1 =>
  (onI (f_X5_endMinute [.inr (.inl 0)] (pk (sgC 20 23) τ1)) (fun τ2 => some (none, (put (sgC 20 23) τ1 τ2))) (fun r2 τ2 =>
  some (some (some (.inl r2)), (put (sgC 20 23) τ1 τ2)))))) := (onA_cg (fun _ => rfl) (fun τ1 => (onI_cg (fun _ => rfl) (fun r2 τ2 => rfl))))
theorem e_X6_finish (σ : Mm) : f_X6_finish [.inr (.inl 0)] σ = (onA (f_X6_presentLog [.inr (.inl 0)] σ) 16 (fun τ1 => some (none, τ1)) (fun τ1 => (onI (f_X5_endMinute [.inr (.inl 0)] (pk (sgC 20 23) τ1)) (fun τ2 => some (none, (put (sgC 20 23) τ1 τ2))) (fun r2 τ2 => some (some (some (.inl r2)), (put (sgC 20 23) τ1 τ2)))))) := (lock_ap _ _).trans (e0_X6_finish bigM σ)
set_option maxRecDepth 20000 in
theorem e0_X6_finishOf (n : Nat) (x1 : Int32) (σ : Mm) : sem0 t_X6_finishOf cs_X6_finishOf 2 n [.inr (.inl 0), .inl x1] σ =
  (onV (f_X6_requireIron [.inr (.inl 0), .inl x1] σ) (fun τ1 => some (none, τ1)) (fun τ1 =>
  (onA (f_X6_presentLog [.inr (.inl 0)] τ1) 16 (fun τ2 => some (none, τ2)) (fun τ2 =>
  (if inb x1 6 = true then
  some (some (some (.inl (τ2 27 x1.toNatClampNeg))), τ2)
  else none))))) := (onV_cg (fun _ => rfl) (fun τ1 => (onA_cg (fun _ => rfl) (fun τ2 => (if_cg rfl rfl)))))
theorem e_X6_finishOf (x1 : Int32) (σ : Mm) : f_X6_finishOf [.inr (.inl 0), .inl x1] σ = (onV (f_X6_requireIron [.inr (.inl 0), .inl x1] σ) (fun τ1 => some (none, τ1)) (fun τ1 => (onA (f_X6_presentLog [.inr (.inl 0)] τ1) 16 (fun τ2 => some (none, τ2)) (fun τ2 => (if inb x1 6 = true then some (some (some (.inl (τ2 27 x1.toNatClampNeg))), τ2) else none))))) := (lock_ap _ _).trans (e0_X6_finishOf bigM x1 σ)
set_option maxRecDepth 20000 in
theorem e0_X6_heatAfter (n : Nat) (x1 x2 : Int32) (σ : Mm) : sem0 t_X6_heatAfter cs_X6_heatAfter 3 n [.inr (.inl 0), .inl x1, .inl x2] σ =
  (onV (f_X6_requireIron [.inr (.inl 0), .inl x1] σ) (fun τ1 => some (none, τ1)) (fun τ1 =>
  (onI (f_X6_isWithin [.inl x2, .inl 0, .inl 480] (pk (sg0) τ1)) (fun τ2 => some (none, (put (sg0) τ1 τ2))) (fun r2 τ2 =>
  (if r2 = 0 then
    some (some (some (.inl (-2))), (put (sg0) τ1 τ2))
  else
    (onA (f_X6_presentLog [.inr (.inl 0)] (put (sg0) τ1 τ2)) 16 (fun τ3 => some (none, τ3)) (fun τ3 =>
    (onI (f_X3_heatOf [.inr (.inl 0), .inl x1, .inl x2] (pk (sgC 16 27) τ3)) (fun τ4 => some (none, (put (sgC 16 27) τ3 τ4))) (fun r4 τ4 =>
    some (some (some (.inl r4)), (put (sgC 16 27) τ3 τ4))))))))))) := (onV_cg (fun _ => rfl) (fun τ1 => (onI_cg (fun _ => rfl) (fun r2 τ2 => (if_cg rfl (onA_cg (fun _ => rfl) (fun τ3 => (onI_cg (fun _ => rfl) (fun r4 τ4 => rfl)))))))))
theorem e_X6_heatAfter (x1 x2 : Int32) (σ : Mm) : f_X6_heatAfter [.inr (.inl 0), .inl x1, .inl x2] σ = (onV (f_X6_requireIron [.inr (.inl 0), .inl x1] σ) (fun τ1 => some (none, τ1)) (fun τ1 => (onI (f_X6_isWithin [.inl x2, .inl 0, .inl 480] (pk (sg0) τ1)) (fun τ2 => some (none, (put (sg0) τ1 τ2))) (fun r2 τ2 => (if r2 = 0 then some (some (some (.inl (-2))), (put (sg0) τ1 τ2)) else (onA (f_X6_presentLog [.inr (.inl 0)] (put (sg0) τ1 τ2)) 16 (fun τ3 => some (none, τ3)) (fun τ3 => (onI (f_X3_heatOf [.inr (.inl 0), .inl x1, .inl x2] (pk (sgC 16 27) τ3)) (fun τ4 => some (none, (put (sgC 16 27) τ3 τ4))) (fun r4 τ4 => some (some (some (.inl r4)), (put (sgC 16 27) τ3 τ4))))))))))) := (lock_ap _ _).trans (e0_X6_heatAfter bigM x1 x2 σ)
set_option maxRecDepth 20000 in
theorem e0_X6_whereIn (n : Nat) (x1 x2 : Int32) (σ : Mm) : sem0 t_X6_whereIn cs_X6_whereIn 3 n [.inr (.inl 0), .inl x1, .inl x2] σ =
  (onV (f_X6_requireIron [.inr (.inl 0), .inl x1] σ) (fun τ1 => some (none, τ1)) (fun τ1 =>
  (onI (f_X6_isMinute [.inl x2] (pk (sg0) τ1)) (fun τ2 => some (none, (put (sg0) τ1 τ2))) (fun r2 τ2 =>
  (if r2 = 0 then
    some (some (some (.inl (-2))), (put (sg0) τ1 τ2))
  else
    (onA (f_X6_presentLog [.inr (.inl 0)] (put (sg0) τ1 τ2)) 16 (fun τ3 => some (none, τ3)) (fun τ3 =>
    (onI (f_X3_spotOf [.inr (.inl 0), .inl x1, .inl x2] (pk (sgC 16 27) τ3)) (fun τ4 => some (none, (put (sgC 16 27) τ3 τ4))) (fun r4 τ4 =>
    some (some (some (.inl r4)), (put (sgC 16 27) τ3 τ4))))))))))) := (onV_cg (fun _ => rfl) (fun τ1 => (onI_cg (fun _ => rfl) (fun r2 τ2 => (if_cg rfl (onA_cg (fun _ => rfl) (fun τ3 => (onI_cg (fun _ => rfl) (fun r4 τ4 => rfl)))))))))
theorem e_X6_whereIn (x1 x2 : Int32) (σ : Mm) : f_X6_whereIn [.inr (.inl 0), .inl x1, .inl x2] σ = (onV (f_X6_requireIron [.inr (.inl 0), .inl x1] σ) (fun τ1 => some (none, τ1)) (fun τ1 => (onI (f_X6_isMinute [.inl x2] (pk (sg0) τ1)) (fun τ2 => some (none, (put (sg0) τ1 τ2))) (fun r2 τ2 => (if r2 = 0 then some (some (some (.inl (-2))), (put (sg0) τ1 τ2)) else (onA (f_X6_presentLog [.inr (.inl 0)] (put (sg0) τ1 τ2)) 16 (fun τ3 => some (none, τ3)) (fun τ3 => (onI (f_X3_spotOf [.inr (.inl 0), .inl x1, .inl x2] (pk (sgC 16 27) τ3)) (fun τ4 => some (none, (put (sgC 16 27) τ3 τ4))) (fun r4 τ4 => some (some (some (.inl r4)), (put (sgC 16 27) τ3 τ4))))))))))) := (lock_ap _ _).trans (e0_X6_whereIn bigM x1 x2 σ)
set_option maxRecDepth 20000 in
theorem e0_X6_stepsAfter (n : Nat) (x1 x2 : Int32) (σ : Mm) : sem0 t_X6_stepsAfter cs_X6_stepsAfter 3 n [.inr (.inl 0), .inl x1, .inl x2] σ =
  (onV (f_X6_requireIron [.inr (.inl 0), .inl x1] σ) (fun τ1 => some (none, τ1)) (fun τ1 =>
  (onI (f_X6_isWithin [.inl x2, .inl 0, .inl 480] (pk (sg0) τ1)) (fun τ2 => some (none, (put (sg0) τ1 τ2))) (fun r2 τ2 =>
  (if r2 = 0 then
    some (some (some (.inl (-2))), (put (sg0) τ1 τ2))
  else
    (onA (f_X6_presentLog [.inr (.inl 0)] (put (sg0) τ1 τ2)) 16 (fun τ3 => some (none, τ3)) (fun τ3 =>
    (onI (f_X3_stepsOf [.inr (.inl 0), .inl x1, .inl x2] (pk (sgC 16 27) τ3)) (fun τ4 => some (none, (put (sgC 16 27) τ3 τ4))) (fun r4 τ4 =>
    some (some (some (.inl r4)), (put (sgC 16 27) τ3 τ4))))))))))) := (onV_cg (fun _ => rfl) (fun τ1 => (onI_cg (fun _ => rfl) (fun r2 τ2 => (if_cg rfl (onA_cg (fun _ => rfl) (fun τ3 => (onI_cg (fun _ => rfl) (fun r4 τ4 => rfl)))))))))
theorem e_X6_stepsAfter (x1 x2 : Int32) (σ : Mm) : f_X6_stepsAfter [.inr (.inl 0), .inl x1, .inl x2] σ = (onV (f_X6_requireIron [.inr (.inl 0), .inl x1] σ) (fun τ1 => some (none, τ1)) (fun τ1 => (onI (f_X6_isWithin [.inl x2, .inl 0, .inl 480] (pk (sg0) τ1)) (fun τ2 => some (none, (put (sg0) τ1 τ2))) (fun r2 τ2 => (if r2 = 0 then some (some (some (.inl (-2))), (put (sg0) τ1 τ2)) else (onA (f_X6_presentLog [.inr (.inl 0)] (put (sg0) τ1 τ2)) 16 (fun τ3 => some (none, τ3)) (fun τ3 => (onI (f_X3_stepsOf [.inr (.inl 0), .inl x1, .inl x2] (pk (sgC 16 27) τ3)) (fun τ4 => some (none, (put (sgC 16 27) τ3 τ4))) (fun r4 τ4 => some (some (some (.inl r4)), (put (sgC 16 27) τ3 τ4))))))))))) := (lock_ap _ _).trans (e0_X6_stepsAfter bigM x1 x2 σ)
set_option maxRecDepth 20000 in
theorem e0_X6_coldStops (n : Nat) (x1 : Int32) (σ : Mm) : sem0 t_X6_coldStops cs_X6_coldStops 2 n [.inr (.inl 0), .inl x1] σ =
  (onV (f_X6_requireIron [.inr (.inl 0), .inl x1] σ) (fun τ1 => some (none, τ1)) (fun τ1 =>
  (onA (f_X6_presentLog [.inr (.inl 0)] τ1) 16 (fun τ2 => some (none, τ2)) (fun τ2 =>
  (if inb x1 6 = true then
  some (some (some (.inl (τ2 28 x1.toNatClampNeg))), τ2)
  else none))))) := (onV_cg (fun _ => rfl) (fun τ1 => (onA_cg (fun _ => rfl) (fun τ2 => (if_cg rfl rfl)))))
theorem e_X6_coldStops (x1 : Int32) (σ : Mm) : f_X6_coldStops [.inr (.inl 0), .inl x1] σ = (onV (f_X6_requireIron [.inr (.inl 0), .inl x1] σ) (fun τ1 => some (none, τ1)) (fun τ1 => (onA (f_X6_presentLog [.inr (.inl 0)] τ1) 16 (fun τ2 => some (none, τ2)) (fun τ2 => (if inb x1 6 = true then some (some (some (.inl (τ2 28 x1.toNatClampNeg))), τ2) else none))))) := (lock_ap _ _).trans (e0_X6_coldStops bigM x1 σ)
set_option maxRecDepth 20000 in
theorem e0_X6_heats (n : Nat) (x1 : Int32) (σ : Mm) : sem0 t_X6_heats cs_X6_heats 2 n [.inr (.inl 0), .inl x1] σ =
  (onV (f_X6_requireIron [.inr (.inl 0), .inl x1] σ) (fun τ1 => some (none, τ1)) (fun τ1 =>
  (onA (f_X6_presentLog [.inr (.inl 0)] τ1) 16 (fun τ2 => some (none, τ2)) (fun τ2 =>
  (if inb x1 6 = true then
  some (some (some (.inl (τ2 29 x1.toNatClampNeg))), τ2)
  else none))))) := (onV_cg (fun _ => rfl) (fun τ1 => (onA_cg (fun _ => rfl) (fun τ2 => (if_cg rfl rfl)))))
theorem e_X6_heats (x1 : Int32) (σ : Mm) : f_X6_heats [.inr (.inl 0), .inl x1] σ = (onV (f_X6_requireIron [.inr (.inl 0), .inl x1] σ) (fun τ1 => some (none, τ1)) (fun τ1 => (onA (f_X6_presentLog [.inr (.inl 0)] τ1) 16 (fun τ2 => some (none, τ2)) (fun τ2 => (if inb x1 6 = true then some (some (some (.inl (τ2 29 x1.toNatClampNeg))), τ2) else none))))) := (lock_ap _ _).trans (e0_X6_heats bigM x1 σ)
set_option maxRecDepth 20000 in
theorem e0_X6_fireMinutes (n : Nat) (x1 : Int32) (σ : Mm) : sem0 t_X6_fireMinutes cs_X6_fireMinutes 2 n [.inr (.inl 0), .inl x1] σ =
  (onV (f_X6_requireIron [.inr (.inl 0), .inl x1] σ) (fun τ1 => some (none, τ1)) (fun τ1 =>
  (onA (f_X6_presentLog [.inr (.inl 0)] τ1) 16 (fun τ2 => some (none, τ2)) (fun τ2 =>
  (onI (f_X3_minutesInFire [.inr (.inl 0), .inl x1] (pk (sgC 16 27) τ2)) (fun τ3 => some (none, (put (sgC 16 27) τ2 τ3))) (fun r3 τ3 =>
  some (some (some (.inl r3)), (put (sgC 16 27) τ2 τ3)))))))) := (onV_cg (fun _ => rfl) (fun τ1 => (onA_cg (fun _ => rfl) (fun τ2 => (onI_cg (fun _ => rfl) (fun r3 τ3 => rfl))))))
theorem e_X6_fireMinutes (x1 : Int32) (σ : Mm) : f_X6_fireMinutes [.inr (.inl 0), .inl x1] σ = (onV (f_X6_requireIron [.inr (.inl 0), .inl x1] σ) (fun τ1 => some (none, τ1)) (fun τ1 => (onA (f_X6_presentLog [.inr (.inl 0)] τ1) 16 (fun τ2 => some (none, τ2)) (fun τ2 => (onI (f_X3_minutesInFire [.inr (.inl 0), .inl x1] (pk (sgC 16 27) τ2)) (fun τ3 => some (none, (put (sgC 16 27) τ2 τ3))) (fun r3 τ3 => some (some (some (.inl r3)), (put (sgC 16 27) τ2 τ3)))))))) := (lock_ap _ _).trans (e0_X6_fireMinutes bigM x1 σ)
set_option maxRecDepth 20000 in
theorem e0_X6_requireAnvil (n : Nat) (x1 : Int32) (σ : Mm) : sem0 t_X6_requireAnvil cs_X6_requireAnvil 2 n [.inr (.inl 0), .inl x1] σ =
  (onI (f_X6_isWithin [.inl x1, .inl 0, .inl ((σ 41 0) - 1)] (pk (sg0) σ)) (fun τ1 => some (none, (put (sg0) σ τ1))) (fun r1 τ1 =>
  (if r1 = 0 then
    some (none, (put (sg0) σ τ1))
  else
    some (some none, (put (sg0) σ τ1))))) := (onI_cg (fun _ => rfl) (fun r1 τ1 => (if_cg rfl rfl)))
theorem e_X6_requireAnvil (x1 : Int32) (σ : Mm) : f_X6_requireAnvil [.inr (.inl 0), .inl x1] σ = (onI (f_X6_isWithin [.inl x1, .inl 0, .inl ((σ 41 0) - 1)] (pk (sg0) σ)) (fun τ1 => some (none, (put (sg0) σ τ1))) (fun r1 τ1 => (if r1 = 0 then some (none, (put (sg0) σ τ1)) else some (some none, (put (sg0) σ τ1))))) := (lock_ap _ _).trans (e0_X6_requireAnvil bigM x1 σ)
set_option maxRecDepth 20000 in
theorem e0_X6_anvilMinutes (n : Nat) (x1 : Int32) (σ : Mm) : sem0 t_X6_anvilMinutes cs_X6_anvilMinutes 2 n [.inr (.inl 0), .inl x1] σ =
  (onV (f_X6_requireAnvil [.inr (.inl 0), .inl x1] σ) (fun τ1 => some (none, τ1)) (fun τ1 =>
  (onA (f_X6_presentLog [.inr (.inl 0)] τ1) 16 (fun τ2 => some (none, τ2)) (fun τ2 =>
  (onI (f_X3_minutesUsed [.inr (.inl 0), .inl (10 + x1)] (pk (sgC 16 27) τ2)) (fun τ3 => some (none, (put (sgC 16 27) τ2 τ3))) (fun r3 τ3 =>
  some (some (some (.inl r3)), (put (sgC 16 27) τ2 τ3)))))))) := (onV_cg (fun _ => rfl) (fun τ1 => (onA_cg (fun _ => rfl) (fun τ2 => (onI_cg (fun _ => rfl) (fun r3 τ3 => rfl))))))
theorem e_X6_anvilMinutes (x1 : Int32) (σ : Mm) : f_X6_anvilMinutes [.inr (.inl 0), .inl x1] σ = (onV (f_X6_requireAnvil [.inr (.inl 0), .inl x1] σ) (fun τ1 => some (none, τ1)) (fun τ1 => (onA (f_X6_presentLog [.inr (.inl 0)] τ1) 16 (fun τ2 => some (none, τ2)) (fun τ2 => (onI (f_X3_minutesUsed [.inr (.inl 0), .inl (10 + x1)] (pk (sgC 16 27) τ2)) (fun τ3 => some (none, (put (sgC 16 27) τ2 τ3))) (fun r3 τ3 => some (some (some (.inl r3)), (put (sgC 16 27) τ2 τ3)))))))) := (lock_ap _ _).trans (e0_X6_anvilMinutes bigM x1 σ)
set_option maxRecDepth 20000 in
theorem e0_X6_placeMinutes (n : Nat) (x1 : Int32) (σ : Mm) : sem0 t_X6_placeMinutes cs_X6_placeMinutes 2 n [.inr (.inl 0), .inl x1] σ =
  (onV (f_X6_requirePlace [.inr (.inl 0), .inl x1] σ) (fun τ1 => some (none, τ1)) (fun τ1 =>
  (onA (f_X6_presentLog [.inr (.inl 0)] τ1) 16 (fun τ2 => some (none, τ2)) (fun τ2 =>
  (onI (f_X3_minutesUsed [.inr (.inl 0), .inl (1 + x1)] (pk (sgC 16 27) τ2)) (fun τ3 => some (none, (put (sgC 16 27) τ2 τ3))) (fun r3 τ3 =>
  some (some (some (.inl r3)), (put (sgC 16 27) τ2 τ3)))))))) := (onV_cg (fun _ => rfl) (fun τ1 => (onA_cg (fun _ => rfl) (fun τ2 => (onI_cg (fun _ => rfl) (fun r3 τ3 => rfl))))))
theorem e_X6_placeMinutes (x1 : Int32) (σ : Mm) : f_X6_placeMinutes [.inr (.inl 0), .inl x1] σ = (onV (f_X6_requirePlace [.inr (.inl 0), .inl x1] σ) (fun τ1 => some (none, τ1)) (fun τ1 => (onA (f_X6_presentLog [.inr (.inl 0)] τ1) 16 (fun τ2 => some (none, τ2)) (fun τ2 => (onI (f_X3_minutesUsed [.inr (.inl 0), .inl (1 + x1)] (pk (sgC 16 27) τ2)) (fun τ3 => some (none, (put (sgC 16 27) τ2 τ3))) (fun r3 τ3 => some (some (some (.inl r3)), (put (sgC 16 27) τ2 τ3)))))))) := (lock_ap _ _).trans (e0_X6_placeMinutes bigM x1 σ)
set_option maxRecDepth 20000 in
theorem e0_X6_hottest (n : Nat) (x1 : Int32) (σ : Mm) : sem0 t_X6_hottest cs_X6_hottest 2 n [.inr (.inl 0), .inl x1] σ =
  (onV (f_X6_requireIron [.inr (.inl 0), .inl x1] σ) (fun τ1 => some (none, τ1)) (fun τ1 =>
  (onA (f_X6_presentLog [.inr (.inl 0)] τ1) 16 (fun τ2 => some (none, τ2)) (fun τ2 =>
  (onI (f_X3_greatestHeat [.inr (.inl 0), .inl x1] (pk (sgC 16 27) τ2)) (fun τ3 => some (none, (put (sgC 16 27) τ2 τ3))) (fun r3 τ3 =>
  some (some (some (.inl r3)), (put (sgC 16 27) τ2 τ3)))))))) := (onV_cg (fun _ => rfl) (fun τ1 => (onA_cg (fun _ => rfl) (fun τ2 => (onI_cg (fun _ => rfl) (fun r3 τ3 => rfl))))))
theorem e_X6_hottest (x1 : Int32) (σ : Mm) : f_X6_hottest [.inr (.inl 0), .inl x1] σ = (onV (f_X6_requireIron [.inr (.inl 0), .inl x1] σ) (fun τ1 => some (none, τ1)) (fun τ1 => (onA (f_X6_presentLog [.inr (.inl 0)] τ1) 16 (fun τ2 => some (none, τ2)) (fun τ2 => (onI (f_X3_greatestHeat [.inr (.inl 0), .inl x1] (pk (sgC 16 27) τ2)) (fun τ3 => some (none, (put (sgC 16 27) τ2 τ3))) (fun r3 τ3 => some (some (some (.inl r3)), (put (sgC 16 27) τ2 τ3)))))))) := (lock_ap _ _).trans (e0_X6_hottest bigM x1 σ)
set_option maxRecDepth 20000 in
theorem e0_X6_lastIron (n : Nat) (σ : Mm) : sem0 t_X6_lastIron cs_X6_lastIron 1 n [.inr (.inl 0)] σ =
  (onA (f_X6_presentLog [.inr (.inl 0)] σ) 16 (fun τ1 => some (none, τ1)) (fun τ1 =>
  (onI (f_X5_lastFinished [.inr (.inl 0)] (pk (sgC 20 23) τ1)) (fun τ2 => some (none, (put (sgC 20 23) τ1 τ2))) (fun r2 τ2 =>
  some (some (some (.inl r2)), (put (sgC 20 23) τ1 τ2)))))) := (onA_cg (fun _ => rfl) (fun τ1 => (onI_cg (fun _ => rfl) (fun r2 τ2 => rfl))))
theorem e_X6_lastIron (σ : Mm) : f_X6_lastIron [.inr (.inl 0)] σ = (onA (f_X6_presentLog [.inr (.inl 0)] σ) 16 (fun τ1 => some (none, τ1)) (fun τ1 => (onI (f_X5_lastFinished [.inr (.inl 0)] (pk (sgC 20 23) τ1)) (fun τ2 => some (none, (put (sgC 20 23) τ1 τ2))) (fun r2 τ2 => some (some (some (.inl r2)), (put (sgC 20 23) τ1 τ2)))))) := (lock_ap _ _).trans (e0_X6_lastIron bigM σ)
set_option maxRecDepth 20000 in
theorem e0_X6_presentBest (n : Nat) (σ : Mm) : sem0 t_X6_presentBest cs_X6_presentBest 1 n [.inr (.inl 0)] σ =
  (if (σ 0 8) = 0 then
    (onV (f_X2_copyFrom [.inr (.inl 0), .inr (.inl 11)] (pk (sg2 57 32 11) σ)) (fun τ1 => some (none, (put (sg2 57 32 11) σ τ1))) (fun τ1 =>
    (onV (f_X0_search [.inr (.inl 0), .inr (.inl 14), .inr (.inl 2)] (pk (sgC 43 25) (put (sg2 57 32 11) σ τ1))) (fun τ2 => some (none, (put (sgC 43 25) (put (sg2 57 32 11) σ τ1) τ2))) (fun τ2 =>
    some (some (some (.inr (.inl 43))), (wr (put (sgC 43 25) (put (sg2 57 32 11) σ τ1) τ2) 0 8 1))))))
  else
    some (some (some (.inr (.inl 43))), σ)) := (if_cg (onV_cg (fun _ => rfl) (fun τ1 => (onV_cg (fun _ => rfl) (fun τ2 => rfl)))) rfl)
theorem e_X6_presentBest (σ : Mm) : f_X6_presentBest [.inr (.inl 0)] σ = (if (σ 0 8) = 0 then (onV (f_X2_copyFrom [.inr (.inl 0), .inr (.inl 11)] (pk (sg2 57 32 11) σ)) (fun τ1 => some (none, (put (sg2 57 32 11) σ τ1))) (fun τ1 => (onV (f_X0_search [.inr (.inl 0), .inr (.inl 14), .inr (.inl 2)] (pk (sgC 43 25) (put (sg2 57 32 11) σ τ1))) (fun τ2 => some (none, (put (sgC 43 25) (put (sg2 57 32 11) σ τ1) τ2))) (fun τ2 => some (some (some (.inr (.inl 43))), (wr (put (sgC 43 25) (put (sg2 57 32 11) σ τ1) τ2) 0 8 1)))))) else some (some (some (.inr (.inl 43))), σ)) := (lock_ap _ _).trans (e0_X6_presentBest bigM σ)
set_option maxRecDepth 20000 in
theorem e0_X6_bestFinish (n : Nat) (σ : Mm) : sem0 t_X6_bestFinish cs_X6_bestFinish 1 n [.inr (.inl 0)] σ =
  (onA (f_X6_presentBest [.inr (.inl 0)] σ) 43 (fun τ1 => some (none, τ1)) (fun τ1 =>
  some (some (some (.inl (τ1 43 1))), τ1))) := (onA_cg (fun _ => rfl) (fun τ1 => rfl))
theorem e_X6_bestFinish (σ : Mm) : f_X6_bestFinish [.inr (.inl 0)] σ = (onA (f_X6_presentBest [.inr (.inl 0)] σ) 43 (fun τ1 => some (none, τ1)) (fun τ1 => some (some (some (.inl (τ1 43 1))), τ1))) := (lock_ap _ _).trans (e0_X6_bestFinish bigM σ)
set_option maxRecDepth 20000 in
theorem e0_X6_bestIronAt (n : Nat) (x1 : Int32) (σ : Mm) : sem0 t_X6_bestIronAt cs_X6_bestIronAt 3 n [.inr (.inl 0), .inl x1] σ =
  (onV (f_X6_requireIron [.inr (.inl 0), .inl x1] σ) (fun τ1 => some (none, τ1)) (fun τ1 =>
  (onA (f_X6_presentBest [.inr (.inl 0)] τ1) 43 (fun τ2 => some (none, τ2)) (fun τ2 =>
  (if (τ2 43 1) = (-1) then
    some (some (some (.inl (-1))), τ2)
  else
    (if inb x1 6 = true then
    some (some (some (.inl (τ2 44 x1.toNatClampNeg))), τ2)
    else none)))))) := (onV_cg (fun _ => rfl) (fun τ1 => (onA_cg (fun _ => rfl) (fun τ2 => (if_cg rfl (if_cg rfl rfl))))))
theorem e_X6_bestIronAt (x1 : Int32) (σ : Mm) : f_X6_bestIronAt [.inr (.inl 0), .inl x1] σ = (onV (f_X6_requireIron [.inr (.inl 0), .inl x1] σ) (fun τ1 => some (none, τ1)) (fun τ1 => (onA (f_X6_presentBest [.inr (.inl 0)] τ1) 43 (fun τ2 => some (none, τ2)) (fun τ2 => (if (τ2 43 1) = (-1) then some (some (some (.inl (-1))), τ2) else (if inb x1 6 = true then some (some (some (.inl (τ2 44 x1.toNatClampNeg))), τ2) else none)))))) := (lock_ap _ _).trans (e0_X6_bestIronAt bigM x1 σ)
set_option maxRecDepth 20000 in
theorem e0_X6_bestOrders (n : Nat) (σ : Mm) : sem0 t_X6_bestOrders cs_X6_bestOrders 1 n [.inr (.inl 0)] σ =
  (onA (f_X6_presentBest [.inr (.inl 0)] σ) 43 (fun τ1 => some (none, τ1)) (fun τ1 =>
  some (some (some (.inl (τ1 43 2))), τ1))) := (onA_cg (fun _ => rfl) (fun τ1 => rfl))
theorem e_X6_bestOrders (σ : Mm) : f_X6_bestOrders [.inr (.inl 0)] σ = (onA (f_X6_presentBest [.inr (.inl 0)] σ) 43 (fun τ1 => some (none, τ1)) (fun τ1 => some (some (some (.inl (τ1 43 2))), τ1))) := (lock_ap _ _).trans (e0_X6_bestOrders bigM σ)
set_option maxRecDepth 20000 in
theorem e0_X6_finishWithSwap (n : Nat) (x1 x2 : Int32) (σ : Mm) : sem0 t_X6_finishWithSwap cs_X6_finishWithSwap 3 n [.inr (.inl 0), .inl x1, .inl x2] σ =
  (onV (f_X6_requireIron [.inr (.inl 0), .inl x1] σ) (fun τ1 => some (none, τ1)) (fun τ1 =>
  (onV (f_X6_requireIron [.inr (.inl 0), .inl x2] τ1) (fun τ2 => some (none, τ2)) (fun τ2 =>
  (onV (f_X2_copyFrom [.inr (.inl 0), .inr (.inl 11)] (pk (sg2 57 32 11) τ2)) (fun τ3 => some (none, (put (sg2 57 32 11) τ2 τ3))) (fun τ3 =>
  (onV (f_X2_exchange [.inr (.inl 0), .inl x1, .inl x2] (pk (sgC 57 11) (put (sg2 57 32 11) τ2 τ3))) (fun τ4 => some (none, (put (sgC 57 11) (put (sg2 57 32 11) τ2 τ3) τ4))) (fun τ4 =>
  (onI (f_X5_endWithin [.inr (.inl 0), .inl 480] (pk (sgC 45 23) (put (sgC 57 11) (put (sg2 57 32 11) τ2 τ3) τ4))) (fun τ5 => some (none, (put (sgC 45 23) (put (sgC 57 11) (put (sg2 57 32 11) τ2 τ3) τ4) τ5))) (fun r5 τ5 =>
  some (some (some (.inl r5)), (put (sgC 45 23) (put (sgC 57 11) (put (sg2 57 32 11) τ2 τ3) τ4) τ5)))))))))))) := (onV_cg (fun _ => rfl) (fun τ1 => (onV_cg (fun _ => rfl) (fun τ2 => (onV_cg (fun _ => rfl) (fun τ3 => (onV_cg (fun _ => rfl) (fun τ4 => (onI_cg (fun _ => rfl) (fun r5 τ5 => rfl))))))))))
theorem e_X6_finishWithSwap (x1 x2 : Int32) (σ : Mm) : f_X6_finishWithSwap [.inr (.inl 0), .inl x1, .inl x2] σ = (onV (f_X6_requireIron [.inr (.inl 0), .inl x1] σ) (fun τ1 => some (none, τ1)) (fun τ1 => (onV (f_X6_requireIron [.inr (.inl 0), .inl x2] τ1) (fun τ2 => some (none, τ2)) (fun τ2 => (onV (f_X2_copyFrom [.inr (.inl 0), .inr (.inl 11)] (pk (sg2 57 32 11) τ2)) (fun τ3 => some (none, (put (sg2 57 32 11) τ2 τ3))) (fun τ3 => (onV (f_X2_exchange [.inr (.inl 0), .inl x1, .inl x2] (pk (sgC 57 11) (put (sg2 57 32 11) τ2 τ3))) (fun τ4 => some (none, (put (sgC 57 11) (put (sg2 57 32 11) τ2 τ3) τ4))) (fun τ4 => (onI (f_X5_endWithin [.inr (.inl 0), .inl 480] (pk (sgC 45 23) (put (sgC 57 11) (put (sg2 57 32 11) τ2 τ3) τ4))) (fun τ5 => some (none, (put (sgC 45 23) (put (sgC 57 11) (put (sg2 57 32 11) τ2 τ3) τ4) τ5))) (fun r5 τ5 => some (some (some (.inl r5)), (put (sgC 45 23) (put (sgC 57 11) (put (sg2 57 32 11) τ2 τ3) τ4) τ5)))))))))))) := (lock_ap _ _).trans (e0_X6_finishWithSwap bigM x1 x2 σ)
set_option maxRecDepth 20000 in
theorem e0_X6_finishWithSetting (n : Nat) (x1 x2 : Int32) (σ : Mm) : sem0 t_X6_finishWithSetting cs_X6_finishWithSetting 3 n [.inr (.inl 0), .inl x1, .inl x2] σ =
  (onI (f_X6_isSettingValue [.inl x1, .inl x2] (pk (sg0) σ)) (fun τ1 => some (none, (put (sg0) σ τ1))) (fun r1 τ1 =>
  (if r1 = 0 then
    some (some (some (.inl (-2))), (put (sg0) σ τ1))
  else
    (onV (f_X2_copyFrom [.inr (.inl 0), .inr (.inl 11)] (pk (sg2 57 32 11) (put (sg0) σ τ1))) (fun τ2 => some (none, (put (sg2 57 32 11) (put (sg0) σ τ1) τ2))) (fun τ2 =>
    (if inb x1 3 = true then
    (onI (f_X5_endWithin [.inr (.inl 0), .inl 480] (pk (sgC 45 23) (wr (put (sg2 57 32 11) (put (sg0) σ τ1) τ2) 66 x1.toNatClampNeg x2))) (fun τ3 => some (none, (put (sgC 45 23) (wr (put (sg2 57 32 11) (put (sg0) σ τ1) τ2) 66 x1.toNatClampNeg x2) τ3))) (fun r3 τ3 =>
    some (some (some (.inl r3)), (put (sgC 45 23) (wr (put (sg2 57 32 11) (put (sg0) σ τ1) τ2) 66 x1.toNatClampNeg x2) τ3))))
    else none)))))) := (onI_cg (fun _ => rfl) (fun r1 τ1 => (if_cg rfl (onV_cg (fun _ => rfl) (fun τ2 => (if_cg (onI_cg (fun _ => rfl) (fun r3 τ3 => rfl)) rfl))))))
theorem e_X6_finishWithSetting (x1 x2 : Int32) (σ : Mm) : f_X6_finishWithSetting [.inr (.inl 0), .inl x1, .inl x2] σ = (onI (f_X6_isSettingValue [.inl x1, .inl x2] (pk (sg0) σ)) (fun τ1 => some (none, (put (sg0) σ τ1))) (fun r1 τ1 => (if r1 = 0 then some (some (some (.inl (-2))), (put (sg0) σ τ1)) else (onV (f_X2_copyFrom [.inr (.inl 0), .inr (.inl 11)] (pk (sg2 57 32 11) (put (sg0) σ τ1))) (fun τ2 => some (none, (put (sg2 57 32 11) (put (sg0) σ τ1) τ2))) (fun τ2 => (if inb x1 3 = true then (onI (f_X5_endWithin [.inr (.inl 0), .inl 480] (pk (sgC 45 23) (wr (put (sg2 57 32 11) (put (sg0) σ τ1) τ2) 66 x1.toNatClampNeg x2))) (fun τ3 => some (none, (put (sgC 45 23) (wr (put (sg2 57 32 11) (put (sg0) σ τ1) τ2) 66 x1.toNatClampNeg x2) τ3))) (fun r3 τ3 => some (some (some (.inl r3)), (put (sgC 45 23) (wr (put (sg2 57 32 11) (put (sg0) σ τ1) τ2) 66 x1.toNatClampNeg x2) τ3)))) else none)))))) := (lock_ap _ _).trans (e0_X6_finishWithSetting bigM x1 x2 σ)
set_option maxRecDepth 20000 in
theorem e0_X6_finishWithMargin (n : Nat) (x1 : Int32) (σ : Mm) : sem0 t_X6_finishWithMargin cs_X6_finishWithMargin 2 n [.inr (.inl 0), .inl x1] σ =
  (onI (f_X6_finishWithSetting [.inr (.inl 0), .inl 1, .inl x1] σ) (fun τ1 => some (none, τ1)) (fun r1 τ1 =>
  some (some (some (.inl r1)), τ1))) := (onI_cg (fun _ => rfl) (fun r1 τ1 => rfl))
theorem e_X6_finishWithMargin (x1 : Int32) (σ : Mm) : f_X6_finishWithMargin [.inr (.inl 0), .inl x1] σ = (onI (f_X6_finishWithSetting [.inr (.inl 0), .inl 1, .inl x1] σ) (fun τ1 => some (none, τ1)) (fun r1 τ1 => some (some (some (.inl r1)), τ1))) := (lock_ap _ _).trans (e0_X6_finishWithMargin bigM x1 σ)
noncomputable def b_X6_bestValue_25 (n : Nat) (x1 x2 x3 x4 x5 : Int32) (σ : Mm) : Option Ou := rn t_X6_bestValue cs_X6_bestValue n 25 [(0, .inr (.inl 0)), (1, .inl x1), (2, .inl x2), (3, .inl x3), (4, .inl x4), (5, .inl x5)] [] σ
set_option maxRecDepth 20000 in
theorem e_X6_bestValue_25 (n : Nat) (x1 x2 x3 x4 x5 : Int32) (σ : Mm) : b_X6_bestValue_25 (n + 1) x1 x2 x3 x4 x5 σ =
  (if inb x1 3 = true then
  (if (stv 1 x1.toNatClampNeg) < x5 then
    some (some (some (.inl x3)), σ)
  else
    (if inb x1 3 = true then
    (onI (f_X5_endWithin [.inr (.inl 0), .inl (if 480 < x4 then 480 else x4)] (pk (sgC 45 23) (wr σ 66 x1.toNatClampNeg x5))) (fun τ1 => some (none, (put (sgC 45 23) (wr σ 66 x1.toNatClampNeg x5) τ1))) (fun r1 τ1 =>
    (if r1 = (-1) then
      (b_X6_bestValue_25 n x1 x2 x3 x4 (x5 + x2) (put (sgC 45 23) (wr σ 66 x1.toNatClampNeg x5) τ1))
    else
      (if r1 < x4 then
        (b_X6_bestValue_25 n x1 x2 x5 r1 (x5 + x2) (put (sgC 45 23) (wr σ 66 x1.toNatClampNeg x5) τ1))
      else
        (b_X6_bestValue_25 n x1 x2 x3 x4 (x5 + x2) (put (sgC 45 23) (wr σ 66 x1.toNatClampNeg x5) τ1))))))
    else none))
  else none) := (if_cg (if_cg rfl (if_cg (onI_cg (fun _ => rfl) (fun r1 τ1 => (if_cg rfl (if_cg rfl rfl)))) rfl)) rfl)
set_option maxRecDepth 20000 in
theorem e0_X6_bestValue (n : Nat) (x1 x2 : Int32) (σ : Mm) : sem0 t_X6_bestValue cs_X6_bestValue 7 n [.inr (.inl 0), .inl x1, .inl x2] σ =
  (onV (f_X2_copyFrom [.inr (.inl 0), .inr (.inl 11)] (pk (sg2 57 32 11) σ)) (fun τ1 => some (none, (put (sg2 57 32 11) σ τ1))) (fun τ1 =>
  (if inb x1 3 = true then
  (b_X6_bestValue_25 n x1 x2 (-1) 481 (stv 0 x1.toNatClampNeg) (put (sg2 57 32 11) σ τ1))
  else none))) := (onV_cg (fun _ => rfl) (fun τ1 => (if_cg rfl rfl)))
theorem e_X6_bestValue (x1 x2 : Int32) (σ : Mm) : f_X6_bestValue [.inr (.inl 0), .inl x1, .inl x2] σ = (onV (f_X2_copyFrom [.inr (.inl 0), .inr (.inl 11)] (pk (sg2 57 32 11) σ)) (fun τ1 => some (none, (put (sg2 57 32 11) σ τ1))) (fun τ1 => (if inb x1 3 = true then (b_X6_bestValue_25 bigM x1 x2 (-1) 481 (stv 0 x1.toNatClampNeg) (put (sg2 57 32 11) σ τ1)) else none))) := (lock_ap _ _).trans (e0_X6_bestValue bigM x1 x2 σ)
set_option maxRecDepth 20000 in
theorem e0_X6_bestMargin (n : Nat) (σ : Mm) : sem0 t_X6_bestMargin cs_X6_bestMargin 1 n [.inr (.inl 0)] σ =
  (onI (f_X6_bestValue [.inr (.inl 0), .inl 1, .inl 10] σ) (fun τ1 => some (none, τ1)) (fun r1 τ1 =>
  some (some (some (.inl r1)), τ1))) := (onI_cg (fun _ => rfl) (fun r1 τ1 => rfl))
theorem e_X6_bestMargin (σ : Mm) : f_X6_bestMargin [.inr (.inl 0)] σ = (onI (f_X6_bestValue [.inr (.inl 0), .inl 1, .inl 10] σ) (fun τ1 => some (none, τ1)) (fun r1 τ1 => some (some (some (.inl r1)), τ1))) := (lock_ap _ _).trans (e0_X6_bestMargin bigM σ)
set_option maxRecDepth 20000 in
theorem e0_X6_finishWithoutPlace (n : Nat) (x1 : Int32) (σ : Mm) : sem0 t_X6_finishWithoutPlace cs_X6_finishWithoutPlace 2 n [.inr (.inl 0), .inl x1] σ =
  (onV (f_X6_requirePlace [.inr (.inl 0), .inl x1] σ) (fun τ1 => some (none, τ1)) (fun τ1 =>
  (onV (f_X2_copyFrom [.inr (.inl 0), .inr (.inl 11)] (pk (sg2 57 32 11) τ1)) (fun τ2 => some (none, (put (sg2 57 32 11) τ1 τ2))) (fun τ2 =>
  (onV (f_X2_dropPlace [.inr (.inl 0), .inl x1] (pk (sgC 57 11) (put (sg2 57 32 11) τ1 τ2))) (fun τ3 => some (none, (put (sgC 57 11) (put (sg2 57 32 11) τ1 τ2) τ3))) (fun τ3 =>
  (onI (f_X5_endWithin [.inr (.inl 0), .inl 480] (pk (sgC 45 23) (put (sgC 57 11) (put (sg2 57 32 11) τ1 τ2) τ3))) (fun τ4 => some (none, (put (sgC 45 23) (put (sgC 57 11) (put (sg2 57 32 11) τ1 τ2) τ3) τ4))) (fun r4 τ4 =>
  some (some (some (.inl r4)), (put (sgC 45 23) (put (sgC 57 11) (put (sg2 57 32 11) τ1 τ2) τ3) τ4)))))))))) := (onV_cg (fun _ => rfl) (fun τ1 => (onV_cg (fun _ => rfl) (fun τ2 => (onV_cg (fun _ => rfl) (fun τ3 => (onI_cg (fun _ => rfl) (fun r4 τ4 => rfl))))))))
theorem e_X6_finishWithoutPlace (x1 : Int32) (σ : Mm) : f_X6_finishWithoutPlace [.inr (.inl 0), .inl x1] σ = (onV (f_X6_requirePlace [.inr (.inl 0), .inl x1] σ) (fun τ1 => some (none, τ1)) (fun τ1 => (onV (f_X2_copyFrom [.inr (.inl 0), .inr (.inl 11)] (pk (sg2 57 32 11) τ1)) (fun τ2 => some (none, (put (sg2 57 32 11) τ1 τ2))) (fun τ2 => (onV (f_X2_dropPlace [.inr (.inl 0), .inl x1] (pk (sgC 57 11) (put (sg2 57 32 11) τ1 τ2))) (fun τ3 => some (none, (put (sgC 57 11) (put (sg2 57 32 11) τ1 τ2) τ3))) (fun τ3 => (onI (f_X5_endWithin [.inr (.inl 0), .inl 480] (pk (sgC 45 23) (put (sgC 57 11) (put (sg2 57 32 11) τ1 τ2) τ3))) (fun τ4 => some (none, (put (sgC 45 23) (put (sgC 57 11) (put (sg2 57 32 11) τ1 τ2) τ3) τ4))) (fun r4 τ4 => some (some (some (.inl r4)), (put (sgC 45 23) (put (sgC 57 11) (put (sg2 57 32 11) τ1 τ2) τ3) τ4)))))))))) := (lock_ap _ _).trans (e0_X6_finishWithoutPlace bigM x1 σ)
set_option maxRecDepth 20000 in
theorem e0_X6_finishOfOthers (n : Nat) (x1 : Int32) (σ : Mm) : sem0 t_X6_finishOfOthers cs_X6_finishOfOthers 2 n [.inr (.inl 0), .inl x1] σ =
  (onV (f_X2_copyFrom [.inr (.inl 0), .inr (.inl 11)] (pk (sg2 57 32 11) σ)) (fun τ1 => some (none, (put (sg2 57 32 11) σ τ1))) (fun τ1 =>
  (if inb x1 6 = true then
  (onI (f_X5_endWithin [.inr (.inl 0), .inl 480] (pk (sgC 45 23) (wr (put (sg2 57 32 11) σ τ1) 61 x1.toNatClampNeg 0))) (fun τ2 => some (none, (put (sgC 45 23) (wr (put (sg2 57 32 11) σ τ1) 61 x1.toNatClampNeg 0) τ2))) (fun r2 τ2 =>
  some (some (some (.inl r2)), (put (sgC 45 23) (wr (put (sg2 57 32 11) σ τ1) 61 x1.toNatClampNeg 0) τ2))))
  else none))) := (onV_cg (fun _ => rfl) (fun τ1 => (if_cg (onI_cg (fun _ => rfl) (fun r2 τ2 => rfl)) rfl)))
theorem e_X6_finishOfOthers (x1 : Int32) (σ : Mm) : f_X6_finishOfOthers [.inr (.inl 0), .inl x1] σ = (onV (f_X2_copyFrom [.inr (.inl 0), .inr (.inl 11)] (pk (sg2 57 32 11) σ)) (fun τ1 => some (none, (put (sg2 57 32 11) σ τ1))) (fun τ1 => (if inb x1 6 = true then (onI (f_X5_endWithin [.inr (.inl 0), .inl 480] (pk (sgC 45 23) (wr (put (sg2 57 32 11) σ τ1) 61 x1.toNatClampNeg 0))) (fun τ2 => some (none, (put (sgC 45 23) (wr (put (sg2 57 32 11) σ τ1) 61 x1.toNatClampNeg 0) τ2))) (fun r2 τ2 => some (some (some (.inl r2)), (put (sgC 45 23) (wr (put (sg2 57 32 11) σ τ1) 61 x1.toNatClampNeg 0) τ2)))) else none))) := (lock_ap _ _).trans (e0_X6_finishOfOthers bigM x1 σ)
set_option maxRecDepth 20000 in
theorem e0_X6_finishWithoutIron (n : Nat) (x1 : Int32) (σ : Mm) : sem0 t_X6_finishWithoutIron cs_X6_finishWithoutIron 2 n [.inr (.inl 0), .inl x1] σ =
  (onV (f_X6_requireIron [.inr (.inl 0), .inl x1] σ) (fun τ1 => some (none, τ1)) (fun τ1 =>
  (onI (f_X6_finishOfOthers [.inr (.inl 0), .inl x1] τ1) (fun τ2 => some (none, τ2)) (fun r2 τ2 =>
  some (some (some (.inl r2)), τ2))))) := (onV_cg (fun _ => rfl) (fun τ1 => (onI_cg (fun _ => rfl) (fun r2 τ2 => rfl))))
theorem e_X6_finishWithoutIron (x1 : Int32) (σ : Mm) : f_X6_finishWithoutIron [.inr (.inl 0), .inl x1] σ = (onV (f_X6_requireIron [.inr (.inl 0), .inl x1] σ) (fun τ1 => some (none, τ1)) (fun τ1 => (onI (f_X6_finishOfOthers [.inr (.inl 0), .inl x1] τ1) (fun τ2 => some (none, τ2)) (fun r2 τ2 => some (some (some (.inl r2)), τ2))))) := (lock_ap _ _).trans (e0_X6_finishWithoutIron bigM x1 σ)
noncomputable def b_X6_finishAlone_18 (n : Nat) (x1 x2 : Int32) (σ : Mm) : Option Ou := rn t_X6_finishAlone cs_X6_finishAlone n 18 [(0, .inr (.inl 0)), (1, .inl x1), (2, .inl x2)] [] σ
set_option maxRecDepth 20000 in
theorem e_X6_finishAlone_18 (n : Nat) (x1 x2 : Int32) (σ : Mm) : b_X6_finishAlone_18 (n + 1) x1 x2 σ =
  (if x2 < (σ 57 0) then
    (if x2 = x1 then
      (b_X6_finishAlone_18 n x1 (x2 + 1) σ)
    else
      (if inb x2 6 = true then
      (b_X6_finishAlone_18 n x1 (x2 + 1) (wr σ 61 x2.toNatClampNeg 0))
      else none))
  else
    (onI (f_X5_endWithin [.inr (.inl 0), .inl 480] (pk (sgC 45 23) σ)) (fun τ1 => some (none, (put (sgC 45 23) σ τ1))) (fun r1 τ1 =>
    some (some (some (.inl r1)), (put (sgC 45 23) σ τ1))))) := (if_cg (if_cg rfl (if_cg rfl rfl)) (onI_cg (fun _ => rfl) (fun r1 τ1 => rfl)))
set_option maxRecDepth 20000 in
theorem e0_X6_finishAlone (n : Nat) (x1 : Int32) (σ : Mm) : sem0 t_X6_finishAlone cs_X6_finishAlone 3 n [.inr (.inl 0), .inl x1] σ =
  (onV (f_X6_requireIron [.inr (.inl 0), .inl x1] σ) (fun τ1 => some (none, τ1)) (fun τ1 =>
  (onV (f_X2_copyFrom [.inr (.inl 0), .inr (.inl 11)] (pk (sg2 57 32 11) τ1)) (fun τ2 => some (none, (put (sg2 57 32 11) τ1 τ2))) (fun τ2 =>
  (b_X6_finishAlone_18 n x1 0 (put (sg2 57 32 11) τ1 τ2)))))) := (onV_cg (fun _ => rfl) (fun τ1 => (onV_cg (fun _ => rfl) (fun τ2 => rfl))))
theorem e_X6_finishAlone (x1 : Int32) (σ : Mm) : f_X6_finishAlone [.inr (.inl 0), .inl x1] σ = (onV (f_X6_requireIron [.inr (.inl 0), .inl x1] σ) (fun τ1 => some (none, τ1)) (fun τ1 => (onV (f_X2_copyFrom [.inr (.inl 0), .inr (.inl 11)] (pk (sg2 57 32 11) τ1)) (fun τ2 => some (none, (put (sg2 57 32 11) τ1 τ2))) (fun τ2 => (b_X6_finishAlone_18 bigM x1 0 (put (sg2 57 32 11) τ1 τ2)))))) := (lock_ap _ _).trans (e0_X6_finishAlone bigM x1 σ)
noncomputable def b_X6_orderCode_4 (n : Nat) (x1 x2 : Int32) (σ : Mm) : Option Ou := rn t_X6_orderCode cs_X6_orderCode n 4 [(0, .inr (.inl 0)), (1, .inl x1), (2, .inl x2)] [] σ
set_option maxRecDepth 20000 in
theorem e_X6_orderCode_4 (n : Nat) (x1 x2 : Int32) (σ : Mm) : b_X6_orderCode_4 (n + 1) x1 x2 σ =
  (if x2 < (σ 32 0) then
    (if inb x2 6 = true then
    (b_X6_orderCode_4 n (x1 ||| (((σ 42 x2.toNatClampNeg) + 1) <<< ((3 * x2) &&& 31))) (x2 + 1) σ)
    else none)
  else
    some (some (some (.inl x1)), σ)) := (if_cg (if_cg rfl rfl) rfl)
set_option maxRecDepth 20000 in
theorem e0_X6_orderCode (n : Nat) (σ : Mm) : sem0 t_X6_orderCode cs_X6_orderCode 3 n [.inr (.inl 0)] σ =
  (b_X6_orderCode_4 n 0 0 σ) := rfl
theorem e_X6_orderCode (σ : Mm) : f_X6_orderCode [.inr (.inl 0)] σ = (b_X6_orderCode_4 bigM 0 0 σ) := (lock_ap _ _).trans (e0_X6_orderCode bigM σ)
set_option maxRecDepth 20000 in
theorem e0_X6_rackMinutes (n : Nat) (x1 : Int32) (σ : Mm) : sem0 t_X6_rackMinutes cs_X6_rackMinutes 2 n [.inr (.inl 0), .inl x1] σ =
  (onV (f_X6_requireIron [.inr (.inl 0), .inl x1] σ) (fun τ1 => some (none, τ1)) (fun τ1 =>
  (onA (f_X6_presentLog [.inr (.inl 0)] τ1) 16 (fun τ2 => some (none, τ2)) (fun τ2 =>
  (if inb x1 6 = true then
  (onI (f_X3_minutesOnRack [.inr (.inl 0), .inl x1, .inl (τ2 36 x1.toNatClampNeg)] (pk (sgC 16 27) τ2)) (fun τ3 => some (none, (put (sgC 16 27) τ2 τ3))) (fun r3 τ3 =>
  some (some (some (.inl r3)), (put (sgC 16 27) τ2 τ3))))
  else none))))) := (onV_cg (fun _ => rfl) (fun τ1 => (onA_cg (fun _ => rfl) (fun τ2 => (if_cg (onI_cg (fun _ => rfl) (fun r3 τ3 => rfl)) rfl)))))
theorem e_X6_rackMinutes (x1 : Int32) (σ : Mm) : f_X6_rackMinutes [.inr (.inl 0), .inl x1] σ = (onV (f_X6_requireIron [.inr (.inl 0), .inl x1] σ) (fun τ1 => some (none, τ1)) (fun τ1 => (onA (f_X6_presentLog [.inr (.inl 0)] τ1) 16 (fun τ2 => some (none, τ2)) (fun τ2 => (if inb x1 6 = true then (onI (f_X3_minutesOnRack [.inr (.inl 0), .inl x1, .inl (τ2 36 x1.toNatClampNeg)] (pk (sgC 16 27) τ2)) (fun τ3 => some (none, (put (sgC 16 27) τ2 τ3))) (fun r3 τ3 => some (some (some (.inl r3)), (put (sgC 16 27) τ2 τ3)))) else none))))) := (lock_ap _ _).trans (e0_X6_rackMinutes bigM x1 σ)
set_option maxRecDepth 20000 in
theorem e0_X6_firstWork (n : Nat) (x1 : Int32) (σ : Mm) : sem0 t_X6_firstWork cs_X6_firstWork 2 n [.inr (.inl 0), .inl x1] σ =
  (onV (f_X6_requireIron [.inr (.inl 0), .inl x1] σ) (fun τ1 => some (none, τ1)) (fun τ1 =>
  (onA (f_X6_presentLog [.inr (.inl 0)] τ1) 16 (fun τ2 => some (none, τ2)) (fun τ2 =>
  (onI (f_X3_firstOnAnvil [.inr (.inl 0), .inl x1] (pk (sgC 16 27) τ2)) (fun τ3 => some (none, (put (sgC 16 27) τ2 τ3))) (fun r3 τ3 =>
  some (some (some (.inl r3)), (put (sgC 16 27) τ2 τ3)))))))) := (onV_cg (fun _ => rfl) (fun τ1 => (onA_cg (fun _ => rfl) (fun τ2 => (onI_cg (fun _ => rfl) (fun r3 τ3 => rfl))))))
theorem e_X6_firstWork (x1 : Int32) (σ : Mm) : f_X6_firstWork [.inr (.inl 0), .inl x1] σ = (onV (f_X6_requireIron [.inr (.inl 0), .inl x1] σ) (fun τ1 => some (none, τ1)) (fun τ1 => (onA (f_X6_presentLog [.inr (.inl 0)] τ1) 16 (fun τ2 => some (none, τ2)) (fun τ2 => (onI (f_X3_firstOnAnvil [.inr (.inl 0), .inl x1] (pk (sgC 16 27) τ2)) (fun τ3 => some (none, (put (sgC 16 27) τ2 τ3))) (fun r3 τ3 => some (some (some (.inl r3)), (put (sgC 16 27) τ2 τ3)))))))) := (lock_ap _ _).trans (e0_X6_firstWork bigM x1 σ)
set_option maxRecDepth 20000 in
theorem e0_X6_ironInPlace (n : Nat) (x1 x2 : Int32) (σ : Mm) : sem0 t_X6_ironInPlace cs_X6_ironInPlace 3 n [.inr (.inl 0), .inl x1, .inl x2] σ =
  (onV (f_X6_requirePlace [.inr (.inl 0), .inl x1] σ) (fun τ1 => some (none, τ1)) (fun τ1 =>
  (onI (f_X6_isMinute [.inl x2] (pk (sg0) τ1)) (fun τ2 => some (none, (put (sg0) τ1 τ2))) (fun r2 τ2 =>
  (if r2 = 0 then
    some (some (some (.inl (-2))), (put (sg0) τ1 τ2))
  else
    (onA (f_X6_presentLog [.inr (.inl 0)] (put (sg0) τ1 τ2)) 16 (fun τ3 => some (none, τ3)) (fun τ3 =>
    (onI (f_X3_ironOnSpot [.inr (.inl 0), .inl (1 + x1), .inl x2] (pk (sgC 16 27) τ3)) (fun τ4 => some (none, (put (sgC 16 27) τ3 τ4))) (fun r4 τ4 =>
    some (some (some (.inl r4)), (put (sgC 16 27) τ3 τ4))))))))))) := (onV_cg (fun _ => rfl) (fun τ1 => (onI_cg (fun _ => rfl) (fun r2 τ2 => (if_cg rfl (onA_cg (fun _ => rfl) (fun τ3 => (onI_cg (fun _ => rfl) (fun r4 τ4 => rfl)))))))))
theorem e_X6_ironInPlace (x1 x2 : Int32) (σ : Mm) : f_X6_ironInPlace [.inr (.inl 0), .inl x1, .inl x2] σ = (onV (f_X6_requirePlace [.inr (.inl 0), .inl x1] σ) (fun τ1 => some (none, τ1)) (fun τ1 => (onI (f_X6_isMinute [.inl x2] (pk (sg0) τ1)) (fun τ2 => some (none, (put (sg0) τ1 τ2))) (fun r2 τ2 => (if r2 = 0 then some (some (some (.inl (-2))), (put (sg0) τ1 τ2)) else (onA (f_X6_presentLog [.inr (.inl 0)] (put (sg0) τ1 τ2)) 16 (fun τ3 => some (none, τ3)) (fun τ3 => (onI (f_X3_ironOnSpot [.inr (.inl 0), .inl (1 + x1), .inl x2] (pk (sgC 16 27) τ3)) (fun τ4 => some (none, (put (sgC 16 27) τ3 τ4))) (fun r4 τ4 => some (some (some (.inl r4)), (put (sgC 16 27) τ3 τ4))))))))))) := (lock_ap _ _).trans (e0_X6_ironInPlace bigM x1 x2 σ)
set_option maxRecDepth 20000 in
theorem e0_X6_ironOnAnvil (n : Nat) (x1 x2 : Int32) (σ : Mm) : sem0 t_X6_ironOnAnvil cs_X6_ironOnAnvil 3 n [.inr (.inl 0), .inl x1, .inl x2] σ =
  (onV (f_X6_requireAnvil [.inr (.inl 0), .inl x1] σ) (fun τ1 => some (none, τ1)) (fun τ1 =>
  (onI (f_X6_isMinute [.inl x2] (pk (sg0) τ1)) (fun τ2 => some (none, (put (sg0) τ1 τ2))) (fun r2 τ2 =>
  (if r2 = 0 then
    some (some (some (.inl (-2))), (put (sg0) τ1 τ2))
  else
    (onA (f_X6_presentLog [.inr (.inl 0)] (put (sg0) τ1 τ2)) 16 (fun τ3 => some (none, τ3)) (fun τ3 =>
    (onI (f_X3_ironOnSpot [.inr (.inl 0), .inl (10 + x1), .inl x2] (pk (sgC 16 27) τ3)) (fun τ4 => some (none, (put (sgC 16 27) τ3 τ4))) (fun r4 τ4 =>
    some (some (some (.inl r4)), (put (sgC 16 27) τ3 τ4))))))))))) := (onV_cg (fun _ => rfl) (fun τ1 => (onI_cg (fun _ => rfl) (fun r2 τ2 => (if_cg rfl (onA_cg (fun _ => rfl) (fun τ3 => (onI_cg (fun _ => rfl) (fun r4 τ4 => rfl)))))))))
theorem e_X6_ironOnAnvil (x1 x2 : Int32) (σ : Mm) : f_X6_ironOnAnvil [.inr (.inl 0), .inl x1, .inl x2] σ = (onV (f_X6_requireAnvil [.inr (.inl 0), .inl x1] σ) (fun τ1 => some (none, τ1)) (fun τ1 => (onI (f_X6_isMinute [.inl x2] (pk (sg0) τ1)) (fun τ2 => some (none, (put (sg0) τ1 τ2))) (fun r2 τ2 => (if r2 = 0 then some (some (some (.inl (-2))), (put (sg0) τ1 τ2)) else (onA (f_X6_presentLog [.inr (.inl 0)] (put (sg0) τ1 τ2)) 16 (fun τ3 => some (none, τ3)) (fun τ3 => (onI (f_X3_ironOnSpot [.inr (.inl 0), .inl (10 + x1), .inl x2] (pk (sgC 16 27) τ3)) (fun τ4 => some (none, (put (sgC 16 27) τ3 τ4))) (fun r4 τ4 => some (some (some (.inl r4)), (put (sgC 16 27) τ3 τ4))))))))))) := (lock_ap _ _).trans (e0_X6_ironOnAnvil bigM x1 x2 σ)
set_option maxRecDepth 20000 in
theorem e0_X6_finishedBy (n : Nat) (x1 : Int32) (σ : Mm) : sem0 t_X6_finishedBy cs_X6_finishedBy 2 n [.inr (.inl 0), .inl x1] σ =
  (onI (f_X6_isWithin [.inl x1, .inl 0, .inl 480] (pk (sg0) σ)) (fun τ1 => some (none, (put (sg0) σ τ1))) (fun r1 τ1 =>
  (if r1 = 0 then
    some (some (some (.inl (-2))), (put (sg0) σ τ1))
  else
    (onA (f_X6_presentLog [.inr (.inl 0)] (put (sg0) σ τ1)) 16 (fun τ2 => some (none, τ2)) (fun τ2 =>
    (onI (f_X3_finishedAfter [.inr (.inl 0), .inl x1] (pk (sgC 16 27) τ2)) (fun τ3 => some (none, (put (sgC 16 27) τ2 τ3))) (fun r3 τ3 =>
    some (some (some (.inl r3)), (put (sgC 16 27) τ2 τ3))))))))) := (onI_cg (fun _ => rfl) (fun r1 τ1 => (if_cg rfl (onA_cg (fun _ => rfl) (fun τ2 => (onI_cg (fun _ => rfl) (fun r3 τ3 => rfl)))))))
theorem e_X6_finishedBy (x1 : Int32) (σ : Mm) : f_X6_finishedBy [.inr (.inl 0), .inl x1] σ = (onI (f_X6_isWithin [.inl x1, .inl 0, .inl 480] (pk (sg0) σ)) (fun τ1 => some (none, (put (sg0) σ τ1))) (fun r1 τ1 => (if r1 = 0 then some (some (some (.inl (-2))), (put (sg0) σ τ1)) else (onA (f_X6_presentLog [.inr (.inl 0)] (put (sg0) σ τ1)) 16 (fun τ2 => some (none, τ2)) (fun τ2 => (onI (f_X3_finishedAfter [.inr (.inl 0), .inl x1] (pk (sgC 16 27) τ2)) (fun τ3 => some (none, (put (sgC 16 27) τ2 τ3))) (fun r3 τ3 => some (some (some (.inl r3)), (put (sgC 16 27) τ2 τ3))))))))) := (lock_ap _ _).trans (e0_X6_finishedBy bigM x1 σ)
set_option maxRecDepth 20000 in
theorem e0_X6_idleMinutes (n : Nat) (σ : Mm) : sem0 t_X6_idleMinutes cs_X6_idleMinutes 1 n [.inr (.inl 0)] σ =
  (onA (f_X6_presentLog [.inr (.inl 0)] σ) 16 (fun τ1 => some (none, τ1)) (fun τ1 =>
  (onI (f_X3_minutesIdle [.inr (.inl 0)] (pk (sgC 16 27) τ1)) (fun τ2 => some (none, (put (sgC 16 27) τ1 τ2))) (fun r2 τ2 =>
  some (some (some (.inl r2)), (put (sgC 16 27) τ1 τ2)))))) := (onA_cg (fun _ => rfl) (fun τ1 => (onI_cg (fun _ => rfl) (fun r2 τ2 => rfl))))
theorem e_X6_idleMinutes (σ : Mm) : f_X6_idleMinutes [.inr (.inl 0)] σ = (onA (f_X6_presentLog [.inr (.inl 0)] σ) 16 (fun τ1 => some (none, τ1)) (fun τ1 => (onI (f_X3_minutesIdle [.inr (.inl 0)] (pk (sgC 16 27) τ1)) (fun τ2 => some (none, (put (sgC 16 27) τ1 τ2))) (fun r2 τ2 => some (some (some (.inl r2)), (put (sgC 16 27) τ1 τ2)))))) := (lock_ap _ _).trans (e0_X6_idleMinutes bigM σ)
set_option maxRecDepth 20000 in
theorem e0_X6_finishWithAnvils (n : Nat) (x1 : Int32) (σ : Mm) : sem0 t_X6_finishWithAnvils cs_X6_finishWithAnvils 2 n [.inr (.inl 0), .inl x1] σ =
  (onI (f_X6_finishWithSetting [.inr (.inl 0), .inl 0, .inl x1] σ) (fun τ1 => some (none, τ1)) (fun r1 τ1 =>
  some (some (some (.inl r1)), τ1))) := (onI_cg (fun _ => rfl) (fun r1 τ1 => rfl))
theorem e_X6_finishWithAnvils (x1 : Int32) (σ : Mm) : f_X6_finishWithAnvils [.inr (.inl 0), .inl x1] σ = (onI (f_X6_finishWithSetting [.inr (.inl 0), .inl 0, .inl x1] σ) (fun τ1 => some (none, τ1)) (fun r1 τ1 => some (some (some (.inl r1)), τ1))) := (lock_ap _ _).trans (e0_X6_finishWithAnvils bigM x1 σ)
set_option maxRecDepth 20000 in
theorem e0_X6_bestRule (n : Nat) (σ : Mm) : sem0 t_X6_bestRule cs_X6_bestRule 1 n [.inr (.inl 0)] σ =
  (onI (f_X6_bestValue [.inr (.inl 0), .inl 2, .inl 1] σ) (fun τ1 => some (none, τ1)) (fun r1 τ1 =>
  some (some (some (.inl r1)), τ1))) := (onI_cg (fun _ => rfl) (fun r1 τ1 => rfl))
theorem e_X6_bestRule (σ : Mm) : f_X6_bestRule [.inr (.inl 0)] σ = (onI (f_X6_bestValue [.inr (.inl 0), .inl 2, .inl 1] σ) (fun τ1 => some (none, τ1)) (fun r1 τ1 => some (some (some (.inl r1)), τ1))) := (lock_ap _ _).trans (e0_X6_bestRule bigM σ)
set_option maxRecDepth 20000 in
theorem e0_X6_finishWithRate (n : Nat) (x1 x2 : Int32) (σ : Mm) : sem0 t_X6_finishWithRate cs_X6_finishWithRate 3 n [.inr (.inl 0), .inl x1, .inl x2] σ =
  (onV (f_X6_requirePlace [.inr (.inl 0), .inl x1] σ) (fun τ1 => some (none, τ1)) (fun τ1 =>
  (onI (f_X6_isWithin [.inl x2, .inl 1, .inl 2000] (pk (sg0) τ1)) (fun τ2 => some (none, (put (sg0) τ1 τ2))) (fun r2 τ2 =>
  (if r2 = 0 then
    some (some (some (.inl (-2))), (put (sg0) τ1 τ2))
  else
    (onV (f_X2_copyFrom [.inr (.inl 0), .inr (.inl 11)] (pk (sg2 57 32 11) (put (sg0) τ1 τ2))) (fun τ3 => some (none, (put (sg2 57 32 11) (put (sg0) τ1 τ2) τ3))) (fun τ3 =>
    (if inb x1 3 = true then
    (onI (f_X5_endWithin [.inr (.inl 0), .inl 480] (pk (sgC 45 23) (wr (put (sg2 57 32 11) (put (sg0) τ1 τ2) τ3) 64 x1.toNatClampNeg x2))) (fun τ4 => some (none, (put (sgC 45 23) (wr (put (sg2 57 32 11) (put (sg0) τ1 τ2) τ3) 64 x1.toNatClampNeg x2) τ4))) (fun r4 τ4 =>
    some (some (some (.inl r4)), (put (sgC 45 23) (wr (put (sg2 57 32 11) (put (sg0) τ1 τ2) τ3) 64 x1.toNatClampNeg x2) τ4))))
    else none)))))))) := (onV_cg (fun _ => rfl) (fun τ1 => (onI_cg (fun _ => rfl) (fun r2 τ2 => (if_cg rfl (onV_cg (fun _ => rfl) (fun τ3 => (if_cg (onI_cg (fun _ => rfl) (fun r4 τ4 => rfl)) rfl))))))))
theorem e_X6_finishWithRate (x1 x2 : Int32) (σ : Mm) : f_X6_finishWithRate [.inr (.inl 0), .inl x1, .inl x2] σ = (onV (f_X6_requirePlace [.inr (.inl 0), .inl x1] σ) (fun τ1 => some (none, τ1)) (fun τ1 => (onI (f_X6_isWithin [.inl x2, .inl 1, .inl 2000] (pk (sg0) τ1)) (fun τ2 => some (none, (put (sg0) τ1 τ2))) (fun r2 τ2 => (if r2 = 0 then some (some (some (.inl (-2))), (put (sg0) τ1 τ2)) else (onV (f_X2_copyFrom [.inr (.inl 0), .inr (.inl 11)] (pk (sg2 57 32 11) (put (sg0) τ1 τ2))) (fun τ3 => some (none, (put (sg2 57 32 11) (put (sg0) τ1 τ2) τ3))) (fun τ3 => (if inb x1 3 = true then (onI (f_X5_endWithin [.inr (.inl 0), .inl 480] (pk (sgC 45 23) (wr (put (sg2 57 32 11) (put (sg0) τ1 τ2) τ3) 64 x1.toNatClampNeg x2))) (fun τ4 => some (none, (put (sgC 45 23) (wr (put (sg2 57 32 11) (put (sg0) τ1 τ2) τ3) 64 x1.toNatClampNeg x2) τ4))) (fun r4 τ4 => some (some (some (.inl r4)), (put (sgC 45 23) (wr (put (sg2 57 32 11) (put (sg0) τ1 τ2) τ3) 64 x1.toNatClampNeg x2) τ4)))) else none)))))))) := (lock_ap _ _).trans (e0_X6_finishWithRate bigM x1 x2 σ)
noncomputable def b_X6_leastRate_31 (n : Nat) (x1 x2 x3 : Int32) (σ : Mm) : Option Ou := rn t_X6_leastRate cs_X6_leastRate n 31 [(0, .inr (.inl 0)), (1, .inl x1), (2, .inl x2), (3, .inl x3)] [] σ
set_option maxRecDepth 20000 in
theorem e_X6_leastRate_31 (n : Nat) (x1 x2 x3 : Int32) (σ : Mm) : b_X6_leastRate_31 (n + 1) x1 x2 x3 σ =
  (if 2000 < x3 then
    some (some (some (.inl (-1))), σ)
  else
    (if inb x1 3 = true then
    (onI (f_X5_endWithin [.inr (.inl 0), .inl x2] (pk (sgC 45 23) (wr σ 64 x1.toNatClampNeg x3))) (fun τ1 => some (none, (put (sgC 45 23) (wr σ 64 x1.toNatClampNeg x3) τ1))) (fun r1 τ1 =>
    (if r1 = (-1) then
      (b_X6_leastRate_31 n x1 x2 (x3 + 20) (put (sgC 45 23) (wr σ 64 x1.toNatClampNeg x3) τ1))
    else
      some (some (some (.inl x3)), (put (sgC 45 23) (wr σ 64 x1.toNatClampNeg x3) τ1)))))
    else none)) := (if_cg rfl (if_cg (onI_cg (fun _ => rfl) (fun r1 τ1 => (if_cg rfl rfl))) rfl))
set_option maxRecDepth 20000 in
theorem e0_X6_leastRate (n : Nat) (x1 : Int32) (σ : Mm) : sem0 t_X6_leastRate cs_X6_leastRate 4 n [.inr (.inl 0), .inl x1] σ =
  (onV (f_X6_requirePlace [.inr (.inl 0), .inl x1] σ) (fun τ1 => some (none, τ1)) (fun τ1 =>
  (onI (f_X6_finish [.inr (.inl 0)] τ1) (fun τ2 => some (none, τ2)) (fun r2 τ2 =>
  (if r2 = (-1) then
    some (some (some (.inl (-1))), τ2)
  else
    (onV (f_X2_copyFrom [.inr (.inl 0), .inr (.inl 11)] (pk (sg2 57 32 11) τ2)) (fun τ3 => some (none, (put (sg2 57 32 11) τ2 τ3))) (fun τ3 =>
    (b_X6_leastRate_31 n x1 r2 20 (put (sg2 57 32 11) τ2 τ3))))))))) := (onV_cg (fun _ => rfl) (fun τ1 => (onI_cg (fun _ => rfl) (fun r2 τ2 => (if_cg rfl (onV_cg (fun _ => rfl) (fun τ3 => rfl)))))))
theorem e_X6_leastRate (x1 : Int32) (σ : Mm) : f_X6_leastRate [.inr (.inl 0), .inl x1] σ = (onV (f_X6_requirePlace [.inr (.inl 0), .inl x1] σ) (fun τ1 => some (none, τ1)) (fun τ1 => (onI (f_X6_finish [.inr (.inl 0)] τ1) (fun τ2 => some (none, τ2)) (fun r2 τ2 => (if r2 = (-1) then some (some (some (.inl (-1))), τ2) else (onV (f_X2_copyFrom [.inr (.inl 0), .inr (.inl 11)] (pk (sg2 57 32 11) τ2)) (fun τ3 => some (none, (put (sg2 57 32 11) τ2 τ3))) (fun τ3 => (b_X6_leastRate_31 bigM x1 r2 20 (put (sg2 57 32 11) τ2 τ3))))))))) := (lock_ap _ _).trans (e0_X6_leastRate bigM x1 σ)
noncomputable def b_X6_criticalIrons_9 (n : Nat) (x1 x2 x3 : Int32) (σ : Mm) : Option Ou := rn t_X6_criticalIrons cs_X6_criticalIrons n 9 [(0, .inr (.inl 0)), (1, .inl x1), (2, .inl x2), (3, .inl x3)] [] σ
set_option maxRecDepth 20000 in
theorem e_X6_criticalIrons_9 (n : Nat) (x1 x2 x3 : Int32) (σ : Mm) : b_X6_criticalIrons_9 (n + 1) x1 x2 x3 σ =
  (if x1 = (-1) then
    some (some (some (.inl x2)), σ)
  else
    (if x3 < (σ 32 0) then
      (onI (f_X6_finishOfOthers [.inr (.inl 0), .inl x3] σ) (fun τ1 => some (none, τ1)) (fun r1 τ1 =>
      (if r1 = (-1) then
        (b_X6_criticalIrons_9 n x1 x2 (x3 + 1) τ1)
      else
        (if r1 < x1 then
          (b_X6_criticalIrons_9 n x1 (x2 ||| (1 <<< (x3 &&& 31))) (x3 + 1) τ1)
        else
          (b_X6_criticalIrons_9 n x1 x2 (x3 + 1) τ1)))))
    else
      some (some (some (.inl x2)), σ))) := (if_cg rfl (if_cg (onI_cg (fun _ => rfl) (fun r1 τ1 => (if_cg rfl (if_cg rfl rfl)))) rfl))
set_option maxRecDepth 20000 in
theorem e0_X6_criticalIrons (n : Nat) (σ : Mm) : sem0 t_X6_criticalIrons cs_X6_criticalIrons 5 n [.inr (.inl 0)] σ =
  (onI (f_X6_finish [.inr (.inl 0)] σ) (fun τ1 => some (none, τ1)) (fun r1 τ1 =>
  (b_X6_criticalIrons_9 n r1 0 0 τ1))) := (onI_cg (fun _ => rfl) (fun r1 τ1 => rfl))
theorem e_X6_criticalIrons (σ : Mm) : f_X6_criticalIrons [.inr (.inl 0)] σ = (onI (f_X6_finish [.inr (.inl 0)] σ) (fun τ1 => some (none, τ1)) (fun r1 τ1 => (b_X6_criticalIrons_9 bigM r1 0 0 τ1))) := (lock_ap _ _).trans (e0_X6_criticalIrons bigM σ)
