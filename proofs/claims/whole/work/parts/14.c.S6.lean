set_option maxRecDepth 20000 in
theorem e0_X6_isWithin (n : Nat) (x0 x1 x2 : Int32) (σ : Mm) : sem0 t_X6_isWithin cs_X6_isWithin 3 n [.inl x0, .inl x1, .inl x2] σ =
  (if x0 < x1 then
    some (some (some (.inl 0)), σ)
  else
    (if x2 < x0 then
      some (some (some (.inl 0)), σ)
    else
      some (some (some (.inl 1)), σ))) := (if_cg rfl (if_cg rfl rfl))
theorem e_X6_isWithin (x0 x1 x2 : Int32) (σ : Mm) : f_X6_isWithin [.inl x0, .inl x1, .inl x2] σ = (if x0 < x1 then some (some (some (.inl 0)), σ) else (if x2 < x0 then some (some (some (.inl 0)), σ) else some (some (some (.inl 1)), σ))) := (lock_ap _ _).trans (e0_X6_isWithin bigM x0 x1 x2 σ)
set_option maxRecDepth 20000 in
theorem e0_X6_isMinute (n : Nat) (x0 : Int32) (σ : Mm) : sem0 t_X6_isMinute cs_X6_isMinute 1 n [.inl x0] σ =
  (onI (f_X6_isWithin [.inl x0, .inl 0, .inl 479] σ) (fun τ1 => some (none, τ1)) (fun r1 τ1 =>
  (if r1 = 0 ∨ r1 = 1 then some (some (some (.inl r1)), τ1) else none))) := (onI_cg (fun _ => rfl) (fun r1 τ1 => rfl))
theorem e_X6_isMinute (x0 : Int32) (σ : Mm) : f_X6_isMinute [.inl x0] σ = (onI (f_X6_isWithin [.inl x0, .inl 0, .inl 479] σ) (fun τ1 => some (none, τ1)) (fun r1 τ1 => (if r1 = 0 ∨ r1 = 1 then some (some (some (.inl r1)), τ1) else none))) := (lock_ap _ _).trans (e0_X6_isMinute bigM x0 σ)
set_option maxRecDepth 20000 in
theorem e0_X6_isSetting (n : Nat) (x0 : Int32) (σ : Mm) : sem0 t_X6_isSetting cs_X6_isSetting 1 n [.inl x0] σ =
  (onI (f_X6_isWithin [.inl x0, .inl 0, .inl 2] σ) (fun τ1 => some (none, τ1)) (fun r1 τ1 =>
  (if r1 = 0 ∨ r1 = 1 then some (some (some (.inl r1)), τ1) else none))) := (onI_cg (fun _ => rfl) (fun r1 τ1 => rfl))
theorem e_X6_isSetting (x0 : Int32) (σ : Mm) : f_X6_isSetting [.inl x0] σ = (onI (f_X6_isWithin [.inl x0, .inl 0, .inl 2] σ) (fun τ1 => some (none, τ1)) (fun r1 τ1 => (if r1 = 0 ∨ r1 = 1 then some (some (some (.inl r1)), τ1) else none))) := (lock_ap _ _).trans (e0_X6_isSetting bigM x0 σ)
set_option maxRecDepth 20000 in
theorem e0_X6_isSettingValue (n : Nat) (x0 x1 : Int32) (σ : Mm) : sem0 t_X6_isSettingValue cs_X6_isSettingValue 2 n [.inl x0, .inl x1] σ =
  (onI (f_X6_isSetting [.inl x0] σ) (fun τ1 => some (none, τ1)) (fun r1 τ1 =>
  (if r1 = 0 then
    some (some (some (.inl 0)), τ1)
  else
    (if inb x0 3 = true then
    (if inb x0 3 = true then
    (onI (f_X6_isWithin [.inl x1, .inl (stv 0 x0.toNatClampNeg), .inl (stv 1 x0.toNatClampNeg)] τ1) (fun τ2 => some (none, τ2)) (fun r2 τ2 =>
    (if r2 = 0 then
      some (some (some (.inl 0)), τ2)
    else
      some (some (some (.inl 1)), τ2))))
    else none)
    else none)))) := (onI_cg (fun _ => rfl) (fun r1 τ1 => (if_cg rfl (if_cg (if_cg (onI_cg (fun _ => rfl) (fun r2 τ2 => (if_cg rfl rfl))) rfl) rfl))))
theorem e_X6_isSettingValue (x0 x1 : Int32) (σ : Mm) : f_X6_isSettingValue [.inl x0, .inl x1] σ = (onI (f_X6_isSetting [.inl x0] σ) (fun τ1 => some (none, τ1)) (fun r1 τ1 => (if r1 = 0 then some (some (some (.inl 0)), τ1) else (if inb x0 3 = true then (if inb x0 3 = true then (onI (f_X6_isWithin [.inl x1, .inl (stv 0 x0.toNatClampNeg), .inl (stv 1 x0.toNatClampNeg)] τ1) (fun τ2 => some (none, τ2)) (fun r2 τ2 => (if r2 = 0 then some (some (some (.inl 0)), τ2) else some (some (some (.inl 1)), τ2)))) else none) else none)))) := (lock_ap _ _).trans (e0_X6_isSettingValue bigM x0 x1 σ)
