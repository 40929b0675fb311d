set_option maxRecDepth 20000 in
theorem e0_X5_isFinished (n : Nat) (x1 : Int32) (σ : Mm) : sem0 t_X5_isFinished cs_X5_isFinished 2 n [.inr (.inl 0), .inl x1] σ =
  (if inb x1 6 = true then
  (if (σ 6 x1.toNatClampNeg) = 0 then
    some (some (some (.inl 1)), σ)
  else
    some (some (some (.inl 0)), σ))
  else none) := (if_cg (if_cg rfl rfl) rfl)
theorem e_X5_isFinished (x1 : Int32) (σ : Mm) : f_X5_isFinished [.inr (.inl 0), .inl x1] σ = (if inb x1 6 = true then (if (σ 6 x1.toNatClampNeg) = 0 then some (some (some (.inl 1)), σ) else some (some (some (.inl 0)), σ)) else none) := (lock_ap _ _).trans (e0_X5_isFinished bigM x1 σ)
set_option maxRecDepth 20000 in
theorem e0_X5_beginStep (n : Nat) (x1 : Int32) (σ : Mm) : sem0 t_X5_beginStep cs_X5_beginStep 3 n [.inr (.inl 0), .inl x1] σ =
  (if inb x1 6 = true then
  (if inb ((x1 * 5) + (σ 3 x1.toNatClampNeg)) 30 = true then
  (if inb x1 6 = true then
  (if inb ((x1 * 5) + (σ 3 x1.toNatClampNeg)) 30 = true then
  (if inb x1 6 = true then
  some (some none, (wr (wr σ 4 x1.toNatClampNeg (σ 18 ((x1 * 5) + (σ 3 x1.toNatClampNeg)).toNatClampNeg)) 5 x1.toNatClampNeg (σ 17 ((x1 * 5) + (σ 3 x1.toNatClampNeg)).toNatClampNeg)))
  else none)
  else none)
  else none)
  else none)
  else none) := (if_cg (if_cg (if_cg (if_cg (if_cg rfl rfl) rfl) rfl) rfl) rfl)
theorem e_X5_beginStep (x1 : Int32) (σ : Mm) : f_X5_beginStep [.inr (.inl 0), .inl x1] σ = (if inb x1 6 = true then (if inb ((x1 * 5) + (σ 3 x1.toNatClampNeg)) 30 = true then (if inb x1 6 = true then (if inb ((x1 * 5) + (σ 3 x1.toNatClampNeg)) 30 = true then (if inb x1 6 = true then some (some none, (wr (wr σ 4 x1.toNatClampNeg (σ 18 ((x1 * 5) + (σ 3 x1.toNatClampNeg)).toNatClampNeg)) 5 x1.toNatClampNeg (σ 17 ((x1 * 5) + (σ 3 x1.toNatClampNeg)).toNatClampNeg))) else none) else none) else none) else none) else none) := (lock_ap _ _).trans (e0_X5_beginStep bigM x1 σ)
set_option maxRecDepth 20000 in
theorem e0_X5_beginIron (n : Nat) (x1 : Int32) (σ : Mm) : sem0 t_X5_beginIron cs_X5_beginIron 2 n [.inr (.inl 0), .inl x1] σ =
  (if inb x1 6 = true then
  (if inb x1 6 = true then
  (if inb x1 6 = true then
  (if inb x1 6 = true then
  (if inb x1 6 = true then
  (onI (f_X2_minutesOfWork [.inr (.inl 0), .inl x1] (pk (sgC 12 11) (wr (wr (wr (wr (wr σ 1 x1.toNatClampNeg 20) 2 x1.toNatClampNeg 0) 3 x1.toNatClampNeg 0) 8 x1.toNatClampNeg 0) 9 x1.toNatClampNeg 0))) (fun τ1 => some (none, (put (sgC 12 11) (wr (wr (wr (wr (wr σ 1 x1.toNatClampNeg 20) 2 x1.toNatClampNeg 0) 3 x1.toNatClampNeg 0) 8 x1.toNatClampNeg 0) 9 x1.toNatClampNeg 0) τ1))) (fun r1 τ1 =>
  (if inb x1 6 = true then
  (onI (f_X5_isFinished [.inr (.inl 0), .inl x1] (wr (put (sgC 12 11) (wr (wr (wr (wr (wr σ 1 x1.toNatClampNeg 20) 2 x1.toNatClampNeg 0) 3 x1.toNatClampNeg 0) 8 x1.toNatClampNeg 0) 9 x1.toNatClampNeg 0) τ1) 6 x1.toNatClampNeg r1)) (fun τ2 => some (none, τ2)) (fun r2 τ2 =>
  (if r2 = 0 then
    (if inb x1 6 = true then
    (onV (f_X5_beginStep [.inr (.inl 0), .inl x1] (wr (wr τ2 7 x1.toNatClampNeg (-1)) 0 12 ((τ2 0 12) + 1))) (fun τ3 => some (none, τ3)) (fun τ3 =>
    some (some none, τ3)))
    else none)
  else
    (if inb x1 6 = true then
    some (some none, (wr τ2 7 x1.toNatClampNeg 0))
    else none))))
  else none)))
  else none)
  else none)
  else none)
  else none)
  else none) := (if_cg (if_cg (if_cg (if_cg (if_cg (onI_cg (fun _ => rfl) (fun r1 τ1 => (if_cg (onI_cg (fun _ => rfl) (fun r2 τ2 => (if_cg (if_cg (onV_cg (fun _ => rfl) (fun τ3 => rfl)) rfl) (if_cg rfl rfl)))) rfl))) rfl) rfl) rfl) rfl) rfl)
theorem e_X5_beginIron (x1 : Int32) (σ : Mm) : f_X5_beginIron [.inr (.inl 0), .inl x1] σ = (if inb x1 6 = true then (if inb x1 6 = true then (if inb x1 6 = true then (if inb x1 6 = true then (if inb x1 6 = true then (onI (f_X2_minutesOfWork [.inr (.inl 0), .inl x1] (pk (sgC 12 11) (wr (wr (wr (wr (wr σ 1 x1.toNatClampNeg 20) 2 x1.toNatClampNeg 0) 3 x1.toNatClampNeg 0) 8 x1.toNatClampNeg 0) 9 x1.toNatClampNeg 0))) (fun τ1 => some (none, (put (sgC 12 11) (wr (wr (wr (wr (wr σ 1 x1.toNatClampNeg 20) 2 x1.toNatClampNeg 0) 3 x1.toNatClampNeg 0) 8 x1.toNatClampNeg 0) 9 x1.toNatClampNeg 0) τ1))) (fun r1 τ1 => (if inb x1 6 = true then (onI (f_X5_isFinished [.inr (.inl 0), .inl x1] (wr (put (sgC 12 11) (wr (wr (wr (wr (wr σ 1 x1.toNatClampNeg 20) 2 x1.toNatClampNeg 0) 3 x1.toNatClampNeg 0) 8 x1.toNatClampNeg 0) 9 x1.toNatClampNeg 0) τ1) 6 x1.toNatClampNeg r1)) (fun τ2 => some (none, τ2)) (fun r2 τ2 => (if r2 = 0 then (if inb x1 6 = true then (onV (f_X5_beginStep [.inr (.inl 0), .inl x1] (wr (wr τ2 7 x1.toNatClampNeg (-1)) 0 12 ((τ2 0 12) + 1))) (fun τ3 => some (none, τ3)) (fun τ3 => some (some none, τ3))) else none) else (if inb x1 6 = true then some (some none, (wr τ2 7 x1.toNatClampNeg 0)) else none)))) else none))) else none) else none) else none) else none) else none) := (lock_ap _ _).trans (e0_X5_beginIron bigM x1 σ)
noncomputable def b_X5_begin_7 (n : Nat) (x1 : Int32) (σ : Mm) : Option Ou := rn t_X5_begin cs_X5_begin n 7 [(0, .inr (.inl 0)), (1, .inl x1)] [] σ
noncomputable def b_X5_begin_27 (n : Nat) (x1 : Int32) (σ : Mm) : Option Ou := rn t_X5_begin cs_X5_begin n 27 [(0, .inr (.inl 0)), (1, .inl x1)] [] σ
noncomputable def b_X5_begin_47 (n : Nat) (x1 : Int32) (σ : Mm) : Option Ou := rn t_X5_begin cs_X5_begin n 47 [(0, .inr (.inl 0)), (1, .inl x1)] [] σ
set_option maxRecDepth 20000 in
theorem e_X5_begin_7 (n : Nat) (x1 : Int32) (σ : Mm) : b_X5_begin_7 (n + 1) x1 σ =
  (if x1 < 3 then
    (if inb x1 3 = true then
    (b_X5_begin_7 n (x1 + 1) (wr σ 10 x1.toNatClampNeg (-1)))
    else none)
  else
    (b_X5_begin_27 n 0 σ)) := (if_cg (if_cg rfl rfl) rfl)
set_option maxRecDepth 20000 in
theorem e_X5_begin_27 (n : Nat) (x1 : Int32) (σ : Mm) : b_X5_begin_27 (n + 1) x1 σ =
  (if x1 < 3 then
    (if inb x1 3 = true then
    (b_X5_begin_27 n (x1 + 1) (wr σ 11 x1.toNatClampNeg (-1)))
    else none)
  else
    (b_X5_begin_47 n 0 σ)) := (if_cg (if_cg rfl rfl) rfl)
set_option maxRecDepth 20000 in
theorem e_X5_begin_47 (n : Nat) (x1 : Int32) (σ : Mm) : b_X5_begin_47 (n + 1) x1 σ =
  (if x1 < (σ 12 0) then
    (onV (f_X5_beginIron [.inr (.inl 0), .inl x1] σ) (fun τ1 => some (none, τ1)) (fun τ1 =>
    (b_X5_begin_47 n (x1 + 1) τ1)))
  else
    some (some none, σ)) := (if_cg (onV_cg (fun _ => rfl) (fun τ1 => rfl)) rfl)
set_option maxRecDepth 20000 in
theorem e0_X5_begin (n : Nat) (σ : Mm) : sem0 t_X5_begin cs_X5_begin 2 n [.inr (.inl 0)] σ =
  (b_X5_begin_7 n 0 (wr σ 0 12 0)) := rfl
theorem e_X5_begin (σ : Mm) : f_X5_begin [.inr (.inl 0)] σ = (b_X5_begin_7 bigM 0 (wr σ 0 12 0)) := (lock_ap _ _).trans (e0_X5_begin bigM σ)
set_option maxRecDepth 20000 in
theorem e0_X5_putOnRack (n : Nat) (x1 x2 : Int32) (σ : Mm) : sem0 t_X5_putOnRack cs_X5_putOnRack 3 n [.inr (.inl 0), .inl x1, .inl x2] σ =
  (if inb x2 3 = true then
  (if inb x1 6 = true then
  some (some none, (wr (wr σ 10 x2.toNatClampNeg (-1)) 2 x1.toNatClampNeg 0))
  else none)
  else none) := (if_cg (if_cg rfl rfl) rfl)
theorem e_X5_putOnRack (x1 x2 : Int32) (σ : Mm) : f_X5_putOnRack [.inr (.inl 0), .inl x1, .inl x2] σ = (if inb x2 3 = true then (if inb x1 6 = true then some (some none, (wr (wr σ 10 x2.toNatClampNeg (-1)) 2 x1.toNatClampNeg 0)) else none) else none) := (lock_ap _ _).trans (e0_X5_putOnRack bigM x1 x2 σ)
noncomputable def b_X5_clearAnvils_2 (n : Nat) (x1 : Int32) (σ : Mm) : Option Ou := rn t_X5_clearAnvils cs_X5_clearAnvils n 2 [(0, .inr (.inl 0)), (1, .inl x1)] [] σ
set_option maxRecDepth 20000 in
theorem e_X5_clearAnvils_2 (n : Nat) (x1 : Int32) (σ : Mm) : b_X5_clearAnvils_2 (n + 1) x1 σ =
  (if x1 < (σ 21 0) then
    (if inb x1 3 = true then
    (if (σ 10 x1.toNatClampNeg) = (-1) then
      (b_X5_clearAnvils_2 n (x1 + 1) σ)
    else
      (onI (f_X5_isFinished [.inr (.inl 0), .inl (σ 10 x1.toNatClampNeg)] σ) (fun τ1 => some (none, τ1)) (fun r1 τ1 =>
      (if r1 = 0 then
        (if inb (σ 10 x1.toNatClampNeg) 6 = true then
        (if inb (σ 10 x1.toNatClampNeg) 6 = true then
        (if (τ1 1 (σ 10 x1.toNatClampNeg).toNatClampNeg) < (τ1 5 (σ 10 x1.toNatClampNeg).toNatClampNeg) then
          (onV (f_X5_putOnRack [.inr (.inl 0), .inl (σ 10 x1.toNatClampNeg), .inl x1] τ1) (fun τ2 => some (none, τ2)) (fun τ2 =>
          (if inb (σ 10 x1.toNatClampNeg) 6 = true then
          (if inb (σ 10 x1.toNatClampNeg) 6 = true then
          (b_X5_clearAnvils_2 n (x1 + 1) (wr τ2 8 (σ 10 x1.toNatClampNeg).toNatClampNeg ((τ2 8 (σ 10 x1.toNatClampNeg).toNatClampNeg) + 1)))
          else none)
          else none)))
        else
          (b_X5_clearAnvils_2 n (x1 + 1) τ1))
        else none)
        else none)
      else
        (onV (f_X5_putOnRack [.inr (.inl 0), .inl (σ 10 x1.toNatClampNeg), .inl x1] τ1) (fun τ2 => some (none, τ2)) (fun τ2 =>
        (b_X5_clearAnvils_2 n (x1 + 1) τ2)))))))
    else none)
  else
    some (some none, σ)) := (if_cg (if_cg (if_cg rfl (onI_cg (fun _ => rfl) (fun r1 τ1 => (if_cg (if_cg (if_cg (if_cg (onV_cg (fun _ => rfl) (fun τ2 => (if_cg (if_cg rfl rfl) rfl))) rfl) rfl) rfl) (onV_cg (fun _ => rfl) (fun τ2 => rfl)))))) rfl) rfl)
set_option maxRecDepth 20000 in
theorem e0_X5_clearAnvils (n : Nat) (σ : Mm) : sem0 t_X5_clearAnvils cs_X5_clearAnvils 3 n [.inr (.inl 0)] σ =
  (b_X5_clearAnvils_2 n 0 σ) := rfl
theorem e_X5_clearAnvils (σ : Mm) : f_X5_clearAnvils [.inr (.inl 0)] σ = (b_X5_clearAnvils_2 bigM 0 σ) := (lock_ap _ _).trans (e0_X5_clearAnvils bigM σ)
set_option maxRecDepth 20000 in
theorem e0_X5_isReady (n : Nat) (x1 : Int32) (σ : Mm) : sem0 t_X5_isReady cs_X5_isReady 2 n [.inr (.inl 0), .inl x1] σ =
  (if inb x1 6 = true then
  (if 0 < (σ 6 x1.toNatClampNeg) then
    (if inb x1 6 = true then
    (if (σ 2 x1.toNatClampNeg) < 10 then
      (if inb x1 6 = true then
      (if inb x1 6 = true then
      (if (σ 1 x1.toNatClampNeg) < ((σ 5 x1.toNatClampNeg) + (σ 21 1)) then
        some (some (some (.inl 0)), σ)
      else
        some (some (some (.inl 1)), σ))
      else none)
      else none)
    else
      some (some (some (.inl 0)), σ))
    else none)
  else
    some (some (some (.inl 0)), σ))
  else none) := (if_cg (if_cg (if_cg (if_cg (if_cg (if_cg (if_cg rfl rfl) rfl) rfl) rfl) rfl) rfl) rfl)
theorem e_X5_isReady (x1 : Int32) (σ : Mm) : f_X5_isReady [.inr (.inl 0), .inl x1] σ = (if inb x1 6 = true then (if 0 < (σ 6 x1.toNatClampNeg) then (if inb x1 6 = true then (if (σ 2 x1.toNatClampNeg) < 10 then (if inb x1 6 = true then (if inb x1 6 = true then (if (σ 1 x1.toNatClampNeg) < ((σ 5 x1.toNatClampNeg) + (σ 21 1)) then some (some (some (.inl 0)), σ) else some (some (some (.inl 1)), σ)) else none) else none) else some (some (some (.inl 0)), σ)) else none) else some (some (some (.inl 0)), σ)) else none) := (lock_ap _ _).trans (e0_X5_isReady bigM x1 σ)
set_option maxRecDepth 20000 in
theorem e0_X5_goesBefore (n : Nat) (x1 x2 : Int32) (σ : Mm) : sem0 t_X5_goesBefore cs_X5_goesBefore 3 n [.inr (.inl 0), .inl x1, .inl x2] σ =
  (if (σ 21 2) = 1 then (if inb x1 6 = true then
    (if inb x2 6 = true then
    (if (σ 1 x2.toNatClampNeg) < (σ 1 x1.toNatClampNeg) then
      some (some (some (.inl 1)), σ)
    else
      some (some (some (.inl 0)), σ))
    else none)
    else none) else (if (σ 21 2) = 2 then (if inb x1 6 = true then
    (if inb x2 6 = true then
    (if (σ 6 x1.toNatClampNeg) < (σ 6 x2.toNatClampNeg) then
      some (some (some (.inl 1)), σ)
    else
      some (some (some (.inl 0)), σ))
    else none)
    else none) else some (some (some (.inl 0)), σ))) := (if_cg (if_cg (if_cg (if_cg rfl rfl) rfl) rfl) (if_cg (if_cg (if_cg (if_cg rfl rfl) rfl) rfl) rfl))
theorem e_X5_goesBefore (x1 x2 : Int32) (σ : Mm) : f_X5_goesBefore [.inr (.inl 0), .inl x1, .inl x2] σ = (if (σ 21 2) = 1 then (if inb x1 6 = true then (if inb x2 6 = true then (if (σ 1 x2.toNatClampNeg) < (σ 1 x1.toNatClampNeg) then some (some (some (.inl 1)), σ) else some (some (some (.inl 0)), σ)) else none) else none) else (if (σ 21 2) = 2 then (if inb x1 6 = true then (if inb x2 6 = true then (if (σ 6 x1.toNatClampNeg) < (σ 6 x2.toNatClampNeg) then some (some (some (.inl 1)), σ) else some (some (some (.inl 0)), σ)) else none) else none) else some (some (some (.inl 0)), σ))) := (lock_ap _ _).trans (e0_X5_goesBefore bigM x1 x2 σ)
noncomputable def b_X5_chooseReady_4 (n : Nat) (x1 x2 : Int32) (σ : Mm) : Option Ou := rn t_X5_chooseReady cs_X5_chooseReady n 4 [(0, .inr (.inl 0)), (1, .inl x1), (2, .inl x2)] [] σ
set_option maxRecDepth 20000 in
theorem e_X5_chooseReady_4 (n : Nat) (x1 x2 : Int32) (σ : Mm) : b_X5_chooseReady_4 (n + 1) x1 x2 σ =
  (if x2 < (σ 12 0) then
    (if inb x2 6 = true then
    (onI (f_X5_isReady [.inr (.inl 0), .inl (σ 22 x2.toNatClampNeg)] σ) (fun τ1 => some (none, τ1)) (fun r1 τ1 =>
    (if r1 = 0 then
      (b_X5_chooseReady_4 n x1 (x2 + 1) τ1)
    else
      (if x1 = (-1) then
        (b_X5_chooseReady_4 n (σ 22 x2.toNatClampNeg) (x2 + 1) τ1)
      else
        (onI (f_X5_goesBefore [.inr (.inl 0), .inl (σ 22 x2.toNatClampNeg), .inl x1] τ1) (fun τ2 => some (none, τ2)) (fun r2 τ2 =>
        (if r2 = 0 then
          (b_X5_chooseReady_4 n x1 (x2 + 1) τ2)
        else
          (b_X5_chooseReady_4 n (σ 22 x2.toNatClampNeg) (x2 + 1) τ2))))))))
    else none)
  else
    some (some (some (.inl x1)), σ)) := (if_cg (if_cg (onI_cg (fun _ => rfl) (fun r1 τ1 => (if_cg rfl (if_cg rfl (onI_cg (fun _ => rfl) (fun r2 τ2 => (if_cg rfl rfl))))))) rfl) rfl)
set_option maxRecDepth 20000 in
theorem e0_X5_chooseReady (n : Nat) (σ : Mm) : sem0 t_X5_chooseReady cs_X5_chooseReady 4 n [.inr (.inl 0)] σ =
  (b_X5_chooseReady_4 n (-1) 0 σ) := rfl
theorem e_X5_chooseReady (σ : Mm) : f_X5_chooseReady [.inr (.inl 0)] σ = (b_X5_chooseReady_4 bigM (-1) 0 σ) := (lock_ap _ _).trans (e0_X5_chooseReady bigM σ)
set_option maxRecDepth 20000 in
theorem e0_X5_isInFire (n : Nat) (x1 : Int32) (σ : Mm) : sem0 t_X5_isInFire cs_X5_isInFire 2 n [.inr (.inl 0), .inl x1] σ =
  (if inb x1 6 = true then
  (if (σ 2 x1.toNatClampNeg) < 1 then
    some (some (some (.inl 0)), σ)
  else
    (if inb x1 6 = true then
    (if (σ 2 x1.toNatClampNeg) < 10 then
      some (some (some (.inl 1)), σ)
    else
      some (some (some (.inl 0)), σ))
    else none))
  else none) := (if_cg (if_cg rfl (if_cg (if_cg rfl rfl) rfl)) rfl)
theorem e_X5_isInFire (x1 : Int32) (σ : Mm) : f_X5_isInFire [.inr (.inl 0), .inl x1] σ = (if inb x1 6 = true then (if (σ 2 x1.toNatClampNeg) < 1 then some (some (some (.inl 0)), σ) else (if inb x1 6 = true then (if (σ 2 x1.toNatClampNeg) < 10 then some (some (some (.inl 1)), σ) else some (some (some (.inl 0)), σ)) else none)) else none) := (lock_ap _ _).trans (e0_X5_isInFire bigM x1 σ)
noncomputable def b_X5_fillAnvils_2 (n : Nat) (x1 : Int32) (σ : Mm) : Option Ou := rn t_X5_fillAnvils cs_X5_fillAnvils n 2 [(0, .inr (.inl 0)), (1, .inl x1)] [] σ
noncomputable def b_X5_fillAnvils_61 (n : Nat) (x1 x2 : Int32) (σ : Mm) : Option Ou := rn t_X5_fillAnvils cs_X5_fillAnvils n 61 [(0, .inr (.inl 0)), (1, .inl x1), (2, .inl x2)] [] σ
set_option maxRecDepth 20000 in
theorem e_X5_fillAnvils_2 (n : Nat) (x1 : Int32) (σ : Mm) : b_X5_fillAnvils_2 (n + 1) x1 σ =
  (if x1 < (σ 21 0) then
    (if inb x1 3 = true then
    (if (σ 10 x1.toNatClampNeg) = (-1) then
      (onI (f_X5_chooseReady [.inr (.inl 0)] σ) (fun τ1 => some (none, τ1)) (fun r1 τ1 =>
      (if r1 = (-1) then
        some (some none, τ1)
      else
        (onI (f_X5_isInFire [.inr (.inl 0), .inl r1] τ1) (fun τ2 => some (none, τ2)) (fun r2 τ2 =>
        (if r2 = 0 then
          (b_X5_fillAnvils_61 n x1 r1 τ2)
        else
          (if inb r1 6 = true then
          (if inb ((τ2 2 r1.toNatClampNeg) - 1) 3 = true then
          (b_X5_fillAnvils_61 n x1 r1 (wr τ2 11 ((τ2 2 r1.toNatClampNeg) - 1).toNatClampNeg (-1)))
          else none)
          else none)))))))
    else
      (b_X5_fillAnvils_2 n (x1 + 1) σ))
    else none)
  else
    some (some none, σ)) := (if_cg (if_cg (if_cg (onI_cg (fun _ => rfl) (fun r1 τ1 => (if_cg rfl (onI_cg (fun _ => rfl) (fun r2 τ2 => (if_cg rfl (if_cg (if_cg rfl rfl) rfl))))))) rfl) rfl) rfl)
set_option maxRecDepth 20000 in
theorem e_X5_fillAnvils_61 (n : Nat) (x1 x2 : Int32) (σ : Mm) : b_X5_fillAnvils_61 (n + 1) x1 x2 σ =
  (if inb x1 3 = true then
  (if inb x2 6 = true then
  (b_X5_fillAnvils_2 n (x1 + 1) (wr (wr σ 10 x1.toNatClampNeg x2) 2 x2.toNatClampNeg (10 + x1)))
  else none)
  else none) := (if_cg (if_cg rfl rfl) rfl)
set_option maxRecDepth 20000 in
theorem e0_X5_fillAnvils (n : Nat) (σ : Mm) : sem0 t_X5_fillAnvils cs_X5_fillAnvils 3 n [.inr (.inl 0)] σ =
  (b_X5_fillAnvils_2 n 0 σ) := rfl
theorem e_X5_fillAnvils (σ : Mm) : f_X5_fillAnvils [.inr (.inl 0)] σ = (b_X5_fillAnvils_2 bigM 0 σ) := (lock_ap _ _).trans (e0_X5_fillAnvils bigM σ)
noncomputable def b_X5_firstWaiting_2 (n : Nat) (x1 : Int32) (σ : Mm) : Option Ou := rn t_X5_firstWaiting cs_X5_firstWaiting n 2 [(0, .inr (.inl 0)), (1, .inl x1)] [] σ
set_option maxRecDepth 20000 in
theorem e_X5_firstWaiting_2 (n : Nat) (x1 : Int32) (σ : Mm) : b_X5_firstWaiting_2 (n + 1) x1 σ =
  (if x1 < (σ 12 0) then
    (if inb x1 6 = true then
    (if inb (σ 22 x1.toNatClampNeg) 6 = true then
    (if (σ 2 (σ 22 x1.toNatClampNeg).toNatClampNeg) = 0 then
      (onI (f_X5_isFinished [.inr (.inl 0), .inl (σ 22 x1.toNatClampNeg)] σ) (fun τ1 => some (none, τ1)) (fun r1 τ1 =>
      (if r1 = 0 then
        (onI (f_X5_isReady [.inr (.inl 0), .inl (σ 22 x1.toNatClampNeg)] τ1) (fun τ2 => some (none, τ2)) (fun r2 τ2 =>
        (if r2 = 0 then
          some (some (some (.inl (σ 22 x1.toNatClampNeg))), τ2)
        else
          (b_X5_firstWaiting_2 n (x1 + 1) τ2))))
      else
        (b_X5_firstWaiting_2 n (x1 + 1) τ1))))
    else
      (b_X5_firstWaiting_2 n (x1 + 1) σ))
    else none)
    else none)
  else
    some (some (some (.inl (-1))), σ)) := (if_cg (if_cg (if_cg (if_cg (onI_cg (fun _ => rfl) (fun r1 τ1 => (if_cg (onI_cg (fun _ => rfl) (fun r2 τ2 => (if_cg rfl rfl))) rfl))) rfl) rfl) rfl) rfl)
set_option maxRecDepth 20000 in
theorem e0_X5_firstWaiting (n : Nat) (σ : Mm) : sem0 t_X5_firstWaiting cs_X5_firstWaiting 3 n [.inr (.inl 0)] σ =
  (b_X5_firstWaiting_2 n 0 σ) := rfl
theorem e_X5_firstWaiting (σ : Mm) : f_X5_firstWaiting [.inr (.inl 0)] σ = (b_X5_firstWaiting_2 bigM 0 σ) := (lock_ap _ _).trans (e0_X5_firstWaiting bigM σ)
noncomputable def b_X5_fillPlaces_2 (n : Nat) (x1 : Int32) (σ : Mm) : Option Ou := rn t_X5_fillPlaces cs_X5_fillPlaces n 2 [(0, .inr (.inl 0)), (1, .inl x1)] [] σ
set_option maxRecDepth 20000 in
theorem e_X5_fillPlaces_2 (n : Nat) (x1 : Int32) (σ : Mm) : b_X5_fillPlaces_2 (n + 1) x1 σ =
  (if x1 < (σ 12 1) then
    (if inb x1 3 = true then
    (if (σ 11 x1.toNatClampNeg) = (-1) then
      (onI (f_X5_firstWaiting [.inr (.inl 0)] σ) (fun τ1 => some (none, τ1)) (fun r1 τ1 =>
      (if r1 = (-1) then
        some (some none, τ1)
      else
        (if inb x1 3 = true then
        (if inb r1 6 = true then
        (if inb r1 6 = true then
        (if inb r1 6 = true then
        (b_X5_fillPlaces_2 n (x1 + 1) (wr (wr (wr τ1 11 x1.toNatClampNeg r1) 2 r1.toNatClampNeg (1 + x1)) 9 r1.toNatClampNeg ((τ1 9 r1.toNatClampNeg) + 1)))
        else none)
        else none)
        else none)
        else none))))
    else
      (b_X5_fillPlaces_2 n (x1 + 1) σ))
    else none)
  else
    some (some none, σ)) := (if_cg (if_cg (if_cg (onI_cg (fun _ => rfl) (fun r1 τ1 => (if_cg rfl (if_cg (if_cg (if_cg (if_cg rfl rfl) rfl) rfl) rfl)))) rfl) rfl) rfl)
set_option maxRecDepth 20000 in
theorem e0_X5_fillPlaces (n : Nat) (σ : Mm) : sem0 t_X5_fillPlaces cs_X5_fillPlaces 3 n [.inr (.inl 0)] σ =
  (b_X5_fillPlaces_2 n 0 σ) := rfl
theorem e_X5_fillPlaces (σ : Mm) : f_X5_fillPlaces [.inr (.inl 0)] σ = (b_X5_fillPlaces_2 bigM 0 σ) := (lock_ap _ _).trans (e0_X5_fillPlaces bigM σ)
set_option maxRecDepth 20000 in
theorem e0_X5_warmed (n : Nat) (x1 x2 : Int32) (σ : Mm) : sem0 t_X5_warmed cs_X5_warmed 5 n [.inr (.inl 0), .inl x1, .inl x2] σ =
  (if inb x2 3 = true then
  (if inb x1 6 = true then
  (if inb x1 6 = true then
  (if (σ 1 x1.toNatClampNeg) < (σ 20 x2.toNatClampNeg) then
    (if 0 < (σ 14 x1.toNatClampNeg) then
      (if inb x1 6 = true then
      (if inb x2 3 = true then
      (if (σ 14 x1.toNatClampNeg) = 0 then none else
      some (some (some (.inl (if (σ 20 x2.toNatClampNeg) < ((σ 1 x1.toNatClampNeg) + ((σ 19 x2.toNatClampNeg) / (σ 14 x1.toNatClampNeg))) then (σ 20 x2.toNatClampNeg) else ((σ 1 x1.toNatClampNeg) + ((σ 19 x2.toNatClampNeg) / (σ 14 x1.toNatClampNeg)))))), σ))
      else none)
      else none)
    else
      (if inb x1 6 = true then
      some (some (some (.inl (σ 1 x1.toNatClampNeg))), σ)
      else none))
  else
    (if inb x1 6 = true then
    some (some (some (.inl (σ 1 x1.toNatClampNeg))), σ)
    else none))
  else none)
  else none)
  else none) := (if_cg (if_cg (if_cg (if_cg (if_cg (if_cg (if_cg (if_cg rfl rfl) rfl) rfl) (if_cg rfl rfl)) (if_cg rfl rfl)) rfl) rfl) rfl)
theorem e_X5_warmed (x1 x2 : Int32) (σ : Mm) : f_X5_warmed [.inr (.inl 0), .inl x1, .inl x2] σ = (if inb x2 3 = true then (if inb x1 6 = true then (if inb x1 6 = true then (if (σ 1 x1.toNatClampNeg) < (σ 20 x2.toNatClampNeg) then (if 0 < (σ 14 x1.toNatClampNeg) then (if inb x1 6 = true then (if inb x2 3 = true then (if (σ 14 x1.toNatClampNeg) = 0 then none else some (some (some (.inl (if (σ 20 x2.toNatClampNeg) < ((σ 1 x1.toNatClampNeg) + ((σ 19 x2.toNatClampNeg) / (σ 14 x1.toNatClampNeg))) then (σ 20 x2.toNatClampNeg) else ((σ 1 x1.toNatClampNeg) + ((σ 19 x2.toNatClampNeg) / (σ 14 x1.toNatClampNeg)))))), σ)) else none) else none) else (if inb x1 6 = true then some (some (some (.inl (σ 1 x1.toNatClampNeg))), σ) else none)) else (if inb x1 6 = true then some (some (some (.inl (σ 1 x1.toNatClampNeg))), σ) else none)) else none) else none) else none) := (lock_ap _ _).trans (e0_X5_warmed bigM x1 x2 σ)
set_option maxRecDepth 20000 in
theorem e0_X5_cooled (n : Nat) (x1 : Int32) (σ : Mm) : sem0 t_X5_cooled cs_X5_cooled 2 n [.inr (.inl 0), .inl x1] σ =
  (if inb x1 6 = true then
  (if inb x1 6 = true then
  some (some (some (.inl (if ((σ 1 x1.toNatClampNeg) - (σ 15 x1.toNatClampNeg)) < 20 then 20 else ((σ 1 x1.toNatClampNeg) - (σ 15 x1.toNatClampNeg))))), σ)
  else none)
  else none) := (if_cg (if_cg rfl rfl) rfl)
theorem e_X5_cooled (x1 : Int32) (σ : Mm) : f_X5_cooled [.inr (.inl 0), .inl x1] σ = (if inb x1 6 = true then (if inb x1 6 = true then some (some (some (.inl (if ((σ 1 x1.toNatClampNeg) - (σ 15 x1.toNatClampNeg)) < 20 then 20 else ((σ 1 x1.toNatClampNeg) - (σ 15 x1.toNatClampNeg))))), σ) else none) else none) := (lock_ap _ _).trans (e0_X5_cooled bigM x1 σ)
set_option maxRecDepth 20000 in
theorem e0_X5_work (n : Nat) (x1 x2 : Int32) (σ : Mm) : sem0 t_X5_work cs_X5_work 3 n [.inr (.inl 0), .inl x1, .inl x2] σ =
  (if inb x1 6 = true then
  (if inb x1 6 = true then
  (if inb x1 6 = true then
  (if inb x1 6 = true then
  (if inb x1 6 = true then
  (if 0 < ((wr (wr σ 6 x1.toNatClampNeg ((σ 6 x1.toNatClampNeg) - 1)) 4 x1.toNatClampNeg ((σ 4 x1.toNatClampNeg) - 1)) 4 x1.toNatClampNeg) then
    some (some none, (wr (wr σ 6 x1.toNatClampNeg ((σ 6 x1.toNatClampNeg) - 1)) 4 x1.toNatClampNeg ((σ 4 x1.toNatClampNeg) - 1)))
  else
    (if inb x1 6 = true then
    (if inb x1 6 = true then
    (onI (f_X5_isFinished [.inr (.inl 0), .inl x1] (wr (wr (wr σ 6 x1.toNatClampNeg ((σ 6 x1.toNatClampNeg) - 1)) 4 x1.toNatClampNeg ((σ 4 x1.toNatClampNeg) - 1)) 3 x1.toNatClampNeg ((σ 3 x1.toNatClampNeg) + 1))) (fun τ1 => some (none, τ1)) (fun r1 τ1 =>
    (if r1 = 0 then
      (onV (f_X5_beginStep [.inr (.inl 0), .inl x1] τ1) (fun τ2 => some (none, τ2)) (fun τ2 =>
      some (some none, τ2)))
    else
      (if inb x1 6 = true then
      some (some none, (wr (wr τ1 7 x1.toNatClampNeg (x2 + 1)) 0 12 ((τ1 0 12) - 1)))
      else none))))
    else none)
    else none))
  else none)
  else none)
  else none)
  else none)
  else none) := (if_cg (if_cg (if_cg (if_cg (if_cg (if_cg rfl (if_cg (if_cg (onI_cg (fun _ => rfl) (fun r1 τ1 => (if_cg (onV_cg (fun _ => rfl) (fun τ2 => rfl)) (if_cg rfl rfl)))) rfl) rfl)) rfl) rfl) rfl) rfl) rfl)
theorem e_X5_work (x1 x2 : Int32) (σ : Mm) : f_X5_work [.inr (.inl 0), .inl x1, .inl x2] σ = (if inb x1 6 = true then (if inb x1 6 = true then (if inb x1 6 = true then (if inb x1 6 = true then (if inb x1 6 = true then (if 0 < ((wr (wr σ 6 x1.toNatClampNeg ((σ 6 x1.toNatClampNeg) - 1)) 4 x1.toNatClampNeg ((σ 4 x1.toNatClampNeg) - 1)) 4 x1.toNatClampNeg) then some (some none, (wr (wr σ 6 x1.toNatClampNeg ((σ 6 x1.toNatClampNeg) - 1)) 4 x1.toNatClampNeg ((σ 4 x1.toNatClampNeg) - 1))) else (if inb x1 6 = true then (if inb x1 6 = true then (onI (f_X5_isFinished [.inr (.inl 0), .inl x1] (wr (wr (wr σ 6 x1.toNatClampNeg ((σ 6 x1.toNatClampNeg) - 1)) 4 x1.toNatClampNeg ((σ 4 x1.toNatClampNeg) - 1)) 3 x1.toNatClampNeg ((σ 3 x1.toNatClampNeg) + 1))) (fun τ1 => some (none, τ1)) (fun r1 τ1 => (if r1 = 0 then (onV (f_X5_beginStep [.inr (.inl 0), .inl x1] τ1) (fun τ2 => some (none, τ2)) (fun τ2 => some (some none, τ2))) else (if inb x1 6 = true then some (some none, (wr (wr τ1 7 x1.toNatClampNeg (x2 + 1)) 0 12 ((τ1 0 12) - 1))) else none)))) else none) else none)) else none) else none) else none) else none) else none) := (lock_ap _ _).trans (e0_X5_work bigM x1 x2 σ)
noncomputable def b_X5_pass_4 (n : Nat) (x1 x2 x3 : Int32) (σ : Mm) : Option Ou := rn t_X5_pass cs_X5_pass n 4 [(0, .inr (.inl 0)), (1, .inl x1), (2, .inl x2), (3, .inl x3)] [] σ
noncomputable def b_X5_pass_57 (n : Nat) (x1 x2 x3 x4 s1 s2 : Int32) (σ : Mm) : Option Ou := rn t_X5_pass cs_X5_pass n 57 [(0, .inr (.inl 0)), (1, .inl x1), (2, .inl x2), (3, .inl x3), (4, .inl x4)] [.inl s2, .inl s1, .inr (.inl 1)] σ
noncomputable def b_X5_pass_83 (n : Nat) (x1 x3 s0 s1 : Int32) (σ : Mm) : Option Ou := rn t_X5_pass cs_X5_pass n 83 [(0, .inr (.inl 0)), (1, .inl x1), (3, .inl x3)] [.inl s1, .inl s0] σ
set_option maxRecDepth 20000 in
theorem e_X5_pass_4 (n : Nat) (x1 x2 x3 : Int32) (σ : Mm) : b_X5_pass_4 (n + 1) x1 x2 x3 σ =
  (if x3 < (σ 12 0) then
    (if inb x3 6 = true then
    (onI (f_X5_isInFire [.inr (.inl 0), .inl x3] σ) (fun τ1 => some (none, τ1)) (fun r1 τ1 =>
    (if r1 = 0 then
      (onI (f_X5_cooled [.inr (.inl 0), .inl x3] τ1) (fun τ2 => some (none, τ2)) (fun r2 τ2 =>
      (b_X5_pass_57 n x1 x2 x3 (σ 1 x3.toNatClampNeg) x3 r2 τ2)))
    else
      (if inb x3 6 = true then
      (onI (f_X5_warmed [.inr (.inl 0), .inl x3, .inl ((τ1 2 x3.toNatClampNeg) - 1)] τ1) (fun τ2 => some (none, τ2)) (fun r2 τ2 =>
      (b_X5_pass_57 n x1 x2 x3 (σ 1 x3.toNatClampNeg) x3 r2 τ2)))
      else none))))
    else none)
  else
    (if x2 = 0 ∨ x2 = 1 then some (some (some (.inl x2)), σ) else none)) := (if_cg (if_cg (onI_cg (fun _ => rfl) (fun r1 τ1 => (if_cg (onI_cg (fun _ => rfl) (fun r2 τ2 => rfl)) (if_cg (onI_cg (fun _ => rfl) (fun r2 τ2 => rfl)) rfl)))) rfl) rfl)
set_option maxRecDepth 20000 in
theorem e_X5_pass_57 (n : Nat) (x1 x2 x3 x4 s1 s2 : Int32) (σ : Mm) : b_X5_pass_57 (n + 1) x1 x2 x3 x4 s1 s2 σ =
  (if inb s1 6 = true then
  (if inb x3 6 = true then
  (if ((wr σ 1 s1.toNatClampNeg s2) 1 x3.toNatClampNeg) = x4 then
    (b_X5_pass_83 n x1 x3 x2 0 (wr σ 1 s1.toNatClampNeg s2))
  else
    (onI (f_X5_isFinished [.inr (.inl 0), .inl x3] (wr σ 1 s1.toNatClampNeg s2)) (fun τ1 => some (none, τ1)) (fun r1 τ1 =>
    (if r1 = 0 then
      (b_X5_pass_83 n x1 x3 x2 1 τ1)
    else
      (b_X5_pass_83 n x1 x3 x2 0 τ1)))))
  else none)
  else none) := (if_cg (if_cg (if_cg rfl (onI_cg (fun _ => rfl) (fun r1 τ1 => (if_cg rfl rfl)))) rfl) rfl)
set_option maxRecDepth 20000 in
theorem e_X5_pass_83 (n : Nat) (x1 x3 s0 s1 : Int32) (σ : Mm) : b_X5_pass_83 (n + 1) x1 x3 s0 s1 σ =
  (if inb x3 6 = true then
  (if (σ 2 x3.toNatClampNeg) < 10 then
    (b_X5_pass_4 n x1 (s0 ||| s1) (x3 + 1) σ)
  else
    (onV (f_X5_work [.inr (.inl 0), .inl x3, .inl x1] σ) (fun τ1 => some (none, τ1)) (fun τ1 =>
    (b_X5_pass_4 n x1 1 (x3 + 1) τ1))))
  else none) := (if_cg (if_cg rfl (onV_cg (fun _ => rfl) (fun τ1 => rfl))) rfl)
set_option maxRecDepth 20000 in
theorem e0_X5_pass (n : Nat) (x1 : Int32) (σ : Mm) : sem0 t_X5_pass cs_X5_pass 5 n [.inr (.inl 0), .inl x1] σ =
  (b_X5_pass_4 n x1 0 0 σ) := rfl
theorem e_X5_pass (x1 : Int32) (σ : Mm) : f_X5_pass [.inr (.inl 0), .inl x1] σ = (b_X5_pass_4 bigM x1 0 0 σ) := (lock_ap _ _).trans (e0_X5_pass bigM x1 σ)
noncomputable def b_X5_lastFinished_4 (n : Nat) (x1 x2 : Int32) (σ : Mm) : Option Ou := rn t_X5_lastFinished cs_X5_lastFinished n 4 [(0, .inr (.inl 0)), (1, .inl x1), (2, .inl x2)] [] σ
set_option maxRecDepth 20000 in
theorem e_X5_lastFinished_4 (n : Nat) (x1 x2 : Int32) (σ : Mm) : b_X5_lastFinished_4 (n + 1) x1 x2 σ =
  (if (σ 0 12) = 0 then
    (if x2 < (σ 12 0) then
      (if x1 = (-1) then
        (b_X5_lastFinished_4 n x2 (x2 + 1) σ)
      else
        (if inb x2 6 = true then
        (if inb x1 6 = true then
        (if (σ 7 x1.toNatClampNeg) < (σ 7 x2.toNatClampNeg) then
          (b_X5_lastFinished_4 n x2 (x2 + 1) σ)
        else
          (b_X5_lastFinished_4 n x1 (x2 + 1) σ))
        else none)
        else none))
    else
      some (some (some (.inl x1)), σ))
  else
    some (some (some (.inl x1)), σ)) := (if_cg (if_cg (if_cg rfl (if_cg (if_cg (if_cg rfl rfl) rfl) rfl)) rfl) rfl)
set_option maxRecDepth 20000 in
theorem e0_X5_lastFinished (n : Nat) (σ : Mm) : sem0 t_X5_lastFinished cs_X5_lastFinished 3 n [.inr (.inl 0)] σ =
  (b_X5_lastFinished_4 n (-1) 0 σ) := rfl
theorem e_X5_lastFinished (σ : Mm) : f_X5_lastFinished [.inr (.inl 0)] σ = (b_X5_lastFinished_4 bigM (-1) 0 σ) := (lock_ap _ _).trans (e0_X5_lastFinished bigM σ)
set_option maxRecDepth 20000 in
theorem e0_X5_endMinute (n : Nat) (σ : Mm) : sem0 t_X5_endMinute cs_X5_endMinute 2 n [.inr (.inl 0)] σ =
  (onI (f_X5_lastFinished [.inr (.inl 0)] σ) (fun τ1 => some (none, τ1)) (fun r1 τ1 =>
  (if r1 = (-1) then
    (if 0 < (τ1 0 12) then
      some (some (some (.inl (-1))), τ1)
    else
      some (some (some (.inl 0)), τ1))
  else
    (if inb r1 6 = true then
    some (some (some (.inl (τ1 7 r1.toNatClampNeg))), τ1)
    else none)))) := (onI_cg (fun _ => rfl) (fun r1 τ1 => (if_cg (if_cg rfl rfl) (if_cg rfl rfl))))
theorem e_X5_endMinute (σ : Mm) : f_X5_endMinute [.inr (.inl 0)] σ = (onI (f_X5_lastFinished [.inr (.inl 0)] σ) (fun τ1 => some (none, τ1)) (fun r1 τ1 => (if r1 = (-1) then (if 0 < (τ1 0 12) then some (some (some (.inl (-1))), τ1) else some (some (some (.inl 0)), τ1)) else (if inb r1 6 = true then some (some (some (.inl (τ1 7 r1.toNatClampNeg))), τ1) else none)))) := (lock_ap _ _).trans (e0_X5_endMinute bigM σ)
noncomputable def b_X5_endWithin_8 (n : Nat) (x1 x2 x3 : Int32) (σ : Mm) : Option Ou := rn t_X5_endWithin cs_X5_endWithin n 8 [(0, .inr (.inl 0)), (1, .inl x1), (2, .inl x2), (3, .inl x3)] [] σ
noncomputable def b_X5_endWithin_48 (n : Nat) (σ : Mm) : Option Ou := rn t_X5_endWithin cs_X5_endWithin n 48 [(0, .inr (.inl 0))] [] σ
set_option maxRecDepth 20000 in
theorem e_X5_endWithin_8 (n : Nat) (x1 x2 x3 : Int32) (σ : Mm) : b_X5_endWithin_8 (n + 1) x1 x2 x3 σ =
  (if x3 < x1 then
    (if 0 < (σ 0 12) then
      (if x2 = 0 then
        (b_X5_endWithin_48 n  σ)
      else
        (onV (f_X5_clearAnvils [.inr (.inl 0)] σ) (fun τ1 => some (none, τ1)) (fun τ1 =>
        (onV (f_X5_fillAnvils [.inr (.inl 0)] τ1) (fun τ2 => some (none, τ2)) (fun τ2 =>
        (onV (f_X5_fillPlaces [.inr (.inl 0)] τ2) (fun τ3 => some (none, τ3)) (fun τ3 =>
        (onI (f_X5_pass [.inr (.inl 0), .inl x3] τ3) (fun τ4 => some (none, τ4)) (fun r4 τ4 =>
        (b_X5_endWithin_8 n x1 r4 (x3 + 1) τ4))))))))))
    else
      (b_X5_endWithin_48 n  σ))
  else
    (b_X5_endWithin_48 n  σ)) := (if_cg (if_cg (if_cg rfl (onV_cg (fun _ => rfl) (fun τ1 => (onV_cg (fun _ => rfl) (fun τ2 => (onV_cg (fun _ => rfl) (fun τ3 => (onI_cg (fun _ => rfl) (fun r4 τ4 => rfl))))))))) rfl) rfl)
set_option maxRecDepth 20000 in
theorem e_X5_endWithin_48 (n : Nat) (σ : Mm) : b_X5_endWithin_48 (n + 1)  σ =
  (onI (f_X5_endMinute [.inr (.inl 0)] σ) (fun τ1 => some (none, τ1)) (fun r1 τ1 =>
  some (some (some (.inl r1)), τ1))) := (onI_cg (fun _ => rfl) (fun r1 τ1 => rfl))
set_option maxRecDepth 20000 in
theorem e0_X5_endWithin (n : Nat) (x1 : Int32) (σ : Mm) : sem0 t_X5_endWithin cs_X5_endWithin 4 n [.inr (.inl 0), .inl x1] σ =
  (onV (f_X5_begin [.inr (.inl 0)] σ) (fun τ1 => some (none, τ1)) (fun τ1 =>
  (b_X5_endWithin_8 n x1 1 0 τ1))) := (onV_cg (fun _ => rfl) (fun τ1 => rfl))
theorem e_X5_endWithin (x1 : Int32) (σ : Mm) : f_X5_endWithin [.inr (.inl 0), .inl x1] σ = (onV (f_X5_begin [.inr (.inl 0)] σ) (fun τ1 => some (none, τ1)) (fun τ1 => (b_X5_endWithin_8 bigM x1 1 0 τ1))) := (lock_ap _ _).trans (e0_X5_endWithin bigM x1 σ)
