set_option maxRecDepth 20000 in
theorem e0_X4_hasRoom (n : Nat) (σ : Mm) : sem0 t_X4_hasRoom cs_X4_hasRoom 1 n [.inr (.inl 0)] σ =
  (if 900 < ((σ 0 3) + 20) then
    some (some (some (.inl 0)), σ)
  else
    some (some (some (.inl 1)), σ)) := (if_cg rfl rfl)
theorem e_X4_hasRoom (σ : Mm) : f_X4_hasRoom [.inr (.inl 0)] σ = (if 900 < ((σ 0 3) + 20) then some (some (some (.inl 0)), σ) else some (some (some (.inl 1)), σ)) := (lock_ap _ _).trans (e0_X4_hasRoom bigM σ)
noncomputable def b_X4_append_3 (n : Nat) (x1 x2 : Int32) (σ : Mm) : Option Ou := rn t_X4_append cs_X4_append n 3 [(0, .inr (.inl 0)), (1, .inl x1), (2, .inl x2)] [] σ
set_option maxRecDepth 20000 in
theorem e_X4_append_3 (n : Nat) (x1 x2 : Int32) (σ : Mm) : b_X4_append_3 (n + 1) x1 x2 σ =
  (if x2 < 0 then
    some (some none, σ)
  else
    (if (σ 0 3) < 900 then
      (if ((x1 >>> (x2 &&& 31)).toInt8.toInt32).toInt8.toInt32 = (x1 >>> (x2 &&& 31)).toInt8.toInt32 then
      (if inb (σ 0 3) 900 = true then
      (b_X4_append_3 n x1 (x2 + (-8)) (wr (wr σ 1 (σ 0 3).toNatClampNeg ((x1 >>> (x2 &&& 31)).toInt8.toInt32)) 0 3 ((σ 0 3) + 1)))
      else none) else none)
    else
      some (some none, σ))) := (if_cg rfl (if_cg (if_cg (if_cg rfl rfl) rfl) rfl))
set_option maxRecDepth 20000 in
theorem e0_X4_append (n : Nat) (x1 : Int32) (σ : Mm) : sem0 t_X4_append cs_X4_append 3 n [.inr (.inl 0), .inl x1] σ =
  (b_X4_append_3 n x1 24 σ) := rfl
theorem e_X4_append (x1 : Int32) (σ : Mm) : f_X4_append [.inr (.inl 0), .inl x1] σ = (b_X4_append_3 bigM x1 24 σ) := (lock_ap _ _).trans (e0_X4_append bigM x1 σ)
noncomputable def b_X4_beginText_36 (n : Nat) (x2 : Int32) (σ : Mm) : Option Ou := rn t_X4_beginText cs_X4_beginText n 36 [(0, .inr (.inl 0)), (2, .inl x2)] [] σ
set_option maxRecDepth 20000 in
theorem e_X4_beginText_36 (n : Nat) (x2 : Int32) (σ : Mm) : b_X4_beginText_36 (n + 1) x2 σ =
  (if x2 < 3 then
    (if inb x2 3 = true then
    (b_X4_beginText_36 n (x2 + 1) (wr σ 2 x2.toNatClampNeg 0))
    else none)
  else
    some (some none, σ)) := (if_cg (if_cg rfl rfl) rfl)
set_option maxRecDepth 20000 in
theorem e0_X4_beginText (n : Nat) (x1 : Int32) (σ : Mm) : sem0 t_X4_beginText cs_X4_beginText 3 n [.inr (.inl 0), .inl x1] σ =
  (onV (f_X2_clear [.inr (.inl 0)] (pk (sgC 3 11) (wr (wr (wr (wr σ 0 6 (if (σ 0 3) < x1 then (σ 0 3) else x1)) 0 3 0) 0 7 0) 0 4 (-1)))) (fun τ1 => some (none, (put (sgC 3 11) (wr (wr (wr (wr σ 0 6 (if (σ 0 3) < x1 then (σ 0 3) else x1)) 0 3 0) 0 7 0) 0 4 (-1)) τ1))) (fun τ1 =>
  (b_X4_beginText_36 n 0 (put (sgC 3 11) (wr (wr (wr (wr σ 0 6 (if (σ 0 3) < x1 then (σ 0 3) else x1)) 0 3 0) 0 7 0) 0 4 (-1)) τ1)))) := (onV_cg (fun _ => rfl) (fun τ1 => rfl))
theorem e_X4_beginText (x1 : Int32) (σ : Mm) : f_X4_beginText [.inr (.inl 0), .inl x1] σ = (onV (f_X2_clear [.inr (.inl 0)] (pk (sgC 3 11) (wr (wr (wr (wr σ 0 6 (if (σ 0 3) < x1 then (σ 0 3) else x1)) 0 3 0) 0 7 0) 0 4 (-1)))) (fun τ1 => some (none, (put (sgC 3 11) (wr (wr (wr (wr σ 0 6 (if (σ 0 3) < x1 then (σ 0 3) else x1)) 0 3 0) 0 7 0) 0 4 (-1)) τ1))) (fun τ1 => (b_X4_beginText_36 bigM 0 (put (sgC 3 11) (wr (wr (wr (wr σ 0 6 (if (σ 0 3) < x1 then (σ 0 3) else x1)) 0 3 0) 0 7 0) 0 4 (-1)) τ1)))) := (lock_ap _ _).trans (e0_X4_beginText bigM x1 σ)
noncomputable def b_X4_takeWord_4 (n : Nat) (x1 x2 : Int32) (σ : Mm) : Option Ou := rn t_X4_takeWord cs_X4_takeWord n 4 [(0, .inr (.inl 0)), (1, .inl x1), (2, .inl x2)] [] σ
noncomputable def b_X4_takeWord_87 (n : Nat) (x1 x2 : Int32) (σ : Mm) : Option Ou := rn t_X4_takeWord cs_X4_takeWord n 87 [(0, .inr (.inl 0)), (1, .inl x1), (2, .inl x2)] [] σ
set_option maxRecDepth 20000 in
theorem e_X4_takeWord_4 (n : Nat) (x1 x2 : Int32) (σ : Mm) : b_X4_takeWord_4 (n + 1) x1 x2 σ =
  (if (σ 0 7) < (σ 0 6) then
    (if inb (σ 0 7) 900 = true then
    (if (σ 1 (σ 0 7).toNatClampNeg) < 97 then
      (b_X4_takeWord_87 n x1 x2 σ)
    else
      (if inb (σ 0 7) 900 = true then
      (if 122 < (σ 1 (σ 0 7).toNatClampNeg) then
        (b_X4_takeWord_87 n x1 x2 σ)
      else
        (if x2 < 6 then
          (if inb (σ 0 7) 900 = true then
          (b_X4_takeWord_4 n (x1 ||| (((σ 1 (σ 0 7).toNatClampNeg) &&& 31) <<< ((25 - (5 * x2)) &&& 31))) (x2 + 1) (wr σ 0 7 ((σ 0 7) + 1)))
          else none)
        else
          (b_X4_takeWord_4 n x1 (x2 + 1) (wr σ 0 7 ((σ 0 7) + 1)))))
      else none))
    else none)
  else
    (b_X4_takeWord_87 n x1 x2 σ)) := (if_cg (if_cg (if_cg rfl (if_cg (if_cg rfl (if_cg (if_cg rfl rfl) rfl)) rfl)) rfl) rfl)
set_option maxRecDepth 20000 in
theorem e_X4_takeWord_87 (n : Nat) (x1 x2 : Int32) (σ : Mm) : b_X4_takeWord_87 (n + 1) x1 x2 σ =
  (if 6 < x2 then
    some (some none, (wr (wr σ 0 9 1) 0 10 0))
  else
    some (some none, (wr (wr σ 0 9 1) 0 10 x1))) := (if_cg rfl rfl)
set_option maxRecDepth 20000 in
theorem e0_X4_takeWord (n : Nat) (σ : Mm) : sem0 t_X4_takeWord cs_X4_takeWord 3 n [.inr (.inl 0)] σ =
  (b_X4_takeWord_4 n 0 0 σ) := rfl
theorem e_X4_takeWord (σ : Mm) : f_X4_takeWord [.inr (.inl 0)] σ = (b_X4_takeWord_4 bigM 0 0 σ) := (lock_ap _ _).trans (e0_X4_takeWord bigM σ)
noncomputable def b_X4_takeNumber_2 (n : Nat) (x1 : Int32) (σ : Mm) : Option Ou := rn t_X4_takeNumber cs_X4_takeNumber n 2 [(0, .inr (.inl 0)), (1, .inl x1)] [] σ
set_option maxRecDepth 20000 in
theorem e_X4_takeNumber_2 (n : Nat) (x1 : Int32) (σ : Mm) : b_X4_takeNumber_2 (n + 1) x1 σ =
  (if (σ 0 7) < (σ 0 6) then
    (if inb (σ 0 7) 900 = true then
    (if (σ 1 (σ 0 7).toNatClampNeg) < 48 then
      some (some none, (wr (wr σ 0 9 2) 0 10 x1))
    else
      (if inb (σ 0 7) 900 = true then
      (if 57 < (σ 1 (σ 0 7).toNatClampNeg) then
        some (some none, (wr (wr σ 0 9 2) 0 10 x1))
      else
        (if x1 < 100000 then
          (if inb (σ 0 7) 900 = true then
          (b_X4_takeNumber_2 n ((x1 * 10) + ((σ 1 (σ 0 7).toNatClampNeg) - 48)) (wr σ 0 7 ((σ 0 7) + 1)))
          else none)
        else
          (b_X4_takeNumber_2 n x1 (wr σ 0 7 ((σ 0 7) + 1)))))
      else none))
    else none)
  else
    some (some none, (wr (wr σ 0 9 2) 0 10 x1))) := (if_cg (if_cg (if_cg rfl (if_cg (if_cg rfl (if_cg (if_cg rfl rfl) rfl)) rfl)) rfl) rfl)
set_option maxRecDepth 20000 in
theorem e0_X4_takeNumber (n : Nat) (σ : Mm) : sem0 t_X4_takeNumber cs_X4_takeNumber 2 n [.inr (.inl 0)] σ =
  (b_X4_takeNumber_2 n 0 σ) := rfl
theorem e_X4_takeNumber (σ : Mm) : f_X4_takeNumber [.inr (.inl 0)] σ = (b_X4_takeNumber_2 bigM 0 σ) := (lock_ap _ _).trans (e0_X4_takeNumber bigM σ)
noncomputable def b_X4_nextToken_0 (n : Nat) (σ : Mm) : Option Ou := rn t_X4_nextToken cs_X4_nextToken n 0 [(0, .inr (.inl 0))] [] σ
noncomputable def b_X4_nextToken_52 (n : Nat) (σ : Mm) : Option Ou := rn t_X4_nextToken cs_X4_nextToken n 52 [(0, .inr (.inl 0))] [] σ
set_option maxRecDepth 20000 in
theorem e_X4_nextToken_0 (n : Nat) (σ : Mm) : b_X4_nextToken_0 (n + 1)  σ =
  (if (σ 0 7) < (σ 0 6) then
    (if inb (σ 0 7) 900 = true then
    (if (σ 1 (σ 0 7).toNatClampNeg) = 32 then
      (b_X4_nextToken_0 n  (wr σ 0 7 ((σ 0 7) + 1)))
    else
      (if inb (σ 0 7) 900 = true then
      (if (σ 1 (σ 0 7).toNatClampNeg) = 10 then
        (b_X4_nextToken_0 n  (wr σ 0 7 ((σ 0 7) + 1)))
      else
        (b_X4_nextToken_52 n  σ))
      else none))
    else none)
  else
    (b_X4_nextToken_52 n  σ)) := (if_cg (if_cg (if_cg rfl (if_cg (if_cg rfl rfl) rfl)) rfl) rfl)
set_option maxRecDepth 20000 in
theorem e_X4_nextToken_52 (n : Nat) (σ : Mm) : b_X4_nextToken_52 (n + 1)  σ =
  (if (σ 0 7) < (σ 0 6) then
    (if inb (σ 0 7) 900 = true then
    (onI (f_X6_isWithin [.inl (σ 1 (σ 0 7).toNatClampNeg), .inl 97, .inl 122] (pk (sg0) (wr σ 0 8 (σ 0 7)))) (fun _ => none) (fun r1 τ1 =>
    (if r1 = 0 then
      (if inb (σ 0 7) 900 = true then
      (onI (f_X6_isWithin [.inl (σ 1 (σ 0 7).toNatClampNeg), .inl 48, .inl 57] (pk (sg0) (put (sg0) (wr σ 0 8 (σ 0 7)) τ1))) (fun _ => none) (fun r2 τ2 =>
      (if r2 = 0 then
        (if inb (σ 0 7) 900 = true then
        (if (σ 1 (σ 0 7).toNatClampNeg) = 59 then
          some (some none, (wr (wr (put (sg0) (put (sg0) (wr σ 0 8 (σ 0 7)) τ1) τ2) 0 9 3) 0 7 ((σ 0 7) + 1)))
        else
          some (some none, (wr (wr (put (sg0) (put (sg0) (wr σ 0 8 (σ 0 7)) τ1) τ2) 0 9 4) 0 7 ((σ 0 7) + 1))))
        else none)
      else
        (onV (f_X4_takeNumber [.inr (.inl 0)] (put (sg0) (put (sg0) (wr σ 0 8 (σ 0 7)) τ1) τ2)) (fun τ3 => some (none, τ3)) (fun τ3 =>
        some (some none, τ3))))))
      else none)
    else
      (onV (f_X4_takeWord [.inr (.inl 0)] (put (sg0) (wr σ 0 8 (σ 0 7)) τ1)) (fun τ2 => some (none, τ2)) (fun τ2 =>
      some (some none, τ2))))))
    else none)
  else
    some (some none, (wr (wr σ 0 8 (σ 0 7)) 0 9 0))) := (if_cg (if_cg (onI_cg (fun _ => rfl) (fun r1 τ1 => (if_cg (if_cg (onI_cg (fun _ => rfl) (fun r2 τ2 => (if_cg (if_cg (if_cg rfl rfl) rfl) (onV_cg (fun _ => rfl) (fun τ3 => rfl))))) rfl) (onV_cg (fun _ => rfl) (fun τ2 => rfl))))) rfl) rfl)
set_option maxRecDepth 20000 in
theorem e0_X4_nextToken (n : Nat) (σ : Mm) : sem0 t_X4_nextToken cs_X4_nextToken 1 n [.inr (.inl 0)] σ =
  (if (σ 0 7) < (σ 0 6) then
    (if inb (σ 0 7) 900 = true then
    (if (σ 1 (σ 0 7).toNatClampNeg) = 32 then
      (b_X4_nextToken_0 n  (wr σ 0 7 ((σ 0 7) + 1)))
    else
      (if inb (σ 0 7) 900 = true then
      (if (σ 1 (σ 0 7).toNatClampNeg) = 10 then
        (b_X4_nextToken_0 n  (wr σ 0 7 ((σ 0 7) + 1)))
      else
        (b_X4_nextToken_52 n  σ))
      else none))
    else none)
  else
    (b_X4_nextToken_52 n  σ)) := (if_cg (if_cg (if_cg rfl (if_cg (if_cg rfl rfl) rfl)) rfl) rfl)
theorem e_X4_nextToken (σ : Mm) : f_X4_nextToken [.inr (.inl 0)] σ = (if (σ 0 7) < (σ 0 6) then (if inb (σ 0 7) 900 = true then (if (σ 1 (σ 0 7).toNatClampNeg) = 32 then (b_X4_nextToken_0 bigM (wr σ 0 7 ((σ 0 7) + 1))) else (if inb (σ 0 7) 900 = true then (if (σ 1 (σ 0 7).toNatClampNeg) = 10 then (b_X4_nextToken_0 bigM (wr σ 0 7 ((σ 0 7) + 1))) else (b_X4_nextToken_52 bigM σ)) else none)) else none) else (b_X4_nextToken_52 bigM σ)) := (lock_ap _ _).trans (e0_X4_nextToken bigM σ)
set_option maxRecDepth 20000 in
theorem e0_X4_fail (n : Nat) (x1 : Int32) (σ : Mm) : sem0 t_X4_fail cs_X4_fail 2 n [.inr (.inl 0), .inl x1] σ =
  some (some (some (.inl 0)), (wr (wr σ 0 5 x1) 0 4 (σ 0 8))) := rfl
theorem e_X4_fail (x1 : Int32) (σ : Mm) : f_X4_fail [.inr (.inl 0), .inl x1] σ = some (some (some (.inl 0)), (wr (wr σ 0 5 x1) 0 4 (σ 0 8))) := (lock_ap _ _).trans (e0_X4_fail bigM x1 σ)
set_option maxRecDepth 20000 in
theorem e0_X4_settingOfWord (n : Nat) (x0 : Int32) (σ : Mm) : sem0 t_X4_settingOfWord cs_X4_settingOfWord 1 n [.inl x0] σ =
  (if x0 = 48965011 then some (some (some (.inl 0)), σ) else (if x0 = 437853486 then some (some (some (.inl 1)), σ) else (if x0 = 626398208 then some (some (some (.inl 2)), σ) else some (some (some (.inl (-1))), σ)))) := (if_cg rfl (if_cg rfl (if_cg rfl rfl)))
theorem e_X4_settingOfWord (x0 : Int32) (σ : Mm) : f_X4_settingOfWord [.inl x0] σ = (if x0 = 48965011 then some (some (some (.inl 0)), σ) else (if x0 = 437853486 then some (some (some (.inl 1)), σ) else (if x0 = 626398208 then some (some (some (.inl 2)), σ) else some (some (some (.inl (-1))), σ)))) := (lock_ap _ _).trans (e0_X4_settingOfWord bigM x0 σ)
set_option maxRecDepth 20000 in
theorem e0_X4_isReserved (n : Nat) (x0 : Int32) (σ : Mm) : sem0 t_X4_isReserved cs_X4_isReserved 1 n [.inl x0] σ =
  (if x0 = 321370112 then
    some (some (some (.inl 1)), σ)
  else
    (if x0 = 658685952 then
      some (some (some (.inl 1)), σ)
    else
      (if x0 = 549489824 then
        some (some (some (.inl 1)), σ)
      else
        (if x0 = 643432448 then
          some (some (some (.inl 1)), σ)
        else
          (onI (f_X4_settingOfWord [.inl x0] σ) (fun τ1 => some (none, τ1)) (fun r1 τ1 =>
          (if r1 = (-1) then
            some (some (some (.inl 0)), τ1)
          else
            some (some (some (.inl 1)), τ1)))))))) := (if_cg rfl (if_cg rfl (if_cg rfl (if_cg rfl (onI_cg (fun _ => rfl) (fun r1 τ1 => (if_cg rfl rfl)))))))
theorem e_X4_isReserved (x0 : Int32) (σ : Mm) : f_X4_isReserved [.inl x0] σ = (if x0 = 321370112 then some (some (some (.inl 1)), σ) else (if x0 = 658685952 then some (some (some (.inl 1)), σ) else (if x0 = 549489824 then some (some (some (.inl 1)), σ) else (if x0 = 643432448 then some (some (some (.inl 1)), σ) else (onI (f_X4_settingOfWord [.inl x0] σ) (fun τ1 => some (none, τ1)) (fun r1 τ1 => (if r1 = (-1) then some (some (some (.inl 0)), τ1) else some (some (some (.inl 1)), τ1)))))))) := (lock_ap _ _).trans (e0_X4_isReserved bigM x0 σ)
noncomputable def b_X4_readName_34 (n : Nat) (s0 : Int32) (σ : Mm) : Option Ou := rn t_X4_readName cs_X4_readName n 34 [(0, .inr (.inl 0))] [.inl s0] σ
set_option maxRecDepth 20000 in
theorem e_X4_readName_34 (n : Nat) (s0 : Int32) (σ : Mm) : b_X4_readName_34 (n + 1) s0 σ =
  (if s0 = 0 then
    (onI (f_X4_fail [.inr (.inl 0), .inl (-11)] σ) (fun τ1 => some (none, τ1)) (fun r1 τ1 =>
    (if r1 = 0 then
      some (some (some (.inl 0)), τ1)
    else
      some (some (some (.inl 1)), τ1))))
  else
    some (some (some (.inl 1)), σ)) := (if_cg (onI_cg (fun _ => rfl) (fun r1 τ1 => (if_cg rfl rfl))) rfl)
set_option maxRecDepth 20000 in
theorem e0_X4_readName (n : Nat) (σ : Mm) : sem0 t_X4_readName cs_X4_readName 2 n [.inr (.inl 0)] σ =
  (onV (f_X4_nextToken [.inr (.inl 0)] σ) (fun τ1 => some (none, τ1)) (fun τ1 =>
  (if (τ1 0 9) = 1 then
    (if (τ1 0 10) = 0 then
      (b_X4_readName_34 n 0 τ1)
    else
      (onI (f_X4_isReserved [.inl (τ1 0 10)] (pk (sg0) τ1)) (fun τ2 => some (none, (put (sg0) τ1 τ2))) (fun r2 τ2 =>
      (if r2 = 0 then
        (b_X4_readName_34 n 1 (put (sg0) τ1 τ2))
      else
        (b_X4_readName_34 n 0 (put (sg0) τ1 τ2))))))
  else
    (b_X4_readName_34 n 0 τ1)))) := (onV_cg (fun _ => rfl) (fun τ1 => (if_cg (if_cg rfl (onI_cg (fun _ => rfl) (fun r2 τ2 => (if_cg rfl rfl)))) rfl)))
theorem e_X4_readName (σ : Mm) : f_X4_readName [.inr (.inl 0)] σ = (onV (f_X4_nextToken [.inr (.inl 0)] σ) (fun τ1 => some (none, τ1)) (fun τ1 => (if (τ1 0 9) = 1 then (if (τ1 0 10) = 0 then (b_X4_readName_34 bigM 0 τ1) else (onI (f_X4_isReserved [.inl (τ1 0 10)] (pk (sg0) τ1)) (fun τ2 => some (none, (put (sg0) τ1 τ2))) (fun r2 τ2 => (if r2 = 0 then (b_X4_readName_34 bigM 1 (put (sg0) τ1 τ2)) else (b_X4_readName_34 bigM 0 (put (sg0) τ1 τ2)))))) else (b_X4_readName_34 bigM 0 τ1)))) := (lock_ap _ _).trans (e0_X4_readName bigM σ)
set_option maxRecDepth 20000 in
theorem e0_X4_readNumber (n : Nat) (x1 x2 : Int32) (σ : Mm) : sem0 t_X4_readNumber cs_X4_readNumber 3 n [.inr (.inl 0), .inl x1, .inl x2] σ =
  (onV (f_X4_nextToken [.inr (.inl 0)] σ) (fun τ1 => some (none, τ1)) (fun τ1 =>
  (if (τ1 0 9) = 2 then
    (onI (f_X6_isWithin [.inl (τ1 0 10), .inl x1, .inl x2] (pk (sg0) τ1)) (fun _ => none) (fun r2 τ2 =>
    (if r2 = 0 then
      (onI (f_X4_fail [.inr (.inl 0), .inl (-12)] (put (sg0) τ1 τ2)) (fun τ3 => some (none, τ3)) (fun r3 τ3 =>
      (if r3 = 0 then
        some (some (some (.inl 0)), τ3)
      else
        some (some (some (.inl 1)), τ3))))
    else
      some (some (some (.inl 1)), (put (sg0) τ1 τ2)))))
  else
    (onI (f_X4_fail [.inr (.inl 0), .inl (-11)] τ1) (fun τ2 => some (none, τ2)) (fun r2 τ2 =>
    (if r2 = 0 ∨ r2 = 1 then some (some (some (.inl r2)), τ2) else none)))))) := (onV_cg (fun _ => rfl) (fun τ1 => (if_cg (onI_cg (fun _ => rfl) (fun r2 τ2 => (if_cg (onI_cg (fun _ => rfl) (fun r3 τ3 => (if_cg rfl rfl))) rfl))) (onI_cg (fun _ => rfl) (fun r2 τ2 => rfl)))))
theorem e_X4_readNumber (x1 x2 : Int32) (σ : Mm) : f_X4_readNumber [.inr (.inl 0), .inl x1, .inl x2] σ = (onV (f_X4_nextToken [.inr (.inl 0)] σ) (fun τ1 => some (none, τ1)) (fun τ1 => (if (τ1 0 9) = 2 then (onI (f_X6_isWithin [.inl (τ1 0 10), .inl x1, .inl x2] (pk (sg0) τ1)) (fun _ => none) (fun r2 τ2 => (if r2 = 0 then (onI (f_X4_fail [.inr (.inl 0), .inl (-12)] (put (sg0) τ1 τ2)) (fun τ3 => some (none, τ3)) (fun r3 τ3 => (if r3 = 0 then some (some (some (.inl 0)), τ3) else some (some (some (.inl 1)), τ3)))) else some (some (some (.inl 1)), (put (sg0) τ1 τ2))))) else (onI (f_X4_fail [.inr (.inl 0), .inl (-11)] τ1) (fun τ2 => some (none, τ2)) (fun r2 τ2 => (if r2 = 0 ∨ r2 = 1 then some (some (some (.inl r2)), τ2) else none)))))) := (lock_ap _ _).trans (e0_X4_readNumber bigM x1 x2 σ)
set_option maxRecDepth 20000 in
theorem e0_X4_readIron (n : Nat) (σ : Mm) : sem0 t_X4_readIron cs_X4_readIron 3 n [.inr (.inl 0)] σ =
  (if (σ 3 0) < 6 then
    (onI (f_X4_readName [.inr (.inl 0)] σ) (fun τ1 => some (none, τ1)) (fun r1 τ1 =>
    (if r1 = 0 then
      some (some (some (.inl 0)), τ1)
    else
      (onI (f_X2_findName [.inr (.inl 0), .inl (τ1 0 10)] (pk (sgC 3 11) τ1)) (fun τ2 => some (none, (put (sgC 3 11) τ1 τ2))) (fun r2 τ2 =>
      (if r2 = (-1) then
        (onI (f_X4_readNumber [.inr (.inl 0), .inl 1, .inl 9] (put (sgC 3 11) τ1 τ2)) (fun τ3 => some (none, τ3)) (fun r3 τ3 =>
        (if r3 = 0 then
          some (some (some (.inl 0)), τ3)
        else
          (onI (f_X4_readNumber [.inr (.inl 0), .inl 1, .inl 99] τ3) (fun τ4 => some (none, τ4)) (fun r4 τ4 =>
          (if r4 = 0 then
            some (some (some (.inl 0)), τ4)
          else
            (onV (f_X2_appendIron [.inr (.inl 0), .inl (τ1 0 10), .inl (τ3 0 10), .inl (τ4 0 10)] (pk (sgC 3 11) τ4)) (fun τ5 => some (none, (put (sgC 3 11) τ4 τ5))) (fun τ5 =>
            some (some (some (.inl 1)), (put (sgC 3 11) τ4 τ5))))))))))
      else
        (onI (f_X4_fail [.inr (.inl 0), .inl (-14)] (put (sgC 3 11) τ1 τ2)) (fun τ3 => some (none, τ3)) (fun r3 τ3 =>
        (if r3 = 0 ∨ r3 = 1 then some (some (some (.inl r3)), τ3) else none)))))))))
  else
    (onI (f_X4_fail [.inr (.inl 0), .inl (-15)] σ) (fun τ1 => some (none, τ1)) (fun r1 τ1 =>
    (if r1 = 0 ∨ r1 = 1 then some (some (some (.inl r1)), τ1) else none)))) := (if_cg (onI_cg (fun _ => rfl) (fun r1 τ1 => (if_cg rfl (onI_cg (fun _ => rfl) (fun r2 τ2 => (if_cg (onI_cg (fun _ => rfl) (fun r3 τ3 => (if_cg rfl (onI_cg (fun _ => rfl) (fun r4 τ4 => (if_cg rfl (onV_cg (fun _ => rfl) (fun τ5 => rfl)))))))) (onI_cg (fun _ => rfl) (fun r3 τ3 => rfl)))))))) (onI_cg (fun _ => rfl) (fun r1 τ1 => rfl)))
theorem e_X4_readIron (σ : Mm) : f_X4_readIron [.inr (.inl 0)] σ = (if (σ 3 0) < 6 then (onI (f_X4_readName [.inr (.inl 0)] σ) (fun τ1 => some (none, τ1)) (fun r1 τ1 => (if r1 = 0 then some (some (some (.inl 0)), τ1) else (onI (f_X2_findName [.inr (.inl 0), .inl (τ1 0 10)] (pk (sgC 3 11) τ1)) (fun τ2 => some (none, (put (sgC 3 11) τ1 τ2))) (fun r2 τ2 => (if r2 = (-1) then (onI (f_X4_readNumber [.inr (.inl 0), .inl 1, .inl 9] (put (sgC 3 11) τ1 τ2)) (fun τ3 => some (none, τ3)) (fun r3 τ3 => (if r3 = 0 then some (some (some (.inl 0)), τ3) else (onI (f_X4_readNumber [.inr (.inl 0), .inl 1, .inl 99] τ3) (fun τ4 => some (none, τ4)) (fun r4 τ4 => (if r4 = 0 then some (some (some (.inl 0)), τ4) else (onV (f_X2_appendIron [.inr (.inl 0), .inl (τ1 0 10), .inl (τ3 0 10), .inl (τ4 0 10)] (pk (sgC 3 11) τ4)) (fun τ5 => some (none, (put (sgC 3 11) τ4 τ5))) (fun τ5 => some (some (some (.inl 1)), (put (sgC 3 11) τ4 τ5)))))))))) else (onI (f_X4_fail [.inr (.inl 0), .inl (-14)] (put (sgC 3 11) τ1 τ2)) (fun τ3 => some (none, τ3)) (fun r3 τ3 => (if r3 = 0 ∨ r3 = 1 then some (some (some (.inl r3)), τ3) else none))))))))) else (onI (f_X4_fail [.inr (.inl 0), .inl (-15)] σ) (fun τ1 => some (none, τ1)) (fun r1 τ1 => (if r1 = 0 ∨ r1 = 1 then some (some (some (.inl r1)), τ1) else none)))) := (lock_ap _ _).trans (e0_X4_readIron bigM σ)
set_option maxRecDepth 20000 in
theorem e0_X4_readStep (n : Nat) (σ : Mm) : sem0 t_X4_readStep cs_X4_readStep 3 n [.inr (.inl 0)] σ =
  (onI (f_X4_readName [.inr (.inl 0)] σ) (fun τ1 => some (none, τ1)) (fun r1 τ1 =>
  (if r1 = 0 then
    some (some (some (.inl 0)), τ1)
  else
    (onI (f_X2_findName [.inr (.inl 0), .inl (τ1 0 10)] (pk (sgC 3 11) τ1)) (fun τ2 => some (none, (put (sgC 3 11) τ1 τ2))) (fun r2 τ2 =>
    (if r2 = (-1) then
      (onI (f_X4_fail [.inr (.inl 0), .inl (-13)] (put (sgC 3 11) τ1 τ2)) (fun τ3 => some (none, τ3)) (fun r3 τ3 =>
      (if r3 = 0 ∨ r3 = 1 then some (some (some (.inl r3)), τ3) else none)))
    else
      (if inb r2 6 = true then
      (if (τ2 4 r2.toNatClampNeg) < 5 then
        (onI (f_X4_readNumber [.inr (.inl 0), .inl 100, .inl 1400] (put (sgC 3 11) τ1 τ2)) (fun τ3 => some (none, τ3)) (fun r3 τ3 =>
        (if r3 = 0 then
          some (some (some (.inl 0)), τ3)
        else
          (onI (f_X4_readNumber [.inr (.inl 0), .inl 1, .inl 30] τ3) (fun τ4 => some (none, τ4)) (fun r4 τ4 =>
          (if r4 = 0 then
            some (some (some (.inl 0)), τ4)
          else
            (onV (f_X2_appendStep [.inr (.inl 0), .inl r2, .inl (τ3 0 10), .inl (τ4 0 10)] (pk (sgC 3 11) τ4)) (fun τ5 => some (none, (put (sgC 3 11) τ4 τ5))) (fun τ5 =>
            some (some (some (.inl 1)), (put (sgC 3 11) τ4 τ5))))))))))
      else
        (onI (f_X4_fail [.inr (.inl 0), .inl (-15)] (put (sgC 3 11) τ1 τ2)) (fun τ3 => some (none, τ3)) (fun r3 τ3 =>
        (if r3 = 0 ∨ r3 = 1 then some (some (some (.inl r3)), τ3) else none))))
      else none))))))) := (onI_cg (fun _ => rfl) (fun r1 τ1 => (if_cg rfl (onI_cg (fun _ => rfl) (fun r2 τ2 => (if_cg (onI_cg (fun _ => rfl) (fun r3 τ3 => rfl)) (if_cg (if_cg (onI_cg (fun _ => rfl) (fun r3 τ3 => (if_cg rfl (onI_cg (fun _ => rfl) (fun r4 τ4 => (if_cg rfl (onV_cg (fun _ => rfl) (fun τ5 => rfl)))))))) (onI_cg (fun _ => rfl) (fun r3 τ3 => rfl))) rfl)))))))
theorem e_X4_readStep (σ : Mm) : f_X4_readStep [.inr (.inl 0)] σ = (onI (f_X4_readName [.inr (.inl 0)] σ) (fun τ1 => some (none, τ1)) (fun r1 τ1 => (if r1 = 0 then some (some (some (.inl 0)), τ1) else (onI (f_X2_findName [.inr (.inl 0), .inl (τ1 0 10)] (pk (sgC 3 11) τ1)) (fun τ2 => some (none, (put (sgC 3 11) τ1 τ2))) (fun r2 τ2 => (if r2 = (-1) then (onI (f_X4_fail [.inr (.inl 0), .inl (-13)] (put (sgC 3 11) τ1 τ2)) (fun τ3 => some (none, τ3)) (fun r3 τ3 => (if r3 = 0 ∨ r3 = 1 then some (some (some (.inl r3)), τ3) else none))) else (if inb r2 6 = true then (if (τ2 4 r2.toNatClampNeg) < 5 then (onI (f_X4_readNumber [.inr (.inl 0), .inl 100, .inl 1400] (put (sgC 3 11) τ1 τ2)) (fun τ3 => some (none, τ3)) (fun r3 τ3 => (if r3 = 0 then some (some (some (.inl 0)), τ3) else (onI (f_X4_readNumber [.inr (.inl 0), .inl 1, .inl 30] τ3) (fun τ4 => some (none, τ4)) (fun r4 τ4 => (if r4 = 0 then some (some (some (.inl 0)), τ4) else (onV (f_X2_appendStep [.inr (.inl 0), .inl r2, .inl (τ3 0 10), .inl (τ4 0 10)] (pk (sgC 3 11) τ4)) (fun τ5 => some (none, (put (sgC 3 11) τ4 τ5))) (fun τ5 => some (some (some (.inl 1)), (put (sgC 3 11) τ4 τ5)))))))))) else (onI (f_X4_fail [.inr (.inl 0), .inl (-15)] (put (sgC 3 11) τ1 τ2)) (fun τ3 => some (none, τ3)) (fun r3 τ3 => (if r3 = 0 ∨ r3 = 1 then some (some (some (.inl r3)), τ3) else none)))) else none))))))) := (lock_ap _ _).trans (e0_X4_readStep bigM σ)
set_option maxRecDepth 20000 in
theorem e0_X4_readPlace (n : Nat) (σ : Mm) : sem0 t_X4_readPlace cs_X4_readPlace 2 n [.inr (.inl 0)] σ =
  (if (σ 3 1) < 3 then
    (onI (f_X4_readNumber [.inr (.inl 0), .inl 1, .inl 2000] σ) (fun τ1 => some (none, τ1)) (fun r1 τ1 =>
    (if r1 = 0 then
      some (some (some (.inl 0)), τ1)
    else
      (onI (f_X4_readNumber [.inr (.inl 0), .inl 100, .inl 1500] τ1) (fun τ2 => some (none, τ2)) (fun r2 τ2 =>
      (if r2 = 0 then
        some (some (some (.inl 0)), τ2)
      else
        (onV (f_X2_appendPlace [.inr (.inl 0), .inl (τ1 0 10), .inl (τ2 0 10)] (pk (sgC 3 11) τ2)) (fun τ3 => some (none, (put (sgC 3 11) τ2 τ3))) (fun τ3 =>
        some (some (some (.inl 1)), (put (sgC 3 11) τ2 τ3))))))))))
  else
    (onI (f_X4_fail [.inr (.inl 0), .inl (-15)] σ) (fun τ1 => some (none, τ1)) (fun r1 τ1 =>
    (if r1 = 0 ∨ r1 = 1 then some (some (some (.inl r1)), τ1) else none)))) := (if_cg (onI_cg (fun _ => rfl) (fun r1 τ1 => (if_cg rfl (onI_cg (fun _ => rfl) (fun r2 τ2 => (if_cg rfl (onV_cg (fun _ => rfl) (fun τ3 => rfl)))))))) (onI_cg (fun _ => rfl) (fun r1 τ1 => rfl)))
theorem e_X4_readPlace (σ : Mm) : f_X4_readPlace [.inr (.inl 0)] σ = (if (σ 3 1) < 3 then (onI (f_X4_readNumber [.inr (.inl 0), .inl 1, .inl 2000] σ) (fun τ1 => some (none, τ1)) (fun r1 τ1 => (if r1 = 0 then some (some (some (.inl 0)), τ1) else (onI (f_X4_readNumber [.inr (.inl 0), .inl 100, .inl 1500] τ1) (fun τ2 => some (none, τ2)) (fun r2 τ2 => (if r2 = 0 then some (some (some (.inl 0)), τ2) else (onV (f_X2_appendPlace [.inr (.inl 0), .inl (τ1 0 10), .inl (τ2 0 10)] (pk (sgC 3 11) τ2)) (fun τ3 => some (none, (put (sgC 3 11) τ2 τ3))) (fun τ3 => some (some (some (.inl 1)), (put (sgC 3 11) τ2 τ3)))))))))) else (onI (f_X4_fail [.inr (.inl 0), .inl (-15)] σ) (fun τ1 => some (none, τ1)) (fun r1 τ1 => (if r1 = 0 ∨ r1 = 1 then some (some (some (.inl r1)), τ1) else none)))) := (lock_ap _ _).trans (e0_X4_readPlace bigM σ)
noncomputable def b_X4_readSetting_23 (n : Nat) (s0 : Int32) (σ : Mm) : Option Ou := rn t_X4_readSetting cs_X4_readSetting n 23 [(0, .inr (.inl 0))] [.inl s0] σ
set_option maxRecDepth 20000 in
theorem e_X4_readSetting_23 (n : Nat) (s0 : Int32) (σ : Mm) : b_X4_readSetting_23 (n + 1) s0 σ =
  (if s0 = (-1) then
    (onI (f_X4_fail [.inr (.inl 0), .inl (-11)] σ) (fun τ1 => some (none, τ1)) (fun r1 τ1 =>
    (if r1 = 0 ∨ r1 = 1 then some (some (some (.inl r1)), τ1) else none)))
  else
    (if inb s0 3 = true then
    (if (σ 2 s0.toNatClampNeg) = 0 then
      (if inb s0 3 = true then
      (if inb s0 3 = true then
      (onI (f_X4_readNumber [.inr (.inl 0), .inl (stv 0 s0.toNatClampNeg), .inl (stv 1 s0.toNatClampNeg)] σ) (fun τ1 => some (none, τ1)) (fun r1 τ1 =>
      (if r1 = 0 then
        some (some (some (.inl 0)), τ1)
      else
        (if inb s0 3 = true then
        (if inb s0 3 = true then
        some (some (some (.inl 1)), (wr (wr τ1 2 s0.toNatClampNeg 1) 12 s0.toNatClampNeg (τ1 0 10)))
        else none)
        else none))))
      else none)
      else none)
    else
      (onI (f_X4_fail [.inr (.inl 0), .inl (-14)] σ) (fun τ1 => some (none, τ1)) (fun r1 τ1 =>
      (if r1 = 0 ∨ r1 = 1 then some (some (some (.inl r1)), τ1) else none))))
    else none)) := (if_cg (onI_cg (fun _ => rfl) (fun r1 τ1 => rfl)) (if_cg (if_cg (if_cg (if_cg (onI_cg (fun _ => rfl) (fun r1 τ1 => (if_cg rfl (if_cg (if_cg rfl rfl) rfl)))) rfl) rfl) (onI_cg (fun _ => rfl) (fun r1 τ1 => rfl))) rfl))
set_option maxRecDepth 20000 in
theorem e0_X4_readSetting (n : Nat) (σ : Mm) : sem0 t_X4_readSetting cs_X4_readSetting 2 n [.inr (.inl 0)] σ =
  (onV (f_X4_nextToken [.inr (.inl 0)] σ) (fun τ1 => some (none, τ1)) (fun τ1 =>
  (if (τ1 0 9) = 1 then
    (onI (f_X4_settingOfWord [.inl (τ1 0 10)] (pk (sg0) τ1)) (fun τ2 => some (none, (put (sg0) τ1 τ2))) (fun r2 τ2 =>
    (b_X4_readSetting_23 n r2 (put (sg0) τ1 τ2))))
  else
    (b_X4_readSetting_23 n (-1) τ1)))) := (onV_cg (fun _ => rfl) (fun τ1 => (if_cg (onI_cg (fun _ => rfl) (fun r2 τ2 => rfl)) rfl)))
theorem e_X4_readSetting (σ : Mm) : f_X4_readSetting [.inr (.inl 0)] σ = (onV (f_X4_nextToken [.inr (.inl 0)] σ) (fun τ1 => some (none, τ1)) (fun τ1 => (if (τ1 0 9) = 1 then (onI (f_X4_settingOfWord [.inl (τ1 0 10)] (pk (sg0) τ1)) (fun τ2 => some (none, (put (sg0) τ1 τ2))) (fun r2 τ2 => (b_X4_readSetting_23 bigM r2 (put (sg0) τ1 τ2)))) else (b_X4_readSetting_23 bigM (-1) τ1)))) := (lock_ap _ _).trans (e0_X4_readSetting bigM σ)
set_option maxRecDepth 20000 in
theorem e0_X4_readStatement (n : Nat) (σ : Mm) : sem0 t_X4_readStatement cs_X4_readStatement 1 n [.inr (.inl 0)] σ =
  (if (σ 0 9) = 1 then
    (if (σ 0 10) = 321370112 then (onI (f_X4_readIron [.inr (.inl 0)] σ) (fun τ1 => some (none, τ1)) (fun r1 τ1 =>
      (if r1 = 0 ∨ r1 = 1 then some (some (some (.inl r1)), τ1) else none))) else (if (σ 0 10) = 549489824 then (onI (f_X4_readPlace [.inr (.inl 0)] σ) (fun τ1 => some (none, τ1)) (fun r1 τ1 =>
      (if r1 = 0 ∨ r1 = 1 then some (some (some (.inl r1)), τ1) else none))) else (if (σ 0 10) = 643432448 then (onI (f_X4_readSetting [.inr (.inl 0)] σ) (fun τ1 => some (none, τ1)) (fun r1 τ1 =>
      (if r1 = 0 ∨ r1 = 1 then some (some (some (.inl r1)), τ1) else none))) else (if (σ 0 10) = 658685952 then (onI (f_X4_readStep [.inr (.inl 0)] σ) (fun τ1 => some (none, τ1)) (fun r1 τ1 =>
      (if r1 = 0 ∨ r1 = 1 then some (some (some (.inl r1)), τ1) else none))) else (onI (f_X4_fail [.inr (.inl 0), .inl (-11)] σ) (fun τ1 => some (none, τ1)) (fun r1 τ1 =>
      (if r1 = 0 ∨ r1 = 1 then some (some (some (.inl r1)), τ1) else none)))))))
  else
    (onI (f_X4_fail [.inr (.inl 0), .inl (-11)] σ) (fun τ1 => some (none, τ1)) (fun r1 τ1 =>
    (if r1 = 0 ∨ r1 = 1 then some (some (some (.inl r1)), τ1) else none)))) := (if_cg (if_cg (onI_cg (fun _ => rfl) (fun r1 τ1 => rfl)) (if_cg (onI_cg (fun _ => rfl) (fun r1 τ1 => rfl)) (if_cg (onI_cg (fun _ => rfl) (fun r1 τ1 => rfl)) (if_cg (onI_cg (fun _ => rfl) (fun r1 τ1 => rfl)) (onI_cg (fun _ => rfl) (fun r1 τ1 => rfl)))))) (onI_cg (fun _ => rfl) (fun r1 τ1 => rfl)))
theorem e_X4_readStatement (σ : Mm) : f_X4_readStatement [.inr (.inl 0)] σ = (if (σ 0 9) = 1 then (if (σ 0 10) = 321370112 then (onI (f_X4_readIron [.inr (.inl 0)] σ) (fun τ1 => some (none, τ1)) (fun r1 τ1 => (if r1 = 0 ∨ r1 = 1 then some (some (some (.inl r1)), τ1) else none))) else (if (σ 0 10) = 549489824 then (onI (f_X4_readPlace [.inr (.inl 0)] σ) (fun τ1 => some (none, τ1)) (fun r1 τ1 => (if r1 = 0 ∨ r1 = 1 then some (some (some (.inl r1)), τ1) else none))) else (if (σ 0 10) = 643432448 then (onI (f_X4_readSetting [.inr (.inl 0)] σ) (fun τ1 => some (none, τ1)) (fun r1 τ1 => (if r1 = 0 ∨ r1 = 1 then some (some (some (.inl r1)), τ1) else none))) else (if (σ 0 10) = 658685952 then (onI (f_X4_readStep [.inr (.inl 0)] σ) (fun τ1 => some (none, τ1)) (fun r1 τ1 => (if r1 = 0 ∨ r1 = 1 then some (some (some (.inl r1)), τ1) else none))) else (onI (f_X4_fail [.inr (.inl 0), .inl (-11)] σ) (fun τ1 => some (none, τ1)) (fun r1 τ1 => (if r1 = 0 ∨ r1 = 1 then some (some (some (.inl r1)), τ1) else none))))))) else (onI (f_X4_fail [.inr (.inl 0), .inl (-11)] σ) (fun τ1 => some (none, τ1)) (fun r1 τ1 => (if r1 = 0 ∨ r1 = 1 then some (some (some (.inl r1)), τ1) else none)))) := (lock_ap _ _).trans (e0_X4_readStatement bigM σ)
set_option maxRecDepth 20000 in
theorem e0_X4_readSemicolon (n : Nat) (σ : Mm) : sem0 t_X4_readSemicolon cs_X4_readSemicolon 1 n [.inr (.inl 0)] σ =
  (onV (f_X4_nextToken [.inr (.inl 0)] σ) (fun τ1 => some (none, τ1)) (fun τ1 =>
  (if (τ1 0 9) = 3 then
    some (some (some (.inl 1)), τ1)
  else
    (onI (f_X4_fail [.inr (.inl 0), .inl (-11)] τ1) (fun τ2 => some (none, τ2)) (fun r2 τ2 =>
    (if r2 = 0 then
      some (some (some (.inl 0)), τ2)
    else
      some (some (some (.inl 1)), τ2))))))) := (onV_cg (fun _ => rfl) (fun τ1 => (if_cg rfl (onI_cg (fun _ => rfl) (fun r2 τ2 => (if_cg rfl rfl))))))
theorem e_X4_readSemicolon (σ : Mm) : f_X4_readSemicolon [.inr (.inl 0)] σ = (onV (f_X4_nextToken [.inr (.inl 0)] σ) (fun τ1 => some (none, τ1)) (fun τ1 => (if (τ1 0 9) = 3 then some (some (some (.inl 1)), τ1) else (onI (f_X4_fail [.inr (.inl 0), .inl (-11)] τ1) (fun τ2 => some (none, τ2)) (fun r2 τ2 => (if r2 = 0 then some (some (some (.inl 0)), τ2) else some (some (some (.inl 1)), τ2))))))) := (lock_ap _ _).trans (e0_X4_readSemicolon bigM σ)
noncomputable def b_X4_readText_11 (n : Nat) (x1 x2 : Int32) (σ : Mm) : Option Ou := rn t_X4_readText cs_X4_readText n 11 [(0, .inr (.inl 0)), (1, .inl x1), (2, .inl x2)] [] σ
set_option maxRecDepth 20000 in
theorem e_X4_readText_11 (n : Nat) (x1 x2 : Int32) (σ : Mm) : b_X4_readText_11 (n + 1) x1 x2 σ =
  (if (σ 0 9) = 0 then
    some (some (some (.inl x2)), σ)
  else
    (if x2 < x1 then
      (onI (f_X4_readStatement [.inr (.inl 0)] σ) (fun τ1 => some (none, τ1)) (fun r1 τ1 =>
      (if r1 = 0 then
        some (some (some (.inl (τ1 0 5))), τ1)
      else
        (onI (f_X4_readSemicolon [.inr (.inl 0)] τ1) (fun τ2 => some (none, τ2)) (fun r2 τ2 =>
        (if r2 = 0 then
          some (some (some (.inl (τ2 0 5))), τ2)
        else
          (onV (f_X4_nextToken [.inr (.inl 0)] τ2) (fun τ3 => some (none, τ3)) (fun τ3 =>
          (b_X4_readText_11 n x1 (x2 + 1) τ3)))))))))
    else
      some (some (some (.inl x2)), σ))) := (if_cg rfl (if_cg (onI_cg (fun _ => rfl) (fun r1 τ1 => (if_cg rfl (onI_cg (fun _ => rfl) (fun r2 τ2 => (if_cg rfl (onV_cg (fun _ => rfl) (fun τ3 => rfl)))))))) rfl))
set_option maxRecDepth 20000 in
theorem e0_X4_readText (n : Nat) (x1 : Int32) (σ : Mm) : sem0 t_X4_readText cs_X4_readText 3 n [.inr (.inl 0), .inl x1] σ =
  (onV (f_X4_beginText [.inr (.inl 0), .inl x1] σ) (fun τ1 => some (none, τ1)) (fun τ1 =>
  (onV (f_X4_nextToken [.inr (.inl 0)] τ1) (fun τ2 => some (none, τ2)) (fun τ2 =>
  (b_X4_readText_11 n x1 0 τ2))))) := (onV_cg (fun _ => rfl) (fun τ1 => (onV_cg (fun _ => rfl) (fun τ2 => rfl))))
theorem e_X4_readText (x1 : Int32) (σ : Mm) : f_X4_readText [.inr (.inl 0), .inl x1] σ = (onV (f_X4_beginText [.inr (.inl 0), .inl x1] σ) (fun τ1 => some (none, τ1)) (fun τ1 => (onV (f_X4_nextToken [.inr (.inl 0)] τ1) (fun τ2 => some (none, τ2)) (fun τ2 => (b_X4_readText_11 bigM x1 0 τ2))))) := (lock_ap _ _).trans (e0_X4_readText bigM x1 σ)
