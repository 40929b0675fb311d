set_option maxRecDepth 20000 in
theorem e0_X7_thrown (n : Nat) (σ : Mm) : sem0 t_X7_thrown cs_X7_thrown 1 n [.inr (.inl 0)] σ =
  some (some (some (.inl (σ 0 0))), σ) := rfl
theorem e_X7_thrown (σ : Mm) : f_X7_thrown [.inr (.inl 0)] σ = some (some (some (.inl (σ 0 0))), σ) := (lock_ap _ _).trans (e0_X7_thrown bigM σ)
noncomputable def b_X7_feed_24 (n : Nat) (x1 x2 x3 x4 x5 x6 : Int32) (σ : Mm) : Option Ou := rn t_X7_feed cs_X7_feed n 24 [(0, .inr (.inl 0)), (1, .inl x1), (2, .inl x2), (3, .inl x3), (4, .inl x4), (5, .inl x5), (6, .inl x6)] [] σ
noncomputable def b_X7_feed_77 (n : Nat) (x1 x2 x3 x4 x5 x6 s0 : Int32) (σ : Mm) : Option Ou := rn t_X7_feed cs_X7_feed n 77 [(0, .inr (.inl 0)), (1, .inl x1), (2, .inl x2), (3, .inl x3), (4, .inl x4), (5, .inl x5), (6, .inl x6)] [.inl s0] σ
set_option maxRecDepth 20000 in
theorem e_X7_feed_24 (n : Nat) (x1 x2 x3 x4 x5 x6 : Int32) (σ : Mm) : b_X7_feed_24 (n + 1) x1 x2 x3 x4 x5 x6 σ =
  (if x6 < 20 then
    (if x6 < 4 then
      (b_X7_feed_77 n x1 x2 x3 x4 x5 x6 x1 σ)
    else
      (if x6 < 8 then
        (b_X7_feed_77 n x1 x2 x3 x4 x5 x6 x2 σ)
      else
        (if x6 < 12 then
          (b_X7_feed_77 n x1 x2 x3 x4 x5 x6 x3 σ)
        else
          (if x6 < 16 then
            (b_X7_feed_77 n x1 x2 x3 x4 x5 x6 x4 σ)
          else
            (b_X7_feed_77 n x1 x2 x3 x4 x5 x6 x5 σ)))))
  else
    some (some (some (.inl ((σ 0 2) + 20))), (wr σ 0 2 ((σ 0 2) + 20)))) := (if_cg (if_cg rfl (if_cg rfl (if_cg rfl (if_cg rfl rfl)))) rfl)
set_option maxRecDepth 20000 in
theorem e_X7_feed_77 (n : Nat) (x1 x2 x3 x4 x5 x6 s0 : Int32) (σ : Mm) : b_X7_feed_77 (n + 1) x1 x2 x3 x4 x5 x6 s0 σ =
  (if inb ((σ 0 2) + x6) 900 = true then
  (b_X7_feed_24 n x1 x2 x3 x4 x5 (x6 + 1) (wr σ 1 ((σ 0 2) + x6).toNatClampNeg ((s0 >>> ((24 - (8 * (x6 - x6 / 4 * 4))) &&& 31)) &&& 255)))
  else none) := (if_cg rfl rfl)
set_option maxRecDepth 20000 in
theorem e0_X7_feed (n : Nat) (x1 x2 x3 x4 x5 : Int32) (σ : Mm) : sem0 t_X7_feed cs_X7_feed 8 n [.inr (.inl 0), .inl x1, .inl x2, .inl x3, .inl x4, .inl x5] σ =
  (if 900 < ((σ 0 2) + 20) then
    some (some (some (.inl (-3))), (wr σ 0 0 0))
  else
    (b_X7_feed_24 n x1 x2 x3 x4 x5 0 (wr σ 0 0 0))) := (if_cg rfl rfl)
theorem e_X7_feed (x1 x2 x3 x4 x5 : Int32) (σ : Mm) : f_X7_feed [.inr (.inl 0), .inl x1, .inl x2, .inl x3, .inl x4, .inl x5] σ = (if 900 < ((σ 0 2) + 20) then some (some (some (.inl (-3))), (wr σ 0 0 0)) else (b_X7_feed_24 bigM x1 x2 x3 x4 x5 0 (wr σ 0 0 0))) := (lock_ap _ _).trans (e0_X7_feed bigM x1 x2 x3 x4 x5 σ)
noncomputable def b_X7_newForge_2 (n : Nat) (x1 : Int32) (σ : Mm) : Option Ou := rn t_X7_newForge cs_X7_newForge n 2 [(0, .inr (.inl 0)), (1, .inl x1)] [] σ
noncomputable def b_X7_newForge_23 (n : Nat) (x1 : Int32) (σ : Mm) : Option Ou := rn t_X7_newForge cs_X7_newForge n 23 [(0, .inr (.inl 0)), (1, .inl x1)] [] σ
noncomputable def b_X7_newForge_44 (n : Nat) (x1 : Int32) (σ : Mm) : Option Ou := rn t_X7_newForge cs_X7_newForge n 44 [(0, .inr (.inl 0)), (1, .inl x1)] [] σ
set_option maxRecDepth 20000 in
theorem e_X7_newForge_2 (n : Nat) (x1 : Int32) (σ : Mm) : b_X7_newForge_2 (n + 1) x1 σ =
  (if x1 < 20 then
    (if inb x1 20 = true then
    (b_X7_newForge_2 n (x1 + 1) (wr σ 3 x1.toNatClampNeg 0))
    else none)
  else
    (b_X7_newForge_23 n 0 σ)) := (if_cg (if_cg rfl rfl) rfl)
set_option maxRecDepth 20000 in
theorem e_X7_newForge_23 (n : Nat) (x1 : Int32) (σ : Mm) : b_X7_newForge_23 (n + 1) x1 σ =
  (if x1 < 81 then
    (if inb x1 81 = true then
    (b_X7_newForge_23 n (x1 + 1) (wr σ 5 x1.toNatClampNeg 0))
    else none)
  else
    (b_X7_newForge_44 n 0 σ)) := (if_cg (if_cg rfl rfl) rfl)
set_option maxRecDepth 20000 in
theorem e_X7_newForge_44 (n : Nat) (x1 : Int32) (σ : Mm) : b_X7_newForge_44 (n + 1) x1 σ =
  (if x1 < 6 then
    (if inb (72 + x1) 81 = true then
    (b_X7_newForge_44 n (x1 + 1) (wr σ 5 (72 + x1).toNatClampNeg x1))
    else none)
  else
    some (some none, (wr (wr (wr (wr σ 5 78 1) 5 79 50) 0 19 0) 0 18 0))) := (if_cg (if_cg rfl rfl) rfl)
set_option maxRecDepth 20000 in
theorem e0_X7_newForge (n : Nat) (σ : Mm) : sem0 t_X7_newForge cs_X7_newForge 2 n [.inr (.inl 0)] σ =
  (b_X7_newForge_2 n 0 σ) := rfl
theorem e_X7_newForge (σ : Mm) : f_X7_newForge [.inr (.inl 0)] σ = (b_X7_newForge_2 bigM 0 σ) := (lock_ap _ _).trans (e0_X7_newForge bigM σ)
noncomputable def b_X7_takes_2 (n : Nat) (x1 : Int32) (σ : Mm) : Option Ou := rn t_X7_takes cs_X7_takes n 2 [(0, .inr (.inl 0)), (1, .inl x1)] [] σ
noncomputable def b_X7_takes_28 (n : Nat) (x1 : Int32) (σ : Mm) : Option Ou := rn t_X7_takes cs_X7_takes n 28 [(0, .inr (.inl 0)), (1, .inl x1)] [] σ
set_option maxRecDepth 20000 in
theorem e_X7_takes_2 (n : Nat) (x1 : Int32) (σ : Mm) : b_X7_takes_2 (n + 1) x1 σ =
  (if x1 < 20 then
    (if inb x1 20 = true then
    (if inb x1 20 = true then
    (b_X7_takes_2 n (x1 + 1) (wr σ 2 x1.toNatClampNeg (σ 3 x1.toNatClampNeg)))
    else none)
    else none)
  else
    (b_X7_takes_28 n 0 σ)) := (if_cg (if_cg (if_cg rfl rfl) rfl) rfl)
set_option maxRecDepth 20000 in
theorem e_X7_takes_28 (n : Nat) (x1 : Int32) (σ : Mm) : b_X7_takes_28 (n + 1) x1 σ =
  (if x1 < 81 then
    (if inb x1 81 = true then
    (if inb x1 81 = true then
    (b_X7_takes_28 n (x1 + 1) (wr σ 4 x1.toNatClampNeg (σ 5 x1.toNatClampNeg)))
    else none)
    else none)
  else
    some (some none, (wr (wr (wr σ 0 8 0) 0 37 0) 0 38 0))) := (if_cg (if_cg (if_cg rfl rfl) rfl) rfl)
set_option maxRecDepth 20000 in
theorem e0_X7_takes (n : Nat) (σ : Mm) : sem0 t_X7_takes cs_X7_takes 2 n [.inr (.inl 0)] σ =
  (b_X7_takes_2 n 0 σ) := rfl
theorem e_X7_takes (σ : Mm) : f_X7_takes [.inr (.inl 0)] σ = (b_X7_takes_2 bigM 0 σ) := (lock_ap _ _).trans (e0_X7_takes bigM σ)
set_option maxRecDepth 20000 in
theorem e0_X7_here (n : Nat) (σ : Mm) : sem0 t_X7_here cs_X7_here 1 n [.inr (.inl 0)] σ =
  (if (σ 0 10) < (σ 0 9) then
    (if inb (σ 0 10) 900 = true then
    some (some (some (.inl (σ 1 (σ 0 10).toNatClampNeg))), σ)
    else none)
  else
    some (some (some (.inl (-1))), σ)) := (if_cg (if_cg rfl rfl) rfl)
theorem e_X7_here (σ : Mm) : f_X7_here [.inr (.inl 0)] σ = (if (σ 0 10) < (σ 0 9) then (if inb (σ 0 10) 900 = true then some (some (some (.inl (σ 1 (σ 0 10).toNatClampNeg))), σ) else none) else some (some (some (.inl (-1))), σ)) := (lock_ap _ _).trans (e0_X7_here bigM σ)
set_option maxRecDepth 20000 in
theorem e0_X7_isSmall (n : Nat) (x0 : Int32) (σ : Mm) : sem0 t_X7_isSmall cs_X7_isSmall 1 n [.inl x0] σ =
  (if x0 < 97 then
    some (some (some (.inl 0)), σ)
  else
    (if 122 < x0 then
      some (some (some (.inl 0)), σ)
    else
      some (some (some (.inl 1)), σ))) := (if_cg rfl (if_cg rfl rfl))
theorem e_X7_isSmall (x0 : Int32) (σ : Mm) : f_X7_isSmall [.inl x0] σ = (if x0 < 97 then some (some (some (.inl 0)), σ) else (if 122 < x0 then some (some (some (.inl 0)), σ) else some (some (some (.inl 1)), σ))) := (lock_ap _ _).trans (e0_X7_isSmall bigM x0 σ)
set_option maxRecDepth 20000 in
theorem e0_X7_isDigit (n : Nat) (x0 : Int32) (σ : Mm) : sem0 t_X7_isDigit cs_X7_isDigit 1 n [.inl x0] σ =
  (if x0 < 48 then
    some (some (some (.inl 0)), σ)
  else
    (if 57 < x0 then
      some (some (some (.inl 0)), σ)
    else
      some (some (some (.inl 1)), σ))) := (if_cg rfl (if_cg rfl rfl))
theorem e_X7_isDigit (x0 : Int32) (σ : Mm) : f_X7_isDigit [.inl x0] σ = (if x0 < 48 then some (some (some (.inl 0)), σ) else (if 57 < x0 then some (some (some (.inl 0)), σ) else some (some (some (.inl 1)), σ))) := (lock_ap _ _).trans (e0_X7_isDigit bigM x0 σ)
noncomputable def b_X7_wordHere_4 (n : Nat) (x1 x2 : Int32) (σ : Mm) : Option Ou := rn t_X7_wordHere cs_X7_wordHere n 4 [(0, .inr (.inl 0)), (1, .inl x1), (2, .inl x2)] [] σ
noncomputable def b_X7_wordHere_15 (n : Nat) (x1 x2 x3 : Int32) (σ : Mm) : Option Ou := rn t_X7_wordHere cs_X7_wordHere n 15 [(0, .inr (.inl 0)), (1, .inl x1), (2, .inl x2), (3, .inl x3)] [] σ
noncomputable def b_X7_wordHere_69 (n : Nat) (x1 x2 x3 : Int32) (σ : Mm) : Option Ou := rn t_X7_wordHere cs_X7_wordHere n 69 [(0, .inr (.inl 0)), (1, .inl x1), (2, .inl x2), (3, .inl x3)] [] σ
noncomputable def b_X7_wordHere_97 (n : Nat) (x1 x2 : Int32) (σ : Mm) : Option Ou := rn t_X7_wordHere cs_X7_wordHere n 97 [(0, .inr (.inl 0)), (1, .inl x1), (2, .inl x2)] [] σ
set_option maxRecDepth 20000 in
theorem e_X7_wordHere_4 (n : Nat) (x1 x2 : Int32) (σ : Mm) : b_X7_wordHere_4 (n + 1) x1 x2 σ =
  (if x2 < 39 then
    (b_X7_wordHere_15 n x1 x2 0 σ)
  else
    some (some (some (.inl (-1))), σ)) := (if_cg rfl rfl)
set_option maxRecDepth 20000 in
theorem e_X7_wordHere_15 (n : Nat) (x1 x2 x3 : Int32) (σ : Mm) : b_X7_wordHere_15 (n + 1) x1 x2 x3 σ =
  (if inb (x2 + x3) 39 = true then
  (if (wch (x2 + x3).toNatClampNeg) = 32 then
    (b_X7_wordHere_69 n x1 x2 x3 σ)
  else
    (if ((σ 0 11) + x3) < (σ 0 10) then
      (if inb ((σ 0 11) + x3) 900 = true then
      (if inb (x2 + x3) 39 = true then
      (if (σ 1 ((σ 0 11) + x3).toNatClampNeg) = (wch (x2 + x3).toNatClampNeg) then
        (b_X7_wordHere_15 n x1 x2 (x3 + 1) σ)
      else
        (b_X7_wordHere_69 n x1 x2 x3 σ))
      else none)
      else none)
    else
      (b_X7_wordHere_69 n x1 x2 x3 σ)))
  else none) := (if_cg (if_cg rfl (if_cg (if_cg (if_cg (if_cg rfl rfl) rfl) rfl) rfl)) rfl)
set_option maxRecDepth 20000 in
theorem e_X7_wordHere_69 (n : Nat) (x1 x2 x3 : Int32) (σ : Mm) : b_X7_wordHere_69 (n + 1) x1 x2 x3 σ =
  (if inb (x2 + x3) 39 = true then
  (if (wch (x2 + x3).toNatClampNeg) = 32 then
    (if ((σ 0 11) + x3) = (σ 0 10) then
      some (some (some (.inl x1)), σ)
    else
      (b_X7_wordHere_97 n x1 x2 σ))
  else
    (b_X7_wordHere_97 n x1 x2 σ))
  else none) := (if_cg (if_cg (if_cg rfl rfl) rfl) rfl)
set_option maxRecDepth 20000 in
theorem e_X7_wordHere_97 (n : Nat) (x1 x2 : Int32) (σ : Mm) : b_X7_wordHere_97 (n + 1) x1 x2 σ =
  (if inb x2 39 = true then
  (if (wch x2.toNatClampNeg) = 32 then
    (b_X7_wordHere_4 n (x1 + 1) (x2 + 1) σ)
  else
    (b_X7_wordHere_97 n x1 (x2 + 1) σ))
  else none) := (if_cg (if_cg rfl rfl) rfl)
set_option maxRecDepth 20000 in
theorem e0_X7_wordHere (n : Nat) (σ : Mm) : sem0 t_X7_wordHere cs_X7_wordHere 4 n [.inr (.inl 0)] σ =
  (b_X7_wordHere_4 n 0 0 σ) := rfl
theorem e_X7_wordHere (σ : Mm) : f_X7_wordHere [.inr (.inl 0)] σ = (b_X7_wordHere_4 bigM 0 0 σ) := (lock_ap _ _).trans (e0_X7_wordHere bigM σ)
noncomputable def b_X7_next_0 (n : Nat) (σ : Mm) : Option Ou := rn t_X7_next cs_X7_next n 0 [(0, .inr (.inl 0))] [] σ
noncomputable def b_X7_next_120 (n : Nat) (σ : Mm) : Option Ou := rn t_X7_next cs_X7_next n 120 [(0, .inr (.inl 0))] [] σ
noncomputable def b_X7_next_64 (n : Nat) (σ : Mm) : Option Ou := rn t_X7_next cs_X7_next n 64 [(0, .inr (.inl 0))] [] σ
set_option maxRecDepth 20000 in
theorem e_X7_next_0 (n : Nat) (σ : Mm) : b_X7_next_0 (n + 1)  σ =
  (onI (f_X7_here [.inr (.inl 0)] σ) (fun τ1 => some (none, τ1)) (fun r1 τ1 =>
  (if r1 = 10 then
    (b_X7_next_0 n  (wr τ1 0 10 ((τ1 0 10) + 1)))
  else
    (onI (f_X7_here [.inr (.inl 0)] τ1) (fun τ2 => some (none, τ2)) (fun r2 τ2 =>
    (if r2 = 32 then
      (b_X7_next_0 n  (wr τ2 0 10 ((τ2 0 10) + 1)))
    else
      (onI (f_X7_here [.inr (.inl 0)] (wr τ2 0 11 (τ2 0 10))) (fun τ3 => some (none, τ3)) (fun r3 τ3 =>
      (if r3 = (-1) then
        some (some none, (wr τ3 0 12 3))
      else
        (onI (f_X7_isSmall [.inl r3] (pk (sg0) τ3)) (fun τ4 => some (none, (put (sg0) τ3 τ4))) (fun r4 τ4 =>
        (if r4 = 0 then
          (onI (f_X7_isDigit [.inl r3] (pk (sg0) (put (sg0) τ3 τ4))) (fun τ5 => some (none, (put (sg0) (put (sg0) τ3 τ4) τ5))) (fun r5 τ5 =>
          (if r5 = 0 then
            (if r3 = 59 then
              some (some none, (wr (wr (put (sg0) (put (sg0) τ3 τ4) τ5) 0 12 2) 0 10 ((τ3 0 10) + 1)))
            else
              some (some none, (wr (wr (put (sg0) (put (sg0) τ3 τ4) τ5) 0 12 4) 0 10 ((τ3 0 10) + 1))))
          else
            (b_X7_next_120 n  (wr (wr (put (sg0) (put (sg0) τ3 τ4) τ5) 0 12 1) 0 13 0)))))
        else
          (b_X7_next_64 n  (put (sg0) τ3 τ4)))))))))))))) := (onI_cg (fun _ => rfl) (fun r1 τ1 => (if_cg rfl (onI_cg (fun _ => rfl) (fun r2 τ2 => (if_cg rfl (onI_cg (fun _ => rfl) (fun r3 τ3 => (if_cg rfl (onI_cg (fun _ => rfl) (fun r4 τ4 => (if_cg (onI_cg (fun _ => rfl) (fun r5 τ5 => (if_cg (if_cg rfl rfl) rfl))) rfl))))))))))))
set_option maxRecDepth 20000 in
theorem e_X7_next_120 (n : Nat) (σ : Mm) : b_X7_next_120 (n + 1)  σ =
  (onI (f_X7_here [.inr (.inl 0)] σ) (fun τ1 => some (none, τ1)) (fun r1 τ1 =>
  (onI (f_X7_isDigit [.inl r1] (pk (sg0) τ1)) (fun τ2 => some (none, (put (sg0) τ1 τ2))) (fun r2 τ2 =>
  (if r2 = 0 then
    some (some none, (put (sg0) τ1 τ2))
  else
    (if 100000 < (τ1 0 13) then
      (b_X7_next_120 n  (wr (wr (put (sg0) τ1 τ2) 0 13 (τ1 0 13)) 0 10 ((τ1 0 10) + 1)))
    else
      (onI (f_X7_here [.inr (.inl 0)] (put (sg0) τ1 τ2)) (fun τ3 => some (none, τ3)) (fun r3 τ3 =>
      (b_X7_next_120 n  (wr (wr τ3 0 13 (((10 * (τ1 0 13)) + r3) - 48)) 0 10 ((τ3 0 10) + 1))))))))))) := (onI_cg (fun _ => rfl) (fun r1 τ1 => (onI_cg (fun _ => rfl) (fun r2 τ2 => (if_cg rfl (if_cg rfl (onI_cg (fun _ => rfl) (fun r3 τ3 => rfl))))))))
set_option maxRecDepth 20000 in
theorem e_X7_next_64 (n : Nat) (σ : Mm) : b_X7_next_64 (n + 1)  σ =
  (onI (f_X7_here [.inr (.inl 0)] σ) (fun τ1 => some (none, τ1)) (fun r1 τ1 =>
  (onI (f_X7_isSmall [.inl r1] (pk (sg0) τ1)) (fun τ2 => some (none, (put (sg0) τ1 τ2))) (fun r2 τ2 =>
  (if r2 = 0 then
    (onI (f_X7_wordHere [.inr (.inl 0)] (wr (put (sg0) τ1 τ2) 0 12 0)) (fun τ3 => some (none, τ3)) (fun r3 τ3 =>
    some (some none, (wr τ3 0 13 r3))))
  else
    (b_X7_next_64 n  (wr (put (sg0) τ1 τ2) 0 10 ((τ1 0 10) + 1)))))))) := (onI_cg (fun _ => rfl) (fun r1 τ1 => (onI_cg (fun _ => rfl) (fun r2 τ2 => (if_cg (onI_cg (fun _ => rfl) (fun r3 τ3 => rfl)) rfl)))))
set_option maxRecDepth 20000 in
theorem e0_X7_next (n : Nat) (σ : Mm) : sem0 t_X7_next cs_X7_next 2 n [.inr (.inl 0)] σ =
  (onI (f_X7_here [.inr (.inl 0)] σ) (fun τ1 => some (none, τ1)) (fun r1 τ1 =>
  (if r1 = 10 then
    (b_X7_next_0 n  (wr τ1 0 10 ((τ1 0 10) + 1)))
  else
    (onI (f_X7_here [.inr (.inl 0)] τ1) (fun τ2 => some (none, τ2)) (fun r2 τ2 =>
    (if r2 = 32 then
      (b_X7_next_0 n  (wr τ2 0 10 ((τ2 0 10) + 1)))
    else
      (onI (f_X7_here [.inr (.inl 0)] (wr τ2 0 11 (τ2 0 10))) (fun τ3 => some (none, τ3)) (fun r3 τ3 =>
      (if r3 = (-1) then
        some (some none, (wr τ3 0 12 3))
      else
        (onI (f_X7_isSmall [.inl r3] (pk (sg0) τ3)) (fun τ4 => some (none, (put (sg0) τ3 τ4))) (fun r4 τ4 =>
        (if r4 = 0 then
          (onI (f_X7_isDigit [.inl r3] (pk (sg0) (put (sg0) τ3 τ4))) (fun τ5 => some (none, (put (sg0) (put (sg0) τ3 τ4) τ5))) (fun r5 τ5 =>
          (if r5 = 0 then
            (if r3 = 59 then
              some (some none, (wr (wr (put (sg0) (put (sg0) τ3 τ4) τ5) 0 12 2) 0 10 ((τ3 0 10) + 1)))
            else
              some (some none, (wr (wr (put (sg0) (put (sg0) τ3 τ4) τ5) 0 12 4) 0 10 ((τ3 0 10) + 1))))
          else
            (b_X7_next_120 n  (wr (wr (put (sg0) (put (sg0) τ3 τ4) τ5) 0 12 1) 0 13 0)))))
        else
          (b_X7_next_64 n  (put (sg0) τ3 τ4)))))))))))))) := (onI_cg (fun _ => rfl) (fun r1 τ1 => (if_cg rfl (onI_cg (fun _ => rfl) (fun r2 τ2 => (if_cg rfl (onI_cg (fun _ => rfl) (fun r3 τ3 => (if_cg rfl (onI_cg (fun _ => rfl) (fun r4 τ4 => (if_cg (onI_cg (fun _ => rfl) (fun r5 τ5 => (if_cg (if_cg rfl rfl) rfl))) rfl))))))))))))
theorem e_X7_next (σ : Mm) : f_X7_next [.inr (.inl 0)] σ = (onI (f_X7_here [.inr (.inl 0)] σ) (fun τ1 => some (none, τ1)) (fun r1 τ1 => (if r1 = 10 then (b_X7_next_0 bigM (wr τ1 0 10 ((τ1 0 10) + 1))) else (onI (f_X7_here [.inr (.inl 0)] τ1) (fun τ2 => some (none, τ2)) (fun r2 τ2 => (if r2 = 32 then (b_X7_next_0 bigM (wr τ2 0 10 ((τ2 0 10) + 1))) else (onI (f_X7_here [.inr (.inl 0)] (wr τ2 0 11 (τ2 0 10))) (fun τ3 => some (none, τ3)) (fun r3 τ3 => (if r3 = (-1) then some (some none, (wr τ3 0 12 3)) else (onI (f_X7_isSmall [.inl r3] (pk (sg0) τ3)) (fun τ4 => some (none, (put (sg0) τ3 τ4))) (fun r4 τ4 => (if r4 = 0 then (onI (f_X7_isDigit [.inl r3] (pk (sg0) (put (sg0) τ3 τ4))) (fun τ5 => some (none, (put (sg0) (put (sg0) τ3 τ4) τ5))) (fun r5 τ5 => (if r5 = 0 then (if r3 = 59 then some (some none, (wr (wr (put (sg0) (put (sg0) τ3 τ4) τ5) 0 12 2) 0 10 ((τ3 0 10) + 1))) else some (some none, (wr (wr (put (sg0) (put (sg0) τ3 τ4) τ5) 0 12 4) 0 10 ((τ3 0 10) + 1)))) else (b_X7_next_120 bigM (wr (wr (put (sg0) (put (sg0) τ3 τ4) τ5) 0 12 1) 0 13 0))))) else (b_X7_next_64 bigM (put (sg0) τ3 τ4)))))))))))))) := (lock_ap _ _).trans (e0_X7_next bigM σ)
set_option maxRecDepth 20000 in
theorem e0_X7_failsIf (n : Nat) (x1 x2 : Int32) (σ : Mm) : sem0 t_X7_failsIf cs_X7_failsIf 3 n [.inr (.inl 0), .inl x1, .inl x2] σ =
  (if (σ 0 15) = 0 then
    (if x1 = 0 then
      some (some none, σ)
    else
      some (some none, (wr (wr σ 0 15 x2) 0 16 (σ 0 11))))
  else
    some (some none, σ)) := (if_cg (if_cg rfl rfl) rfl)
theorem e_X7_failsIf (x1 x2 : Int32) (σ : Mm) : f_X7_failsIf [.inr (.inl 0), .inl x1, .inl x2] σ = (if (σ 0 15) = 0 then (if x1 = 0 then some (some none, σ) else some (some none, (wr (wr σ 0 15 x2) 0 16 (σ 0 11)))) else some (some none, σ)) := (lock_ap _ _).trans (e0_X7_failsIf bigM x1 x2 σ)
set_option maxRecDepth 20000 in
theorem e0_X7_goOn (n : Nat) (σ : Mm) : sem0 t_X7_goOn cs_X7_goOn 1 n [.inr (.inl 0)] σ =
  (if (σ 0 15) = 0 then
    (onV (f_X7_next [.inr (.inl 0)] σ) (fun τ1 => some (none, τ1)) (fun τ1 =>
    some (some none, τ1)))
  else
    some (some none, σ)) := (if_cg (onV_cg (fun _ => rfl) (fun τ1 => rfl)) rfl)
theorem e_X7_goOn (σ : Mm) : f_X7_goOn [.inr (.inl 0)] σ = (if (σ 0 15) = 0 then (onV (f_X7_next [.inr (.inl 0)] σ) (fun τ1 => some (none, τ1)) (fun τ1 => some (some none, τ1))) else some (some none, σ)) := (lock_ap _ _).trans (e0_X7_goOn bigM σ)
noncomputable def b_X7_integer_14 (n : Nat) (x1 x2 s1 : Int32) (σ : Mm) : Option Ou := rn t_X7_integer cs_X7_integer n 14 [(0, .inr (.inl 0)), (1, .inl x1), (2, .inl x2)] [.inl s1, .inr (.inl 0)] σ
noncomputable def b_X7_integer_41 (n : Nat) (x1 s1 : Int32) (σ : Mm) : Option Ou := rn t_X7_integer cs_X7_integer n 41 [(0, .inr (.inl 0)), (1, .inl x1)] [.inl s1, .inr (.inl 0)] σ
noncomputable def b_X7_integer_61 (n : Nat) (s0 : Int32) (σ : Mm) : Option Ou := rn t_X7_integer cs_X7_integer n 61 [(0, .inr (.inl 0))] [.inl s0] σ
set_option maxRecDepth 20000 in
theorem e_X7_integer_14 (n : Nat) (x1 x2 s1 : Int32) (σ : Mm) : b_X7_integer_14 (n + 1) x1 x2 s1 σ =
  (onV (f_X7_failsIf [.inr (.inl 0), .inl s1, .inl (-11)] σ) (fun τ1 => some (none, τ1)) (fun τ1 =>
  (if (τ1 0 13) < x1 then
    (b_X7_integer_41 n x1 1 τ1)
  else
    (if x2 < (τ1 0 13) then
      (b_X7_integer_41 n x1 1 τ1)
    else
      (b_X7_integer_41 n x1 0 τ1))))) := (onV_cg (fun _ => rfl) (fun τ1 => (if_cg rfl (if_cg rfl rfl))))
set_option maxRecDepth 20000 in
theorem e_X7_integer_41 (n : Nat) (x1 s1 : Int32) (σ : Mm) : b_X7_integer_41 (n + 1) x1 s1 σ =
  (onV (f_X7_failsIf [.inr (.inl 0), .inl s1, .inl (-12)] σ) (fun τ1 => some (none, τ1)) (fun τ1 =>
  (if (τ1 0 15) = 0 then
    (b_X7_integer_61 n (τ1 0 13) τ1)
  else
    (b_X7_integer_61 n x1 τ1)))) := (onV_cg (fun _ => rfl) (fun τ1 => (if_cg rfl rfl)))
set_option maxRecDepth 20000 in
theorem e_X7_integer_61 (n : Nat) (s0 : Int32) (σ : Mm) : b_X7_integer_61 (n + 1) s0 σ =
  (onV (f_X7_goOn [.inr (.inl 0)] σ) (fun τ1 => some (none, τ1)) (fun τ1 =>
  some (some (some (.inl s0)), τ1))) := (onV_cg (fun _ => rfl) (fun τ1 => rfl))
set_option maxRecDepth 20000 in
theorem e0_X7_integer (n : Nat) (x1 x2 : Int32) (σ : Mm) : sem0 t_X7_integer cs_X7_integer 4 n [.inr (.inl 0), .inl x1, .inl x2] σ =
  (if (σ 0 12) = 1 then
    (b_X7_integer_14 n x1 x2 0 σ)
  else
    (b_X7_integer_14 n x1 x2 1 σ)) := (if_cg rfl rfl)
theorem e_X7_integer (x1 x2 : Int32) (σ : Mm) : f_X7_integer [.inr (.inl 0), .inl x1, .inl x2] σ = (if (σ 0 12) = 1 then (b_X7_integer_14 bigM x1 x2 0 σ) else (b_X7_integer_14 bigM x1 x2 1 σ)) := (lock_ap _ _).trans (e0_X7_integer bigM x1 x2 σ)
noncomputable def b_X7_seesName_35 (n : Nat) (s1 : Int32) (σ : Mm) : Option Ou := rn t_X7_seesName cs_X7_seesName n 35 [(0, .inr (.inl 0))] [.inl s1, .inr (.inl 0)] σ
noncomputable def b_X7_seesName_47 (n : Nat) (x1 : Int32) (σ : Mm) : Option Ou := rn t_X7_seesName cs_X7_seesName n 47 [(0, .inr (.inl 0)), (1, .inl x1)] [] σ
set_option maxRecDepth 20000 in
theorem e_X7_seesName_35 (n : Nat) (s1 : Int32) (σ : Mm) : b_X7_seesName_35 (n + 1) s1 σ =
  (onV (f_X7_failsIf [.inr (.inl 0), .inl s1, .inl (-11)] σ) (fun τ1 => some (none, τ1)) (fun τ1 =>
  (b_X7_seesName_47 n 0 (wr τ1 0 14 0)))) := (onV_cg (fun _ => rfl) (fun τ1 => rfl))
set_option maxRecDepth 20000 in
theorem e_X7_seesName_47 (n : Nat) (x1 : Int32) (σ : Mm) : b_X7_seesName_47 (n + 1) x1 σ =
  (if x1 < 6 then
    (if (σ 0 15) = 0 then
      (if ((σ 0 11) + x1) < (σ 0 10) then
        (if inb ((σ 0 11) + x1) 900 = true then
        (b_X7_seesName_47 n (x1 + 1) (wr σ 0 14 (((σ 0 14) <<< (5 &&& 31)) ||| (((σ 1 ((σ 0 11) + x1).toNatClampNeg) - 97) + 1))))
        else none)
      else
        (b_X7_seesName_47 n (x1 + 1) (wr σ 0 14 (((σ 0 14) <<< (5 &&& 31)) ||| 0))))
    else
      some (some none, σ))
  else
    some (some none, σ)) := (if_cg (if_cg (if_cg (if_cg rfl rfl) rfl) rfl) rfl)
set_option maxRecDepth 20000 in
theorem e0_X7_seesName (n : Nat) (σ : Mm) : sem0 t_X7_seesName cs_X7_seesName 2 n [.inr (.inl 0)] σ =
  (if (σ 0 12) = 0 then
    (if (σ 0 13) = (-1) then
      (if 6 < ((σ 0 10) - (σ 0 11)) then
        (b_X7_seesName_35 n 1 σ)
      else
        (b_X7_seesName_35 n 0 σ))
    else
      (b_X7_seesName_35 n 1 σ))
  else
    (b_X7_seesName_35 n 1 σ)) := (if_cg (if_cg (if_cg rfl rfl) rfl) rfl)
theorem e_X7_seesName (σ : Mm) : f_X7_seesName [.inr (.inl 0)] σ = (if (σ 0 12) = 0 then (if (σ 0 13) = (-1) then (if 6 < ((σ 0 10) - (σ 0 11)) then (b_X7_seesName_35 bigM 1 σ) else (b_X7_seesName_35 bigM 0 σ)) else (b_X7_seesName_35 bigM 1 σ)) else (b_X7_seesName_35 bigM 1 σ)) := (lock_ap _ _).trans (e0_X7_seesName bigM σ)
noncomputable def b_X7_found_2_told (n : Nat) (x1 x2 : Int32) (σ : Mm) : Option Ou := rn t_X7_found cs_X7_found n 2 [(0, .inr (.inl 2)), (1, .inl x1), (2, .inl x2)] [] σ
set_option maxRecDepth 20000 in
theorem e_X7_found_2_told (n : Nat) (x1 x2 : Int32) (σ : Mm) : b_X7_found_2_told (n + 1) x1 x2 σ =
  (if x2 < (σ 2 18) then
    (if inb (0 + x2) 20 = true then
    (if (σ 2 (0 + x2).toNatClampNeg) = x1 then
      some (some (some (.inl x2)), σ)
    else
      (b_X7_found_2_told n x1 (x2 + 1) σ))
    else none)
  else
    some (some (some (.inl (-1))), σ)) := (if_cg (if_cg (if_cg rfl rfl) rfl) rfl)
set_option maxRecDepth 20000 in
theorem e0_X7_found_told (n : Nat) (x1 : Int32) (σ : Mm) : sem0 t_X7_found cs_X7_found 3 n [.inr (.inl 2), .inl x1] σ =
  (b_X7_found_2_told n x1 0 σ) := rfl
theorem e_X7_found_told (x1 : Int32) (σ : Mm) : f_X7_found [.inr (.inl 2), .inl x1] σ = (b_X7_found_2_told bigM x1 0 σ) := (lock_ap _ _).trans (e0_X7_found_told bigM x1 σ)
noncomputable def b_X7_found_2_read (n : Nat) (x1 x2 : Int32) (σ : Mm) : Option Ou := rn t_X7_found cs_X7_found n 2 [(0, .inr (.inl 3)), (1, .inl x1), (2, .inl x2)] [] σ
set_option maxRecDepth 20000 in
theorem e_X7_found_2_read (n : Nat) (x1 x2 : Int32) (σ : Mm) : b_X7_found_2_read (n + 1) x1 x2 σ =
  (if x2 < (σ 3 18) then
    (if inb (0 + x2) 20 = true then
    (if (σ 3 (0 + x2).toNatClampNeg) = x1 then
      some (some (some (.inl x2)), σ)
    else
      (b_X7_found_2_read n x1 (x2 + 1) σ))
    else none)
  else
    some (some (some (.inl (-1))), σ)) := (if_cg (if_cg (if_cg rfl rfl) rfl) rfl)
set_option maxRecDepth 20000 in
theorem e0_X7_found_read (n : Nat) (x1 : Int32) (σ : Mm) : sem0 t_X7_found cs_X7_found 3 n [.inr (.inl 3), .inl x1] σ =
  (b_X7_found_2_read n x1 0 σ) := rfl
theorem e_X7_found_read (x1 : Int32) (σ : Mm) : f_X7_found [.inr (.inl 3), .inl x1] σ = (b_X7_found_2_read bigM x1 0 σ) := (lock_ap _ _).trans (e0_X7_found_read bigM x1 σ)
noncomputable def b_X7_readIron_18 (n : Nat) (s1 : Int32) (σ : Mm) : Option Ou := rn t_X7_readIron cs_X7_readIron n 18 [(0, .inr (.inl 0))] [.inl s1, .inr (.inl 0)] σ
noncomputable def b_X7_readIron_59 (n : Nat) (s1 : Int32) (σ : Mm) : Option Ou := rn t_X7_readIron cs_X7_readIron n 59 [(0, .inr (.inl 0))] [.inl s1, .inr (.inl 0)] σ
set_option maxRecDepth 20000 in
theorem e_X7_readIron_18 (n : Nat) (s1 : Int32) (σ : Mm) : b_X7_readIron_18 (n + 1) s1 σ =
  (onV (f_X7_failsIf [.inr (.inl 0), .inl s1, .inl (-15)] σ) (fun τ1 => some (none, τ1)) (fun τ1 =>
  (onV (f_X7_goOn [.inr (.inl 0)] τ1) (fun τ2 => some (none, τ2)) (fun τ2 =>
  (onV (f_X7_seesName [.inr (.inl 0)] τ2) (fun τ3 => some (none, τ3)) (fun τ3 =>
  (if (τ3 0 15) = 0 then
    (onI (f_X7_found [.inr (.inl 3), .inl (τ3 0 14)] τ3) (fun τ4 => some (none, τ4)) (fun r4 τ4 =>
    (if r4 = (-1) then
      (b_X7_readIron_59 n 0 τ4)
    else
      (b_X7_readIron_59 n 1 τ4))))
  else
    (b_X7_readIron_59 n 0 τ3)))))))) := (onV_cg (fun _ => rfl) (fun τ1 => (onV_cg (fun _ => rfl) (fun τ2 => (onV_cg (fun _ => rfl) (fun τ3 => (if_cg (onI_cg (fun _ => rfl) (fun r4 τ4 => (if_cg rfl rfl))) rfl)))))))
set_option maxRecDepth 20000 in
theorem e_X7_readIron_59 (n : Nat) (s1 : Int32) (σ : Mm) : b_X7_readIron_59 (n + 1) s1 σ =
  (onV (f_X7_failsIf [.inr (.inl 0), .inl s1, .inl (-14)] σ) (fun τ1 => some (none, τ1)) (fun τ1 =>
  (onV (f_X7_goOn [.inr (.inl 0)] τ1) (fun τ2 => some (none, τ2)) (fun τ2 =>
  (onI (f_X7_integer [.inr (.inl 0), .inl 1, .inl 9] τ2) (fun τ3 => some (none, τ3)) (fun r3 τ3 =>
  (onI (f_X7_integer [.inr (.inl 0), .inl 1, .inl 99] τ3) (fun τ4 => some (none, τ4)) (fun r4 τ4 =>
  (if (τ4 0 15) = 0 then
    (if inb (0 + (τ4 3 18)) 20 = true then
    (if inb (6 + (τ4 3 18)) 20 = true then
    (if inb (12 + (τ4 3 18)) 20 = true then
    some (some none, (wr (wr (wr (wr τ4 3 (0 + (τ4 3 18)).toNatClampNeg (τ4 0 14)) 3 (6 + (τ4 3 18)).toNatClampNeg r3) 3 (12 + (τ4 3 18)).toNatClampNeg r4) 3 18 (((wr (wr (wr τ4 3 (0 + (τ4 3 18)).toNatClampNeg (τ4 0 14)) 3 (6 + (τ4 3 18)).toNatClampNeg r3) 3 (12 + (τ4 3 18)).toNatClampNeg r4) 3 18) + 1)))
    else none)
    else none)
    else none)
  else
    some (some none, τ4)))))))))) := (onV_cg (fun _ => rfl) (fun τ1 => (onV_cg (fun _ => rfl) (fun τ2 => (onI_cg (fun _ => rfl) (fun r3 τ3 => (onI_cg (fun _ => rfl) (fun r4 τ4 => (if_cg (if_cg (if_cg (if_cg rfl rfl) rfl) rfl) rfl)))))))))
set_option maxRecDepth 20000 in
theorem e0_X7_readIron (n : Nat) (σ : Mm) : sem0 t_X7_readIron cs_X7_readIron 4 n [.inr (.inl 0)] σ =
  (if (σ 3 18) = 6 then
    (b_X7_readIron_18 n 1 σ)
  else
    (b_X7_readIron_18 n 0 σ)) := (if_cg rfl rfl)
theorem e_X7_readIron (σ : Mm) : f_X7_readIron [.inr (.inl 0)] σ = (if (σ 3 18) = 6 then (b_X7_readIron_18 bigM 1 σ) else (b_X7_readIron_18 bigM 0 σ)) := (lock_ap _ _).trans (e0_X7_readIron bigM σ)
set_option maxRecDepth 20000 in
theorem e0_X7_adds_now (n : Nat) (x1 x2 x3 : Int32) (σ : Mm) : sem0 t_X7_adds cs_X7_adds 4 n [.inr (.inl 4), .inl x1, .inl x2, .inl x3] σ =
  (if inb (0 + x1) 81 = true then
  (if inb ((6 + (5 * x1)) + (σ 4 (0 + x1).toNatClampNeg)) 81 = true then
  (if inb (0 + x1) 81 = true then
  (if inb ((36 + (5 * x1)) + ((wr σ 4 ((6 + (5 * x1)) + (σ 4 (0 + x1).toNatClampNeg)).toNatClampNeg x2) 4 (0 + x1).toNatClampNeg)) 81 = true then
  (if inb (0 + x1) 81 = true then
  (if inb (0 + x1) 81 = true then
  some (some none, (wr (wr (wr σ 4 ((6 + (5 * x1)) + (σ 4 (0 + x1).toNatClampNeg)).toNatClampNeg x2) 4 ((36 + (5 * x1)) + ((wr σ 4 ((6 + (5 * x1)) + (σ 4 (0 + x1).toNatClampNeg)).toNatClampNeg x2) 4 (0 + x1).toNatClampNeg)).toNatClampNeg x3) 4 (0 + x1).toNatClampNeg (((wr (wr σ 4 ((6 + (5 * x1)) + (σ 4 (0 + x1).toNatClampNeg)).toNatClampNeg x2) 4 ((36 + (5 * x1)) + ((wr σ 4 ((6 + (5 * x1)) + (σ 4 (0 + x1).toNatClampNeg)).toNatClampNeg x2) 4 (0 + x1).toNatClampNeg)).toNatClampNeg x3) 4 (0 + x1).toNatClampNeg) + 1)))
  else none)
  else none)
  else none)
  else none)
  else none)
  else none) := (if_cg (if_cg (if_cg (if_cg (if_cg (if_cg rfl rfl) rfl) rfl) rfl) rfl) rfl)
theorem e_X7_adds_now (x1 x2 x3 : Int32) (σ : Mm) : f_X7_adds [.inr (.inl 4), .inl x1, .inl x2, .inl x3] σ = (if inb (0 + x1) 81 = true then (if inb ((6 + (5 * x1)) + (σ 4 (0 + x1).toNatClampNeg)) 81 = true then (if inb (0 + x1) 81 = true then (if inb ((36 + (5 * x1)) + ((wr σ 4 ((6 + (5 * x1)) + (σ 4 (0 + x1).toNatClampNeg)).toNatClampNeg x2) 4 (0 + x1).toNatClampNeg)) 81 = true then (if inb (0 + x1) 81 = true then (if inb (0 + x1) 81 = true then some (some none, (wr (wr (wr σ 4 ((6 + (5 * x1)) + (σ 4 (0 + x1).toNatClampNeg)).toNatClampNeg x2) 4 ((36 + (5 * x1)) + ((wr σ 4 ((6 + (5 * x1)) + (σ 4 (0 + x1).toNatClampNeg)).toNatClampNeg x2) 4 (0 + x1).toNatClampNeg)).toNatClampNeg x3) 4 (0 + x1).toNatClampNeg (((wr (wr σ 4 ((6 + (5 * x1)) + (σ 4 (0 + x1).toNatClampNeg)).toNatClampNeg x2) 4 ((36 + (5 * x1)) + ((wr σ 4 ((6 + (5 * x1)) + (σ 4 (0 + x1).toNatClampNeg)).toNatClampNeg x2) 4 (0 + x1).toNatClampNeg)).toNatClampNeg x3) 4 (0 + x1).toNatClampNeg) + 1))) else none) else none) else none) else none) else none) else none) := (lock_ap _ _).trans (e0_X7_adds_now bigM x1 x2 x3 σ)
set_option maxRecDepth 20000 in
theorem e0_X7_adds_readNow (n : Nat) (x1 x2 x3 : Int32) (σ : Mm) : sem0 t_X7_adds cs_X7_adds 4 n [.inr (.inl 5), .inl x1, .inl x2, .inl x3] σ =
  (if inb (0 + x1) 81 = true then
  (if inb ((6 + (5 * x1)) + (σ 5 (0 + x1).toNatClampNeg)) 81 = true then
  (if inb (0 + x1) 81 = true then
  (if inb ((36 + (5 * x1)) + ((wr σ 5 ((6 + (5 * x1)) + (σ 5 (0 + x1).toNatClampNeg)).toNatClampNeg x2) 5 (0 + x1).toNatClampNeg)) 81 = true then
  (if inb (0 + x1) 81 = true then
  (if inb (0 + x1) 81 = true then
  some (some none, (wr (wr (wr σ 5 ((6 + (5 * x1)) + (σ 5 (0 + x1).toNatClampNeg)).toNatClampNeg x2) 5 ((36 + (5 * x1)) + ((wr σ 5 ((6 + (5 * x1)) + (σ 5 (0 + x1).toNatClampNeg)).toNatClampNeg x2) 5 (0 + x1).toNatClampNeg)).toNatClampNeg x3) 5 (0 + x1).toNatClampNeg (((wr (wr σ 5 ((6 + (5 * x1)) + (σ 5 (0 + x1).toNatClampNeg)).toNatClampNeg x2) 5 ((36 + (5 * x1)) + ((wr σ 5 ((6 + (5 * x1)) + (σ 5 (0 + x1).toNatClampNeg)).toNatClampNeg x2) 5 (0 + x1).toNatClampNeg)).toNatClampNeg x3) 5 (0 + x1).toNatClampNeg) + 1)))
  else none)
  else none)
  else none)
  else none)
  else none)
  else none) := (if_cg (if_cg (if_cg (if_cg (if_cg (if_cg rfl rfl) rfl) rfl) rfl) rfl) rfl)
theorem e_X7_adds_readNow (x1 x2 x3 : Int32) (σ : Mm) : f_X7_adds [.inr (.inl 5), .inl x1, .inl x2, .inl x3] σ = (if inb (0 + x1) 81 = true then (if inb ((6 + (5 * x1)) + (σ 5 (0 + x1).toNatClampNeg)) 81 = true then (if inb (0 + x1) 81 = true then (if inb ((36 + (5 * x1)) + ((wr σ 5 ((6 + (5 * x1)) + (σ 5 (0 + x1).toNatClampNeg)).toNatClampNeg x2) 5 (0 + x1).toNatClampNeg)) 81 = true then (if inb (0 + x1) 81 = true then (if inb (0 + x1) 81 = true then some (some none, (wr (wr (wr σ 5 ((6 + (5 * x1)) + (σ 5 (0 + x1).toNatClampNeg)).toNatClampNeg x2) 5 ((36 + (5 * x1)) + ((wr σ 5 ((6 + (5 * x1)) + (σ 5 (0 + x1).toNatClampNeg)).toNatClampNeg x2) 5 (0 + x1).toNatClampNeg)).toNatClampNeg x3) 5 (0 + x1).toNatClampNeg (((wr (wr σ 5 ((6 + (5 * x1)) + (σ 5 (0 + x1).toNatClampNeg)).toNatClampNeg x2) 5 ((36 + (5 * x1)) + ((wr σ 5 ((6 + (5 * x1)) + (σ 5 (0 + x1).toNatClampNeg)).toNatClampNeg x2) 5 (0 + x1).toNatClampNeg)).toNatClampNeg x3) 5 (0 + x1).toNatClampNeg) + 1))) else none) else none) else none) else none) else none) else none) := (lock_ap _ _).trans (e0_X7_adds_readNow bigM x1 x2 x3 σ)
noncomputable def b_X7_readStep_30 (n : Nat) (s0 : Int32) (σ : Mm) : Option Ou := rn t_X7_readStep cs_X7_readStep n 30 [(0, .inr (.inl 0))] [.inl s0] σ
noncomputable def b_X7_readStep_42 (n : Nat) (x1 s1 : Int32) (σ : Mm) : Option Ou := rn t_X7_readStep cs_X7_readStep n 42 [(0, .inr (.inl 0)), (1, .inl x1)] [.inl s1, .inr (.inl 0)] σ
noncomputable def b_X7_readStep_73 (n : Nat) (x1 s1 : Int32) (σ : Mm) : Option Ou := rn t_X7_readStep cs_X7_readStep n 73 [(0, .inr (.inl 0)), (1, .inl x1)] [.inl s1, .inr (.inl 0)] σ
set_option maxRecDepth 20000 in
theorem e_X7_readStep_30 (n : Nat) (s0 : Int32) (σ : Mm) : b_X7_readStep_30 (n + 1) s0 σ =
  (if s0 = (-1) then
    (b_X7_readStep_42 n s0 1 σ)
  else
    (b_X7_readStep_42 n s0 0 σ)) := (if_cg rfl rfl)
set_option maxRecDepth 20000 in
theorem e_X7_readStep_42 (n : Nat) (x1 s1 : Int32) (σ : Mm) : b_X7_readStep_42 (n + 1) x1 s1 σ =
  (onV (f_X7_failsIf [.inr (.inl 0), .inl s1, .inl (-13)] σ) (fun τ1 => some (none, τ1)) (fun τ1 =>
  (if (τ1 0 15) = 0 then
    (if inb (0 + x1) 81 = true then
    (if (τ1 5 (0 + x1).toNatClampNeg) = 5 then
      (b_X7_readStep_73 n x1 1 τ1)
    else
      (b_X7_readStep_73 n x1 0 τ1))
    else none)
  else
    some (some none, τ1)))) := (onV_cg (fun _ => rfl) (fun τ1 => (if_cg (if_cg (if_cg rfl rfl) rfl) rfl)))
set_option maxRecDepth 20000 in
theorem e_X7_readStep_73 (n : Nat) (x1 s1 : Int32) (σ : Mm) : b_X7_readStep_73 (n + 1) x1 s1 σ =
  (onV (f_X7_failsIf [.inr (.inl 0), .inl s1, .inl (-15)] σ) (fun τ1 => some (none, τ1)) (fun τ1 =>
  (onV (f_X7_goOn [.inr (.inl 0)] τ1) (fun τ2 => some (none, τ2)) (fun τ2 =>
  (onI (f_X7_integer [.inr (.inl 0), .inl 100, .inl 1400] τ2) (fun τ3 => some (none, τ3)) (fun r3 τ3 =>
  (onI (f_X7_integer [.inr (.inl 0), .inl 1, .inl 30] τ3) (fun τ4 => some (none, τ4)) (fun r4 τ4 =>
  (if (τ4 0 15) = 0 then
    (onV (f_X7_adds [.inr (.inl 5), .inl x1, .inl r3, .inl r4] τ4) (fun τ5 => some (none, τ5)) (fun τ5 =>
    some (some none, τ5)))
  else
    some (some none, τ4)))))))))) := (onV_cg (fun _ => rfl) (fun τ1 => (onV_cg (fun _ => rfl) (fun τ2 => (onI_cg (fun _ => rfl) (fun r3 τ3 => (onI_cg (fun _ => rfl) (fun r4 τ4 => (if_cg (onV_cg (fun _ => rfl) (fun τ5 => rfl)) rfl)))))))))
set_option maxRecDepth 20000 in
theorem e0_X7_readStep (n : Nat) (σ : Mm) : sem0 t_X7_readStep cs_X7_readStep 4 n [.inr (.inl 0)] σ =
  (onV (f_X7_goOn [.inr (.inl 0)] σ) (fun τ1 => some (none, τ1)) (fun τ1 =>
  (onV (f_X7_seesName [.inr (.inl 0)] τ1) (fun τ2 => some (none, τ2)) (fun τ2 =>
  (if (τ2 0 15) = 0 then
    (onI (f_X7_found [.inr (.inl 3), .inl (τ2 0 14)] τ2) (fun τ3 => some (none, τ3)) (fun r3 τ3 =>
    (b_X7_readStep_30 n r3 τ3)))
  else
    (b_X7_readStep_30 n 0 τ2)))))) := (onV_cg (fun _ => rfl) (fun τ1 => (onV_cg (fun _ => rfl) (fun τ2 => (if_cg (onI_cg (fun _ => rfl) (fun r3 τ3 => rfl)) rfl)))))
theorem e_X7_readStep (σ : Mm) : f_X7_readStep [.inr (.inl 0)] σ = (onV (f_X7_goOn [.inr (.inl 0)] σ) (fun τ1 => some (none, τ1)) (fun τ1 => (onV (f_X7_seesName [.inr (.inl 0)] τ1) (fun τ2 => some (none, τ2)) (fun τ2 => (if (τ2 0 15) = 0 then (onI (f_X7_found [.inr (.inl 3), .inl (τ2 0 14)] τ2) (fun τ3 => some (none, τ3)) (fun r3 τ3 => (b_X7_readStep_30 bigM r3 τ3))) else (b_X7_readStep_30 bigM 0 τ2)))))) := (lock_ap _ _).trans (e0_X7_readStep bigM σ)
noncomputable def b_X7_readPlace_17 (n : Nat) (s1 : Int32) (σ : Mm) : Option Ou := rn t_X7_readPlace cs_X7_readPlace n 17 [(0, .inr (.inl 0))] [.inl s1, .inr (.inl 0)] σ
set_option maxRecDepth 20000 in
theorem e_X7_readPlace_17 (n : Nat) (s1 : Int32) (σ : Mm) : b_X7_readPlace_17 (n + 1) s1 σ =
  (onV (f_X7_failsIf [.inr (.inl 0), .inl s1, .inl (-15)] σ) (fun τ1 => some (none, τ1)) (fun τ1 =>
  (onV (f_X7_goOn [.inr (.inl 0)] τ1) (fun τ2 => some (none, τ2)) (fun τ2 =>
  (onI (f_X7_integer [.inr (.inl 0), .inl 1, .inl 2000] τ2) (fun τ3 => some (none, τ3)) (fun r3 τ3 =>
  (onI (f_X7_integer [.inr (.inl 0), .inl 100, .inl 1500] τ3) (fun τ4 => some (none, τ4)) (fun r4 τ4 =>
  (if (τ4 0 15) = 0 then
    (if inb (66 + (τ4 3 19)) 81 = true then
    (if inb (69 + (τ4 3 19)) 81 = true then
    some (some none, (wr (wr (wr τ4 5 (66 + (τ4 3 19)).toNatClampNeg r3) 5 (69 + (τ4 3 19)).toNatClampNeg r4) 3 19 ((τ4 3 19) + 1)))
    else none)
    else none)
  else
    some (some none, τ4)))))))))) := (onV_cg (fun _ => rfl) (fun τ1 => (onV_cg (fun _ => rfl) (fun τ2 => (onI_cg (fun _ => rfl) (fun r3 τ3 => (onI_cg (fun _ => rfl) (fun r4 τ4 => (if_cg (if_cg (if_cg rfl rfl) rfl) rfl)))))))))
set_option maxRecDepth 20000 in
theorem e0_X7_readPlace (n : Nat) (σ : Mm) : sem0 t_X7_readPlace cs_X7_readPlace 3 n [.inr (.inl 0)] σ =
  (if (σ 3 19) = 3 then
    (b_X7_readPlace_17 n 1 σ)
  else
    (b_X7_readPlace_17 n 0 σ)) := (if_cg rfl rfl)
theorem e_X7_readPlace (σ : Mm) : f_X7_readPlace [.inr (.inl 0)] σ = (if (σ 3 19) = 3 then (b_X7_readPlace_17 bigM 1 σ) else (b_X7_readPlace_17 bigM 0 σ)) := (lock_ap _ _).trans (e0_X7_readPlace bigM σ)
set_option maxRecDepth 20000 in
theorem e0_X7_leastOf (n : Nat) (x0 : Int32) (σ : Mm) : sem0 t_X7_leastOf cs_X7_leastOf 1 n [.inl x0] σ =
  (if x0 = 0 then
    some (some (some (.inl 1)), σ)
  else
    some (some (some (.inl 0)), σ)) := (if_cg rfl rfl)
theorem e_X7_leastOf (x0 : Int32) (σ : Mm) : f_X7_leastOf [.inl x0] σ = (if x0 = 0 then some (some (some (.inl 1)), σ) else some (some (some (.inl 0)), σ)) := (lock_ap _ _).trans (e0_X7_leastOf bigM x0 σ)
set_option maxRecDepth 20000 in
theorem e0_X7_mostOf (n : Nat) (x0 : Int32) (σ : Mm) : sem0 t_X7_mostOf cs_X7_mostOf 1 n [.inl x0] σ =
  (if x0 = 0 then
    some (some (some (.inl 3)), σ)
  else
    (if x0 = 1 then
      some (some (some (.inl 500)), σ)
    else
      some (some (some (.inl 2)), σ))) := (if_cg rfl (if_cg rfl rfl))
theorem e_X7_mostOf (x0 : Int32) (σ : Mm) : f_X7_mostOf [.inl x0] σ = (if x0 = 0 then some (some (some (.inl 3)), σ) else (if x0 = 1 then some (some (some (.inl 500)), σ) else some (some (some (.inl 2)), σ))) := (lock_ap _ _).trans (e0_X7_mostOf bigM x0 σ)
noncomputable def b_X7_readSet_31 (n : Nat) (s0 : Int32) (σ : Mm) : Option Ou := rn t_X7_readSet cs_X7_readSet n 31 [(0, .inr (.inl 0))] [.inl s0] σ
noncomputable def b_X7_readSet_42 (n : Nat) (x1 s1 : Int32) (σ : Mm) : Option Ou := rn t_X7_readSet cs_X7_readSet n 42 [(0, .inr (.inl 0)), (1, .inl x1)] [.inl s1, .inr (.inl 0)] σ
noncomputable def b_X7_readSet_61 (n : Nat) (s0 : Int32) (σ : Mm) : Option Ou := rn t_X7_readSet cs_X7_readSet n 61 [(0, .inr (.inl 0))] [.inl s0] σ
noncomputable def b_X7_readSet_80 (n : Nat) (x2 s1 : Int32) (σ : Mm) : Option Ou := rn t_X7_readSet cs_X7_readSet n 80 [(0, .inr (.inl 0)), (2, .inl x2)] [.inl s1, .inr (.inl 0)] σ
set_option maxRecDepth 20000 in
theorem e_X7_readSet_31 (n : Nat) (s0 : Int32) (σ : Mm) : b_X7_readSet_31 (n + 1) s0 σ =
  (if s0 = 0 then
    (b_X7_readSet_42 n s0 1 σ)
  else
    (b_X7_readSet_42 n s0 0 σ)) := (if_cg rfl rfl)
set_option maxRecDepth 20000 in
theorem e_X7_readSet_42 (n : Nat) (x1 s1 : Int32) (σ : Mm) : b_X7_readSet_42 (n + 1) x1 s1 σ =
  (onV (f_X7_failsIf [.inr (.inl 0), .inl s1, .inl (-11)] σ) (fun τ1 => some (none, τ1)) (fun τ1 =>
  (if x1 = 0 then
    (b_X7_readSet_61 n 0 τ1)
  else
    (b_X7_readSet_61 n ((τ1 0 13) - 4) τ1)))) := (onV_cg (fun _ => rfl) (fun τ1 => (if_cg rfl rfl)))
set_option maxRecDepth 20000 in
theorem e_X7_readSet_61 (n : Nat) (s0 : Int32) (σ : Mm) : b_X7_readSet_61 (n + 1) s0 σ =
  (if (((σ 0 19) >>> (s0 &&& 31)) &&& 1) = 1 then
    (b_X7_readSet_80 n s0 1 σ)
  else
    (b_X7_readSet_80 n s0 0 σ)) := (if_cg rfl rfl)
set_option maxRecDepth 20000 in
theorem e_X7_readSet_80 (n : Nat) (x2 s1 : Int32) (σ : Mm) : b_X7_readSet_80 (n + 1) x2 s1 σ =
  (onV (f_X7_failsIf [.inr (.inl 0), .inl s1, .inl (-14)] σ) (fun τ1 => some (none, τ1)) (fun τ1 =>
  (onV (f_X7_goOn [.inr (.inl 0)] (wr τ1 0 19 ((τ1 0 19) ||| (1 <<< (x2 &&& 31))))) (fun τ2 => some (none, τ2)) (fun τ2 =>
  (onI (f_X7_leastOf [.inl x2] (pk (sg0) τ2)) (fun τ3 => some (none, (put (sg0) τ2 τ3))) (fun r3 τ3 =>
  (onI (f_X7_mostOf [.inl x2] (pk (sg0) (put (sg0) τ2 τ3))) (fun τ4 => some (none, (put (sg0) (put (sg0) τ2 τ3) τ4))) (fun r4 τ4 =>
  (onI (f_X7_integer [.inr (.inl 0), .inl r3, .inl r4] (put (sg0) (put (sg0) τ2 τ3) τ4)) (fun τ5 => some (none, τ5)) (fun r5 τ5 =>
  (if inb (78 + x2) 81 = true then
  some (some none, (wr τ5 5 (78 + x2).toNatClampNeg r5))
  else none))))))))))) := (onV_cg (fun _ => rfl) (fun τ1 => (onV_cg (fun _ => rfl) (fun τ2 => (onI_cg (fun _ => rfl) (fun r3 τ3 => (onI_cg (fun _ => rfl) (fun r4 τ4 => (onI_cg (fun _ => rfl) (fun r5 τ5 => (if_cg rfl rfl)))))))))))
set_option maxRecDepth 20000 in
theorem e0_X7_readSet (n : Nat) (σ : Mm) : sem0 t_X7_readSet cs_X7_readSet 3 n [.inr (.inl 0)] σ =
  (onV (f_X7_goOn [.inr (.inl 0)] σ) (fun τ1 => some (none, τ1)) (fun τ1 =>
  (if (τ1 0 15) = 0 then
    (if (τ1 0 12) = 0 then
      (if (τ1 0 13) < 4 then
        (b_X7_readSet_31 n 0 τ1)
      else
        (b_X7_readSet_31 n 1 τ1))
    else
      (b_X7_readSet_31 n 0 τ1))
  else
    (b_X7_readSet_31 n 0 τ1)))) := (onV_cg (fun _ => rfl) (fun τ1 => (if_cg (if_cg (if_cg rfl rfl) rfl) rfl)))
theorem e_X7_readSet (σ : Mm) : f_X7_readSet [.inr (.inl 0)] σ = (onV (f_X7_goOn [.inr (.inl 0)] σ) (fun τ1 => some (none, τ1)) (fun τ1 => (if (τ1 0 15) = 0 then (if (τ1 0 12) = 0 then (if (τ1 0 13) < 4 then (b_X7_readSet_31 bigM 0 τ1) else (b_X7_readSet_31 bigM 1 τ1)) else (b_X7_readSet_31 bigM 0 τ1)) else (b_X7_readSet_31 bigM 0 τ1)))) := (lock_ap _ _).trans (e0_X7_readSet bigM σ)
noncomputable def b_X7_readStatement_15 (n : Nat) (s0 : Int32) (σ : Mm) : Option Ou := rn t_X7_readStatement cs_X7_readStatement n 15 [(0, .inr (.inl 0))] [.inl s0] σ
noncomputable def b_X7_readStatement_83 (n : Nat) (σ : Mm) : Option Ou := rn t_X7_readStatement cs_X7_readStatement n 83 [(0, .inr (.inl 0))] [] σ
noncomputable def b_X7_readStatement_97 (n : Nat) (s1 : Int32) (σ : Mm) : Option Ou := rn t_X7_readStatement cs_X7_readStatement n 97 [(0, .inr (.inl 0))] [.inl s1, .inr (.inl 0)] σ
set_option maxRecDepth 20000 in
theorem e_X7_readStatement_15 (n : Nat) (s0 : Int32) (σ : Mm) : b_X7_readStatement_15 (n + 1) s0 σ =
  (if s0 = 0 then (onV (f_X7_readIron [.inr (.inl 0)] σ) (fun τ1 => some (none, τ1)) (fun τ1 =>
    (b_X7_readStatement_83 n  τ1))) else (if s0 = 1 then (onV (f_X7_readStep [.inr (.inl 0)] σ) (fun τ1 => some (none, τ1)) (fun τ1 =>
    (b_X7_readStatement_83 n  τ1))) else (if s0 = 2 then (onV (f_X7_readPlace [.inr (.inl 0)] σ) (fun τ1 => some (none, τ1)) (fun τ1 =>
    (b_X7_readStatement_83 n  τ1))) else (if s0 = 3 then (onV (f_X7_readSet [.inr (.inl 0)] σ) (fun τ1 => some (none, τ1)) (fun τ1 =>
    (b_X7_readStatement_83 n  τ1))) else (onV (f_X7_failsIf [.inr (.inl 0), .inl 1, .inl (-11)] σ) (fun τ1 => some (none, τ1)) (fun τ1 =>
    (b_X7_readStatement_83 n  τ1))))))) := (if_cg (onV_cg (fun _ => rfl) (fun τ1 => rfl)) (if_cg (onV_cg (fun _ => rfl) (fun τ1 => rfl)) (if_cg (onV_cg (fun _ => rfl) (fun τ1 => rfl)) (if_cg (onV_cg (fun _ => rfl) (fun τ1 => rfl)) (onV_cg (fun _ => rfl) (fun τ1 => rfl))))))
set_option maxRecDepth 20000 in
theorem e_X7_readStatement_83 (n : Nat) (σ : Mm) : b_X7_readStatement_83 (n + 1)  σ =
  (if (σ 0 12) = 2 then
    (b_X7_readStatement_97 n 0 σ)
  else
    (b_X7_readStatement_97 n 1 σ)) := (if_cg rfl rfl)
set_option maxRecDepth 20000 in
theorem e_X7_readStatement_97 (n : Nat) (s1 : Int32) (σ : Mm) : b_X7_readStatement_97 (n + 1) s1 σ =
  (onV (f_X7_failsIf [.inr (.inl 0), .inl s1, .inl (-11)] σ) (fun τ1 => some (none, τ1)) (fun τ1 =>
  (onV (f_X7_goOn [.inr (.inl 0)] τ1) (fun τ2 => some (none, τ2)) (fun τ2 =>
  some (some none, (wr τ2 0 18 ((τ2 0 18) + 1))))))) := (onV_cg (fun _ => rfl) (fun τ1 => (onV_cg (fun _ => rfl) (fun τ2 => rfl))))
set_option maxRecDepth 20000 in
theorem e0_X7_readStatement (n : Nat) (σ : Mm) : sem0 t_X7_readStatement cs_X7_readStatement 2 n [.inr (.inl 0)] σ =
  (if (σ 0 12) = 0 then
    (b_X7_readStatement_15 n (σ 0 13) σ)
  else
    (b_X7_readStatement_15 n (-1) σ)) := (if_cg rfl rfl)
theorem e_X7_readStatement (σ : Mm) : f_X7_readStatement [.inr (.inl 0)] σ = (if (σ 0 12) = 0 then (b_X7_readStatement_15 bigM (σ 0 13) σ) else (b_X7_readStatement_15 bigM (-1) σ)) := (lock_ap _ _).trans (e0_X7_readStatement bigM σ)
noncomputable def b_X7_load_43 (n : Nat) (σ : Mm) : Option Ou := rn t_X7_load cs_X7_load n 43 [(0, .inr (.inl 0))] [] σ
noncomputable def b_X7_load_65 (n : Nat) (σ : Mm) : Option Ou := rn t_X7_load cs_X7_load n 65 [(0, .inr (.inl 0))] [] σ
noncomputable def b_X7_load_86 (n : Nat) (s1 : Int32) (σ : Mm) : Option Ou := rn t_X7_load cs_X7_load n 86 [(0, .inr (.inl 0))] [.inl s1, .inr (.inl 0)] σ
set_option maxRecDepth 20000 in
theorem e_X7_load_43 (n : Nat) (σ : Mm) : b_X7_load_43 (n + 1)  σ =
  (if (σ 0 15) = 0 then
    (if (σ 0 12) = 3 then
      (b_X7_load_65 n  σ)
    else
      (onV (f_X7_readStatement [.inr (.inl 0)] σ) (fun τ1 => some (none, τ1)) (fun τ1 =>
      (b_X7_load_43 n  τ1))))
  else
    (b_X7_load_65 n  σ)) := (if_cg (if_cg rfl (onV_cg (fun _ => rfl) (fun τ1 => rfl))) rfl)
set_option maxRecDepth 20000 in
theorem e_X7_load_65 (n : Nat) (σ : Mm) : b_X7_load_65 (n + 1)  σ =
  (if (σ 0 15) = 0 then
    (b_X7_load_86 n (-1) (wr σ 0 2 0))
  else
    (b_X7_load_86 n (σ 0 16) (wr σ 0 2 0))) := (if_cg rfl rfl)
set_option maxRecDepth 20000 in
theorem e_X7_load_86 (n : Nat) (s1 : Int32) (σ : Mm) : b_X7_load_86 (n + 1) s1 σ =
  (if (σ 0 15) = 0 then
    (onV (f_X7_takes [.inr (.inl 0)] (wr σ 0 17 s1)) (fun τ1 => some (none, τ1)) (fun τ1 =>
    some (some (some (.inl (τ1 0 18))), τ1)))
  else
    some (some (some (.inl (σ 0 15))), (wr σ 0 17 s1))) := (if_cg (onV_cg (fun _ => rfl) (fun τ1 => rfl)) rfl)
set_option maxRecDepth 20000 in
theorem e0_X7_load (n : Nat) (x1 : Int32) (σ : Mm) : sem0 t_X7_load cs_X7_load 2 n [.inr (.inl 0), .inl x1] σ =
  (if x1 < 0 then
    some (some (some (.inl (-2))), (wr σ 0 0 0))
  else
    (if (σ 0 2) < x1 then
      some (some (some (.inl (-2))), (wr σ 0 0 0))
    else
      (onV (f_X7_newForge [.inr (.inl 0)] (wr σ 0 0 0)) (fun τ1 => some (none, τ1)) (fun τ1 =>
      (onV (f_X7_next [.inr (.inl 0)] (wr (wr (wr τ1 0 9 x1) 0 10 0) 0 15 0)) (fun τ2 => some (none, τ2)) (fun τ2 =>
      (b_X7_load_43 n  τ2))))))) := (if_cg rfl (if_cg rfl (onV_cg (fun _ => rfl) (fun τ1 => (onV_cg (fun _ => rfl) (fun τ2 => rfl))))))
theorem e_X7_load (x1 : Int32) (σ : Mm) : f_X7_load [.inr (.inl 0), .inl x1] σ = (if x1 < 0 then some (some (some (.inl (-2))), (wr σ 0 0 0)) else (if (σ 0 2) < x1 then some (some (some (.inl (-2))), (wr σ 0 0 0)) else (onV (f_X7_newForge [.inr (.inl 0)] (wr σ 0 0 0)) (fun τ1 => some (none, τ1)) (fun τ1 => (onV (f_X7_next [.inr (.inl 0)] (wr (wr (wr τ1 0 9 x1) 0 10 0) 0 15 0)) (fun τ2 => some (none, τ2)) (fun τ2 => (b_X7_load_43 bigM τ2))))))) := (lock_ap _ _).trans (e0_X7_load bigM x1 σ)
set_option maxRecDepth 20000 in
theorem e0_X7_errorPosition (n : Nat) (σ : Mm) : sem0 t_X7_errorPosition cs_X7_errorPosition 1 n [.inr (.inl 0)] σ =
  some (some (some (.inl (σ 0 17))), (wr σ 0 0 0)) := rfl
theorem e_X7_errorPosition (σ : Mm) : f_X7_errorPosition [.inr (.inl 0)] σ = some (some (some (.inl (σ 0 17))), (wr σ 0 0 0)) := (lock_ap _ _).trans (e0_X7_errorPosition bigM σ)
set_option maxRecDepth 20000 in
theorem e0_X7_isIron (n : Nat) (x1 : Int32) (σ : Mm) : sem0 t_X7_isIron cs_X7_isIron 2 n [.inr (.inl 0), .inl x1] σ =
  (if x1 < 0 then
    some (some (some (.inl 0)), σ)
  else
    (if x1 < (σ 2 18) then
      some (some (some (.inl 1)), σ)
    else
      some (some (some (.inl 0)), σ))) := (if_cg rfl (if_cg rfl rfl))
theorem e_X7_isIron (x1 : Int32) (σ : Mm) : f_X7_isIron [.inr (.inl 0), .inl x1] σ = (if x1 < 0 then some (some (some (.inl 0)), σ) else (if x1 < (σ 2 18) then some (some (some (.inl 1)), σ) else some (some (some (.inl 0)), σ))) := (lock_ap _ _).trans (e0_X7_isIron bigM x1 σ)
set_option maxRecDepth 20000 in
theorem e0_X7_isPlace (n : Nat) (x1 : Int32) (σ : Mm) : sem0 t_X7_isPlace cs_X7_isPlace 2 n [.inr (.inl 0), .inl x1] σ =
  (if x1 < 0 then
    some (some (some (.inl 0)), σ)
  else
    (if x1 < (σ 2 19) then
      some (some (some (.inl 1)), σ)
    else
      some (some (some (.inl 0)), σ))) := (if_cg rfl (if_cg rfl rfl))
theorem e_X7_isPlace (x1 : Int32) (σ : Mm) : f_X7_isPlace [.inr (.inl 0), .inl x1] σ = (if x1 < 0 then some (some (some (.inl 0)), σ) else (if x1 < (σ 2 19) then some (some (some (.inl 1)), σ) else some (some (some (.inl 0)), σ))) := (lock_ap _ _).trans (e0_X7_isPlace bigM x1 σ)
set_option maxRecDepth 20000 in
theorem e0_X7_isStep (n : Nat) (x1 x2 : Int32) (σ : Mm) : sem0 t_X7_isStep cs_X7_isStep 3 n [.inr (.inl 0), .inl x1, .inl x2] σ =
  (onI (f_X7_isIron [.inr (.inl 0), .inl x1] σ) (fun τ1 => some (none, τ1)) (fun r1 τ1 =>
  (if r1 = 0 then
    some (some (some (.inl 0)), τ1)
  else
    (if x2 < 0 then
      some (some (some (.inl 0)), τ1)
    else
      (if inb (0 + x1) 81 = true then
      (if x2 < (τ1 4 (0 + x1).toNatClampNeg) then
        some (some (some (.inl 1)), τ1)
      else
        some (some (some (.inl 0)), τ1))
      else none))))) := (onI_cg (fun _ => rfl) (fun r1 τ1 => (if_cg rfl (if_cg rfl (if_cg (if_cg rfl rfl) rfl)))))
theorem e_X7_isStep (x1 x2 : Int32) (σ : Mm) : f_X7_isStep [.inr (.inl 0), .inl x1, .inl x2] σ = (onI (f_X7_isIron [.inr (.inl 0), .inl x1] σ) (fun τ1 => some (none, τ1)) (fun r1 τ1 => (if r1 = 0 then some (some (some (.inl 0)), τ1) else (if x2 < 0 then some (some (some (.inl 0)), τ1) else (if inb (0 + x1) 81 = true then (if x2 < (τ1 4 (0 + x1).toNatClampNeg) then some (some (some (.inl 1)), τ1) else some (some (some (.inl 0)), τ1)) else none))))) := (lock_ap _ _).trans (e0_X7_isStep bigM x1 x2 σ)
set_option maxRecDepth 20000 in
theorem e0_X7_checks (n : Nat) (x1 : Int32) (σ : Mm) : sem0 t_X7_checks cs_X7_checks 2 n [.inr (.inl 0), .inl x1] σ =
  (if x1 = 0 then
    (if x1 = 0 ∨ x1 = 1 then some (some (some (.inl x1)), (wr σ 0 0 1)) else none)
  else
    (if x1 = 0 ∨ x1 = 1 then some (some (some (.inl x1)), (wr σ 0 0 0)) else none)) := (if_cg rfl rfl)
theorem e_X7_checks (x1 : Int32) (σ : Mm) : f_X7_checks [.inr (.inl 0), .inl x1] σ = (if x1 = 0 then (if x1 = 0 ∨ x1 = 1 then some (some (some (.inl x1)), (wr σ 0 0 1)) else none) else (if x1 = 0 ∨ x1 = 1 then some (some (some (.inl x1)), (wr σ 0 0 0)) else none)) := (lock_ap _ _).trans (e0_X7_checks bigM x1 σ)
set_option maxRecDepth 20000 in
theorem e0_X7_ironCount (n : Nat) (σ : Mm) : sem0 t_X7_ironCount cs_X7_ironCount 1 n [.inr (.inl 0)] σ =
  some (some (some (.inl (σ 2 18))), (wr σ 0 0 0)) := rfl
theorem e_X7_ironCount (σ : Mm) : f_X7_ironCount [.inr (.inl 0)] σ = some (some (some (.inl (σ 2 18))), (wr σ 0 0 0)) := (lock_ap _ _).trans (e0_X7_ironCount bigM σ)
set_option maxRecDepth 20000 in
theorem e0_X7_placeCount (n : Nat) (σ : Mm) : sem0 t_X7_placeCount cs_X7_placeCount 1 n [.inr (.inl 0)] σ =
  some (some (some (.inl (σ 2 19))), (wr σ 0 0 0)) := rfl
theorem e_X7_placeCount (σ : Mm) : f_X7_placeCount [.inr (.inl 0)] σ = some (some (some (.inl (σ 2 19))), (wr σ 0 0 0)) := (lock_ap _ _).trans (e0_X7_placeCount bigM σ)
set_option maxRecDepth 20000 in
theorem e0_X7_undoCount (n : Nat) (σ : Mm) : sem0 t_X7_undoCount cs_X7_undoCount 1 n [.inr (.inl 0)] σ =
  some (some (some (.inl (σ 0 8))), (wr σ 0 0 0)) := rfl
theorem e_X7_undoCount (σ : Mm) : f_X7_undoCount [.inr (.inl 0)] σ = some (some (some (.inl (σ 0 8))), (wr σ 0 0 0)) := (lock_ap _ _).trans (e0_X7_undoCount bigM σ)
set_option maxRecDepth 20000 in
theorem e0_X7_ironNamed (n : Nat) (x1 : Int32) (σ : Mm) : sem0 t_X7_ironNamed cs_X7_ironNamed 2 n [.inr (.inl 0), .inl x1] σ =
  (onI (f_X7_found [.inr (.inl 2), .inl x1] (wr σ 0 0 0)) (fun τ1 => some (none, τ1)) (fun r1 τ1 =>
  some (some (some (.inl r1)), τ1))) := (onI_cg (fun _ => rfl) (fun r1 τ1 => rfl))
theorem e_X7_ironNamed (x1 : Int32) (σ : Mm) : f_X7_ironNamed [.inr (.inl 0), .inl x1] σ = (onI (f_X7_found [.inr (.inl 2), .inl x1] (wr σ 0 0 0)) (fun τ1 => some (none, τ1)) (fun r1 τ1 => some (some (some (.inl r1)), τ1))) := (lock_ap _ _).trans (e0_X7_ironNamed bigM x1 σ)
set_option maxRecDepth 20000 in
theorem e0_X7_mass (n : Nat) (x1 : Int32) (σ : Mm) : sem0 t_X7_mass cs_X7_mass 2 n [.inr (.inl 0), .inl x1] σ =
  (onI (f_X7_isIron [.inr (.inl 0), .inl x1] σ) (fun τ1 => some (none, τ1)) (fun r1 τ1 =>
  (onI (f_X7_checks [.inr (.inl 0), .inl r1] τ1) (fun τ2 => some (none, τ2)) (fun r2 τ2 =>
  (if r2 = 0 then
    some (some (some (.inl 0)), τ2)
  else
    (if inb (6 + x1) 20 = true then
    some (some (some (.inl (τ2 2 (6 + x1).toNatClampNeg))), τ2)
    else none)))))) := (onI_cg (fun _ => rfl) (fun r1 τ1 => (onI_cg (fun _ => rfl) (fun r2 τ2 => (if_cg rfl (if_cg rfl rfl))))))
theorem e_X7_mass (x1 : Int32) (σ : Mm) : f_X7_mass [.inr (.inl 0), .inl x1] σ = (onI (f_X7_isIron [.inr (.inl 0), .inl x1] σ) (fun τ1 => some (none, τ1)) (fun r1 τ1 => (onI (f_X7_checks [.inr (.inl 0), .inl r1] τ1) (fun τ2 => some (none, τ2)) (fun r2 τ2 => (if r2 = 0 then some (some (some (.inl 0)), τ2) else (if inb (6 + x1) 20 = true then some (some (some (.inl (τ2 2 (6 + x1).toNatClampNeg))), τ2) else none)))))) := (lock_ap _ _).trans (e0_X7_mass bigM x1 σ)
set_option maxRecDepth 20000 in
theorem e0_X7_cooling (n : Nat) (x1 : Int32) (σ : Mm) : sem0 t_X7_cooling cs_X7_cooling 2 n [.inr (.inl 0), .inl x1] σ =
  (onI (f_X7_isIron [.inr (.inl 0), .inl x1] σ) (fun τ1 => some (none, τ1)) (fun r1 τ1 =>
  (onI (f_X7_checks [.inr (.inl 0), .inl r1] τ1) (fun τ2 => some (none, τ2)) (fun r2 τ2 =>
  (if r2 = 0 then
    some (some (some (.inl 0)), τ2)
  else
    (if inb (12 + x1) 20 = true then
    some (some (some (.inl (τ2 2 (12 + x1).toNatClampNeg))), τ2)
    else none)))))) := (onI_cg (fun _ => rfl) (fun r1 τ1 => (onI_cg (fun _ => rfl) (fun r2 τ2 => (if_cg rfl (if_cg rfl rfl))))))
theorem e_X7_cooling (x1 : Int32) (σ : Mm) : f_X7_cooling [.inr (.inl 0), .inl x1] σ = (onI (f_X7_isIron [.inr (.inl 0), .inl x1] σ) (fun τ1 => some (none, τ1)) (fun r1 τ1 => (onI (f_X7_checks [.inr (.inl 0), .inl r1] τ1) (fun τ2 => some (none, τ2)) (fun r2 τ2 => (if r2 = 0 then some (some (some (.inl 0)), τ2) else (if inb (12 + x1) 20 = true then some (some (some (.inl (τ2 2 (12 + x1).toNatClampNeg))), τ2) else none)))))) := (lock_ap _ _).trans (e0_X7_cooling bigM x1 σ)
set_option maxRecDepth 20000 in
theorem e0_X7_stepCount (n : Nat) (x1 : Int32) (σ : Mm) : sem0 t_X7_stepCount cs_X7_stepCount 2 n [.inr (.inl 0), .inl x1] σ =
  (onI (f_X7_isIron [.inr (.inl 0), .inl x1] σ) (fun τ1 => some (none, τ1)) (fun r1 τ1 =>
  (onI (f_X7_checks [.inr (.inl 0), .inl r1] τ1) (fun τ2 => some (none, τ2)) (fun r2 τ2 =>
  (if r2 = 0 then
    some (some (some (.inl 0)), τ2)
  else
    (if inb (0 + x1) 81 = true then
    some (some (some (.inl (τ2 4 (0 + x1).toNatClampNeg))), τ2)
    else none)))))) := (onI_cg (fun _ => rfl) (fun r1 τ1 => (onI_cg (fun _ => rfl) (fun r2 τ2 => (if_cg rfl (if_cg rfl rfl))))))
theorem e_X7_stepCount (x1 : Int32) (σ : Mm) : f_X7_stepCount [.inr (.inl 0), .inl x1] σ = (onI (f_X7_isIron [.inr (.inl 0), .inl x1] σ) (fun τ1 => some (none, τ1)) (fun r1 τ1 => (onI (f_X7_checks [.inr (.inl 0), .inl r1] τ1) (fun τ2 => some (none, τ2)) (fun r2 τ2 => (if r2 = 0 then some (some (some (.inl 0)), τ2) else (if inb (0 + x1) 81 = true then some (some (some (.inl (τ2 4 (0 + x1).toNatClampNeg))), τ2) else none)))))) := (lock_ap _ _).trans (e0_X7_stepCount bigM x1 σ)
set_option maxRecDepth 20000 in
theorem e0_X7_stepHeat (n : Nat) (x1 x2 : Int32) (σ : Mm) : sem0 t_X7_stepHeat cs_X7_stepHeat 3 n [.inr (.inl 0), .inl x1, .inl x2] σ =
  (onI (f_X7_isStep [.inr (.inl 0), .inl x1, .inl x2] σ) (fun τ1 => some (none, τ1)) (fun r1 τ1 =>
  (onI (f_X7_checks [.inr (.inl 0), .inl r1] τ1) (fun τ2 => some (none, τ2)) (fun r2 τ2 =>
  (if r2 = 0 then
    some (some (some (.inl 0)), τ2)
  else
    (if inb ((6 + (5 * x1)) + x2) 81 = true then
    some (some (some (.inl (τ2 4 ((6 + (5 * x1)) + x2).toNatClampNeg))), τ2)
    else none)))))) := (onI_cg (fun _ => rfl) (fun r1 τ1 => (onI_cg (fun _ => rfl) (fun r2 τ2 => (if_cg rfl (if_cg rfl rfl))))))
theorem e_X7_stepHeat (x1 x2 : Int32) (σ : Mm) : f_X7_stepHeat [.inr (.inl 0), .inl x1, .inl x2] σ = (onI (f_X7_isStep [.inr (.inl 0), .inl x1, .inl x2] σ) (fun τ1 => some (none, τ1)) (fun r1 τ1 => (onI (f_X7_checks [.inr (.inl 0), .inl r1] τ1) (fun τ2 => some (none, τ2)) (fun r2 τ2 => (if r2 = 0 then some (some (some (.inl 0)), τ2) else (if inb ((6 + (5 * x1)) + x2) 81 = true then some (some (some (.inl (τ2 4 ((6 + (5 * x1)) + x2).toNatClampNeg))), τ2) else none)))))) := (lock_ap _ _).trans (e0_X7_stepHeat bigM x1 x2 σ)
set_option maxRecDepth 20000 in
theorem e0_X7_stepMinutes (n : Nat) (x1 x2 : Int32) (σ : Mm) : sem0 t_X7_stepMinutes cs_X7_stepMinutes 3 n [.inr (.inl 0), .inl x1, .inl x2] σ =
  (onI (f_X7_isStep [.inr (.inl 0), .inl x1, .inl x2] σ) (fun τ1 => some (none, τ1)) (fun r1 τ1 =>
  (onI (f_X7_checks [.inr (.inl 0), .inl r1] τ1) (fun τ2 => some (none, τ2)) (fun r2 τ2 =>
  (if r2 = 0 then
    some (some (some (.inl 0)), τ2)
  else
    (if inb ((36 + (5 * x1)) + x2) 81 = true then
    some (some (some (.inl (τ2 4 ((36 + (5 * x1)) + x2).toNatClampNeg))), τ2)
    else none)))))) := (onI_cg (fun _ => rfl) (fun r1 τ1 => (onI_cg (fun _ => rfl) (fun r2 τ2 => (if_cg rfl (if_cg rfl rfl))))))
theorem e_X7_stepMinutes (x1 x2 : Int32) (σ : Mm) : f_X7_stepMinutes [.inr (.inl 0), .inl x1, .inl x2] σ = (onI (f_X7_isStep [.inr (.inl 0), .inl x1, .inl x2] σ) (fun τ1 => some (none, τ1)) (fun r1 τ1 => (onI (f_X7_checks [.inr (.inl 0), .inl r1] τ1) (fun τ2 => some (none, τ2)) (fun r2 τ2 => (if r2 = 0 then some (some (some (.inl 0)), τ2) else (if inb ((36 + (5 * x1)) + x2) 81 = true then some (some (some (.inl (τ2 4 ((36 + (5 * x1)) + x2).toNatClampNeg))), τ2) else none)))))) := (lock_ap _ _).trans (e0_X7_stepMinutes bigM x1 x2 σ)
set_option maxRecDepth 20000 in
theorem e0_X7_placeRate (n : Nat) (x1 : Int32) (σ : Mm) : sem0 t_X7_placeRate cs_X7_placeRate 2 n [.inr (.inl 0), .inl x1] σ =
  (onI (f_X7_isPlace [.inr (.inl 0), .inl x1] σ) (fun τ1 => some (none, τ1)) (fun r1 τ1 =>
  (onI (f_X7_checks [.inr (.inl 0), .inl r1] τ1) (fun τ2 => some (none, τ2)) (fun r2 τ2 =>
  (if r2 = 0 then
    some (some (some (.inl 0)), τ2)
  else
    (if inb (66 + x1) 81 = true then
    some (some (some (.inl (τ2 4 (66 + x1).toNatClampNeg))), τ2)
    else none)))))) := (onI_cg (fun _ => rfl) (fun r1 τ1 => (onI_cg (fun _ => rfl) (fun r2 τ2 => (if_cg rfl (if_cg rfl rfl))))))
theorem e_X7_placeRate (x1 : Int32) (σ : Mm) : f_X7_placeRate [.inr (.inl 0), .inl x1] σ = (onI (f_X7_isPlace [.inr (.inl 0), .inl x1] σ) (fun τ1 => some (none, τ1)) (fun r1 τ1 => (onI (f_X7_checks [.inr (.inl 0), .inl r1] τ1) (fun τ2 => some (none, τ2)) (fun r2 τ2 => (if r2 = 0 then some (some (some (.inl 0)), τ2) else (if inb (66 + x1) 81 = true then some (some (some (.inl (τ2 4 (66 + x1).toNatClampNeg))), τ2) else none)))))) := (lock_ap _ _).trans (e0_X7_placeRate bigM x1 σ)
set_option maxRecDepth 20000 in
theorem e0_X7_placeLimit (n : Nat) (x1 : Int32) (σ : Mm) : sem0 t_X7_placeLimit cs_X7_placeLimit 2 n [.inr (.inl 0), .inl x1] σ =
  (onI (f_X7_isPlace [.inr (.inl 0), .inl x1] σ) (fun τ1 => some (none, τ1)) (fun r1 τ1 =>
  (onI (f_X7_checks [.inr (.inl 0), .inl r1] τ1) (fun τ2 => some (none, τ2)) (fun r2 τ2 =>
  (if r2 = 0 then
    some (some (some (.inl 0)), τ2)
  else
    (if inb (69 + x1) 81 = true then
    some (some (some (.inl (τ2 4 (69 + x1).toNatClampNeg))), τ2)
    else none)))))) := (onI_cg (fun _ => rfl) (fun r1 τ1 => (onI_cg (fun _ => rfl) (fun r2 τ2 => (if_cg rfl (if_cg rfl rfl))))))
theorem e_X7_placeLimit (x1 : Int32) (σ : Mm) : f_X7_placeLimit [.inr (.inl 0), .inl x1] σ = (onI (f_X7_isPlace [.inr (.inl 0), .inl x1] σ) (fun τ1 => some (none, τ1)) (fun r1 τ1 => (onI (f_X7_checks [.inr (.inl 0), .inl r1] τ1) (fun τ2 => some (none, τ2)) (fun r2 τ2 => (if r2 = 0 then some (some (some (.inl 0)), τ2) else (if inb (69 + x1) 81 = true then some (some (some (.inl (τ2 4 (69 + x1).toNatClampNeg))), τ2) else none)))))) := (lock_ap _ _).trans (e0_X7_placeLimit bigM x1 σ)
set_option maxRecDepth 20000 in
theorem e0_X7_isSetting (n : Nat) (x0 : Int32) (σ : Mm) : sem0 t_X7_isSetting cs_X7_isSetting 1 n [.inl x0] σ =
  (if x0 < 0 then
    some (some (some (.inl 0)), σ)
  else
    (if 2 < x0 then
      some (some (some (.inl 0)), σ)
    else
      some (some (some (.inl 1)), σ))) := (if_cg rfl (if_cg rfl rfl))
theorem e_X7_isSetting (x0 : Int32) (σ : Mm) : f_X7_isSetting [.inl x0] σ = (if x0 < 0 then some (some (some (.inl 0)), σ) else (if 2 < x0 then some (some (some (.inl 0)), σ) else some (some (some (.inl 1)), σ))) := (lock_ap _ _).trans (e0_X7_isSetting bigM x0 σ)
set_option maxRecDepth 20000 in
theorem e0_X7_getSetting (n : Nat) (x1 : Int32) (σ : Mm) : sem0 t_X7_getSetting cs_X7_getSetting 2 n [.inr (.inl 0), .inl x1] σ =
  (onI (f_X7_isSetting [.inl x1] (pk (sg0) (wr σ 0 0 0))) (fun τ1 => some (none, (put (sg0) (wr σ 0 0 0) τ1))) (fun r1 τ1 =>
  (if r1 = 0 then
    some (some (some (.inl (-2))), (put (sg0) (wr σ 0 0 0) τ1))
  else
    (if inb (78 + x1) 81 = true then
    some (some (some (.inl (σ 4 (78 + x1).toNatClampNeg))), (put (sg0) (wr σ 0 0 0) τ1))
    else none)))) := (onI_cg (fun _ => rfl) (fun r1 τ1 => (if_cg rfl (if_cg rfl rfl))))
theorem e_X7_getSetting (x1 : Int32) (σ : Mm) : f_X7_getSetting [.inr (.inl 0), .inl x1] σ = (onI (f_X7_isSetting [.inl x1] (pk (sg0) (wr σ 0 0 0))) (fun τ1 => some (none, (put (sg0) (wr σ 0 0 0) τ1))) (fun r1 τ1 => (if r1 = 0 then some (some (some (.inl (-2))), (put (sg0) (wr σ 0 0 0) τ1)) else (if inb (78 + x1) 81 = true then some (some (some (.inl (σ 4 (78 + x1).toNatClampNeg))), (put (sg0) (wr σ 0 0 0) τ1)) else none)))) := (lock_ap _ _).trans (e0_X7_getSetting bigM x1 σ)
set_option maxRecDepth 20000 in
theorem e0_X7_ironAt (n : Nat) (x1 : Int32) (σ : Mm) : sem0 t_X7_ironAt cs_X7_ironAt 2 n [.inr (.inl 0), .inl x1] σ =
  (onI (f_X7_isIron [.inr (.inl 0), .inl x1] σ) (fun τ1 => some (none, τ1)) (fun r1 τ1 =>
  (onI (f_X7_checks [.inr (.inl 0), .inl r1] τ1) (fun τ2 => some (none, τ2)) (fun r2 τ2 =>
  (if r2 = 0 then
    some (some (some (.inl 0)), τ2)
  else
    (if inb (72 + x1) 81 = true then
    some (some (some (.inl (τ2 4 (72 + x1).toNatClampNeg))), τ2)
    else none)))))) := (onI_cg (fun _ => rfl) (fun r1 τ1 => (onI_cg (fun _ => rfl) (fun r2 τ2 => (if_cg rfl (if_cg rfl rfl))))))
theorem e_X7_ironAt (x1 : Int32) (σ : Mm) : f_X7_ironAt [.inr (.inl 0), .inl x1] σ = (onI (f_X7_isIron [.inr (.inl 0), .inl x1] σ) (fun τ1 => some (none, τ1)) (fun r1 τ1 => (onI (f_X7_checks [.inr (.inl 0), .inl r1] τ1) (fun τ2 => some (none, τ2)) (fun r2 τ2 => (if r2 = 0 then some (some (some (.inl 0)), τ2) else (if inb (72 + x1) 81 = true then some (some (some (.inl (τ2 4 (72 + x1).toNatClampNeg))), τ2) else none)))))) := (lock_ap _ _).trans (e0_X7_ironAt bigM x1 σ)
noncomputable def b_X7_positionOf_16 (n : Nat) (x1 x2 : Int32) (σ : Mm) : Option Ou := rn t_X7_positionOf cs_X7_positionOf n 16 [(0, .inr (.inl 0)), (1, .inl x1), (2, .inl x2)] [] σ
set_option maxRecDepth 20000 in
theorem e_X7_positionOf_16 (n : Nat) (x1 x2 : Int32) (σ : Mm) : b_X7_positionOf_16 (n + 1) x1 x2 σ =
  (if inb (72 + x2) 81 = true then
  (if (σ 4 (72 + x2).toNatClampNeg) = x1 then
    some (some (some (.inl x2)), σ)
  else
    (b_X7_positionOf_16 n x1 (x2 + 1) σ))
  else none) := (if_cg (if_cg rfl rfl) rfl)
set_option maxRecDepth 20000 in
theorem e0_X7_positionOf (n : Nat) (x1 : Int32) (σ : Mm) : sem0 t_X7_positionOf cs_X7_positionOf 3 n [.inr (.inl 0), .inl x1] σ =
  (onI (f_X7_isIron [.inr (.inl 0), .inl x1] σ) (fun τ1 => some (none, τ1)) (fun r1 τ1 =>
  (onI (f_X7_checks [.inr (.inl 0), .inl r1] τ1) (fun τ2 => some (none, τ2)) (fun r2 τ2 =>
  (if r2 = 0 then
    some (some (some (.inl 0)), τ2)
  else
    (b_X7_positionOf_16 n x1 0 τ2)))))) := (onI_cg (fun _ => rfl) (fun r1 τ1 => (onI_cg (fun _ => rfl) (fun r2 τ2 => (if_cg rfl rfl)))))
theorem e_X7_positionOf (x1 : Int32) (σ : Mm) : f_X7_positionOf [.inr (.inl 0), .inl x1] σ = (onI (f_X7_isIron [.inr (.inl 0), .inl x1] σ) (fun τ1 => some (none, τ1)) (fun r1 τ1 => (onI (f_X7_checks [.inr (.inl 0), .inl r1] τ1) (fun τ2 => some (none, τ2)) (fun r2 τ2 => (if r2 = 0 then some (some (some (.inl 0)), τ2) else (b_X7_positionOf_16 bigM x1 0 τ2)))))) := (lock_ap _ _).trans (e0_X7_positionOf bigM x1 σ)
set_option maxRecDepth 20000 in
theorem e0_X7_isDone (n : Nat) (x1 : Int32) (σ : Mm) : sem0 t_X7_isDone cs_X7_isDone 2 n [.inr (.inl 0), .inl x1] σ =
  (if inb x1 6 = true then
  (if inb (0 + x1) 81 = true then
  (if (σ 10 x1.toNatClampNeg) = (σ 4 (0 + x1).toNatClampNeg) then
    some (some (some (.inl 1)), σ)
  else
    some (some (some (.inl 0)), σ))
  else none)
  else none) := (if_cg (if_cg (if_cg rfl rfl) rfl) rfl)
theorem e_X7_isDone (x1 : Int32) (σ : Mm) : f_X7_isDone [.inr (.inl 0), .inl x1] σ = (if inb x1 6 = true then (if inb (0 + x1) 81 = true then (if (σ 10 x1.toNatClampNeg) = (σ 4 (0 + x1).toNatClampNeg) then some (some (some (.inl 1)), σ) else some (some (some (.inl 0)), σ)) else none) else none) := (lock_ap _ _).trans (e0_X7_isDone bigM x1 σ)
set_option maxRecDepth 20000 in
theorem e0_X7_needs (n : Nat) (x1 : Int32) (σ : Mm) : sem0 t_X7_needs cs_X7_needs 2 n [.inr (.inl 0), .inl x1] σ =
  (if inb x1 6 = true then
  (if inb ((6 + (5 * x1)) + (σ 10 x1.toNatClampNeg)) 81 = true then
  some (some (some (.inl (σ 4 ((6 + (5 * x1)) + (σ 10 x1.toNatClampNeg)).toNatClampNeg))), σ)
  else none)
  else none) := (if_cg (if_cg rfl rfl) rfl)
theorem e_X7_needs (x1 : Int32) (σ : Mm) : f_X7_needs [.inr (.inl 0), .inl x1] σ = (if inb x1 6 = true then (if inb ((6 + (5 * x1)) + (σ 10 x1.toNatClampNeg)) 81 = true then some (some (some (.inl (σ 4 ((6 + (5 * x1)) + (σ 10 x1.toNatClampNeg)).toNatClampNeg))), σ) else none) else none) := (lock_ap _ _).trans (e0_X7_needs bigM x1 σ)
set_option maxRecDepth 20000 in
theorem e0_X7_isReady (n : Nat) (x1 : Int32) (σ : Mm) : sem0 t_X7_isReady cs_X7_isReady 2 n [.inr (.inl 0), .inl x1] σ =
  (onI (f_X7_isDone [.inr (.inl 0), .inl x1] σ) (fun τ1 => some (none, τ1)) (fun r1 τ1 =>
  (if r1 = 0 then
    (if inb x1 6 = true then
    (if (τ1 9 x1.toNatClampNeg) < 10 then
      (if inb x1 6 = true then
      (onI (f_X7_needs [.inr (.inl 0), .inl x1] τ1) (fun τ2 => some (none, τ2)) (fun r2 τ2 =>
      (if (τ1 8 x1.toNatClampNeg) < (r2 + (τ2 0 22)) then
        some (some (some (.inl 0)), τ2)
      else
        some (some (some (.inl 1)), τ2))))
      else none)
    else
      some (some (some (.inl 0)), τ1))
    else none)
  else
    some (some (some (.inl 0)), τ1)))) := (onI_cg (fun _ => rfl) (fun r1 τ1 => (if_cg (if_cg (if_cg (if_cg (onI_cg (fun _ => rfl) (fun r2 τ2 => (if_cg rfl rfl))) rfl) rfl) rfl) rfl)))
theorem e_X7_isReady (x1 : Int32) (σ : Mm) : f_X7_isReady [.inr (.inl 0), .inl x1] σ = (onI (f_X7_isDone [.inr (.inl 0), .inl x1] σ) (fun τ1 => some (none, τ1)) (fun r1 τ1 => (if r1 = 0 then (if inb x1 6 = true then (if (τ1 9 x1.toNatClampNeg) < 10 then (if inb x1 6 = true then (onI (f_X7_needs [.inr (.inl 0), .inl x1] τ1) (fun τ2 => some (none, τ2)) (fun r2 τ2 => (if (τ1 8 x1.toNatClampNeg) < (r2 + (τ2 0 22)) then some (some (some (.inl 0)), τ2) else some (some (some (.inl 1)), τ2)))) else none) else some (some (some (.inl 0)), τ1)) else none) else some (some (some (.inl 0)), τ1)))) := (lock_ap _ _).trans (e0_X7_isReady bigM x1 σ)
noncomputable def b_X7_left_15 (n : Nat) (x1 x2 x3 : Int32) (σ : Mm) : Option Ou := rn t_X7_left cs_X7_left n 15 [(0, .inr (.inl 0)), (1, .inl x1), (2, .inl x2), (3, .inl x3)] [] σ
set_option maxRecDepth 20000 in
theorem e_X7_left_15 (n : Nat) (x1 x2 x3 : Int32) (σ : Mm) : b_X7_left_15 (n + 1) x1 x2 x3 σ =
  (if inb (0 + x1) 81 = true then
  (if x3 < (σ 4 (0 + x1).toNatClampNeg) then
    (if inb ((36 + (5 * x1)) + x3) 81 = true then
    (b_X7_left_15 n x1 (x2 + (σ 4 ((36 + (5 * x1)) + x3).toNatClampNeg)) (x3 + 1) σ)
    else none)
  else
    some (some (some (.inl x2)), σ))
  else none) := (if_cg (if_cg (if_cg rfl rfl) rfl) rfl)
set_option maxRecDepth 20000 in
theorem e0_X7_left (n : Nat) (x1 : Int32) (σ : Mm) : sem0 t_X7_left cs_X7_left 4 n [.inr (.inl 0), .inl x1] σ =
  (if inb x1 6 = true then
  (if inb x1 6 = true then
  (b_X7_left_15 n x1 (-(σ 11 x1.toNatClampNeg)) (σ 10 x1.toNatClampNeg) σ)
  else none)
  else none) := (if_cg (if_cg rfl rfl) rfl)
theorem e_X7_left (x1 : Int32) (σ : Mm) : f_X7_left [.inr (.inl 0), .inl x1] σ = (if inb x1 6 = true then (if inb x1 6 = true then (b_X7_left_15 bigM x1 (-(σ 11 x1.toNatClampNeg)) (σ 10 x1.toNatClampNeg) σ) else none) else none) := (lock_ap _ _).trans (e0_X7_left bigM x1 σ)
noncomputable def b_X7_isTaken_4 (n : Nat) (x1 x2 x3 : Int32) (σ : Mm) : Option Ou := rn t_X7_isTaken cs_X7_isTaken n 4 [(0, .inr (.inl 0)), (1, .inl x1), (2, .inl x2), (3, .inl x3)] [] σ
set_option maxRecDepth 20000 in
theorem e_X7_isTaken_4 (n : Nat) (x1 x2 x3 : Int32) (σ : Mm) : b_X7_isTaken_4 (n + 1) x1 x2 x3 σ =
  (if x3 < (σ 0 21) then
    (if inb x3 6 = true then
    (if inb (σ 7 x3.toNatClampNeg) 6 = true then
    (if (σ 9 (σ 7 x3.toNatClampNeg).toNatClampNeg) = x1 then
      (b_X7_isTaken_4 n x1 (x2 ||| 1) (x3 + 1) σ)
    else
      (b_X7_isTaken_4 n x1 (x2 ||| 0) (x3 + 1) σ))
    else none)
    else none)
  else
    (if x2 = 0 ∨ x2 = 1 then some (some (some (.inl x2)), σ) else none)) := (if_cg (if_cg (if_cg (if_cg rfl rfl) rfl) rfl) rfl)
set_option maxRecDepth 20000 in
theorem e0_X7_isTaken (n : Nat) (x1 : Int32) (σ : Mm) : sem0 t_X7_isTaken cs_X7_isTaken 4 n [.inr (.inl 0), .inl x1] σ =
  (b_X7_isTaken_4 n x1 0 0 σ) := rfl
theorem e_X7_isTaken (x1 : Int32) (σ : Mm) : f_X7_isTaken [.inr (.inl 0), .inl x1] σ = (b_X7_isTaken_4 bigM x1 0 0 σ) := (lock_ap _ _).trans (e0_X7_isTaken bigM x1 σ)
set_option maxRecDepth 20000 in
theorem e0_X7_rank (n : Nat) (x1 : Int32) (σ : Mm) : sem0 t_X7_rank cs_X7_rank 3 n [.inr (.inl 0), .inl x1] σ =
  (if (σ 4 80) = 1 then
    (if inb x1 6 = true then
    some (some (some (.inl (σ 8 x1.toNatClampNeg))), σ)
    else none)
  else
    (if (σ 4 80) = 2 then
      (onI (f_X7_left [.inr (.inl 0), .inl x1] σ) (fun τ1 => some (none, τ1)) (fun r1 τ1 =>
      some (some (some (.inl (-r1))), τ1)))
    else
      some (some (some (.inl 0)), σ))) := (if_cg (if_cg rfl rfl) (if_cg (onI_cg (fun _ => rfl) (fun r1 τ1 => rfl)) rfl))
theorem e_X7_rank (x1 : Int32) (σ : Mm) : f_X7_rank [.inr (.inl 0), .inl x1] σ = (if (σ 4 80) = 1 then (if inb x1 6 = true then some (some (some (.inl (σ 8 x1.toNatClampNeg))), σ) else none) else (if (σ 4 80) = 2 then (onI (f_X7_left [.inr (.inl 0), .inl x1] σ) (fun τ1 => some (none, τ1)) (fun r1 τ1 => some (some (some (.inl (-r1))), τ1))) else some (some (some (.inl 0)), σ))) := (lock_ap _ _).trans (e0_X7_rank bigM x1 σ)
noncomputable def b_X7_readyOne_4 (n : Nat) (x1 x2 : Int32) (σ : Mm) : Option Ou := rn t_X7_readyOne cs_X7_readyOne n 4 [(0, .inr (.inl 0)), (1, .inl x1), (2, .inl x2)] [] σ
set_option maxRecDepth 20000 in
theorem e_X7_readyOne_4 (n : Nat) (x1 x2 : Int32) (σ : Mm) : b_X7_readyOne_4 (n + 1) x1 x2 σ =
  (if x2 < (σ 0 21) then
    (if inb x2 6 = true then
    (onI (f_X7_isReady [.inr (.inl 0), .inl (σ 7 x2.toNatClampNeg)] σ) (fun τ1 => some (none, τ1)) (fun r1 τ1 =>
    (if r1 = 0 then
      (b_X7_readyOne_4 n x1 (x2 + 1) τ1)
    else
      (if x1 = (-1) then
        (b_X7_readyOne_4 n (σ 7 x2.toNatClampNeg) (x2 + 1) τ1)
      else
        (onI (f_X7_rank [.inr (.inl 0), .inl (σ 7 x2.toNatClampNeg)] τ1) (fun τ2 => some (none, τ2)) (fun r2 τ2 =>
        (onI (f_X7_rank [.inr (.inl 0), .inl x1] τ2) (fun τ3 => some (none, τ3)) (fun r3 τ3 =>
        (if r3 < r2 then
          (b_X7_readyOne_4 n (σ 7 x2.toNatClampNeg) (x2 + 1) τ3)
        else
          (b_X7_readyOne_4 n x1 (x2 + 1) τ3))))))))))
    else none)
  else
    some (some (some (.inl x1)), σ)) := (if_cg (if_cg (onI_cg (fun _ => rfl) (fun r1 τ1 => (if_cg rfl (if_cg rfl (onI_cg (fun _ => rfl) (fun r2 τ2 => (onI_cg (fun _ => rfl) (fun r3 τ3 => (if_cg rfl rfl))))))))) rfl) rfl)
set_option maxRecDepth 20000 in
theorem e0_X7_readyOne (n : Nat) (σ : Mm) : sem0 t_X7_readyOne cs_X7_readyOne 4 n [.inr (.inl 0)] σ =
  (b_X7_readyOne_4 n (-1) 0 σ) := rfl
theorem e_X7_readyOne (σ : Mm) : f_X7_readyOne [.inr (.inl 0)] σ = (b_X7_readyOne_4 bigM (-1) 0 σ) := (lock_ap _ _).trans (e0_X7_readyOne bigM σ)
noncomputable def b_X7_waitingOne_2 (n : Nat) (x1 : Int32) (σ : Mm) : Option Ou := rn t_X7_waitingOne cs_X7_waitingOne n 2 [(0, .inr (.inl 0)), (1, .inl x1)] [] σ
set_option maxRecDepth 20000 in
theorem e_X7_waitingOne_2 (n : Nat) (x1 : Int32) (σ : Mm) : b_X7_waitingOne_2 (n + 1) x1 σ =
  (if x1 < (σ 0 21) then
    (if inb x1 6 = true then
    (onI (f_X7_isDone [.inr (.inl 0), .inl (σ 7 x1.toNatClampNeg)] σ) (fun τ1 => some (none, τ1)) (fun r1 τ1 =>
    (if r1 = 0 then
      (if inb (σ 7 x1.toNatClampNeg) 6 = true then
      (if (τ1 9 (σ 7 x1.toNatClampNeg).toNatClampNeg) = 0 then
        (onI (f_X7_isReady [.inr (.inl 0), .inl (σ 7 x1.toNatClampNeg)] τ1) (fun τ2 => some (none, τ2)) (fun r2 τ2 =>
        (if r2 = 0 then
          some (some (some (.inl (σ 7 x1.toNatClampNeg))), τ2)
        else
          (b_X7_waitingOne_2 n (x1 + 1) τ2))))
      else
        (b_X7_waitingOne_2 n (x1 + 1) τ1))
      else none)
    else
      (b_X7_waitingOne_2 n (x1 + 1) τ1))))
    else none)
  else
    some (some (some (.inl (-1))), σ)) := (if_cg (if_cg (onI_cg (fun _ => rfl) (fun r1 τ1 => (if_cg (if_cg (if_cg (onI_cg (fun _ => rfl) (fun r2 τ2 => (if_cg rfl rfl))) rfl) rfl) rfl))) rfl) rfl)
set_option maxRecDepth 20000 in
theorem e0_X7_waitingOne (n : Nat) (σ : Mm) : sem0 t_X7_waitingOne cs_X7_waitingOne 3 n [.inr (.inl 0)] σ =
  (b_X7_waitingOne_2 n 0 σ) := rfl
theorem e_X7_waitingOne (σ : Mm) : f_X7_waitingOne [.inr (.inl 0)] σ = (b_X7_waitingOne_2 bigM 0 σ) := (lock_ap _ _).trans (e0_X7_waitingOne bigM σ)
noncomputable def b_X7_begins_2 (n : Nat) (x1 : Int32) (σ : Mm) : Option Ou := rn t_X7_begins cs_X7_begins n 2 [(0, .inr (.inl 0)), (1, .inl x1)] [] σ
noncomputable def b_X7_begins_58 (n : Nat) (x1 s1 s2 : Int32) (σ : Mm) : Option Ou := rn t_X7_begins cs_X7_begins n 58 [(0, .inr (.inl 0)), (1, .inl x1)] [.inl s2, .inl s1, .inr (.inl 12)] σ
set_option maxRecDepth 20000 in
theorem e_X7_begins_2 (n : Nat) (x1 : Int32) (σ : Mm) : b_X7_begins_2 (n + 1) x1 σ =
  (if x1 < 6 then
    (if inb x1 6 = true then
    (if inb x1 6 = true then
    (if inb x1 6 = true then
    (if inb x1 6 = true then
    (if inb (0 + x1) 81 = true then
    (if (σ 4 (0 + x1).toNatClampNeg) = 0 then
      (b_X7_begins_58 n x1 x1 0 (wr (wr (wr (wr σ 8 x1.toNatClampNeg 20) 9 x1.toNatClampNeg 0) 10 x1.toNatClampNeg 0) 11 x1.toNatClampNeg 0))
    else
      (b_X7_begins_58 n x1 x1 (-1) (wr (wr (wr (wr σ 8 x1.toNatClampNeg 20) 9 x1.toNatClampNeg 0) 10 x1.toNatClampNeg 0) 11 x1.toNatClampNeg 0)))
    else none)
    else none)
    else none)
    else none)
    else none)
  else
    some (some none, σ)) := (if_cg (if_cg (if_cg (if_cg (if_cg (if_cg (if_cg rfl rfl) rfl) rfl) rfl) rfl) rfl) rfl)
set_option maxRecDepth 20000 in
theorem e_X7_begins_58 (n : Nat) (x1 s1 s2 : Int32) (σ : Mm) : b_X7_begins_58 (n + 1) x1 s1 s2 σ =
  (if inb s1 6 = true then
  (if inb x1 6 = true then
  (if inb x1 6 = true then
  (b_X7_begins_2 n (x1 + 1) (wr (wr (wr σ 12 s1.toNatClampNeg s2) 13 x1.toNatClampNeg 0) 14 x1.toNatClampNeg 0))
  else none)
  else none)
  else none) := (if_cg (if_cg (if_cg rfl rfl) rfl) rfl)
set_option maxRecDepth 20000 in
theorem e0_X7_begins (n : Nat) (σ : Mm) : sem0 t_X7_begins cs_X7_begins 2 n [.inr (.inl 0)] σ =
  (b_X7_begins_2 n 0 σ) := rfl
theorem e_X7_begins (σ : Mm) : f_X7_begins [.inr (.inl 0)] σ = (b_X7_begins_2 bigM 0 σ) := (lock_ap _ _).trans (e0_X7_begins bigM σ)
noncomputable def b_X7_moves_2 (n : Nat) (x1 : Int32) (σ : Mm) : Option Ou := rn t_X7_moves cs_X7_moves n 2 [(0, .inr (.inl 0)), (1, .inl x1)] [] σ
noncomputable def b_X7_moves_56 (n : Nat) (x1 x2 : Int32) (σ : Mm) : Option Ou := rn t_X7_moves cs_X7_moves n 56 [(0, .inr (.inl 0)), (1, .inl x1), (2, .inl x2)] [] σ
noncomputable def b_X7_moves_93 (n : Nat) (x1 : Int32) (σ : Mm) : Option Ou := rn t_X7_moves cs_X7_moves n 93 [(0, .inr (.inl 0)), (1, .inl x1)] [] σ
noncomputable def b_X7_moves_123 (n : Nat) (x1 s0 : Int32) (σ : Mm) : Option Ou := rn t_X7_moves cs_X7_moves n 123 [(0, .inr (.inl 0)), (1, .inl x1)] [.inl s0] σ
noncomputable def b_X7_moves_147 (n : Nat) (x1 : Int32) (σ : Mm) : Option Ou := rn t_X7_moves cs_X7_moves n 147 [(0, .inr (.inl 0)), (1, .inl x1)] [] σ
noncomputable def b_X7_moves_184 (n : Nat) (x1 s0 : Int32) (σ : Mm) : Option Ou := rn t_X7_moves cs_X7_moves n 184 [(0, .inr (.inl 0)), (1, .inl x1)] [.inl s0] σ
set_option maxRecDepth 20000 in
theorem e_X7_moves_2 (n : Nat) (x1 : Int32) (σ : Mm) : b_X7_moves_2 (n + 1) x1 σ =
  (if x1 < (σ 0 21) then
    (if inb x1 6 = true then
    (if inb (σ 7 x1.toNatClampNeg) 6 = true then
    (if (σ 9 (σ 7 x1.toNatClampNeg).toNatClampNeg) < 10 then
      (b_X7_moves_2 n (x1 + 1) σ)
    else
      (onI (f_X7_isDone [.inr (.inl 0), .inl (σ 7 x1.toNatClampNeg)] σ) (fun τ1 => some (none, τ1)) (fun r1 τ1 =>
      (if r1 = 0 then
        (if inb (σ 7 x1.toNatClampNeg) 6 = true then
        (onI (f_X7_needs [.inr (.inl 0), .inl (σ 7 x1.toNatClampNeg)] τ1) (fun τ2 => some (none, τ2)) (fun r2 τ2 =>
        (if (τ1 8 (σ 7 x1.toNatClampNeg).toNatClampNeg) < r2 then
          (b_X7_moves_56 n x1 (σ 7 x1.toNatClampNeg) τ2)
        else
          (b_X7_moves_2 n (x1 + 1) τ2))))
        else none)
      else
        (b_X7_moves_56 n x1 (σ 7 x1.toNatClampNeg) τ1)))))
    else none)
    else none)
  else
    (b_X7_moves_93 n 0 σ)) := (if_cg (if_cg (if_cg (if_cg rfl (onI_cg (fun _ => rfl) (fun r1 τ1 => (if_cg (if_cg (onI_cg (fun _ => rfl) (fun r2 τ2 => (if_cg rfl rfl))) rfl) rfl)))) rfl) rfl) rfl)
set_option maxRecDepth 20000 in
theorem e_X7_moves_56 (n : Nat) (x1 x2 : Int32) (σ : Mm) : b_X7_moves_56 (n + 1) x1 x2 σ =
  (if inb x2 6 = true then
  (if inb x2 6 = true then
  (onI (f_X7_isDone [.inr (.inl 0), .inl x2] (wr σ 9 x2.toNatClampNeg 0)) (fun τ1 => some (none, τ1)) (fun r1 τ1 =>
  (if r1 = 0 then
    (if inb x2 6 = true then
    (b_X7_moves_2 n (x1 + 1) (wr τ1 13 x2.toNatClampNeg ((σ 13 x2.toNatClampNeg) + 1)))
    else none)
  else
    (if inb x2 6 = true then
    (b_X7_moves_2 n (x1 + 1) (wr τ1 13 x2.toNatClampNeg ((σ 13 x2.toNatClampNeg) + 0)))
    else none))))
  else none)
  else none) := (if_cg (if_cg (onI_cg (fun _ => rfl) (fun r1 τ1 => (if_cg (if_cg rfl rfl) (if_cg rfl rfl)))) rfl) rfl)
set_option maxRecDepth 20000 in
theorem e_X7_moves_93 (n : Nat) (x1 : Int32) (σ : Mm) : b_X7_moves_93 (n + 1) x1 σ =
  (if x1 < (σ 4 78) then
    (onI (f_X7_isTaken [.inr (.inl 0), .inl (10 + x1)] σ) (fun τ1 => some (none, τ1)) (fun r1 τ1 =>
    (if r1 = 0 then
      (onI (f_X7_readyOne [.inr (.inl 0)] τ1) (fun τ2 => some (none, τ2)) (fun r2 τ2 =>
      (b_X7_moves_123 n x1 r2 τ2)))
    else
      (b_X7_moves_123 n x1 (-1) τ1))))
  else
    (b_X7_moves_147 n 0 σ)) := (if_cg (onI_cg (fun _ => rfl) (fun r1 τ1 => (if_cg (onI_cg (fun _ => rfl) (fun r2 τ2 => rfl)) rfl))) rfl)
set_option maxRecDepth 20000 in
theorem e_X7_moves_123 (n : Nat) (x1 s0 : Int32) (σ : Mm) : b_X7_moves_123 (n + 1) x1 s0 σ =
  (if s0 = (-1) then
    (b_X7_moves_93 n (x1 + 1) σ)
  else
    (if inb s0 6 = true then
    (b_X7_moves_93 n (x1 + 1) (wr σ 9 s0.toNatClampNeg (10 + x1)))
    else none)) := (if_cg rfl (if_cg rfl rfl))
set_option maxRecDepth 20000 in
theorem e_X7_moves_147 (n : Nat) (x1 : Int32) (σ : Mm) : b_X7_moves_147 (n + 1) x1 σ =
  (if x1 < (σ 2 19) then
    (if x1 = (σ 0 23) then
      (b_X7_moves_184 n x1 (-1) σ)
    else
      (onI (f_X7_isTaken [.inr (.inl 0), .inl (1 + x1)] σ) (fun τ1 => some (none, τ1)) (fun r1 τ1 =>
      (if r1 = 0 then
        (onI (f_X7_waitingOne [.inr (.inl 0)] τ1) (fun τ2 => some (none, τ2)) (fun r2 τ2 =>
        (b_X7_moves_184 n x1 r2 τ2)))
      else
        (b_X7_moves_184 n x1 (-1) τ1)))))
  else
    some (some none, σ)) := (if_cg (if_cg rfl (onI_cg (fun _ => rfl) (fun r1 τ1 => (if_cg (onI_cg (fun _ => rfl) (fun r2 τ2 => rfl)) rfl)))) rfl)
set_option maxRecDepth 20000 in
theorem e_X7_moves_184 (n : Nat) (x1 s0 : Int32) (σ : Mm) : b_X7_moves_184 (n + 1) x1 s0 σ =
  (if s0 = (-1) then
    (b_X7_moves_147 n (x1 + 1) σ)
  else
    (if inb s0 6 = true then
    (if inb s0 6 = true then
    (if inb s0 6 = true then
    (b_X7_moves_147 n (x1 + 1) (wr (wr σ 9 s0.toNatClampNeg (1 + x1)) 14 s0.toNatClampNeg ((σ 14 s0.toNatClampNeg) + 1)))
    else none)
    else none)
    else none)) := (if_cg rfl (if_cg (if_cg (if_cg rfl rfl) rfl) rfl))
set_option maxRecDepth 20000 in
theorem e0_X7_moves (n : Nat) (σ : Mm) : sem0 t_X7_moves cs_X7_moves 3 n [.inr (.inl 0)] σ =
  (b_X7_moves_2 n 0 σ) := rfl
theorem e_X7_moves (σ : Mm) : f_X7_moves [.inr (.inl 0)] σ = (b_X7_moves_2 bigM 0 σ) := (lock_ap _ _).trans (e0_X7_moves bigM σ)
noncomputable def b_X7_works_82 (n : Nat) (x1 : Int32) (σ : Mm) : Option Ou := rn t_X7_works cs_X7_works n 82 [(0, .inr (.inl 0)), (1, .inl x1)] [] σ
noncomputable def b_X7_works_175 (n : Nat) (x1 : Int32) (σ : Mm) : Option Ou := rn t_X7_works cs_X7_works n 175 [(0, .inr (.inl 0)), (1, .inl x1)] [] σ
set_option maxRecDepth 20000 in
theorem e_X7_works_82 (n : Nat) (x1 : Int32) (σ : Mm) : b_X7_works_82 (n + 1) x1 σ =
  (if inb x1 6 = true then
  (if 0 < (σ 9 x1.toNatClampNeg) then
    (if inb x1 6 = true then
    (if (σ 9 x1.toNatClampNeg) < 10 then
      (if inb x1 6 = true then
      (if inb ((69 + (σ 9 x1.toNatClampNeg)) - 1) 81 = true then
      (if inb x1 6 = true then
      (if (σ 8 x1.toNatClampNeg) < (σ 4 ((69 + (σ 9 x1.toNatClampNeg)) - 1).toNatClampNeg) then
        (if inb x1 6 = true then
        (if inb x1 6 = true then
        (if inb ((66 + (σ 9 x1.toNatClampNeg)) - 1) 81 = true then
        (if inb (6 + x1) 20 = true then
        (if (σ 2 (6 + x1).toNatClampNeg) = 0 then none else
        (if inb x1 6 = true then
        some (some none, (wr σ 8 x1.toNatClampNeg (if ((σ 8 x1.toNatClampNeg) + ((σ 4 ((66 + (σ 9 x1.toNatClampNeg)) - 1).toNatClampNeg) / (σ 2 (6 + x1).toNatClampNeg))) < (σ 4 ((69 + (σ 9 x1.toNatClampNeg)) - 1).toNatClampNeg) then ((σ 8 x1.toNatClampNeg) + ((σ 4 ((66 + (σ 9 x1.toNatClampNeg)) - 1).toNatClampNeg) / (σ 2 (6 + x1).toNatClampNeg))) else (σ 4 ((69 + (σ 9 x1.toNatClampNeg)) - 1).toNatClampNeg))))
        else none))
        else none)
        else none)
        else none)
        else none)
      else
        some (some none, σ))
      else none)
      else none)
      else none)
    else
      (b_X7_works_175 n x1 σ))
    else none)
  else
    (b_X7_works_175 n x1 σ))
  else none) := (if_cg (if_cg (if_cg (if_cg (if_cg (if_cg (if_cg (if_cg (if_cg (if_cg (if_cg (if_cg (if_cg rfl (if_cg rfl rfl)) rfl) rfl) rfl) rfl) rfl) rfl) rfl) rfl) rfl) rfl) rfl) rfl)
set_option maxRecDepth 20000 in
theorem e_X7_works_175 (n : Nat) (x1 : Int32) (σ : Mm) : b_X7_works_175 (n + 1) x1 σ =
  (if inb x1 6 = true then
  (if inb (12 + x1) 20 = true then
  (if inb x1 6 = true then
  some (some none, (wr σ 8 x1.toNatClampNeg (if 20 < ((σ 8 x1.toNatClampNeg) - (σ 2 (12 + x1).toNatClampNeg)) then ((σ 8 x1.toNatClampNeg) - (σ 2 (12 + x1).toNatClampNeg)) else 20)))
  else none)
  else none)
  else none) := (if_cg (if_cg (if_cg rfl rfl) rfl) rfl)
set_option maxRecDepth 20000 in
theorem e0_X7_works (n : Nat) (x1 x2 : Int32) (σ : Mm) : sem0 t_X7_works cs_X7_works 4 n [.inr (.inl 0), .inl x1, .inl x2] σ =
  (if inb x1 6 = true then
  (if (σ 9 x1.toNatClampNeg) < 10 then
    (b_X7_works_82 n x1 σ)
  else
    (if inb x1 6 = true then
    (if inb x1 6 = true then
    (if inb x1 6 = true then
    (if inb x1 6 = true then
    (if inb ((36 + (5 * x1)) + (σ 10 x1.toNatClampNeg)) 81 = true then
    (if ((wr σ 11 x1.toNatClampNeg ((σ 11 x1.toNatClampNeg) + 1)) 11 x1.toNatClampNeg) = (σ 4 ((36 + (5 * x1)) + (σ 10 x1.toNatClampNeg)).toNatClampNeg) then
      (if inb x1 6 = true then
      (if inb x1 6 = true then
      (if inb x1 6 = true then
      (onI (f_X7_isDone [.inr (.inl 0), .inl x1] (wr (wr (wr σ 11 x1.toNatClampNeg ((σ 11 x1.toNatClampNeg) + 1)) 10 x1.toNatClampNeg ((σ 10 x1.toNatClampNeg) + 1)) 11 x1.toNatClampNeg 0)) (fun τ1 => some (none, τ1)) (fun r1 τ1 =>
      (if r1 = 0 then
        (b_X7_works_82 n x1 τ1)
      else
        (if inb x1 6 = true then
        (b_X7_works_82 n x1 (wr τ1 12 x1.toNatClampNeg (x2 + 1)))
        else none))))
      else none)
      else none)
      else none)
    else
      (b_X7_works_82 n x1 (wr σ 11 x1.toNatClampNeg ((σ 11 x1.toNatClampNeg) + 1))))
    else none)
    else none)
    else none)
    else none)
    else none))
  else none) := (if_cg (if_cg rfl (if_cg (if_cg (if_cg (if_cg (if_cg (if_cg (if_cg (if_cg (if_cg (onI_cg (fun _ => rfl) (fun r1 τ1 => (if_cg rfl (if_cg rfl rfl)))) rfl) rfl) rfl) rfl) rfl) rfl) rfl) rfl) rfl)) rfl)
theorem e_X7_works (x1 x2 : Int32) (σ : Mm) : f_X7_works [.inr (.inl 0), .inl x1, .inl x2] σ = (if inb x1 6 = true then (if (σ 9 x1.toNatClampNeg) < 10 then (b_X7_works_82 bigM x1 σ) else (if inb x1 6 = true then (if inb x1 6 = true then (if inb x1 6 = true then (if inb x1 6 = true then (if inb ((36 + (5 * x1)) + (σ 10 x1.toNatClampNeg)) 81 = true then (if ((wr σ 11 x1.toNatClampNeg ((σ 11 x1.toNatClampNeg) + 1)) 11 x1.toNatClampNeg) = (σ 4 ((36 + (5 * x1)) + (σ 10 x1.toNatClampNeg)).toNatClampNeg) then (if inb x1 6 = true then (if inb x1 6 = true then (if inb x1 6 = true then (onI (f_X7_isDone [.inr (.inl 0), .inl x1] (wr (wr (wr σ 11 x1.toNatClampNeg ((σ 11 x1.toNatClampNeg) + 1)) 10 x1.toNatClampNeg ((σ 10 x1.toNatClampNeg) + 1)) 11 x1.toNatClampNeg 0)) (fun τ1 => some (none, τ1)) (fun r1 τ1 => (if r1 = 0 then (b_X7_works_82 bigM x1 τ1) else (if inb x1 6 = true then (b_X7_works_82 bigM x1 (wr τ1 12 x1.toNatClampNeg (x2 + 1))) else none)))) else none) else none) else none) else (b_X7_works_82 bigM x1 (wr σ 11 x1.toNatClampNeg ((σ 11 x1.toNatClampNeg) + 1)))) else none) else none) else none) else none) else none)) else none) := (lock_ap _ _).trans (e0_X7_works bigM x1 x2 σ)
noncomputable def b_X7_lastOf_4 (n : Nat) (x1 x2 : Int32) (σ : Mm) : Option Ou := rn t_X7_lastOf cs_X7_lastOf n 4 [(0, .inr (.inl 0)), (1, .inl x1), (2, .inl x2)] [] σ
set_option maxRecDepth 20000 in
theorem e_X7_lastOf_4 (n : Nat) (x1 x2 : Int32) (σ : Mm) : b_X7_lastOf_4 (n + 1) x1 x2 σ =
  (if x2 < (σ 0 21) then
    (if inb x2 6 = true then
    (if inb (σ 7 x2.toNatClampNeg) 6 = true then
    (if (σ 12 (σ 7 x2.toNatClampNeg).toNatClampNeg) = (-1) then
      some (some (some (.inl (-1))), σ)
    else
      (if inb x2 6 = true then
      (if inb (σ 7 x2.toNatClampNeg) 6 = true then
      (b_X7_lastOf_4 n (if x1 < (σ 12 (σ 7 x2.toNatClampNeg).toNatClampNeg) then (σ 12 (σ 7 x2.toNatClampNeg).toNatClampNeg) else x1) (x2 + 1) σ)
      else none)
      else none))
    else none)
    else none)
  else
    some (some (some (.inl x1)), σ)) := (if_cg (if_cg (if_cg (if_cg rfl (if_cg (if_cg rfl rfl) rfl)) rfl) rfl) rfl)
set_option maxRecDepth 20000 in
theorem e0_X7_lastOf (n : Nat) (σ : Mm) : sem0 t_X7_lastOf cs_X7_lastOf 3 n [.inr (.inl 0)] σ =
  (b_X7_lastOf_4 n 0 0 σ) := rfl
theorem e_X7_lastOf (σ : Mm) : f_X7_lastOf [.inr (.inl 0)] σ = (b_X7_lastOf_4 bigM 0 0 σ) := (lock_ap _ _).trans (e0_X7_lastOf bigM σ)
noncomputable def b_X7_ends_6 (n : Nat) (x1 : Int32) (σ : Mm) : Option Ou := rn t_X7_ends cs_X7_ends n 6 [(0, .inr (.inl 0)), (1, .inl x1)] [] σ
noncomputable def b_X7_ends_27 (n : Nat) (x1 x2 : Int32) (σ : Mm) : Option Ou := rn t_X7_ends cs_X7_ends n 27 [(0, .inr (.inl 0)), (1, .inl x1), (2, .inl x2)] [] σ
noncomputable def b_X7_ends_58 (n : Nat) (σ : Mm) : Option Ou := rn t_X7_ends cs_X7_ends n 58 [(0, .inr (.inl 0))] [] σ
set_option maxRecDepth 20000 in
theorem e_X7_ends_6 (n : Nat) (x1 : Int32) (σ : Mm) : b_X7_ends_6 (n + 1) x1 σ =
  (if x1 < 480 then
    (onI (f_X7_lastOf [.inr (.inl 0)] σ) (fun τ1 => some (none, τ1)) (fun r1 τ1 =>
    (if r1 = (-1) then
      (onV (f_X7_moves [.inr (.inl 0)] τ1) (fun τ2 => some (none, τ2)) (fun τ2 =>
      (b_X7_ends_27 n x1 0 τ2)))
    else
      (b_X7_ends_58 n  τ1))))
  else
    (b_X7_ends_58 n  σ)) := (if_cg (onI_cg (fun _ => rfl) (fun r1 τ1 => (if_cg (onV_cg (fun _ => rfl) (fun τ2 => rfl)) rfl))) rfl)
set_option maxRecDepth 20000 in
theorem e_X7_ends_27 (n : Nat) (x1 x2 : Int32) (σ : Mm) : b_X7_ends_27 (n + 1) x1 x2 σ =
  (if x2 < (σ 0 21) then
    (if inb x2 6 = true then
    (onV (f_X7_works [.inr (.inl 0), .inl (σ 7 x2.toNatClampNeg), .inl x1] σ) (fun τ1 => some (none, τ1)) (fun τ1 =>
    (b_X7_ends_27 n x1 (x2 + 1) τ1)))
    else none)
  else
    (b_X7_ends_6 n (x1 + 1) σ)) := (if_cg (if_cg (onV_cg (fun _ => rfl) (fun τ1 => rfl)) rfl) rfl)
set_option maxRecDepth 20000 in
theorem e_X7_ends_58 (n : Nat) (σ : Mm) : b_X7_ends_58 (n + 1)  σ =
  (onI (f_X7_lastOf [.inr (.inl 0)] σ) (fun τ1 => some (none, τ1)) (fun r1 τ1 =>
  some (some (some (.inl r1)), τ1))) := (onI_cg (fun _ => rfl) (fun r1 τ1 => rfl))
set_option maxRecDepth 20000 in
theorem e0_X7_ends (n : Nat) (σ : Mm) : sem0 t_X7_ends cs_X7_ends 3 n [.inr (.inl 0)] σ =
  (onV (f_X7_begins [.inr (.inl 0)] σ) (fun τ1 => some (none, τ1)) (fun τ1 =>
  (b_X7_ends_6 n 0 τ1))) := (onV_cg (fun _ => rfl) (fun τ1 => rfl))
theorem e_X7_ends (σ : Mm) : f_X7_ends [.inr (.inl 0)] σ = (onV (f_X7_begins [.inr (.inl 0)] σ) (fun τ1 => some (none, τ1)) (fun τ1 => (b_X7_ends_6 bigM 0 τ1))) := (lock_ap _ _).trans (e0_X7_ends bigM σ)
noncomputable def b_X7_orders_13 (n : Nat) (x1 : Int32) (σ : Mm) : Option Ou := rn t_X7_orders cs_X7_orders n 13 [(0, .inr (.inl 0)), (1, .inl x1)] [] σ
set_option maxRecDepth 20000 in
theorem e_X7_orders_13 (n : Nat) (x1 : Int32) (σ : Mm) : b_X7_orders_13 (n + 1) x1 σ =
  (if x1 < (σ 0 21) then
    (if inb (72 + x1) 81 = true then
    (if inb x1 6 = true then
    (b_X7_orders_13 n (x1 + 1) (wr σ 7 x1.toNatClampNeg (σ 4 (72 + x1).toNatClampNeg)))
    else none)
    else none)
  else
    some (some none, (wr (wr σ 0 22 (σ 4 79)) 0 23 (-1)))) := (if_cg (if_cg (if_cg rfl rfl) rfl) rfl)
set_option maxRecDepth 20000 in
theorem e0_X7_orders (n : Nat) (σ : Mm) : sem0 t_X7_orders cs_X7_orders 2 n [.inr (.inl 0)] σ =
  (b_X7_orders_13 n 0 (wr σ 0 21 (σ 2 18))) := rfl
theorem e_X7_orders (σ : Mm) : f_X7_orders [.inr (.inl 0)] σ = (b_X7_orders_13 bigM 0 (wr σ 0 21 (σ 2 18))) := (lock_ap _ _).trans (e0_X7_orders bigM σ)
noncomputable def b_X7_runs_23 (n : Nat) (x1 : Int32) (σ : Mm) : Option Ou := rn t_X7_runs cs_X7_runs n 23 [(0, .inr (.inl 0)), (1, .inl x1)] [] σ
noncomputable def b_X7_runs_154 (n : Nat) (x1 : Int32) (σ : Mm) : Option Ou := rn t_X7_runs cs_X7_runs n 154 [(0, .inr (.inl 0)), (1, .inl x1)] [] σ
noncomputable def b_X7_runs_32 (n : Nat) (x1 x2 : Int32) (σ : Mm) : Option Ou := rn t_X7_runs cs_X7_runs n 32 [(0, .inr (.inl 0)), (1, .inl x1), (2, .inl x2)] [] σ
noncomputable def b_X7_runs_94 (n : Nat) (x1 x2 : Int32) (σ : Mm) : Option Ou := rn t_X7_runs cs_X7_runs n 94 [(0, .inr (.inl 0)), (1, .inl x1), (2, .inl x2)] [] σ
set_option maxRecDepth 20000 in
theorem e_X7_runs_23 (n : Nat) (x1 : Int32) (σ : Mm) : b_X7_runs_23 (n + 1) x1 σ =
  (if 480 < x1 then
    (b_X7_runs_154 n 0 σ)
  else
    (b_X7_runs_32 n x1 0 σ)) := (if_cg rfl rfl)
set_option maxRecDepth 20000 in
theorem e_X7_runs_154 (n : Nat) (x1 : Int32) (σ : Mm) : b_X7_runs_154 (n + 1) x1 σ =
  (if x1 < 6 then
    (if inb x1 6 = true then
    (if inb x1 6 = true then
    (if inb x1 6 = true then
    (if inb x1 6 = true then
    (if inb x1 6 = true then
    (if inb x1 6 = true then
    (b_X7_runs_154 n (x1 + 1) (wr (wr (wr σ 18 x1.toNatClampNeg (σ 12 x1.toNatClampNeg)) 19 x1.toNatClampNeg (σ 13 x1.toNatClampNeg)) 20 x1.toNatClampNeg (σ 14 x1.toNatClampNeg)))
    else none)
    else none)
    else none)
    else none)
    else none)
    else none)
  else
    some (some none, σ)) := (if_cg (if_cg (if_cg (if_cg (if_cg (if_cg (if_cg rfl rfl) rfl) rfl) rfl) rfl) rfl) rfl)
set_option maxRecDepth 20000 in
theorem e_X7_runs_32 (n : Nat) (x1 x2 : Int32) (σ : Mm) : b_X7_runs_32 (n + 1) x1 x2 σ =
  (if x2 < 6 then
    (if inb x2 6 = true then
    (if inb ((6 * x1) + x2) 2886 = true then
    (if inb x2 6 = true then
    (if inb ((6 * x1) + x2) 2886 = true then
    (b_X7_runs_32 n x1 (x2 + 1) (wr (wr σ 15 ((6 * x1) + x2).toNatClampNeg (σ 8 x2.toNatClampNeg)) 17 ((6 * x1) + x2).toNatClampNeg (σ 10 x2.toNatClampNeg)))
    else none)
    else none)
    else none)
    else none)
  else
    (if x1 = 480 then
      (b_X7_runs_23 n (x1 + 1) σ)
    else
      (onV (f_X7_moves [.inr (.inl 0)] σ) (fun τ1 => some (none, τ1)) (fun τ1 =>
      (b_X7_runs_94 n x1 0 τ1))))) := (if_cg (if_cg (if_cg (if_cg (if_cg rfl rfl) rfl) rfl) rfl) (if_cg rfl (onV_cg (fun _ => rfl) (fun τ1 => rfl))))
set_option maxRecDepth 20000 in
theorem e_X7_runs_94 (n : Nat) (x1 x2 : Int32) (σ : Mm) : b_X7_runs_94 (n + 1) x1 x2 σ =
  (if x2 < (σ 0 21) then
    (if inb x2 6 = true then
    (if inb x2 6 = true then
    (if inb (σ 7 x2.toNatClampNeg) 6 = true then
    (if inb ((6 * x1) + (σ 7 x2.toNatClampNeg)) 2880 = true then
    (if inb x2 6 = true then
    (onV (f_X7_works [.inr (.inl 0), .inl (σ 7 x2.toNatClampNeg), .inl x1] (wr σ 16 ((6 * x1) + (σ 7 x2.toNatClampNeg)).toNatClampNeg (σ 9 (σ 7 x2.toNatClampNeg).toNatClampNeg))) (fun τ1 => some (none, τ1)) (fun τ1 =>
    (b_X7_runs_94 n x1 (x2 + 1) τ1)))
    else none)
    else none)
    else none)
    else none)
    else none)
  else
    (b_X7_runs_23 n (x1 + 1) σ)) := (if_cg (if_cg (if_cg (if_cg (if_cg (if_cg (onV_cg (fun _ => rfl) (fun τ1 => rfl)) rfl) rfl) rfl) rfl) rfl) rfl)
set_option maxRecDepth 20000 in
theorem e0_X7_runs (n : Nat) (σ : Mm) : sem0 t_X7_runs cs_X7_runs 3 n [.inr (.inl 0)] σ =
  (if (σ 0 37) = 0 then
    (onV (f_X7_orders [.inr (.inl 0)] (wr σ 0 37 1)) (fun τ1 => some (none, τ1)) (fun τ1 =>
    (onV (f_X7_begins [.inr (.inl 0)] τ1) (fun τ2 => some (none, τ2)) (fun τ2 =>
    (b_X7_runs_23 n 0 τ2)))))
  else
    some (some none, σ)) := (if_cg (onV_cg (fun _ => rfl) (fun τ1 => (onV_cg (fun _ => rfl) (fun τ2 => rfl)))) rfl)
theorem e_X7_runs (σ : Mm) : f_X7_runs [.inr (.inl 0)] σ = (if (σ 0 37) = 0 then (onV (f_X7_orders [.inr (.inl 0)] (wr σ 0 37 1)) (fun τ1 => some (none, τ1)) (fun τ1 => (onV (f_X7_begins [.inr (.inl 0)] τ1) (fun τ2 => some (none, τ2)) (fun τ2 => (b_X7_runs_23 bigM 0 τ2))))) else some (some none, σ)) := (lock_ap _ _).trans (e0_X7_runs bigM σ)
set_option maxRecDepth 20000 in
theorem e0_X7_finish (n : Nat) (σ : Mm) : sem0 t_X7_finish cs_X7_finish 1 n [.inr (.inl 0)] σ =
  (onV (f_X7_orders [.inr (.inl 0)] (wr σ 0 0 0)) (fun τ1 => some (none, τ1)) (fun τ1 =>
  (onI (f_X7_ends [.inr (.inl 0)] τ1) (fun τ2 => some (none, τ2)) (fun r2 τ2 =>
  some (some (some (.inl r2)), τ2))))) := (onV_cg (fun _ => rfl) (fun τ1 => (onI_cg (fun _ => rfl) (fun r2 τ2 => rfl))))
theorem e_X7_finish (σ : Mm) : f_X7_finish [.inr (.inl 0)] σ = (onV (f_X7_orders [.inr (.inl 0)] (wr σ 0 0 0)) (fun τ1 => some (none, τ1)) (fun τ1 => (onI (f_X7_ends [.inr (.inl 0)] τ1) (fun τ2 => some (none, τ2)) (fun r2 τ2 => some (some (some (.inl r2)), τ2))))) := (lock_ap _ _).trans (e0_X7_finish bigM σ)
set_option maxRecDepth 20000 in
theorem e0_X7_finishOf (n : Nat) (x1 : Int32) (σ : Mm) : sem0 t_X7_finishOf cs_X7_finishOf 2 n [.inr (.inl 0), .inl x1] σ =
  (onI (f_X7_isIron [.inr (.inl 0), .inl x1] σ) (fun τ1 => some (none, τ1)) (fun r1 τ1 =>
  (onI (f_X7_checks [.inr (.inl 0), .inl r1] τ1) (fun τ2 => some (none, τ2)) (fun r2 τ2 =>
  (if r2 = 0 then
    some (some (some (.inl 0)), τ2)
  else
    (onV (f_X7_runs [.inr (.inl 0)] τ2) (fun τ3 => some (none, τ3)) (fun τ3 =>
    (if inb x1 6 = true then
    some (some (some (.inl (τ3 18 x1.toNatClampNeg))), τ3)
    else none)))))))) := (onI_cg (fun _ => rfl) (fun r1 τ1 => (onI_cg (fun _ => rfl) (fun r2 τ2 => (if_cg rfl (onV_cg (fun _ => rfl) (fun τ3 => (if_cg rfl rfl))))))))
theorem e_X7_finishOf (x1 : Int32) (σ : Mm) : f_X7_finishOf [.inr (.inl 0), .inl x1] σ = (onI (f_X7_isIron [.inr (.inl 0), .inl x1] σ) (fun τ1 => some (none, τ1)) (fun r1 τ1 => (onI (f_X7_checks [.inr (.inl 0), .inl r1] τ1) (fun τ2 => some (none, τ2)) (fun r2 τ2 => (if r2 = 0 then some (some (some (.inl 0)), τ2) else (onV (f_X7_runs [.inr (.inl 0)] τ2) (fun τ3 => some (none, τ3)) (fun τ3 => (if inb x1 6 = true then some (some (some (.inl (τ3 18 x1.toNatClampNeg))), τ3) else none)))))))) := (lock_ap _ _).trans (e0_X7_finishOf bigM x1 σ)
set_option maxRecDepth 20000 in
theorem e0_X7_heatAfter (n : Nat) (x1 x2 : Int32) (σ : Mm) : sem0 t_X7_heatAfter cs_X7_heatAfter 3 n [.inr (.inl 0), .inl x1, .inl x2] σ =
  (onI (f_X7_isIron [.inr (.inl 0), .inl x1] σ) (fun τ1 => some (none, τ1)) (fun r1 τ1 =>
  (onI (f_X7_checks [.inr (.inl 0), .inl r1] τ1) (fun τ2 => some (none, τ2)) (fun r2 τ2 =>
  (if r2 = 0 then
    some (some (some (.inl 0)), τ2)
  else
    (if x2 < 0 then
      some (some (some (.inl (-2))), τ2)
    else
      (if 480 < x2 then
        some (some (some (.inl (-2))), τ2)
      else
        (onV (f_X7_runs [.inr (.inl 0)] τ2) (fun τ3 => some (none, τ3)) (fun τ3 =>
        (if inb ((6 * x2) + x1) 2886 = true then
        some (some (some (.inl (τ3 15 ((6 * x2) + x1).toNatClampNeg))), τ3)
        else none)))))))))) := (onI_cg (fun _ => rfl) (fun r1 τ1 => (onI_cg (fun _ => rfl) (fun r2 τ2 => (if_cg rfl (if_cg rfl (if_cg rfl (onV_cg (fun _ => rfl) (fun τ3 => (if_cg rfl rfl))))))))))
theorem e_X7_heatAfter (x1 x2 : Int32) (σ : Mm) : f_X7_heatAfter [.inr (.inl 0), .inl x1, .inl x2] σ = (onI (f_X7_isIron [.inr (.inl 0), .inl x1] σ) (fun τ1 => some (none, τ1)) (fun r1 τ1 => (onI (f_X7_checks [.inr (.inl 0), .inl r1] τ1) (fun τ2 => some (none, τ2)) (fun r2 τ2 => (if r2 = 0 then some (some (some (.inl 0)), τ2) else (if x2 < 0 then some (some (some (.inl (-2))), τ2) else (if 480 < x2 then some (some (some (.inl (-2))), τ2) else (onV (f_X7_runs [.inr (.inl 0)] τ2) (fun τ3 => some (none, τ3)) (fun τ3 => (if inb ((6 * x2) + x1) 2886 = true then some (some (some (.inl (τ3 15 ((6 * x2) + x1).toNatClampNeg))), τ3) else none)))))))))) := (lock_ap _ _).trans (e0_X7_heatAfter bigM x1 x2 σ)
set_option maxRecDepth 20000 in
theorem e0_X7_whereIn (n : Nat) (x1 x2 : Int32) (σ : Mm) : sem0 t_X7_whereIn cs_X7_whereIn 3 n [.inr (.inl 0), .inl x1, .inl x2] σ =
  (onI (f_X7_isIron [.inr (.inl 0), .inl x1] σ) (fun τ1 => some (none, τ1)) (fun r1 τ1 =>
  (onI (f_X7_checks [.inr (.inl 0), .inl r1] τ1) (fun τ2 => some (none, τ2)) (fun r2 τ2 =>
  (if r2 = 0 then
    some (some (some (.inl 0)), τ2)
  else
    (if x2 < 0 then
      some (some (some (.inl (-2))), τ2)
    else
      (if x2 < 480 then
        (onV (f_X7_runs [.inr (.inl 0)] τ2) (fun τ3 => some (none, τ3)) (fun τ3 =>
        (if inb ((6 * x2) + x1) 2880 = true then
        some (some (some (.inl (τ3 16 ((6 * x2) + x1).toNatClampNeg))), τ3)
        else none)))
      else
        some (some (some (.inl (-2))), τ2)))))))) := (onI_cg (fun _ => rfl) (fun r1 τ1 => (onI_cg (fun _ => rfl) (fun r2 τ2 => (if_cg rfl (if_cg rfl (if_cg (onV_cg (fun _ => rfl) (fun τ3 => (if_cg rfl rfl))) rfl)))))))
theorem e_X7_whereIn (x1 x2 : Int32) (σ : Mm) : f_X7_whereIn [.inr (.inl 0), .inl x1, .inl x2] σ = (onI (f_X7_isIron [.inr (.inl 0), .inl x1] σ) (fun τ1 => some (none, τ1)) (fun r1 τ1 => (onI (f_X7_checks [.inr (.inl 0), .inl r1] τ1) (fun τ2 => some (none, τ2)) (fun r2 τ2 => (if r2 = 0 then some (some (some (.inl 0)), τ2) else (if x2 < 0 then some (some (some (.inl (-2))), τ2) else (if x2 < 480 then (onV (f_X7_runs [.inr (.inl 0)] τ2) (fun τ3 => some (none, τ3)) (fun τ3 => (if inb ((6 * x2) + x1) 2880 = true then some (some (some (.inl (τ3 16 ((6 * x2) + x1).toNatClampNeg))), τ3) else none))) else some (some (some (.inl (-2))), τ2)))))))) := (lock_ap _ _).trans (e0_X7_whereIn bigM x1 x2 σ)
set_option maxRecDepth 20000 in
theorem e0_X7_stepsAfter (n : Nat) (x1 x2 : Int32) (σ : Mm) : sem0 t_X7_stepsAfter cs_X7_stepsAfter 3 n [.inr (.inl 0), .inl x1, .inl x2] σ =
  (onI (f_X7_isIron [.inr (.inl 0), .inl x1] σ) (fun τ1 => some (none, τ1)) (fun r1 τ1 =>
  (onI (f_X7_checks [.inr (.inl 0), .inl r1] τ1) (fun τ2 => some (none, τ2)) (fun r2 τ2 =>
  (if r2 = 0 then
    some (some (some (.inl 0)), τ2)
  else
    (if x2 < 0 then
      some (some (some (.inl (-2))), τ2)
    else
      (if 480 < x2 then
        some (some (some (.inl (-2))), τ2)
      else
        (onV (f_X7_runs [.inr (.inl 0)] τ2) (fun τ3 => some (none, τ3)) (fun τ3 =>
        (if inb ((6 * x2) + x1) 2886 = true then
        some (some (some (.inl (τ3 17 ((6 * x2) + x1).toNatClampNeg))), τ3)
        else none)))))))))) := (onI_cg (fun _ => rfl) (fun r1 τ1 => (onI_cg (fun _ => rfl) (fun r2 τ2 => (if_cg rfl (if_cg rfl (if_cg rfl (onV_cg (fun _ => rfl) (fun τ3 => (if_cg rfl rfl))))))))))
theorem e_X7_stepsAfter (x1 x2 : Int32) (σ : Mm) : f_X7_stepsAfter [.inr (.inl 0), .inl x1, .inl x2] σ = (onI (f_X7_isIron [.inr (.inl 0), .inl x1] σ) (fun τ1 => some (none, τ1)) (fun r1 τ1 => (onI (f_X7_checks [.inr (.inl 0), .inl r1] τ1) (fun τ2 => some (none, τ2)) (fun r2 τ2 => (if r2 = 0 then some (some (some (.inl 0)), τ2) else (if x2 < 0 then some (some (some (.inl (-2))), τ2) else (if 480 < x2 then some (some (some (.inl (-2))), τ2) else (onV (f_X7_runs [.inr (.inl 0)] τ2) (fun τ3 => some (none, τ3)) (fun τ3 => (if inb ((6 * x2) + x1) 2886 = true then some (some (some (.inl (τ3 17 ((6 * x2) + x1).toNatClampNeg))), τ3) else none)))))))))) := (lock_ap _ _).trans (e0_X7_stepsAfter bigM x1 x2 σ)
set_option maxRecDepth 20000 in
theorem e0_X7_coldStops (n : Nat) (x1 : Int32) (σ : Mm) : sem0 t_X7_coldStops cs_X7_coldStops 2 n [.inr (.inl 0), .inl x1] σ =
  (onI (f_X7_isIron [.inr (.inl 0), .inl x1] σ) (fun τ1 => some (none, τ1)) (fun r1 τ1 =>
  (onI (f_X7_checks [.inr (.inl 0), .inl r1] τ1) (fun τ2 => some (none, τ2)) (fun r2 τ2 =>
  (if r2 = 0 then
    some (some (some (.inl 0)), τ2)
  else
    (onV (f_X7_runs [.inr (.inl 0)] τ2) (fun τ3 => some (none, τ3)) (fun τ3 =>
    (if inb x1 6 = true then
    some (some (some (.inl (τ3 19 x1.toNatClampNeg))), τ3)
    else none)))))))) := (onI_cg (fun _ => rfl) (fun r1 τ1 => (onI_cg (fun _ => rfl) (fun r2 τ2 => (if_cg rfl (onV_cg (fun _ => rfl) (fun τ3 => (if_cg rfl rfl))))))))
theorem e_X7_coldStops (x1 : Int32) (σ : Mm) : f_X7_coldStops [.inr (.inl 0), .inl x1] σ = (onI (f_X7_isIron [.inr (.inl 0), .inl x1] σ) (fun τ1 => some (none, τ1)) (fun r1 τ1 => (onI (f_X7_checks [.inr (.inl 0), .inl r1] τ1) (fun τ2 => some (none, τ2)) (fun r2 τ2 => (if r2 = 0 then some (some (some (.inl 0)), τ2) else (onV (f_X7_runs [.inr (.inl 0)] τ2) (fun τ3 => some (none, τ3)) (fun τ3 => (if inb x1 6 = true then some (some (some (.inl (τ3 19 x1.toNatClampNeg))), τ3) else none)))))))) := (lock_ap _ _).trans (e0_X7_coldStops bigM x1 σ)
set_option maxRecDepth 20000 in
theorem e0_X7_heats (n : Nat) (x1 : Int32) (σ : Mm) : sem0 t_X7_heats cs_X7_heats 2 n [.inr (.inl 0), .inl x1] σ =
  (onI (f_X7_isIron [.inr (.inl 0), .inl x1] σ) (fun τ1 => some (none, τ1)) (fun r1 τ1 =>
  (onI (f_X7_checks [.inr (.inl 0), .inl r1] τ1) (fun τ2 => some (none, τ2)) (fun r2 τ2 =>
  (if r2 = 0 then
    some (some (some (.inl 0)), τ2)
  else
    (onV (f_X7_runs [.inr (.inl 0)] τ2) (fun τ3 => some (none, τ3)) (fun τ3 =>
    (if inb x1 6 = true then
    some (some (some (.inl (τ3 20 x1.toNatClampNeg))), τ3)
    else none)))))))) := (onI_cg (fun _ => rfl) (fun r1 τ1 => (onI_cg (fun _ => rfl) (fun r2 τ2 => (if_cg rfl (onV_cg (fun _ => rfl) (fun τ3 => (if_cg rfl rfl))))))))
theorem e_X7_heats (x1 : Int32) (σ : Mm) : f_X7_heats [.inr (.inl 0), .inl x1] σ = (onI (f_X7_isIron [.inr (.inl 0), .inl x1] σ) (fun τ1 => some (none, τ1)) (fun r1 τ1 => (onI (f_X7_checks [.inr (.inl 0), .inl r1] τ1) (fun τ2 => some (none, τ2)) (fun r2 τ2 => (if r2 = 0 then some (some (some (.inl 0)), τ2) else (onV (f_X7_runs [.inr (.inl 0)] τ2) (fun τ3 => some (none, τ3)) (fun τ3 => (if inb x1 6 = true then some (some (some (.inl (τ3 20 x1.toNatClampNeg))), τ3) else none)))))))) := (lock_ap _ _).trans (e0_X7_heats bigM x1 σ)
noncomputable def b_X7_minutesAt_10 (n : Nat) (x1 x2 x3 x4 x5 : Int32) (σ : Mm) : Option Ou := rn t_X7_minutesAt cs_X7_minutesAt n 10 [(0, .inr (.inl 0)), (1, .inl x1), (2, .inl x2), (3, .inl x3), (4, .inl x4), (5, .inl x5)] [] σ
noncomputable def b_X7_minutesAt_25 (n : Nat) (x1 x2 x3 x4 x5 x6 : Int32) (σ : Mm) : Option Ou := rn t_X7_minutesAt cs_X7_minutesAt n 25 [(0, .inr (.inl 0)), (1, .inl x1), (2, .inl x2), (3, .inl x3), (4, .inl x4), (5, .inl x5), (6, .inl x6)] [] σ
noncomputable def b_X7_minutesAt_44 (n : Nat) (x1 x2 x3 x4 x5 x6 : Int32) (σ : Mm) : Option Ou := rn t_X7_minutesAt cs_X7_minutesAt n 44 [(0, .inr (.inl 0)), (1, .inl x1), (2, .inl x2), (3, .inl x3), (4, .inl x4), (5, .inl x5), (6, .inl x6)] [] σ
set_option maxRecDepth 20000 in
theorem e_X7_minutesAt_10 (n : Nat) (x1 x2 x3 x4 x5 : Int32) (σ : Mm) : b_X7_minutesAt_10 (n + 1) x1 x2 x3 x4 x5 σ =
  (if x5 < (σ 2 18) then
    (b_X7_minutesAt_25 n x1 x2 x3 x4 x5 0 σ)
  else
    some (some (some (.inl x4)), σ)) := (if_cg rfl rfl)
set_option maxRecDepth 20000 in
theorem e_X7_minutesAt_25 (n : Nat) (x1 x2 x3 x4 x5 x6 : Int32) (σ : Mm) : b_X7_minutesAt_25 (n + 1) x1 x2 x3 x4 x5 x6 σ =
  (if x6 < 480 then
    (if x1 = (-1) then
      (b_X7_minutesAt_44 n x1 x2 x3 x4 x5 x6 σ)
    else
      (if x1 = x5 then
        (b_X7_minutesAt_44 n x1 x2 x3 x4 x5 x6 σ)
      else
        (b_X7_minutesAt_10 n x1 x2 x3 x4 (x5 + 1) σ)))
  else
    (b_X7_minutesAt_10 n x1 x2 x3 x4 (x5 + 1) σ)) := (if_cg (if_cg rfl (if_cg rfl rfl)) rfl)
set_option maxRecDepth 20000 in
theorem e_X7_minutesAt_44 (n : Nat) (x1 x2 x3 x4 x5 x6 : Int32) (σ : Mm) : b_X7_minutesAt_44 (n + 1) x1 x2 x3 x4 x5 x6 σ =
  (if inb ((6 * x6) + x5) 2880 = true then
  (if (σ 16 ((6 * x6) + x5).toNatClampNeg) < x2 then
    (b_X7_minutesAt_25 n x1 x2 x3 (x4 + 0) x5 (x6 + 1) σ)
  else
    (if x3 < (σ 16 ((6 * x6) + x5).toNatClampNeg) then
      (b_X7_minutesAt_25 n x1 x2 x3 (x4 + 0) x5 (x6 + 1) σ)
    else
      (b_X7_minutesAt_25 n x1 x2 x3 (x4 + 1) x5 (x6 + 1) σ)))
  else none) := (if_cg (if_cg rfl (if_cg rfl rfl)) rfl)
set_option maxRecDepth 20000 in
theorem e0_X7_minutesAt (n : Nat) (x1 x2 x3 : Int32) (σ : Mm) : sem0 t_X7_minutesAt cs_X7_minutesAt 8 n [.inr (.inl 0), .inl x1, .inl x2, .inl x3] σ =
  (onV (f_X7_runs [.inr (.inl 0)] σ) (fun τ1 => some (none, τ1)) (fun τ1 =>
  (b_X7_minutesAt_10 n x1 x2 x3 0 0 τ1))) := (onV_cg (fun _ => rfl) (fun τ1 => rfl))
theorem e_X7_minutesAt (x1 x2 x3 : Int32) (σ : Mm) : f_X7_minutesAt [.inr (.inl 0), .inl x1, .inl x2, .inl x3] σ = (onV (f_X7_runs [.inr (.inl 0)] σ) (fun τ1 => some (none, τ1)) (fun τ1 => (b_X7_minutesAt_10 bigM x1 x2 x3 0 0 τ1))) := (lock_ap _ _).trans (e0_X7_minutesAt bigM x1 x2 x3 σ)
set_option maxRecDepth 20000 in
theorem e0_X7_fireMinutes (n : Nat) (x1 : Int32) (σ : Mm) : sem0 t_X7_fireMinutes cs_X7_fireMinutes 2 n [.inr (.inl 0), .inl x1] σ =
  (onI (f_X7_isIron [.inr (.inl 0), .inl x1] σ) (fun τ1 => some (none, τ1)) (fun r1 τ1 =>
  (onI (f_X7_checks [.inr (.inl 0), .inl r1] τ1) (fun τ2 => some (none, τ2)) (fun r2 τ2 =>
  (if r2 = 0 then
    some (some (some (.inl 0)), τ2)
  else
    (onI (f_X7_minutesAt [.inr (.inl 0), .inl x1, .inl 1, .inl 9] τ2) (fun τ3 => some (none, τ3)) (fun r3 τ3 =>
    some (some (some (.inl r3)), τ3)))))))) := (onI_cg (fun _ => rfl) (fun r1 τ1 => (onI_cg (fun _ => rfl) (fun r2 τ2 => (if_cg rfl (onI_cg (fun _ => rfl) (fun r3 τ3 => rfl)))))))
theorem e_X7_fireMinutes (x1 : Int32) (σ : Mm) : f_X7_fireMinutes [.inr (.inl 0), .inl x1] σ = (onI (f_X7_isIron [.inr (.inl 0), .inl x1] σ) (fun τ1 => some (none, τ1)) (fun r1 τ1 => (onI (f_X7_checks [.inr (.inl 0), .inl r1] τ1) (fun τ2 => some (none, τ2)) (fun r2 τ2 => (if r2 = 0 then some (some (some (.inl 0)), τ2) else (onI (f_X7_minutesAt [.inr (.inl 0), .inl x1, .inl 1, .inl 9] τ2) (fun τ3 => some (none, τ3)) (fun r3 τ3 => some (some (some (.inl r3)), τ3)))))))) := (lock_ap _ _).trans (e0_X7_fireMinutes bigM x1 σ)
noncomputable def b_X7_anvilMinutes_21 (n : Nat) (x1 s1 : Int32) (σ : Mm) : Option Ou := rn t_X7_anvilMinutes cs_X7_anvilMinutes n 21 [(0, .inr (.inl 0)), (1, .inl x1)] [.inl s1, .inr (.inl 0)] σ
set_option maxRecDepth 20000 in
theorem e_X7_anvilMinutes_21 (n : Nat) (x1 s1 : Int32) (σ : Mm) : b_X7_anvilMinutes_21 (n + 1) x1 s1 σ =
  (onI (f_X7_checks [.inr (.inl 0), .inl s1] σ) (fun τ1 => some (none, τ1)) (fun r1 τ1 =>
  (if r1 = 0 then
    some (some (some (.inl 0)), τ1)
  else
    (onI (f_X7_minutesAt [.inr (.inl 0), .inl (-1), .inl (10 + x1), .inl (10 + x1)] τ1) (fun τ2 => some (none, τ2)) (fun r2 τ2 =>
    some (some (some (.inl r2)), τ2)))))) := (onI_cg (fun _ => rfl) (fun r1 τ1 => (if_cg rfl (onI_cg (fun _ => rfl) (fun r2 τ2 => rfl)))))
set_option maxRecDepth 20000 in
theorem e0_X7_anvilMinutes (n : Nat) (x1 : Int32) (σ : Mm) : sem0 t_X7_anvilMinutes cs_X7_anvilMinutes 2 n [.inr (.inl 0), .inl x1] σ =
  (if x1 < 0 then
    (b_X7_anvilMinutes_21 n x1 0 σ)
  else
    (if x1 < (σ 4 78) then
      (b_X7_anvilMinutes_21 n x1 1 σ)
    else
      (b_X7_anvilMinutes_21 n x1 0 σ))) := (if_cg rfl (if_cg rfl rfl))
theorem e_X7_anvilMinutes (x1 : Int32) (σ : Mm) : f_X7_anvilMinutes [.inr (.inl 0), .inl x1] σ = (if x1 < 0 then (b_X7_anvilMinutes_21 bigM x1 0 σ) else (if x1 < (σ 4 78) then (b_X7_anvilMinutes_21 bigM x1 1 σ) else (b_X7_anvilMinutes_21 bigM x1 0 σ))) := (lock_ap _ _).trans (e0_X7_anvilMinutes bigM x1 σ)
set_option maxRecDepth 20000 in
theorem e0_X7_placeMinutes (n : Nat) (x1 : Int32) (σ : Mm) : sem0 t_X7_placeMinutes cs_X7_placeMinutes 2 n [.inr (.inl 0), .inl x1] σ =
  (onI (f_X7_isPlace [.inr (.inl 0), .inl x1] σ) (fun τ1 => some (none, τ1)) (fun r1 τ1 =>
  (onI (f_X7_checks [.inr (.inl 0), .inl r1] τ1) (fun τ2 => some (none, τ2)) (fun r2 τ2 =>
  (if r2 = 0 then
    some (some (some (.inl 0)), τ2)
  else
    (onI (f_X7_minutesAt [.inr (.inl 0), .inl (-1), .inl (1 + x1), .inl (1 + x1)] τ2) (fun τ3 => some (none, τ3)) (fun r3 τ3 =>
    some (some (some (.inl r3)), τ3)))))))) := (onI_cg (fun _ => rfl) (fun r1 τ1 => (onI_cg (fun _ => rfl) (fun r2 τ2 => (if_cg rfl (onI_cg (fun _ => rfl) (fun r3 τ3 => rfl)))))))
theorem e_X7_placeMinutes (x1 : Int32) (σ : Mm) : f_X7_placeMinutes [.inr (.inl 0), .inl x1] σ = (onI (f_X7_isPlace [.inr (.inl 0), .inl x1] σ) (fun τ1 => some (none, τ1)) (fun r1 τ1 => (onI (f_X7_checks [.inr (.inl 0), .inl r1] τ1) (fun τ2 => some (none, τ2)) (fun r2 τ2 => (if r2 = 0 then some (some (some (.inl 0)), τ2) else (onI (f_X7_minutesAt [.inr (.inl 0), .inl (-1), .inl (1 + x1), .inl (1 + x1)] τ2) (fun τ3 => some (none, τ3)) (fun r3 τ3 => some (some (some (.inl r3)), τ3)))))))) := (lock_ap _ _).trans (e0_X7_placeMinutes bigM x1 σ)
set_option maxRecDepth 20000 in
theorem e0_X7_isOpen (n : Nat) (x1 x2 : Int32) (σ : Mm) : sem0 t_X7_isOpen cs_X7_isOpen 3 n [.inr (.inl 0), .inl x1, .inl x2] σ =
  (if inb x1 6 = true then
  (if (σ 18 x1.toNatClampNeg) = (-1) then
    some (some (some (.inl 1)), σ)
  else
    (if inb x1 6 = true then
    (if x2 < (σ 18 x1.toNatClampNeg) then
      some (some (some (.inl 1)), σ)
    else
      some (some (some (.inl 0)), σ))
    else none))
  else none) := (if_cg (if_cg rfl (if_cg (if_cg rfl rfl) rfl)) rfl)
theorem e_X7_isOpen (x1 x2 : Int32) (σ : Mm) : f_X7_isOpen [.inr (.inl 0), .inl x1, .inl x2] σ = (if inb x1 6 = true then (if (σ 18 x1.toNatClampNeg) = (-1) then some (some (some (.inl 1)), σ) else (if inb x1 6 = true then (if x2 < (σ 18 x1.toNatClampNeg) then some (some (some (.inl 1)), σ) else some (some (some (.inl 0)), σ)) else none)) else none) := (lock_ap _ _).trans (e0_X7_isOpen bigM x1 x2 σ)
noncomputable def b_X7_rackMinutes_22 (n : Nat) (x1 x2 x3 : Int32) (σ : Mm) : Option Ou := rn t_X7_rackMinutes cs_X7_rackMinutes n 22 [(0, .inr (.inl 0)), (1, .inl x1), (2, .inl x2), (3, .inl x3)] [] σ
set_option maxRecDepth 20000 in
theorem e_X7_rackMinutes_22 (n : Nat) (x1 x2 x3 : Int32) (σ : Mm) : b_X7_rackMinutes_22 (n + 1) x1 x2 x3 σ =
  (if x3 < 480 then
    (if inb ((6 * x3) + x1) 2880 = true then
    (if (σ 16 ((6 * x3) + x1).toNatClampNeg) = 0 then
      (onI (f_X7_isOpen [.inr (.inl 0), .inl x1, .inl x3] σ) (fun τ1 => some (none, τ1)) (fun r1 τ1 =>
      (if r1 = 0 then
        (b_X7_rackMinutes_22 n x1 (x2 + 0) (x3 + 1) τ1)
      else
        (b_X7_rackMinutes_22 n x1 (x2 + 1) (x3 + 1) τ1))))
    else
      (b_X7_rackMinutes_22 n x1 (x2 + 0) (x3 + 1) σ))
    else none)
  else
    some (some (some (.inl x2)), σ)) := (if_cg (if_cg (if_cg (onI_cg (fun _ => rfl) (fun r1 τ1 => (if_cg rfl rfl))) rfl) rfl) rfl)
set_option maxRecDepth 20000 in
theorem e0_X7_rackMinutes (n : Nat) (x1 : Int32) (σ : Mm) : sem0 t_X7_rackMinutes cs_X7_rackMinutes 4 n [.inr (.inl 0), .inl x1] σ =
  (onI (f_X7_isIron [.inr (.inl 0), .inl x1] σ) (fun τ1 => some (none, τ1)) (fun r1 τ1 =>
  (onI (f_X7_checks [.inr (.inl 0), .inl r1] τ1) (fun τ2 => some (none, τ2)) (fun r2 τ2 =>
  (if r2 = 0 then
    some (some (some (.inl 0)), τ2)
  else
    (onV (f_X7_runs [.inr (.inl 0)] τ2) (fun τ3 => some (none, τ3)) (fun τ3 =>
    (b_X7_rackMinutes_22 n x1 0 0 τ3)))))))) := (onI_cg (fun _ => rfl) (fun r1 τ1 => (onI_cg (fun _ => rfl) (fun r2 τ2 => (if_cg rfl (onV_cg (fun _ => rfl) (fun τ3 => rfl)))))))
theorem e_X7_rackMinutes (x1 : Int32) (σ : Mm) : f_X7_rackMinutes [.inr (.inl 0), .inl x1] σ = (onI (f_X7_isIron [.inr (.inl 0), .inl x1] σ) (fun τ1 => some (none, τ1)) (fun r1 τ1 => (onI (f_X7_checks [.inr (.inl 0), .inl r1] τ1) (fun τ2 => some (none, τ2)) (fun r2 τ2 => (if r2 = 0 then some (some (some (.inl 0)), τ2) else (onV (f_X7_runs [.inr (.inl 0)] τ2) (fun τ3 => some (none, τ3)) (fun τ3 => (b_X7_rackMinutes_22 bigM x1 0 0 τ3)))))))) := (lock_ap _ _).trans (e0_X7_rackMinutes bigM x1 σ)
noncomputable def b_X7_firstWork_20 (n : Nat) (x1 x2 : Int32) (σ : Mm) : Option Ou := rn t_X7_firstWork cs_X7_firstWork n 20 [(0, .inr (.inl 0)), (1, .inl x1), (2, .inl x2)] [] σ
set_option maxRecDepth 20000 in
theorem e_X7_firstWork_20 (n : Nat) (x1 x2 : Int32) (σ : Mm) : b_X7_firstWork_20 (n + 1) x1 x2 σ =
  (if x2 < 480 then
    (if inb ((6 * x2) + x1) 2880 = true then
    (if (σ 16 ((6 * x2) + x1).toNatClampNeg) < 10 then
      (b_X7_firstWork_20 n x1 (x2 + 1) σ)
    else
      some (some (some (.inl x2)), σ))
    else none)
  else
    some (some (some (.inl (-1))), σ)) := (if_cg (if_cg (if_cg rfl rfl) rfl) rfl)
set_option maxRecDepth 20000 in
theorem e0_X7_firstWork (n : Nat) (x1 : Int32) (σ : Mm) : sem0 t_X7_firstWork cs_X7_firstWork 3 n [.inr (.inl 0), .inl x1] σ =
  (onI (f_X7_isIron [.inr (.inl 0), .inl x1] σ) (fun τ1 => some (none, τ1)) (fun r1 τ1 =>
  (onI (f_X7_checks [.inr (.inl 0), .inl r1] τ1) (fun τ2 => some (none, τ2)) (fun r2 τ2 =>
  (if r2 = 0 then
    some (some (some (.inl 0)), τ2)
  else
    (onV (f_X7_runs [.inr (.inl 0)] τ2) (fun τ3 => some (none, τ3)) (fun τ3 =>
    (b_X7_firstWork_20 n x1 0 τ3)))))))) := (onI_cg (fun _ => rfl) (fun r1 τ1 => (onI_cg (fun _ => rfl) (fun r2 τ2 => (if_cg rfl (onV_cg (fun _ => rfl) (fun τ3 => rfl)))))))
theorem e_X7_firstWork (x1 : Int32) (σ : Mm) : f_X7_firstWork [.inr (.inl 0), .inl x1] σ = (onI (f_X7_isIron [.inr (.inl 0), .inl x1] σ) (fun τ1 => some (none, τ1)) (fun r1 τ1 => (onI (f_X7_checks [.inr (.inl 0), .inl r1] τ1) (fun τ2 => some (none, τ2)) (fun r2 τ2 => (if r2 = 0 then some (some (some (.inl 0)), τ2) else (onV (f_X7_runs [.inr (.inl 0)] τ2) (fun τ3 => some (none, τ3)) (fun τ3 => (b_X7_firstWork_20 bigM x1 0 τ3)))))))) := (lock_ap _ _).trans (e0_X7_firstWork bigM x1 σ)
noncomputable def b_X7_ironIn_20 (n : Nat) (x1 x2 x3 : Int32) (σ : Mm) : Option Ou := rn t_X7_ironIn cs_X7_ironIn n 20 [(0, .inr (.inl 0)), (1, .inl x1), (2, .inl x2), (3, .inl x3)] [] σ
set_option maxRecDepth 20000 in
theorem e_X7_ironIn_20 (n : Nat) (x1 x2 x3 : Int32) (σ : Mm) : b_X7_ironIn_20 (n + 1) x1 x2 x3 σ =
  (if x3 < (σ 2 18) then
    (if inb ((6 * x2) + x3) 2880 = true then
    (if (σ 16 ((6 * x2) + x3).toNatClampNeg) = x1 then
      some (some (some (.inl x3)), σ)
    else
      (b_X7_ironIn_20 n x1 x2 (x3 + 1) σ))
    else none)
  else
    some (some (some (.inl (-1))), σ)) := (if_cg (if_cg (if_cg rfl rfl) rfl) rfl)
set_option maxRecDepth 20000 in
theorem e0_X7_ironIn (n : Nat) (x1 x2 : Int32) (σ : Mm) : sem0 t_X7_ironIn cs_X7_ironIn 4 n [.inr (.inl 0), .inl x1, .inl x2] σ =
  (if x2 < 0 then
    some (some (some (.inl (-2))), σ)
  else
    (if x2 < 480 then
      (onV (f_X7_runs [.inr (.inl 0)] σ) (fun τ1 => some (none, τ1)) (fun τ1 =>
      (b_X7_ironIn_20 n x1 x2 0 τ1)))
    else
      some (some (some (.inl (-2))), σ))) := (if_cg rfl (if_cg (onV_cg (fun _ => rfl) (fun τ1 => rfl)) rfl))
theorem e_X7_ironIn (x1 x2 : Int32) (σ : Mm) : f_X7_ironIn [.inr (.inl 0), .inl x1, .inl x2] σ = (if x2 < 0 then some (some (some (.inl (-2))), σ) else (if x2 < 480 then (onV (f_X7_runs [.inr (.inl 0)] σ) (fun τ1 => some (none, τ1)) (fun τ1 => (b_X7_ironIn_20 bigM x1 x2 0 τ1))) else some (some (some (.inl (-2))), σ))) := (lock_ap _ _).trans (e0_X7_ironIn bigM x1 x2 σ)
set_option maxRecDepth 20000 in
theorem e0_X7_ironInPlace (n : Nat) (x1 x2 : Int32) (σ : Mm) : sem0 t_X7_ironInPlace cs_X7_ironInPlace 3 n [.inr (.inl 0), .inl x1, .inl x2] σ =
  (onI (f_X7_isPlace [.inr (.inl 0), .inl x1] σ) (fun τ1 => some (none, τ1)) (fun r1 τ1 =>
  (onI (f_X7_checks [.inr (.inl 0), .inl r1] τ1) (fun τ2 => some (none, τ2)) (fun r2 τ2 =>
  (if r2 = 0 then
    some (some (some (.inl 0)), τ2)
  else
    (onI (f_X7_ironIn [.inr (.inl 0), .inl (1 + x1), .inl x2] τ2) (fun τ3 => some (none, τ3)) (fun r3 τ3 =>
    some (some (some (.inl r3)), τ3)))))))) := (onI_cg (fun _ => rfl) (fun r1 τ1 => (onI_cg (fun _ => rfl) (fun r2 τ2 => (if_cg rfl (onI_cg (fun _ => rfl) (fun r3 τ3 => rfl)))))))
theorem e_X7_ironInPlace (x1 x2 : Int32) (σ : Mm) : f_X7_ironInPlace [.inr (.inl 0), .inl x1, .inl x2] σ = (onI (f_X7_isPlace [.inr (.inl 0), .inl x1] σ) (fun τ1 => some (none, τ1)) (fun r1 τ1 => (onI (f_X7_checks [.inr (.inl 0), .inl r1] τ1) (fun τ2 => some (none, τ2)) (fun r2 τ2 => (if r2 = 0 then some (some (some (.inl 0)), τ2) else (onI (f_X7_ironIn [.inr (.inl 0), .inl (1 + x1), .inl x2] τ2) (fun τ3 => some (none, τ3)) (fun r3 τ3 => some (some (some (.inl r3)), τ3)))))))) := (lock_ap _ _).trans (e0_X7_ironInPlace bigM x1 x2 σ)
noncomputable def b_X7_ironOnAnvil_21 (n : Nat) (x1 x2 s1 : Int32) (σ : Mm) : Option Ou := rn t_X7_ironOnAnvil cs_X7_ironOnAnvil n 21 [(0, .inr (.inl 0)), (1, .inl x1), (2, .inl x2)] [.inl s1, .inr (.inl 0)] σ
set_option maxRecDepth 20000 in
theorem e_X7_ironOnAnvil_21 (n : Nat) (x1 x2 s1 : Int32) (σ : Mm) : b_X7_ironOnAnvil_21 (n + 1) x1 x2 s1 σ =
  (onI (f_X7_checks [.inr (.inl 0), .inl s1] σ) (fun τ1 => some (none, τ1)) (fun r1 τ1 =>
  (if r1 = 0 then
    some (some (some (.inl 0)), τ1)
  else
    (onI (f_X7_ironIn [.inr (.inl 0), .inl (10 + x1), .inl x2] τ1) (fun τ2 => some (none, τ2)) (fun r2 τ2 =>
    some (some (some (.inl r2)), τ2)))))) := (onI_cg (fun _ => rfl) (fun r1 τ1 => (if_cg rfl (onI_cg (fun _ => rfl) (fun r2 τ2 => rfl)))))
set_option maxRecDepth 20000 in
theorem e0_X7_ironOnAnvil (n : Nat) (x1 x2 : Int32) (σ : Mm) : sem0 t_X7_ironOnAnvil cs_X7_ironOnAnvil 3 n [.inr (.inl 0), .inl x1, .inl x2] σ =
  (if x1 < 0 then
    (b_X7_ironOnAnvil_21 n x1 x2 0 σ)
  else
    (if x1 < (σ 4 78) then
      (b_X7_ironOnAnvil_21 n x1 x2 1 σ)
    else
      (b_X7_ironOnAnvil_21 n x1 x2 0 σ))) := (if_cg rfl (if_cg rfl rfl))
theorem e_X7_ironOnAnvil (x1 x2 : Int32) (σ : Mm) : f_X7_ironOnAnvil [.inr (.inl 0), .inl x1, .inl x2] σ = (if x1 < 0 then (b_X7_ironOnAnvil_21 bigM x1 x2 0 σ) else (if x1 < (σ 4 78) then (b_X7_ironOnAnvil_21 bigM x1 x2 1 σ) else (b_X7_ironOnAnvil_21 bigM x1 x2 0 σ))) := (lock_ap _ _).trans (e0_X7_ironOnAnvil bigM x1 x2 σ)
noncomputable def b_X7_finishedBy_27 (n : Nat) (x1 x2 x3 : Int32) (σ : Mm) : Option Ou := rn t_X7_finishedBy cs_X7_finishedBy n 27 [(0, .inr (.inl 0)), (1, .inl x1), (2, .inl x2), (3, .inl x3)] [] σ
set_option maxRecDepth 20000 in
theorem e_X7_finishedBy_27 (n : Nat) (x1 x2 x3 : Int32) (σ : Mm) : b_X7_finishedBy_27 (n + 1) x1 x2 x3 σ =
  (if x3 < (σ 2 18) then
    (if inb x3 6 = true then
    (if (σ 18 x3.toNatClampNeg) = (-1) then
      (b_X7_finishedBy_27 n x1 (x2 + 0) (x3 + 1) σ)
    else
      (if inb x3 6 = true then
      (if x1 < (σ 18 x3.toNatClampNeg) then
        (b_X7_finishedBy_27 n x1 (x2 + 0) (x3 + 1) σ)
      else
        (b_X7_finishedBy_27 n x1 (x2 + 1) (x3 + 1) σ))
      else none))
    else none)
  else
    some (some (some (.inl x2)), σ)) := (if_cg (if_cg (if_cg rfl (if_cg (if_cg rfl rfl) rfl)) rfl) rfl)
set_option maxRecDepth 20000 in
theorem e0_X7_finishedBy (n : Nat) (x1 : Int32) (σ : Mm) : sem0 t_X7_finishedBy cs_X7_finishedBy 4 n [.inr (.inl 0), .inl x1] σ =
  (if x1 < 0 then
    some (some (some (.inl (-2))), (wr σ 0 0 0))
  else
    (if 480 < x1 then
      some (some (some (.inl (-2))), (wr σ 0 0 0))
    else
      (onV (f_X7_runs [.inr (.inl 0)] (wr σ 0 0 0)) (fun τ1 => some (none, τ1)) (fun τ1 =>
      (b_X7_finishedBy_27 n x1 0 0 τ1))))) := (if_cg rfl (if_cg rfl (onV_cg (fun _ => rfl) (fun τ1 => rfl))))
theorem e_X7_finishedBy (x1 : Int32) (σ : Mm) : f_X7_finishedBy [.inr (.inl 0), .inl x1] σ = (if x1 < 0 then some (some (some (.inl (-2))), (wr σ 0 0 0)) else (if 480 < x1 then some (some (some (.inl (-2))), (wr σ 0 0 0)) else (onV (f_X7_runs [.inr (.inl 0)] (wr σ 0 0 0)) (fun τ1 => some (none, τ1)) (fun τ1 => (b_X7_finishedBy_27 bigM x1 0 0 τ1))))) := (lock_ap _ _).trans (e0_X7_finishedBy bigM x1 σ)
noncomputable def b_X7_idleMinutes_13 (n : Nat) (x1 x2 : Int32) (σ : Mm) : Option Ou := rn t_X7_idleMinutes cs_X7_idleMinutes n 13 [(0, .inr (.inl 0)), (1, .inl x1), (2, .inl x2)] [] σ
noncomputable def b_X7_idleMinutes_28 (n : Nat) (x1 x2 x3 x4 x5 : Int32) (σ : Mm) : Option Ou := rn t_X7_idleMinutes cs_X7_idleMinutes n 28 [(0, .inr (.inl 0)), (1, .inl x1), (2, .inl x2), (3, .inl x3), (4, .inl x4), (5, .inl x5)] [] σ
noncomputable def b_X7_idleMinutes_63 (n : Nat) (x1 x2 x4 x5 s0 s1 : Int32) (σ : Mm) : Option Ou := rn t_X7_idleMinutes cs_X7_idleMinutes n 63 [(0, .inr (.inl 0)), (1, .inl x1), (2, .inl x2), (4, .inl x4), (5, .inl x5)] [.inl s1, .inl s0] σ
set_option maxRecDepth 20000 in
theorem e_X7_idleMinutes_13 (n : Nat) (x1 x2 : Int32) (σ : Mm) : b_X7_idleMinutes_13 (n + 1) x1 x2 σ =
  (if x2 < 480 then
    (b_X7_idleMinutes_28 n x1 x2 0 0 0 σ)
  else
    some (some (some (.inl x1)), σ)) := (if_cg rfl rfl)
set_option maxRecDepth 20000 in
theorem e_X7_idleMinutes_28 (n : Nat) (x1 x2 x3 x4 x5 : Int32) (σ : Mm) : b_X7_idleMinutes_28 (n + 1) x1 x2 x3 x4 x5 σ =
  (if x5 < (σ 2 18) then
    (if inb ((6 * x2) + x5) 2880 = true then
    (if (σ 16 ((6 * x2) + x5).toNatClampNeg) < 10 then
      (b_X7_idleMinutes_63 n x1 x2 x4 x5 x3 0 σ)
    else
      (b_X7_idleMinutes_63 n x1 x2 x4 x5 x3 1 σ))
    else none)
  else
    (if x4 = 0 then
      (b_X7_idleMinutes_13 n (x1 + 0) (x2 + 1) σ)
    else
      (if x3 < (σ 4 78) then
        (b_X7_idleMinutes_13 n (x1 + 1) (x2 + 1) σ)
      else
        (b_X7_idleMinutes_13 n (x1 + 0) (x2 + 1) σ)))) := (if_cg (if_cg (if_cg rfl rfl) rfl) (if_cg rfl (if_cg rfl rfl)))
set_option maxRecDepth 20000 in
theorem e_X7_idleMinutes_63 (n : Nat) (x1 x2 x4 x5 s0 s1 : Int32) (σ : Mm) : b_X7_idleMinutes_63 (n + 1) x1 x2 x4 x5 s0 s1 σ =
  (onI (f_X7_isOpen [.inr (.inl 0), .inl x5, .inl x2] σ) (fun τ1 => some (none, τ1)) (fun r1 τ1 =>
  (b_X7_idleMinutes_28 n x1 x2 (s0 + s1) (x4 ||| r1) (x5 + 1) τ1))) := (onI_cg (fun _ => rfl) (fun r1 τ1 => rfl))
set_option maxRecDepth 20000 in
theorem e0_X7_idleMinutes (n : Nat) (σ : Mm) : sem0 t_X7_idleMinutes cs_X7_idleMinutes 6 n [.inr (.inl 0)] σ =
  (onV (f_X7_runs [.inr (.inl 0)] (wr σ 0 0 0)) (fun τ1 => some (none, τ1)) (fun τ1 =>
  (b_X7_idleMinutes_13 n 0 0 τ1))) := (onV_cg (fun _ => rfl) (fun τ1 => rfl))
theorem e_X7_idleMinutes (σ : Mm) : f_X7_idleMinutes [.inr (.inl 0)] σ = (onV (f_X7_runs [.inr (.inl 0)] (wr σ 0 0 0)) (fun τ1 => some (none, τ1)) (fun τ1 => (b_X7_idleMinutes_13 bigM 0 0 τ1))) := (lock_ap _ _).trans (e0_X7_idleMinutes bigM σ)
noncomputable def b_X7_hottest_23 (n : Nat) (x1 x2 x3 : Int32) (σ : Mm) : Option Ou := rn t_X7_hottest cs_X7_hottest n 23 [(0, .inr (.inl 0)), (1, .inl x1), (2, .inl x2), (3, .inl x3)] [] σ
set_option maxRecDepth 20000 in
theorem e_X7_hottest_23 (n : Nat) (x1 x2 x3 : Int32) (σ : Mm) : b_X7_hottest_23 (n + 1) x1 x2 x3 σ =
  (if 480 < x3 then
    some (some (some (.inl x2)), σ)
  else
    (if inb ((6 * x3) + x1) 2886 = true then
    (b_X7_hottest_23 n x1 (if x2 < (σ 15 ((6 * x3) + x1).toNatClampNeg) then (σ 15 ((6 * x3) + x1).toNatClampNeg) else x2) (x3 + 1) σ)
    else none)) := (if_cg rfl (if_cg rfl rfl))
set_option maxRecDepth 20000 in
theorem e0_X7_hottest (n : Nat) (x1 : Int32) (σ : Mm) : sem0 t_X7_hottest cs_X7_hottest 4 n [.inr (.inl 0), .inl x1] σ =
  (onI (f_X7_isIron [.inr (.inl 0), .inl x1] σ) (fun τ1 => some (none, τ1)) (fun r1 τ1 =>
  (onI (f_X7_checks [.inr (.inl 0), .inl r1] τ1) (fun τ2 => some (none, τ2)) (fun r2 τ2 =>
  (if r2 = 0 then
    some (some (some (.inl 0)), τ2)
  else
    (onV (f_X7_runs [.inr (.inl 0)] τ2) (fun τ3 => some (none, τ3)) (fun τ3 =>
    (b_X7_hottest_23 n x1 20 0 τ3)))))))) := (onI_cg (fun _ => rfl) (fun r1 τ1 => (onI_cg (fun _ => rfl) (fun r2 τ2 => (if_cg rfl (onV_cg (fun _ => rfl) (fun τ3 => rfl)))))))
theorem e_X7_hottest (x1 : Int32) (σ : Mm) : f_X7_hottest [.inr (.inl 0), .inl x1] σ = (onI (f_X7_isIron [.inr (.inl 0), .inl x1] σ) (fun τ1 => some (none, τ1)) (fun r1 τ1 => (onI (f_X7_checks [.inr (.inl 0), .inl r1] τ1) (fun τ2 => some (none, τ2)) (fun r2 τ2 => (if r2 = 0 then some (some (some (.inl 0)), τ2) else (onV (f_X7_runs [.inr (.inl 0)] τ2) (fun τ3 => some (none, τ3)) (fun τ3 => (b_X7_hottest_23 bigM x1 20 0 τ3)))))))) := (lock_ap _ _).trans (e0_X7_hottest bigM x1 σ)
noncomputable def b_X7_lastIron_13 (n : Nat) (x1 x2 : Int32) (σ : Mm) : Option Ou := rn t_X7_lastIron cs_X7_lastIron n 13 [(0, .inr (.inl 0)), (1, .inl x1), (2, .inl x2)] [] σ
set_option maxRecDepth 20000 in
theorem e_X7_lastIron_13 (n : Nat) (x1 x2 : Int32) (σ : Mm) : b_X7_lastIron_13 (n + 1) x1 x2 σ =
  (if x2 < (σ 2 18) then
    (if inb x2 6 = true then
    (if (σ 18 x2.toNatClampNeg) = (-1) then
      some (some (some (.inl (-1))), σ)
    else
      (if x1 = (-1) then
        (b_X7_lastIron_13 n x2 (x2 + 1) σ)
      else
        (if inb x2 6 = true then
        (if inb x1 6 = true then
        (if (σ 18 x1.toNatClampNeg) < (σ 18 x2.toNatClampNeg) then
          (b_X7_lastIron_13 n x2 (x2 + 1) σ)
        else
          (b_X7_lastIron_13 n x1 (x2 + 1) σ))
        else none)
        else none)))
    else none)
  else
    some (some (some (.inl x1)), σ)) := (if_cg (if_cg (if_cg rfl (if_cg rfl (if_cg (if_cg (if_cg rfl rfl) rfl) rfl))) rfl) rfl)
set_option maxRecDepth 20000 in
theorem e0_X7_lastIron (n : Nat) (σ : Mm) : sem0 t_X7_lastIron cs_X7_lastIron 3 n [.inr (.inl 0)] σ =
  (onV (f_X7_runs [.inr (.inl 0)] (wr σ 0 0 0)) (fun τ1 => some (none, τ1)) (fun τ1 =>
  (b_X7_lastIron_13 n (-1) 0 τ1))) := (onV_cg (fun _ => rfl) (fun τ1 => rfl))
theorem e_X7_lastIron (σ : Mm) : f_X7_lastIron [.inr (.inl 0)] σ = (onV (f_X7_runs [.inr (.inl 0)] (wr σ 0 0 0)) (fun τ1 => some (none, τ1)) (fun τ1 => (b_X7_lastIron_13 bigM (-1) 0 τ1))) := (lock_ap _ _).trans (e0_X7_lastIron bigM σ)
set_option maxRecDepth 20000 in
theorem e0_X7_swaps (n : Nat) (x1 x2 : Int32) (σ : Mm) : sem0 t_X7_swaps cs_X7_swaps 4 n [.inr (.inl 0), .inl x1, .inl x2] σ =
  (if inb x1 6 = true then
  (if inb x2 6 = true then
  (if inb x1 6 = true then
  (if inb x2 6 = true then
  some (some none, (wr (wr σ 7 x1.toNatClampNeg (σ 7 x2.toNatClampNeg)) 7 x2.toNatClampNeg (σ 7 x1.toNatClampNeg)))
  else none)
  else none)
  else none)
  else none) := (if_cg (if_cg (if_cg (if_cg rfl rfl) rfl) rfl) rfl)
theorem e_X7_swaps (x1 x2 : Int32) (σ : Mm) : f_X7_swaps [.inr (.inl 0), .inl x1, .inl x2] σ = (if inb x1 6 = true then (if inb x2 6 = true then (if inb x1 6 = true then (if inb x2 6 = true then some (some none, (wr (wr σ 7 x1.toNatClampNeg (σ 7 x2.toNatClampNeg)) 7 x2.toNatClampNeg (σ 7 x1.toNatClampNeg))) else none) else none) else none) else none) := (lock_ap _ _).trans (e0_X7_swaps bigM x1 x2 σ)
noncomputable def b_X7_nextOrder_7 (n : Nat) (x1 : Int32) (σ : Mm) : Option Ou := rn t_X7_nextOrder cs_X7_nextOrder n 7 [(0, .inr (.inl 0)), (1, .inl x1)] [] σ
noncomputable def b_X7_nextOrder_34 (n : Nat) (x1 : Int32) (σ : Mm) : Option Ou := rn t_X7_nextOrder cs_X7_nextOrder n 34 [(0, .inr (.inl 0)), (1, .inl x1)] [] σ
noncomputable def b_X7_nextOrder_47 (n : Nat) (x1 x2 : Int32) (σ : Mm) : Option Ou := rn t_X7_nextOrder cs_X7_nextOrder n 47 [(0, .inr (.inl 0)), (1, .inl x1), (2, .inl x2)] [] σ
noncomputable def b_X7_nextOrder_86 (n : Nat) (x3 x4 : Int32) (σ : Mm) : Option Ou := rn t_X7_nextOrder cs_X7_nextOrder n 86 [(0, .inr (.inl 0)), (3, .inl x3), (4, .inl x4)] [] σ
set_option maxRecDepth 20000 in
theorem e_X7_nextOrder_7 (n : Nat) (x1 : Int32) (σ : Mm) : b_X7_nextOrder_7 (n + 1) x1 σ =
  (if x1 < 0 then
    (b_X7_nextOrder_34 n x1 σ)
  else
    (if inb x1 6 = true then
    (if inb (x1 + 1) 6 = true then
    (if (σ 7 (x1 + 1).toNatClampNeg) < (σ 7 x1.toNatClampNeg) then
      (b_X7_nextOrder_7 n (x1 + (-1)) σ)
    else
      (b_X7_nextOrder_34 n x1 σ))
    else none)
    else none)) := (if_cg rfl (if_cg (if_cg (if_cg rfl rfl) rfl) rfl))
set_option maxRecDepth 20000 in
theorem e_X7_nextOrder_34 (n : Nat) (x1 : Int32) (σ : Mm) : b_X7_nextOrder_34 (n + 1) x1 σ =
  (if x1 < 0 then
    some (some (some (.inl 0)), σ)
  else
    (b_X7_nextOrder_47 n x1 ((σ 0 21) - 1) σ)) := (if_cg rfl rfl)
set_option maxRecDepth 20000 in
theorem e_X7_nextOrder_47 (n : Nat) (x1 x2 : Int32) (σ : Mm) : b_X7_nextOrder_47 (n + 1) x1 x2 σ =
  (if inb x2 6 = true then
  (if inb x1 6 = true then
  (if (σ 7 x2.toNatClampNeg) < (σ 7 x1.toNatClampNeg) then
    (b_X7_nextOrder_47 n x1 (x2 + (-1)) σ)
  else
    (onV (f_X7_swaps [.inr (.inl 0), .inl x1, .inl x2] σ) (fun τ1 => some (none, τ1)) (fun τ1 =>
    (b_X7_nextOrder_86 n (x1 + 1) ((τ1 0 21) - 1) τ1))))
  else none)
  else none) := (if_cg (if_cg (if_cg rfl (onV_cg (fun _ => rfl) (fun τ1 => rfl))) rfl) rfl)
set_option maxRecDepth 20000 in
theorem e_X7_nextOrder_86 (n : Nat) (x3 x4 : Int32) (σ : Mm) : b_X7_nextOrder_86 (n + 1) x3 x4 σ =
  (if x3 < x4 then
    (onV (f_X7_swaps [.inr (.inl 0), .inl x3, .inl x4] σ) (fun τ1 => some (none, τ1)) (fun τ1 =>
    (b_X7_nextOrder_86 n (x3 + 1) (x4 + (-1)) τ1)))
  else
    some (some (some (.inl 1)), σ)) := (if_cg (onV_cg (fun _ => rfl) (fun τ1 => rfl)) rfl)
set_option maxRecDepth 20000 in
theorem e0_X7_nextOrder (n : Nat) (σ : Mm) : sem0 t_X7_nextOrder cs_X7_nextOrder 5 n [.inr (.inl 0)] σ =
  (b_X7_nextOrder_7 n ((σ 0 21) - 2) σ) := rfl
theorem e_X7_nextOrder (σ : Mm) : f_X7_nextOrder [.inr (.inl 0)] σ = (b_X7_nextOrder_7 bigM ((σ 0 21) - 2) σ) := (lock_ap _ _).trans (e0_X7_nextOrder bigM σ)
noncomputable def b_X7_tries_19 (n : Nat) (x1 : Int32) (σ : Mm) : Option Ou := rn t_X7_tries cs_X7_tries n 19 [(0, .inr (.inl 0)), (1, .inl x1)] [] σ
noncomputable def b_X7_tries_52 (n : Nat) (x1 : Int32) (σ : Mm) : Option Ou := rn t_X7_tries cs_X7_tries n 52 [(0, .inr (.inl 0)), (1, .inl x1)] [] σ
noncomputable def b_X7_tries_120 (n : Nat) (x2 : Int32) (σ : Mm) : Option Ou := rn t_X7_tries cs_X7_tries n 120 [(0, .inr (.inl 0)), (2, .inl x2)] [] σ
noncomputable def b_X7_tries_94 (n : Nat) (x2 x3 : Int32) (σ : Mm) : Option Ou := rn t_X7_tries cs_X7_tries n 94 [(0, .inr (.inl 0)), (2, .inl x2), (3, .inl x3)] [] σ
noncomputable def b_X7_tries_143 (n : Nat) (s1 s2 : Int32) (σ : Mm) : Option Ou := rn t_X7_tries cs_X7_tries n 143 [(0, .inr (.inl 0))] [.inl s2, .inl s1, .inr (.inl 0)] σ
set_option maxRecDepth 20000 in
theorem e_X7_tries_19 (n : Nat) (x1 : Int32) (σ : Mm) : b_X7_tries_19 (n + 1) x1 σ =
  (if x1 < (σ 0 21) then
    (if inb x1 6 = true then
    (b_X7_tries_19 n (x1 + 1) (wr σ 7 x1.toNatClampNeg x1))
    else none)
  else
    (b_X7_tries_52 n 1 (wr (wr σ 0 40 (-1)) 0 41 0))) := (if_cg (if_cg rfl rfl) rfl)
set_option maxRecDepth 20000 in
theorem e_X7_tries_52 (n : Nat) (x1 : Int32) (σ : Mm) : b_X7_tries_52 (n + 1) x1 σ =
  (if x1 = 0 then
    some (some none, σ)
  else
    (onI (f_X7_ends [.inr (.inl 0)] σ) (fun τ1 => some (none, τ1)) (fun r1 τ1 =>
    (if r1 = (-1) then
      (b_X7_tries_120 n r1 τ1)
    else
      (if (τ1 0 40) = (-1) then
        (b_X7_tries_94 n r1 0 (wr (wr τ1 0 40 r1) 0 41 0))
      else
        (if r1 < (τ1 0 40) then
          (b_X7_tries_94 n r1 0 (wr (wr τ1 0 40 r1) 0 41 0))
        else
          (b_X7_tries_120 n r1 τ1))))))) := (if_cg rfl (onI_cg (fun _ => rfl) (fun r1 τ1 => (if_cg rfl (if_cg rfl (if_cg rfl rfl))))))
set_option maxRecDepth 20000 in
theorem e_X7_tries_120 (n : Nat) (x2 : Int32) (σ : Mm) : b_X7_tries_120 (n + 1) x2 σ =
  (if x2 = (-1) then
    (b_X7_tries_143 n (σ 0 41) 0 σ)
  else
    (if x2 = (σ 0 40) then
      (b_X7_tries_143 n (σ 0 41) 1 σ)
    else
      (b_X7_tries_143 n (σ 0 41) 0 σ))) := (if_cg rfl (if_cg rfl rfl))
set_option maxRecDepth 20000 in
theorem e_X7_tries_94 (n : Nat) (x2 x3 : Int32) (σ : Mm) : b_X7_tries_94 (n + 1) x2 x3 σ =
  (if x3 < (σ 0 21) then
    (if inb x3 6 = true then
    (if inb x3 6 = true then
    (b_X7_tries_94 n x2 (x3 + 1) (wr σ 21 x3.toNatClampNeg (σ 7 x3.toNatClampNeg)))
    else none)
    else none)
  else
    (b_X7_tries_120 n x2 σ)) := (if_cg (if_cg (if_cg rfl rfl) rfl) rfl)
set_option maxRecDepth 20000 in
theorem e_X7_tries_143 (n : Nat) (s1 s2 : Int32) (σ : Mm) : b_X7_tries_143 (n + 1) s1 s2 σ =
  (onI (f_X7_nextOrder [.inr (.inl 0)] (wr σ 0 41 (s1 + s2))) (fun τ1 => some (none, τ1)) (fun r1 τ1 =>
  (b_X7_tries_52 n r1 τ1))) := (onI_cg (fun _ => rfl) (fun r1 τ1 => rfl))
set_option maxRecDepth 20000 in
theorem e0_X7_tries (n : Nat) (σ : Mm) : sem0 t_X7_tries cs_X7_tries 4 n [.inr (.inl 0)] σ =
  (if (σ 0 38) = 0 then
    (onV (f_X7_orders [.inr (.inl 0)] (wr σ 0 38 1)) (fun τ1 => some (none, τ1)) (fun τ1 =>
    (b_X7_tries_19 n 0 τ1)))
  else
    some (some none, σ)) := (if_cg (onV_cg (fun _ => rfl) (fun τ1 => rfl)) rfl)
theorem e_X7_tries (σ : Mm) : f_X7_tries [.inr (.inl 0)] σ = (if (σ 0 38) = 0 then (onV (f_X7_orders [.inr (.inl 0)] (wr σ 0 38 1)) (fun τ1 => some (none, τ1)) (fun τ1 => (b_X7_tries_19 bigM 0 τ1))) else some (some none, σ)) := (lock_ap _ _).trans (e0_X7_tries bigM σ)
set_option maxRecDepth 20000 in
theorem e0_X7_bestFinish (n : Nat) (σ : Mm) : sem0 t_X7_bestFinish cs_X7_bestFinish 1 n [.inr (.inl 0)] σ =
  (onV (f_X7_tries [.inr (.inl 0)] (wr σ 0 0 0)) (fun τ1 => some (none, τ1)) (fun τ1 =>
  some (some (some (.inl (τ1 0 40))), τ1))) := (onV_cg (fun _ => rfl) (fun τ1 => rfl))
theorem e_X7_bestFinish (σ : Mm) : f_X7_bestFinish [.inr (.inl 0)] σ = (onV (f_X7_tries [.inr (.inl 0)] (wr σ 0 0 0)) (fun τ1 => some (none, τ1)) (fun τ1 => some (some (some (.inl (τ1 0 40))), τ1))) := (lock_ap _ _).trans (e0_X7_bestFinish bigM σ)
set_option maxRecDepth 20000 in
theorem e0_X7_bestIronAt (n : Nat) (x1 : Int32) (σ : Mm) : sem0 t_X7_bestIronAt cs_X7_bestIronAt 2 n [.inr (.inl 0), .inl x1] σ =
  (onI (f_X7_isIron [.inr (.inl 0), .inl x1] σ) (fun τ1 => some (none, τ1)) (fun r1 τ1 =>
  (onI (f_X7_checks [.inr (.inl 0), .inl r1] τ1) (fun τ2 => some (none, τ2)) (fun r2 τ2 =>
  (if r2 = 0 then
    some (some (some (.inl 0)), τ2)
  else
    (onV (f_X7_tries [.inr (.inl 0)] τ2) (fun τ3 => some (none, τ3)) (fun τ3 =>
    (if (τ3 0 40) = (-1) then
      some (some (some (.inl (-1))), τ3)
    else
      (if inb x1 6 = true then
      some (some (some (.inl (τ3 21 x1.toNatClampNeg))), τ3)
      else none))))))))) := (onI_cg (fun _ => rfl) (fun r1 τ1 => (onI_cg (fun _ => rfl) (fun r2 τ2 => (if_cg rfl (onV_cg (fun _ => rfl) (fun τ3 => (if_cg rfl (if_cg rfl rfl)))))))))
theorem e_X7_bestIronAt (x1 : Int32) (σ : Mm) : f_X7_bestIronAt [.inr (.inl 0), .inl x1] σ = (onI (f_X7_isIron [.inr (.inl 0), .inl x1] σ) (fun τ1 => some (none, τ1)) (fun r1 τ1 => (onI (f_X7_checks [.inr (.inl 0), .inl r1] τ1) (fun τ2 => some (none, τ2)) (fun r2 τ2 => (if r2 = 0 then some (some (some (.inl 0)), τ2) else (onV (f_X7_tries [.inr (.inl 0)] τ2) (fun τ3 => some (none, τ3)) (fun τ3 => (if (τ3 0 40) = (-1) then some (some (some (.inl (-1))), τ3) else (if inb x1 6 = true then some (some (some (.inl (τ3 21 x1.toNatClampNeg))), τ3) else none))))))))) := (lock_ap _ _).trans (e0_X7_bestIronAt bigM x1 σ)
set_option maxRecDepth 20000 in
theorem e0_X7_bestOrders (n : Nat) (σ : Mm) : sem0 t_X7_bestOrders cs_X7_bestOrders 1 n [.inr (.inl 0)] σ =
  (onV (f_X7_tries [.inr (.inl 0)] (wr σ 0 0 0)) (fun τ1 => some (none, τ1)) (fun τ1 =>
  some (some (some (.inl (τ1 0 41))), τ1))) := (onV_cg (fun _ => rfl) (fun τ1 => rfl))
theorem e_X7_bestOrders (σ : Mm) : f_X7_bestOrders [.inr (.inl 0)] σ = (onV (f_X7_tries [.inr (.inl 0)] (wr σ 0 0 0)) (fun τ1 => some (none, τ1)) (fun τ1 => some (some (some (.inl (τ1 0 41))), τ1))) := (lock_ap _ _).trans (e0_X7_bestOrders bigM σ)
noncomputable def b_X7_finishWithSwap_22 (n : Nat) (x1 x2 s1 : Int32) (σ : Mm) : Option Ou := rn t_X7_finishWithSwap cs_X7_finishWithSwap n 22 [(0, .inr (.inl 0)), (1, .inl x1), (2, .inl x2)] [.inl s1, .inr (.inl 0)] σ
set_option maxRecDepth 20000 in
theorem e_X7_finishWithSwap_22 (n : Nat) (x1 x2 s1 : Int32) (σ : Mm) : b_X7_finishWithSwap_22 (n + 1) x1 x2 s1 σ =
  (onI (f_X7_checks [.inr (.inl 0), .inl s1] σ) (fun τ1 => some (none, τ1)) (fun r1 τ1 =>
  (if r1 = 0 then
    some (some (some (.inl 0)), τ1)
  else
    (onV (f_X7_orders [.inr (.inl 0)] τ1) (fun τ2 => some (none, τ2)) (fun τ2 =>
    (onV (f_X7_swaps [.inr (.inl 0), .inl x1, .inl x2] τ2) (fun τ3 => some (none, τ3)) (fun τ3 =>
    (onI (f_X7_ends [.inr (.inl 0)] τ3) (fun τ4 => some (none, τ4)) (fun r4 τ4 =>
    some (some (some (.inl r4)), τ4)))))))))) := (onI_cg (fun _ => rfl) (fun r1 τ1 => (if_cg rfl (onV_cg (fun _ => rfl) (fun τ2 => (onV_cg (fun _ => rfl) (fun τ3 => (onI_cg (fun _ => rfl) (fun r4 τ4 => rfl)))))))))
set_option maxRecDepth 20000 in
theorem e0_X7_finishWithSwap (n : Nat) (x1 x2 : Int32) (σ : Mm) : sem0 t_X7_finishWithSwap cs_X7_finishWithSwap 3 n [.inr (.inl 0), .inl x1, .inl x2] σ =
  (onI (f_X7_isIron [.inr (.inl 0), .inl x1] σ) (fun τ1 => some (none, τ1)) (fun r1 τ1 =>
  (if r1 = 0 then
    (b_X7_finishWithSwap_22 n x1 x2 0 τ1)
  else
    (onI (f_X7_isIron [.inr (.inl 0), .inl x2] τ1) (fun τ2 => some (none, τ2)) (fun r2 τ2 =>
    (if r2 = 0 then
      (b_X7_finishWithSwap_22 n x1 x2 0 τ2)
    else
      (b_X7_finishWithSwap_22 n x1 x2 1 τ2))))))) := (onI_cg (fun _ => rfl) (fun r1 τ1 => (if_cg rfl (onI_cg (fun _ => rfl) (fun r2 τ2 => (if_cg rfl rfl))))))
theorem e_X7_finishWithSwap (x1 x2 : Int32) (σ : Mm) : f_X7_finishWithSwap [.inr (.inl 0), .inl x1, .inl x2] σ = (onI (f_X7_isIron [.inr (.inl 0), .inl x1] σ) (fun τ1 => some (none, τ1)) (fun r1 τ1 => (if r1 = 0 then (b_X7_finishWithSwap_22 bigM x1 x2 0 τ1) else (onI (f_X7_isIron [.inr (.inl 0), .inl x2] τ1) (fun τ2 => some (none, τ2)) (fun r2 τ2 => (if r2 = 0 then (b_X7_finishWithSwap_22 bigM x1 x2 0 τ2) else (b_X7_finishWithSwap_22 bigM x1 x2 1 τ2))))))) := (lock_ap _ _).trans (e0_X7_finishWithSwap bigM x1 x2 σ)
set_option maxRecDepth 20000 in
theorem e0_X7_isMargin (n : Nat) (x0 : Int32) (σ : Mm) : sem0 t_X7_isMargin cs_X7_isMargin 1 n [.inl x0] σ =
  (if x0 < 0 then
    some (some (some (.inl 0)), σ)
  else
    (if 500 < x0 then
      some (some (some (.inl 0)), σ)
    else
      some (some (some (.inl 1)), σ))) := (if_cg rfl (if_cg rfl rfl))
theorem e_X7_isMargin (x0 : Int32) (σ : Mm) : f_X7_isMargin [.inl x0] σ = (if x0 < 0 then some (some (some (.inl 0)), σ) else (if 500 < x0 then some (some (some (.inl 0)), σ) else some (some (some (.inl 1)), σ))) := (lock_ap _ _).trans (e0_X7_isMargin bigM x0 σ)
set_option maxRecDepth 20000 in
theorem e0_X7_endsWith (n : Nat) (x1 : Int32) (σ : Mm) : sem0 t_X7_endsWith cs_X7_endsWith 2 n [.inr (.inl 0), .inl x1] σ =
  (onV (f_X7_orders [.inr (.inl 0)] σ) (fun τ1 => some (none, τ1)) (fun τ1 =>
  (onI (f_X7_ends [.inr (.inl 0)] (wr τ1 0 22 x1)) (fun τ2 => some (none, τ2)) (fun r2 τ2 =>
  some (some (some (.inl r2)), τ2))))) := (onV_cg (fun _ => rfl) (fun τ1 => (onI_cg (fun _ => rfl) (fun r2 τ2 => rfl))))
theorem e_X7_endsWith (x1 : Int32) (σ : Mm) : f_X7_endsWith [.inr (.inl 0), .inl x1] σ = (onV (f_X7_orders [.inr (.inl 0)] σ) (fun τ1 => some (none, τ1)) (fun τ1 => (onI (f_X7_ends [.inr (.inl 0)] (wr τ1 0 22 x1)) (fun τ2 => some (none, τ2)) (fun r2 τ2 => some (some (some (.inl r2)), τ2))))) := (lock_ap _ _).trans (e0_X7_endsWith bigM x1 σ)
set_option maxRecDepth 20000 in
theorem e0_X7_finishWithMargin (n : Nat) (x1 : Int32) (σ : Mm) : sem0 t_X7_finishWithMargin cs_X7_finishWithMargin 2 n [.inr (.inl 0), .inl x1] σ =
  (onI (f_X7_isMargin [.inl x1] (pk (sg0) (wr σ 0 0 0))) (fun τ1 => some (none, (put (sg0) (wr σ 0 0 0) τ1))) (fun r1 τ1 =>
  (if r1 = 0 then
    some (some (some (.inl (-2))), (put (sg0) (wr σ 0 0 0) τ1))
  else
    (onI (f_X7_endsWith [.inr (.inl 0), .inl x1] (put (sg0) (wr σ 0 0 0) τ1)) (fun τ2 => some (none, τ2)) (fun r2 τ2 =>
    some (some (some (.inl r2)), τ2)))))) := (onI_cg (fun _ => rfl) (fun r1 τ1 => (if_cg rfl (onI_cg (fun _ => rfl) (fun r2 τ2 => rfl)))))
theorem e_X7_finishWithMargin (x1 : Int32) (σ : Mm) : f_X7_finishWithMargin [.inr (.inl 0), .inl x1] σ = (onI (f_X7_isMargin [.inl x1] (pk (sg0) (wr σ 0 0 0))) (fun τ1 => some (none, (put (sg0) (wr σ 0 0 0) τ1))) (fun r1 τ1 => (if r1 = 0 then some (some (some (.inl (-2))), (put (sg0) (wr σ 0 0 0) τ1)) else (onI (f_X7_endsWith [.inr (.inl 0), .inl x1] (put (sg0) (wr σ 0 0 0) τ1)) (fun τ2 => some (none, τ2)) (fun r2 τ2 => some (some (some (.inl r2)), τ2)))))) := (lock_ap _ _).trans (e0_X7_finishWithMargin bigM x1 σ)
noncomputable def b_X7_bestMargin_11 (n : Nat) (x1 x2 x3 : Int32) (σ : Mm) : Option Ou := rn t_X7_bestMargin cs_X7_bestMargin n 11 [(0, .inr (.inl 0)), (1, .inl x1), (2, .inl x2), (3, .inl x3)] [] σ
set_option maxRecDepth 20000 in
theorem e_X7_bestMargin_11 (n : Nat) (x1 x2 x3 : Int32) (σ : Mm) : b_X7_bestMargin_11 (n + 1) x1 x2 x3 σ =
  (if 500 < x3 then
    some (some (some (.inl x1)), σ)
  else
    (onI (f_X7_endsWith [.inr (.inl 0), .inl x3] σ) (fun τ1 => some (none, τ1)) (fun r1 τ1 =>
    (if r1 = (-1) then
      (b_X7_bestMargin_11 n x1 x2 (x3 + 10) τ1)
    else
      (if x1 = (-1) then
        (b_X7_bestMargin_11 n x3 r1 (x3 + 10) τ1)
      else
        (if r1 < x2 then
          (b_X7_bestMargin_11 n x3 r1 (x3 + 10) τ1)
        else
          (b_X7_bestMargin_11 n x1 x2 (x3 + 10) τ1))))))) := (if_cg rfl (onI_cg (fun _ => rfl) (fun r1 τ1 => (if_cg rfl (if_cg rfl (if_cg rfl rfl))))))
set_option maxRecDepth 20000 in
theorem e0_X7_bestMargin (n : Nat) (σ : Mm) : sem0 t_X7_bestMargin cs_X7_bestMargin 5 n [.inr (.inl 0)] σ =
  (b_X7_bestMargin_11 n (-1) 0 0 (wr σ 0 0 0)) := rfl
theorem e_X7_bestMargin (σ : Mm) : f_X7_bestMargin [.inr (.inl 0)] σ = (b_X7_bestMargin_11 bigM (-1) 0 0 (wr σ 0 0 0)) := (lock_ap _ _).trans (e0_X7_bestMargin bigM σ)
set_option maxRecDepth 20000 in
theorem e0_X7_finishWithoutPlace (n : Nat) (x1 : Int32) (σ : Mm) : sem0 t_X7_finishWithoutPlace cs_X7_finishWithoutPlace 2 n [.inr (.inl 0), .inl x1] σ =
  (onI (f_X7_isPlace [.inr (.inl 0), .inl x1] σ) (fun τ1 => some (none, τ1)) (fun r1 τ1 =>
  (onI (f_X7_checks [.inr (.inl 0), .inl r1] τ1) (fun τ2 => some (none, τ2)) (fun r2 τ2 =>
  (if r2 = 0 then
    some (some (some (.inl 0)), τ2)
  else
    (onV (f_X7_orders [.inr (.inl 0)] τ2) (fun τ3 => some (none, τ3)) (fun τ3 =>
    (onI (f_X7_ends [.inr (.inl 0)] (wr τ3 0 23 x1)) (fun τ4 => some (none, τ4)) (fun r4 τ4 =>
    some (some (some (.inl r4)), τ4)))))))))) := (onI_cg (fun _ => rfl) (fun r1 τ1 => (onI_cg (fun _ => rfl) (fun r2 τ2 => (if_cg rfl (onV_cg (fun _ => rfl) (fun τ3 => (onI_cg (fun _ => rfl) (fun r4 τ4 => rfl)))))))))
theorem e_X7_finishWithoutPlace (x1 : Int32) (σ : Mm) : f_X7_finishWithoutPlace [.inr (.inl 0), .inl x1] σ = (onI (f_X7_isPlace [.inr (.inl 0), .inl x1] σ) (fun τ1 => some (none, τ1)) (fun r1 τ1 => (onI (f_X7_checks [.inr (.inl 0), .inl r1] τ1) (fun τ2 => some (none, τ2)) (fun r2 τ2 => (if r2 = 0 then some (some (some (.inl 0)), τ2) else (onV (f_X7_orders [.inr (.inl 0)] τ2) (fun τ3 => some (none, τ3)) (fun τ3 => (onI (f_X7_ends [.inr (.inl 0)] (wr τ3 0 23 x1)) (fun τ4 => some (none, τ4)) (fun r4 τ4 => some (some (some (.inl r4)), τ4)))))))))) := (lock_ap _ _).trans (e0_X7_finishWithoutPlace bigM x1 σ)
noncomputable def b_X7_finishWithoutIron_22 (n : Nat) (x1 x2 x3 : Int32) (σ : Mm) : Option Ou := rn t_X7_finishWithoutIron cs_X7_finishWithoutIron n 22 [(0, .inr (.inl 0)), (1, .inl x1), (2, .inl x2), (3, .inl x3)] [] σ
set_option maxRecDepth 20000 in
theorem e_X7_finishWithoutIron_22 (n : Nat) (x1 x2 x3 : Int32) (σ : Mm) : b_X7_finishWithoutIron_22 (n + 1) x1 x2 x3 σ =
  (if x3 < (σ 0 21) then
    (if inb x3 6 = true then
    (if (σ 7 x3.toNatClampNeg) = x1 then
      (b_X7_finishWithoutIron_22 n x1 x2 (x3 + 1) σ)
    else
      (if inb x3 6 = true then
      (if inb x2 6 = true then
      (b_X7_finishWithoutIron_22 n x1 (x2 + 1) (x3 + 1) (wr σ 7 x2.toNatClampNeg (σ 7 x3.toNatClampNeg)))
      else none)
      else none))
    else none)
  else
    (onI (f_X7_ends [.inr (.inl 0)] (wr σ 0 21 x2)) (fun τ1 => some (none, τ1)) (fun r1 τ1 =>
    some (some (some (.inl r1)), τ1)))) := (if_cg (if_cg (if_cg rfl (if_cg (if_cg rfl rfl) rfl)) rfl) (onI_cg (fun _ => rfl) (fun r1 τ1 => rfl)))
set_option maxRecDepth 20000 in
theorem e0_X7_finishWithoutIron (n : Nat) (x1 : Int32) (σ : Mm) : sem0 t_X7_finishWithoutIron cs_X7_finishWithoutIron 4 n [.inr (.inl 0), .inl x1] σ =
  (onI (f_X7_isIron [.inr (.inl 0), .inl x1] σ) (fun τ1 => some (none, τ1)) (fun r1 τ1 =>
  (onI (f_X7_checks [.inr (.inl 0), .inl r1] τ1) (fun τ2 => some (none, τ2)) (fun r2 τ2 =>
  (if r2 = 0 then
    some (some (some (.inl 0)), τ2)
  else
    (onV (f_X7_orders [.inr (.inl 0)] τ2) (fun τ3 => some (none, τ3)) (fun τ3 =>
    (b_X7_finishWithoutIron_22 n x1 0 0 τ3)))))))) := (onI_cg (fun _ => rfl) (fun r1 τ1 => (onI_cg (fun _ => rfl) (fun r2 τ2 => (if_cg rfl (onV_cg (fun _ => rfl) (fun τ3 => rfl)))))))
theorem e_X7_finishWithoutIron (x1 : Int32) (σ : Mm) : f_X7_finishWithoutIron [.inr (.inl 0), .inl x1] σ = (onI (f_X7_isIron [.inr (.inl 0), .inl x1] σ) (fun τ1 => some (none, τ1)) (fun r1 τ1 => (onI (f_X7_checks [.inr (.inl 0), .inl r1] τ1) (fun τ2 => some (none, τ2)) (fun r2 τ2 => (if r2 = 0 then some (some (some (.inl 0)), τ2) else (onV (f_X7_orders [.inr (.inl 0)] τ2) (fun τ3 => some (none, τ3)) (fun τ3 => (b_X7_finishWithoutIron_22 bigM x1 0 0 τ3)))))))) := (lock_ap _ _).trans (e0_X7_finishWithoutIron bigM x1 σ)
set_option maxRecDepth 20000 in
theorem e0_X7_finishAlone (n : Nat) (x1 : Int32) (σ : Mm) : sem0 t_X7_finishAlone cs_X7_finishAlone 2 n [.inr (.inl 0), .inl x1] σ =
  (onI (f_X7_isIron [.inr (.inl 0), .inl x1] σ) (fun τ1 => some (none, τ1)) (fun r1 τ1 =>
  (onI (f_X7_checks [.inr (.inl 0), .inl r1] τ1) (fun τ2 => some (none, τ2)) (fun r2 τ2 =>
  (if r2 = 0 then
    some (some (some (.inl 0)), τ2)
  else
    (onV (f_X7_orders [.inr (.inl 0)] τ2) (fun τ3 => some (none, τ3)) (fun τ3 =>
    (onI (f_X7_ends [.inr (.inl 0)] (wr (wr τ3 7 0 x1) 0 21 1)) (fun τ4 => some (none, τ4)) (fun r4 τ4 =>
    some (some (some (.inl r4)), τ4)))))))))) := (onI_cg (fun _ => rfl) (fun r1 τ1 => (onI_cg (fun _ => rfl) (fun r2 τ2 => (if_cg rfl (onV_cg (fun _ => rfl) (fun τ3 => (onI_cg (fun _ => rfl) (fun r4 τ4 => rfl)))))))))
theorem e_X7_finishAlone (x1 : Int32) (σ : Mm) : f_X7_finishAlone [.inr (.inl 0), .inl x1] σ = (onI (f_X7_isIron [.inr (.inl 0), .inl x1] σ) (fun τ1 => some (none, τ1)) (fun r1 τ1 => (onI (f_X7_checks [.inr (.inl 0), .inl r1] τ1) (fun τ2 => some (none, τ2)) (fun r2 τ2 => (if r2 = 0 then some (some (some (.inl 0)), τ2) else (onV (f_X7_orders [.inr (.inl 0)] τ2) (fun τ3 => some (none, τ3)) (fun τ3 => (onI (f_X7_ends [.inr (.inl 0)] (wr (wr τ3 7 0 x1) 0 21 1)) (fun τ4 => some (none, τ4)) (fun r4 τ4 => some (some (some (.inl r4)), τ4)))))))))) := (lock_ap _ _).trans (e0_X7_finishAlone bigM x1 σ)
set_option maxRecDepth 20000 in
theorem e0_X7_endsIf (n : Nat) (x1 x2 : Int32) (σ : Mm) : sem0 t_X7_endsIf cs_X7_endsIf 5 n [.inr (.inl 0), .inl x1, .inl x2] σ =
  (if inb x1 81 = true then
  (if inb x1 81 = true then
  (onV (f_X7_orders [.inr (.inl 0)] (wr σ 4 x1.toNatClampNeg x2)) (fun τ1 => some (none, τ1)) (fun τ1 =>
  (onI (f_X7_ends [.inr (.inl 0)] τ1) (fun τ2 => some (none, τ2)) (fun r2 τ2 =>
  (if inb x1 81 = true then
  some (some (some (.inl r2)), (wr τ2 4 x1.toNatClampNeg (σ 4 x1.toNatClampNeg)))
  else none)))))
  else none)
  else none) := (if_cg (if_cg (onV_cg (fun _ => rfl) (fun τ1 => (onI_cg (fun _ => rfl) (fun r2 τ2 => (if_cg rfl rfl))))) rfl) rfl)
theorem e_X7_endsIf (x1 x2 : Int32) (σ : Mm) : f_X7_endsIf [.inr (.inl 0), .inl x1, .inl x2] σ = (if inb x1 81 = true then (if inb x1 81 = true then (onV (f_X7_orders [.inr (.inl 0)] (wr σ 4 x1.toNatClampNeg x2)) (fun τ1 => some (none, τ1)) (fun τ1 => (onI (f_X7_ends [.inr (.inl 0)] τ1) (fun τ2 => some (none, τ2)) (fun r2 τ2 => (if inb x1 81 = true then some (some (some (.inl r2)), (wr τ2 4 x1.toNatClampNeg (σ 4 x1.toNatClampNeg))) else none))))) else none) else none) := (lock_ap _ _).trans (e0_X7_endsIf bigM x1 x2 σ)
set_option maxRecDepth 20000 in
theorem e0_X7_finishWithAnvils (n : Nat) (x1 : Int32) (σ : Mm) : sem0 t_X7_finishWithAnvils cs_X7_finishWithAnvils 2 n [.inr (.inl 0), .inl x1] σ =
  (if x1 < 1 then
    some (some (some (.inl (-2))), (wr σ 0 0 0))
  else
    (if 3 < x1 then
      some (some (some (.inl (-2))), (wr σ 0 0 0))
    else
      (onI (f_X7_endsIf [.inr (.inl 0), .inl 78, .inl x1] (wr σ 0 0 0)) (fun τ1 => some (none, τ1)) (fun r1 τ1 =>
      some (some (some (.inl r1)), τ1))))) := (if_cg rfl (if_cg rfl (onI_cg (fun _ => rfl) (fun r1 τ1 => rfl))))
theorem e_X7_finishWithAnvils (x1 : Int32) (σ : Mm) : f_X7_finishWithAnvils [.inr (.inl 0), .inl x1] σ = (if x1 < 1 then some (some (some (.inl (-2))), (wr σ 0 0 0)) else (if 3 < x1 then some (some (some (.inl (-2))), (wr σ 0 0 0)) else (onI (f_X7_endsIf [.inr (.inl 0), .inl 78, .inl x1] (wr σ 0 0 0)) (fun τ1 => some (none, τ1)) (fun r1 τ1 => some (some (some (.inl r1)), τ1))))) := (lock_ap _ _).trans (e0_X7_finishWithAnvils bigM x1 σ)
noncomputable def b_X7_bestRule_11 (n : Nat) (x1 x2 x3 : Int32) (σ : Mm) : Option Ou := rn t_X7_bestRule cs_X7_bestRule n 11 [(0, .inr (.inl 0)), (1, .inl x1), (2, .inl x2), (3, .inl x3)] [] σ
set_option maxRecDepth 20000 in
theorem e_X7_bestRule_11 (n : Nat) (x1 x2 x3 : Int32) (σ : Mm) : b_X7_bestRule_11 (n + 1) x1 x2 x3 σ =
  (if x3 < 3 then
    (onI (f_X7_endsIf [.inr (.inl 0), .inl 80, .inl x3] σ) (fun τ1 => some (none, τ1)) (fun r1 τ1 =>
    (if r1 = (-1) then
      (b_X7_bestRule_11 n x1 x2 (x3 + 1) τ1)
    else
      (if x1 = (-1) then
        (b_X7_bestRule_11 n x3 r1 (x3 + 1) τ1)
      else
        (if r1 < x2 then
          (b_X7_bestRule_11 n x3 r1 (x3 + 1) τ1)
        else
          (b_X7_bestRule_11 n x1 x2 (x3 + 1) τ1))))))
  else
    some (some (some (.inl x1)), σ)) := (if_cg (onI_cg (fun _ => rfl) (fun r1 τ1 => (if_cg rfl (if_cg rfl (if_cg rfl rfl))))) rfl)
set_option maxRecDepth 20000 in
theorem e0_X7_bestRule (n : Nat) (σ : Mm) : sem0 t_X7_bestRule cs_X7_bestRule 5 n [.inr (.inl 0)] σ =
  (b_X7_bestRule_11 n (-1) 0 0 (wr σ 0 0 0)) := rfl
theorem e_X7_bestRule (σ : Mm) : f_X7_bestRule [.inr (.inl 0)] σ = (b_X7_bestRule_11 bigM (-1) 0 0 (wr σ 0 0 0)) := (lock_ap _ _).trans (e0_X7_bestRule bigM σ)
set_option maxRecDepth 20000 in
theorem e0_X7_finishWithRate (n : Nat) (x1 x2 : Int32) (σ : Mm) : sem0 t_X7_finishWithRate cs_X7_finishWithRate 3 n [.inr (.inl 0), .inl x1, .inl x2] σ =
  (onI (f_X7_isPlace [.inr (.inl 0), .inl x1] σ) (fun τ1 => some (none, τ1)) (fun r1 τ1 =>
  (onI (f_X7_checks [.inr (.inl 0), .inl r1] τ1) (fun τ2 => some (none, τ2)) (fun r2 τ2 =>
  (if r2 = 0 then
    some (some (some (.inl 0)), τ2)
  else
    (if x2 < 1 then
      some (some (some (.inl (-2))), τ2)
    else
      (if 2000 < x2 then
        some (some (some (.inl (-2))), τ2)
      else
        (onI (f_X7_endsIf [.inr (.inl 0), .inl (66 + x1), .inl x2] τ2) (fun τ3 => some (none, τ3)) (fun r3 τ3 =>
        some (some (some (.inl r3)), τ3)))))))))) := (onI_cg (fun _ => rfl) (fun r1 τ1 => (onI_cg (fun _ => rfl) (fun r2 τ2 => (if_cg rfl (if_cg rfl (if_cg rfl (onI_cg (fun _ => rfl) (fun r3 τ3 => rfl)))))))))
theorem e_X7_finishWithRate (x1 x2 : Int32) (σ : Mm) : f_X7_finishWithRate [.inr (.inl 0), .inl x1, .inl x2] σ = (onI (f_X7_isPlace [.inr (.inl 0), .inl x1] σ) (fun τ1 => some (none, τ1)) (fun r1 τ1 => (onI (f_X7_checks [.inr (.inl 0), .inl r1] τ1) (fun τ2 => some (none, τ2)) (fun r2 τ2 => (if r2 = 0 then some (some (some (.inl 0)), τ2) else (if x2 < 1 then some (some (some (.inl (-2))), τ2) else (if 2000 < x2 then some (some (some (.inl (-2))), τ2) else (onI (f_X7_endsIf [.inr (.inl 0), .inl (66 + x1), .inl x2] τ2) (fun τ3 => some (none, τ3)) (fun r3 τ3 => some (some (some (.inl r3)), τ3)))))))))) := (lock_ap _ _).trans (e0_X7_finishWithRate bigM x1 x2 σ)
noncomputable def b_X7_leastRate_26 (n : Nat) (x1 x2 x3 : Int32) (σ : Mm) : Option Ou := rn t_X7_leastRate cs_X7_leastRate n 26 [(0, .inr (.inl 0)), (1, .inl x1), (2, .inl x2), (3, .inl x3)] [] σ
set_option maxRecDepth 20000 in
theorem e_X7_leastRate_26 (n : Nat) (x1 x2 x3 : Int32) (σ : Mm) : b_X7_leastRate_26 (n + 1) x1 x2 x3 σ =
  (if 2000 < x3 then
    some (some (some (.inl (-1))), σ)
  else
    (if x2 = (-1) then
      some (some (some (.inl (-1))), σ)
    else
      (onI (f_X7_endsIf [.inr (.inl 0), .inl (66 + x1), .inl x3] σ) (fun τ1 => some (none, τ1)) (fun r1 τ1 =>
      (if r1 = (-1) then
        (b_X7_leastRate_26 n x1 x2 (x3 + 20) τ1)
      else
        (if x2 < r1 then
          (b_X7_leastRate_26 n x1 x2 (x3 + 20) τ1)
        else
          some (some (some (.inl x3)), τ1))))))) := (if_cg rfl (if_cg rfl (onI_cg (fun _ => rfl) (fun r1 τ1 => (if_cg rfl (if_cg rfl rfl))))))
set_option maxRecDepth 20000 in
theorem e0_X7_leastRate (n : Nat) (x1 : Int32) (σ : Mm) : sem0 t_X7_leastRate cs_X7_leastRate 5 n [.inr (.inl 0), .inl x1] σ =
  (onI (f_X7_isPlace [.inr (.inl 0), .inl x1] σ) (fun τ1 => some (none, τ1)) (fun r1 τ1 =>
  (onI (f_X7_checks [.inr (.inl 0), .inl r1] τ1) (fun τ2 => some (none, τ2)) (fun r2 τ2 =>
  (if r2 = 0 then
    some (some (some (.inl 0)), τ2)
  else
    (onV (f_X7_orders [.inr (.inl 0)] τ2) (fun τ3 => some (none, τ3)) (fun τ3 =>
    (onI (f_X7_ends [.inr (.inl 0)] τ3) (fun τ4 => some (none, τ4)) (fun r4 τ4 =>
    (b_X7_leastRate_26 n x1 r4 20 τ4)))))))))) := (onI_cg (fun _ => rfl) (fun r1 τ1 => (onI_cg (fun _ => rfl) (fun r2 τ2 => (if_cg rfl (onV_cg (fun _ => rfl) (fun τ3 => (onI_cg (fun _ => rfl) (fun r4 τ4 => rfl)))))))))
theorem e_X7_leastRate (x1 : Int32) (σ : Mm) : f_X7_leastRate [.inr (.inl 0), .inl x1] σ = (onI (f_X7_isPlace [.inr (.inl 0), .inl x1] σ) (fun τ1 => some (none, τ1)) (fun r1 τ1 => (onI (f_X7_checks [.inr (.inl 0), .inl r1] τ1) (fun τ2 => some (none, τ2)) (fun r2 τ2 => (if r2 = 0 then some (some (some (.inl 0)), τ2) else (onV (f_X7_orders [.inr (.inl 0)] τ2) (fun τ3 => some (none, τ3)) (fun τ3 => (onI (f_X7_ends [.inr (.inl 0)] τ3) (fun τ4 => some (none, τ4)) (fun r4 τ4 => (b_X7_leastRate_26 bigM x1 r4 20 τ4)))))))))) := (lock_ap _ _).trans (e0_X7_leastRate bigM x1 σ)
noncomputable def b_X7_criticalIrons_18 (n : Nat) (x1 x2 x3 : Int32) (σ : Mm) : Option Ou := rn t_X7_criticalIrons cs_X7_criticalIrons n 18 [(0, .inr (.inl 0)), (1, .inl x1), (2, .inl x2), (3, .inl x3)] [] σ
set_option maxRecDepth 20000 in
theorem e_X7_criticalIrons_18 (n : Nat) (x1 x2 x3 : Int32) (σ : Mm) : b_X7_criticalIrons_18 (n + 1) x1 x2 x3 σ =
  (if x3 < (σ 2 18) then
    (if x1 = (-1) then
      some (some (some (.inl x2)), σ)
    else
      (onI (f_X7_finishWithoutIron [.inr (.inl 0), .inl x3] σ) (fun τ1 => some (none, τ1)) (fun r1 τ1 =>
      (if r1 = (-1) then
        (b_X7_criticalIrons_18 n x1 (x2 ||| 0) (x3 + 1) τ1)
      else
        (if r1 < x1 then
          (b_X7_criticalIrons_18 n x1 (x2 ||| (1 <<< (x3 &&& 31))) (x3 + 1) τ1)
        else
          (b_X7_criticalIrons_18 n x1 (x2 ||| 0) (x3 + 1) τ1))))))
  else
    some (some (some (.inl x2)), σ)) := (if_cg (if_cg rfl (onI_cg (fun _ => rfl) (fun r1 τ1 => (if_cg rfl (if_cg rfl rfl))))) rfl)
set_option maxRecDepth 20000 in
theorem e0_X7_criticalIrons (n : Nat) (σ : Mm) : sem0 t_X7_criticalIrons cs_X7_criticalIrons 5 n [.inr (.inl 0)] σ =
  (onV (f_X7_orders [.inr (.inl 0)] (wr σ 0 0 0)) (fun τ1 => some (none, τ1)) (fun τ1 =>
  (onI (f_X7_ends [.inr (.inl 0)] τ1) (fun τ2 => some (none, τ2)) (fun r2 τ2 =>
  (b_X7_criticalIrons_18 n r2 0 0 τ2))))) := (onV_cg (fun _ => rfl) (fun τ1 => (onI_cg (fun _ => rfl) (fun r2 τ2 => rfl))))
theorem e_X7_criticalIrons (σ : Mm) : f_X7_criticalIrons [.inr (.inl 0)] σ = (onV (f_X7_orders [.inr (.inl 0)] (wr σ 0 0 0)) (fun τ1 => some (none, τ1)) (fun τ1 => (onI (f_X7_ends [.inr (.inl 0)] τ1) (fun τ2 => some (none, τ2)) (fun r2 τ2 => (b_X7_criticalIrons_18 bigM r2 0 0 τ2))))) := (lock_ap _ _).trans (e0_X7_criticalIrons bigM σ)
noncomputable def b_X7_orderCode_9 (n : Nat) (x1 x2 : Int32) (σ : Mm) : Option Ou := rn t_X7_orderCode cs_X7_orderCode n 9 [(0, .inr (.inl 0)), (1, .inl x1), (2, .inl x2)] [] σ
set_option maxRecDepth 20000 in
theorem e_X7_orderCode_9 (n : Nat) (x1 x2 : Int32) (σ : Mm) : b_X7_orderCode_9 (n + 1) x1 x2 σ =
  (if x2 < (σ 2 18) then
    (if inb (72 + x2) 81 = true then
    (b_X7_orderCode_9 n (x1 ||| (((σ 4 (72 + x2).toNatClampNeg) + 1) <<< ((3 * x2) &&& 31))) (x2 + 1) σ)
    else none)
  else
    some (some (some (.inl x1)), σ)) := (if_cg (if_cg rfl rfl) rfl)
set_option maxRecDepth 20000 in
theorem e0_X7_orderCode (n : Nat) (σ : Mm) : sem0 t_X7_orderCode cs_X7_orderCode 3 n [.inr (.inl 0)] σ =
  (b_X7_orderCode_9 n 0 0 (wr σ 0 0 0)) := rfl
theorem e_X7_orderCode (σ : Mm) : f_X7_orderCode [.inr (.inl 0)] σ = (b_X7_orderCode_9 bigM 0 0 (wr σ 0 0 0)) := (lock_ap _ _).trans (e0_X7_orderCode bigM σ)
noncomputable def b_X7_keeps_22 (n : Nat) (x1 : Int32) (σ : Mm) : Option Ou := rn t_X7_keeps cs_X7_keeps n 22 [(0, .inr (.inl 0)), (1, .inl x1)] [] σ
noncomputable def b_X7_keeps_62 (n : Nat) (x1 : Int32) (σ : Mm) : Option Ou := rn t_X7_keeps cs_X7_keeps n 62 [(0, .inr (.inl 0)), (1, .inl x1)] [] σ
set_option maxRecDepth 20000 in
theorem e_X7_keeps_22 (n : Nat) (x1 : Int32) (σ : Mm) : b_X7_keeps_22 (n + 1) x1 σ =
  (if x1 < 972 then
    (if inb x1 972 = true then
    (if inb (x1 - 81) 972 = true then
    (b_X7_keeps_22 n (x1 + 1) (wr σ 6 (x1 - 81).toNatClampNeg (σ 6 x1.toNatClampNeg)))
    else none)
    else none)
  else
    (b_X7_keeps_62 n 0 (wr σ 0 8 ((σ 0 8) - 1)))) := (if_cg (if_cg (if_cg rfl rfl) rfl) rfl)
set_option maxRecDepth 20000 in
theorem e_X7_keeps_62 (n : Nat) (x1 : Int32) (σ : Mm) : b_X7_keeps_62 (n + 1) x1 σ =
  (if x1 < 81 then
    (if inb x1 81 = true then
    (if inb ((81 * (σ 0 8)) + x1) 972 = true then
    (b_X7_keeps_62 n (x1 + 1) (wr σ 6 ((81 * (σ 0 8)) + x1).toNatClampNeg (σ 4 x1.toNatClampNeg)))
    else none)
    else none)
  else
    some (some none, (wr σ 0 8 ((σ 0 8) + 1)))) := (if_cg (if_cg (if_cg rfl rfl) rfl) rfl)
set_option maxRecDepth 20000 in
theorem e0_X7_keeps (n : Nat) (σ : Mm) : sem0 t_X7_keeps cs_X7_keeps 2 n [.inr (.inl 0)] σ =
  (if (σ 0 8) = 12 then
    (b_X7_keeps_22 n 81 (wr (wr σ 0 37 0) 0 38 0))
  else
    (b_X7_keeps_62 n 0 (wr (wr σ 0 37 0) 0 38 0))) := (if_cg rfl rfl)
theorem e_X7_keeps (σ : Mm) : f_X7_keeps [.inr (.inl 0)] σ = (if (σ 0 8) = 12 then (b_X7_keeps_22 bigM 81 (wr (wr σ 0 37 0) 0 38 0)) else (b_X7_keeps_62 bigM 0 (wr (wr σ 0 37 0) 0 38 0))) := (lock_ap _ _).trans (e0_X7_keeps bigM σ)
noncomputable def b_X7_undo_36 (n : Nat) (x1 : Int32) (σ : Mm) : Option Ou := rn t_X7_undo cs_X7_undo n 36 [(0, .inr (.inl 0)), (1, .inl x1)] [] σ
set_option maxRecDepth 20000 in
theorem e_X7_undo_36 (n : Nat) (x1 : Int32) (σ : Mm) : b_X7_undo_36 (n + 1) x1 σ =
  (if x1 < 81 then
    (if inb ((81 * (σ 0 8)) + x1) 972 = true then
    (if inb x1 81 = true then
    (b_X7_undo_36 n (x1 + 1) (wr σ 4 x1.toNatClampNeg (σ 6 ((81 * (σ 0 8)) + x1).toNatClampNeg)))
    else none)
    else none)
  else
    some (some (some (.inl (σ 0 8))), σ)) := (if_cg (if_cg (if_cg rfl rfl) rfl) rfl)
set_option maxRecDepth 20000 in
theorem e0_X7_undo (n : Nat) (σ : Mm) : sem0 t_X7_undo cs_X7_undo 2 n [.inr (.inl 0)] σ =
  (if (σ 0 8) = 0 then
    some (some (some (.inl (-1))), (wr σ 0 0 0))
  else
    (b_X7_undo_36 n 0 (wr (wr (wr (wr σ 0 0 0) 0 37 0) 0 38 0) 0 8 ((σ 0 8) - 1)))) := (if_cg rfl rfl)
theorem e_X7_undo (σ : Mm) : f_X7_undo [.inr (.inl 0)] σ = (if (σ 0 8) = 0 then some (some (some (.inl (-1))), (wr σ 0 0 0)) else (b_X7_undo_36 bigM 0 (wr (wr (wr (wr σ 0 0 0) 0 37 0) 0 38 0) 0 8 ((σ 0 8) - 1)))) := (lock_ap _ _).trans (e0_X7_undo bigM σ)
set_option maxRecDepth 20000 in
theorem e0_X7_setSetting (n : Nat) (x1 x2 : Int32) (σ : Mm) : sem0 t_X7_setSetting cs_X7_setSetting 4 n [.inr (.inl 0), .inl x1, .inl x2] σ =
  (onI (f_X7_isSetting [.inl x1] (pk (sg0) (wr σ 0 0 0))) (fun τ1 => some (none, (put (sg0) (wr σ 0 0 0) τ1))) (fun r1 τ1 =>
  (if r1 = 0 then
    some (some (some (.inl (-2))), (put (sg0) (wr σ 0 0 0) τ1))
  else
    (onI (f_X7_leastOf [.inl x1] (pk (sg0) (put (sg0) (wr σ 0 0 0) τ1))) (fun τ2 => some (none, (put (sg0) (put (sg0) (wr σ 0 0 0) τ1) τ2))) (fun r2 τ2 =>
    (if x2 < r2 then
      some (some (some (.inl (-2))), (put (sg0) (put (sg0) (wr σ 0 0 0) τ1) τ2))
    else
      (onI (f_X7_mostOf [.inl x1] (pk (sg0) (put (sg0) (put (sg0) (wr σ 0 0 0) τ1) τ2))) (fun τ3 => some (none, (put (sg0) (put (sg0) (put (sg0) (wr σ 0 0 0) τ1) τ2) τ3))) (fun r3 τ3 =>
      (if r3 < x2 then
        some (some (some (.inl (-2))), (put (sg0) (put (sg0) (put (sg0) (wr σ 0 0 0) τ1) τ2) τ3))
      else
        (onV (f_X7_keeps [.inr (.inl 0)] (put (sg0) (put (sg0) (put (sg0) (wr σ 0 0 0) τ1) τ2) τ3)) (fun τ4 => some (none, τ4)) (fun τ4 =>
        (if inb (78 + x1) 81 = true then
        (if inb (78 + x1) 81 = true then
        some (some (some (.inl (τ4 4 (78 + x1).toNatClampNeg))), (wr τ4 4 (78 + x1).toNatClampNeg x2))
        else none)
        else none)))))))))))) := (onI_cg (fun _ => rfl) (fun r1 τ1 => (if_cg rfl (onI_cg (fun _ => rfl) (fun r2 τ2 => (if_cg rfl (onI_cg (fun _ => rfl) (fun r3 τ3 => (if_cg rfl (onV_cg (fun _ => rfl) (fun τ4 => (if_cg (if_cg rfl rfl) rfl))))))))))))
theorem e_X7_setSetting (x1 x2 : Int32) (σ : Mm) : f_X7_setSetting [.inr (.inl 0), .inl x1, .inl x2] σ = (onI (f_X7_isSetting [.inl x1] (pk (sg0) (wr σ 0 0 0))) (fun τ1 => some (none, (put (sg0) (wr σ 0 0 0) τ1))) (fun r1 τ1 => (if r1 = 0 then some (some (some (.inl (-2))), (put (sg0) (wr σ 0 0 0) τ1)) else (onI (f_X7_leastOf [.inl x1] (pk (sg0) (put (sg0) (wr σ 0 0 0) τ1))) (fun τ2 => some (none, (put (sg0) (put (sg0) (wr σ 0 0 0) τ1) τ2))) (fun r2 τ2 => (if x2 < r2 then some (some (some (.inl (-2))), (put (sg0) (put (sg0) (wr σ 0 0 0) τ1) τ2)) else (onI (f_X7_mostOf [.inl x1] (pk (sg0) (put (sg0) (put (sg0) (wr σ 0 0 0) τ1) τ2))) (fun τ3 => some (none, (put (sg0) (put (sg0) (put (sg0) (wr σ 0 0 0) τ1) τ2) τ3))) (fun r3 τ3 => (if r3 < x2 then some (some (some (.inl (-2))), (put (sg0) (put (sg0) (put (sg0) (wr σ 0 0 0) τ1) τ2) τ3)) else (onV (f_X7_keeps [.inr (.inl 0)] (put (sg0) (put (sg0) (put (sg0) (wr σ 0 0 0) τ1) τ2) τ3)) (fun τ4 => some (none, τ4)) (fun τ4 => (if inb (78 + x1) 81 = true then (if inb (78 + x1) 81 = true then some (some (some (.inl (τ4 4 (78 + x1).toNatClampNeg))), (wr τ4 4 (78 + x1).toNatClampNeg x2)) else none) else none)))))))))))) := (lock_ap _ _).trans (e0_X7_setSetting bigM x1 x2 σ)
set_option maxRecDepth 20000 in
theorem e0_X7_swap (n : Nat) (x1 x2 : Int32) (σ : Mm) : sem0 t_X7_swap cs_X7_swap 4 n [.inr (.inl 0), .inl x1, .inl x2] σ =
  (onI (f_X7_isIron [.inr (.inl 0), .inl x1] (wr σ 0 0 0)) (fun τ1 => some (none, τ1)) (fun r1 τ1 =>
  (if r1 = 0 then
    some (some (some (.inl 0)), τ1)
  else
    (onI (f_X7_isIron [.inr (.inl 0), .inl x2] τ1) (fun τ2 => some (none, τ2)) (fun r2 τ2 =>
    (if r2 = 0 then
      some (some (some (.inl 0)), τ2)
    else
      (onV (f_X7_keeps [.inr (.inl 0)] τ2) (fun τ3 => some (none, τ3)) (fun τ3 =>
      (if inb (72 + x1) 81 = true then
      (if inb (72 + x2) 81 = true then
      (if inb (72 + x1) 81 = true then
      (if inb (72 + x2) 81 = true then
      some (some (some (.inl 1)), (wr (wr τ3 4 (72 + x1).toNatClampNeg (τ3 4 (72 + x2).toNatClampNeg)) 4 (72 + x2).toNatClampNeg (τ3 4 (72 + x1).toNatClampNeg)))
      else none)
      else none)
      else none)
      else none))))))))) := (onI_cg (fun _ => rfl) (fun r1 τ1 => (if_cg rfl (onI_cg (fun _ => rfl) (fun r2 τ2 => (if_cg rfl (onV_cg (fun _ => rfl) (fun τ3 => (if_cg (if_cg (if_cg (if_cg rfl rfl) rfl) rfl) rfl)))))))))
theorem e_X7_swap (x1 x2 : Int32) (σ : Mm) : f_X7_swap [.inr (.inl 0), .inl x1, .inl x2] σ = (onI (f_X7_isIron [.inr (.inl 0), .inl x1] (wr σ 0 0 0)) (fun τ1 => some (none, τ1)) (fun r1 τ1 => (if r1 = 0 then some (some (some (.inl 0)), τ1) else (onI (f_X7_isIron [.inr (.inl 0), .inl x2] τ1) (fun τ2 => some (none, τ2)) (fun r2 τ2 => (if r2 = 0 then some (some (some (.inl 0)), τ2) else (onV (f_X7_keeps [.inr (.inl 0)] τ2) (fun τ3 => some (none, τ3)) (fun τ3 => (if inb (72 + x1) 81 = true then (if inb (72 + x2) 81 = true then (if inb (72 + x1) 81 = true then (if inb (72 + x2) 81 = true then some (some (some (.inl 1)), (wr (wr τ3 4 (72 + x1).toNatClampNeg (τ3 4 (72 + x2).toNatClampNeg)) 4 (72 + x2).toNatClampNeg (τ3 4 (72 + x1).toNatClampNeg))) else none) else none) else none) else none))))))))) := (lock_ap _ _).trans (e0_X7_swap bigM x1 x2 σ)
noncomputable def b_X7_useBestOrder_25 (n : Nat) (x1 : Int32) (σ : Mm) : Option Ou := rn t_X7_useBestOrder cs_X7_useBestOrder n 25 [(0, .inr (.inl 0)), (1, .inl x1)] [] σ
set_option maxRecDepth 20000 in
theorem e_X7_useBestOrder_25 (n : Nat) (x1 : Int32) (σ : Mm) : b_X7_useBestOrder_25 (n + 1) x1 σ =
  (if x1 < (σ 2 18) then
    (if inb x1 6 = true then
    (if inb (72 + x1) 81 = true then
    (b_X7_useBestOrder_25 n (x1 + 1) (wr σ 4 (72 + x1).toNatClampNeg (σ 21 x1.toNatClampNeg)))
    else none)
    else none)
  else
    some (some (some (.inl (σ 0 40))), σ)) := (if_cg (if_cg (if_cg rfl rfl) rfl) rfl)
set_option maxRecDepth 20000 in
theorem e0_X7_useBestOrder (n : Nat) (σ : Mm) : sem0 t_X7_useBestOrder cs_X7_useBestOrder 2 n [.inr (.inl 0)] σ =
  (onV (f_X7_tries [.inr (.inl 0)] (wr σ 0 0 0)) (fun τ1 => some (none, τ1)) (fun τ1 =>
  (if (τ1 0 40) = (-1) then
    some (some (some (.inl (-1))), τ1)
  else
    (onV (f_X7_keeps [.inr (.inl 0)] τ1) (fun τ2 => some (none, τ2)) (fun τ2 =>
    (b_X7_useBestOrder_25 n 0 τ2)))))) := (onV_cg (fun _ => rfl) (fun τ1 => (if_cg rfl (onV_cg (fun _ => rfl) (fun τ2 => rfl)))))
theorem e_X7_useBestOrder (σ : Mm) : f_X7_useBestOrder [.inr (.inl 0)] σ = (onV (f_X7_tries [.inr (.inl 0)] (wr σ 0 0 0)) (fun τ1 => some (none, τ1)) (fun τ1 => (if (τ1 0 40) = (-1) then some (some (some (.inl (-1))), τ1) else (onV (f_X7_keeps [.inr (.inl 0)] τ1) (fun τ2 => some (none, τ2)) (fun τ2 => (b_X7_useBestOrder_25 bigM 0 τ2)))))) := (lock_ap _ _).trans (e0_X7_useBestOrder bigM σ)
set_option maxRecDepth 20000 in
theorem e0_X7_setPlace (n : Nat) (x1 x2 x3 : Int32) (σ : Mm) : sem0 t_X7_setPlace cs_X7_setPlace 4 n [.inr (.inl 0), .inl x1, .inl x2, .inl x3] σ =
  (onI (f_X7_isPlace [.inr (.inl 0), .inl x1] (wr σ 0 0 0)) (fun τ1 => some (none, τ1)) (fun r1 τ1 =>
  (if r1 = 0 then
    some (some (some (.inl 0)), τ1)
  else
    (if x2 < 1 then
      some (some (some (.inl 0)), τ1)
    else
      (if 2000 < x2 then
        some (some (some (.inl 0)), τ1)
      else
        (if x3 < 100 then
          some (some (some (.inl 0)), τ1)
        else
          (if 1500 < x3 then
            some (some (some (.inl 0)), τ1)
          else
            (onV (f_X7_keeps [.inr (.inl 0)] τ1) (fun τ2 => some (none, τ2)) (fun τ2 =>
            (if inb (66 + x1) 81 = true then
            (if inb (69 + x1) 81 = true then
            some (some (some (.inl 1)), (wr (wr τ2 4 (66 + x1).toNatClampNeg x2) 4 (69 + x1).toNatClampNeg x3))
            else none)
            else none)))))))))) := (onI_cg (fun _ => rfl) (fun r1 τ1 => (if_cg rfl (if_cg rfl (if_cg rfl (if_cg rfl (if_cg rfl (onV_cg (fun _ => rfl) (fun τ2 => (if_cg (if_cg rfl rfl) rfl))))))))))
theorem e_X7_setPlace (x1 x2 x3 : Int32) (σ : Mm) : f_X7_setPlace [.inr (.inl 0), .inl x1, .inl x2, .inl x3] σ = (onI (f_X7_isPlace [.inr (.inl 0), .inl x1] (wr σ 0 0 0)) (fun τ1 => some (none, τ1)) (fun r1 τ1 => (if r1 = 0 then some (some (some (.inl 0)), τ1) else (if x2 < 1 then some (some (some (.inl 0)), τ1) else (if 2000 < x2 then some (some (some (.inl 0)), τ1) else (if x3 < 100 then some (some (some (.inl 0)), τ1) else (if 1500 < x3 then some (some (some (.inl 0)), τ1) else (onV (f_X7_keeps [.inr (.inl 0)] τ1) (fun τ2 => some (none, τ2)) (fun τ2 => (if inb (66 + x1) 81 = true then (if inb (69 + x1) 81 = true then some (some (some (.inl 1)), (wr (wr τ2 4 (66 + x1).toNatClampNeg x2) 4 (69 + x1).toNatClampNeg x3)) else none) else none)))))))))) := (lock_ap _ _).trans (e0_X7_setPlace bigM x1 x2 x3 σ)
set_option maxRecDepth 20000 in
theorem e0_X7_addStep (n : Nat) (x1 x2 x3 : Int32) (σ : Mm) : sem0 t_X7_addStep cs_X7_addStep 4 n [.inr (.inl 0), .inl x1, .inl x2, .inl x3] σ =
  (onI (f_X7_isIron [.inr (.inl 0), .inl x1] (wr σ 0 0 0)) (fun τ1 => some (none, τ1)) (fun r1 τ1 =>
  (if r1 = 0 then
    some (some (some (.inl (-1))), τ1)
  else
    (if x2 < 100 then
      some (some (some (.inl (-2))), τ1)
    else
      (if 1400 < x2 then
        some (some (some (.inl (-2))), τ1)
      else
        (if x3 < 1 then
          some (some (some (.inl (-2))), τ1)
        else
          (if 30 < x3 then
            some (some (some (.inl (-2))), τ1)
          else
            (if inb (0 + x1) 81 = true then
            (if (τ1 4 (0 + x1).toNatClampNeg) = 5 then
              some (some (some (.inl (-3))), τ1)
            else
              (onV (f_X7_keeps [.inr (.inl 0)] τ1) (fun τ2 => some (none, τ2)) (fun τ2 =>
              (onV (f_X7_adds [.inr (.inl 4), .inl x1, .inl x2, .inl x3] τ2) (fun τ3 => some (none, τ3)) (fun τ3 =>
              (if inb (0 + x1) 81 = true then
              some (some (some (.inl (τ3 4 (0 + x1).toNatClampNeg))), τ3)
              else none))))))
            else none)))))))) := (onI_cg (fun _ => rfl) (fun r1 τ1 => (if_cg rfl (if_cg rfl (if_cg rfl (if_cg rfl (if_cg rfl (if_cg (if_cg rfl (onV_cg (fun _ => rfl) (fun τ2 => (onV_cg (fun _ => rfl) (fun τ3 => (if_cg rfl rfl)))))) rfl))))))))
theorem e_X7_addStep (x1 x2 x3 : Int32) (σ : Mm) : f_X7_addStep [.inr (.inl 0), .inl x1, .inl x2, .inl x3] σ = (onI (f_X7_isIron [.inr (.inl 0), .inl x1] (wr σ 0 0 0)) (fun τ1 => some (none, τ1)) (fun r1 τ1 => (if r1 = 0 then some (some (some (.inl (-1))), τ1) else (if x2 < 100 then some (some (some (.inl (-2))), τ1) else (if 1400 < x2 then some (some (some (.inl (-2))), τ1) else (if x3 < 1 then some (some (some (.inl (-2))), τ1) else (if 30 < x3 then some (some (some (.inl (-2))), τ1) else (if inb (0 + x1) 81 = true then (if (τ1 4 (0 + x1).toNatClampNeg) = 5 then some (some (some (.inl (-3))), τ1) else (onV (f_X7_keeps [.inr (.inl 0)] τ1) (fun τ2 => some (none, τ2)) (fun τ2 => (onV (f_X7_adds [.inr (.inl 4), .inl x1, .inl x2, .inl x3] τ2) (fun τ3 => some (none, τ3)) (fun τ3 => (if inb (0 + x1) 81 = true then some (some (some (.inl (τ3 4 (0 + x1).toNatClampNeg))), τ3) else none)))))) else none)))))))) := (lock_ap _ _).trans (e0_X7_addStep bigM x1 x2 x3 σ)
set_option maxRecDepth 20000 in
theorem e0_X7_removeStep (n : Nat) (x1 : Int32) (σ : Mm) : sem0 t_X7_removeStep cs_X7_removeStep 2 n [.inr (.inl 0), .inl x1] σ =
  (onI (f_X7_isIron [.inr (.inl 0), .inl x1] (wr σ 0 0 0)) (fun τ1 => some (none, τ1)) (fun r1 τ1 =>
  (if r1 = 0 then
    some (some (some (.inl (-1))), τ1)
  else
    (if inb (0 + x1) 81 = true then
    (if (τ1 4 (0 + x1).toNatClampNeg) = 0 then
      some (some (some (.inl (-1))), τ1)
    else
      (onV (f_X7_keeps [.inr (.inl 0)] τ1) (fun τ2 => some (none, τ2)) (fun τ2 =>
      (if inb (0 + x1) 81 = true then
      (if inb (0 + x1) 81 = true then
      (if inb (0 + x1) 81 = true then
      some (some (some (.inl ((wr τ2 4 (0 + x1).toNatClampNeg ((τ2 4 (0 + x1).toNatClampNeg) - 1)) 4 (0 + x1).toNatClampNeg))), (wr τ2 4 (0 + x1).toNatClampNeg ((τ2 4 (0 + x1).toNatClampNeg) - 1)))
      else none)
      else none)
      else none))))
    else none)))) := (onI_cg (fun _ => rfl) (fun r1 τ1 => (if_cg rfl (if_cg (if_cg rfl (onV_cg (fun _ => rfl) (fun τ2 => (if_cg (if_cg (if_cg rfl rfl) rfl) rfl)))) rfl))))
theorem e_X7_removeStep (x1 : Int32) (σ : Mm) : f_X7_removeStep [.inr (.inl 0), .inl x1] σ = (onI (f_X7_isIron [.inr (.inl 0), .inl x1] (wr σ 0 0 0)) (fun τ1 => some (none, τ1)) (fun r1 τ1 => (if r1 = 0 then some (some (some (.inl (-1))), τ1) else (if inb (0 + x1) 81 = true then (if (τ1 4 (0 + x1).toNatClampNeg) = 0 then some (some (some (.inl (-1))), τ1) else (onV (f_X7_keeps [.inr (.inl 0)] τ1) (fun τ2 => some (none, τ2)) (fun τ2 => (if inb (0 + x1) 81 = true then (if inb (0 + x1) 81 = true then (if inb (0 + x1) 81 = true then some (some (some (.inl ((wr τ2 4 (0 + x1).toNatClampNeg ((τ2 4 (0 + x1).toNatClampNeg) - 1)) 4 (0 + x1).toNatClampNeg))), (wr τ2 4 (0 + x1).toNatClampNeg ((τ2 4 (0 + x1).toNatClampNeg) - 1))) else none) else none) else none)))) else none)))) := (lock_ap _ _).trans (e0_X7_removeStep bigM x1 σ)
