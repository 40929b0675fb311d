set_option maxRecDepth 20000 in
theorem e0_X1_forget (n : Nat) (σ : Mm) : sem0 t_X1_forget cs_X1_forget 1 n [.inr (.inl 0)] σ =
  some (some none, (wr σ 0 2 0)) := rfl
theorem e_X1_forget (σ : Mm) : f_X1_forget [.inr (.inl 0)] σ = some (some none, (wr σ 0 2 0)) := (lock_ap _ _).trans (e0_X1_forget bigM σ)
