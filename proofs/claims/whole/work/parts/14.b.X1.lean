noncomputable def t_X1_forget : Tbl := [(0, s_al 1 0),
  (1, s_ic 2 0),
  (2, s_pf 5 layC 1 2),
  (5, s_vr)]
def cs_X1_forget : Cs := []
noncomputable def f_X1_forget : List Vv → Mm → Option Ou := lock (sem t_X1_forget cs_X1_forget 1)
set_option maxRecDepth 20000 in
theorem ok_X1_forget (l : Launch) : Ok l RX1 cX1_forget 1 1 none layC t_X1_forget :=
  Ok.cons (so_aload_n dX1_forget_0 rfl rfl) <|
  Ok.cons (so_iconst dX1_forget_1 (by decide) rfl) <|
  Ok.cons (so_pf (C := RX1) (T := TX1) (N := 3) inGX1 tyX1_ok nmX1 rfl (by decide) wq_200 rfl rfl rfl dX1_forget_2 rfl) <|
  Ok.cons (so_vr rfl dX1_forget_5) <| Ok.nil
theorem ct_X1_forget (l : Launch) : Ct l yX1_forget cX1_forget 1 none 1 layC f_X1_forget := ofRunL (by decide) rfl (ok_X1_forget l)
