noncomputable def t_X6_isWithin : Tbl := [(0, s_il 1 0),
  (1, s_il 2 1),
  (2, s_clt 5 14),
  (5, s_il 6 0),
  (6, s_il 7 2),
  (7, s_cgt 10 14),
  (10, s_ic 11 1),
  (11, s_go 15),
  (14, s_ic 15 0),
  (15, s_zr)]
def cs_X6_isWithin : Cs := []
noncomputable def f_X6_isWithin : List Vv → Mm → Option Ou := lock (sem t_X6_isWithin cs_X6_isWithin 3)
set_option maxRecDepth 20000 in
theorem ok_X6_isWithin (l : Launch) : Ok l RX6 cX6_isWithin 3 1 (some .boolean) lay0 t_X6_isWithin :=
  Ok.cons (so_iload_n dX6_isWithin_0 rfl rfl) <|
  Ok.cons (so_iload_n dX6_isWithin_1 rfl rfl) <|
  Ok.cons (so_clt dX6_isWithin_2 (by decide) rfl) <|
  Ok.cons (so_iload_n dX6_isWithin_5 rfl rfl) <|
  Ok.cons (so_iload_n dX6_isWithin_6 rfl rfl) <|
  Ok.cons (so_cgt dX6_isWithin_7 (by decide) rfl) <|
  Ok.cons (so_iconst dX6_isWithin_10 (by decide) rfl) <|
  Ok.cons (so_goto dX6_isWithin_11 (by decide)) <|
  Ok.cons (so_iconst dX6_isWithin_14 (by decide) rfl) <|
  Ok.cons (so_zr rfl dX6_isWithin_15) <| Ok.nil
theorem ct_X6_isWithin (l : Launch) : Ct l yX6_isWithin cX6_isWithin 3 (some .boolean) 1 lay0 f_X6_isWithin := ofRunL (by decide) rfl (ok_X6_isWithin l)
noncomputable def t_X6_isMinute : Tbl := [(0, s_il 1 0),
  (1, s_ic 2 0),
  (2, s_ic 5 479),
  (5, s_ci0 false 8 3 f_X6_isWithin),
  (8, s_zr)]
def cs_X6_isMinute : Cs := []
noncomputable def f_X6_isMinute : List Vv → Mm → Option Ou := lock (sem t_X6_isMinute cs_X6_isMinute 1)
set_option maxRecDepth 20000 in
theorem ok_X6_isMinute (l : Launch) : Ok l RX6 cX6_isMinute 1 2 (some .boolean) lay0 t_X6_isMinute :=
  Ok.cons (so_iload_n dX6_isMinute_0 rfl rfl) <|
  Ok.cons (so_iconst dX6_isMinute_1 (by decide) rfl) <|
  Ok.cons (so_sipush dX6_isMinute_2 (by decide) rfl) <|
  Ok.cons (so_si0 (ct_X6_isWithin l) wq_398 wq_396 wq_397 wq_87 (by decide +kernel) (by decide) dX6_isMinute_5 rfl) <|
  Ok.cons (so_zr rfl dX6_isMinute_8) <| Ok.nil
theorem ct_X6_isMinute (l : Launch) : Ct l yX6_isMinute cX6_isMinute 1 (some .boolean) 2 lay0 f_X6_isMinute := ofRunL (by decide) rfl (ok_X6_isMinute l)
noncomputable def t_X6_isSetting : Tbl := [(0, s_il 1 0),
  (1, s_ic 2 0),
  (2, s_ic 3 2),
  (3, s_ci0 false 6 3 f_X6_isWithin),
  (6, s_zr)]
def cs_X6_isSetting : Cs := []
noncomputable def f_X6_isSetting : List Vv → Mm → Option Ou := lock (sem t_X6_isSetting cs_X6_isSetting 1)
set_option maxRecDepth 20000 in
theorem ok_X6_isSetting (l : Launch) : Ok l RX6 cX6_isSetting 1 2 (some .boolean) lay0 t_X6_isSetting :=
  Ok.cons (so_iload_n dX6_isSetting_0 rfl rfl) <|
  Ok.cons (so_iconst dX6_isSetting_1 (by decide) rfl) <|
  Ok.cons (so_iconst dX6_isSetting_2 (by decide) rfl) <|
  Ok.cons (so_si0 (ct_X6_isWithin l) wq_398 wq_396 wq_397 wq_87 (by decide +kernel) (by decide) dX6_isSetting_3 rfl) <|
  Ok.cons (so_zr rfl dX6_isSetting_6) <| Ok.nil
theorem ct_X6_isSetting (l : Launch) : Ct l yX6_isSetting cX6_isSetting 1 (some .boolean) 2 lay0 f_X6_isSetting := ofRunL (by decide) rfl (ok_X6_isSetting l)
noncomputable def t_X6_isSettingValue : Tbl := [(0, s_il 1 0),
  (1, s_ci0 false 4 1 f_X6_isSetting),
  (4, s_zeq 7 28),
  (7, s_il 8 1),
  (8, s_gs 11 0),
  (11, s_il 12 0),
  (12, s_ia 13 lay0 0),
  (13, s_gs 16 1),
  (16, s_il 17 0),
  (17, s_ia 18 lay0 0),
  (18, s_ci0 false 21 3 f_X6_isWithin),
  (21, s_zeq 24 28),
  (24, s_ic 25 1),
  (25, s_go 29),
  (28, s_ic 29 0),
  (29, s_zr)]
def cs_X6_isSettingValue : Cs := []
noncomputable def f_X6_isSettingValue : List Vv → Mm → Option Ou := lock (sem t_X6_isSettingValue cs_X6_isSettingValue 2)
set_option maxRecDepth 20000 in
theorem ok_X6_isSettingValue (l : Launch) : Ok l RX6 cX6_isSettingValue 2 3 (some .boolean) lay0 t_X6_isSettingValue :=
  Ok.cons (so_iload_n dX6_isSettingValue_0 rfl rfl) <|
  Ok.cons (so_si0 (ct_X6_isSetting l) wq_533 wq_531 wq_532 wq_87 (by decide +kernel) (by decide) dX6_isSettingValue_1 rfl) <|
  Ok.cons (so_zeq dX6_isSettingValue_4 (by decide) rfl) <|
  Ok.cons (so_iload_n dX6_isSettingValue_7 rfl rfl) <|
  Ok.cons (so_gs wq_697 dX6_isSettingValue_8 rfl) <|
  Ok.cons (so_iload_n dX6_isSettingValue_11 rfl rfl) <|
  Ok.cons (so_ia0 dX6_isSettingValue_12 rfl) <|
  Ok.cons (so_gs wq_698 dX6_isSettingValue_13 rfl) <|
  Ok.cons (so_iload_n dX6_isSettingValue_16 rfl rfl) <|
  Ok.cons (so_ia0 dX6_isSettingValue_17 rfl) <|
  Ok.cons (so_si0 (ct_X6_isWithin l) wq_398 wq_396 wq_397 wq_87 (by decide +kernel) (by decide) dX6_isSettingValue_18 rfl) <|
  Ok.cons (so_zeq dX6_isSettingValue_21 (by decide) rfl) <|
  Ok.cons (so_iconst dX6_isSettingValue_24 (by decide) rfl) <|
  Ok.cons (so_goto dX6_isSettingValue_25 (by decide)) <|
  Ok.cons (so_iconst dX6_isSettingValue_28 (by decide) rfl) <|
  Ok.cons (so_zr rfl dX6_isSettingValue_29) <| Ok.nil
theorem ct_X6_isSettingValue (l : Launch) : Ct l yX6_isSettingValue cX6_isSettingValue 2 (some .boolean) 3 lay0 f_X6_isSettingValue := ofRunL (by decide) rfl (ok_X6_isSettingValue l)
