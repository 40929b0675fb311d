noncomputable def t_X2_clear : Tbl := [(0, s_al 1 0),
  (1, s_ic 2 0),
  (2, s_pf 5 layF 2 0),
  (5, s_al 6 0),
  (6, s_ic 7 0),
  (7, s_pf 10 layF 2 1),
  (10, s_gs 13 2),
  (13, s_ic 14 0),
  (14, s_al 15 0),
  (15, s_gf 18 layF 2 10),
  (18, s_ic 19 0),
  (19, s_ic 20 3),
  (20, s_cps 23 layF),
  (23, s_vr)]
def cs_X2_clear : Cs := []
noncomputable def f_X2_clear : List Vv → Mm → Option Ou := lock (sem t_X2_clear cs_X2_clear 1)
set_option maxRecDepth 20000 in
theorem ok_X2_clear (l : Launch) : Ok l RX2 cX2_clear 1 1 none layF t_X2_clear :=
  Ok.cons (so_aload_n dX2_clear_0 rfl rfl) <|
  Ok.cons (so_iconst dX2_clear_1 (by decide) rfl) <|
  Ok.cons (so_pf (C := RX2) (T := TX2) (N := 12) inGX2 tyX2_ok nmX2 rfl (by decide) wq_124 rfl rfl rfl dX2_clear_2 rfl) <|
  Ok.cons (so_aload_n dX2_clear_5 rfl rfl) <|
  Ok.cons (so_iconst dX2_clear_6 (by decide) rfl) <|
  Ok.cons (so_pf (C := RX2) (T := TX2) (N := 12) inGX2 tyX2_ok nmX2 rfl (by decide) wq_130 rfl rfl rfl dX2_clear_7 rfl) <|
  Ok.cons (so_gsn (fun U h => h.1) dX2_clear_10 rfl) <|
  Ok.cons (so_iconst dX2_clear_13 (by decide) rfl) <|
  Ok.cons (so_aload_n dX2_clear_14 rfl rfl) <|
  Ok.cons (so_gf (C := RX2) (T := TX2) (N := 12) inGX2 rfl (by decide) wq_155 rfl dX2_clear_15 rfl) <|
  Ok.cons (so_iconst dX2_clear_18 (by decide) rfl) <|
  Ok.cons (so_iconst dX2_clear_19 (by decide) rfl) <|
  Ok.cons (so_cps (by decide) wq_121 wq_123 wq_122 wq_89 dX2_clear_20 rfl) <|
  Ok.cons (so_vr rfl dX2_clear_23) <| Ok.nil
theorem ct_X2_clear (l : Launch) : Ct l yX2_clear cX2_clear 1 none 1 layF f_X2_clear := ofRunL (by decide) rfl (ok_X2_clear l)
noncomputable def t_X2_copyFrom : Tbl := [(0, s_al 1 0),
  (1, s_al 2 1),
  (2, s_gf 5 layFF 2 0),
  (5, s_pf 8 layFF 2 0),
  (8, s_al 9 0),
  (9, s_al 10 1),
  (10, s_gf 13 layFF 2 1),
  (13, s_pf 16 layFF 2 1),
  (16, s_al 17 1),
  (17, s_gf 20 layFF 2 2),
  (20, s_ic 21 0),
  (21, s_al 22 0),
  (22, s_gf 25 layFF 2 2),
  (25, s_ic 26 0),
  (26, s_ic 28 6),
  (28, s_cp 31 layFF),
  (31, s_al 32 1),
  (32, s_gf 35 layFF 2 3),
  (35, s_ic 36 0),
  (36, s_al 37 0),
  (37, s_gf 40 layFF 2 3),
  (40, s_ic 41 0),
  (41, s_ic 43 6),
  (43, s_cp 46 layFF),
  (46, s_al 47 1),
  (47, s_gf 50 layFF 2 4),
  (50, s_ic 51 0),
  (51, s_al 52 0),
  (52, s_gf 55 layFF 2 4),
  (55, s_ic 56 0),
  (56, s_ic 58 6),
  (58, s_cp 61 layFF),
  (61, s_al 62 1),
  (62, s_gf 65 layFF 2 5),
  (65, s_ic 66 0),
  (66, s_al 67 0),
  (67, s_gf 70 layFF 2 5),
  (70, s_ic 71 0),
  (71, s_ic 73 6),
  (73, s_cp 76 layFF),
  (76, s_al 77 1),
  (77, s_gf 80 layFF 2 6),
  (80, s_ic 81 0),
  (81, s_al 82 0),
  (82, s_gf 85 layFF 2 6),
  (85, s_ic 86 0),
  (86, s_ic 88 30),
  (88, s_cp 91 layFF),
  (91, s_al 92 1),
  (92, s_gf 95 layFF 2 7),
  (95, s_ic 96 0),
  (96, s_al 97 0),
  (97, s_gf 100 layFF 2 7),
  (100, s_ic 101 0),
  (101, s_ic 103 30),
  (103, s_cp 106 layFF),
  (106, s_al 107 1),
  (107, s_gf 110 layFF 2 8),
  (110, s_ic 111 0),
  (111, s_al 112 0),
  (112, s_gf 115 layFF 2 8),
  (115, s_ic 116 0),
  (116, s_ic 117 3),
  (117, s_cp 120 layFF),
  (120, s_al 121 1),
  (121, s_gf 124 layFF 2 9),
  (124, s_ic 125 0),
  (125, s_al 126 0),
  (126, s_gf 129 layFF 2 9),
  (129, s_ic 130 0),
  (130, s_ic 131 3),
  (131, s_cp 134 layFF),
  (134, s_al 135 1),
  (135, s_gf 138 layFF 2 10),
  (138, s_ic 139 0),
  (139, s_al 140 0),
  (140, s_gf 143 layFF 2 10),
  (143, s_ic 144 0),
  (144, s_ic 145 3),
  (145, s_cp 148 layFF),
  (148, s_al 149 1),
  (149, s_gf 152 layFF 2 11),
  (152, s_ic 153 0),
  (153, s_al 154 0),
  (154, s_gf 157 layFF 2 11),
  (157, s_ic 158 0),
  (158, s_ic 160 6),
  (160, s_cp 163 layFF),
  (163, s_vr)]
def cs_X2_copyFrom : Cs := []
noncomputable def f_X2_copyFrom : List Vv → Mm → Option Ou := lock (sem t_X2_copyFrom cs_X2_copyFrom 2)
set_option maxRecDepth 20000 in
theorem ok_X2_copyFrom (l : Launch) : Ok l RX2 cX2_copyFrom 2 1 none layFF t_X2_copyFrom :=
  Ok.cons (so_aload_n dX2_copyFrom_0 rfl rfl) <|
  Ok.cons (so_aload_n dX2_copyFrom_1 rfl rfl) <|
  Ok.cons (so_gf (C := RX2) (T := TX2) (N := 12) inGX2 rfl (by decide) wq_124 rfl dX2_copyFrom_2 rfl) <|
  Ok.cons (so_pf (C := RX2) (T := TX2) (N := 12) inGX2 tyX2_ok nmX2 rfl (by decide) wq_124 rfl rfl rfl dX2_copyFrom_5 rfl) <|
  Ok.cons (so_aload_n dX2_copyFrom_8 rfl rfl) <|
  Ok.cons (so_aload_n dX2_copyFrom_9 rfl rfl) <|
  Ok.cons (so_gf (C := RX2) (T := TX2) (N := 12) inGX2 rfl (by decide) wq_130 rfl dX2_copyFrom_10 rfl) <|
  Ok.cons (so_pf (C := RX2) (T := TX2) (N := 12) inGX2 tyX2_ok nmX2 rfl (by decide) wq_130 rfl rfl rfl dX2_copyFrom_13 rfl) <|
  Ok.cons (so_aload_n dX2_copyFrom_16 rfl rfl) <|
  Ok.cons (so_gf (C := RX2) (T := TX2) (N := 12) inGX2 rfl (by decide) wq_134 rfl dX2_copyFrom_17 rfl) <|
  Ok.cons (so_iconst dX2_copyFrom_20 (by decide) rfl) <|
  Ok.cons (so_aload_n dX2_copyFrom_21 rfl rfl) <|
  Ok.cons (so_gf (C := RX2) (T := TX2) (N := 12) inGX2 rfl (by decide) wq_134 rfl dX2_copyFrom_22 rfl) <|
  Ok.cons (so_iconst dX2_copyFrom_25 (by decide) rfl) <|
  Ok.cons (so_bipush dX2_copyFrom_26 (by decide) rfl) <|
  Ok.cons (so_cp (by decide) wq_121 wq_123 wq_122 wq_89 dX2_copyFrom_28 rfl) <|
  Ok.cons (so_aload_n dX2_copyFrom_31 rfl rfl) <|
  Ok.cons (so_gf (C := RX2) (T := TX2) (N := 12) inGX2 rfl (by decide) wq_135 rfl dX2_copyFrom_32 rfl) <|
  Ok.cons (so_iconst dX2_copyFrom_35 (by decide) rfl) <|
  Ok.cons (so_aload_n dX2_copyFrom_36 rfl rfl) <|
  Ok.cons (so_gf (C := RX2) (T := TX2) (N := 12) inGX2 rfl (by decide) wq_135 rfl dX2_copyFrom_37 rfl) <|
  Ok.cons (so_iconst dX2_copyFrom_40 (by decide) rfl) <|
  Ok.cons (so_bipush dX2_copyFrom_41 (by decide) rfl) <|
  Ok.cons (so_cp (by decide) wq_121 wq_123 wq_122 wq_89 dX2_copyFrom_43 rfl) <|
  Ok.cons (so_aload_n dX2_copyFrom_46 rfl rfl) <|
  Ok.cons (so_gf (C := RX2) (T := TX2) (N := 12) inGX2 rfl (by decide) wq_138 rfl dX2_copyFrom_47 rfl) <|
  Ok.cons (so_iconst dX2_copyFrom_50 (by decide) rfl) <|
  Ok.cons (so_aload_n dX2_copyFrom_51 rfl rfl) <|
  Ok.cons (so_gf (C := RX2) (T := TX2) (N := 12) inGX2 rfl (by decide) wq_138 rfl dX2_copyFrom_52 rfl) <|
  Ok.cons (so_iconst dX2_copyFrom_55 (by decide) rfl) <|
  Ok.cons (so_bipush dX2_copyFrom_56 (by decide) rfl) <|
  Ok.cons (so_cp (by decide) wq_121 wq_123 wq_122 wq_89 dX2_copyFrom_58 rfl) <|
  Ok.cons (so_aload_n dX2_copyFrom_61 rfl rfl) <|
  Ok.cons (so_gf (C := RX2) (T := TX2) (N := 12) inGX2 rfl (by decide) wq_141 rfl dX2_copyFrom_62 rfl) <|
  Ok.cons (so_iconst dX2_copyFrom_65 (by decide) rfl) <|
  Ok.cons (so_aload_n dX2_copyFrom_66 rfl rfl) <|
  Ok.cons (so_gf (C := RX2) (T := TX2) (N := 12) inGX2 rfl (by decide) wq_141 rfl dX2_copyFrom_67 rfl) <|
  Ok.cons (so_iconst dX2_copyFrom_70 (by decide) rfl) <|
  Ok.cons (so_bipush dX2_copyFrom_71 (by decide) rfl) <|
  Ok.cons (so_cp (by decide) wq_121 wq_123 wq_122 wq_89 dX2_copyFrom_73 rfl) <|
  Ok.cons (so_aload_n dX2_copyFrom_76 rfl rfl) <|
  Ok.cons (so_gf (C := RX2) (T := TX2) (N := 12) inGX2 rfl (by decide) wq_145 rfl dX2_copyFrom_77 rfl) <|
  Ok.cons (so_iconst dX2_copyFrom_80 (by decide) rfl) <|
  Ok.cons (so_aload_n dX2_copyFrom_81 rfl rfl) <|
  Ok.cons (so_gf (C := RX2) (T := TX2) (N := 12) inGX2 rfl (by decide) wq_145 rfl dX2_copyFrom_82 rfl) <|
  Ok.cons (so_iconst dX2_copyFrom_85 (by decide) rfl) <|
  Ok.cons (so_bipush dX2_copyFrom_86 (by decide) rfl) <|
  Ok.cons (so_cp (by decide) wq_121 wq_123 wq_122 wq_89 dX2_copyFrom_88 rfl) <|
  Ok.cons (so_aload_n dX2_copyFrom_91 rfl rfl) <|
  Ok.cons (so_gf (C := RX2) (T := TX2) (N := 12) inGX2 rfl (by decide) wq_147 rfl dX2_copyFrom_92 rfl) <|
  Ok.cons (so_iconst dX2_copyFrom_95 (by decide) rfl) <|
  Ok.cons (so_aload_n dX2_copyFrom_96 rfl rfl) <|
  Ok.cons (so_gf (C := RX2) (T := TX2) (N := 12) inGX2 rfl (by decide) wq_147 rfl dX2_copyFrom_97 rfl) <|
  Ok.cons (so_iconst dX2_copyFrom_100 (by decide) rfl) <|
  Ok.cons (so_bipush dX2_copyFrom_101 (by decide) rfl) <|
  Ok.cons (so_cp (by decide) wq_121 wq_123 wq_122 wq_89 dX2_copyFrom_103 rfl) <|
  Ok.cons (so_aload_n dX2_copyFrom_106 rfl rfl) <|
  Ok.cons (so_gf (C := RX2) (T := TX2) (N := 12) inGX2 rfl (by decide) wq_149 rfl dX2_copyFrom_107 rfl) <|
  Ok.cons (so_iconst dX2_copyFrom_110 (by decide) rfl) <|
  Ok.cons (so_aload_n dX2_copyFrom_111 rfl rfl) <|
  Ok.cons (so_gf (C := RX2) (T := TX2) (N := 12) inGX2 rfl (by decide) wq_149 rfl dX2_copyFrom_112 rfl) <|
  Ok.cons (so_iconst dX2_copyFrom_115 (by decide) rfl) <|
  Ok.cons (so_iconst dX2_copyFrom_116 (by decide) rfl) <|
  Ok.cons (so_cp (by decide) wq_121 wq_123 wq_122 wq_89 dX2_copyFrom_117 rfl) <|
  Ok.cons (so_aload_n dX2_copyFrom_120 rfl rfl) <|
  Ok.cons (so_gf (C := RX2) (T := TX2) (N := 12) inGX2 rfl (by decide) wq_152 rfl dX2_copyFrom_121 rfl) <|
  Ok.cons (so_iconst dX2_copyFrom_124 (by decide) rfl) <|
  Ok.cons (so_aload_n dX2_copyFrom_125 rfl rfl) <|
  Ok.cons (so_gf (C := RX2) (T := TX2) (N := 12) inGX2 rfl (by decide) wq_152 rfl dX2_copyFrom_126 rfl) <|
  Ok.cons (so_iconst dX2_copyFrom_129 (by decide) rfl) <|
  Ok.cons (so_iconst dX2_copyFrom_130 (by decide) rfl) <|
  Ok.cons (so_cp (by decide) wq_121 wq_123 wq_122 wq_89 dX2_copyFrom_131 rfl) <|
  Ok.cons (so_aload_n dX2_copyFrom_134 rfl rfl) <|
  Ok.cons (so_gf (C := RX2) (T := TX2) (N := 12) inGX2 rfl (by decide) wq_155 rfl dX2_copyFrom_135 rfl) <|
  Ok.cons (so_iconst dX2_copyFrom_138 (by decide) rfl) <|
  Ok.cons (so_aload_n dX2_copyFrom_139 rfl rfl) <|
  Ok.cons (so_gf (C := RX2) (T := TX2) (N := 12) inGX2 rfl (by decide) wq_155 rfl dX2_copyFrom_140 rfl) <|
  Ok.cons (so_iconst dX2_copyFrom_143 (by decide) rfl) <|
  Ok.cons (so_iconst dX2_copyFrom_144 (by decide) rfl) <|
  Ok.cons (so_cp (by decide) wq_121 wq_123 wq_122 wq_89 dX2_copyFrom_145 rfl) <|
  Ok.cons (so_aload_n dX2_copyFrom_148 rfl rfl) <|
  Ok.cons (so_gf (C := RX2) (T := TX2) (N := 12) inGX2 rfl (by decide) wq_160 rfl dX2_copyFrom_149 rfl) <|
  Ok.cons (so_iconst dX2_copyFrom_152 (by decide) rfl) <|
  Ok.cons (so_aload_n dX2_copyFrom_153 rfl rfl) <|
  Ok.cons (so_gf (C := RX2) (T := TX2) (N := 12) inGX2 rfl (by decide) wq_160 rfl dX2_copyFrom_154 rfl) <|
  Ok.cons (so_iconst dX2_copyFrom_157 (by decide) rfl) <|
  Ok.cons (so_bipush dX2_copyFrom_158 (by decide) rfl) <|
  Ok.cons (so_cp (by decide) wq_121 wq_123 wq_122 wq_89 dX2_copyFrom_160 rfl) <|
  Ok.cons (so_vr rfl dX2_copyFrom_163) <| Ok.nil
theorem ct_X2_copyFrom (l : Launch) : Ct l yX2_copyFrom cX2_copyFrom 2 none 1 layFF f_X2_copyFrom := ofRunL (by decide) rfl (ok_X2_copyFrom l)
noncomputable def t_X2_heatOfStep : Tbl := [(0, s_al 1 0),
  (1, s_gf 4 layF 2 6),
  (4, s_il 5 1),
  (5, s_ic 6 5),
  (6, s_b 7 (fun x y => x * y)),
  (7, s_il 8 2),
  (8, s_b 9 (fun x y => x + y)),
  (9, s_ia 10 layF 0),
  (10, s_ir)]
def cs_X2_heatOfStep : Cs := []
noncomputable def f_X2_heatOfStep : List Vv → Mm → Option Ou := lock (sem t_X2_heatOfStep cs_X2_heatOfStep 3)
set_option maxRecDepth 20000 in
theorem ok_X2_heatOfStep (l : Launch) : Ok l RX2 cX2_heatOfStep 3 1 (some .int) layF t_X2_heatOfStep :=
  Ok.cons (so_aload_n dX2_heatOfStep_0 rfl rfl) <|
  Ok.cons (so_gf (C := RX2) (T := TX2) (N := 12) inGX2 rfl (by decide) wq_145 rfl dX2_heatOfStep_1 rfl) <|
  Ok.cons (so_iload_n dX2_heatOfStep_4 rfl rfl) <|
  Ok.cons (so_iconst dX2_heatOfStep_5 (by decide) rfl) <|
  Ok.cons (so_imul dX2_heatOfStep_6 rfl) <|
  Ok.cons (so_iload_n dX2_heatOfStep_7 rfl rfl) <|
  Ok.cons (so_iadd dX2_heatOfStep_8 rfl) <|
  Ok.cons (so_ia0 dX2_heatOfStep_9 rfl) <|
  Ok.cons (so_ir rfl dX2_heatOfStep_10) <| Ok.nil
theorem ct_X2_heatOfStep (l : Launch) : Ct l yX2_heatOfStep cX2_heatOfStep 3 (some .int) 1 layF f_X2_heatOfStep := ofRunL (by decide) rfl (ok_X2_heatOfStep l)
noncomputable def t_X2_minutesOfStep : Tbl := [(0, s_al 1 0),
  (1, s_gf 4 layF 2 7),
  (4, s_il 5 1),
  (5, s_ic 6 5),
  (6, s_b 7 (fun x y => x * y)),
  (7, s_il 8 2),
  (8, s_b 9 (fun x y => x + y)),
  (9, s_ia 10 layF 0),
  (10, s_ir)]
def cs_X2_minutesOfStep : Cs := []
noncomputable def f_X2_minutesOfStep : List Vv → Mm → Option Ou := lock (sem t_X2_minutesOfStep cs_X2_minutesOfStep 3)
set_option maxRecDepth 20000 in
theorem ok_X2_minutesOfStep (l : Launch) : Ok l RX2 cX2_minutesOfStep 3 1 (some .int) layF t_X2_minutesOfStep :=
  Ok.cons (so_aload_n dX2_minutesOfStep_0 rfl rfl) <|
  Ok.cons (so_gf (C := RX2) (T := TX2) (N := 12) inGX2 rfl (by decide) wq_147 rfl dX2_minutesOfStep_1 rfl) <|
  Ok.cons (so_iload_n dX2_minutesOfStep_4 rfl rfl) <|
  Ok.cons (so_iconst dX2_minutesOfStep_5 (by decide) rfl) <|
  Ok.cons (so_imul dX2_minutesOfStep_6 rfl) <|
  Ok.cons (so_iload_n dX2_minutesOfStep_7 rfl rfl) <|
  Ok.cons (so_iadd dX2_minutesOfStep_8 rfl) <|
  Ok.cons (so_ia0 dX2_minutesOfStep_9 rfl) <|
  Ok.cons (so_ir rfl dX2_minutesOfStep_10) <| Ok.nil
theorem ct_X2_minutesOfStep (l : Launch) : Ct l yX2_minutesOfStep cX2_minutesOfStep 3 (some .int) 1 layF f_X2_minutesOfStep := ofRunL (by decide) rfl (ok_X2_minutesOfStep l)
noncomputable def t_X2_minutesOfWork : Tbl := [(0, s_ic 1 0),
  (1, s_is 2 2),
  (2, s_ic 3 0),
  (3, s_is 4 3),
  (4, s_il 5 3),
  (5, s_al 6 0),
  (6, s_gf 9 layF 2 5),
  (9, s_il 10 1),
  (10, s_ia 11 layF 0),
  (11, s_cge 14 33),
  (14, s_il 15 2),
  (15, s_al 16 0),
  (16, s_gf 19 layF 2 7),
  (19, s_il 20 1),
  (20, s_ic 21 5),
  (21, s_b 22 (fun x y => x * y)),
  (22, s_il 23 3),
  (23, s_b 24 (fun x y => x + y)),
  (24, s_ia 25 layF 0),
  (25, s_b 26 (fun x y => x + y)),
  (26, s_is 27 2),
  (27, s_in 30 3 1),
  (30, s_go 4),
  (33, s_il 34 2),
  (34, s_ir)]
def cs_X2_minutesOfWork : Cs := [(4, [0, 1, 2, 3])]
noncomputable def f_X2_minutesOfWork : List Vv → Mm → Option Ou := lock (sem t_X2_minutesOfWork cs_X2_minutesOfWork 4)
set_option maxRecDepth 20000 in
theorem ok_X2_minutesOfWork (l : Launch) : Ok l RX2 cX2_minutesOfWork 4 1 (some .int) layF t_X2_minutesOfWork :=
  Ok.cons (so_iconst dX2_minutesOfWork_0 (by decide) rfl) <|
  Ok.cons (so_istore_n dX2_minutesOfWork_1 rfl (by decide) rfl) <|
  Ok.cons (so_iconst dX2_minutesOfWork_2 (by decide) rfl) <|
  Ok.cons (so_istore_n dX2_minutesOfWork_3 rfl (by decide) rfl) <|
  Ok.cons (so_iload_n dX2_minutesOfWork_4 rfl rfl) <|
  Ok.cons (so_aload_n dX2_minutesOfWork_5 rfl rfl) <|
  Ok.cons (so_gf (C := RX2) (T := TX2) (N := 12) inGX2 rfl (by decide) wq_141 rfl dX2_minutesOfWork_6 rfl) <|
  Ok.cons (so_iload_n dX2_minutesOfWork_9 rfl rfl) <|
  Ok.cons (so_ia0 dX2_minutesOfWork_10 rfl) <|
  Ok.cons (so_cge dX2_minutesOfWork_11 (by decide) rfl) <|
  Ok.cons (so_iload_n dX2_minutesOfWork_14 rfl rfl) <|
  Ok.cons (so_aload_n dX2_minutesOfWork_15 rfl rfl) <|
  Ok.cons (so_gf (C := RX2) (T := TX2) (N := 12) inGX2 rfl (by decide) wq_147 rfl dX2_minutesOfWork_16 rfl) <|
  Ok.cons (so_iload_n dX2_minutesOfWork_19 rfl rfl) <|
  Ok.cons (so_iconst dX2_minutesOfWork_20 (by decide) rfl) <|
  Ok.cons (so_imul dX2_minutesOfWork_21 rfl) <|
  Ok.cons (so_iload_n dX2_minutesOfWork_22 rfl rfl) <|
  Ok.cons (so_iadd dX2_minutesOfWork_23 rfl) <|
  Ok.cons (so_ia0 dX2_minutesOfWork_24 rfl) <|
  Ok.cons (so_iadd dX2_minutesOfWork_25 rfl) <|
  Ok.cons (so_istore_n dX2_minutesOfWork_26 rfl (by decide) rfl) <|
  Ok.cons (so_iinc dX2_minutesOfWork_27 (by decide) (by decide) rfl) <|
  Ok.cons (so_goto dX2_minutesOfWork_30 (by decide)) <|
  Ok.cons (so_iload_n dX2_minutesOfWork_33 rfl rfl) <|
  Ok.cons (so_ir rfl dX2_minutesOfWork_34) <| Ok.nil
theorem ct_X2_minutesOfWork (l : Launch) : Ct l yX2_minutesOfWork cX2_minutesOfWork 4 (some .int) 1 layF f_X2_minutesOfWork := ofRunL (by decide) rfl (ok_X2_minutesOfWork l)
noncomputable def t_X2_findName : Tbl := [(0, s_ic 1 0),
  (1, s_is 2 2),
  (2, s_il 3 2),
  (3, s_al 4 0),
  (4, s_gf 7 layF 2 0),
  (7, s_cge 10 28),
  (10, s_al 11 0),
  (11, s_gf 14 layF 2 2),
  (14, s_il 15 2),
  (15, s_ia 16 layF 0),
  (16, s_il 17 1),
  (17, s_cne 20 22),
  (20, s_il 21 2),
  (21, s_ir),
  (22, s_in 25 2 1),
  (25, s_go 2),
  (28, s_ic 29 (-1)),
  (29, s_ir)]
def cs_X2_findName : Cs := [(2, [0, 1, 2])]
noncomputable def f_X2_findName : List Vv → Mm → Option Ou := lock (sem t_X2_findName cs_X2_findName 3)
set_option maxRecDepth 20000 in
theorem ok_X2_findName (l : Launch) : Ok l RX2 cX2_findName 3 1 (some .int) layF t_X2_findName :=
  Ok.cons (so_iconst dX2_findName_0 (by decide) rfl) <|
  Ok.cons (so_istore_n dX2_findName_1 rfl (by decide) rfl) <|
  Ok.cons (so_iload_n dX2_findName_2 rfl rfl) <|
  Ok.cons (so_aload_n dX2_findName_3 rfl rfl) <|
  Ok.cons (so_gf (C := RX2) (T := TX2) (N := 12) inGX2 rfl (by decide) wq_124 rfl dX2_findName_4 rfl) <|
  Ok.cons (so_cge dX2_findName_7 (by decide) rfl) <|
  Ok.cons (so_aload_n dX2_findName_10 rfl rfl) <|
  Ok.cons (so_gf (C := RX2) (T := TX2) (N := 12) inGX2 rfl (by decide) wq_134 rfl dX2_findName_11 rfl) <|
  Ok.cons (so_iload_n dX2_findName_14 rfl rfl) <|
  Ok.cons (so_ia0 dX2_findName_15 rfl) <|
  Ok.cons (so_iload_n dX2_findName_16 rfl rfl) <|
  Ok.cons (so_cne dX2_findName_17 (by decide) rfl) <|
  Ok.cons (so_iload_n dX2_findName_20 rfl rfl) <|
  Ok.cons (so_ir rfl dX2_findName_21) <|
  Ok.cons (so_iinc dX2_findName_22 (by decide) (by decide) rfl) <|
  Ok.cons (so_goto dX2_findName_25 (by decide)) <|
  Ok.cons (so_iconst dX2_findName_28 (by decide) rfl) <|
  Ok.cons (so_ir rfl dX2_findName_29) <| Ok.nil
theorem ct_X2_findName (l : Launch) : Ct l yX2_findName cX2_findName 3 (some .int) 1 layF f_X2_findName := ofRunL (by decide) rfl (ok_X2_findName l)
noncomputable def t_X2_findPosition : Tbl := [(0, s_ic 1 0),
  (1, s_is 2 2),
  (2, s_il 3 2),
  (3, s_al 4 0),
  (4, s_gf 7 layF 2 0),
  (7, s_cge 10 28),
  (10, s_al 11 0),
  (11, s_gf 14 layF 2 11),
  (14, s_il 15 2),
  (15, s_ia 16 layF 0),
  (16, s_il 17 1),
  (17, s_cne 20 22),
  (20, s_il 21 2),
  (21, s_ir),
  (22, s_in 25 2 1),
  (25, s_go 2),
  (28, s_ic 29 (-1)),
  (29, s_ir)]
def cs_X2_findPosition : Cs := [(2, [0, 1, 2])]
noncomputable def f_X2_findPosition : List Vv → Mm → Option Ou := lock (sem t_X2_findPosition cs_X2_findPosition 3)
set_option maxRecDepth 20000 in
theorem ok_X2_findPosition (l : Launch) : Ok l RX2 cX2_findPosition 3 1 (some .int) layF t_X2_findPosition :=
  Ok.cons (so_iconst dX2_findPosition_0 (by decide) rfl) <|
  Ok.cons (so_istore_n dX2_findPosition_1 rfl (by decide) rfl) <|
  Ok.cons (so_iload_n dX2_findPosition_2 rfl rfl) <|
  Ok.cons (so_aload_n dX2_findPosition_3 rfl rfl) <|
  Ok.cons (so_gf (C := RX2) (T := TX2) (N := 12) inGX2 rfl (by decide) wq_124 rfl dX2_findPosition_4 rfl) <|
  Ok.cons (so_cge dX2_findPosition_7 (by decide) rfl) <|
  Ok.cons (so_aload_n dX2_findPosition_10 rfl rfl) <|
  Ok.cons (so_gf (C := RX2) (T := TX2) (N := 12) inGX2 rfl (by decide) wq_160 rfl dX2_findPosition_11 rfl) <|
  Ok.cons (so_iload_n dX2_findPosition_14 rfl rfl) <|
  Ok.cons (so_ia0 dX2_findPosition_15 rfl) <|
  Ok.cons (so_iload_n dX2_findPosition_16 rfl rfl) <|
  Ok.cons (so_cne dX2_findPosition_17 (by decide) rfl) <|
  Ok.cons (so_iload_n dX2_findPosition_20 rfl rfl) <|
  Ok.cons (so_ir rfl dX2_findPosition_21) <|
  Ok.cons (so_iinc dX2_findPosition_22 (by decide) (by decide) rfl) <|
  Ok.cons (so_goto dX2_findPosition_25 (by decide)) <|
  Ok.cons (so_iconst dX2_findPosition_28 (by decide) rfl) <|
  Ok.cons (so_ir rfl dX2_findPosition_29) <| Ok.nil
theorem ct_X2_findPosition (l : Launch) : Ct l yX2_findPosition cX2_findPosition 3 (some .int) 1 layF f_X2_findPosition := ofRunL (by decide) rfl (ok_X2_findPosition l)
noncomputable def t_X2_orderByIndex : Tbl := [(0, s_ic 1 0),
  (1, s_is 2 1),
  (2, s_il 3 1),
  (3, s_al 4 0),
  (4, s_gf 7 layF 2 0),
  (7, s_cge 10 23),
  (10, s_al 11 0),
  (11, s_gf 14 layF 2 11),
  (14, s_il 15 1),
  (15, s_il 16 1),
  (16, s_ix 17 layF 0),
  (17, s_in 20 1 1),
  (20, s_go 2),
  (23, s_vr)]
def cs_X2_orderByIndex : Cs := [(2, [0, 1])]
noncomputable def f_X2_orderByIndex : List Vv → Mm → Option Ou := lock (sem t_X2_orderByIndex cs_X2_orderByIndex 2)
set_option maxRecDepth 20000 in
theorem ok_X2_orderByIndex (l : Launch) : Ok l RX2 cX2_orderByIndex 2 1 none layF t_X2_orderByIndex :=
  Ok.cons (so_iconst dX2_orderByIndex_0 (by decide) rfl) <|
  Ok.cons (so_istore_n dX2_orderByIndex_1 rfl (by decide) rfl) <|
  Ok.cons (so_iload_n dX2_orderByIndex_2 rfl rfl) <|
  Ok.cons (so_aload_n dX2_orderByIndex_3 rfl rfl) <|
  Ok.cons (so_gf (C := RX2) (T := TX2) (N := 12) inGX2 rfl (by decide) wq_124 rfl dX2_orderByIndex_4 rfl) <|
  Ok.cons (so_cge dX2_orderByIndex_7 (by decide) rfl) <|
  Ok.cons (so_aload_n dX2_orderByIndex_10 rfl rfl) <|
  Ok.cons (so_gf (C := RX2) (T := TX2) (N := 12) inGX2 rfl (by decide) wq_160 rfl dX2_orderByIndex_11 rfl) <|
  Ok.cons (so_iload_n dX2_orderByIndex_14 rfl rfl) <|
  Ok.cons (so_iload_n dX2_orderByIndex_15 rfl rfl) <|
  Ok.cons (so_ix dX2_orderByIndex_16 rfl) <|
  Ok.cons (so_iinc dX2_orderByIndex_17 (by decide) (by decide) rfl) <|
  Ok.cons (so_goto dX2_orderByIndex_20 (by decide)) <|
  Ok.cons (so_vr rfl dX2_orderByIndex_23) <| Ok.nil
theorem ct_X2_orderByIndex (l : Launch) : Ct l yX2_orderByIndex cX2_orderByIndex 2 none 1 layF f_X2_orderByIndex := ofRunL (by decide) rfl (ok_X2_orderByIndex l)
noncomputable def t_X2_exchange : Tbl := [(0, s_al 1 0),
  (1, s_gf 4 layF 2 11),
  (4, s_il 5 1),
  (5, s_ia 6 layF 0),
  (6, s_is 7 3),
  (7, s_al 8 0),
  (8, s_gf 11 layF 2 11),
  (11, s_il 12 1),
  (12, s_al 13 0),
  (13, s_gf 16 layF 2 11),
  (16, s_il 17 2),
  (17, s_ia 18 layF 0),
  (18, s_ix 19 layF 0),
  (19, s_al 20 0),
  (20, s_gf 23 layF 2 11),
  (23, s_il 24 2),
  (24, s_il 25 3),
  (25, s_ix 26 layF 0),
  (26, s_vr)]
def cs_X2_exchange : Cs := []
noncomputable def f_X2_exchange : List Vv → Mm → Option Ou := lock (sem t_X2_exchange cs_X2_exchange 4)
set_option maxRecDepth 20000 in
theorem ok_X2_exchange (l : Launch) : Ok l RX2 cX2_exchange 4 1 none layF t_X2_exchange :=
  Ok.cons (so_aload_n dX2_exchange_0 rfl rfl) <|
  Ok.cons (so_gf (C := RX2) (T := TX2) (N := 12) inGX2 rfl (by decide) wq_160 rfl dX2_exchange_1 rfl) <|
  Ok.cons (so_iload_n dX2_exchange_4 rfl rfl) <|
  Ok.cons (so_ia0 dX2_exchange_5 rfl) <|
  Ok.cons (so_istore_n dX2_exchange_6 rfl (by decide) rfl) <|
  Ok.cons (so_aload_n dX2_exchange_7 rfl rfl) <|
  Ok.cons (so_gf (C := RX2) (T := TX2) (N := 12) inGX2 rfl (by decide) wq_160 rfl dX2_exchange_8 rfl) <|
  Ok.cons (so_iload_n dX2_exchange_11 rfl rfl) <|
  Ok.cons (so_aload_n dX2_exchange_12 rfl rfl) <|
  Ok.cons (so_gf (C := RX2) (T := TX2) (N := 12) inGX2 rfl (by decide) wq_160 rfl dX2_exchange_13 rfl) <|
  Ok.cons (so_iload_n dX2_exchange_16 rfl rfl) <|
  Ok.cons (so_ia0 dX2_exchange_17 rfl) <|
  Ok.cons (so_ix dX2_exchange_18 rfl) <|
  Ok.cons (so_aload_n dX2_exchange_19 rfl rfl) <|
  Ok.cons (so_gf (C := RX2) (T := TX2) (N := 12) inGX2 rfl (by decide) wq_160 rfl dX2_exchange_20 rfl) <|
  Ok.cons (so_iload_n dX2_exchange_23 rfl rfl) <|
  Ok.cons (so_iload_n dX2_exchange_24 rfl rfl) <|
  Ok.cons (so_ix dX2_exchange_25 rfl) <|
  Ok.cons (so_vr rfl dX2_exchange_26) <| Ok.nil
theorem ct_X2_exchange (l : Launch) : Ct l yX2_exchange cX2_exchange 4 none 1 layF f_X2_exchange := ofRunL (by decide) rfl (ok_X2_exchange l)
noncomputable def t_X2_appendIron : Tbl := [(0, s_al 1 0),
  (1, s_gf 4 layF 2 2),
  (4, s_al 5 0),
  (5, s_gf 8 layF 2 0),
  (8, s_il 9 1),
  (9, s_ix 10 layF 0),
  (10, s_al 11 0),
  (11, s_gf 14 layF 2 3),
  (14, s_al 15 0),
  (15, s_gf 18 layF 2 0),
  (18, s_il 19 2),
  (19, s_ix 20 layF 0),
  (20, s_al 21 0),
  (21, s_gf 24 layF 2 4),
  (24, s_al 25 0),
  (25, s_gf 28 layF 2 0),
  (28, s_il 29 3),
  (29, s_ix 30 layF 0),
  (30, s_al 31 0),
  (31, s_gf 34 layF 2 5),
  (34, s_al 35 0),
  (35, s_gf 38 layF 2 0),
  (38, s_ic 39 0),
  (39, s_ix 40 layF 0),
  (40, s_al 41 0),
  (41, s_gf 44 layF 2 11),
  (44, s_al 45 0),
  (45, s_gf 48 layF 2 0),
  (48, s_al 49 0),
  (49, s_gf 52 layF 2 0),
  (52, s_ix 53 layF 0),
  (53, s_al 54 0),
  (54, s_dup 55),
  (55, s_gf 58 layF 2 0),
  (58, s_ic 59 1),
  (59, s_b 60 (fun x y => x + y)),
  (60, s_pf 63 layF 2 0),
  (63, s_vr)]
def cs_X2_appendIron : Cs := []
noncomputable def f_X2_appendIron : List Vv → Mm → Option Ou := lock (sem t_X2_appendIron cs_X2_appendIron 4)
set_option maxRecDepth 20000 in
theorem ok_X2_appendIron (l : Launch) : Ok l RX2 cX2_appendIron 4 1 none layF t_X2_appendIron :=
  Ok.cons (so_aload_n dX2_appendIron_0 rfl rfl) <|
  Ok.cons (so_gf (C := RX2) (T := TX2) (N := 12) inGX2 rfl (by decide) wq_134 rfl dX2_appendIron_1 rfl) <|
  Ok.cons (so_aload_n dX2_appendIron_4 rfl rfl) <|
  Ok.cons (so_gf (C := RX2) (T := TX2) (N := 12) inGX2 rfl (by decide) wq_124 rfl dX2_appendIron_5 rfl) <|
  Ok.cons (so_iload_n dX2_appendIron_8 rfl rfl) <|
  Ok.cons (so_ix dX2_appendIron_9 rfl) <|
  Ok.cons (so_aload_n dX2_appendIron_10 rfl rfl) <|
  Ok.cons (so_gf (C := RX2) (T := TX2) (N := 12) inGX2 rfl (by decide) wq_135 rfl dX2_appendIron_11 rfl) <|
  Ok.cons (so_aload_n dX2_appendIron_14 rfl rfl) <|
  Ok.cons (so_gf (C := RX2) (T := TX2) (N := 12) inGX2 rfl (by decide) wq_124 rfl dX2_appendIron_15 rfl) <|
  Ok.cons (so_iload_n dX2_appendIron_18 rfl rfl) <|
  Ok.cons (so_ix dX2_appendIron_19 rfl) <|
  Ok.cons (so_aload_n dX2_appendIron_20 rfl rfl) <|
  Ok.cons (so_gf (C := RX2) (T := TX2) (N := 12) inGX2 rfl (by decide) wq_138 rfl dX2_appendIron_21 rfl) <|
  Ok.cons (so_aload_n dX2_appendIron_24 rfl rfl) <|
  Ok.cons (so_gf (C := RX2) (T := TX2) (N := 12) inGX2 rfl (by decide) wq_124 rfl dX2_appendIron_25 rfl) <|
  Ok.cons (so_iload_n dX2_appendIron_28 rfl rfl) <|
  Ok.cons (so_ix dX2_appendIron_29 rfl) <|
  Ok.cons (so_aload_n dX2_appendIron_30 rfl rfl) <|
  Ok.cons (so_gf (C := RX2) (T := TX2) (N := 12) inGX2 rfl (by decide) wq_141 rfl dX2_appendIron_31 rfl) <|
  Ok.cons (so_aload_n dX2_appendIron_34 rfl rfl) <|
  Ok.cons (so_gf (C := RX2) (T := TX2) (N := 12) inGX2 rfl (by decide) wq_124 rfl dX2_appendIron_35 rfl) <|
  Ok.cons (so_iconst dX2_appendIron_38 (by decide) rfl) <|
  Ok.cons (so_ix dX2_appendIron_39 rfl) <|
  Ok.cons (so_aload_n dX2_appendIron_40 rfl rfl) <|
  Ok.cons (so_gf (C := RX2) (T := TX2) (N := 12) inGX2 rfl (by decide) wq_160 rfl dX2_appendIron_41 rfl) <|
  Ok.cons (so_aload_n dX2_appendIron_44 rfl rfl) <|
  Ok.cons (so_gf (C := RX2) (T := TX2) (N := 12) inGX2 rfl (by decide) wq_124 rfl dX2_appendIron_45 rfl) <|
  Ok.cons (so_aload_n dX2_appendIron_48 rfl rfl) <|
  Ok.cons (so_gf (C := RX2) (T := TX2) (N := 12) inGX2 rfl (by decide) wq_124 rfl dX2_appendIron_49 rfl) <|
  Ok.cons (so_ix dX2_appendIron_52 rfl) <|
  Ok.cons (so_aload_n dX2_appendIron_53 rfl rfl) <|
  Ok.cons (so_dup dX2_appendIron_54 rfl) <|
  Ok.cons (so_gf (C := RX2) (T := TX2) (N := 12) inGX2 rfl (by decide) wq_124 rfl dX2_appendIron_55 rfl) <|
  Ok.cons (so_iconst dX2_appendIron_58 (by decide) rfl) <|
  Ok.cons (so_iadd dX2_appendIron_59 rfl) <|
  Ok.cons (so_pf (C := RX2) (T := TX2) (N := 12) inGX2 tyX2_ok nmX2 rfl (by decide) wq_124 rfl rfl rfl dX2_appendIron_60 rfl) <|
  Ok.cons (so_vr rfl dX2_appendIron_63) <| Ok.nil
theorem ct_X2_appendIron (l : Launch) : Ct l yX2_appendIron cX2_appendIron 4 none 1 layF f_X2_appendIron := ofRunL (by decide) rfl (ok_X2_appendIron l)
noncomputable def t_X2_appendStep : Tbl := [(0, s_il 1 1),
  (1, s_ic 2 5),
  (2, s_b 3 (fun x y => x * y)),
  (3, s_al 4 0),
  (4, s_gf 7 layF 2 5),
  (7, s_il 8 1),
  (8, s_ia 9 layF 0),
  (9, s_b 10 (fun x y => x + y)),
  (10, s_is 12 4),
  (12, s_al 13 0),
  (13, s_gf 16 layF 2 6),
  (16, s_il 18 4),
  (18, s_il 19 2),
  (19, s_ix 20 layF 0),
  (20, s_al 21 0),
  (21, s_gf 24 layF 2 7),
  (24, s_il 26 4),
  (26, s_il 27 3),
  (27, s_ix 28 layF 0),
  (28, s_al 29 0),
  (29, s_gf 32 layF 2 5),
  (32, s_il 33 1),
  (33, s_dup2 34),
  (34, s_ia 35 layF 0),
  (35, s_ic 36 1),
  (36, s_b 37 (fun x y => x + y)),
  (37, s_ix 38 layF 0),
  (38, s_vr)]
def cs_X2_appendStep : Cs := []
noncomputable def f_X2_appendStep : List Vv → Mm → Option Ou := lock (sem t_X2_appendStep cs_X2_appendStep 5)
set_option maxRecDepth 20000 in
theorem ok_X2_appendStep (l : Launch) : Ok l RX2 cX2_appendStep 5 1 none layF t_X2_appendStep :=
  Ok.cons (so_iload_n dX2_appendStep_0 rfl rfl) <|
  Ok.cons (so_iconst dX2_appendStep_1 (by decide) rfl) <|
  Ok.cons (so_imul dX2_appendStep_2 rfl) <|
  Ok.cons (so_aload_n dX2_appendStep_3 rfl rfl) <|
  Ok.cons (so_gf (C := RX2) (T := TX2) (N := 12) inGX2 rfl (by decide) wq_141 rfl dX2_appendStep_4 rfl) <|
  Ok.cons (so_iload_n dX2_appendStep_7 rfl rfl) <|
  Ok.cons (so_ia0 dX2_appendStep_8 rfl) <|
  Ok.cons (so_iadd dX2_appendStep_9 rfl) <|
  Ok.cons (so_istore dX2_appendStep_10 (by decide) rfl) <|
  Ok.cons (so_aload_n dX2_appendStep_12 rfl rfl) <|
  Ok.cons (so_gf (C := RX2) (T := TX2) (N := 12) inGX2 rfl (by decide) wq_145 rfl dX2_appendStep_13 rfl) <|
  Ok.cons (so_iload dX2_appendStep_16 rfl) <|
  Ok.cons (so_iload_n dX2_appendStep_18 rfl rfl) <|
  Ok.cons (so_ix dX2_appendStep_19 rfl) <|
  Ok.cons (so_aload_n dX2_appendStep_20 rfl rfl) <|
  Ok.cons (so_gf (C := RX2) (T := TX2) (N := 12) inGX2 rfl (by decide) wq_147 rfl dX2_appendStep_21 rfl) <|
  Ok.cons (so_iload dX2_appendStep_24 rfl) <|
  Ok.cons (so_iload_n dX2_appendStep_26 rfl rfl) <|
  Ok.cons (so_ix dX2_appendStep_27 rfl) <|
  Ok.cons (so_aload_n dX2_appendStep_28 rfl rfl) <|
  Ok.cons (so_gf (C := RX2) (T := TX2) (N := 12) inGX2 rfl (by decide) wq_141 rfl dX2_appendStep_29 rfl) <|
  Ok.cons (so_iload_n dX2_appendStep_32 rfl rfl) <|
  Ok.cons (so_dup2 dX2_appendStep_33 rfl) <|
  Ok.cons (so_ia0 dX2_appendStep_34 rfl) <|
  Ok.cons (so_iconst dX2_appendStep_35 (by decide) rfl) <|
  Ok.cons (so_iadd dX2_appendStep_36 rfl) <|
  Ok.cons (so_ix dX2_appendStep_37 rfl) <|
  Ok.cons (so_vr rfl dX2_appendStep_38) <| Ok.nil
theorem ct_X2_appendStep (l : Launch) : Ct l yX2_appendStep cX2_appendStep 5 none 1 layF f_X2_appendStep := ofRunL (by decide) rfl (ok_X2_appendStep l)
noncomputable def t_X2_appendPlace : Tbl := [(0, s_al 1 0),
  (1, s_gf 4 layF 2 8),
  (4, s_al 5 0),
  (5, s_gf 8 layF 2 1),
  (8, s_il 9 1),
  (9, s_ix 10 layF 0),
  (10, s_al 11 0),
  (11, s_gf 14 layF 2 9),
  (14, s_al 15 0),
  (15, s_gf 18 layF 2 1),
  (18, s_il 19 2),
  (19, s_ix 20 layF 0),
  (20, s_al 21 0),
  (21, s_dup 22),
  (22, s_gf 25 layF 2 1),
  (25, s_ic 26 1),
  (26, s_b 27 (fun x y => x + y)),
  (27, s_pf 30 layF 2 1),
  (30, s_vr)]
def cs_X2_appendPlace : Cs := []
noncomputable def f_X2_appendPlace : List Vv → Mm → Option Ou := lock (sem t_X2_appendPlace cs_X2_appendPlace 3)
set_option maxRecDepth 20000 in
theorem ok_X2_appendPlace (l : Launch) : Ok l RX2 cX2_appendPlace 3 1 none layF t_X2_appendPlace :=
  Ok.cons (so_aload_n dX2_appendPlace_0 rfl rfl) <|
  Ok.cons (so_gf (C := RX2) (T := TX2) (N := 12) inGX2 rfl (by decide) wq_149 rfl dX2_appendPlace_1 rfl) <|
  Ok.cons (so_aload_n dX2_appendPlace_4 rfl rfl) <|
  Ok.cons (so_gf (C := RX2) (T := TX2) (N := 12) inGX2 rfl (by decide) wq_130 rfl dX2_appendPlace_5 rfl) <|
  Ok.cons (so_iload_n dX2_appendPlace_8 rfl rfl) <|
  Ok.cons (so_ix dX2_appendPlace_9 rfl) <|
  Ok.cons (so_aload_n dX2_appendPlace_10 rfl rfl) <|
  Ok.cons (so_gf (C := RX2) (T := TX2) (N := 12) inGX2 rfl (by decide) wq_152 rfl dX2_appendPlace_11 rfl) <|
  Ok.cons (so_aload_n dX2_appendPlace_14 rfl rfl) <|
  Ok.cons (so_gf (C := RX2) (T := TX2) (N := 12) inGX2 rfl (by decide) wq_130 rfl dX2_appendPlace_15 rfl) <|
  Ok.cons (so_iload_n dX2_appendPlace_18 rfl rfl) <|
  Ok.cons (so_ix dX2_appendPlace_19 rfl) <|
  Ok.cons (so_aload_n dX2_appendPlace_20 rfl rfl) <|
  Ok.cons (so_dup dX2_appendPlace_21 rfl) <|
  Ok.cons (so_gf (C := RX2) (T := TX2) (N := 12) inGX2 rfl (by decide) wq_130 rfl dX2_appendPlace_22 rfl) <|
  Ok.cons (so_iconst dX2_appendPlace_25 (by decide) rfl) <|
  Ok.cons (so_iadd dX2_appendPlace_26 rfl) <|
  Ok.cons (so_pf (C := RX2) (T := TX2) (N := 12) inGX2 tyX2_ok nmX2 rfl (by decide) wq_130 rfl rfl rfl dX2_appendPlace_27 rfl) <|
  Ok.cons (so_vr rfl dX2_appendPlace_30) <| Ok.nil
theorem ct_X2_appendPlace (l : Launch) : Ct l yX2_appendPlace cX2_appendPlace 3 none 1 layF f_X2_appendPlace := ofRunL (by decide) rfl (ok_X2_appendPlace l)
noncomputable def t_X2_dropPlace : Tbl := [(0, s_il 1 1),
  (1, s_ic 2 1),
  (2, s_b 3 (fun x y => x + y)),
  (3, s_is 4 2),
  (4, s_il 5 2),
  (5, s_al 6 0),
  (6, s_gf 9 layF 2 1),
  (9, s_cge 12 46),
  (12, s_al 13 0),
  (13, s_gf 16 layF 2 8),
  (16, s_il 17 2),
  (17, s_ic 18 1),
  (18, s_b 19 (fun x y => x - y)),
  (19, s_al 20 0),
  (20, s_gf 23 layF 2 8),
  (23, s_il 24 2),
  (24, s_ia 25 layF 0),
  (25, s_ix 26 layF 0),
  (26, s_al 27 0),
  (27, s_gf 30 layF 2 9),
  (30, s_il 31 2),
  (31, s_ic 32 1),
  (32, s_b 33 (fun x y => x - y)),
  (33, s_al 34 0),
  (34, s_gf 37 layF 2 9),
  (37, s_il 38 2),
  (38, s_ia 39 layF 0),
  (39, s_ix 40 layF 0),
  (40, s_in 43 2 1),
  (43, s_go 4),
  (46, s_al 47 0),
  (47, s_dup 48),
  (48, s_gf 51 layF 2 1),
  (51, s_ic 52 1),
  (52, s_b 53 (fun x y => x - y)),
  (53, s_pf 56 layF 2 1),
  (56, s_vr)]
def cs_X2_dropPlace : Cs := [(4, [0, 2])]
noncomputable def f_X2_dropPlace : List Vv → Mm → Option Ou := lock (sem t_X2_dropPlace cs_X2_dropPlace 3)
set_option maxRecDepth 20000 in
theorem ok_X2_dropPlace (l : Launch) : Ok l RX2 cX2_dropPlace 3 1 none layF t_X2_dropPlace :=
  Ok.cons (so_iload_n dX2_dropPlace_0 rfl rfl) <|
  Ok.cons (so_iconst dX2_dropPlace_1 (by decide) rfl) <|
  Ok.cons (so_iadd dX2_dropPlace_2 rfl) <|
  Ok.cons (so_istore_n dX2_dropPlace_3 rfl (by decide) rfl) <|
  Ok.cons (so_iload_n dX2_dropPlace_4 rfl rfl) <|
  Ok.cons (so_aload_n dX2_dropPlace_5 rfl rfl) <|
  Ok.cons (so_gf (C := RX2) (T := TX2) (N := 12) inGX2 rfl (by decide) wq_130 rfl dX2_dropPlace_6 rfl) <|
  Ok.cons (so_cge dX2_dropPlace_9 (by decide) rfl) <|
  Ok.cons (so_aload_n dX2_dropPlace_12 rfl rfl) <|
  Ok.cons (so_gf (C := RX2) (T := TX2) (N := 12) inGX2 rfl (by decide) wq_149 rfl dX2_dropPlace_13 rfl) <|
  Ok.cons (so_iload_n dX2_dropPlace_16 rfl rfl) <|
  Ok.cons (so_iconst dX2_dropPlace_17 (by decide) rfl) <|
  Ok.cons (so_isub dX2_dropPlace_18 rfl) <|
  Ok.cons (so_aload_n dX2_dropPlace_19 rfl rfl) <|
  Ok.cons (so_gf (C := RX2) (T := TX2) (N := 12) inGX2 rfl (by decide) wq_149 rfl dX2_dropPlace_20 rfl) <|
  Ok.cons (so_iload_n dX2_dropPlace_23 rfl rfl) <|
  Ok.cons (so_ia0 dX2_dropPlace_24 rfl) <|
  Ok.cons (so_ix dX2_dropPlace_25 rfl) <|
  Ok.cons (so_aload_n dX2_dropPlace_26 rfl rfl) <|
  Ok.cons (so_gf (C := RX2) (T := TX2) (N := 12) inGX2 rfl (by decide) wq_152 rfl dX2_dropPlace_27 rfl) <|
  Ok.cons (so_iload_n dX2_dropPlace_30 rfl rfl) <|
  Ok.cons (so_iconst dX2_dropPlace_31 (by decide) rfl) <|
  Ok.cons (so_isub dX2_dropPlace_32 rfl) <|
  Ok.cons (so_aload_n dX2_dropPlace_33 rfl rfl) <|
  Ok.cons (so_gf (C := RX2) (T := TX2) (N := 12) inGX2 rfl (by decide) wq_152 rfl dX2_dropPlace_34 rfl) <|
  Ok.cons (so_iload_n dX2_dropPlace_37 rfl rfl) <|
  Ok.cons (so_ia0 dX2_dropPlace_38 rfl) <|
  Ok.cons (so_ix dX2_dropPlace_39 rfl) <|
  Ok.cons (so_iinc dX2_dropPlace_40 (by decide) (by decide) rfl) <|
  Ok.cons (so_goto dX2_dropPlace_43 (by decide)) <|
  Ok.cons (so_aload_n dX2_dropPlace_46 rfl rfl) <|
  Ok.cons (so_dup dX2_dropPlace_47 rfl) <|
  Ok.cons (so_gf (C := RX2) (T := TX2) (N := 12) inGX2 rfl (by decide) wq_130 rfl dX2_dropPlace_48 rfl) <|
  Ok.cons (so_iconst dX2_dropPlace_51 (by decide) rfl) <|
  Ok.cons (so_isub dX2_dropPlace_52 rfl) <|
  Ok.cons (so_pf (C := RX2) (T := TX2) (N := 12) inGX2 tyX2_ok nmX2 rfl (by decide) wq_130 rfl rfl rfl dX2_dropPlace_53 rfl) <|
  Ok.cons (so_vr rfl dX2_dropPlace_56) <| Ok.nil
theorem ct_X2_dropPlace (l : Launch) : Ct l yX2_dropPlace cX2_dropPlace 3 none 1 layF f_X2_dropPlace := ofRunL (by decide) rfl (ok_X2_dropPlace l)
