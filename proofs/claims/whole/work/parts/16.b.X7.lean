noncomputable def t_X7_thrown : Tbl := [(0, s_al 1 0),
  (1, s_gf 4 layM 7 0),
  (4, s_ir)]
def cs_X7_thrown : Cs := []
noncomputable def f_X7_thrown : List Vv → Mm → Option Ou := lock (sem t_X7_thrown cs_X7_thrown 1)
set_option maxRecDepth 20000 in
theorem ok_X7_thrown (l : Launch) : Ok l RX7 cX7_thrown 1 1 (some .int) layM t_X7_thrown :=
  Ok.cons (so_aload_n dX7_thrown_0 rfl rfl) <|
  Ok.cons (so_gf (C := RX7) (T := TX7) (N := 42) inGX7 rfl (by decide) wq_1174 rfl dX7_thrown_1 rfl) <|
  Ok.cons (so_ir rfl dX7_thrown_4) <| Ok.nil
theorem ct_X7_thrown (l : Launch) : Ct l yX7_thrown cX7_thrown 1 (some .int) 1 layM f_X7_thrown := ofRunL (by decide) rfl (ok_X7_thrown l)
noncomputable def t_X7_feed : Tbl := [(0, s_al 1 0),
  (1, s_ic 2 0),
  (2, s_pf 5 layM 7 0),
  (5, s_al 6 0),
  (6, s_gf 9 layM 7 2),
  (9, s_ic 11 20),
  (11, s_b 12 (fun x y => x + y)),
  (12, s_ic 15 900),
  (15, s_cle 18 21),
  (18, s_ic 20 (-3)),
  (20, s_ir),
  (21, s_ic 22 0),
  (22, s_is 24 6),
  (24, s_il 26 6),
  (26, s_ic 28 20),
  (28, s_cge 31 114),
  (31, s_il 33 6),
  (33, s_ic 34 4),
  (34, s_cge 37 41),
  (37, s_il 38 1),
  (38, s_go 77),
  (41, s_il 43 6),
  (43, s_ic 45 8),
  (45, s_cge 48 52),
  (48, s_il 49 2),
  (49, s_go 77),
  (52, s_il 54 6),
  (54, s_ic 56 12),
  (56, s_cge 59 63),
  (59, s_il 60 3),
  (60, s_go 77),
  (63, s_il 65 6),
  (65, s_ic 67 16),
  (67, s_cge 70 75),
  (70, s_il 72 4),
  (72, s_go 77),
  (75, s_il 77 5),
  (77, s_is 79 7),
  (79, s_al 80 0),
  (80, s_gf 83 layM 7 1),
  (83, s_al 84 0),
  (84, s_gf 87 layM 7 2),
  (87, s_il 89 6),
  (89, s_b 90 (fun x y => x + y)),
  (90, s_il 92 7),
  (92, s_ic 94 24),
  (94, s_ic 96 8),
  (96, s_il 98 6),
  (98, s_ic 99 4),
  (99, s_bd 100 (fun x y => x - x / y * y)),
  (100, s_b 101 (fun x y => x * y)),
  (101, s_b 102 (fun x y => x - y)),
  (102, s_b 103 (fun x y => x >>> (y &&& 31))),
  (103, s_ic 106 255),
  (106, s_b 107 (fun x y => x &&& y)),
  (107, s_ix 108 layM 0),
  (108, s_in 111 6 1),
  (111, s_go 24),
  (114, s_al 115 0),
  (115, s_dup 116),
  (116, s_gf 119 layM 7 2),
  (119, s_ic 121 20),
  (121, s_b 122 (fun x y => x + y)),
  (122, s_pf 125 layM 7 2),
  (125, s_al 126 0),
  (126, s_gf 129 layM 7 2),
  (129, s_ir)]
def cs_X7_feed : Cs := [(24, [0, 1, 2, 3, 4, 5, 6]), (77, [0, 1, 2, 3, 4, 5, 6])]
noncomputable def f_X7_feed : List Vv → Mm → Option Ou := lock (sem t_X7_feed cs_X7_feed 8)
set_option maxRecDepth 20000 in
theorem ok_X7_feed (l : Launch) : Ok l RX7 cX7_feed 8 1 (some .int) layM t_X7_feed :=
  Ok.cons (so_aload_n dX7_feed_0 rfl rfl) <|
  Ok.cons (so_iconst dX7_feed_1 (by decide) rfl) <|
  Ok.cons (so_pf (C := RX7) (T := TX7) (N := 42) inGX7 tyX7_ok nmX7 rfl (by decide) wq_1174 rfl rfl rfl dX7_feed_2 rfl) <|
  Ok.cons (so_aload_n dX7_feed_5 rfl rfl) <|
  Ok.cons (so_gf (C := RX7) (T := TX7) (N := 42) inGX7 rfl (by decide) wq_1176 rfl dX7_feed_6 rfl) <|
  Ok.cons (so_bipush dX7_feed_9 (by decide) rfl) <|
  Ok.cons (so_iadd dX7_feed_11 rfl) <|
  Ok.cons (so_sipush dX7_feed_12 (by decide) rfl) <|
  Ok.cons (so_cle dX7_feed_15 (by decide) rfl) <|
  Ok.cons (so_bipush dX7_feed_18 (by decide) rfl) <|
  Ok.cons (so_ir rfl dX7_feed_20) <|
  Ok.cons (so_iconst dX7_feed_21 (by decide) rfl) <|
  Ok.cons (so_istore dX7_feed_22 (by decide) rfl) <|
  Ok.cons (so_iload dX7_feed_24 rfl) <|
  Ok.cons (so_bipush dX7_feed_26 (by decide) rfl) <|
  Ok.cons (so_cge dX7_feed_28 (by decide) rfl) <|
  Ok.cons (so_iload dX7_feed_31 rfl) <|
  Ok.cons (so_iconst dX7_feed_33 (by decide) rfl) <|
  Ok.cons (so_cge dX7_feed_34 (by decide) rfl) <|
  Ok.cons (so_iload_n dX7_feed_37 rfl rfl) <|
  Ok.cons (so_goto dX7_feed_38 (by decide)) <|
  Ok.cons (so_iload dX7_feed_41 rfl) <|
  Ok.cons (so_bipush dX7_feed_43 (by decide) rfl) <|
  Ok.cons (so_cge dX7_feed_45 (by decide) rfl) <|
  Ok.cons (so_iload_n dX7_feed_48 rfl rfl) <|
  Ok.cons (so_goto dX7_feed_49 (by decide)) <|
  Ok.cons (so_iload dX7_feed_52 rfl) <|
  Ok.cons (so_bipush dX7_feed_54 (by decide) rfl) <|
  Ok.cons (so_cge dX7_feed_56 (by decide) rfl) <|
  Ok.cons (so_iload_n dX7_feed_59 rfl rfl) <|
  Ok.cons (so_goto dX7_feed_60 (by decide)) <|
  Ok.cons (so_iload dX7_feed_63 rfl) <|
  Ok.cons (so_bipush dX7_feed_65 (by decide) rfl) <|
  Ok.cons (so_cge dX7_feed_67 (by decide) rfl) <|
  Ok.cons (so_iload dX7_feed_70 rfl) <|
  Ok.cons (so_goto dX7_feed_72 (by decide)) <|
  Ok.cons (so_iload dX7_feed_75 rfl) <|
  Ok.cons (so_istore dX7_feed_77 (by decide) rfl) <|
  Ok.cons (so_aload_n dX7_feed_79 rfl rfl) <|
  Ok.cons (so_gf (C := RX7) (T := TX7) (N := 42) inGX7 rfl (by decide) wq_1175 rfl dX7_feed_80 rfl) <|
  Ok.cons (so_aload_n dX7_feed_83 rfl rfl) <|
  Ok.cons (so_gf (C := RX7) (T := TX7) (N := 42) inGX7 rfl (by decide) wq_1176 rfl dX7_feed_84 rfl) <|
  Ok.cons (so_iload dX7_feed_87 rfl) <|
  Ok.cons (so_iadd dX7_feed_89 rfl) <|
  Ok.cons (so_iload dX7_feed_90 rfl) <|
  Ok.cons (so_bipush dX7_feed_92 (by decide) rfl) <|
  Ok.cons (so_bipush dX7_feed_94 (by decide) rfl) <|
  Ok.cons (so_iload dX7_feed_96 rfl) <|
  Ok.cons (so_iconst dX7_feed_98 (by decide) rfl) <|
  Ok.cons (so_irem dX7_feed_99 rfl) <|
  Ok.cons (so_imul dX7_feed_100 rfl) <|
  Ok.cons (so_isub dX7_feed_101 rfl) <|
  Ok.cons (so_ishr dX7_feed_102 rfl) <|
  Ok.cons (so_sipush dX7_feed_103 (by decide) rfl) <|
  Ok.cons (so_iand dX7_feed_106 rfl) <|
  Ok.cons (so_ix dX7_feed_107 rfl) <|
  Ok.cons (so_iinc dX7_feed_108 (by decide) (by decide) rfl) <|
  Ok.cons (so_goto dX7_feed_111 (by decide)) <|
  Ok.cons (so_aload_n dX7_feed_114 rfl rfl) <|
  Ok.cons (so_dup dX7_feed_115 rfl) <|
  Ok.cons (so_gf (C := RX7) (T := TX7) (N := 42) inGX7 rfl (by decide) wq_1176 rfl dX7_feed_116 rfl) <|
  Ok.cons (so_bipush dX7_feed_119 (by decide) rfl) <|
  Ok.cons (so_iadd dX7_feed_121 rfl) <|
  Ok.cons (so_pf (C := RX7) (T := TX7) (N := 42) inGX7 tyX7_ok nmX7 rfl (by decide) wq_1176 rfl rfl rfl dX7_feed_122 rfl) <|
  Ok.cons (so_aload_n dX7_feed_125 rfl rfl) <|
  Ok.cons (so_gf (C := RX7) (T := TX7) (N := 42) inGX7 rfl (by decide) wq_1176 rfl dX7_feed_126 rfl) <|
  Ok.cons (so_ir rfl dX7_feed_129) <| Ok.nil
theorem ct_X7_feed (l : Launch) : Ct l yX7_feed cX7_feed 8 (some .int) 1 layM f_X7_feed := ofRunL (by decide) rfl (ok_X7_feed l)
noncomputable def t_X7_newForge : Tbl := [(0, s_ic 1 0),
  (1, s_is 2 1),
  (2, s_il 3 1),
  (3, s_ic 5 20),
  (5, s_cge 8 21),
  (8, s_al 9 0),
  (9, s_gf 12 layM 7 4),
  (12, s_il 13 1),
  (13, s_ic 14 0),
  (14, s_ix 15 layM 0),
  (15, s_in 18 1 1),
  (18, s_go 2),
  (21, s_ic 22 0),
  (22, s_is 23 1),
  (23, s_il 24 1),
  (24, s_ic 26 81),
  (26, s_cge 29 42),
  (29, s_al 30 0),
  (30, s_gf 33 layM 7 6),
  (33, s_il 34 1),
  (34, s_ic 35 0),
  (35, s_ix 36 layM 0),
  (36, s_in 39 1 1),
  (39, s_go 23),
  (42, s_ic 43 0),
  (43, s_is 44 1),
  (44, s_il 45 1),
  (45, s_ic 47 6),
  (47, s_cge 50 66),
  (50, s_al 51 0),
  (51, s_gf 54 layM 7 6),
  (54, s_ic 56 72),
  (56, s_il 57 1),
  (57, s_b 58 (fun x y => x + y)),
  (58, s_il 59 1),
  (59, s_ix 60 layM 0),
  (60, s_in 63 1 1),
  (63, s_go 44),
  (66, s_al 67 0),
  (67, s_gf 70 layM 7 6),
  (70, s_ic 72 78),
  (72, s_ic 73 1),
  (73, s_ix 74 layM 0),
  (74, s_al 75 0),
  (75, s_gf 78 layM 7 6),
  (78, s_ic 80 79),
  (80, s_ic 82 50),
  (82, s_ix 83 layM 0),
  (83, s_al 84 0),
  (84, s_ic 85 0),
  (85, s_pf 88 layM 7 19),
  (88, s_al 89 0),
  (89, s_ic 90 0),
  (90, s_pf 93 layM 7 18),
  (93, s_vr)]
def cs_X7_newForge : Cs := [(2, [0, 1]), (23, [0, 1]), (44, [0, 1])]
noncomputable def f_X7_newForge : List Vv → Mm → Option Ou := lock (sem t_X7_newForge cs_X7_newForge 2)
set_option maxRecDepth 20000 in
theorem ok_X7_newForge (l : Launch) : Ok l RX7 cX7_newForge 2 1 none layM t_X7_newForge :=
  Ok.cons (so_iconst dX7_newForge_0 (by decide) rfl) <|
  Ok.cons (so_istore_n dX7_newForge_1 rfl (by decide) rfl) <|
  Ok.cons (so_iload_n dX7_newForge_2 rfl rfl) <|
  Ok.cons (so_bipush dX7_newForge_3 (by decide) rfl) <|
  Ok.cons (so_cge dX7_newForge_5 (by decide) rfl) <|
  Ok.cons (so_aload_n dX7_newForge_8 rfl rfl) <|
  Ok.cons (so_gf (C := RX7) (T := TX7) (N := 42) inGX7 rfl (by decide) wq_1178 rfl dX7_newForge_9 rfl) <|
  Ok.cons (so_iload_n dX7_newForge_12 rfl rfl) <|
  Ok.cons (so_iconst dX7_newForge_13 (by decide) rfl) <|
  Ok.cons (so_ix dX7_newForge_14 rfl) <|
  Ok.cons (so_iinc dX7_newForge_15 (by decide) (by decide) rfl) <|
  Ok.cons (so_goto dX7_newForge_18 (by decide)) <|
  Ok.cons (so_iconst dX7_newForge_21 (by decide) rfl) <|
  Ok.cons (so_istore_n dX7_newForge_22 rfl (by decide) rfl) <|
  Ok.cons (so_iload_n dX7_newForge_23 rfl rfl) <|
  Ok.cons (so_bipush dX7_newForge_24 (by decide) rfl) <|
  Ok.cons (so_cge dX7_newForge_26 (by decide) rfl) <|
  Ok.cons (so_aload_n dX7_newForge_29 rfl rfl) <|
  Ok.cons (so_gf (C := RX7) (T := TX7) (N := 42) inGX7 rfl (by decide) wq_1180 rfl dX7_newForge_30 rfl) <|
  Ok.cons (so_iload_n dX7_newForge_33 rfl rfl) <|
  Ok.cons (so_iconst dX7_newForge_34 (by decide) rfl) <|
  Ok.cons (so_ix dX7_newForge_35 rfl) <|
  Ok.cons (so_iinc dX7_newForge_36 (by decide) (by decide) rfl) <|
  Ok.cons (so_goto dX7_newForge_39 (by decide)) <|
  Ok.cons (so_iconst dX7_newForge_42 (by decide) rfl) <|
  Ok.cons (so_istore_n dX7_newForge_43 rfl (by decide) rfl) <|
  Ok.cons (so_iload_n dX7_newForge_44 rfl rfl) <|
  Ok.cons (so_bipush dX7_newForge_45 (by decide) rfl) <|
  Ok.cons (so_cge dX7_newForge_47 (by decide) rfl) <|
  Ok.cons (so_aload_n dX7_newForge_50 rfl rfl) <|
  Ok.cons (so_gf (C := RX7) (T := TX7) (N := 42) inGX7 rfl (by decide) wq_1180 rfl dX7_newForge_51 rfl) <|
  Ok.cons (so_bipush dX7_newForge_54 (by decide) rfl) <|
  Ok.cons (so_iload_n dX7_newForge_56 rfl rfl) <|
  Ok.cons (so_iadd dX7_newForge_57 rfl) <|
  Ok.cons (so_iload_n dX7_newForge_58 rfl rfl) <|
  Ok.cons (so_ix dX7_newForge_59 rfl) <|
  Ok.cons (so_iinc dX7_newForge_60 (by decide) (by decide) rfl) <|
  Ok.cons (so_goto dX7_newForge_63 (by decide)) <|
  Ok.cons (so_aload_n dX7_newForge_66 rfl rfl) <|
  Ok.cons (so_gf (C := RX7) (T := TX7) (N := 42) inGX7 rfl (by decide) wq_1180 rfl dX7_newForge_67 rfl) <|
  Ok.cons (so_bipush dX7_newForge_70 (by decide) rfl) <|
  Ok.cons (so_iconst dX7_newForge_72 (by decide) rfl) <|
  Ok.cons (so_ix dX7_newForge_73 rfl) <|
  Ok.cons (so_aload_n dX7_newForge_74 rfl rfl) <|
  Ok.cons (so_gf (C := RX7) (T := TX7) (N := 42) inGX7 rfl (by decide) wq_1180 rfl dX7_newForge_75 rfl) <|
  Ok.cons (so_bipush dX7_newForge_78 (by decide) rfl) <|
  Ok.cons (so_bipush dX7_newForge_80 (by decide) rfl) <|
  Ok.cons (so_ix dX7_newForge_82 rfl) <|
  Ok.cons (so_aload_n dX7_newForge_83 rfl rfl) <|
  Ok.cons (so_iconst dX7_newForge_84 (by decide) rfl) <|
  Ok.cons (so_pf (C := RX7) (T := TX7) (N := 42) inGX7 tyX7_ok nmX7 rfl (by decide) wq_1193 rfl rfl rfl dX7_newForge_85 rfl) <|
  Ok.cons (so_aload_n dX7_newForge_88 rfl rfl) <|
  Ok.cons (so_iconst dX7_newForge_89 (by decide) rfl) <|
  Ok.cons (so_pf (C := RX7) (T := TX7) (N := 42) inGX7 tyX7_ok nmX7 rfl (by decide) wq_1192 rfl rfl rfl dX7_newForge_90 rfl) <|
  Ok.cons (so_vr rfl dX7_newForge_93) <| Ok.nil
theorem ct_X7_newForge (l : Launch) : Ct l yX7_newForge cX7_newForge 2 none 1 layM f_X7_newForge := ofRunL (by decide) rfl (ok_X7_newForge l)
noncomputable def t_X7_takes : Tbl := [(0, s_ic 1 0),
  (1, s_is 2 1),
  (2, s_il 3 1),
  (3, s_ic 5 20),
  (5, s_cge 8 26),
  (8, s_al 9 0),
  (9, s_gf 12 layM 7 3),
  (12, s_il 13 1),
  (13, s_al 14 0),
  (14, s_gf 17 layM 7 4),
  (17, s_il 18 1),
  (18, s_ia 19 layM 0),
  (19, s_ix 20 layM 0),
  (20, s_in 23 1 1),
  (23, s_go 2),
  (26, s_ic 27 0),
  (27, s_is 28 1),
  (28, s_il 29 1),
  (29, s_ic 31 81),
  (31, s_cge 34 52),
  (34, s_al 35 0),
  (35, s_gf 38 layM 7 5),
  (38, s_il 39 1),
  (39, s_al 40 0),
  (40, s_gf 43 layM 7 6),
  (43, s_il 44 1),
  (44, s_ia 45 layM 0),
  (45, s_ix 46 layM 0),
  (46, s_in 49 1 1),
  (49, s_go 28),
  (52, s_al 53 0),
  (53, s_ic 54 0),
  (54, s_pf 57 layM 7 8),
  (57, s_al 58 0),
  (58, s_ic 59 0),
  (59, s_pz 62 layM 7 37),
  (62, s_al 63 0),
  (63, s_ic 64 0),
  (64, s_pz 67 layM 7 38),
  (67, s_vr)]
def cs_X7_takes : Cs := [(2, [0, 1]), (28, [0, 1])]
noncomputable def f_X7_takes : List Vv → Mm → Option Ou := lock (sem t_X7_takes cs_X7_takes 2)
set_option maxRecDepth 20000 in
theorem ok_X7_takes (l : Launch) : Ok l RX7 cX7_takes 2 1 none layM t_X7_takes :=
  Ok.cons (so_iconst dX7_takes_0 (by decide) rfl) <|
  Ok.cons (so_istore_n dX7_takes_1 rfl (by decide) rfl) <|
  Ok.cons (so_iload_n dX7_takes_2 rfl rfl) <|
  Ok.cons (so_bipush dX7_takes_3 (by decide) rfl) <|
  Ok.cons (so_cge dX7_takes_5 (by decide) rfl) <|
  Ok.cons (so_aload_n dX7_takes_8 rfl rfl) <|
  Ok.cons (so_gf (C := RX7) (T := TX7) (N := 42) inGX7 rfl (by decide) wq_1177 rfl dX7_takes_9 rfl) <|
  Ok.cons (so_iload_n dX7_takes_12 rfl rfl) <|
  Ok.cons (so_aload_n dX7_takes_13 rfl rfl) <|
  Ok.cons (so_gf (C := RX7) (T := TX7) (N := 42) inGX7 rfl (by decide) wq_1178 rfl dX7_takes_14 rfl) <|
  Ok.cons (so_iload_n dX7_takes_17 rfl rfl) <|
  Ok.cons (so_ia0 dX7_takes_18 rfl) <|
  Ok.cons (so_ix dX7_takes_19 rfl) <|
  Ok.cons (so_iinc dX7_takes_20 (by decide) (by decide) rfl) <|
  Ok.cons (so_goto dX7_takes_23 (by decide)) <|
  Ok.cons (so_iconst dX7_takes_26 (by decide) rfl) <|
  Ok.cons (so_istore_n dX7_takes_27 rfl (by decide) rfl) <|
  Ok.cons (so_iload_n dX7_takes_28 rfl rfl) <|
  Ok.cons (so_bipush dX7_takes_29 (by decide) rfl) <|
  Ok.cons (so_cge dX7_takes_31 (by decide) rfl) <|
  Ok.cons (so_aload_n dX7_takes_34 rfl rfl) <|
  Ok.cons (so_gf (C := RX7) (T := TX7) (N := 42) inGX7 rfl (by decide) wq_1179 rfl dX7_takes_35 rfl) <|
  Ok.cons (so_iload_n dX7_takes_38 rfl rfl) <|
  Ok.cons (so_aload_n dX7_takes_39 rfl rfl) <|
  Ok.cons (so_gf (C := RX7) (T := TX7) (N := 42) inGX7 rfl (by decide) wq_1180 rfl dX7_takes_40 rfl) <|
  Ok.cons (so_iload_n dX7_takes_43 rfl rfl) <|
  Ok.cons (so_ia0 dX7_takes_44 rfl) <|
  Ok.cons (so_ix dX7_takes_45 rfl) <|
  Ok.cons (so_iinc dX7_takes_46 (by decide) (by decide) rfl) <|
  Ok.cons (so_goto dX7_takes_49 (by decide)) <|
  Ok.cons (so_aload_n dX7_takes_52 rfl rfl) <|
  Ok.cons (so_iconst dX7_takes_53 (by decide) rfl) <|
  Ok.cons (so_pf (C := RX7) (T := TX7) (N := 42) inGX7 tyX7_ok nmX7 rfl (by decide) wq_1182 rfl rfl rfl dX7_takes_54 rfl) <|
  Ok.cons (so_aload_n dX7_takes_57 rfl rfl) <|
  Ok.cons (so_iconst dX7_takes_58 (by decide) rfl) <|
  Ok.cons (so_pz (C := RX7) (T := TX7) (N := 42) inGX7 tyX7_ok nmX7 rfl (by decide) wq_1211 rfl rfl rfl dX7_takes_59 rfl) <|
  Ok.cons (so_aload_n dX7_takes_62 rfl rfl) <|
  Ok.cons (so_iconst dX7_takes_63 (by decide) rfl) <|
  Ok.cons (so_pz (C := RX7) (T := TX7) (N := 42) inGX7 tyX7_ok nmX7 rfl (by decide) wq_1212 rfl rfl rfl dX7_takes_64 rfl) <|
  Ok.cons (so_vr rfl dX7_takes_67) <| Ok.nil
theorem ct_X7_takes (l : Launch) : Ct l yX7_takes cX7_takes 2 none 1 layM f_X7_takes := ofRunL (by decide) rfl (ok_X7_takes l)
noncomputable def t_X7_here : Tbl := [(0, s_al 1 0),
  (1, s_gf 4 layM 7 10),
  (4, s_al 5 0),
  (5, s_gf 8 layM 7 9),
  (8, s_cge 11 23),
  (11, s_al 12 0),
  (12, s_gf 15 layM 7 1),
  (15, s_al 16 0),
  (16, s_gf 19 layM 7 10),
  (19, s_ia 20 layM 0),
  (20, s_go 24),
  (23, s_ic 24 (-1)),
  (24, s_ir)]
def cs_X7_here : Cs := []
noncomputable def f_X7_here : List Vv → Mm → Option Ou := lock (sem t_X7_here cs_X7_here 1)
set_option maxRecDepth 20000 in
theorem ok_X7_here (l : Launch) : Ok l RX7 cX7_here 1 1 (some .int) layM t_X7_here :=
  Ok.cons (so_aload_n dX7_here_0 rfl rfl) <|
  Ok.cons (so_gf (C := RX7) (T := TX7) (N := 42) inGX7 rfl (by decide) wq_1184 rfl dX7_here_1 rfl) <|
  Ok.cons (so_aload_n dX7_here_4 rfl rfl) <|
  Ok.cons (so_gf (C := RX7) (T := TX7) (N := 42) inGX7 rfl (by decide) wq_1183 rfl dX7_here_5 rfl) <|
  Ok.cons (so_cge dX7_here_8 (by decide) rfl) <|
  Ok.cons (so_aload_n dX7_here_11 rfl rfl) <|
  Ok.cons (so_gf (C := RX7) (T := TX7) (N := 42) inGX7 rfl (by decide) wq_1175 rfl dX7_here_12 rfl) <|
  Ok.cons (so_aload_n dX7_here_15 rfl rfl) <|
  Ok.cons (so_gf (C := RX7) (T := TX7) (N := 42) inGX7 rfl (by decide) wq_1184 rfl dX7_here_16 rfl) <|
  Ok.cons (so_ia0 dX7_here_19 rfl) <|
  Ok.cons (so_goto dX7_here_20 (by decide)) <|
  Ok.cons (so_iconst dX7_here_23 (by decide) rfl) <|
  Ok.cons (so_ir rfl dX7_here_24) <| Ok.nil
theorem ct_X7_here (l : Launch) : Ct l yX7_here cX7_here 1 (some .int) 1 layM f_X7_here := ofRunL (by decide) rfl (ok_X7_here l)
noncomputable def t_X7_isSmall : Tbl := [(0, s_il 1 0),
  (1, s_ic 3 97),
  (3, s_clt 6 16),
  (6, s_il 7 0),
  (7, s_ic 9 122),
  (9, s_cgt 12 16),
  (12, s_ic 13 1),
  (13, s_go 17),
  (16, s_ic 17 0),
  (17, s_zr)]
def cs_X7_isSmall : Cs := []
noncomputable def f_X7_isSmall : List Vv → Mm → Option Ou := lock (sem t_X7_isSmall cs_X7_isSmall 1)
set_option maxRecDepth 20000 in
theorem ok_X7_isSmall (l : Launch) : Ok l RX7 cX7_isSmall 1 1 (some .boolean) lay0 t_X7_isSmall :=
  Ok.cons (so_iload_n dX7_isSmall_0 rfl rfl) <|
  Ok.cons (so_bipush dX7_isSmall_1 (by decide) rfl) <|
  Ok.cons (so_clt dX7_isSmall_3 (by decide) rfl) <|
  Ok.cons (so_iload_n dX7_isSmall_6 rfl rfl) <|
  Ok.cons (so_bipush dX7_isSmall_7 (by decide) rfl) <|
  Ok.cons (so_cgt dX7_isSmall_9 (by decide) rfl) <|
  Ok.cons (so_iconst dX7_isSmall_12 (by decide) rfl) <|
  Ok.cons (so_goto dX7_isSmall_13 (by decide)) <|
  Ok.cons (so_iconst dX7_isSmall_16 (by decide) rfl) <|
  Ok.cons (so_zr rfl dX7_isSmall_17) <| Ok.nil
theorem ct_X7_isSmall (l : Launch) : Ct l yX7_isSmall cX7_isSmall 1 (some .boolean) 1 lay0 f_X7_isSmall := ofRunL (by decide) rfl (ok_X7_isSmall l)
noncomputable def t_X7_isDigit : Tbl := [(0, s_il 1 0),
  (1, s_ic 3 48),
  (3, s_clt 6 16),
  (6, s_il 7 0),
  (7, s_ic 9 57),
  (9, s_cgt 12 16),
  (12, s_ic 13 1),
  (13, s_go 17),
  (16, s_ic 17 0),
  (17, s_zr)]
def cs_X7_isDigit : Cs := []
noncomputable def f_X7_isDigit : List Vv → Mm → Option Ou := lock (sem t_X7_isDigit cs_X7_isDigit 1)
set_option maxRecDepth 20000 in
theorem ok_X7_isDigit (l : Launch) : Ok l RX7 cX7_isDigit 1 1 (some .boolean) lay0 t_X7_isDigit :=
  Ok.cons (so_iload_n dX7_isDigit_0 rfl rfl) <|
  Ok.cons (so_bipush dX7_isDigit_1 (by decide) rfl) <|
  Ok.cons (so_clt dX7_isDigit_3 (by decide) rfl) <|
  Ok.cons (so_iload_n dX7_isDigit_6 rfl rfl) <|
  Ok.cons (so_bipush dX7_isDigit_7 (by decide) rfl) <|
  Ok.cons (so_cgt dX7_isDigit_9 (by decide) rfl) <|
  Ok.cons (so_iconst dX7_isDigit_12 (by decide) rfl) <|
  Ok.cons (so_goto dX7_isDigit_13 (by decide)) <|
  Ok.cons (so_iconst dX7_isDigit_16 (by decide) rfl) <|
  Ok.cons (so_zr rfl dX7_isDigit_17) <| Ok.nil
theorem ct_X7_isDigit (l : Launch) : Ct l yX7_isDigit cX7_isDigit 1 (some .boolean) 1 lay0 f_X7_isDigit := ofRunL (by decide) rfl (ok_X7_isDigit l)
noncomputable def t_X7_wordHere : Tbl := [(0, s_ic 1 0),
  (1, s_is 2 1),
  (2, s_ic 3 0),
  (3, s_is 4 2),
  (4, s_il 5 2),
  (5, s_ls 7),
  (7, s_ln 10),
  (10, s_cge 13 123),
  (13, s_ic 14 0),
  (14, s_is 15 3),
  (15, s_ls 17),
  (17, s_il 18 2),
  (18, s_il 19 3),
  (19, s_b 20 (fun x y => x + y)),
  (20, s_ch 23),
  (23, s_ic 25 32),
  (25, s_ceq 28 69),
  (28, s_al 29 0),
  (29, s_gf 32 layM 7 11),
  (32, s_il 33 3),
  (33, s_b 34 (fun x y => x + y)),
  (34, s_al 35 0),
  (35, s_gf 38 layM 7 10),
  (38, s_cge 41 69),
  (41, s_al 42 0),
  (42, s_gf 45 layM 7 1),
  (45, s_al 46 0),
  (46, s_gf 49 layM 7 11),
  (49, s_il 50 3),
  (50, s_b 51 (fun x y => x + y)),
  (51, s_ia 52 layM 0),
  (52, s_ls 54),
  (54, s_il 55 2),
  (55, s_il 56 3),
  (56, s_b 57 (fun x y => x + y)),
  (57, s_ch 60),
  (60, s_cne 63 69),
  (63, s_in 66 3 1),
  (66, s_go 15),
  (69, s_ls 71),
  (71, s_il 72 2),
  (72, s_il 73 3),
  (73, s_b 74 (fun x y => x + y)),
  (74, s_ch 77),
  (77, s_ic 79 32),
  (79, s_cne 82 97),
  (82, s_al 83 0),
  (83, s_gf 86 layM 7 11),
  (86, s_il 87 3),
  (87, s_b 88 (fun x y => x + y)),
  (88, s_al 89 0),
  (89, s_gf 92 layM 7 10),
  (92, s_cne 95 97),
  (95, s_il 96 1),
  (96, s_ir),
  (97, s_ls 99),
  (99, s_il 100 2),
  (100, s_ch 103),
  (103, s_ic 105 32),
  (105, s_ceq 108 114),
  (108, s_in 111 2 1),
  (111, s_go 97),
  (114, s_in 117 2 1),
  (117, s_in 120 1 1),
  (120, s_go 4),
  (123, s_ic 124 (-1)),
  (124, s_ir)]
def cs_X7_wordHere : Cs := [(4, [0, 1, 2]), (15, [0, 1, 2, 3]), (69, [0, 1, 2, 3]), (97, [0, 1, 2])]
noncomputable def f_X7_wordHere : List Vv → Mm → Option Ou := lock (sem t_X7_wordHere cs_X7_wordHere 4)
set_option maxRecDepth 20000 in
theorem ok_X7_wordHere (l : Launch) : Ok l RX7 cX7_wordHere 4 6 (some .int) layM t_X7_wordHere :=
  Ok.cons (so_iconst dX7_wordHere_0 (by decide) rfl) <|
  Ok.cons (so_istore_n dX7_wordHere_1 rfl (by decide) rfl) <|
  Ok.cons (so_iconst dX7_wordHere_2 (by decide) rfl) <|
  Ok.cons (so_istore_n dX7_wordHere_3 rfl (by decide) rfl) <|
  Ok.cons (so_iload_n dX7_wordHere_4 rfl rfl) <|
  Ok.cons (so_ls dX7_wordHere_5 rfl) <|
  Ok.cons (so_ln (by decide) wq_1329 dX7_wordHere_7 rfl) <|
  Ok.cons (so_cge dX7_wordHere_10 (by decide) rfl) <|
  Ok.cons (so_iconst dX7_wordHere_13 (by decide) rfl) <|
  Ok.cons (so_istore_n dX7_wordHere_14 rfl (by decide) rfl) <|
  Ok.cons (so_ls dX7_wordHere_15 rfl) <|
  Ok.cons (so_iload_n dX7_wordHere_17 rfl rfl) <|
  Ok.cons (so_iload_n dX7_wordHere_18 rfl rfl) <|
  Ok.cons (so_iadd dX7_wordHere_19 rfl) <|
  Ok.cons (so_ch (by decide) wq_1339 dX7_wordHere_20 rfl) <|
  Ok.cons (so_bipush dX7_wordHere_23 (by decide) rfl) <|
  Ok.cons (so_ceq dX7_wordHere_25 (by decide) rfl) <|
  Ok.cons (so_aload_n dX7_wordHere_28 rfl rfl) <|
  Ok.cons (so_gf (C := RX7) (T := TX7) (N := 42) inGX7 rfl (by decide) wq_1185 rfl dX7_wordHere_29 rfl) <|
  Ok.cons (so_iload_n dX7_wordHere_32 rfl rfl) <|
  Ok.cons (so_iadd dX7_wordHere_33 rfl) <|
  Ok.cons (so_aload_n dX7_wordHere_34 rfl rfl) <|
  Ok.cons (so_gf (C := RX7) (T := TX7) (N := 42) inGX7 rfl (by decide) wq_1184 rfl dX7_wordHere_35 rfl) <|
  Ok.cons (so_cge dX7_wordHere_38 (by decide) rfl) <|
  Ok.cons (so_aload_n dX7_wordHere_41 rfl rfl) <|
  Ok.cons (so_gf (C := RX7) (T := TX7) (N := 42) inGX7 rfl (by decide) wq_1175 rfl dX7_wordHere_42 rfl) <|
  Ok.cons (so_aload_n dX7_wordHere_45 rfl rfl) <|
  Ok.cons (so_gf (C := RX7) (T := TX7) (N := 42) inGX7 rfl (by decide) wq_1185 rfl dX7_wordHere_46 rfl) <|
  Ok.cons (so_iload_n dX7_wordHere_49 rfl rfl) <|
  Ok.cons (so_iadd dX7_wordHere_50 rfl) <|
  Ok.cons (so_ia0 dX7_wordHere_51 rfl) <|
  Ok.cons (so_ls dX7_wordHere_52 rfl) <|
  Ok.cons (so_iload_n dX7_wordHere_54 rfl rfl) <|
  Ok.cons (so_iload_n dX7_wordHere_55 rfl rfl) <|
  Ok.cons (so_iadd dX7_wordHere_56 rfl) <|
  Ok.cons (so_ch (by decide) wq_1339 dX7_wordHere_57 rfl) <|
  Ok.cons (so_cne dX7_wordHere_60 (by decide) rfl) <|
  Ok.cons (so_iinc dX7_wordHere_63 (by decide) (by decide) rfl) <|
  Ok.cons (so_goto dX7_wordHere_66 (by decide)) <|
  Ok.cons (so_ls dX7_wordHere_69 rfl) <|
  Ok.cons (so_iload_n dX7_wordHere_71 rfl rfl) <|
  Ok.cons (so_iload_n dX7_wordHere_72 rfl rfl) <|
  Ok.cons (so_iadd dX7_wordHere_73 rfl) <|
  Ok.cons (so_ch (by decide) wq_1339 dX7_wordHere_74 rfl) <|
  Ok.cons (so_bipush dX7_wordHere_77 (by decide) rfl) <|
  Ok.cons (so_cne dX7_wordHere_79 (by decide) rfl) <|
  Ok.cons (so_aload_n dX7_wordHere_82 rfl rfl) <|
  Ok.cons (so_gf (C := RX7) (T := TX7) (N := 42) inGX7 rfl (by decide) wq_1185 rfl dX7_wordHere_83 rfl) <|
  Ok.cons (so_iload_n dX7_wordHere_86 rfl rfl) <|
  Ok.cons (so_iadd dX7_wordHere_87 rfl) <|
  Ok.cons (so_aload_n dX7_wordHere_88 rfl rfl) <|
  Ok.cons (so_gf (C := RX7) (T := TX7) (N := 42) inGX7 rfl (by decide) wq_1184 rfl dX7_wordHere_89 rfl) <|
  Ok.cons (so_cne dX7_wordHere_92 (by decide) rfl) <|
  Ok.cons (so_iload_n dX7_wordHere_95 rfl rfl) <|
  Ok.cons (so_ir rfl dX7_wordHere_96) <|
  Ok.cons (so_ls dX7_wordHere_97 rfl) <|
  Ok.cons (so_iload_n dX7_wordHere_99 rfl rfl) <|
  Ok.cons (so_ch (by decide) wq_1339 dX7_wordHere_100 rfl) <|
  Ok.cons (so_bipush dX7_wordHere_103 (by decide) rfl) <|
  Ok.cons (so_ceq dX7_wordHere_105 (by decide) rfl) <|
  Ok.cons (so_iinc dX7_wordHere_108 (by decide) (by decide) rfl) <|
  Ok.cons (so_goto dX7_wordHere_111 (by decide)) <|
  Ok.cons (so_iinc dX7_wordHere_114 (by decide) (by decide) rfl) <|
  Ok.cons (so_iinc dX7_wordHere_117 (by decide) (by decide) rfl) <|
  Ok.cons (so_goto dX7_wordHere_120 (by decide)) <|
  Ok.cons (so_iconst dX7_wordHere_123 (by decide) rfl) <|
  Ok.cons (so_ir rfl dX7_wordHere_124) <| Ok.nil
theorem ct_X7_wordHere (l : Launch) : Ct l yX7_wordHere cX7_wordHere 4 (some .int) 6 layM f_X7_wordHere := ofRunL (by decide) rfl (ok_X7_wordHere l)
noncomputable def t_X7_next : Tbl := [(0, s_al 1 0),
  (1, s_ci0 true 4 1 f_X7_here),
  (4, s_ic 6 10),
  (6, s_ceq 9 18),
  (9, s_al 10 0),
  (10, s_ci0 true 13 1 f_X7_here),
  (13, s_ic 15 32),
  (15, s_cne 18 31),
  (18, s_al 19 0),
  (19, s_dup 20),
  (20, s_gf 23 layM 7 10),
  (23, s_ic 24 1),
  (24, s_b 25 (fun x y => x + y)),
  (25, s_pf 28 layM 7 10),
  (28, s_go 0),
  (31, s_al 32 0),
  (32, s_al 33 0),
  (33, s_gf 36 layM 7 10),
  (36, s_pf 39 layM 7 11),
  (39, s_al 40 0),
  (40, s_ci0 true 43 1 f_X7_here),
  (43, s_is 44 1),
  (44, s_il 45 1),
  (45, s_ic 46 (-1)),
  (46, s_cne 49 57),
  (49, s_al 50 0),
  (50, s_ic 51 3),
  (51, s_pf 54 layM 7 12),
  (54, s_go 203),
  (57, s_il 58 1),
  (58, s_ci false 61 1 (sg0) f_X7_isSmall),
  (61, s_zeq 64 103),
  (64, s_al 65 0),
  (65, s_ci0 true 68 1 f_X7_here),
  (68, s_ci false 71 1 (sg0) f_X7_isSmall),
  (71, s_zeq 74 87),
  (74, s_al 75 0),
  (75, s_dup 76),
  (76, s_gf 79 layM 7 10),
  (79, s_ic 80 1),
  (80, s_b 81 (fun x y => x + y)),
  (81, s_pf 84 layM 7 10),
  (84, s_go 64),
  (87, s_al 88 0),
  (88, s_ic 89 0),
  (89, s_pf 92 layM 7 12),
  (92, s_al 93 0),
  (93, s_al 94 0),
  (94, s_ci0 true 97 1 f_X7_wordHere),
  (97, s_pf 100 layM 7 13),
  (100, s_go 203),
  (103, s_il 104 1),
  (104, s_ci false 107 1 (sg0) f_X7_isDigit),
  (107, s_zeq 110 178),
  (110, s_al 111 0),
  (111, s_ic 112 1),
  (112, s_pf 115 layM 7 12),
  (115, s_al 116 0),
  (116, s_ic 117 0),
  (117, s_pf 120 layM 7 13),
  (120, s_al 121 0),
  (121, s_ci0 true 124 1 f_X7_here),
  (124, s_ci false 127 1 (sg0) f_X7_isDigit),
  (127, s_zeq 130 203),
  (130, s_al 131 0),
  (131, s_al 132 0),
  (132, s_gf 135 layM 7 13),
  (135, s_ic 137 100000),
  (137, s_cle 140 147),
  (140, s_al 141 0),
  (141, s_gf 144 layM 7 13),
  (144, s_go 162),
  (147, s_ic 149 10),
  (149, s_al 150 0),
  (150, s_gf 153 layM 7 13),
  (153, s_b 154 (fun x y => x * y)),
  (154, s_al 155 0),
  (155, s_ci0 true 158 1 f_X7_here),
  (158, s_b 159 (fun x y => x + y)),
  (159, s_ic 161 48),
  (161, s_b 162 (fun x y => x - y)),
  (162, s_pf 165 layM 7 13),
  (165, s_al 166 0),
  (166, s_dup 167),
  (167, s_gf 170 layM 7 10),
  (170, s_ic 171 1),
  (171, s_b 172 (fun x y => x + y)),
  (172, s_pf 175 layM 7 10),
  (175, s_go 120),
  (178, s_al 179 0),
  (179, s_il 180 1),
  (180, s_ic 182 59),
  (182, s_cne 185 189),
  (185, s_ic 186 2),
  (186, s_go 190),
  (189, s_ic 190 4),
  (190, s_pf 193 layM 7 12),
  (193, s_al 194 0),
  (194, s_dup 195),
  (195, s_gf 198 layM 7 10),
  (198, s_ic 199 1),
  (199, s_b 200 (fun x y => x + y)),
  (200, s_pf 203 layM 7 10),
  (203, s_vr)]
def cs_X7_next : Cs := [(0, [0]), (64, [0]), (120, [0])]
noncomputable def f_X7_next : List Vv → Mm → Option Ou := lock (sem t_X7_next cs_X7_next 2)
set_option maxRecDepth 20000 in
theorem ok_X7_next (l : Launch) : Ok l RX7 cX7_next 2 7 none layM t_X7_next :=
  Ok.cons (so_aload_n dX7_next_0 rfl rfl) <|
  Ok.cons (so_vi0 (ct_X7_here l) wq_1320 wq_1317 wq_1319 wq_47 wq_95 (by decide +kernel) (by decide) rfl rfl dX7_next_1 rfl) <|
  Ok.cons (so_bipush dX7_next_4 (by decide) rfl) <|
  Ok.cons (so_ceq dX7_next_6 (by decide) rfl) <|
  Ok.cons (so_aload_n dX7_next_9 rfl rfl) <|
  Ok.cons (so_vi0 (ct_X7_here l) wq_1320 wq_1317 wq_1319 wq_47 wq_95 (by decide +kernel) (by decide) rfl rfl dX7_next_10 rfl) <|
  Ok.cons (so_bipush dX7_next_13 (by decide) rfl) <|
  Ok.cons (so_cne dX7_next_15 (by decide) rfl) <|
  Ok.cons (so_aload_n dX7_next_18 rfl rfl) <|
  Ok.cons (so_dup dX7_next_19 rfl) <|
  Ok.cons (so_gf (C := RX7) (T := TX7) (N := 42) inGX7 rfl (by decide) wq_1184 rfl dX7_next_20 rfl) <|
  Ok.cons (so_iconst dX7_next_23 (by decide) rfl) <|
  Ok.cons (so_iadd dX7_next_24 rfl) <|
  Ok.cons (so_pf (C := RX7) (T := TX7) (N := 42) inGX7 tyX7_ok nmX7 rfl (by decide) wq_1184 rfl rfl rfl dX7_next_25 rfl) <|
  Ok.cons (so_goto dX7_next_28 (by decide)) <|
  Ok.cons (so_aload_n dX7_next_31 rfl rfl) <|
  Ok.cons (so_aload_n dX7_next_32 rfl rfl) <|
  Ok.cons (so_gf (C := RX7) (T := TX7) (N := 42) inGX7 rfl (by decide) wq_1184 rfl dX7_next_33 rfl) <|
  Ok.cons (so_pf (C := RX7) (T := TX7) (N := 42) inGX7 tyX7_ok nmX7 rfl (by decide) wq_1185 rfl rfl rfl dX7_next_36 rfl) <|
  Ok.cons (so_aload_n dX7_next_39 rfl rfl) <|
  Ok.cons (so_vi0 (ct_X7_here l) wq_1320 wq_1317 wq_1319 wq_47 wq_95 (by decide +kernel) (by decide) rfl rfl dX7_next_40 rfl) <|
  Ok.cons (so_istore_n dX7_next_43 rfl (by decide) rfl) <|
  Ok.cons (so_iload_n dX7_next_44 rfl rfl) <|
  Ok.cons (so_iconst dX7_next_45 (by decide) rfl) <|
  Ok.cons (so_cne dX7_next_46 (by decide) rfl) <|
  Ok.cons (so_aload_n dX7_next_49 rfl rfl) <|
  Ok.cons (so_iconst dX7_next_50 (by decide) rfl) <|
  Ok.cons (so_pf (C := RX7) (T := TX7) (N := 42) inGX7 tyX7_ok nmX7 rfl (by decide) wq_1186 rfl rfl rfl dX7_next_51 rfl) <|
  Ok.cons (so_goto dX7_next_54 (by decide)) <|
  Ok.cons (so_iload_n dX7_next_57 rfl rfl) <|
  Ok.cons (so_si (ct_X7_isSmall l) wq_1323 wq_1321 wq_1322 wq_95 (by decide +kernel) (by decide) cmp_layM_sg0 dX7_next_58 rfl) <|
  Ok.cons (so_zeq dX7_next_61 (by decide) rfl) <|
  Ok.cons (so_aload_n dX7_next_64 rfl rfl) <|
  Ok.cons (so_vi0 (ct_X7_here l) wq_1320 wq_1317 wq_1319 wq_47 wq_95 (by decide +kernel) (by decide) rfl rfl dX7_next_65 rfl) <|
  Ok.cons (so_si (ct_X7_isSmall l) wq_1323 wq_1321 wq_1322 wq_95 (by decide +kernel) (by decide) cmp_layM_sg0 dX7_next_68 rfl) <|
  Ok.cons (so_zeq dX7_next_71 (by decide) rfl) <|
  Ok.cons (so_aload_n dX7_next_74 rfl rfl) <|
  Ok.cons (so_dup dX7_next_75 rfl) <|
  Ok.cons (so_gf (C := RX7) (T := TX7) (N := 42) inGX7 rfl (by decide) wq_1184 rfl dX7_next_76 rfl) <|
  Ok.cons (so_iconst dX7_next_79 (by decide) rfl) <|
  Ok.cons (so_iadd dX7_next_80 rfl) <|
  Ok.cons (so_pf (C := RX7) (T := TX7) (N := 42) inGX7 tyX7_ok nmX7 rfl (by decide) wq_1184 rfl rfl rfl dX7_next_81 rfl) <|
  Ok.cons (so_goto dX7_next_84 (by decide)) <|
  Ok.cons (so_aload_n dX7_next_87 rfl rfl) <|
  Ok.cons (so_iconst dX7_next_88 (by decide) rfl) <|
  Ok.cons (so_pf (C := RX7) (T := TX7) (N := 42) inGX7 tyX7_ok nmX7 rfl (by decide) wq_1186 rfl rfl rfl dX7_next_89 rfl) <|
  Ok.cons (so_aload_n dX7_next_92 rfl rfl) <|
  Ok.cons (so_aload_n dX7_next_93 rfl rfl) <|
  Ok.cons (so_vi0 (ct_X7_wordHere l) wq_1327 wq_1324 wq_1326 wq_48 wq_95 (by decide +kernel) (by decide) rfl rfl dX7_next_94 rfl) <|
  Ok.cons (so_pf (C := RX7) (T := TX7) (N := 42) inGX7 tyX7_ok nmX7 rfl (by decide) wq_1187 rfl rfl rfl dX7_next_97 rfl) <|
  Ok.cons (so_goto dX7_next_100 (by decide)) <|
  Ok.cons (so_iload_n dX7_next_103 rfl rfl) <|
  Ok.cons (so_si (ct_X7_isDigit l) wq_1379 wq_1377 wq_1378 wq_95 (by decide +kernel) (by decide) cmp_layM_sg0 dX7_next_104 rfl) <|
  Ok.cons (so_zeq dX7_next_107 (by decide) rfl) <|
  Ok.cons (so_aload_n dX7_next_110 rfl rfl) <|
  Ok.cons (so_iconst dX7_next_111 (by decide) rfl) <|
  Ok.cons (so_pf (C := RX7) (T := TX7) (N := 42) inGX7 tyX7_ok nmX7 rfl (by decide) wq_1186 rfl rfl rfl dX7_next_112 rfl) <|
  Ok.cons (so_aload_n dX7_next_115 rfl rfl) <|
  Ok.cons (so_iconst dX7_next_116 (by decide) rfl) <|
  Ok.cons (so_pf (C := RX7) (T := TX7) (N := 42) inGX7 tyX7_ok nmX7 rfl (by decide) wq_1187 rfl rfl rfl dX7_next_117 rfl) <|
  Ok.cons (so_aload_n dX7_next_120 rfl rfl) <|
  Ok.cons (so_vi0 (ct_X7_here l) wq_1320 wq_1317 wq_1319 wq_47 wq_95 (by decide +kernel) (by decide) rfl rfl dX7_next_121 rfl) <|
  Ok.cons (so_si (ct_X7_isDigit l) wq_1379 wq_1377 wq_1378 wq_95 (by decide +kernel) (by decide) cmp_layM_sg0 dX7_next_124 rfl) <|
  Ok.cons (so_zeq dX7_next_127 (by decide) rfl) <|
  Ok.cons (so_aload_n dX7_next_130 rfl rfl) <|
  Ok.cons (so_aload_n dX7_next_131 rfl rfl) <|
  Ok.cons (so_gf (C := RX7) (T := TX7) (N := 42) inGX7 rfl (by decide) wq_1187 rfl dX7_next_132 rfl) <|
  Ok.cons (so_ldc wq_1380 dX7_next_135 rfl) <|
  Ok.cons (so_cle dX7_next_137 (by decide) rfl) <|
  Ok.cons (so_aload_n dX7_next_140 rfl rfl) <|
  Ok.cons (so_gf (C := RX7) (T := TX7) (N := 42) inGX7 rfl (by decide) wq_1187 rfl dX7_next_141 rfl) <|
  Ok.cons (so_goto dX7_next_144 (by decide)) <|
  Ok.cons (so_bipush dX7_next_147 (by decide) rfl) <|
  Ok.cons (so_aload_n dX7_next_149 rfl rfl) <|
  Ok.cons (so_gf (C := RX7) (T := TX7) (N := 42) inGX7 rfl (by decide) wq_1187 rfl dX7_next_150 rfl) <|
  Ok.cons (so_imul dX7_next_153 rfl) <|
  Ok.cons (so_aload_n dX7_next_154 rfl rfl) <|
  Ok.cons (so_vi0 (ct_X7_here l) wq_1320 wq_1317 wq_1319 wq_47 wq_95 (by decide +kernel) (by decide) rfl rfl dX7_next_155 rfl) <|
  Ok.cons (so_iadd dX7_next_158 rfl) <|
  Ok.cons (so_bipush dX7_next_159 (by decide) rfl) <|
  Ok.cons (so_isub dX7_next_161 rfl) <|
  Ok.cons (so_pf (C := RX7) (T := TX7) (N := 42) inGX7 tyX7_ok nmX7 rfl (by decide) wq_1187 rfl rfl rfl dX7_next_162 rfl) <|
  Ok.cons (so_aload_n dX7_next_165 rfl rfl) <|
  Ok.cons (so_dup dX7_next_166 rfl) <|
  Ok.cons (so_gf (C := RX7) (T := TX7) (N := 42) inGX7 rfl (by decide) wq_1184 rfl dX7_next_167 rfl) <|
  Ok.cons (so_iconst dX7_next_170 (by decide) rfl) <|
  Ok.cons (so_iadd dX7_next_171 rfl) <|
  Ok.cons (so_pf (C := RX7) (T := TX7) (N := 42) inGX7 tyX7_ok nmX7 rfl (by decide) wq_1184 rfl rfl rfl dX7_next_172 rfl) <|
  Ok.cons (so_goto dX7_next_175 (by decide)) <|
  Ok.cons (so_aload_n dX7_next_178 rfl rfl) <|
  Ok.cons (so_iload_n dX7_next_179 rfl rfl) <|
  Ok.cons (so_bipush dX7_next_180 (by decide) rfl) <|
  Ok.cons (so_cne dX7_next_182 (by decide) rfl) <|
  Ok.cons (so_iconst dX7_next_185 (by decide) rfl) <|
  Ok.cons (so_goto dX7_next_186 (by decide)) <|
  Ok.cons (so_iconst dX7_next_189 (by decide) rfl) <|
  Ok.cons (so_pf (C := RX7) (T := TX7) (N := 42) inGX7 tyX7_ok nmX7 rfl (by decide) wq_1186 rfl rfl rfl dX7_next_190 rfl) <|
  Ok.cons (so_aload_n dX7_next_193 rfl rfl) <|
  Ok.cons (so_dup dX7_next_194 rfl) <|
  Ok.cons (so_gf (C := RX7) (T := TX7) (N := 42) inGX7 rfl (by decide) wq_1184 rfl dX7_next_195 rfl) <|
  Ok.cons (so_iconst dX7_next_198 (by decide) rfl) <|
  Ok.cons (so_iadd dX7_next_199 rfl) <|
  Ok.cons (so_pf (C := RX7) (T := TX7) (N := 42) inGX7 tyX7_ok nmX7 rfl (by decide) wq_1184 rfl rfl rfl dX7_next_200 rfl) <|
  Ok.cons (so_vr rfl dX7_next_203) <| Ok.nil
theorem ct_X7_next (l : Launch) : Ct l yX7_next cX7_next 2 none 7 layM f_X7_next := ofRunL (by decide) rfl (ok_X7_next l)
noncomputable def t_X7_failsIf : Tbl := [(0, s_al 1 0),
  (1, s_gf 4 layM 7 15),
  (4, s_zne 7 11),
  (7, s_il 8 1),
  (8, s_zne 11 12),
  (11, s_vr),
  (12, s_al 13 0),
  (13, s_il 14 2),
  (14, s_pf 17 layM 7 15),
  (17, s_al 18 0),
  (18, s_al 19 0),
  (19, s_gf 22 layM 7 11),
  (22, s_pf 25 layM 7 16),
  (25, s_vr)]
def cs_X7_failsIf : Cs := []
noncomputable def f_X7_failsIf : List Vv → Mm → Option Ou := lock (sem t_X7_failsIf cs_X7_failsIf 3)
set_option maxRecDepth 20000 in
theorem ok_X7_failsIf (l : Launch) : Ok l RX7 cX7_failsIf 3 1 none layM t_X7_failsIf :=
  Ok.cons (so_aload_n dX7_failsIf_0 rfl rfl) <|
  Ok.cons (so_gf (C := RX7) (T := TX7) (N := 42) inGX7 rfl (by decide) wq_1189 rfl dX7_failsIf_1 rfl) <|
  Ok.cons (so_zne dX7_failsIf_4 (by decide) rfl) <|
  Ok.cons (so_iload_n dX7_failsIf_7 rfl rfl) <|
  Ok.cons (so_zne dX7_failsIf_8 (by decide) rfl) <|
  Ok.cons (so_vr rfl dX7_failsIf_11) <|
  Ok.cons (so_aload_n dX7_failsIf_12 rfl rfl) <|
  Ok.cons (so_iload_n dX7_failsIf_13 rfl rfl) <|
  Ok.cons (so_pf (C := RX7) (T := TX7) (N := 42) inGX7 tyX7_ok nmX7 rfl (by decide) wq_1189 rfl rfl rfl dX7_failsIf_14 rfl) <|
  Ok.cons (so_aload_n dX7_failsIf_17 rfl rfl) <|
  Ok.cons (so_aload_n dX7_failsIf_18 rfl rfl) <|
  Ok.cons (so_gf (C := RX7) (T := TX7) (N := 42) inGX7 rfl (by decide) wq_1185 rfl dX7_failsIf_19 rfl) <|
  Ok.cons (so_pf (C := RX7) (T := TX7) (N := 42) inGX7 tyX7_ok nmX7 rfl (by decide) wq_1190 rfl rfl rfl dX7_failsIf_22 rfl) <|
  Ok.cons (so_vr rfl dX7_failsIf_25) <| Ok.nil
theorem ct_X7_failsIf (l : Launch) : Ct l yX7_failsIf cX7_failsIf 3 none 1 layM f_X7_failsIf := ofRunL (by decide) rfl (ok_X7_failsIf l)
noncomputable def t_X7_goOn : Tbl := [(0, s_al 1 0),
  (1, s_gf 4 layM 7 15),
  (4, s_zne 7 11),
  (7, s_al 8 0),
  (8, s_cv0 true 11 1 f_X7_next),
  (11, s_vr)]
def cs_X7_goOn : Cs := []
noncomputable def f_X7_goOn : List Vv → Mm → Option Ou := lock (sem t_X7_goOn cs_X7_goOn 1)
set_option maxRecDepth 20000 in
theorem ok_X7_goOn (l : Launch) : Ok l RX7 cX7_goOn 1 8 none layM t_X7_goOn :=
  Ok.cons (so_aload_n dX7_goOn_0 rfl rfl) <|
  Ok.cons (so_gf (C := RX7) (T := TX7) (N := 42) inGX7 rfl (by decide) wq_1189 rfl dX7_goOn_1 rfl) <|
  Ok.cons (so_zne dX7_goOn_4 (by decide) rfl) <|
  Ok.cons (so_aload_n dX7_goOn_7 rfl rfl) <|
  Ok.cons (so_vv0 (ct_X7_next l) wq_1316 wq_1313 wq_1315 wq_46 wq_95 (by decide +kernel) (by decide) rfl rfl dX7_goOn_8 rfl) <|
  Ok.cons (so_vr rfl dX7_goOn_11) <| Ok.nil
theorem ct_X7_goOn (l : Launch) : Ct l yX7_goOn cX7_goOn 1 none 8 layM f_X7_goOn := ofRunL (by decide) rfl (ok_X7_goOn l)
noncomputable def t_X7_integer : Tbl := [(0, s_al 1 0),
  (1, s_al 2 0),
  (2, s_gf 5 layM 7 12),
  (5, s_ic 6 1),
  (6, s_ceq 9 13),
  (9, s_ic 10 1),
  (10, s_go 14),
  (13, s_ic 14 0),
  (14, s_ic 16 (-11)),
  (16, s_cv0 true 19 3 f_X7_failsIf),
  (19, s_al 20 0),
  (20, s_al 21 0),
  (21, s_gf 24 layM 7 13),
  (24, s_il 25 1),
  (25, s_clt 28 36),
  (28, s_al 29 0),
  (29, s_gf 32 layM 7 13),
  (32, s_il 33 2),
  (33, s_cle 36 40),
  (36, s_ic 37 1),
  (37, s_go 41),
  (40, s_ic 41 0),
  (41, s_ic 43 (-12)),
  (43, s_cv0 true 46 3 f_X7_failsIf),
  (46, s_al 47 0),
  (47, s_gf 50 layM 7 15),
  (50, s_zne 53 60),
  (53, s_al 54 0),
  (54, s_gf 57 layM 7 13),
  (57, s_go 61),
  (60, s_il 61 1),
  (61, s_is 62 3),
  (62, s_al 63 0),
  (63, s_cv0 true 66 1 f_X7_goOn),
  (66, s_il 67 3),
  (67, s_ir)]
def cs_X7_integer : Cs := [(14, [0, 1, 2]), (41, [0, 1]), (61, [0])]
noncomputable def f_X7_integer : List Vv → Mm → Option Ou := lock (sem t_X7_integer cs_X7_integer 4)
set_option maxRecDepth 20000 in
theorem ok_X7_integer (l : Launch) : Ok l RX7 cX7_integer 4 9 (some .int) layM t_X7_integer :=
  Ok.cons (so_aload_n dX7_integer_0 rfl rfl) <|
  Ok.cons (so_aload_n dX7_integer_1 rfl rfl) <|
  Ok.cons (so_gf (C := RX7) (T := TX7) (N := 42) inGX7 rfl (by decide) wq_1186 rfl dX7_integer_2 rfl) <|
  Ok.cons (so_iconst dX7_integer_5 (by decide) rfl) <|
  Ok.cons (so_ceq dX7_integer_6 (by decide) rfl) <|
  Ok.cons (so_iconst dX7_integer_9 (by decide) rfl) <|
  Ok.cons (so_goto dX7_integer_10 (by decide)) <|
  Ok.cons (so_iconst dX7_integer_13 (by decide) rfl) <|
  Ok.cons (so_bipush dX7_integer_14 (by decide) rfl) <|
  Ok.cons (so_vv0 (ct_X7_failsIf l) wq_1392 wq_1389 wq_1391 wq_51 wq_95 (by decide +kernel) (by decide) rfl rfl dX7_integer_16 rfl) <|
  Ok.cons (so_aload_n dX7_integer_19 rfl rfl) <|
  Ok.cons (so_aload_n dX7_integer_20 rfl rfl) <|
  Ok.cons (so_gf (C := RX7) (T := TX7) (N := 42) inGX7 rfl (by decide) wq_1187 rfl dX7_integer_21 rfl) <|
  Ok.cons (so_iload_n dX7_integer_24 rfl rfl) <|
  Ok.cons (so_clt dX7_integer_25 (by decide) rfl) <|
  Ok.cons (so_aload_n dX7_integer_28 rfl rfl) <|
  Ok.cons (so_gf (C := RX7) (T := TX7) (N := 42) inGX7 rfl (by decide) wq_1187 rfl dX7_integer_29 rfl) <|
  Ok.cons (so_iload_n dX7_integer_32 rfl rfl) <|
  Ok.cons (so_cle dX7_integer_33 (by decide) rfl) <|
  Ok.cons (so_iconst dX7_integer_36 (by decide) rfl) <|
  Ok.cons (so_goto dX7_integer_37 (by decide)) <|
  Ok.cons (so_iconst dX7_integer_40 (by decide) rfl) <|
  Ok.cons (so_bipush dX7_integer_41 (by decide) rfl) <|
  Ok.cons (so_vv0 (ct_X7_failsIf l) wq_1392 wq_1389 wq_1391 wq_51 wq_95 (by decide +kernel) (by decide) rfl rfl dX7_integer_43 rfl) <|
  Ok.cons (so_aload_n dX7_integer_46 rfl rfl) <|
  Ok.cons (so_gf (C := RX7) (T := TX7) (N := 42) inGX7 rfl (by decide) wq_1189 rfl dX7_integer_47 rfl) <|
  Ok.cons (so_zne dX7_integer_50 (by decide) rfl) <|
  Ok.cons (so_aload_n dX7_integer_53 rfl rfl) <|
  Ok.cons (so_gf (C := RX7) (T := TX7) (N := 42) inGX7 rfl (by decide) wq_1187 rfl dX7_integer_54 rfl) <|
  Ok.cons (so_goto dX7_integer_57 (by decide)) <|
  Ok.cons (so_iload_n dX7_integer_60 rfl rfl) <|
  Ok.cons (so_istore_n dX7_integer_61 rfl (by decide) rfl) <|
  Ok.cons (so_aload_n dX7_integer_62 rfl rfl) <|
  Ok.cons (so_vv0 (ct_X7_goOn l) wq_1396 wq_1393 wq_1395 wq_52 wq_95 (by decide +kernel) (by decide) rfl rfl dX7_integer_63 rfl) <|
  Ok.cons (so_iload_n dX7_integer_66 rfl rfl) <|
  Ok.cons (so_ir rfl dX7_integer_67) <| Ok.nil
theorem ct_X7_integer (l : Launch) : Ct l yX7_integer cX7_integer 4 (some .int) 9 layM f_X7_integer := ofRunL (by decide) rfl (ok_X7_integer l)
noncomputable def t_X7_seesName : Tbl := [(0, s_al 1 0),
  (1, s_al 2 0),
  (2, s_gf 5 layM 7 12),
  (5, s_zne 8 30),
  (8, s_al 9 0),
  (9, s_gf 12 layM 7 13),
  (12, s_ic 13 (-1)),
  (13, s_cne 16 30),
  (16, s_al 17 0),
  (17, s_gf 20 layM 7 10),
  (20, s_al 21 0),
  (21, s_gf 24 layM 7 11),
  (24, s_b 25 (fun x y => x - y)),
  (25, s_ic 27 6),
  (27, s_cle 30 34),
  (30, s_ic 31 1),
  (31, s_go 35),
  (34, s_ic 35 0),
  (35, s_ic 37 (-11)),
  (37, s_cv0 true 40 3 f_X7_failsIf),
  (40, s_al 41 0),
  (41, s_ic 42 0),
  (42, s_pf 45 layM 7 14),
  (45, s_ic 46 0),
  (46, s_is 47 1),
  (47, s_il 48 1),
  (48, s_ic 50 6),
  (50, s_cge 53 110),
  (53, s_al 54 0),
  (54, s_gf 57 layM 7 15),
  (57, s_zne 60 110),
  (60, s_al 61 0),
  (61, s_al 62 0),
  (62, s_gf 65 layM 7 14),
  (65, s_ic 66 5),
  (66, s_b 67 (fun x y => x <<< (y &&& 31))),
  (67, s_al 68 0),
  (68, s_gf 71 layM 7 11),
  (71, s_il 72 1),
  (72, s_b 73 (fun x y => x + y)),
  (73, s_al 74 0),
  (74, s_gf 77 layM 7 10),
  (77, s_cge 80 99),
  (80, s_al 81 0),
  (81, s_gf 84 layM 7 1),
  (84, s_al 85 0),
  (85, s_gf 88 layM 7 11),
  (88, s_il 89 1),
  (89, s_b 90 (fun x y => x + y)),
  (90, s_ia 91 layM 0),
  (91, s_ic 93 97),
  (93, s_b 94 (fun x y => x - y)),
  (94, s_ic 95 1),
  (95, s_b 96 (fun x y => x + y)),
  (96, s_go 100),
  (99, s_ic 100 0),
  (100, s_b 101 (fun x y => x ||| y)),
  (101, s_pf 104 layM 7 14),
  (104, s_in 107 1 1),
  (107, s_go 47),
  (110, s_vr)]
def cs_X7_seesName : Cs := [(35, [0]), (47, [0, 1])]
noncomputable def f_X7_seesName : List Vv → Mm → Option Ou := lock (sem t_X7_seesName cs_X7_seesName 2)
set_option maxRecDepth 20000 in
theorem ok_X7_seesName (l : Launch) : Ok l RX7 cX7_seesName 2 2 none layM t_X7_seesName :=
  Ok.cons (so_aload_n dX7_seesName_0 rfl rfl) <|
  Ok.cons (so_aload_n dX7_seesName_1 rfl rfl) <|
  Ok.cons (so_gf (C := RX7) (T := TX7) (N := 42) inGX7 rfl (by decide) wq_1186 rfl dX7_seesName_2 rfl) <|
  Ok.cons (so_zne dX7_seesName_5 (by decide) rfl) <|
  Ok.cons (so_aload_n dX7_seesName_8 rfl rfl) <|
  Ok.cons (so_gf (C := RX7) (T := TX7) (N := 42) inGX7 rfl (by decide) wq_1187 rfl dX7_seesName_9 rfl) <|
  Ok.cons (so_iconst dX7_seesName_12 (by decide) rfl) <|
  Ok.cons (so_cne dX7_seesName_13 (by decide) rfl) <|
  Ok.cons (so_aload_n dX7_seesName_16 rfl rfl) <|
  Ok.cons (so_gf (C := RX7) (T := TX7) (N := 42) inGX7 rfl (by decide) wq_1184 rfl dX7_seesName_17 rfl) <|
  Ok.cons (so_aload_n dX7_seesName_20 rfl rfl) <|
  Ok.cons (so_gf (C := RX7) (T := TX7) (N := 42) inGX7 rfl (by decide) wq_1185 rfl dX7_seesName_21 rfl) <|
  Ok.cons (so_isub dX7_seesName_24 rfl) <|
  Ok.cons (so_bipush dX7_seesName_25 (by decide) rfl) <|
  Ok.cons (so_cle dX7_seesName_27 (by decide) rfl) <|
  Ok.cons (so_iconst dX7_seesName_30 (by decide) rfl) <|
  Ok.cons (so_goto dX7_seesName_31 (by decide)) <|
  Ok.cons (so_iconst dX7_seesName_34 (by decide) rfl) <|
  Ok.cons (so_bipush dX7_seesName_35 (by decide) rfl) <|
  Ok.cons (so_vv0 (ct_X7_failsIf l) wq_1392 wq_1389 wq_1391 wq_51 wq_95 (by decide +kernel) (by decide) rfl rfl dX7_seesName_37 rfl) <|
  Ok.cons (so_aload_n dX7_seesName_40 rfl rfl) <|
  Ok.cons (so_iconst dX7_seesName_41 (by decide) rfl) <|
  Ok.cons (so_pf (C := RX7) (T := TX7) (N := 42) inGX7 tyX7_ok nmX7 rfl (by decide) wq_1188 rfl rfl rfl dX7_seesName_42 rfl) <|
  Ok.cons (so_iconst dX7_seesName_45 (by decide) rfl) <|
  Ok.cons (so_istore_n dX7_seesName_46 rfl (by decide) rfl) <|
  Ok.cons (so_iload_n dX7_seesName_47 rfl rfl) <|
  Ok.cons (so_bipush dX7_seesName_48 (by decide) rfl) <|
  Ok.cons (so_cge dX7_seesName_50 (by decide) rfl) <|
  Ok.cons (so_aload_n dX7_seesName_53 rfl rfl) <|
  Ok.cons (so_gf (C := RX7) (T := TX7) (N := 42) inGX7 rfl (by decide) wq_1189 rfl dX7_seesName_54 rfl) <|
  Ok.cons (so_zne dX7_seesName_57 (by decide) rfl) <|
  Ok.cons (so_aload_n dX7_seesName_60 rfl rfl) <|
  Ok.cons (so_aload_n dX7_seesName_61 rfl rfl) <|
  Ok.cons (so_gf (C := RX7) (T := TX7) (N := 42) inGX7 rfl (by decide) wq_1188 rfl dX7_seesName_62 rfl) <|
  Ok.cons (so_iconst dX7_seesName_65 (by decide) rfl) <|
  Ok.cons (so_ishl dX7_seesName_66 rfl) <|
  Ok.cons (so_aload_n dX7_seesName_67 rfl rfl) <|
  Ok.cons (so_gf (C := RX7) (T := TX7) (N := 42) inGX7 rfl (by decide) wq_1185 rfl dX7_seesName_68 rfl) <|
  Ok.cons (so_iload_n dX7_seesName_71 rfl rfl) <|
  Ok.cons (so_iadd dX7_seesName_72 rfl) <|
  Ok.cons (so_aload_n dX7_seesName_73 rfl rfl) <|
  Ok.cons (so_gf (C := RX7) (T := TX7) (N := 42) inGX7 rfl (by decide) wq_1184 rfl dX7_seesName_74 rfl) <|
  Ok.cons (so_cge dX7_seesName_77 (by decide) rfl) <|
  Ok.cons (so_aload_n dX7_seesName_80 rfl rfl) <|
  Ok.cons (so_gf (C := RX7) (T := TX7) (N := 42) inGX7 rfl (by decide) wq_1175 rfl dX7_seesName_81 rfl) <|
  Ok.cons (so_aload_n dX7_seesName_84 rfl rfl) <|
  Ok.cons (so_gf (C := RX7) (T := TX7) (N := 42) inGX7 rfl (by decide) wq_1185 rfl dX7_seesName_85 rfl) <|
  Ok.cons (so_iload_n dX7_seesName_88 rfl rfl) <|
  Ok.cons (so_iadd dX7_seesName_89 rfl) <|
  Ok.cons (so_ia0 dX7_seesName_90 rfl) <|
  Ok.cons (so_bipush dX7_seesName_91 (by decide) rfl) <|
  Ok.cons (so_isub dX7_seesName_93 rfl) <|
  Ok.cons (so_iconst dX7_seesName_94 (by decide) rfl) <|
  Ok.cons (so_iadd dX7_seesName_95 rfl) <|
  Ok.cons (so_goto dX7_seesName_96 (by decide)) <|
  Ok.cons (so_iconst dX7_seesName_99 (by decide) rfl) <|
  Ok.cons (so_ior dX7_seesName_100 rfl) <|
  Ok.cons (so_pf (C := RX7) (T := TX7) (N := 42) inGX7 tyX7_ok nmX7 rfl (by decide) wq_1188 rfl rfl rfl dX7_seesName_101 rfl) <|
  Ok.cons (so_iinc dX7_seesName_104 (by decide) (by decide) rfl) <|
  Ok.cons (so_goto dX7_seesName_107 (by decide)) <|
  Ok.cons (so_vr rfl dX7_seesName_110) <| Ok.nil
theorem ct_X7_seesName (l : Launch) : Ct l yX7_seesName cX7_seesName 2 none 2 layM f_X7_seesName := ofRunL (by decide) rfl (ok_X7_seesName l)
noncomputable def t_X7_found : Tbl := [(0, s_ic 1 0),
  (1, s_is 2 2),
  (2, s_il 3 2),
  (3, s_al 4 0),
  (4, s_ic 6 18),
  (6, s_ia 7 layM 0),
  (7, s_cge 10 27),
  (10, s_al 11 0),
  (11, s_ic 12 0),
  (12, s_il 13 2),
  (13, s_b 14 (fun x y => x + y)),
  (14, s_ia 15 layM 0),
  (15, s_il 16 1),
  (16, s_cne 19 21),
  (19, s_il 20 2),
  (20, s_ir),
  (21, s_in 24 2 1),
  (24, s_go 2),
  (27, s_ic 28 (-1)),
  (28, s_ir)]
def cs_X7_found : Cs := [(2, [0, 1, 2])]
noncomputable def f_X7_found : List Vv → Mm → Option Ou := lock (sem t_X7_found cs_X7_found 3)
set_option maxRecDepth 20000 in
theorem ok_X7_found (l : Launch) : Ok l RX7 cX7_found 3 1 (some .int) layM t_X7_found :=
  Ok.cons (so_iconst dX7_found_0 (by decide) rfl) <|
  Ok.cons (so_istore_n dX7_found_1 rfl (by decide) rfl) <|
  Ok.cons (so_iload_n dX7_found_2 rfl rfl) <|
  Ok.cons (so_aload_n dX7_found_3 rfl rfl) <|
  Ok.cons (so_bipush dX7_found_4 (by decide) rfl) <|
  Ok.cons (so_ia0 dX7_found_6 rfl) <|
  Ok.cons (so_cge dX7_found_7 (by decide) rfl) <|
  Ok.cons (so_aload_n dX7_found_10 rfl rfl) <|
  Ok.cons (so_iconst dX7_found_11 (by decide) rfl) <|
  Ok.cons (so_iload_n dX7_found_12 rfl rfl) <|
  Ok.cons (so_iadd dX7_found_13 rfl) <|
  Ok.cons (so_ia0 dX7_found_14 rfl) <|
  Ok.cons (so_iload_n dX7_found_15 rfl rfl) <|
  Ok.cons (so_cne dX7_found_16 (by decide) rfl) <|
  Ok.cons (so_iload_n dX7_found_19 rfl rfl) <|
  Ok.cons (so_ir rfl dX7_found_20) <|
  Ok.cons (so_iinc dX7_found_21 (by decide) (by decide) rfl) <|
  Ok.cons (so_goto dX7_found_24 (by decide)) <|
  Ok.cons (so_iconst dX7_found_27 (by decide) rfl) <|
  Ok.cons (so_ir rfl dX7_found_28) <| Ok.nil
theorem ct_X7_found (l : Launch) : Ct l yX7_found cX7_found 3 (some .int) 1 layM f_X7_found := ofRunL (by decide) rfl (ok_X7_found l)
noncomputable def t_X7_readIron : Tbl := [(0, s_al 1 0),
  (1, s_al 2 0),
  (2, s_gf 5 layM 7 4),
  (5, s_ic 7 18),
  (7, s_ia 8 layM 0),
  (8, s_ic 10 6),
  (10, s_cne 13 17),
  (13, s_ic 14 1),
  (14, s_go 18),
  (17, s_ic 18 0),
  (18, s_ic 20 (-15)),
  (20, s_cv0 true 23 3 f_X7_failsIf),
  (23, s_al 24 0),
  (24, s_cv0 true 27 1 f_X7_goOn),
  (27, s_al 28 0),
  (28, s_cv0 true 31 1 f_X7_seesName),
  (31, s_al 32 0),
  (32, s_al 33 0),
  (33, s_gf 36 layM 7 15),
  (36, s_zne 39 58),
  (39, s_al 40 0),
  (40, s_gf 43 layM 7 4),
  (43, s_al 44 0),
  (44, s_gf 47 layM 7 14),
  (47, s_ci0 false 50 2 f_X7_found),
  (50, s_ic 51 (-1)),
  (51, s_ceq 54 58),
  (54, s_ic 55 1),
  (55, s_go 59),
  (58, s_ic 59 0),
  (59, s_ic 61 (-14)),
  (61, s_cv0 true 64 3 f_X7_failsIf),
  (64, s_al 65 0),
  (65, s_cv0 true 68 1 f_X7_goOn),
  (68, s_al 69 0),
  (69, s_ic 70 1),
  (70, s_ic 72 9),
  (72, s_ci0 true 75 3 f_X7_integer),
  (75, s_is 76 1),
  (76, s_al 77 0),
  (77, s_ic 78 1),
  (78, s_ic 80 99),
  (80, s_ci0 true 83 3 f_X7_integer),
  (83, s_is 84 2),
  (84, s_al 85 0),
  (85, s_gf 88 layM 7 15),
  (88, s_zeq 91 92),
  (91, s_vr),
  (92, s_al 93 0),
  (93, s_gf 96 layM 7 4),
  (96, s_ic 98 18),
  (98, s_ia 99 layM 0),
  (99, s_is 100 3),
  (100, s_al 101 0),
  (101, s_gf 104 layM 7 4),
  (104, s_ic 105 0),
  (105, s_il 106 3),
  (106, s_b 107 (fun x y => x + y)),
  (107, s_al 108 0),
  (108, s_gf 111 layM 7 14),
  (111, s_ix 112 layM 0),
  (112, s_al 113 0),
  (113, s_gf 116 layM 7 4),
  (116, s_ic 118 6),
  (118, s_il 119 3),
  (119, s_b 120 (fun x y => x + y)),
  (120, s_il 121 1),
  (121, s_ix 122 layM 0),
  (122, s_al 123 0),
  (123, s_gf 126 layM 7 4),
  (126, s_ic 128 12),
  (128, s_il 129 3),
  (129, s_b 130 (fun x y => x + y)),
  (130, s_il 131 2),
  (131, s_ix 132 layM 0),
  (132, s_al 133 0),
  (133, s_gf 136 layM 7 4),
  (136, s_ic 138 18),
  (138, s_dup2 139),
  (139, s_ia 140 layM 0),
  (140, s_ic 141 1),
  (141, s_b 142 (fun x y => x + y)),
  (142, s_ix 143 layM 0),
  (143, s_vr)]
def cs_X7_readIron : Cs := [(18, [0]), (59, [0])]
noncomputable def f_X7_readIron : List Vv → Mm → Option Ou := lock (sem t_X7_readIron cs_X7_readIron 4)
set_option maxRecDepth 20000 in
theorem ok_X7_readIron (l : Launch) : Ok l RX7 cX7_readIron 4 10 none layM t_X7_readIron :=
  Ok.cons (so_aload_n dX7_readIron_0 rfl rfl) <|
  Ok.cons (so_aload_n dX7_readIron_1 rfl rfl) <|
  Ok.cons (so_gf (C := RX7) (T := TX7) (N := 42) inGX7 rfl (by decide) wq_1178 rfl dX7_readIron_2 rfl) <|
  Ok.cons (so_bipush dX7_readIron_5 (by decide) rfl) <|
  Ok.cons (so_ia0 dX7_readIron_7 rfl) <|
  Ok.cons (so_bipush dX7_readIron_8 (by decide) rfl) <|
  Ok.cons (so_cne dX7_readIron_10 (by decide) rfl) <|
  Ok.cons (so_iconst dX7_readIron_13 (by decide) rfl) <|
  Ok.cons (so_goto dX7_readIron_14 (by decide)) <|
  Ok.cons (so_iconst dX7_readIron_17 (by decide) rfl) <|
  Ok.cons (so_bipush dX7_readIron_18 (by decide) rfl) <|
  Ok.cons (so_vv0 (ct_X7_failsIf l) wq_1392 wq_1389 wq_1391 wq_51 wq_95 (by decide +kernel) (by decide) rfl rfl dX7_readIron_20 rfl) <|
  Ok.cons (so_aload_n dX7_readIron_23 rfl rfl) <|
  Ok.cons (so_vv0 (ct_X7_goOn l) wq_1396 wq_1393 wq_1395 wq_52 wq_95 (by decide +kernel) (by decide) rfl rfl dX7_readIron_24 rfl) <|
  Ok.cons (so_aload_n dX7_readIron_27 rfl rfl) <|
  Ok.cons (so_vv0 (ct_X7_seesName l) wq_1400 wq_1397 wq_1399 wq_53 wq_95 (by decide +kernel) (by decide) rfl rfl dX7_readIron_28 rfl) <|
  Ok.cons (so_aload_n dX7_readIron_31 rfl rfl) <|
  Ok.cons (so_aload_n dX7_readIron_32 rfl rfl) <|
  Ok.cons (so_gf (C := RX7) (T := TX7) (N := 42) inGX7 rfl (by decide) wq_1189 rfl dX7_readIron_33 rfl) <|
  Ok.cons (so_zne dX7_readIron_36 (by decide) rfl) <|
  Ok.cons (so_aload_n dX7_readIron_39 rfl rfl) <|
  Ok.cons (so_gf (C := RX7) (T := TX7) (N := 42) inGX7 rfl (by decide) wq_1178 rfl dX7_readIron_40 rfl) <|
  Ok.cons (so_aload_n dX7_readIron_43 rfl rfl) <|
  Ok.cons (so_gf (C := RX7) (T := TX7) (N := 42) inGX7 rfl (by decide) wq_1188 rfl dX7_readIron_44 rfl) <|
  Ok.cons (so_si0 (ct_X7_found l) wq_1403 wq_1401 wq_1402 wq_95 (by decide +kernel) (by decide) dX7_readIron_47 rfl) <|
  Ok.cons (so_iconst dX7_readIron_50 (by decide) rfl) <|
  Ok.cons (so_ceq dX7_readIron_51 (by decide) rfl) <|
  Ok.cons (so_iconst dX7_readIron_54 (by decide) rfl) <|
  Ok.cons (so_goto dX7_readIron_55 (by decide)) <|
  Ok.cons (so_iconst dX7_readIron_58 (by decide) rfl) <|
  Ok.cons (so_bipush dX7_readIron_59 (by decide) rfl) <|
  Ok.cons (so_vv0 (ct_X7_failsIf l) wq_1392 wq_1389 wq_1391 wq_51 wq_95 (by decide +kernel) (by decide) rfl rfl dX7_readIron_61 rfl) <|
  Ok.cons (so_aload_n dX7_readIron_64 rfl rfl) <|
  Ok.cons (so_vv0 (ct_X7_goOn l) wq_1396 wq_1393 wq_1395 wq_52 wq_95 (by decide +kernel) (by decide) rfl rfl dX7_readIron_65 rfl) <|
  Ok.cons (so_aload_n dX7_readIron_68 rfl rfl) <|
  Ok.cons (so_iconst dX7_readIron_69 (by decide) rfl) <|
  Ok.cons (so_bipush dX7_readIron_70 (by decide) rfl) <|
  Ok.cons (so_vi0 (ct_X7_integer l) wq_1407 wq_1404 wq_1406 wq_54 wq_95 (by decide +kernel) (by decide) rfl rfl dX7_readIron_72 rfl) <|
  Ok.cons (so_istore_n dX7_readIron_75 rfl (by decide) rfl) <|
  Ok.cons (so_aload_n dX7_readIron_76 rfl rfl) <|
  Ok.cons (so_iconst dX7_readIron_77 (by decide) rfl) <|
  Ok.cons (so_bipush dX7_readIron_78 (by decide) rfl) <|
  Ok.cons (so_vi0 (ct_X7_integer l) wq_1407 wq_1404 wq_1406 wq_54 wq_95 (by decide +kernel) (by decide) rfl rfl dX7_readIron_80 rfl) <|
  Ok.cons (so_istore_n dX7_readIron_83 rfl (by decide) rfl) <|
  Ok.cons (so_aload_n dX7_readIron_84 rfl rfl) <|
  Ok.cons (so_gf (C := RX7) (T := TX7) (N := 42) inGX7 rfl (by decide) wq_1189 rfl dX7_readIron_85 rfl) <|
  Ok.cons (so_zeq dX7_readIron_88 (by decide) rfl) <|
  Ok.cons (so_vr rfl dX7_readIron_91) <|
  Ok.cons (so_aload_n dX7_readIron_92 rfl rfl) <|
  Ok.cons (so_gf (C := RX7) (T := TX7) (N := 42) inGX7 rfl (by decide) wq_1178 rfl dX7_readIron_93 rfl) <|
  Ok.cons (so_bipush dX7_readIron_96 (by decide) rfl) <|
  Ok.cons (so_ia0 dX7_readIron_98 rfl) <|
  Ok.cons (so_istore_n dX7_readIron_99 rfl (by decide) rfl) <|
  Ok.cons (so_aload_n dX7_readIron_100 rfl rfl) <|
  Ok.cons (so_gf (C := RX7) (T := TX7) (N := 42) inGX7 rfl (by decide) wq_1178 rfl dX7_readIron_101 rfl) <|
  Ok.cons (so_iconst dX7_readIron_104 (by decide) rfl) <|
  Ok.cons (so_iload_n dX7_readIron_105 rfl rfl) <|
  Ok.cons (so_iadd dX7_readIron_106 rfl) <|
  Ok.cons (so_aload_n dX7_readIron_107 rfl rfl) <|
  Ok.cons (so_gf (C := RX7) (T := TX7) (N := 42) inGX7 rfl (by decide) wq_1188 rfl dX7_readIron_108 rfl) <|
  Ok.cons (so_ix dX7_readIron_111 rfl) <|
  Ok.cons (so_aload_n dX7_readIron_112 rfl rfl) <|
  Ok.cons (so_gf (C := RX7) (T := TX7) (N := 42) inGX7 rfl (by decide) wq_1178 rfl dX7_readIron_113 rfl) <|
  Ok.cons (so_bipush dX7_readIron_116 (by decide) rfl) <|
  Ok.cons (so_iload_n dX7_readIron_118 rfl rfl) <|
  Ok.cons (so_iadd dX7_readIron_119 rfl) <|
  Ok.cons (so_iload_n dX7_readIron_120 rfl rfl) <|
  Ok.cons (so_ix dX7_readIron_121 rfl) <|
  Ok.cons (so_aload_n dX7_readIron_122 rfl rfl) <|
  Ok.cons (so_gf (C := RX7) (T := TX7) (N := 42) inGX7 rfl (by decide) wq_1178 rfl dX7_readIron_123 rfl) <|
  Ok.cons (so_bipush dX7_readIron_126 (by decide) rfl) <|
  Ok.cons (so_iload_n dX7_readIron_128 rfl rfl) <|
  Ok.cons (so_iadd dX7_readIron_129 rfl) <|
  Ok.cons (so_iload_n dX7_readIron_130 rfl rfl) <|
  Ok.cons (so_ix dX7_readIron_131 rfl) <|
  Ok.cons (so_aload_n dX7_readIron_132 rfl rfl) <|
  Ok.cons (so_gf (C := RX7) (T := TX7) (N := 42) inGX7 rfl (by decide) wq_1178 rfl dX7_readIron_133 rfl) <|
  Ok.cons (so_bipush dX7_readIron_136 (by decide) rfl) <|
  Ok.cons (so_dup2 dX7_readIron_138 rfl) <|
  Ok.cons (so_ia0 dX7_readIron_139 rfl) <|
  Ok.cons (so_iconst dX7_readIron_140 (by decide) rfl) <|
  Ok.cons (so_iadd dX7_readIron_141 rfl) <|
  Ok.cons (so_ix dX7_readIron_142 rfl) <|
  Ok.cons (so_vr rfl dX7_readIron_143) <| Ok.nil
theorem ct_X7_readIron (l : Launch) : Ct l yX7_readIron cX7_readIron 4 none 10 layM f_X7_readIron := ofRunL (by decide) rfl (ok_X7_readIron l)
noncomputable def t_X7_adds : Tbl := [(0, s_al 1 0),
  (1, s_ic 3 6),
  (3, s_ic 4 5),
  (4, s_il 5 1),
  (5, s_b 6 (fun x y => x * y)),
  (6, s_b 7 (fun x y => x + y)),
  (7, s_al 8 0),
  (8, s_ic 9 0),
  (9, s_il 10 1),
  (10, s_b 11 (fun x y => x + y)),
  (11, s_ia 12 layM 0),
  (12, s_b 13 (fun x y => x + y)),
  (13, s_il 14 2),
  (14, s_ix 15 layM 0),
  (15, s_al 16 0),
  (16, s_ic 18 36),
  (18, s_ic 19 5),
  (19, s_il 20 1),
  (20, s_b 21 (fun x y => x * y)),
  (21, s_b 22 (fun x y => x + y)),
  (22, s_al 23 0),
  (23, s_ic 24 0),
  (24, s_il 25 1),
  (25, s_b 26 (fun x y => x + y)),
  (26, s_ia 27 layM 0),
  (27, s_b 28 (fun x y => x + y)),
  (28, s_il 29 3),
  (29, s_ix 30 layM 0),
  (30, s_al 31 0),
  (31, s_ic 32 0),
  (32, s_il 33 1),
  (33, s_b 34 (fun x y => x + y)),
  (34, s_dup2 35),
  (35, s_ia 36 layM 0),
  (36, s_ic 37 1),
  (37, s_b 38 (fun x y => x + y)),
  (38, s_ix 39 layM 0),
  (39, s_vr)]
def cs_X7_adds : Cs := []
noncomputable def f_X7_adds : List Vv → Mm → Option Ou := lock (sem t_X7_adds cs_X7_adds 4)
set_option maxRecDepth 20000 in
theorem ok_X7_adds (l : Launch) : Ok l RX7 cX7_adds 4 1 none layM t_X7_adds :=
  Ok.cons (so_aload_n dX7_adds_0 rfl rfl) <|
  Ok.cons (so_bipush dX7_adds_1 (by decide) rfl) <|
  Ok.cons (so_iconst dX7_adds_3 (by decide) rfl) <|
  Ok.cons (so_iload_n dX7_adds_4 rfl rfl) <|
  Ok.cons (so_imul dX7_adds_5 rfl) <|
  Ok.cons (so_iadd dX7_adds_6 rfl) <|
  Ok.cons (so_aload_n dX7_adds_7 rfl rfl) <|
  Ok.cons (so_iconst dX7_adds_8 (by decide) rfl) <|
  Ok.cons (so_iload_n dX7_adds_9 rfl rfl) <|
  Ok.cons (so_iadd dX7_adds_10 rfl) <|
  Ok.cons (so_ia0 dX7_adds_11 rfl) <|
  Ok.cons (so_iadd dX7_adds_12 rfl) <|
  Ok.cons (so_iload_n dX7_adds_13 rfl rfl) <|
  Ok.cons (so_ix dX7_adds_14 rfl) <|
  Ok.cons (so_aload_n dX7_adds_15 rfl rfl) <|
  Ok.cons (so_bipush dX7_adds_16 (by decide) rfl) <|
  Ok.cons (so_iconst dX7_adds_18 (by decide) rfl) <|
  Ok.cons (so_iload_n dX7_adds_19 rfl rfl) <|
  Ok.cons (so_imul dX7_adds_20 rfl) <|
  Ok.cons (so_iadd dX7_adds_21 rfl) <|
  Ok.cons (so_aload_n dX7_adds_22 rfl rfl) <|
  Ok.cons (so_iconst dX7_adds_23 (by decide) rfl) <|
  Ok.cons (so_iload_n dX7_adds_24 rfl rfl) <|
  Ok.cons (so_iadd dX7_adds_25 rfl) <|
  Ok.cons (so_ia0 dX7_adds_26 rfl) <|
  Ok.cons (so_iadd dX7_adds_27 rfl) <|
  Ok.cons (so_iload_n dX7_adds_28 rfl rfl) <|
  Ok.cons (so_ix dX7_adds_29 rfl) <|
  Ok.cons (so_aload_n dX7_adds_30 rfl rfl) <|
  Ok.cons (so_iconst dX7_adds_31 (by decide) rfl) <|
  Ok.cons (so_iload_n dX7_adds_32 rfl rfl) <|
  Ok.cons (so_iadd dX7_adds_33 rfl) <|
  Ok.cons (so_dup2 dX7_adds_34 rfl) <|
  Ok.cons (so_ia0 dX7_adds_35 rfl) <|
  Ok.cons (so_iconst dX7_adds_36 (by decide) rfl) <|
  Ok.cons (so_iadd dX7_adds_37 rfl) <|
  Ok.cons (so_ix dX7_adds_38 rfl) <|
  Ok.cons (so_vr rfl dX7_adds_39) <| Ok.nil
theorem ct_X7_adds (l : Launch) : Ct l yX7_adds cX7_adds 4 none 1 layM f_X7_adds := ofRunL (by decide) rfl (ok_X7_adds l)
noncomputable def t_X7_readStep : Tbl := [(0, s_al 1 0),
  (1, s_cv0 true 4 1 f_X7_goOn),
  (4, s_al 5 0),
  (5, s_cv0 true 8 1 f_X7_seesName),
  (8, s_al 9 0),
  (9, s_gf 12 layM 7 15),
  (12, s_zne 15 29),
  (15, s_al 16 0),
  (16, s_gf 19 layM 7 4),
  (19, s_al 20 0),
  (20, s_gf 23 layM 7 14),
  (23, s_ci0 false 26 2 f_X7_found),
  (26, s_go 30),
  (29, s_ic 30 0),
  (30, s_is 31 1),
  (31, s_al 32 0),
  (32, s_il 33 1),
  (33, s_ic 34 (-1)),
  (34, s_cne 37 41),
  (37, s_ic 38 1),
  (38, s_go 42),
  (41, s_ic 42 0),
  (42, s_ic 44 (-13)),
  (44, s_cv0 true 47 3 f_X7_failsIf),
  (47, s_al 48 0),
  (48, s_gf 51 layM 7 15),
  (51, s_zeq 54 55),
  (54, s_vr),
  (55, s_al 56 0),
  (56, s_al 57 0),
  (57, s_gf 60 layM 7 6),
  (60, s_ic 61 0),
  (61, s_il 62 1),
  (62, s_b 63 (fun x y => x + y)),
  (63, s_ia 64 layM 0),
  (64, s_ic 65 5),
  (65, s_cne 68 72),
  (68, s_ic 69 1),
  (69, s_go 73),
  (72, s_ic 73 0),
  (73, s_ic 75 (-15)),
  (75, s_cv0 true 78 3 f_X7_failsIf),
  (78, s_al 79 0),
  (79, s_cv0 true 82 1 f_X7_goOn),
  (82, s_al 83 0),
  (83, s_ic 85 100),
  (85, s_ic 88 1400),
  (88, s_ci0 true 91 3 f_X7_integer),
  (91, s_is 92 2),
  (92, s_al 93 0),
  (93, s_ic 94 1),
  (94, s_ic 96 30),
  (96, s_ci0 true 99 3 f_X7_integer),
  (99, s_is 100 3),
  (100, s_al 101 0),
  (101, s_gf 104 layM 7 15),
  (104, s_zne 107 117),
  (107, s_al 108 0),
  (108, s_gf 111 layM 7 6),
  (111, s_il 112 1),
  (112, s_il 113 2),
  (113, s_il 114 3),
  (114, s_cv0 false 117 4 f_X7_adds),
  (117, s_vr)]
def cs_X7_readStep : Cs := [(30, [0]), (42, [0, 1]), (73, [0, 1])]
noncomputable def f_X7_readStep : List Vv → Mm → Option Ou := lock (sem t_X7_readStep cs_X7_readStep 4)
set_option maxRecDepth 20000 in
theorem ok_X7_readStep (l : Launch) : Ok l RX7 cX7_readStep 4 10 none layM t_X7_readStep :=
  Ok.cons (so_aload_n dX7_readStep_0 rfl rfl) <|
  Ok.cons (so_vv0 (ct_X7_goOn l) wq_1396 wq_1393 wq_1395 wq_52 wq_95 (by decide +kernel) (by decide) rfl rfl dX7_readStep_1 rfl) <|
  Ok.cons (so_aload_n dX7_readStep_4 rfl rfl) <|
  Ok.cons (so_vv0 (ct_X7_seesName l) wq_1400 wq_1397 wq_1399 wq_53 wq_95 (by decide +kernel) (by decide) rfl rfl dX7_readStep_5 rfl) <|
  Ok.cons (so_aload_n dX7_readStep_8 rfl rfl) <|
  Ok.cons (so_gf (C := RX7) (T := TX7) (N := 42) inGX7 rfl (by decide) wq_1189 rfl dX7_readStep_9 rfl) <|
  Ok.cons (so_zne dX7_readStep_12 (by decide) rfl) <|
  Ok.cons (so_aload_n dX7_readStep_15 rfl rfl) <|
  Ok.cons (so_gf (C := RX7) (T := TX7) (N := 42) inGX7 rfl (by decide) wq_1178 rfl dX7_readStep_16 rfl) <|
  Ok.cons (so_aload_n dX7_readStep_19 rfl rfl) <|
  Ok.cons (so_gf (C := RX7) (T := TX7) (N := 42) inGX7 rfl (by decide) wq_1188 rfl dX7_readStep_20 rfl) <|
  Ok.cons (so_si0 (ct_X7_found l) wq_1403 wq_1401 wq_1402 wq_95 (by decide +kernel) (by decide) dX7_readStep_23 rfl) <|
  Ok.cons (so_goto dX7_readStep_26 (by decide)) <|
  Ok.cons (so_iconst dX7_readStep_29 (by decide) rfl) <|
  Ok.cons (so_istore_n dX7_readStep_30 rfl (by decide) rfl) <|
  Ok.cons (so_aload_n dX7_readStep_31 rfl rfl) <|
  Ok.cons (so_iload_n dX7_readStep_32 rfl rfl) <|
  Ok.cons (so_iconst dX7_readStep_33 (by decide) rfl) <|
  Ok.cons (so_cne dX7_readStep_34 (by decide) rfl) <|
  Ok.cons (so_iconst dX7_readStep_37 (by decide) rfl) <|
  Ok.cons (so_goto dX7_readStep_38 (by decide)) <|
  Ok.cons (so_iconst dX7_readStep_41 (by decide) rfl) <|
  Ok.cons (so_bipush dX7_readStep_42 (by decide) rfl) <|
  Ok.cons (so_vv0 (ct_X7_failsIf l) wq_1392 wq_1389 wq_1391 wq_51 wq_95 (by decide +kernel) (by decide) rfl rfl dX7_readStep_44 rfl) <|
  Ok.cons (so_aload_n dX7_readStep_47 rfl rfl) <|
  Ok.cons (so_gf (C := RX7) (T := TX7) (N := 42) inGX7 rfl (by decide) wq_1189 rfl dX7_readStep_48 rfl) <|
  Ok.cons (so_zeq dX7_readStep_51 (by decide) rfl) <|
  Ok.cons (so_vr rfl dX7_readStep_54) <|
  Ok.cons (so_aload_n dX7_readStep_55 rfl rfl) <|
  Ok.cons (so_aload_n dX7_readStep_56 rfl rfl) <|
  Ok.cons (so_gf (C := RX7) (T := TX7) (N := 42) inGX7 rfl (by decide) wq_1180 rfl dX7_readStep_57 rfl) <|
  Ok.cons (so_iconst dX7_readStep_60 (by decide) rfl) <|
  Ok.cons (so_iload_n dX7_readStep_61 rfl rfl) <|
  Ok.cons (so_iadd dX7_readStep_62 rfl) <|
  Ok.cons (so_ia0 dX7_readStep_63 rfl) <|
  Ok.cons (so_iconst dX7_readStep_64 (by decide) rfl) <|
  Ok.cons (so_cne dX7_readStep_65 (by decide) rfl) <|
  Ok.cons (so_iconst dX7_readStep_68 (by decide) rfl) <|
  Ok.cons (so_goto dX7_readStep_69 (by decide)) <|
  Ok.cons (so_iconst dX7_readStep_72 (by decide) rfl) <|
  Ok.cons (so_bipush dX7_readStep_73 (by decide) rfl) <|
  Ok.cons (so_vv0 (ct_X7_failsIf l) wq_1392 wq_1389 wq_1391 wq_51 wq_95 (by decide +kernel) (by decide) rfl rfl dX7_readStep_75 rfl) <|
  Ok.cons (so_aload_n dX7_readStep_78 rfl rfl) <|
  Ok.cons (so_vv0 (ct_X7_goOn l) wq_1396 wq_1393 wq_1395 wq_52 wq_95 (by decide +kernel) (by decide) rfl rfl dX7_readStep_79 rfl) <|
  Ok.cons (so_aload_n dX7_readStep_82 rfl rfl) <|
  Ok.cons (so_bipush dX7_readStep_83 (by decide) rfl) <|
  Ok.cons (so_sipush dX7_readStep_85 (by decide) rfl) <|
  Ok.cons (so_vi0 (ct_X7_integer l) wq_1407 wq_1404 wq_1406 wq_54 wq_95 (by decide +kernel) (by decide) rfl rfl dX7_readStep_88 rfl) <|
  Ok.cons (so_istore_n dX7_readStep_91 rfl (by decide) rfl) <|
  Ok.cons (so_aload_n dX7_readStep_92 rfl rfl) <|
  Ok.cons (so_iconst dX7_readStep_93 (by decide) rfl) <|
  Ok.cons (so_bipush dX7_readStep_94 (by decide) rfl) <|
  Ok.cons (so_vi0 (ct_X7_integer l) wq_1407 wq_1404 wq_1406 wq_54 wq_95 (by decide +kernel) (by decide) rfl rfl dX7_readStep_96 rfl) <|
  Ok.cons (so_istore_n dX7_readStep_99 rfl (by decide) rfl) <|
  Ok.cons (so_aload_n dX7_readStep_100 rfl rfl) <|
  Ok.cons (so_gf (C := RX7) (T := TX7) (N := 42) inGX7 rfl (by decide) wq_1189 rfl dX7_readStep_101 rfl) <|
  Ok.cons (so_zne dX7_readStep_104 (by decide) rfl) <|
  Ok.cons (so_aload_n dX7_readStep_107 rfl rfl) <|
  Ok.cons (so_gf (C := RX7) (T := TX7) (N := 42) inGX7 rfl (by decide) wq_1180 rfl dX7_readStep_108 rfl) <|
  Ok.cons (so_iload_n dX7_readStep_111 rfl rfl) <|
  Ok.cons (so_iload_n dX7_readStep_112 rfl rfl) <|
  Ok.cons (so_iload_n dX7_readStep_113 rfl rfl) <|
  Ok.cons (so_sv0 (ct_X7_adds l) wq_1414 wq_1412 wq_1413 wq_95 (by decide +kernel) (by decide) dX7_readStep_114 rfl) <|
  Ok.cons (so_vr rfl dX7_readStep_117) <| Ok.nil
theorem ct_X7_readStep (l : Launch) : Ct l yX7_readStep cX7_readStep 4 none 10 layM f_X7_readStep := ofRunL (by decide) rfl (ok_X7_readStep l)
noncomputable def t_X7_readPlace : Tbl := [(0, s_al 1 0),
  (1, s_al 2 0),
  (2, s_gf 5 layM 7 4),
  (5, s_ic 7 19),
  (7, s_ia 8 layM 0),
  (8, s_ic 9 3),
  (9, s_cne 12 16),
  (12, s_ic 13 1),
  (13, s_go 17),
  (16, s_ic 17 0),
  (17, s_ic 19 (-15)),
  (19, s_cv0 true 22 3 f_X7_failsIf),
  (22, s_al 23 0),
  (23, s_cv0 true 26 1 f_X7_goOn),
  (26, s_al 27 0),
  (27, s_ic 28 1),
  (28, s_ic 31 2000),
  (31, s_ci0 true 34 3 f_X7_integer),
  (34, s_is 35 1),
  (35, s_al 36 0),
  (36, s_ic 38 100),
  (38, s_ic 41 1500),
  (41, s_ci0 true 44 3 f_X7_integer),
  (44, s_is 45 2),
  (45, s_al 46 0),
  (46, s_gf 49 layM 7 15),
  (49, s_zeq 52 53),
  (52, s_vr),
  (53, s_al 54 0),
  (54, s_gf 57 layM 7 6),
  (57, s_ic 59 66),
  (59, s_al 60 0),
  (60, s_gf 63 layM 7 4),
  (63, s_ic 65 19),
  (65, s_ia 66 layM 0),
  (66, s_b 67 (fun x y => x + y)),
  (67, s_il 68 1),
  (68, s_ix 69 layM 0),
  (69, s_al 70 0),
  (70, s_gf 73 layM 7 6),
  (73, s_ic 75 69),
  (75, s_al 76 0),
  (76, s_gf 79 layM 7 4),
  (79, s_ic 81 19),
  (81, s_ia 82 layM 0),
  (82, s_b 83 (fun x y => x + y)),
  (83, s_il 84 2),
  (84, s_ix 85 layM 0),
  (85, s_al 86 0),
  (86, s_gf 89 layM 7 4),
  (89, s_ic 91 19),
  (91, s_dup2 92),
  (92, s_ia 93 layM 0),
  (93, s_ic 94 1),
  (94, s_b 95 (fun x y => x + y)),
  (95, s_ix 96 layM 0),
  (96, s_vr)]
def cs_X7_readPlace : Cs := [(17, [0])]
noncomputable def f_X7_readPlace : List Vv → Mm → Option Ou := lock (sem t_X7_readPlace cs_X7_readPlace 3)
set_option maxRecDepth 20000 in
theorem ok_X7_readPlace (l : Launch) : Ok l RX7 cX7_readPlace 3 10 none layM t_X7_readPlace :=
  Ok.cons (so_aload_n dX7_readPlace_0 rfl rfl) <|
  Ok.cons (so_aload_n dX7_readPlace_1 rfl rfl) <|
  Ok.cons (so_gf (C := RX7) (T := TX7) (N := 42) inGX7 rfl (by decide) wq_1178 rfl dX7_readPlace_2 rfl) <|
  Ok.cons (so_bipush dX7_readPlace_5 (by decide) rfl) <|
  Ok.cons (so_ia0 dX7_readPlace_7 rfl) <|
  Ok.cons (so_iconst dX7_readPlace_8 (by decide) rfl) <|
  Ok.cons (so_cne dX7_readPlace_9 (by decide) rfl) <|
  Ok.cons (so_iconst dX7_readPlace_12 (by decide) rfl) <|
  Ok.cons (so_goto dX7_readPlace_13 (by decide)) <|
  Ok.cons (so_iconst dX7_readPlace_16 (by decide) rfl) <|
  Ok.cons (so_bipush dX7_readPlace_17 (by decide) rfl) <|
  Ok.cons (so_vv0 (ct_X7_failsIf l) wq_1392 wq_1389 wq_1391 wq_51 wq_95 (by decide +kernel) (by decide) rfl rfl dX7_readPlace_19 rfl) <|
  Ok.cons (so_aload_n dX7_readPlace_22 rfl rfl) <|
  Ok.cons (so_vv0 (ct_X7_goOn l) wq_1396 wq_1393 wq_1395 wq_52 wq_95 (by decide +kernel) (by decide) rfl rfl dX7_readPlace_23 rfl) <|
  Ok.cons (so_aload_n dX7_readPlace_26 rfl rfl) <|
  Ok.cons (so_iconst dX7_readPlace_27 (by decide) rfl) <|
  Ok.cons (so_sipush dX7_readPlace_28 (by decide) rfl) <|
  Ok.cons (so_vi0 (ct_X7_integer l) wq_1407 wq_1404 wq_1406 wq_54 wq_95 (by decide +kernel) (by decide) rfl rfl dX7_readPlace_31 rfl) <|
  Ok.cons (so_istore_n dX7_readPlace_34 rfl (by decide) rfl) <|
  Ok.cons (so_aload_n dX7_readPlace_35 rfl rfl) <|
  Ok.cons (so_bipush dX7_readPlace_36 (by decide) rfl) <|
  Ok.cons (so_sipush dX7_readPlace_38 (by decide) rfl) <|
  Ok.cons (so_vi0 (ct_X7_integer l) wq_1407 wq_1404 wq_1406 wq_54 wq_95 (by decide +kernel) (by decide) rfl rfl dX7_readPlace_41 rfl) <|
  Ok.cons (so_istore_n dX7_readPlace_44 rfl (by decide) rfl) <|
  Ok.cons (so_aload_n dX7_readPlace_45 rfl rfl) <|
  Ok.cons (so_gf (C := RX7) (T := TX7) (N := 42) inGX7 rfl (by decide) wq_1189 rfl dX7_readPlace_46 rfl) <|
  Ok.cons (so_zeq dX7_readPlace_49 (by decide) rfl) <|
  Ok.cons (so_vr rfl dX7_readPlace_52) <|
  Ok.cons (so_aload_n dX7_readPlace_53 rfl rfl) <|
  Ok.cons (so_gf (C := RX7) (T := TX7) (N := 42) inGX7 rfl (by decide) wq_1180 rfl dX7_readPlace_54 rfl) <|
  Ok.cons (so_bipush dX7_readPlace_57 (by decide) rfl) <|
  Ok.cons (so_aload_n dX7_readPlace_59 rfl rfl) <|
  Ok.cons (so_gf (C := RX7) (T := TX7) (N := 42) inGX7 rfl (by decide) wq_1178 rfl dX7_readPlace_60 rfl) <|
  Ok.cons (so_bipush dX7_readPlace_63 (by decide) rfl) <|
  Ok.cons (so_ia0 dX7_readPlace_65 rfl) <|
  Ok.cons (so_iadd dX7_readPlace_66 rfl) <|
  Ok.cons (so_iload_n dX7_readPlace_67 rfl rfl) <|
  Ok.cons (so_ix dX7_readPlace_68 rfl) <|
  Ok.cons (so_aload_n dX7_readPlace_69 rfl rfl) <|
  Ok.cons (so_gf (C := RX7) (T := TX7) (N := 42) inGX7 rfl (by decide) wq_1180 rfl dX7_readPlace_70 rfl) <|
  Ok.cons (so_bipush dX7_readPlace_73 (by decide) rfl) <|
  Ok.cons (so_aload_n dX7_readPlace_75 rfl rfl) <|
  Ok.cons (so_gf (C := RX7) (T := TX7) (N := 42) inGX7 rfl (by decide) wq_1178 rfl dX7_readPlace_76 rfl) <|
  Ok.cons (so_bipush dX7_readPlace_79 (by decide) rfl) <|
  Ok.cons (so_ia0 dX7_readPlace_81 rfl) <|
  Ok.cons (so_iadd dX7_readPlace_82 rfl) <|
  Ok.cons (so_iload_n dX7_readPlace_83 rfl rfl) <|
  Ok.cons (so_ix dX7_readPlace_84 rfl) <|
  Ok.cons (so_aload_n dX7_readPlace_85 rfl rfl) <|
  Ok.cons (so_gf (C := RX7) (T := TX7) (N := 42) inGX7 rfl (by decide) wq_1178 rfl dX7_readPlace_86 rfl) <|
  Ok.cons (so_bipush dX7_readPlace_89 (by decide) rfl) <|
  Ok.cons (so_dup2 dX7_readPlace_91 rfl) <|
  Ok.cons (so_ia0 dX7_readPlace_92 rfl) <|
  Ok.cons (so_iconst dX7_readPlace_93 (by decide) rfl) <|
  Ok.cons (so_iadd dX7_readPlace_94 rfl) <|
  Ok.cons (so_ix dX7_readPlace_95 rfl) <|
  Ok.cons (so_vr rfl dX7_readPlace_96) <| Ok.nil
theorem ct_X7_readPlace (l : Launch) : Ct l yX7_readPlace cX7_readPlace 3 none 10 layM f_X7_readPlace := ofRunL (by decide) rfl (ok_X7_readPlace l)
noncomputable def t_X7_leastOf : Tbl := [(0, s_il 1 0),
  (1, s_zne 4 8),
  (4, s_ic 5 1),
  (5, s_go 9),
  (8, s_ic 9 0),
  (9, s_ir)]
def cs_X7_leastOf : Cs := []
noncomputable def f_X7_leastOf : List Vv → Mm → Option Ou := lock (sem t_X7_leastOf cs_X7_leastOf 1)
set_option maxRecDepth 20000 in
theorem ok_X7_leastOf (l : Launch) : Ok l RX7 cX7_leastOf 1 1 (some .int) lay0 t_X7_leastOf :=
  Ok.cons (so_iload_n dX7_leastOf_0 rfl rfl) <|
  Ok.cons (so_zne dX7_leastOf_1 (by decide) rfl) <|
  Ok.cons (so_iconst dX7_leastOf_4 (by decide) rfl) <|
  Ok.cons (so_goto dX7_leastOf_5 (by decide)) <|
  Ok.cons (so_iconst dX7_leastOf_8 (by decide) rfl) <|
  Ok.cons (so_ir rfl dX7_leastOf_9) <| Ok.nil
theorem ct_X7_leastOf (l : Launch) : Ct l yX7_leastOf cX7_leastOf 1 (some .int) 1 lay0 f_X7_leastOf := ofRunL (by decide) rfl (ok_X7_leastOf l)
noncomputable def t_X7_mostOf : Tbl := [(0, s_il 1 0),
  (1, s_zne 4 8),
  (4, s_ic 5 3),
  (5, s_go 20),
  (8, s_il 9 0),
  (9, s_ic 10 1),
  (10, s_cne 13 19),
  (13, s_ic 16 500),
  (16, s_go 20),
  (19, s_ic 20 2),
  (20, s_ir)]
def cs_X7_mostOf : Cs := []
noncomputable def f_X7_mostOf : List Vv → Mm → Option Ou := lock (sem t_X7_mostOf cs_X7_mostOf 1)
set_option maxRecDepth 20000 in
theorem ok_X7_mostOf (l : Launch) : Ok l RX7 cX7_mostOf 1 1 (some .int) lay0 t_X7_mostOf :=
  Ok.cons (so_iload_n dX7_mostOf_0 rfl rfl) <|
  Ok.cons (so_zne dX7_mostOf_1 (by decide) rfl) <|
  Ok.cons (so_iconst dX7_mostOf_4 (by decide) rfl) <|
  Ok.cons (so_goto dX7_mostOf_5 (by decide)) <|
  Ok.cons (so_iload_n dX7_mostOf_8 rfl rfl) <|
  Ok.cons (so_iconst dX7_mostOf_9 (by decide) rfl) <|
  Ok.cons (so_cne dX7_mostOf_10 (by decide) rfl) <|
  Ok.cons (so_sipush dX7_mostOf_13 (by decide) rfl) <|
  Ok.cons (so_goto dX7_mostOf_16 (by decide)) <|
  Ok.cons (so_iconst dX7_mostOf_19 (by decide) rfl) <|
  Ok.cons (so_ir rfl dX7_mostOf_20) <| Ok.nil
theorem ct_X7_mostOf (l : Launch) : Ct l yX7_mostOf cX7_mostOf 1 (some .int) 1 lay0 f_X7_mostOf := ofRunL (by decide) rfl (ok_X7_mostOf l)
noncomputable def t_X7_readSet : Tbl := [(0, s_al 1 0),
  (1, s_cv0 true 4 1 f_X7_goOn),
  (4, s_al 5 0),
  (5, s_gf 8 layM 7 15),
  (8, s_zne 11 30),
  (11, s_al 12 0),
  (12, s_gf 15 layM 7 12),
  (15, s_zne 18 30),
  (18, s_al 19 0),
  (19, s_gf 22 layM 7 13),
  (22, s_ic 23 4),
  (23, s_clt 26 30),
  (26, s_ic 27 1),
  (27, s_go 31),
  (30, s_ic 31 0),
  (31, s_is 32 1),
  (32, s_al 33 0),
  (33, s_il 34 1),
  (34, s_zne 37 41),
  (37, s_ic 38 1),
  (38, s_go 42),
  (41, s_ic 42 0),
  (42, s_ic 44 (-11)),
  (44, s_cv0 true 47 3 f_X7_failsIf),
  (47, s_il 48 1),
  (48, s_zeq 51 60),
  (51, s_al 52 0),
  (52, s_gf 55 layM 7 13),
  (55, s_ic 56 4),
  (56, s_b 57 (fun x y => x - y)),
  (57, s_go 61),
  (60, s_ic 61 0),
  (61, s_is 62 2),
  (62, s_al 63 0),
  (63, s_al 64 0),
  (64, s_gf 67 layM 7 19),
  (67, s_il 68 2),
  (68, s_b 69 (fun x y => x >>> (y &&& 31))),
  (69, s_ic 70 1),
  (70, s_b 71 (fun x y => x &&& y)),
  (71, s_ic 72 1),
  (72, s_cne 75 79),
  (75, s_ic 76 1),
  (76, s_go 80),
  (79, s_ic 80 0),
  (80, s_ic 82 (-14)),
  (82, s_cv0 true 85 3 f_X7_failsIf),
  (85, s_al 86 0),
  (86, s_dup 87),
  (87, s_gf 90 layM 7 19),
  (90, s_ic 91 1),
  (91, s_il 92 2),
  (92, s_b 93 (fun x y => x <<< (y &&& 31))),
  (93, s_b 94 (fun x y => x ||| y)),
  (94, s_pf 97 layM 7 19),
  (97, s_al 98 0),
  (98, s_cv0 true 101 1 f_X7_goOn),
  (101, s_al 102 0),
  (102, s_gf 105 layM 7 6),
  (105, s_ic 107 78),
  (107, s_il 108 2),
  (108, s_b 109 (fun x y => x + y)),
  (109, s_al 110 0),
  (110, s_il 111 2),
  (111, s_ci false 114 1 (sg0) f_X7_leastOf),
  (114, s_il 115 2),
  (115, s_ci false 118 1 (sg0) f_X7_mostOf),
  (118, s_ci0 true 121 3 f_X7_integer),
  (121, s_ix 122 layM 0),
  (122, s_vr)]
def cs_X7_readSet : Cs := [(31, [0]), (42, [0, 1]), (61, [0]), (80, [0, 2])]
noncomputable def f_X7_readSet : List Vv → Mm → Option Ou := lock (sem t_X7_readSet cs_X7_readSet 3)
set_option maxRecDepth 20000 in
theorem ok_X7_readSet (l : Launch) : Ok l RX7 cX7_readSet 3 10 none layM t_X7_readSet :=
  Ok.cons (so_aload_n dX7_readSet_0 rfl rfl) <|
  Ok.cons (so_vv0 (ct_X7_goOn l) wq_1396 wq_1393 wq_1395 wq_52 wq_95 (by decide +kernel) (by decide) rfl rfl dX7_readSet_1 rfl) <|
  Ok.cons (so_aload_n dX7_readSet_4 rfl rfl) <|
  Ok.cons (so_gf (C := RX7) (T := TX7) (N := 42) inGX7 rfl (by decide) wq_1189 rfl dX7_readSet_5 rfl) <|
  Ok.cons (so_zne dX7_readSet_8 (by decide) rfl) <|
  Ok.cons (so_aload_n dX7_readSet_11 rfl rfl) <|
  Ok.cons (so_gf (C := RX7) (T := TX7) (N := 42) inGX7 rfl (by decide) wq_1186 rfl dX7_readSet_12 rfl) <|
  Ok.cons (so_zne dX7_readSet_15 (by decide) rfl) <|
  Ok.cons (so_aload_n dX7_readSet_18 rfl rfl) <|
  Ok.cons (so_gf (C := RX7) (T := TX7) (N := 42) inGX7 rfl (by decide) wq_1187 rfl dX7_readSet_19 rfl) <|
  Ok.cons (so_iconst dX7_readSet_22 (by decide) rfl) <|
  Ok.cons (so_clt dX7_readSet_23 (by decide) rfl) <|
  Ok.cons (so_iconst dX7_readSet_26 (by decide) rfl) <|
  Ok.cons (so_goto dX7_readSet_27 (by decide)) <|
  Ok.cons (so_iconst dX7_readSet_30 (by decide) rfl) <|
  Ok.cons (so_istore_n dX7_readSet_31 rfl (by decide) rfl) <|
  Ok.cons (so_aload_n dX7_readSet_32 rfl rfl) <|
  Ok.cons (so_iload_n dX7_readSet_33 rfl rfl) <|
  Ok.cons (so_zne dX7_readSet_34 (by decide) rfl) <|
  Ok.cons (so_iconst dX7_readSet_37 (by decide) rfl) <|
  Ok.cons (so_goto dX7_readSet_38 (by decide)) <|
  Ok.cons (so_iconst dX7_readSet_41 (by decide) rfl) <|
  Ok.cons (so_bipush dX7_readSet_42 (by decide) rfl) <|
  Ok.cons (so_vv0 (ct_X7_failsIf l) wq_1392 wq_1389 wq_1391 wq_51 wq_95 (by decide +kernel) (by decide) rfl rfl dX7_readSet_44 rfl) <|
  Ok.cons (so_iload_n dX7_readSet_47 rfl rfl) <|
  Ok.cons (so_zeq dX7_readSet_48 (by decide) rfl) <|
  Ok.cons (so_aload_n dX7_readSet_51 rfl rfl) <|
  Ok.cons (so_gf (C := RX7) (T := TX7) (N := 42) inGX7 rfl (by decide) wq_1187 rfl dX7_readSet_52 rfl) <|
  Ok.cons (so_iconst dX7_readSet_55 (by decide) rfl) <|
  Ok.cons (so_isub dX7_readSet_56 rfl) <|
  Ok.cons (so_goto dX7_readSet_57 (by decide)) <|
  Ok.cons (so_iconst dX7_readSet_60 (by decide) rfl) <|
  Ok.cons (so_istore_n dX7_readSet_61 rfl (by decide) rfl) <|
  Ok.cons (so_aload_n dX7_readSet_62 rfl rfl) <|
  Ok.cons (so_aload_n dX7_readSet_63 rfl rfl) <|
  Ok.cons (so_gf (C := RX7) (T := TX7) (N := 42) inGX7 rfl (by decide) wq_1193 rfl dX7_readSet_64 rfl) <|
  Ok.cons (so_iload_n dX7_readSet_67 rfl rfl) <|
  Ok.cons (so_ishr dX7_readSet_68 rfl) <|
  Ok.cons (so_iconst dX7_readSet_69 (by decide) rfl) <|
  Ok.cons (so_iand dX7_readSet_70 rfl) <|
  Ok.cons (so_iconst dX7_readSet_71 (by decide) rfl) <|
  Ok.cons (so_cne dX7_readSet_72 (by decide) rfl) <|
  Ok.cons (so_iconst dX7_readSet_75 (by decide) rfl) <|
  Ok.cons (so_goto dX7_readSet_76 (by decide)) <|
  Ok.cons (so_iconst dX7_readSet_79 (by decide) rfl) <|
  Ok.cons (so_bipush dX7_readSet_80 (by decide) rfl) <|
  Ok.cons (so_vv0 (ct_X7_failsIf l) wq_1392 wq_1389 wq_1391 wq_51 wq_95 (by decide +kernel) (by decide) rfl rfl dX7_readSet_82 rfl) <|
  Ok.cons (so_aload_n dX7_readSet_85 rfl rfl) <|
  Ok.cons (so_dup dX7_readSet_86 rfl) <|
  Ok.cons (so_gf (C := RX7) (T := TX7) (N := 42) inGX7 rfl (by decide) wq_1193 rfl dX7_readSet_87 rfl) <|
  Ok.cons (so_iconst dX7_readSet_90 (by decide) rfl) <|
  Ok.cons (so_iload_n dX7_readSet_91 rfl rfl) <|
  Ok.cons (so_ishl dX7_readSet_92 rfl) <|
  Ok.cons (so_ior dX7_readSet_93 rfl) <|
  Ok.cons (so_pf (C := RX7) (T := TX7) (N := 42) inGX7 tyX7_ok nmX7 rfl (by decide) wq_1193 rfl rfl rfl dX7_readSet_94 rfl) <|
  Ok.cons (so_aload_n dX7_readSet_97 rfl rfl) <|
  Ok.cons (so_vv0 (ct_X7_goOn l) wq_1396 wq_1393 wq_1395 wq_52 wq_95 (by decide +kernel) (by decide) rfl rfl dX7_readSet_98 rfl) <|
  Ok.cons (so_aload_n dX7_readSet_101 rfl rfl) <|
  Ok.cons (so_gf (C := RX7) (T := TX7) (N := 42) inGX7 rfl (by decide) wq_1180 rfl dX7_readSet_102 rfl) <|
  Ok.cons (so_bipush dX7_readSet_105 (by decide) rfl) <|
  Ok.cons (so_iload_n dX7_readSet_107 rfl rfl) <|
  Ok.cons (so_iadd dX7_readSet_108 rfl) <|
  Ok.cons (so_aload_n dX7_readSet_109 rfl rfl) <|
  Ok.cons (so_iload_n dX7_readSet_110 rfl rfl) <|
  Ok.cons (so_si (ct_X7_leastOf l) wq_1425 wq_1423 wq_1424 wq_95 (by decide +kernel) (by decide) cmp_layM_sg0 dX7_readSet_111 rfl) <|
  Ok.cons (so_iload_n dX7_readSet_114 rfl rfl) <|
  Ok.cons (so_si (ct_X7_mostOf l) wq_1428 wq_1426 wq_1427 wq_95 (by decide +kernel) (by decide) cmp_layM_sg0 dX7_readSet_115 rfl) <|
  Ok.cons (so_vi0 (ct_X7_integer l) wq_1407 wq_1404 wq_1406 wq_54 wq_95 (by decide +kernel) (by decide) rfl rfl dX7_readSet_118 rfl) <|
  Ok.cons (so_ix dX7_readSet_121 rfl) <|
  Ok.cons (so_vr rfl dX7_readSet_122) <| Ok.nil
theorem ct_X7_readSet (l : Launch) : Ct l yX7_readSet cX7_readSet 3 none 10 layM f_X7_readSet := ofRunL (by decide) rfl (ok_X7_readSet l)
noncomputable def t_X7_readStatement : Tbl := [(0, s_al 1 0),
  (1, s_gf 4 layM 7 12),
  (4, s_zne 7 14),
  (7, s_al 8 0),
  (8, s_gf 11 layM 7 13),
  (11, s_go 15),
  (14, s_ic 15 (-1)),
  (15, s_is 16 1),
  (16, s_il 17 1),
  (17, s_sw [(0, 48), (1, 55), (2, 62), (3, 69)] 76),
  (48, s_al 49 0),
  (49, s_cv0 true 52 1 f_X7_readIron),
  (52, s_go 83),
  (55, s_al 56 0),
  (56, s_cv0 true 59 1 f_X7_readStep),
  (59, s_go 83),
  (62, s_al 63 0),
  (63, s_cv0 true 66 1 f_X7_readPlace),
  (66, s_go 83),
  (69, s_al 70 0),
  (70, s_cv0 true 73 1 f_X7_readSet),
  (73, s_go 83),
  (76, s_al 77 0),
  (77, s_ic 78 1),
  (78, s_ic 80 (-11)),
  (80, s_cv0 true 83 3 f_X7_failsIf),
  (83, s_al 84 0),
  (84, s_al 85 0),
  (85, s_gf 88 layM 7 12),
  (88, s_ic 89 2),
  (89, s_ceq 92 96),
  (92, s_ic 93 1),
  (93, s_go 97),
  (96, s_ic 97 0),
  (97, s_ic 99 (-11)),
  (99, s_cv0 true 102 3 f_X7_failsIf),
  (102, s_al 103 0),
  (103, s_cv0 true 106 1 f_X7_goOn),
  (106, s_al 107 0),
  (107, s_dup 108),
  (108, s_gf 111 layM 7 18),
  (111, s_ic 112 1),
  (112, s_b 113 (fun x y => x + y)),
  (113, s_pf 116 layM 7 18),
  (116, s_vr)]
def cs_X7_readStatement : Cs := [(15, [0]), (83, [0]), (97, [0])]
noncomputable def f_X7_readStatement : List Vv → Mm → Option Ou := lock (sem t_X7_readStatement cs_X7_readStatement 2)
set_option maxRecDepth 20000 in
theorem ok_X7_readStatement (l : Launch) : Ok l RX7 cX7_readStatement 2 11 none layM t_X7_readStatement :=
  Ok.cons (so_aload_n dX7_readStatement_0 rfl rfl) <|
  Ok.cons (so_gf (C := RX7) (T := TX7) (N := 42) inGX7 rfl (by decide) wq_1186 rfl dX7_readStatement_1 rfl) <|
  Ok.cons (so_zne dX7_readStatement_4 (by decide) rfl) <|
  Ok.cons (so_aload_n dX7_readStatement_7 rfl rfl) <|
  Ok.cons (so_gf (C := RX7) (T := TX7) (N := 42) inGX7 rfl (by decide) wq_1187 rfl dX7_readStatement_8 rfl) <|
  Ok.cons (so_goto dX7_readStatement_11 (by decide)) <|
  Ok.cons (so_iconst dX7_readStatement_14 (by decide) rfl) <|
  Ok.cons (so_istore_n dX7_readStatement_15 rfl (by decide) rfl) <|
  Ok.cons (so_iload_n dX7_readStatement_16 rfl rfl) <|
  Ok.cons (so_tb4 dX7_readStatement_17 (by decide) (by decide) (by decide) (by decide) (by decide)) <|
  Ok.cons (so_aload_n dX7_readStatement_48 rfl rfl) <|
  Ok.cons (so_vv0 (ct_X7_readIron l) wq_1388 wq_1385 wq_1387 wq_50 wq_95 (by decide +kernel) (by decide) rfl rfl dX7_readStatement_49 rfl) <|
  Ok.cons (so_goto dX7_readStatement_52 (by decide)) <|
  Ok.cons (so_aload_n dX7_readStatement_55 rfl rfl) <|
  Ok.cons (so_vv0 (ct_X7_readStep l) wq_1411 wq_1408 wq_1410 wq_55 wq_95 (by decide +kernel) (by decide) rfl rfl dX7_readStatement_56 rfl) <|
  Ok.cons (so_goto dX7_readStatement_59 (by decide)) <|
  Ok.cons (so_aload_n dX7_readStatement_62 rfl rfl) <|
  Ok.cons (so_vv0 (ct_X7_readPlace l) wq_1418 wq_1415 wq_1417 wq_56 wq_95 (by decide +kernel) (by decide) rfl rfl dX7_readStatement_63 rfl) <|
  Ok.cons (so_goto dX7_readStatement_66 (by decide)) <|
  Ok.cons (so_aload_n dX7_readStatement_69 rfl rfl) <|
  Ok.cons (so_vv0 (ct_X7_readSet l) wq_1422 wq_1419 wq_1421 wq_57 wq_95 (by decide +kernel) (by decide) rfl rfl dX7_readStatement_70 rfl) <|
  Ok.cons (so_goto dX7_readStatement_73 (by decide)) <|
  Ok.cons (so_aload_n dX7_readStatement_76 rfl rfl) <|
  Ok.cons (so_iconst dX7_readStatement_77 (by decide) rfl) <|
  Ok.cons (so_bipush dX7_readStatement_78 (by decide) rfl) <|
  Ok.cons (so_vv0 (ct_X7_failsIf l) wq_1392 wq_1389 wq_1391 wq_51 wq_95 (by decide +kernel) (by decide) rfl rfl dX7_readStatement_80 rfl) <|
  Ok.cons (so_aload_n dX7_readStatement_83 rfl rfl) <|
  Ok.cons (so_aload_n dX7_readStatement_84 rfl rfl) <|
  Ok.cons (so_gf (C := RX7) (T := TX7) (N := 42) inGX7 rfl (by decide) wq_1186 rfl dX7_readStatement_85 rfl) <|
  Ok.cons (so_iconst dX7_readStatement_88 (by decide) rfl) <|
  Ok.cons (so_ceq dX7_readStatement_89 (by decide) rfl) <|
  Ok.cons (so_iconst dX7_readStatement_92 (by decide) rfl) <|
  Ok.cons (so_goto dX7_readStatement_93 (by decide)) <|
  Ok.cons (so_iconst dX7_readStatement_96 (by decide) rfl) <|
  Ok.cons (so_bipush dX7_readStatement_97 (by decide) rfl) <|
  Ok.cons (so_vv0 (ct_X7_failsIf l) wq_1392 wq_1389 wq_1391 wq_51 wq_95 (by decide +kernel) (by decide) rfl rfl dX7_readStatement_99 rfl) <|
  Ok.cons (so_aload_n dX7_readStatement_102 rfl rfl) <|
  Ok.cons (so_vv0 (ct_X7_goOn l) wq_1396 wq_1393 wq_1395 wq_52 wq_95 (by decide +kernel) (by decide) rfl rfl dX7_readStatement_103 rfl) <|
  Ok.cons (so_aload_n dX7_readStatement_106 rfl rfl) <|
  Ok.cons (so_dup dX7_readStatement_107 rfl) <|
  Ok.cons (so_gf (C := RX7) (T := TX7) (N := 42) inGX7 rfl (by decide) wq_1192 rfl dX7_readStatement_108 rfl) <|
  Ok.cons (so_iconst dX7_readStatement_111 (by decide) rfl) <|
  Ok.cons (so_iadd dX7_readStatement_112 rfl) <|
  Ok.cons (so_pf (C := RX7) (T := TX7) (N := 42) inGX7 tyX7_ok nmX7 rfl (by decide) wq_1192 rfl rfl rfl dX7_readStatement_113 rfl) <|
  Ok.cons (so_vr rfl dX7_readStatement_116) <| Ok.nil
theorem ct_X7_readStatement (l : Launch) : Ct l yX7_readStatement cX7_readStatement 2 none 11 layM f_X7_readStatement := ofRunL (by decide) rfl (ok_X7_readStatement l)
noncomputable def t_X7_load : Tbl := [(0, s_al 1 0),
  (1, s_ic 2 0),
  (2, s_pf 5 layM 7 0),
  (5, s_il 6 1),
  (6, s_zlt 9 17),
  (9, s_il 10 1),
  (10, s_al 11 0),
  (11, s_gf 14 layM 7 2),
  (14, s_cle 17 20),
  (17, s_ic 19 (-2)),
  (19, s_ir),
  (20, s_al 21 0),
  (21, s_cv0 true 24 1 f_X7_newForge),
  (24, s_al 25 0),
  (25, s_il 26 1),
  (26, s_pf 29 layM 7 9),
  (29, s_al 30 0),
  (30, s_ic 31 0),
  (31, s_pf 34 layM 7 10),
  (34, s_al 35 0),
  (35, s_ic 36 0),
  (36, s_pf 39 layM 7 15),
  (39, s_al 40 0),
  (40, s_cv0 true 43 1 f_X7_next),
  (43, s_al 44 0),
  (44, s_gf 47 layM 7 15),
  (47, s_zne 50 65),
  (50, s_al 51 0),
  (51, s_gf 54 layM 7 12),
  (54, s_ic 55 3),
  (55, s_ceq 58 65),
  (58, s_al 59 0),
  (59, s_cv0 true 62 1 f_X7_readStatement),
  (62, s_go 43),
  (65, s_al 66 0),
  (66, s_ic 67 0),
  (67, s_pf 70 layM 7 2),
  (70, s_al 71 0),
  (71, s_al 72 0),
  (72, s_gf 75 layM 7 15),
  (75, s_zne 78 82),
  (78, s_ic 79 (-1)),
  (79, s_go 86),
  (82, s_al 83 0),
  (83, s_gf 86 layM 7 16),
  (86, s_pf 89 layM 7 17),
  (89, s_al 90 0),
  (90, s_gf 93 layM 7 15),
  (93, s_zeq 96 101),
  (96, s_al 97 0),
  (97, s_gf 100 layM 7 15),
  (100, s_ir),
  (101, s_al 102 0),
  (102, s_cv0 true 105 1 f_X7_takes),
  (105, s_al 106 0),
  (106, s_gf 109 layM 7 18),
  (109, s_ir)]
def cs_X7_load : Cs := [(43, [0]), (65, [0]), (86, [0])]
noncomputable def f_X7_load : List Vv → Mm → Option Ou := lock (sem t_X7_load cs_X7_load 2)
set_option maxRecDepth 20000 in
theorem ok_X7_load (l : Launch) : Ok l RX7 cX7_load 2 12 (some .int) layM t_X7_load :=
  Ok.cons (so_aload_n dX7_load_0 rfl rfl) <|
  Ok.cons (so_iconst dX7_load_1 (by decide) rfl) <|
  Ok.cons (so_pf (C := RX7) (T := TX7) (N := 42) inGX7 tyX7_ok nmX7 rfl (by decide) wq_1174 rfl rfl rfl dX7_load_2 rfl) <|
  Ok.cons (so_iload_n dX7_load_5 rfl rfl) <|
  Ok.cons (so_zlt dX7_load_6 (by decide) rfl) <|
  Ok.cons (so_iload_n dX7_load_9 rfl rfl) <|
  Ok.cons (so_aload_n dX7_load_10 rfl rfl) <|
  Ok.cons (so_gf (C := RX7) (T := TX7) (N := 42) inGX7 rfl (by decide) wq_1176 rfl dX7_load_11 rfl) <|
  Ok.cons (so_cle dX7_load_14 (by decide) rfl) <|
  Ok.cons (so_bipush dX7_load_17 (by decide) rfl) <|
  Ok.cons (so_ir rfl dX7_load_19) <|
  Ok.cons (so_aload_n dX7_load_20 rfl rfl) <|
  Ok.cons (so_vv0 (ct_X7_newForge l) wq_1169 wq_1166 wq_1168 wq_44 wq_95 (by decide +kernel) (by decide) rfl rfl dX7_load_21 rfl) <|
  Ok.cons (so_aload_n dX7_load_24 rfl rfl) <|
  Ok.cons (so_iload_n dX7_load_25 rfl rfl) <|
  Ok.cons (so_pf (C := RX7) (T := TX7) (N := 42) inGX7 tyX7_ok nmX7 rfl (by decide) wq_1183 rfl rfl rfl dX7_load_26 rfl) <|
  Ok.cons (so_aload_n dX7_load_29 rfl rfl) <|
  Ok.cons (so_iconst dX7_load_30 (by decide) rfl) <|
  Ok.cons (so_pf (C := RX7) (T := TX7) (N := 42) inGX7 tyX7_ok nmX7 rfl (by decide) wq_1184 rfl rfl rfl dX7_load_31 rfl) <|
  Ok.cons (so_aload_n dX7_load_34 rfl rfl) <|
  Ok.cons (so_iconst dX7_load_35 (by decide) rfl) <|
  Ok.cons (so_pf (C := RX7) (T := TX7) (N := 42) inGX7 tyX7_ok nmX7 rfl (by decide) wq_1189 rfl rfl rfl dX7_load_36 rfl) <|
  Ok.cons (so_aload_n dX7_load_39 rfl rfl) <|
  Ok.cons (so_vv0 (ct_X7_next l) wq_1316 wq_1313 wq_1315 wq_46 wq_95 (by decide +kernel) (by decide) rfl rfl dX7_load_40 rfl) <|
  Ok.cons (so_aload_n dX7_load_43 rfl rfl) <|
  Ok.cons (so_gf (C := RX7) (T := TX7) (N := 42) inGX7 rfl (by decide) wq_1189 rfl dX7_load_44 rfl) <|
  Ok.cons (so_zne dX7_load_47 (by decide) rfl) <|
  Ok.cons (so_aload_n dX7_load_50 rfl rfl) <|
  Ok.cons (so_gf (C := RX7) (T := TX7) (N := 42) inGX7 rfl (by decide) wq_1186 rfl dX7_load_51 rfl) <|
  Ok.cons (so_iconst dX7_load_54 (by decide) rfl) <|
  Ok.cons (so_ceq dX7_load_55 (by decide) rfl) <|
  Ok.cons (so_aload_n dX7_load_58 rfl rfl) <|
  Ok.cons (so_vv0 (ct_X7_readStatement l) wq_1384 wq_1381 wq_1383 wq_49 wq_95 (by decide +kernel) (by decide) rfl rfl dX7_load_59 rfl) <|
  Ok.cons (so_goto dX7_load_62 (by decide)) <|
  Ok.cons (so_aload_n dX7_load_65 rfl rfl) <|
  Ok.cons (so_iconst dX7_load_66 (by decide) rfl) <|
  Ok.cons (so_pf (C := RX7) (T := TX7) (N := 42) inGX7 tyX7_ok nmX7 rfl (by decide) wq_1176 rfl rfl rfl dX7_load_67 rfl) <|
  Ok.cons (so_aload_n dX7_load_70 rfl rfl) <|
  Ok.cons (so_aload_n dX7_load_71 rfl rfl) <|
  Ok.cons (so_gf (C := RX7) (T := TX7) (N := 42) inGX7 rfl (by decide) wq_1189 rfl dX7_load_72 rfl) <|
  Ok.cons (so_zne dX7_load_75 (by decide) rfl) <|
  Ok.cons (so_iconst dX7_load_78 (by decide) rfl) <|
  Ok.cons (so_goto dX7_load_79 (by decide)) <|
  Ok.cons (so_aload_n dX7_load_82 rfl rfl) <|
  Ok.cons (so_gf (C := RX7) (T := TX7) (N := 42) inGX7 rfl (by decide) wq_1190 rfl dX7_load_83 rfl) <|
  Ok.cons (so_pf (C := RX7) (T := TX7) (N := 42) inGX7 tyX7_ok nmX7 rfl (by decide) wq_1191 rfl rfl rfl dX7_load_86 rfl) <|
  Ok.cons (so_aload_n dX7_load_89 rfl rfl) <|
  Ok.cons (so_gf (C := RX7) (T := TX7) (N := 42) inGX7 rfl (by decide) wq_1189 rfl dX7_load_90 rfl) <|
  Ok.cons (so_zeq dX7_load_93 (by decide) rfl) <|
  Ok.cons (so_aload_n dX7_load_96 rfl rfl) <|
  Ok.cons (so_gf (C := RX7) (T := TX7) (N := 42) inGX7 rfl (by decide) wq_1189 rfl dX7_load_97 rfl) <|
  Ok.cons (so_ir rfl dX7_load_100) <|
  Ok.cons (so_aload_n dX7_load_101 rfl rfl) <|
  Ok.cons (so_vv0 (ct_X7_takes l) wq_1173 wq_1170 wq_1172 wq_45 wq_95 (by decide +kernel) (by decide) rfl rfl dX7_load_102 rfl) <|
  Ok.cons (so_aload_n dX7_load_105 rfl rfl) <|
  Ok.cons (so_gf (C := RX7) (T := TX7) (N := 42) inGX7 rfl (by decide) wq_1192 rfl dX7_load_106 rfl) <|
  Ok.cons (so_ir rfl dX7_load_109) <| Ok.nil
theorem ct_X7_load (l : Launch) : Ct l yX7_load cX7_load 2 (some .int) 12 layM f_X7_load := ofRunL (by decide) rfl (ok_X7_load l)
noncomputable def t_X7_errorPosition : Tbl := [(0, s_al 1 0),
  (1, s_ic 2 0),
  (2, s_pf 5 layM 7 0),
  (5, s_al 6 0),
  (6, s_gf 9 layM 7 17),
  (9, s_ir)]
def cs_X7_errorPosition : Cs := []
noncomputable def f_X7_errorPosition : List Vv → Mm → Option Ou := lock (sem t_X7_errorPosition cs_X7_errorPosition 1)
set_option maxRecDepth 20000 in
theorem ok_X7_errorPosition (l : Launch) : Ok l RX7 cX7_errorPosition 1 1 (some .int) layM t_X7_errorPosition :=
  Ok.cons (so_aload_n dX7_errorPosition_0 rfl rfl) <|
  Ok.cons (so_iconst dX7_errorPosition_1 (by decide) rfl) <|
  Ok.cons (so_pf (C := RX7) (T := TX7) (N := 42) inGX7 tyX7_ok nmX7 rfl (by decide) wq_1174 rfl rfl rfl dX7_errorPosition_2 rfl) <|
  Ok.cons (so_aload_n dX7_errorPosition_5 rfl rfl) <|
  Ok.cons (so_gf (C := RX7) (T := TX7) (N := 42) inGX7 rfl (by decide) wq_1191 rfl dX7_errorPosition_6 rfl) <|
  Ok.cons (so_ir rfl dX7_errorPosition_9) <| Ok.nil
theorem ct_X7_errorPosition (l : Launch) : Ct l yX7_errorPosition cX7_errorPosition 1 (some .int) 1 layM f_X7_errorPosition := ofRunL (by decide) rfl (ok_X7_errorPosition l)
noncomputable def t_X7_isIron : Tbl := [(0, s_il 1 1),
  (1, s_zlt 4 19),
  (4, s_il 5 1),
  (5, s_al 6 0),
  (6, s_gf 9 layM 7 3),
  (9, s_ic 11 18),
  (11, s_ia 12 layM 0),
  (12, s_cge 15 19),
  (15, s_ic 16 1),
  (16, s_go 20),
  (19, s_ic 20 0),
  (20, s_zr)]
def cs_X7_isIron : Cs := []
noncomputable def f_X7_isIron : List Vv → Mm → Option Ou := lock (sem t_X7_isIron cs_X7_isIron 2)
set_option maxRecDepth 20000 in
theorem ok_X7_isIron (l : Launch) : Ok l RX7 cX7_isIron 2 1 (some .boolean) layM t_X7_isIron :=
  Ok.cons (so_iload_n dX7_isIron_0 rfl rfl) <|
  Ok.cons (so_zlt dX7_isIron_1 (by decide) rfl) <|
  Ok.cons (so_iload_n dX7_isIron_4 rfl rfl) <|
  Ok.cons (so_aload_n dX7_isIron_5 rfl rfl) <|
  Ok.cons (so_gf (C := RX7) (T := TX7) (N := 42) inGX7 rfl (by decide) wq_1177 rfl dX7_isIron_6 rfl) <|
  Ok.cons (so_bipush dX7_isIron_9 (by decide) rfl) <|
  Ok.cons (so_ia0 dX7_isIron_11 rfl) <|
  Ok.cons (so_cge dX7_isIron_12 (by decide) rfl) <|
  Ok.cons (so_iconst dX7_isIron_15 (by decide) rfl) <|
  Ok.cons (so_goto dX7_isIron_16 (by decide)) <|
  Ok.cons (so_iconst dX7_isIron_19 (by decide) rfl) <|
  Ok.cons (so_zr rfl dX7_isIron_20) <| Ok.nil
theorem ct_X7_isIron (l : Launch) : Ct l yX7_isIron cX7_isIron 2 (some .boolean) 1 layM f_X7_isIron := ofRunL (by decide) rfl (ok_X7_isIron l)
noncomputable def t_X7_isPlace : Tbl := [(0, s_il 1 1),
  (1, s_zlt 4 19),
  (4, s_il 5 1),
  (5, s_al 6 0),
  (6, s_gf 9 layM 7 3),
  (9, s_ic 11 19),
  (11, s_ia 12 layM 0),
  (12, s_cge 15 19),
  (15, s_ic 16 1),
  (16, s_go 20),
  (19, s_ic 20 0),
  (20, s_zr)]
def cs_X7_isPlace : Cs := []
noncomputable def f_X7_isPlace : List Vv → Mm → Option Ou := lock (sem t_X7_isPlace cs_X7_isPlace 2)
set_option maxRecDepth 20000 in
theorem ok_X7_isPlace (l : Launch) : Ok l RX7 cX7_isPlace 2 1 (some .boolean) layM t_X7_isPlace :=
  Ok.cons (so_iload_n dX7_isPlace_0 rfl rfl) <|
  Ok.cons (so_zlt dX7_isPlace_1 (by decide) rfl) <|
  Ok.cons (so_iload_n dX7_isPlace_4 rfl rfl) <|
  Ok.cons (so_aload_n dX7_isPlace_5 rfl rfl) <|
  Ok.cons (so_gf (C := RX7) (T := TX7) (N := 42) inGX7 rfl (by decide) wq_1177 rfl dX7_isPlace_6 rfl) <|
  Ok.cons (so_bipush dX7_isPlace_9 (by decide) rfl) <|
  Ok.cons (so_ia0 dX7_isPlace_11 rfl) <|
  Ok.cons (so_cge dX7_isPlace_12 (by decide) rfl) <|
  Ok.cons (so_iconst dX7_isPlace_15 (by decide) rfl) <|
  Ok.cons (so_goto dX7_isPlace_16 (by decide)) <|
  Ok.cons (so_iconst dX7_isPlace_19 (by decide) rfl) <|
  Ok.cons (so_zr rfl dX7_isPlace_20) <| Ok.nil
theorem ct_X7_isPlace (l : Launch) : Ct l yX7_isPlace cX7_isPlace 2 (some .boolean) 1 layM f_X7_isPlace := ofRunL (by decide) rfl (ok_X7_isPlace l)
noncomputable def t_X7_isStep : Tbl := [(0, s_al 1 0),
  (1, s_il 2 1),
  (2, s_ci0 true 5 2 f_X7_isIron),
  (5, s_zeq 8 28),
  (8, s_il 9 2),
  (9, s_zlt 12 28),
  (12, s_il 13 2),
  (13, s_al 14 0),
  (14, s_gf 17 layM 7 5),
  (17, s_ic 18 0),
  (18, s_il 19 1),
  (19, s_b 20 (fun x y => x + y)),
  (20, s_ia 21 layM 0),
  (21, s_cge 24 28),
  (24, s_ic 25 1),
  (25, s_go 29),
  (28, s_ic 29 0),
  (29, s_zr)]
def cs_X7_isStep : Cs := []
noncomputable def f_X7_isStep : List Vv → Mm → Option Ou := lock (sem t_X7_isStep cs_X7_isStep 3)
set_option maxRecDepth 20000 in
theorem ok_X7_isStep (l : Launch) : Ok l RX7 cX7_isStep 3 2 (some .boolean) layM t_X7_isStep :=
  Ok.cons (so_aload_n dX7_isStep_0 rfl rfl) <|
  Ok.cons (so_iload_n dX7_isStep_1 rfl rfl) <|
  Ok.cons (so_vi0 (ct_X7_isIron l) wq_1456 wq_1453 wq_1455 wq_58 wq_95 (by decide +kernel) (by decide) rfl rfl dX7_isStep_2 rfl) <|
  Ok.cons (so_zeq dX7_isStep_5 (by decide) rfl) <|
  Ok.cons (so_iload_n dX7_isStep_8 rfl rfl) <|
  Ok.cons (so_zlt dX7_isStep_9 (by decide) rfl) <|
  Ok.cons (so_iload_n dX7_isStep_12 rfl rfl) <|
  Ok.cons (so_aload_n dX7_isStep_13 rfl rfl) <|
  Ok.cons (so_gf (C := RX7) (T := TX7) (N := 42) inGX7 rfl (by decide) wq_1179 rfl dX7_isStep_14 rfl) <|
  Ok.cons (so_iconst dX7_isStep_17 (by decide) rfl) <|
  Ok.cons (so_iload_n dX7_isStep_18 rfl rfl) <|
  Ok.cons (so_iadd dX7_isStep_19 rfl) <|
  Ok.cons (so_ia0 dX7_isStep_20 rfl) <|
  Ok.cons (so_cge dX7_isStep_21 (by decide) rfl) <|
  Ok.cons (so_iconst dX7_isStep_24 (by decide) rfl) <|
  Ok.cons (so_goto dX7_isStep_25 (by decide)) <|
  Ok.cons (so_iconst dX7_isStep_28 (by decide) rfl) <|
  Ok.cons (so_zr rfl dX7_isStep_29) <| Ok.nil
theorem ct_X7_isStep (l : Launch) : Ct l yX7_isStep cX7_isStep 3 (some .boolean) 2 layM f_X7_isStep := ofRunL (by decide) rfl (ok_X7_isStep l)
noncomputable def t_X7_checks : Tbl := [(0, s_al 1 0),
  (1, s_il 2 1),
  (2, s_zeq 5 9),
  (5, s_ic 6 0),
  (6, s_go 10),
  (9, s_ic 10 1),
  (10, s_pf 13 layM 7 0),
  (13, s_il 14 1),
  (14, s_zr)]
def cs_X7_checks : Cs := []
noncomputable def f_X7_checks : List Vv → Mm → Option Ou := lock (sem t_X7_checks cs_X7_checks 2)
set_option maxRecDepth 20000 in
theorem ok_X7_checks (l : Launch) : Ok l RX7 cX7_checks 2 1 (some .boolean) layM t_X7_checks :=
  Ok.cons (so_aload_n dX7_checks_0 rfl rfl) <|
  Ok.cons (so_iload_n dX7_checks_1 rfl rfl) <|
  Ok.cons (so_zeq dX7_checks_2 (by decide) rfl) <|
  Ok.cons (so_iconst dX7_checks_5 (by decide) rfl) <|
  Ok.cons (so_goto dX7_checks_6 (by decide)) <|
  Ok.cons (so_iconst dX7_checks_9 (by decide) rfl) <|
  Ok.cons (so_pf (C := RX7) (T := TX7) (N := 42) inGX7 tyX7_ok nmX7 rfl (by decide) wq_1174 rfl rfl rfl dX7_checks_10 rfl) <|
  Ok.cons (so_iload_n dX7_checks_13 rfl rfl) <|
  Ok.cons (so_zr rfl dX7_checks_14) <| Ok.nil
theorem ct_X7_checks (l : Launch) : Ct l yX7_checks cX7_checks 2 (some .boolean) 1 layM f_X7_checks := ofRunL (by decide) rfl (ok_X7_checks l)
noncomputable def t_X7_ironCount : Tbl := [(0, s_al 1 0),
  (1, s_ic 2 0),
  (2, s_pf 5 layM 7 0),
  (5, s_al 6 0),
  (6, s_gf 9 layM 7 3),
  (9, s_ic 11 18),
  (11, s_ia 12 layM 0),
  (12, s_ir)]
def cs_X7_ironCount : Cs := []
noncomputable def f_X7_ironCount : List Vv → Mm → Option Ou := lock (sem t_X7_ironCount cs_X7_ironCount 1)
set_option maxRecDepth 20000 in
theorem ok_X7_ironCount (l : Launch) : Ok l RX7 cX7_ironCount 1 1 (some .int) layM t_X7_ironCount :=
  Ok.cons (so_aload_n dX7_ironCount_0 rfl rfl) <|
  Ok.cons (so_iconst dX7_ironCount_1 (by decide) rfl) <|
  Ok.cons (so_pf (C := RX7) (T := TX7) (N := 42) inGX7 tyX7_ok nmX7 rfl (by decide) wq_1174 rfl rfl rfl dX7_ironCount_2 rfl) <|
  Ok.cons (so_aload_n dX7_ironCount_5 rfl rfl) <|
  Ok.cons (so_gf (C := RX7) (T := TX7) (N := 42) inGX7 rfl (by decide) wq_1177 rfl dX7_ironCount_6 rfl) <|
  Ok.cons (so_bipush dX7_ironCount_9 (by decide) rfl) <|
  Ok.cons (so_ia0 dX7_ironCount_11 rfl) <|
  Ok.cons (so_ir rfl dX7_ironCount_12) <| Ok.nil
theorem ct_X7_ironCount (l : Launch) : Ct l yX7_ironCount cX7_ironCount 1 (some .int) 1 layM f_X7_ironCount := ofRunL (by decide) rfl (ok_X7_ironCount l)
noncomputable def t_X7_placeCount : Tbl := [(0, s_al 1 0),
  (1, s_ic 2 0),
  (2, s_pf 5 layM 7 0),
  (5, s_al 6 0),
  (6, s_gf 9 layM 7 3),
  (9, s_ic 11 19),
  (11, s_ia 12 layM 0),
  (12, s_ir)]
def cs_X7_placeCount : Cs := []
noncomputable def f_X7_placeCount : List Vv → Mm → Option Ou := lock (sem t_X7_placeCount cs_X7_placeCount 1)
set_option maxRecDepth 20000 in
theorem ok_X7_placeCount (l : Launch) : Ok l RX7 cX7_placeCount 1 1 (some .int) layM t_X7_placeCount :=
  Ok.cons (so_aload_n dX7_placeCount_0 rfl rfl) <|
  Ok.cons (so_iconst dX7_placeCount_1 (by decide) rfl) <|
  Ok.cons (so_pf (C := RX7) (T := TX7) (N := 42) inGX7 tyX7_ok nmX7 rfl (by decide) wq_1174 rfl rfl rfl dX7_placeCount_2 rfl) <|
  Ok.cons (so_aload_n dX7_placeCount_5 rfl rfl) <|
  Ok.cons (so_gf (C := RX7) (T := TX7) (N := 42) inGX7 rfl (by decide) wq_1177 rfl dX7_placeCount_6 rfl) <|
  Ok.cons (so_bipush dX7_placeCount_9 (by decide) rfl) <|
  Ok.cons (so_ia0 dX7_placeCount_11 rfl) <|
  Ok.cons (so_ir rfl dX7_placeCount_12) <| Ok.nil
theorem ct_X7_placeCount (l : Launch) : Ct l yX7_placeCount cX7_placeCount 1 (some .int) 1 layM f_X7_placeCount := ofRunL (by decide) rfl (ok_X7_placeCount l)
noncomputable def t_X7_undoCount : Tbl := [(0, s_al 1 0),
  (1, s_ic 2 0),
  (2, s_pf 5 layM 7 0),
  (5, s_al 6 0),
  (6, s_gf 9 layM 7 8),
  (9, s_ir)]
def cs_X7_undoCount : Cs := []
noncomputable def f_X7_undoCount : List Vv → Mm → Option Ou := lock (sem t_X7_undoCount cs_X7_undoCount 1)
set_option maxRecDepth 20000 in
theorem ok_X7_undoCount (l : Launch) : Ok l RX7 cX7_undoCount 1 1 (some .int) layM t_X7_undoCount :=
  Ok.cons (so_aload_n dX7_undoCount_0 rfl rfl) <|
  Ok.cons (so_iconst dX7_undoCount_1 (by decide) rfl) <|
  Ok.cons (so_pf (C := RX7) (T := TX7) (N := 42) inGX7 tyX7_ok nmX7 rfl (by decide) wq_1174 rfl rfl rfl dX7_undoCount_2 rfl) <|
  Ok.cons (so_aload_n dX7_undoCount_5 rfl rfl) <|
  Ok.cons (so_gf (C := RX7) (T := TX7) (N := 42) inGX7 rfl (by decide) wq_1182 rfl dX7_undoCount_6 rfl) <|
  Ok.cons (so_ir rfl dX7_undoCount_9) <| Ok.nil
theorem ct_X7_undoCount (l : Launch) : Ct l yX7_undoCount cX7_undoCount 1 (some .int) 1 layM f_X7_undoCount := ofRunL (by decide) rfl (ok_X7_undoCount l)
noncomputable def t_X7_ironNamed : Tbl := [(0, s_al 1 0),
  (1, s_ic 2 0),
  (2, s_pf 5 layM 7 0),
  (5, s_al 6 0),
  (6, s_gf 9 layM 7 3),
  (9, s_il 10 1),
  (10, s_ci0 false 13 2 f_X7_found),
  (13, s_ir)]
def cs_X7_ironNamed : Cs := []
noncomputable def f_X7_ironNamed : List Vv → Mm → Option Ou := lock (sem t_X7_ironNamed cs_X7_ironNamed 2)
set_option maxRecDepth 20000 in
theorem ok_X7_ironNamed (l : Launch) : Ok l RX7 cX7_ironNamed 2 2 (some .int) layM t_X7_ironNamed :=
  Ok.cons (so_aload_n dX7_ironNamed_0 rfl rfl) <|
  Ok.cons (so_iconst dX7_ironNamed_1 (by decide) rfl) <|
  Ok.cons (so_pf (C := RX7) (T := TX7) (N := 42) inGX7 tyX7_ok nmX7 rfl (by decide) wq_1174 rfl rfl rfl dX7_ironNamed_2 rfl) <|
  Ok.cons (so_aload_n dX7_ironNamed_5 rfl rfl) <|
  Ok.cons (so_gf (C := RX7) (T := TX7) (N := 42) inGX7 rfl (by decide) wq_1177 rfl dX7_ironNamed_6 rfl) <|
  Ok.cons (so_iload_n dX7_ironNamed_9 rfl rfl) <|
  Ok.cons (so_si0 (ct_X7_found l) wq_1403 wq_1401 wq_1402 wq_95 (by decide +kernel) (by decide) dX7_ironNamed_10 rfl) <|
  Ok.cons (so_ir rfl dX7_ironNamed_13) <| Ok.nil
theorem ct_X7_ironNamed (l : Launch) : Ct l yX7_ironNamed cX7_ironNamed 2 (some .int) 2 layM f_X7_ironNamed := ofRunL (by decide) rfl (ok_X7_ironNamed l)
noncomputable def t_X7_mass : Tbl := [(0, s_al 1 0),
  (1, s_al 2 0),
  (2, s_il 3 1),
  (3, s_ci0 true 6 2 f_X7_isIron),
  (6, s_ci0 true 9 2 f_X7_checks),
  (9, s_zeq 12 24),
  (12, s_al 13 0),
  (13, s_gf 16 layM 7 3),
  (16, s_ic 18 6),
  (18, s_il 19 1),
  (19, s_b 20 (fun x y => x + y)),
  (20, s_ia 21 layM 0),
  (21, s_go 25),
  (24, s_ic 25 0),
  (25, s_ir)]
def cs_X7_mass : Cs := []
noncomputable def f_X7_mass : List Vv → Mm → Option Ou := lock (sem t_X7_mass cs_X7_mass 2)
set_option maxRecDepth 20000 in
theorem ok_X7_mass (l : Launch) : Ok l RX7 cX7_mass 2 2 (some .int) layM t_X7_mass :=
  Ok.cons (so_aload_n dX7_mass_0 rfl rfl) <|
  Ok.cons (so_aload_n dX7_mass_1 rfl rfl) <|
  Ok.cons (so_iload_n dX7_mass_2 rfl rfl) <|
  Ok.cons (so_vi0 (ct_X7_isIron l) wq_1456 wq_1453 wq_1455 wq_58 wq_95 (by decide +kernel) (by decide) rfl rfl dX7_mass_3 rfl) <|
  Ok.cons (so_vi0 (ct_X7_checks l) wq_1460 wq_1457 wq_1459 wq_59 wq_95 (by decide +kernel) (by decide) rfl rfl dX7_mass_6 rfl) <|
  Ok.cons (so_zeq dX7_mass_9 (by decide) rfl) <|
  Ok.cons (so_aload_n dX7_mass_12 rfl rfl) <|
  Ok.cons (so_gf (C := RX7) (T := TX7) (N := 42) inGX7 rfl (by decide) wq_1177 rfl dX7_mass_13 rfl) <|
  Ok.cons (so_bipush dX7_mass_16 (by decide) rfl) <|
  Ok.cons (so_iload_n dX7_mass_18 rfl rfl) <|
  Ok.cons (so_iadd dX7_mass_19 rfl) <|
  Ok.cons (so_ia0 dX7_mass_20 rfl) <|
  Ok.cons (so_goto dX7_mass_21 (by decide)) <|
  Ok.cons (so_iconst dX7_mass_24 (by decide) rfl) <|
  Ok.cons (so_ir rfl dX7_mass_25) <| Ok.nil
theorem ct_X7_mass (l : Launch) : Ct l yX7_mass cX7_mass 2 (some .int) 2 layM f_X7_mass := ofRunL (by decide) rfl (ok_X7_mass l)
noncomputable def t_X7_cooling : Tbl := [(0, s_al 1 0),
  (1, s_al 2 0),
  (2, s_il 3 1),
  (3, s_ci0 true 6 2 f_X7_isIron),
  (6, s_ci0 true 9 2 f_X7_checks),
  (9, s_zeq 12 24),
  (12, s_al 13 0),
  (13, s_gf 16 layM 7 3),
  (16, s_ic 18 12),
  (18, s_il 19 1),
  (19, s_b 20 (fun x y => x + y)),
  (20, s_ia 21 layM 0),
  (21, s_go 25),
  (24, s_ic 25 0),
  (25, s_ir)]
def cs_X7_cooling : Cs := []
noncomputable def f_X7_cooling : List Vv → Mm → Option Ou := lock (sem t_X7_cooling cs_X7_cooling 2)
set_option maxRecDepth 20000 in
theorem ok_X7_cooling (l : Launch) : Ok l RX7 cX7_cooling 2 2 (some .int) layM t_X7_cooling :=
  Ok.cons (so_aload_n dX7_cooling_0 rfl rfl) <|
  Ok.cons (so_aload_n dX7_cooling_1 rfl rfl) <|
  Ok.cons (so_iload_n dX7_cooling_2 rfl rfl) <|
  Ok.cons (so_vi0 (ct_X7_isIron l) wq_1456 wq_1453 wq_1455 wq_58 wq_95 (by decide +kernel) (by decide) rfl rfl dX7_cooling_3 rfl) <|
  Ok.cons (so_vi0 (ct_X7_checks l) wq_1460 wq_1457 wq_1459 wq_59 wq_95 (by decide +kernel) (by decide) rfl rfl dX7_cooling_6 rfl) <|
  Ok.cons (so_zeq dX7_cooling_9 (by decide) rfl) <|
  Ok.cons (so_aload_n dX7_cooling_12 rfl rfl) <|
  Ok.cons (so_gf (C := RX7) (T := TX7) (N := 42) inGX7 rfl (by decide) wq_1177 rfl dX7_cooling_13 rfl) <|
  Ok.cons (so_bipush dX7_cooling_16 (by decide) rfl) <|
  Ok.cons (so_iload_n dX7_cooling_18 rfl rfl) <|
  Ok.cons (so_iadd dX7_cooling_19 rfl) <|
  Ok.cons (so_ia0 dX7_cooling_20 rfl) <|
  Ok.cons (so_goto dX7_cooling_21 (by decide)) <|
  Ok.cons (so_iconst dX7_cooling_24 (by decide) rfl) <|
  Ok.cons (so_ir rfl dX7_cooling_25) <| Ok.nil
theorem ct_X7_cooling (l : Launch) : Ct l yX7_cooling cX7_cooling 2 (some .int) 2 layM f_X7_cooling := ofRunL (by decide) rfl (ok_X7_cooling l)
noncomputable def t_X7_stepCount : Tbl := [(0, s_al 1 0),
  (1, s_al 2 0),
  (2, s_il 3 1),
  (3, s_ci0 true 6 2 f_X7_isIron),
  (6, s_ci0 true 9 2 f_X7_checks),
  (9, s_zeq 12 23),
  (12, s_al 13 0),
  (13, s_gf 16 layM 7 5),
  (16, s_ic 17 0),
  (17, s_il 18 1),
  (18, s_b 19 (fun x y => x + y)),
  (19, s_ia 20 layM 0),
  (20, s_go 24),
  (23, s_ic 24 0),
  (24, s_ir)]
def cs_X7_stepCount : Cs := []
noncomputable def f_X7_stepCount : List Vv → Mm → Option Ou := lock (sem t_X7_stepCount cs_X7_stepCount 2)
set_option maxRecDepth 20000 in
theorem ok_X7_stepCount (l : Launch) : Ok l RX7 cX7_stepCount 2 2 (some .int) layM t_X7_stepCount :=
  Ok.cons (so_aload_n dX7_stepCount_0 rfl rfl) <|
  Ok.cons (so_aload_n dX7_stepCount_1 rfl rfl) <|
  Ok.cons (so_iload_n dX7_stepCount_2 rfl rfl) <|
  Ok.cons (so_vi0 (ct_X7_isIron l) wq_1456 wq_1453 wq_1455 wq_58 wq_95 (by decide +kernel) (by decide) rfl rfl dX7_stepCount_3 rfl) <|
  Ok.cons (so_vi0 (ct_X7_checks l) wq_1460 wq_1457 wq_1459 wq_59 wq_95 (by decide +kernel) (by decide) rfl rfl dX7_stepCount_6 rfl) <|
  Ok.cons (so_zeq dX7_stepCount_9 (by decide) rfl) <|
  Ok.cons (so_aload_n dX7_stepCount_12 rfl rfl) <|
  Ok.cons (so_gf (C := RX7) (T := TX7) (N := 42) inGX7 rfl (by decide) wq_1179 rfl dX7_stepCount_13 rfl) <|
  Ok.cons (so_iconst dX7_stepCount_16 (by decide) rfl) <|
  Ok.cons (so_iload_n dX7_stepCount_17 rfl rfl) <|
  Ok.cons (so_iadd dX7_stepCount_18 rfl) <|
  Ok.cons (so_ia0 dX7_stepCount_19 rfl) <|
  Ok.cons (so_goto dX7_stepCount_20 (by decide)) <|
  Ok.cons (so_iconst dX7_stepCount_23 (by decide) rfl) <|
  Ok.cons (so_ir rfl dX7_stepCount_24) <| Ok.nil
theorem ct_X7_stepCount (l : Launch) : Ct l yX7_stepCount cX7_stepCount 2 (some .int) 2 layM f_X7_stepCount := ofRunL (by decide) rfl (ok_X7_stepCount l)
noncomputable def t_X7_stepHeat : Tbl := [(0, s_al 1 0),
  (1, s_al 2 0),
  (2, s_il 3 1),
  (3, s_il 4 2),
  (4, s_ci0 true 7 3 f_X7_isStep),
  (7, s_ci0 true 10 2 f_X7_checks),
  (10, s_zeq 13 29),
  (13, s_al 14 0),
  (14, s_gf 17 layM 7 5),
  (17, s_ic 19 6),
  (19, s_ic 20 5),
  (20, s_il 21 1),
  (21, s_b 22 (fun x y => x * y)),
  (22, s_b 23 (fun x y => x + y)),
  (23, s_il 24 2),
  (24, s_b 25 (fun x y => x + y)),
  (25, s_ia 26 layM 0),
  (26, s_go 30),
  (29, s_ic 30 0),
  (30, s_ir)]
def cs_X7_stepHeat : Cs := []
noncomputable def f_X7_stepHeat : List Vv → Mm → Option Ou := lock (sem t_X7_stepHeat cs_X7_stepHeat 3)
set_option maxRecDepth 20000 in
theorem ok_X7_stepHeat (l : Launch) : Ok l RX7 cX7_stepHeat 3 3 (some .int) layM t_X7_stepHeat :=
  Ok.cons (so_aload_n dX7_stepHeat_0 rfl rfl) <|
  Ok.cons (so_aload_n dX7_stepHeat_1 rfl rfl) <|
  Ok.cons (so_iload_n dX7_stepHeat_2 rfl rfl) <|
  Ok.cons (so_iload_n dX7_stepHeat_3 rfl rfl) <|
  Ok.cons (so_vi0 (ct_X7_isStep l) wq_1476 wq_1473 wq_1475 wq_60 wq_95 (by decide +kernel) (by decide) rfl rfl dX7_stepHeat_4 rfl) <|
  Ok.cons (so_vi0 (ct_X7_checks l) wq_1460 wq_1457 wq_1459 wq_59 wq_95 (by decide +kernel) (by decide) rfl rfl dX7_stepHeat_7 rfl) <|
  Ok.cons (so_zeq dX7_stepHeat_10 (by decide) rfl) <|
  Ok.cons (so_aload_n dX7_stepHeat_13 rfl rfl) <|
  Ok.cons (so_gf (C := RX7) (T := TX7) (N := 42) inGX7 rfl (by decide) wq_1179 rfl dX7_stepHeat_14 rfl) <|
  Ok.cons (so_bipush dX7_stepHeat_17 (by decide) rfl) <|
  Ok.cons (so_iconst dX7_stepHeat_19 (by decide) rfl) <|
  Ok.cons (so_iload_n dX7_stepHeat_20 rfl rfl) <|
  Ok.cons (so_imul dX7_stepHeat_21 rfl) <|
  Ok.cons (so_iadd dX7_stepHeat_22 rfl) <|
  Ok.cons (so_iload_n dX7_stepHeat_23 rfl rfl) <|
  Ok.cons (so_iadd dX7_stepHeat_24 rfl) <|
  Ok.cons (so_ia0 dX7_stepHeat_25 rfl) <|
  Ok.cons (so_goto dX7_stepHeat_26 (by decide)) <|
  Ok.cons (so_iconst dX7_stepHeat_29 (by decide) rfl) <|
  Ok.cons (so_ir rfl dX7_stepHeat_30) <| Ok.nil
theorem ct_X7_stepHeat (l : Launch) : Ct l yX7_stepHeat cX7_stepHeat 3 (some .int) 3 layM f_X7_stepHeat := ofRunL (by decide) rfl (ok_X7_stepHeat l)
noncomputable def t_X7_stepMinutes : Tbl := [(0, s_al 1 0),
  (1, s_al 2 0),
  (2, s_il 3 1),
  (3, s_il 4 2),
  (4, s_ci0 true 7 3 f_X7_isStep),
  (7, s_ci0 true 10 2 f_X7_checks),
  (10, s_zeq 13 29),
  (13, s_al 14 0),
  (14, s_gf 17 layM 7 5),
  (17, s_ic 19 36),
  (19, s_ic 20 5),
  (20, s_il 21 1),
  (21, s_b 22 (fun x y => x * y)),
  (22, s_b 23 (fun x y => x + y)),
  (23, s_il 24 2),
  (24, s_b 25 (fun x y => x + y)),
  (25, s_ia 26 layM 0),
  (26, s_go 30),
  (29, s_ic 30 0),
  (30, s_ir)]
def cs_X7_stepMinutes : Cs := []
noncomputable def f_X7_stepMinutes : List Vv → Mm → Option Ou := lock (sem t_X7_stepMinutes cs_X7_stepMinutes 3)
set_option maxRecDepth 20000 in
theorem ok_X7_stepMinutes (l : Launch) : Ok l RX7 cX7_stepMinutes 3 3 (some .int) layM t_X7_stepMinutes :=
  Ok.cons (so_aload_n dX7_stepMinutes_0 rfl rfl) <|
  Ok.cons (so_aload_n dX7_stepMinutes_1 rfl rfl) <|
  Ok.cons (so_iload_n dX7_stepMinutes_2 rfl rfl) <|
  Ok.cons (so_iload_n dX7_stepMinutes_3 rfl rfl) <|
  Ok.cons (so_vi0 (ct_X7_isStep l) wq_1476 wq_1473 wq_1475 wq_60 wq_95 (by decide +kernel) (by decide) rfl rfl dX7_stepMinutes_4 rfl) <|
  Ok.cons (so_vi0 (ct_X7_checks l) wq_1460 wq_1457 wq_1459 wq_59 wq_95 (by decide +kernel) (by decide) rfl rfl dX7_stepMinutes_7 rfl) <|
  Ok.cons (so_zeq dX7_stepMinutes_10 (by decide) rfl) <|
  Ok.cons (so_aload_n dX7_stepMinutes_13 rfl rfl) <|
  Ok.cons (so_gf (C := RX7) (T := TX7) (N := 42) inGX7 rfl (by decide) wq_1179 rfl dX7_stepMinutes_14 rfl) <|
  Ok.cons (so_bipush dX7_stepMinutes_17 (by decide) rfl) <|
  Ok.cons (so_iconst dX7_stepMinutes_19 (by decide) rfl) <|
  Ok.cons (so_iload_n dX7_stepMinutes_20 rfl rfl) <|
  Ok.cons (so_imul dX7_stepMinutes_21 rfl) <|
  Ok.cons (so_iadd dX7_stepMinutes_22 rfl) <|
  Ok.cons (so_iload_n dX7_stepMinutes_23 rfl rfl) <|
  Ok.cons (so_iadd dX7_stepMinutes_24 rfl) <|
  Ok.cons (so_ia0 dX7_stepMinutes_25 rfl) <|
  Ok.cons (so_goto dX7_stepMinutes_26 (by decide)) <|
  Ok.cons (so_iconst dX7_stepMinutes_29 (by decide) rfl) <|
  Ok.cons (so_ir rfl dX7_stepMinutes_30) <| Ok.nil
theorem ct_X7_stepMinutes (l : Launch) : Ct l yX7_stepMinutes cX7_stepMinutes 3 (some .int) 3 layM f_X7_stepMinutes := ofRunL (by decide) rfl (ok_X7_stepMinutes l)
noncomputable def t_X7_placeRate : Tbl := [(0, s_al 1 0),
  (1, s_al 2 0),
  (2, s_il 3 1),
  (3, s_ci0 true 6 2 f_X7_isPlace),
  (6, s_ci0 true 9 2 f_X7_checks),
  (9, s_zeq 12 24),
  (12, s_al 13 0),
  (13, s_gf 16 layM 7 5),
  (16, s_ic 18 66),
  (18, s_il 19 1),
  (19, s_b 20 (fun x y => x + y)),
  (20, s_ia 21 layM 0),
  (21, s_go 25),
  (24, s_ic 25 0),
  (25, s_ir)]
def cs_X7_placeRate : Cs := []
noncomputable def f_X7_placeRate : List Vv → Mm → Option Ou := lock (sem t_X7_placeRate cs_X7_placeRate 2)
set_option maxRecDepth 20000 in
theorem ok_X7_placeRate (l : Launch) : Ok l RX7 cX7_placeRate 2 2 (some .int) layM t_X7_placeRate :=
  Ok.cons (so_aload_n dX7_placeRate_0 rfl rfl) <|
  Ok.cons (so_aload_n dX7_placeRate_1 rfl rfl) <|
  Ok.cons (so_iload_n dX7_placeRate_2 rfl rfl) <|
  Ok.cons (so_vi0 (ct_X7_isPlace l) wq_1488 wq_1485 wq_1487 wq_61 wq_95 (by decide +kernel) (by decide) rfl rfl dX7_placeRate_3 rfl) <|
  Ok.cons (so_vi0 (ct_X7_checks l) wq_1460 wq_1457 wq_1459 wq_59 wq_95 (by decide +kernel) (by decide) rfl rfl dX7_placeRate_6 rfl) <|
  Ok.cons (so_zeq dX7_placeRate_9 (by decide) rfl) <|
  Ok.cons (so_aload_n dX7_placeRate_12 rfl rfl) <|
  Ok.cons (so_gf (C := RX7) (T := TX7) (N := 42) inGX7 rfl (by decide) wq_1179 rfl dX7_placeRate_13 rfl) <|
  Ok.cons (so_bipush dX7_placeRate_16 (by decide) rfl) <|
  Ok.cons (so_iload_n dX7_placeRate_18 rfl rfl) <|
  Ok.cons (so_iadd dX7_placeRate_19 rfl) <|
  Ok.cons (so_ia0 dX7_placeRate_20 rfl) <|
  Ok.cons (so_goto dX7_placeRate_21 (by decide)) <|
  Ok.cons (so_iconst dX7_placeRate_24 (by decide) rfl) <|
  Ok.cons (so_ir rfl dX7_placeRate_25) <| Ok.nil
theorem ct_X7_placeRate (l : Launch) : Ct l yX7_placeRate cX7_placeRate 2 (some .int) 2 layM f_X7_placeRate := ofRunL (by decide) rfl (ok_X7_placeRate l)
noncomputable def t_X7_placeLimit : Tbl := [(0, s_al 1 0),
  (1, s_al 2 0),
  (2, s_il 3 1),
  (3, s_ci0 true 6 2 f_X7_isPlace),
  (6, s_ci0 true 9 2 f_X7_checks),
  (9, s_zeq 12 24),
  (12, s_al 13 0),
  (13, s_gf 16 layM 7 5),
  (16, s_ic 18 69),
  (18, s_il 19 1),
  (19, s_b 20 (fun x y => x + y)),
  (20, s_ia 21 layM 0),
  (21, s_go 25),
  (24, s_ic 25 0),
  (25, s_ir)]
def cs_X7_placeLimit : Cs := []
noncomputable def f_X7_placeLimit : List Vv → Mm → Option Ou := lock (sem t_X7_placeLimit cs_X7_placeLimit 2)
set_option maxRecDepth 20000 in
theorem ok_X7_placeLimit (l : Launch) : Ok l RX7 cX7_placeLimit 2 2 (some .int) layM t_X7_placeLimit :=
  Ok.cons (so_aload_n dX7_placeLimit_0 rfl rfl) <|
  Ok.cons (so_aload_n dX7_placeLimit_1 rfl rfl) <|
  Ok.cons (so_iload_n dX7_placeLimit_2 rfl rfl) <|
  Ok.cons (so_vi0 (ct_X7_isPlace l) wq_1488 wq_1485 wq_1487 wq_61 wq_95 (by decide +kernel) (by decide) rfl rfl dX7_placeLimit_3 rfl) <|
  Ok.cons (so_vi0 (ct_X7_checks l) wq_1460 wq_1457 wq_1459 wq_59 wq_95 (by decide +kernel) (by decide) rfl rfl dX7_placeLimit_6 rfl) <|
  Ok.cons (so_zeq dX7_placeLimit_9 (by decide) rfl) <|
  Ok.cons (so_aload_n dX7_placeLimit_12 rfl rfl) <|
  Ok.cons (so_gf (C := RX7) (T := TX7) (N := 42) inGX7 rfl (by decide) wq_1179 rfl dX7_placeLimit_13 rfl) <|
  Ok.cons (so_bipush dX7_placeLimit_16 (by decide) rfl) <|
  Ok.cons (so_iload_n dX7_placeLimit_18 rfl rfl) <|
  Ok.cons (so_iadd dX7_placeLimit_19 rfl) <|
  Ok.cons (so_ia0 dX7_placeLimit_20 rfl) <|
  Ok.cons (so_goto dX7_placeLimit_21 (by decide)) <|
  Ok.cons (so_iconst dX7_placeLimit_24 (by decide) rfl) <|
  Ok.cons (so_ir rfl dX7_placeLimit_25) <| Ok.nil
theorem ct_X7_placeLimit (l : Launch) : Ct l yX7_placeLimit cX7_placeLimit 2 (some .int) 2 layM f_X7_placeLimit := ofRunL (by decide) rfl (ok_X7_placeLimit l)
noncomputable def t_X7_isSetting : Tbl := [(0, s_il 1 0),
  (1, s_zlt 4 13),
  (4, s_il 5 0),
  (5, s_ic 6 2),
  (6, s_cgt 9 13),
  (9, s_ic 10 1),
  (10, s_go 14),
  (13, s_ic 14 0),
  (14, s_zr)]
def cs_X7_isSetting : Cs := []
noncomputable def f_X7_isSetting : List Vv → Mm → Option Ou := lock (sem t_X7_isSetting cs_X7_isSetting 1)
set_option maxRecDepth 20000 in
theorem ok_X7_isSetting (l : Launch) : Ok l RX7 cX7_isSetting 1 1 (some .boolean) lay0 t_X7_isSetting :=
  Ok.cons (so_iload_n dX7_isSetting_0 rfl rfl) <|
  Ok.cons (so_zlt dX7_isSetting_1 (by decide) rfl) <|
  Ok.cons (so_iload_n dX7_isSetting_4 rfl rfl) <|
  Ok.cons (so_iconst dX7_isSetting_5 (by decide) rfl) <|
  Ok.cons (so_cgt dX7_isSetting_6 (by decide) rfl) <|
  Ok.cons (so_iconst dX7_isSetting_9 (by decide) rfl) <|
  Ok.cons (so_goto dX7_isSetting_10 (by decide)) <|
  Ok.cons (so_iconst dX7_isSetting_13 (by decide) rfl) <|
  Ok.cons (so_zr rfl dX7_isSetting_14) <| Ok.nil
theorem ct_X7_isSetting (l : Launch) : Ct l yX7_isSetting cX7_isSetting 1 (some .boolean) 1 lay0 f_X7_isSetting := ofRunL (by decide) rfl (ok_X7_isSetting l)
noncomputable def t_X7_getSetting : Tbl := [(0, s_al 1 0),
  (1, s_ic 2 0),
  (2, s_pf 5 layM 7 0),
  (5, s_il 6 1),
  (6, s_ci false 9 1 (sg0) f_X7_isSetting),
  (9, s_zeq 12 24),
  (12, s_al 13 0),
  (13, s_gf 16 layM 7 5),
  (16, s_ic 18 78),
  (18, s_il 19 1),
  (19, s_b 20 (fun x y => x + y)),
  (20, s_ia 21 layM 0),
  (21, s_go 26),
  (24, s_ic 26 (-2)),
  (26, s_ir)]
def cs_X7_getSetting : Cs := []
noncomputable def f_X7_getSetting : List Vv → Mm → Option Ou := lock (sem t_X7_getSetting cs_X7_getSetting 2)
set_option maxRecDepth 20000 in
theorem ok_X7_getSetting (l : Launch) : Ok l RX7 cX7_getSetting 2 2 (some .int) layM t_X7_getSetting :=
  Ok.cons (so_aload_n dX7_getSetting_0 rfl rfl) <|
  Ok.cons (so_iconst dX7_getSetting_1 (by decide) rfl) <|
  Ok.cons (so_pf (C := RX7) (T := TX7) (N := 42) inGX7 tyX7_ok nmX7 rfl (by decide) wq_1174 rfl rfl rfl dX7_getSetting_2 rfl) <|
  Ok.cons (so_iload_n dX7_getSetting_5 rfl rfl) <|
  Ok.cons (so_si (ct_X7_isSetting l) wq_1499 wq_1497 wq_1498 wq_95 (by decide +kernel) (by decide) cmp_layM_sg0 dX7_getSetting_6 rfl) <|
  Ok.cons (so_zeq dX7_getSetting_9 (by decide) rfl) <|
  Ok.cons (so_aload_n dX7_getSetting_12 rfl rfl) <|
  Ok.cons (so_gf (C := RX7) (T := TX7) (N := 42) inGX7 rfl (by decide) wq_1179 rfl dX7_getSetting_13 rfl) <|
  Ok.cons (so_bipush dX7_getSetting_16 (by decide) rfl) <|
  Ok.cons (so_iload_n dX7_getSetting_18 rfl rfl) <|
  Ok.cons (so_iadd dX7_getSetting_19 rfl) <|
  Ok.cons (so_ia0 dX7_getSetting_20 rfl) <|
  Ok.cons (so_goto dX7_getSetting_21 (by decide)) <|
  Ok.cons (so_bipush dX7_getSetting_24 (by decide) rfl) <|
  Ok.cons (so_ir rfl dX7_getSetting_26) <| Ok.nil
theorem ct_X7_getSetting (l : Launch) : Ct l yX7_getSetting cX7_getSetting 2 (some .int) 2 layM f_X7_getSetting := ofRunL (by decide) rfl (ok_X7_getSetting l)
noncomputable def t_X7_ironAt : Tbl := [(0, s_al 1 0),
  (1, s_al 2 0),
  (2, s_il 3 1),
  (3, s_ci0 true 6 2 f_X7_isIron),
  (6, s_ci0 true 9 2 f_X7_checks),
  (9, s_zeq 12 24),
  (12, s_al 13 0),
  (13, s_gf 16 layM 7 5),
  (16, s_ic 18 72),
  (18, s_il 19 1),
  (19, s_b 20 (fun x y => x + y)),
  (20, s_ia 21 layM 0),
  (21, s_go 25),
  (24, s_ic 25 0),
  (25, s_ir)]
def cs_X7_ironAt : Cs := []
noncomputable def f_X7_ironAt : List Vv → Mm → Option Ou := lock (sem t_X7_ironAt cs_X7_ironAt 2)
set_option maxRecDepth 20000 in
theorem ok_X7_ironAt (l : Launch) : Ok l RX7 cX7_ironAt 2 2 (some .int) layM t_X7_ironAt :=
  Ok.cons (so_aload_n dX7_ironAt_0 rfl rfl) <|
  Ok.cons (so_aload_n dX7_ironAt_1 rfl rfl) <|
  Ok.cons (so_iload_n dX7_ironAt_2 rfl rfl) <|
  Ok.cons (so_vi0 (ct_X7_isIron l) wq_1456 wq_1453 wq_1455 wq_58 wq_95 (by decide +kernel) (by decide) rfl rfl dX7_ironAt_3 rfl) <|
  Ok.cons (so_vi0 (ct_X7_checks l) wq_1460 wq_1457 wq_1459 wq_59 wq_95 (by decide +kernel) (by decide) rfl rfl dX7_ironAt_6 rfl) <|
  Ok.cons (so_zeq dX7_ironAt_9 (by decide) rfl) <|
  Ok.cons (so_aload_n dX7_ironAt_12 rfl rfl) <|
  Ok.cons (so_gf (C := RX7) (T := TX7) (N := 42) inGX7 rfl (by decide) wq_1179 rfl dX7_ironAt_13 rfl) <|
  Ok.cons (so_bipush dX7_ironAt_16 (by decide) rfl) <|
  Ok.cons (so_iload_n dX7_ironAt_18 rfl rfl) <|
  Ok.cons (so_iadd dX7_ironAt_19 rfl) <|
  Ok.cons (so_ia0 dX7_ironAt_20 rfl) <|
  Ok.cons (so_goto dX7_ironAt_21 (by decide)) <|
  Ok.cons (so_iconst dX7_ironAt_24 (by decide) rfl) <|
  Ok.cons (so_ir rfl dX7_ironAt_25) <| Ok.nil
theorem ct_X7_ironAt (l : Launch) : Ct l yX7_ironAt cX7_ironAt 2 (some .int) 2 layM f_X7_ironAt := ofRunL (by decide) rfl (ok_X7_ironAt l)
noncomputable def t_X7_positionOf : Tbl := [(0, s_al 1 0),
  (1, s_al 2 0),
  (2, s_il 3 1),
  (3, s_ci0 true 6 2 f_X7_isIron),
  (6, s_ci0 true 9 2 f_X7_checks),
  (9, s_zne 12 14),
  (12, s_ic 13 0),
  (13, s_ir),
  (14, s_ic 15 0),
  (15, s_is 16 2),
  (16, s_al 17 0),
  (17, s_gf 20 layM 7 5),
  (20, s_ic 22 72),
  (22, s_il 23 2),
  (23, s_b 24 (fun x y => x + y)),
  (24, s_ia 25 layM 0),
  (25, s_il 26 1),
  (26, s_ceq 29 35),
  (29, s_in 32 2 1),
  (32, s_go 16),
  (35, s_il 36 2),
  (36, s_ir)]
def cs_X7_positionOf : Cs := [(16, [0, 1, 2])]
noncomputable def f_X7_positionOf : List Vv → Mm → Option Ou := lock (sem t_X7_positionOf cs_X7_positionOf 3)
set_option maxRecDepth 20000 in
theorem ok_X7_positionOf (l : Launch) : Ok l RX7 cX7_positionOf 3 2 (some .int) layM t_X7_positionOf :=
  Ok.cons (so_aload_n dX7_positionOf_0 rfl rfl) <|
  Ok.cons (so_aload_n dX7_positionOf_1 rfl rfl) <|
  Ok.cons (so_iload_n dX7_positionOf_2 rfl rfl) <|
  Ok.cons (so_vi0 (ct_X7_isIron l) wq_1456 wq_1453 wq_1455 wq_58 wq_95 (by decide +kernel) (by decide) rfl rfl dX7_positionOf_3 rfl) <|
  Ok.cons (so_vi0 (ct_X7_checks l) wq_1460 wq_1457 wq_1459 wq_59 wq_95 (by decide +kernel) (by decide) rfl rfl dX7_positionOf_6 rfl) <|
  Ok.cons (so_zne dX7_positionOf_9 (by decide) rfl) <|
  Ok.cons (so_iconst dX7_positionOf_12 (by decide) rfl) <|
  Ok.cons (so_ir rfl dX7_positionOf_13) <|
  Ok.cons (so_iconst dX7_positionOf_14 (by decide) rfl) <|
  Ok.cons (so_istore_n dX7_positionOf_15 rfl (by decide) rfl) <|
  Ok.cons (so_aload_n dX7_positionOf_16 rfl rfl) <|
  Ok.cons (so_gf (C := RX7) (T := TX7) (N := 42) inGX7 rfl (by decide) wq_1179 rfl dX7_positionOf_17 rfl) <|
  Ok.cons (so_bipush dX7_positionOf_20 (by decide) rfl) <|
  Ok.cons (so_iload_n dX7_positionOf_22 rfl rfl) <|
  Ok.cons (so_iadd dX7_positionOf_23 rfl) <|
  Ok.cons (so_ia0 dX7_positionOf_24 rfl) <|
  Ok.cons (so_iload_n dX7_positionOf_25 rfl rfl) <|
  Ok.cons (so_ceq dX7_positionOf_26 (by decide) rfl) <|
  Ok.cons (so_iinc dX7_positionOf_29 (by decide) (by decide) rfl) <|
  Ok.cons (so_goto dX7_positionOf_32 (by decide)) <|
  Ok.cons (so_iload_n dX7_positionOf_35 rfl rfl) <|
  Ok.cons (so_ir rfl dX7_positionOf_36) <| Ok.nil
theorem ct_X7_positionOf (l : Launch) : Ct l yX7_positionOf cX7_positionOf 3 (some .int) 2 layM f_X7_positionOf := ofRunL (by decide) rfl (ok_X7_positionOf l)
noncomputable def t_X7_isDone : Tbl := [(0, s_al 1 0),
  (1, s_gf 4 layM 7 26),
  (4, s_il 5 1),
  (5, s_ia 6 layM 0),
  (6, s_al 7 0),
  (7, s_gf 10 layM 7 5),
  (10, s_ic 11 0),
  (11, s_il 12 1),
  (12, s_b 13 (fun x y => x + y)),
  (13, s_ia 14 layM 0),
  (14, s_cne 17 21),
  (17, s_ic 18 1),
  (18, s_go 22),
  (21, s_ic 22 0),
  (22, s_zr)]
def cs_X7_isDone : Cs := []
noncomputable def f_X7_isDone : List Vv → Mm → Option Ou := lock (sem t_X7_isDone cs_X7_isDone 2)
set_option maxRecDepth 20000 in
theorem ok_X7_isDone (l : Launch) : Ok l RX7 cX7_isDone 2 1 (some .boolean) layM t_X7_isDone :=
  Ok.cons (so_aload_n dX7_isDone_0 rfl rfl) <|
  Ok.cons (so_gf (C := RX7) (T := TX7) (N := 42) inGX7 rfl (by decide) wq_1200 rfl dX7_isDone_1 rfl) <|
  Ok.cons (so_iload_n dX7_isDone_4 rfl rfl) <|
  Ok.cons (so_ia0 dX7_isDone_5 rfl) <|
  Ok.cons (so_aload_n dX7_isDone_6 rfl rfl) <|
  Ok.cons (so_gf (C := RX7) (T := TX7) (N := 42) inGX7 rfl (by decide) wq_1179 rfl dX7_isDone_7 rfl) <|
  Ok.cons (so_iconst dX7_isDone_10 (by decide) rfl) <|
  Ok.cons (so_iload_n dX7_isDone_11 rfl rfl) <|
  Ok.cons (so_iadd dX7_isDone_12 rfl) <|
  Ok.cons (so_ia0 dX7_isDone_13 rfl) <|
  Ok.cons (so_cne dX7_isDone_14 (by decide) rfl) <|
  Ok.cons (so_iconst dX7_isDone_17 (by decide) rfl) <|
  Ok.cons (so_goto dX7_isDone_18 (by decide)) <|
  Ok.cons (so_iconst dX7_isDone_21 (by decide) rfl) <|
  Ok.cons (so_zr rfl dX7_isDone_22) <| Ok.nil
theorem ct_X7_isDone (l : Launch) : Ct l yX7_isDone cX7_isDone 2 (some .boolean) 1 layM f_X7_isDone := ofRunL (by decide) rfl (ok_X7_isDone l)
noncomputable def t_X7_needs : Tbl := [(0, s_al 1 0),
  (1, s_gf 4 layM 7 5),
  (4, s_ic 6 6),
  (6, s_ic 7 5),
  (7, s_il 8 1),
  (8, s_b 9 (fun x y => x * y)),
  (9, s_b 10 (fun x y => x + y)),
  (10, s_al 11 0),
  (11, s_gf 14 layM 7 26),
  (14, s_il 15 1),
  (15, s_ia 16 layM 0),
  (16, s_b 17 (fun x y => x + y)),
  (17, s_ia 18 layM 0),
  (18, s_ir)]
def cs_X7_needs : Cs := []
noncomputable def f_X7_needs : List Vv → Mm → Option Ou := lock (sem t_X7_needs cs_X7_needs 2)
set_option maxRecDepth 20000 in
theorem ok_X7_needs (l : Launch) : Ok l RX7 cX7_needs 2 1 (some .int) layM t_X7_needs :=
  Ok.cons (so_aload_n dX7_needs_0 rfl rfl) <|
  Ok.cons (so_gf (C := RX7) (T := TX7) (N := 42) inGX7 rfl (by decide) wq_1179 rfl dX7_needs_1 rfl) <|
  Ok.cons (so_bipush dX7_needs_4 (by decide) rfl) <|
  Ok.cons (so_iconst dX7_needs_6 (by decide) rfl) <|
  Ok.cons (so_iload_n dX7_needs_7 rfl rfl) <|
  Ok.cons (so_imul dX7_needs_8 rfl) <|
  Ok.cons (so_iadd dX7_needs_9 rfl) <|
  Ok.cons (so_aload_n dX7_needs_10 rfl rfl) <|
  Ok.cons (so_gf (C := RX7) (T := TX7) (N := 42) inGX7 rfl (by decide) wq_1200 rfl dX7_needs_11 rfl) <|
  Ok.cons (so_iload_n dX7_needs_14 rfl rfl) <|
  Ok.cons (so_ia0 dX7_needs_15 rfl) <|
  Ok.cons (so_iadd dX7_needs_16 rfl) <|
  Ok.cons (so_ia0 dX7_needs_17 rfl) <|
  Ok.cons (so_ir rfl dX7_needs_18) <| Ok.nil
theorem ct_X7_needs (l : Launch) : Ct l yX7_needs cX7_needs 2 (some .int) 1 layM f_X7_needs := ofRunL (by decide) rfl (ok_X7_needs l)
noncomputable def t_X7_isReady : Tbl := [(0, s_al 1 0),
  (1, s_il 2 1),
  (2, s_ci0 true 5 2 f_X7_isDone),
  (5, s_zne 8 42),
  (8, s_al 9 0),
  (9, s_gf 12 layM 7 25),
  (12, s_il 13 1),
  (13, s_ia 14 layM 0),
  (14, s_ic 16 10),
  (16, s_cge 19 42),
  (19, s_al 20 0),
  (20, s_gf 23 layM 7 24),
  (23, s_il 24 1),
  (24, s_ia 25 layM 0),
  (25, s_al 26 0),
  (26, s_il 27 1),
  (27, s_ci0 true 30 2 f_X7_needs),
  (30, s_al 31 0),
  (31, s_gf 34 layM 7 22),
  (34, s_b 35 (fun x y => x + y)),
  (35, s_clt 38 42),
  (38, s_ic 39 1),
  (39, s_go 43),
  (42, s_ic 43 0),
  (43, s_zr)]
def cs_X7_isReady : Cs := []
noncomputable def f_X7_isReady : List Vv → Mm → Option Ou := lock (sem t_X7_isReady cs_X7_isReady 2)
set_option maxRecDepth 20000 in
theorem ok_X7_isReady (l : Launch) : Ok l RX7 cX7_isReady 2 2 (some .boolean) layM t_X7_isReady :=
  Ok.cons (so_aload_n dX7_isReady_0 rfl rfl) <|
  Ok.cons (so_iload_n dX7_isReady_1 rfl rfl) <|
  Ok.cons (so_vi0 (ct_X7_isDone l) wq_1536 wq_1533 wq_1535 wq_67 wq_95 (by decide +kernel) (by decide) rfl rfl dX7_isReady_2 rfl) <|
  Ok.cons (so_zne dX7_isReady_5 (by decide) rfl) <|
  Ok.cons (so_aload_n dX7_isReady_8 rfl rfl) <|
  Ok.cons (so_gf (C := RX7) (T := TX7) (N := 42) inGX7 rfl (by decide) wq_1199 rfl dX7_isReady_9 rfl) <|
  Ok.cons (so_iload_n dX7_isReady_12 rfl rfl) <|
  Ok.cons (so_ia0 dX7_isReady_13 rfl) <|
  Ok.cons (so_bipush dX7_isReady_14 (by decide) rfl) <|
  Ok.cons (so_cge dX7_isReady_16 (by decide) rfl) <|
  Ok.cons (so_aload_n dX7_isReady_19 rfl rfl) <|
  Ok.cons (so_gf (C := RX7) (T := TX7) (N := 42) inGX7 rfl (by decide) wq_1198 rfl dX7_isReady_20 rfl) <|
  Ok.cons (so_iload_n dX7_isReady_23 rfl rfl) <|
  Ok.cons (so_ia0 dX7_isReady_24 rfl) <|
  Ok.cons (so_aload_n dX7_isReady_25 rfl rfl) <|
  Ok.cons (so_iload_n dX7_isReady_26 rfl rfl) <|
  Ok.cons (so_vi0 (ct_X7_needs l) wq_1540 wq_1537 wq_1539 wq_68 wq_95 (by decide +kernel) (by decide) rfl rfl dX7_isReady_27 rfl) <|
  Ok.cons (so_aload_n dX7_isReady_30 rfl rfl) <|
  Ok.cons (so_gf (C := RX7) (T := TX7) (N := 42) inGX7 rfl (by decide) wq_1196 rfl dX7_isReady_31 rfl) <|
  Ok.cons (so_iadd dX7_isReady_34 rfl) <|
  Ok.cons (so_clt dX7_isReady_35 (by decide) rfl) <|
  Ok.cons (so_iconst dX7_isReady_38 (by decide) rfl) <|
  Ok.cons (so_goto dX7_isReady_39 (by decide)) <|
  Ok.cons (so_iconst dX7_isReady_42 (by decide) rfl) <|
  Ok.cons (so_zr rfl dX7_isReady_43) <| Ok.nil
theorem ct_X7_isReady (l : Launch) : Ct l yX7_isReady cX7_isReady 2 (some .boolean) 2 layM f_X7_isReady := ofRunL (by decide) rfl (ok_X7_isReady l)
noncomputable def t_X7_left : Tbl := [(0, s_al 1 0),
  (1, s_gf 4 layM 7 27),
  (4, s_il 5 1),
  (5, s_ia 6 layM 0),
  (6, s_u 7 (fun x => -x)),
  (7, s_is 8 2),
  (8, s_al 9 0),
  (9, s_gf 12 layM 7 26),
  (12, s_il 13 1),
  (13, s_ia 14 layM 0),
  (14, s_is 15 3),
  (15, s_il 16 3),
  (16, s_al 17 0),
  (17, s_gf 20 layM 7 5),
  (20, s_ic 21 0),
  (21, s_il 22 1),
  (22, s_b 23 (fun x y => x + y)),
  (23, s_ia 24 layM 0),
  (24, s_cge 27 49),
  (27, s_il 28 2),
  (28, s_al 29 0),
  (29, s_gf 32 layM 7 5),
  (32, s_ic 34 36),
  (34, s_ic 35 5),
  (35, s_il 36 1),
  (36, s_b 37 (fun x y => x * y)),
  (37, s_b 38 (fun x y => x + y)),
  (38, s_il 39 3),
  (39, s_b 40 (fun x y => x + y)),
  (40, s_ia 41 layM 0),
  (41, s_b 42 (fun x y => x + y)),
  (42, s_is 43 2),
  (43, s_in 46 3 1),
  (46, s_go 15),
  (49, s_il 50 2),
  (50, s_ir)]
def cs_X7_left : Cs := [(15, [0, 1, 2, 3])]
noncomputable def f_X7_left : List Vv → Mm → Option Ou := lock (sem t_X7_left cs_X7_left 4)
set_option maxRecDepth 20000 in
theorem ok_X7_left (l : Launch) : Ok l RX7 cX7_left 4 1 (some .int) layM t_X7_left :=
  Ok.cons (so_aload_n dX7_left_0 rfl rfl) <|
  Ok.cons (so_gf (C := RX7) (T := TX7) (N := 42) inGX7 rfl (by decide) wq_1201 rfl dX7_left_1 rfl) <|
  Ok.cons (so_iload_n dX7_left_4 rfl rfl) <|
  Ok.cons (so_ia0 dX7_left_5 rfl) <|
  Ok.cons (so_ineg dX7_left_6 rfl) <|
  Ok.cons (so_istore_n dX7_left_7 rfl (by decide) rfl) <|
  Ok.cons (so_aload_n dX7_left_8 rfl rfl) <|
  Ok.cons (so_gf (C := RX7) (T := TX7) (N := 42) inGX7 rfl (by decide) wq_1200 rfl dX7_left_9 rfl) <|
  Ok.cons (so_iload_n dX7_left_12 rfl rfl) <|
  Ok.cons (so_ia0 dX7_left_13 rfl) <|
  Ok.cons (so_istore_n dX7_left_14 rfl (by decide) rfl) <|
  Ok.cons (so_iload_n dX7_left_15 rfl rfl) <|
  Ok.cons (so_aload_n dX7_left_16 rfl rfl) <|
  Ok.cons (so_gf (C := RX7) (T := TX7) (N := 42) inGX7 rfl (by decide) wq_1179 rfl dX7_left_17 rfl) <|
  Ok.cons (so_iconst dX7_left_20 (by decide) rfl) <|
  Ok.cons (so_iload_n dX7_left_21 rfl rfl) <|
  Ok.cons (so_iadd dX7_left_22 rfl) <|
  Ok.cons (so_ia0 dX7_left_23 rfl) <|
  Ok.cons (so_cge dX7_left_24 (by decide) rfl) <|
  Ok.cons (so_iload_n dX7_left_27 rfl rfl) <|
  Ok.cons (so_aload_n dX7_left_28 rfl rfl) <|
  Ok.cons (so_gf (C := RX7) (T := TX7) (N := 42) inGX7 rfl (by decide) wq_1179 rfl dX7_left_29 rfl) <|
  Ok.cons (so_bipush dX7_left_32 (by decide) rfl) <|
  Ok.cons (so_iconst dX7_left_34 (by decide) rfl) <|
  Ok.cons (so_iload_n dX7_left_35 rfl rfl) <|
  Ok.cons (so_imul dX7_left_36 rfl) <|
  Ok.cons (so_iadd dX7_left_37 rfl) <|
  Ok.cons (so_iload_n dX7_left_38 rfl rfl) <|
  Ok.cons (so_iadd dX7_left_39 rfl) <|
  Ok.cons (so_ia0 dX7_left_40 rfl) <|
  Ok.cons (so_iadd dX7_left_41 rfl) <|
  Ok.cons (so_istore_n dX7_left_42 rfl (by decide) rfl) <|
  Ok.cons (so_iinc dX7_left_43 (by decide) (by decide) rfl) <|
  Ok.cons (so_goto dX7_left_46 (by decide)) <|
  Ok.cons (so_iload_n dX7_left_49 rfl rfl) <|
  Ok.cons (so_ir rfl dX7_left_50) <| Ok.nil
theorem ct_X7_left (l : Launch) : Ct l yX7_left cX7_left 4 (some .int) 1 layM f_X7_left := ofRunL (by decide) rfl (ok_X7_left l)
noncomputable def t_X7_isTaken : Tbl := [(0, s_ic 1 0),
  (1, s_is 2 2),
  (2, s_ic 3 0),
  (3, s_is 4 3),
  (4, s_il 5 3),
  (5, s_al 6 0),
  (6, s_gf 9 layM 7 21),
  (9, s_cge 12 41),
  (12, s_il 13 2),
  (13, s_al 14 0),
  (14, s_gf 17 layM 7 25),
  (17, s_al 18 0),
  (18, s_gf 21 layM 7 20),
  (21, s_il 22 3),
  (22, s_ia 23 layM 0),
  (23, s_ia 24 layM 0),
  (24, s_il 25 1),
  (25, s_cne 28 32),
  (28, s_ic 29 1),
  (29, s_go 33),
  (32, s_ic 33 0),
  (33, s_b 34 (fun x y => x ||| y)),
  (34, s_is 35 2),
  (35, s_in 38 3 1),
  (38, s_go 4),
  (41, s_il 42 2),
  (42, s_zr)]
def cs_X7_isTaken : Cs := [(4, [0, 1, 2, 3])]
noncomputable def f_X7_isTaken : List Vv → Mm → Option Ou := lock (sem t_X7_isTaken cs_X7_isTaken 4)
set_option maxRecDepth 20000 in
theorem ok_X7_isTaken (l : Launch) : Ok l RX7 cX7_isTaken 4 1 (some .boolean) layM t_X7_isTaken :=
  Ok.cons (so_iconst dX7_isTaken_0 (by decide) rfl) <|
  Ok.cons (so_istore_n dX7_isTaken_1 rfl (by decide) rfl) <|
  Ok.cons (so_iconst dX7_isTaken_2 (by decide) rfl) <|
  Ok.cons (so_istore_n dX7_isTaken_3 rfl (by decide) rfl) <|
  Ok.cons (so_iload_n dX7_isTaken_4 rfl rfl) <|
  Ok.cons (so_aload_n dX7_isTaken_5 rfl rfl) <|
  Ok.cons (so_gf (C := RX7) (T := TX7) (N := 42) inGX7 rfl (by decide) wq_1195 rfl dX7_isTaken_6 rfl) <|
  Ok.cons (so_cge dX7_isTaken_9 (by decide) rfl) <|
  Ok.cons (so_iload_n dX7_isTaken_12 rfl rfl) <|
  Ok.cons (so_aload_n dX7_isTaken_13 rfl rfl) <|
  Ok.cons (so_gf (C := RX7) (T := TX7) (N := 42) inGX7 rfl (by decide) wq_1199 rfl dX7_isTaken_14 rfl) <|
  Ok.cons (so_aload_n dX7_isTaken_17 rfl rfl) <|
  Ok.cons (so_gf (C := RX7) (T := TX7) (N := 42) inGX7 rfl (by decide) wq_1194 rfl dX7_isTaken_18 rfl) <|
  Ok.cons (so_iload_n dX7_isTaken_21 rfl rfl) <|
  Ok.cons (so_ia0 dX7_isTaken_22 rfl) <|
  Ok.cons (so_ia0 dX7_isTaken_23 rfl) <|
  Ok.cons (so_iload_n dX7_isTaken_24 rfl rfl) <|
  Ok.cons (so_cne dX7_isTaken_25 (by decide) rfl) <|
  Ok.cons (so_iconst dX7_isTaken_28 (by decide) rfl) <|
  Ok.cons (so_goto dX7_isTaken_29 (by decide)) <|
  Ok.cons (so_iconst dX7_isTaken_32 (by decide) rfl) <|
  Ok.cons (so_ior dX7_isTaken_33 rfl) <|
  Ok.cons (so_istore_n dX7_isTaken_34 rfl (by decide) rfl) <|
  Ok.cons (so_iinc dX7_isTaken_35 (by decide) (by decide) rfl) <|
  Ok.cons (so_goto dX7_isTaken_38 (by decide)) <|
  Ok.cons (so_iload_n dX7_isTaken_41 rfl rfl) <|
  Ok.cons (so_zr rfl dX7_isTaken_42) <| Ok.nil
theorem ct_X7_isTaken (l : Launch) : Ct l yX7_isTaken cX7_isTaken 4 (some .boolean) 1 layM f_X7_isTaken := ofRunL (by decide) rfl (ok_X7_isTaken l)
noncomputable def t_X7_rank : Tbl := [(0, s_al 1 0),
  (1, s_gf 4 layM 7 5),
  (4, s_ic 6 80),
  (6, s_ia 7 layM 0),
  (7, s_is 8 2),
  (8, s_il 9 2),
  (9, s_ic 10 1),
  (10, s_cne 13 22),
  (13, s_al 14 0),
  (14, s_gf 17 layM 7 24),
  (17, s_il 18 1),
  (18, s_ia 19 layM 0),
  (19, s_go 37),
  (22, s_il 23 2),
  (23, s_ic 24 2),
  (24, s_cne 27 36),
  (27, s_al 28 0),
  (28, s_il 29 1),
  (29, s_ci0 true 32 2 f_X7_left),
  (32, s_u 33 (fun x => -x)),
  (33, s_go 37),
  (36, s_ic 37 0),
  (37, s_ir)]
def cs_X7_rank : Cs := []
noncomputable def f_X7_rank : List Vv → Mm → Option Ou := lock (sem t_X7_rank cs_X7_rank 3)
set_option maxRecDepth 20000 in
theorem ok_X7_rank (l : Launch) : Ok l RX7 cX7_rank 3 2 (some .int) layM t_X7_rank :=
  Ok.cons (so_aload_n dX7_rank_0 rfl rfl) <|
  Ok.cons (so_gf (C := RX7) (T := TX7) (N := 42) inGX7 rfl (by decide) wq_1179 rfl dX7_rank_1 rfl) <|
  Ok.cons (so_bipush dX7_rank_4 (by decide) rfl) <|
  Ok.cons (so_ia0 dX7_rank_6 rfl) <|
  Ok.cons (so_istore_n dX7_rank_7 rfl (by decide) rfl) <|
  Ok.cons (so_iload_n dX7_rank_8 rfl rfl) <|
  Ok.cons (so_iconst dX7_rank_9 (by decide) rfl) <|
  Ok.cons (so_cne dX7_rank_10 (by decide) rfl) <|
  Ok.cons (so_aload_n dX7_rank_13 rfl rfl) <|
  Ok.cons (so_gf (C := RX7) (T := TX7) (N := 42) inGX7 rfl (by decide) wq_1198 rfl dX7_rank_14 rfl) <|
  Ok.cons (so_iload_n dX7_rank_17 rfl rfl) <|
  Ok.cons (so_ia0 dX7_rank_18 rfl) <|
  Ok.cons (so_goto dX7_rank_19 (by decide)) <|
  Ok.cons (so_iload_n dX7_rank_22 rfl rfl) <|
  Ok.cons (so_iconst dX7_rank_23 (by decide) rfl) <|
  Ok.cons (so_cne dX7_rank_24 (by decide) rfl) <|
  Ok.cons (so_aload_n dX7_rank_27 rfl rfl) <|
  Ok.cons (so_iload_n dX7_rank_28 rfl rfl) <|
  Ok.cons (so_vi0 (ct_X7_left l) wq_1560 wq_1557 wq_1559 wq_73 wq_95 (by decide +kernel) (by decide) rfl rfl dX7_rank_29 rfl) <|
  Ok.cons (so_ineg dX7_rank_32 rfl) <|
  Ok.cons (so_goto dX7_rank_33 (by decide)) <|
  Ok.cons (so_iconst dX7_rank_36 (by decide) rfl) <|
  Ok.cons (so_ir rfl dX7_rank_37) <| Ok.nil
theorem ct_X7_rank (l : Launch) : Ct l yX7_rank cX7_rank 3 (some .int) 2 layM f_X7_rank := ofRunL (by decide) rfl (ok_X7_rank l)
noncomputable def t_X7_readyOne : Tbl := [(0, s_ic 1 (-1)),
  (1, s_is 2 1),
  (2, s_ic 3 0),
  (3, s_is 4 2),
  (4, s_il 5 2),
  (5, s_al 6 0),
  (6, s_gf 9 layM 7 21),
  (9, s_cge 12 53),
  (12, s_al 13 0),
  (13, s_gf 16 layM 7 20),
  (16, s_il 17 2),
  (17, s_ia 18 layM 0),
  (18, s_is 19 3),
  (19, s_al 20 0),
  (20, s_il 21 3),
  (21, s_ci0 true 24 2 f_X7_isReady),
  (24, s_zeq 27 47),
  (27, s_il 28 1),
  (28, s_ic 29 (-1)),
  (29, s_ceq 32 45),
  (32, s_al 33 0),
  (33, s_il 34 3),
  (34, s_ci0 true 37 2 f_X7_rank),
  (37, s_al 38 0),
  (38, s_il 39 1),
  (39, s_ci0 true 42 2 f_X7_rank),
  (42, s_cle 45 47),
  (45, s_il 46 3),
  (46, s_is 47 1),
  (47, s_in 50 2 1),
  (50, s_go 4),
  (53, s_il 54 1),
  (54, s_ir)]
def cs_X7_readyOne : Cs := [(4, [0, 1, 2])]
noncomputable def f_X7_readyOne : List Vv → Mm → Option Ou := lock (sem t_X7_readyOne cs_X7_readyOne 4)
set_option maxRecDepth 20000 in
theorem ok_X7_readyOne (l : Launch) : Ok l RX7 cX7_readyOne 4 3 (some .int) layM t_X7_readyOne :=
  Ok.cons (so_iconst dX7_readyOne_0 (by decide) rfl) <|
  Ok.cons (so_istore_n dX7_readyOne_1 rfl (by decide) rfl) <|
  Ok.cons (so_iconst dX7_readyOne_2 (by decide) rfl) <|
  Ok.cons (so_istore_n dX7_readyOne_3 rfl (by decide) rfl) <|
  Ok.cons (so_iload_n dX7_readyOne_4 rfl rfl) <|
  Ok.cons (so_aload_n dX7_readyOne_5 rfl rfl) <|
  Ok.cons (so_gf (C := RX7) (T := TX7) (N := 42) inGX7 rfl (by decide) wq_1195 rfl dX7_readyOne_6 rfl) <|
  Ok.cons (so_cge dX7_readyOne_9 (by decide) rfl) <|
  Ok.cons (so_aload_n dX7_readyOne_12 rfl rfl) <|
  Ok.cons (so_gf (C := RX7) (T := TX7) (N := 42) inGX7 rfl (by decide) wq_1194 rfl dX7_readyOne_13 rfl) <|
  Ok.cons (so_iload_n dX7_readyOne_16 rfl rfl) <|
  Ok.cons (so_ia0 dX7_readyOne_17 rfl) <|
  Ok.cons (so_istore_n dX7_readyOne_18 rfl (by decide) rfl) <|
  Ok.cons (so_aload_n dX7_readyOne_19 rfl rfl) <|
  Ok.cons (so_iload_n dX7_readyOne_20 rfl rfl) <|
  Ok.cons (so_vi0 (ct_X7_isReady l) wq_1552 wq_1549 wq_1551 wq_71 wq_95 (by decide +kernel) (by decide) rfl rfl dX7_readyOne_21 rfl) <|
  Ok.cons (so_zeq dX7_readyOne_24 (by decide) rfl) <|
  Ok.cons (so_iload_n dX7_readyOne_27 rfl rfl) <|
  Ok.cons (so_iconst dX7_readyOne_28 (by decide) rfl) <|
  Ok.cons (so_ceq dX7_readyOne_29 (by decide) rfl) <|
  Ok.cons (so_aload_n dX7_readyOne_32 rfl rfl) <|
  Ok.cons (so_iload_n dX7_readyOne_33 rfl rfl) <|
  Ok.cons (so_vi0 (ct_X7_rank l) wq_1556 wq_1553 wq_1555 wq_72 wq_95 (by decide +kernel) (by decide) rfl rfl dX7_readyOne_34 rfl) <|
  Ok.cons (so_aload_n dX7_readyOne_37 rfl rfl) <|
  Ok.cons (so_iload_n dX7_readyOne_38 rfl rfl) <|
  Ok.cons (so_vi0 (ct_X7_rank l) wq_1556 wq_1553 wq_1555 wq_72 wq_95 (by decide +kernel) (by decide) rfl rfl dX7_readyOne_39 rfl) <|
  Ok.cons (so_cle dX7_readyOne_42 (by decide) rfl) <|
  Ok.cons (so_iload_n dX7_readyOne_45 rfl rfl) <|
  Ok.cons (so_istore_n dX7_readyOne_46 rfl (by decide) rfl) <|
  Ok.cons (so_iinc dX7_readyOne_47 (by decide) (by decide) rfl) <|
  Ok.cons (so_goto dX7_readyOne_50 (by decide)) <|
  Ok.cons (so_iload_n dX7_readyOne_53 rfl rfl) <|
  Ok.cons (so_ir rfl dX7_readyOne_54) <| Ok.nil
theorem ct_X7_readyOne (l : Launch) : Ct l yX7_readyOne cX7_readyOne 4 (some .int) 3 layM f_X7_readyOne := ofRunL (by decide) rfl (ok_X7_readyOne l)
noncomputable def t_X7_waitingOne : Tbl := [(0, s_ic 1 0),
  (1, s_is 2 1),
  (2, s_il 3 1),
  (3, s_al 4 0),
  (4, s_gf 7 layM 7 21),
  (7, s_cge 10 50),
  (10, s_al 11 0),
  (11, s_gf 14 layM 7 20),
  (14, s_il 15 1),
  (15, s_ia 16 layM 0),
  (16, s_is 17 2),
  (17, s_al 18 0),
  (18, s_il 19 2),
  (19, s_ci0 true 22 2 f_X7_isDone),
  (22, s_zne 25 44),
  (25, s_al 26 0),
  (26, s_gf 29 layM 7 25),
  (29, s_il 30 2),
  (30, s_ia 31 layM 0),
  (31, s_zne 34 44),
  (34, s_al 35 0),
  (35, s_il 36 2),
  (36, s_ci0 true 39 2 f_X7_isReady),
  (39, s_zne 42 44),
  (42, s_il 43 2),
  (43, s_ir),
  (44, s_in 47 1 1),
  (47, s_go 2),
  (50, s_ic 51 (-1)),
  (51, s_ir)]
def cs_X7_waitingOne : Cs := [(2, [0, 1])]
noncomputable def f_X7_waitingOne : List Vv → Mm → Option Ou := lock (sem t_X7_waitingOne cs_X7_waitingOne 3)
set_option maxRecDepth 20000 in
theorem ok_X7_waitingOne (l : Launch) : Ok l RX7 cX7_waitingOne 3 3 (some .int) layM t_X7_waitingOne :=
  Ok.cons (so_iconst dX7_waitingOne_0 (by decide) rfl) <|
  Ok.cons (so_istore_n dX7_waitingOne_1 rfl (by decide) rfl) <|
  Ok.cons (so_iload_n dX7_waitingOne_2 rfl rfl) <|
  Ok.cons (so_aload_n dX7_waitingOne_3 rfl rfl) <|
  Ok.cons (so_gf (C := RX7) (T := TX7) (N := 42) inGX7 rfl (by decide) wq_1195 rfl dX7_waitingOne_4 rfl) <|
  Ok.cons (so_cge dX7_waitingOne_7 (by decide) rfl) <|
  Ok.cons (so_aload_n dX7_waitingOne_10 rfl rfl) <|
  Ok.cons (so_gf (C := RX7) (T := TX7) (N := 42) inGX7 rfl (by decide) wq_1194 rfl dX7_waitingOne_11 rfl) <|
  Ok.cons (so_iload_n dX7_waitingOne_14 rfl rfl) <|
  Ok.cons (so_ia0 dX7_waitingOne_15 rfl) <|
  Ok.cons (so_istore_n dX7_waitingOne_16 rfl (by decide) rfl) <|
  Ok.cons (so_aload_n dX7_waitingOne_17 rfl rfl) <|
  Ok.cons (so_iload_n dX7_waitingOne_18 rfl rfl) <|
  Ok.cons (so_vi0 (ct_X7_isDone l) wq_1536 wq_1533 wq_1535 wq_67 wq_95 (by decide +kernel) (by decide) rfl rfl dX7_waitingOne_19 rfl) <|
  Ok.cons (so_zne dX7_waitingOne_22 (by decide) rfl) <|
  Ok.cons (so_aload_n dX7_waitingOne_25 rfl rfl) <|
  Ok.cons (so_gf (C := RX7) (T := TX7) (N := 42) inGX7 rfl (by decide) wq_1199 rfl dX7_waitingOne_26 rfl) <|
  Ok.cons (so_iload_n dX7_waitingOne_29 rfl rfl) <|
  Ok.cons (so_ia0 dX7_waitingOne_30 rfl) <|
  Ok.cons (so_zne dX7_waitingOne_31 (by decide) rfl) <|
  Ok.cons (so_aload_n dX7_waitingOne_34 rfl rfl) <|
  Ok.cons (so_iload_n dX7_waitingOne_35 rfl rfl) <|
  Ok.cons (so_vi0 (ct_X7_isReady l) wq_1552 wq_1549 wq_1551 wq_71 wq_95 (by decide +kernel) (by decide) rfl rfl dX7_waitingOne_36 rfl) <|
  Ok.cons (so_zne dX7_waitingOne_39 (by decide) rfl) <|
  Ok.cons (so_iload_n dX7_waitingOne_42 rfl rfl) <|
  Ok.cons (so_ir rfl dX7_waitingOne_43) <|
  Ok.cons (so_iinc dX7_waitingOne_44 (by decide) (by decide) rfl) <|
  Ok.cons (so_goto dX7_waitingOne_47 (by decide)) <|
  Ok.cons (so_iconst dX7_waitingOne_50 (by decide) rfl) <|
  Ok.cons (so_ir rfl dX7_waitingOne_51) <| Ok.nil
theorem ct_X7_waitingOne (l : Launch) : Ct l yX7_waitingOne cX7_waitingOne 3 (some .int) 3 layM f_X7_waitingOne := ofRunL (by decide) rfl (ok_X7_waitingOne l)
noncomputable def t_X7_begins : Tbl := [(0, s_ic 1 0),
  (1, s_is 2 1),
  (2, s_il 3 1),
  (3, s_ic 5 6),
  (5, s_cge 8 79),
  (8, s_al 9 0),
  (9, s_gf 12 layM 7 24),
  (12, s_il 13 1),
  (13, s_ic 15 20),
  (15, s_ix 16 layM 0),
  (16, s_al 17 0),
  (17, s_gf 20 layM 7 25),
  (20, s_il 21 1),
  (21, s_ic 22 0),
  (22, s_ix 23 layM 0),
  (23, s_al 24 0),
  (24, s_gf 27 layM 7 26),
  (27, s_il 28 1),
  (28, s_ic 29 0),
  (29, s_ix 30 layM 0),
  (30, s_al 31 0),
  (31, s_gf 34 layM 7 27),
  (34, s_il 35 1),
  (35, s_ic 36 0),
  (36, s_ix 37 layM 0),
  (37, s_al 38 0),
  (38, s_gf 41 layM 7 28),
  (41, s_il 42 1),
  (42, s_al 43 0),
  (43, s_gf 46 layM 7 5),
  (46, s_ic 47 0),
  (47, s_il 48 1),
  (48, s_b 49 (fun x y => x + y)),
  (49, s_ia 50 layM 0),
  (50, s_zne 53 57),
  (53, s_ic 54 0),
  (54, s_go 58),
  (57, s_ic 58 (-1)),
  (58, s_ix 59 layM 0),
  (59, s_al 60 0),
  (60, s_gf 63 layM 7 29),
  (63, s_il 64 1),
  (64, s_ic 65 0),
  (65, s_ix 66 layM 0),
  (66, s_al 67 0),
  (67, s_gf 70 layM 7 30),
  (70, s_il 71 1),
  (71, s_ic 72 0),
  (72, s_ix 73 layM 0),
  (73, s_in 76 1 1),
  (76, s_go 2),
  (79, s_vr)]
def cs_X7_begins : Cs := [(2, [0, 1]), (58, [0, 1])]
noncomputable def f_X7_begins : List Vv → Mm → Option Ou := lock (sem t_X7_begins cs_X7_begins 2)
set_option maxRecDepth 20000 in
theorem ok_X7_begins (l : Launch) : Ok l RX7 cX7_begins 2 1 none layM t_X7_begins :=
  Ok.cons (so_iconst dX7_begins_0 (by decide) rfl) <|
  Ok.cons (so_istore_n dX7_begins_1 rfl (by decide) rfl) <|
  Ok.cons (so_iload_n dX7_begins_2 rfl rfl) <|
  Ok.cons (so_bipush dX7_begins_3 (by decide) rfl) <|
  Ok.cons (so_cge dX7_begins_5 (by decide) rfl) <|
  Ok.cons (so_aload_n dX7_begins_8 rfl rfl) <|
  Ok.cons (so_gf (C := RX7) (T := TX7) (N := 42) inGX7 rfl (by decide) wq_1198 rfl dX7_begins_9 rfl) <|
  Ok.cons (so_iload_n dX7_begins_12 rfl rfl) <|
  Ok.cons (so_bipush dX7_begins_13 (by decide) rfl) <|
  Ok.cons (so_ix dX7_begins_15 rfl) <|
  Ok.cons (so_aload_n dX7_begins_16 rfl rfl) <|
  Ok.cons (so_gf (C := RX7) (T := TX7) (N := 42) inGX7 rfl (by decide) wq_1199 rfl dX7_begins_17 rfl) <|
  Ok.cons (so_iload_n dX7_begins_20 rfl rfl) <|
  Ok.cons (so_iconst dX7_begins_21 (by decide) rfl) <|
  Ok.cons (so_ix dX7_begins_22 rfl) <|
  Ok.cons (so_aload_n dX7_begins_23 rfl rfl) <|
  Ok.cons (so_gf (C := RX7) (T := TX7) (N := 42) inGX7 rfl (by decide) wq_1200 rfl dX7_begins_24 rfl) <|
  Ok.cons (so_iload_n dX7_begins_27 rfl rfl) <|
  Ok.cons (so_iconst dX7_begins_28 (by decide) rfl) <|
  Ok.cons (so_ix dX7_begins_29 rfl) <|
  Ok.cons (so_aload_n dX7_begins_30 rfl rfl) <|
  Ok.cons (so_gf (C := RX7) (T := TX7) (N := 42) inGX7 rfl (by decide) wq_1201 rfl dX7_begins_31 rfl) <|
  Ok.cons (so_iload_n dX7_begins_34 rfl rfl) <|
  Ok.cons (so_iconst dX7_begins_35 (by decide) rfl) <|
  Ok.cons (so_ix dX7_begins_36 rfl) <|
  Ok.cons (so_aload_n dX7_begins_37 rfl rfl) <|
  Ok.cons (so_gf (C := RX7) (T := TX7) (N := 42) inGX7 rfl (by decide) wq_1202 rfl dX7_begins_38 rfl) <|
  Ok.cons (so_iload_n dX7_begins_41 rfl rfl) <|
  Ok.cons (so_aload_n dX7_begins_42 rfl rfl) <|
  Ok.cons (so_gf (C := RX7) (T := TX7) (N := 42) inGX7 rfl (by decide) wq_1179 rfl dX7_begins_43 rfl) <|
  Ok.cons (so_iconst dX7_begins_46 (by decide) rfl) <|
  Ok.cons (so_iload_n dX7_begins_47 rfl rfl) <|
  Ok.cons (so_iadd dX7_begins_48 rfl) <|
  Ok.cons (so_ia0 dX7_begins_49 rfl) <|
  Ok.cons (so_zne dX7_begins_50 (by decide) rfl) <|
  Ok.cons (so_iconst dX7_begins_53 (by decide) rfl) <|
  Ok.cons (so_goto dX7_begins_54 (by decide)) <|
  Ok.cons (so_iconst dX7_begins_57 (by decide) rfl) <|
  Ok.cons (so_ix dX7_begins_58 rfl) <|
  Ok.cons (so_aload_n dX7_begins_59 rfl rfl) <|
  Ok.cons (so_gf (C := RX7) (T := TX7) (N := 42) inGX7 rfl (by decide) wq_1203 rfl dX7_begins_60 rfl) <|
  Ok.cons (so_iload_n dX7_begins_63 rfl rfl) <|
  Ok.cons (so_iconst dX7_begins_64 (by decide) rfl) <|
  Ok.cons (so_ix dX7_begins_65 rfl) <|
  Ok.cons (so_aload_n dX7_begins_66 rfl rfl) <|
  Ok.cons (so_gf (C := RX7) (T := TX7) (N := 42) inGX7 rfl (by decide) wq_1204 rfl dX7_begins_67 rfl) <|
  Ok.cons (so_iload_n dX7_begins_70 rfl rfl) <|
  Ok.cons (so_iconst dX7_begins_71 (by decide) rfl) <|
  Ok.cons (so_ix dX7_begins_72 rfl) <|
  Ok.cons (so_iinc dX7_begins_73 (by decide) (by decide) rfl) <|
  Ok.cons (so_goto dX7_begins_76 (by decide)) <|
  Ok.cons (so_vr rfl dX7_begins_79) <| Ok.nil
theorem ct_X7_begins (l : Launch) : Ct l yX7_begins cX7_begins 2 none 1 layM f_X7_begins := ofRunL (by decide) rfl (ok_X7_begins l)
noncomputable def t_X7_moves : Tbl := [(0, s_ic 1 0),
  (1, s_is 2 1),
  (2, s_il 3 1),
  (3, s_al 4 0),
  (4, s_gf 7 layM 7 21),
  (7, s_cge 10 91),
  (10, s_al 11 0),
  (11, s_gf 14 layM 7 20),
  (14, s_il 15 1),
  (15, s_ia 16 layM 0),
  (16, s_is 17 2),
  (17, s_al 18 0),
  (18, s_gf 21 layM 7 25),
  (21, s_il 22 2),
  (22, s_ia 23 layM 0),
  (23, s_ic 25 10),
  (25, s_cge 28 31),
  (28, s_go 85),
  (31, s_al 32 0),
  (32, s_il 33 2),
  (33, s_ci0 true 36 2 f_X7_isDone),
  (36, s_zne 39 56),
  (39, s_al 40 0),
  (40, s_gf 43 layM 7 24),
  (43, s_il 44 2),
  (44, s_ia 45 layM 0),
  (45, s_al 46 0),
  (46, s_il 47 2),
  (47, s_ci0 true 50 2 f_X7_needs),
  (50, s_clt 53 56),
  (53, s_go 85),
  (56, s_al 57 0),
  (57, s_gf 60 layM 7 25),
  (60, s_il 61 2),
  (61, s_ic 62 0),
  (62, s_ix 63 layM 0),
  (63, s_al 64 0),
  (64, s_gf 67 layM 7 29),
  (67, s_il 68 2),
  (68, s_dup2 69),
  (69, s_ia 70 layM 0),
  (70, s_al 71 0),
  (71, s_il 72 2),
  (72, s_ci0 true 75 2 f_X7_isDone),
  (75, s_zeq 78 82),
  (78, s_ic 79 0),
  (79, s_go 83),
  (82, s_ic 83 1),
  (83, s_b 84 (fun x y => x + y)),
  (84, s_ix 85 layM 0),
  (85, s_in 88 1 1),
  (88, s_go 2),
  (91, s_ic 92 0),
  (92, s_is 93 1),
  (93, s_il 94 1),
  (94, s_al 95 0),
  (95, s_gf 98 layM 7 5),
  (98, s_ic 100 78),
  (100, s_ia 101 layM 0),
  (101, s_cge 104 145),
  (104, s_al 105 0),
  (105, s_ic 107 10),
  (107, s_il 108 1),
  (108, s_b 109 (fun x y => x + y)),
  (109, s_ci0 true 112 2 f_X7_isTaken),
  (112, s_zeq 115 119),
  (115, s_ic 116 (-1)),
  (116, s_go 123),
  (119, s_al 120 0),
  (120, s_ci0 true 123 1 f_X7_readyOne),
  (123, s_is 124 2),
  (124, s_il 125 2),
  (125, s_ic 126 (-1)),
  (126, s_ceq 129 139),
  (129, s_al 130 0),
  (130, s_gf 133 layM 7 25),
  (133, s_il 134 2),
  (134, s_ic 136 10),
  (136, s_il 137 1),
  (137, s_b 138 (fun x y => x + y)),
  (138, s_ix 139 layM 0),
  (139, s_in 142 1 1),
  (142, s_go 93),
  (145, s_ic 146 0),
  (146, s_is 147 1),
  (147, s_il 148 1),
  (148, s_al 149 0),
  (149, s_gf 152 layM 7 3),
  (152, s_ic 154 19),
  (154, s_ia 155 layM 0),
  (155, s_cge 158 218),
  (158, s_il 159 1),
  (159, s_al 160 0),
  (160, s_gf 163 layM 7 23),
  (163, s_ceq 166 176),
  (166, s_al 167 0),
  (167, s_ic 168 1),
  (168, s_il 169 1),
  (169, s_b 170 (fun x y => x + y)),
  (170, s_ci0 true 173 2 f_X7_isTaken),
  (173, s_zeq 176 180),
  (176, s_ic 177 (-1)),
  (177, s_go 184),
  (180, s_al 181 0),
  (181, s_ci0 true 184 1 f_X7_waitingOne),
  (184, s_is 185 2),
  (185, s_il 186 2),
  (186, s_ic 187 (-1)),
  (187, s_cne 190 193),
  (190, s_go 212),
  (193, s_al 194 0),
  (194, s_gf 197 layM 7 25),
  (197, s_il 198 2),
  (198, s_ic 199 1),
  (199, s_il 200 1),
  (200, s_b 201 (fun x y => x + y)),
  (201, s_ix 202 layM 0),
  (202, s_al 203 0),
  (203, s_gf 206 layM 7 30),
  (206, s_il 207 2),
  (207, s_dup2 208),
  (208, s_ia 209 layM 0),
  (209, s_ic 210 1),
  (210, s_b 211 (fun x y => x + y)),
  (211, s_ix 212 layM 0),
  (212, s_in 215 1 1),
  (215, s_go 147),
  (218, s_vr)]
def cs_X7_moves : Cs := [(2, [0, 1]), (56, [0, 1, 2]), (93, [0, 1]), (123, [0, 1]), (147, [0, 1]), (184, [0, 1])]
noncomputable def f_X7_moves : List Vv → Mm → Option Ou := lock (sem t_X7_moves cs_X7_moves 3)
set_option maxRecDepth 20000 in
theorem ok_X7_moves (l : Launch) : Ok l RX7 cX7_moves 3 4 none layM t_X7_moves :=
  Ok.cons (so_iconst dX7_moves_0 (by decide) rfl) <|
  Ok.cons (so_istore_n dX7_moves_1 rfl (by decide) rfl) <|
  Ok.cons (so_iload_n dX7_moves_2 rfl rfl) <|
  Ok.cons (so_aload_n dX7_moves_3 rfl rfl) <|
  Ok.cons (so_gf (C := RX7) (T := TX7) (N := 42) inGX7 rfl (by decide) wq_1195 rfl dX7_moves_4 rfl) <|
  Ok.cons (so_cge dX7_moves_7 (by decide) rfl) <|
  Ok.cons (so_aload_n dX7_moves_10 rfl rfl) <|
  Ok.cons (so_gf (C := RX7) (T := TX7) (N := 42) inGX7 rfl (by decide) wq_1194 rfl dX7_moves_11 rfl) <|
  Ok.cons (so_iload_n dX7_moves_14 rfl rfl) <|
  Ok.cons (so_ia0 dX7_moves_15 rfl) <|
  Ok.cons (so_istore_n dX7_moves_16 rfl (by decide) rfl) <|
  Ok.cons (so_aload_n dX7_moves_17 rfl rfl) <|
  Ok.cons (so_gf (C := RX7) (T := TX7) (N := 42) inGX7 rfl (by decide) wq_1199 rfl dX7_moves_18 rfl) <|
  Ok.cons (so_iload_n dX7_moves_21 rfl rfl) <|
  Ok.cons (so_ia0 dX7_moves_22 rfl) <|
  Ok.cons (so_bipush dX7_moves_23 (by decide) rfl) <|
  Ok.cons (so_cge dX7_moves_25 (by decide) rfl) <|
  Ok.cons (so_goto dX7_moves_28 (by decide)) <|
  Ok.cons (so_aload_n dX7_moves_31 rfl rfl) <|
  Ok.cons (so_iload_n dX7_moves_32 rfl rfl) <|
  Ok.cons (so_vi0 (ct_X7_isDone l) wq_1536 wq_1533 wq_1535 wq_67 wq_95 (by decide +kernel) (by decide) rfl rfl dX7_moves_33 rfl) <|
  Ok.cons (so_zne dX7_moves_36 (by decide) rfl) <|
  Ok.cons (so_aload_n dX7_moves_39 rfl rfl) <|
  Ok.cons (so_gf (C := RX7) (T := TX7) (N := 42) inGX7 rfl (by decide) wq_1198 rfl dX7_moves_40 rfl) <|
  Ok.cons (so_iload_n dX7_moves_43 rfl rfl) <|
  Ok.cons (so_ia0 dX7_moves_44 rfl) <|
  Ok.cons (so_aload_n dX7_moves_45 rfl rfl) <|
  Ok.cons (so_iload_n dX7_moves_46 rfl rfl) <|
  Ok.cons (so_vi0 (ct_X7_needs l) wq_1540 wq_1537 wq_1539 wq_68 wq_95 (by decide +kernel) (by decide) rfl rfl dX7_moves_47 rfl) <|
  Ok.cons (so_clt dX7_moves_50 (by decide) rfl) <|
  Ok.cons (so_goto dX7_moves_53 (by decide)) <|
  Ok.cons (so_aload_n dX7_moves_56 rfl rfl) <|
  Ok.cons (so_gf (C := RX7) (T := TX7) (N := 42) inGX7 rfl (by decide) wq_1199 rfl dX7_moves_57 rfl) <|
  Ok.cons (so_iload_n dX7_moves_60 rfl rfl) <|
  Ok.cons (so_iconst dX7_moves_61 (by decide) rfl) <|
  Ok.cons (so_ix dX7_moves_62 rfl) <|
  Ok.cons (so_aload_n dX7_moves_63 rfl rfl) <|
  Ok.cons (so_gf (C := RX7) (T := TX7) (N := 42) inGX7 rfl (by decide) wq_1203 rfl dX7_moves_64 rfl) <|
  Ok.cons (so_iload_n dX7_moves_67 rfl rfl) <|
  Ok.cons (so_dup2 dX7_moves_68 rfl) <|
  Ok.cons (so_ia0 dX7_moves_69 rfl) <|
  Ok.cons (so_aload_n dX7_moves_70 rfl rfl) <|
  Ok.cons (so_iload_n dX7_moves_71 rfl rfl) <|
  Ok.cons (so_vi0 (ct_X7_isDone l) wq_1536 wq_1533 wq_1535 wq_67 wq_95 (by decide +kernel) (by decide) rfl rfl dX7_moves_72 rfl) <|
  Ok.cons (so_zeq dX7_moves_75 (by decide) rfl) <|
  Ok.cons (so_iconst dX7_moves_78 (by decide) rfl) <|
  Ok.cons (so_goto dX7_moves_79 (by decide)) <|
  Ok.cons (so_iconst dX7_moves_82 (by decide) rfl) <|
  Ok.cons (so_iadd dX7_moves_83 rfl) <|
  Ok.cons (so_ix dX7_moves_84 rfl) <|
  Ok.cons (so_iinc dX7_moves_85 (by decide) (by decide) rfl) <|
  Ok.cons (so_goto dX7_moves_88 (by decide)) <|
  Ok.cons (so_iconst dX7_moves_91 (by decide) rfl) <|
  Ok.cons (so_istore_n dX7_moves_92 rfl (by decide) rfl) <|
  Ok.cons (so_iload_n dX7_moves_93 rfl rfl) <|
  Ok.cons (so_aload_n dX7_moves_94 rfl rfl) <|
  Ok.cons (so_gf (C := RX7) (T := TX7) (N := 42) inGX7 rfl (by decide) wq_1179 rfl dX7_moves_95 rfl) <|
  Ok.cons (so_bipush dX7_moves_98 (by decide) rfl) <|
  Ok.cons (so_ia0 dX7_moves_100 rfl) <|
  Ok.cons (so_cge dX7_moves_101 (by decide) rfl) <|
  Ok.cons (so_aload_n dX7_moves_104 rfl rfl) <|
  Ok.cons (so_bipush dX7_moves_105 (by decide) rfl) <|
  Ok.cons (so_iload_n dX7_moves_107 rfl rfl) <|
  Ok.cons (so_iadd dX7_moves_108 rfl) <|
  Ok.cons (so_vi0 (ct_X7_isTaken l) wq_1544 wq_1541 wq_1543 wq_69 wq_95 (by decide +kernel) (by decide) rfl rfl dX7_moves_109 rfl) <|
  Ok.cons (so_zeq dX7_moves_112 (by decide) rfl) <|
  Ok.cons (so_iconst dX7_moves_115 (by decide) rfl) <|
  Ok.cons (so_goto dX7_moves_116 (by decide)) <|
  Ok.cons (so_aload_n dX7_moves_119 rfl rfl) <|
  Ok.cons (so_vi0 (ct_X7_readyOne l) wq_1548 wq_1545 wq_1547 wq_70 wq_95 (by decide +kernel) (by decide) rfl rfl dX7_moves_120 rfl) <|
  Ok.cons (so_istore_n dX7_moves_123 rfl (by decide) rfl) <|
  Ok.cons (so_iload_n dX7_moves_124 rfl rfl) <|
  Ok.cons (so_iconst dX7_moves_125 (by decide) rfl) <|
  Ok.cons (so_ceq dX7_moves_126 (by decide) rfl) <|
  Ok.cons (so_aload_n dX7_moves_129 rfl rfl) <|
  Ok.cons (so_gf (C := RX7) (T := TX7) (N := 42) inGX7 rfl (by decide) wq_1199 rfl dX7_moves_130 rfl) <|
  Ok.cons (so_iload_n dX7_moves_133 rfl rfl) <|
  Ok.cons (so_bipush dX7_moves_134 (by decide) rfl) <|
  Ok.cons (so_iload_n dX7_moves_136 rfl rfl) <|
  Ok.cons (so_iadd dX7_moves_137 rfl) <|
  Ok.cons (so_ix dX7_moves_138 rfl) <|
  Ok.cons (so_iinc dX7_moves_139 (by decide) (by decide) rfl) <|
  Ok.cons (so_goto dX7_moves_142 (by decide)) <|
  Ok.cons (so_iconst dX7_moves_145 (by decide) rfl) <|
  Ok.cons (so_istore_n dX7_moves_146 rfl (by decide) rfl) <|
  Ok.cons (so_iload_n dX7_moves_147 rfl rfl) <|
  Ok.cons (so_aload_n dX7_moves_148 rfl rfl) <|
  Ok.cons (so_gf (C := RX7) (T := TX7) (N := 42) inGX7 rfl (by decide) wq_1177 rfl dX7_moves_149 rfl) <|
  Ok.cons (so_bipush dX7_moves_152 (by decide) rfl) <|
  Ok.cons (so_ia0 dX7_moves_154 rfl) <|
  Ok.cons (so_cge dX7_moves_155 (by decide) rfl) <|
  Ok.cons (so_iload_n dX7_moves_158 rfl rfl) <|
  Ok.cons (so_aload_n dX7_moves_159 rfl rfl) <|
  Ok.cons (so_gf (C := RX7) (T := TX7) (N := 42) inGX7 rfl (by decide) wq_1197 rfl dX7_moves_160 rfl) <|
  Ok.cons (so_ceq dX7_moves_163 (by decide) rfl) <|
  Ok.cons (so_aload_n dX7_moves_166 rfl rfl) <|
  Ok.cons (so_iconst dX7_moves_167 (by decide) rfl) <|
  Ok.cons (so_iload_n dX7_moves_168 rfl rfl) <|
  Ok.cons (so_iadd dX7_moves_169 rfl) <|
  Ok.cons (so_vi0 (ct_X7_isTaken l) wq_1544 wq_1541 wq_1543 wq_69 wq_95 (by decide +kernel) (by decide) rfl rfl dX7_moves_170 rfl) <|
  Ok.cons (so_zeq dX7_moves_173 (by decide) rfl) <|
  Ok.cons (so_iconst dX7_moves_176 (by decide) rfl) <|
  Ok.cons (so_goto dX7_moves_177 (by decide)) <|
  Ok.cons (so_aload_n dX7_moves_180 rfl rfl) <|
  Ok.cons (so_vi0 (ct_X7_waitingOne l) wq_1564 wq_1561 wq_1563 wq_74 wq_95 (by decide +kernel) (by decide) rfl rfl dX7_moves_181 rfl) <|
  Ok.cons (so_istore_n dX7_moves_184 rfl (by decide) rfl) <|
  Ok.cons (so_iload_n dX7_moves_185 rfl rfl) <|
  Ok.cons (so_iconst dX7_moves_186 (by decide) rfl) <|
  Ok.cons (so_cne dX7_moves_187 (by decide) rfl) <|
  Ok.cons (so_goto dX7_moves_190 (by decide)) <|
  Ok.cons (so_aload_n dX7_moves_193 rfl rfl) <|
  Ok.cons (so_gf (C := RX7) (T := TX7) (N := 42) inGX7 rfl (by decide) wq_1199 rfl dX7_moves_194 rfl) <|
  Ok.cons (so_iload_n dX7_moves_197 rfl rfl) <|
  Ok.cons (so_iconst dX7_moves_198 (by decide) rfl) <|
  Ok.cons (so_iload_n dX7_moves_199 rfl rfl) <|
  Ok.cons (so_iadd dX7_moves_200 rfl) <|
  Ok.cons (so_ix dX7_moves_201 rfl) <|
  Ok.cons (so_aload_n dX7_moves_202 rfl rfl) <|
  Ok.cons (so_gf (C := RX7) (T := TX7) (N := 42) inGX7 rfl (by decide) wq_1204 rfl dX7_moves_203 rfl) <|
  Ok.cons (so_iload_n dX7_moves_206 rfl rfl) <|
  Ok.cons (so_dup2 dX7_moves_207 rfl) <|
  Ok.cons (so_ia0 dX7_moves_208 rfl) <|
  Ok.cons (so_iconst dX7_moves_209 (by decide) rfl) <|
  Ok.cons (so_iadd dX7_moves_210 rfl) <|
  Ok.cons (so_ix dX7_moves_211 rfl) <|
  Ok.cons (so_iinc dX7_moves_212 (by decide) (by decide) rfl) <|
  Ok.cons (so_goto dX7_moves_215 (by decide)) <|
  Ok.cons (so_vr rfl dX7_moves_218) <| Ok.nil
theorem ct_X7_moves (l : Launch) : Ct l yX7_moves cX7_moves 3 none 4 layM f_X7_moves := ofRunL (by decide) rfl (ok_X7_moves l)
noncomputable def t_X7_works : Tbl := [(0, s_al 1 0),
  (1, s_gf 4 layM 7 25),
  (4, s_il 5 1),
  (5, s_ia 6 layM 0),
  (6, s_ic 8 10),
  (8, s_clt 11 82),
  (11, s_al 12 0),
  (12, s_gf 15 layM 7 27),
  (15, s_il 16 1),
  (16, s_dup2 17),
  (17, s_ia 18 layM 0),
  (18, s_ic 19 1),
  (19, s_b 20 (fun x y => x + y)),
  (20, s_ix 21 layM 0),
  (21, s_al 22 0),
  (22, s_gf 25 layM 7 27),
  (25, s_il 26 1),
  (26, s_ia 27 layM 0),
  (27, s_al 28 0),
  (28, s_gf 31 layM 7 5),
  (31, s_ic 33 36),
  (33, s_ic 34 5),
  (34, s_il 35 1),
  (35, s_b 36 (fun x y => x * y)),
  (36, s_b 37 (fun x y => x + y)),
  (37, s_al 38 0),
  (38, s_gf 41 layM 7 26),
  (41, s_il 42 1),
  (42, s_ia 43 layM 0),
  (43, s_b 44 (fun x y => x + y)),
  (44, s_ia 45 layM 0),
  (45, s_cne 48 82),
  (48, s_al 49 0),
  (49, s_gf 52 layM 7 26),
  (52, s_il 53 1),
  (53, s_dup2 54),
  (54, s_ia 55 layM 0),
  (55, s_ic 56 1),
  (56, s_b 57 (fun x y => x + y)),
  (57, s_ix 58 layM 0),
  (58, s_al 59 0),
  (59, s_gf 62 layM 7 27),
  (62, s_il 63 1),
  (63, s_ic 64 0),
  (64, s_ix 65 layM 0),
  (65, s_al 66 0),
  (66, s_il 67 1),
  (67, s_ci0 true 70 2 f_X7_isDone),
  (70, s_zeq 73 82),
  (73, s_al 74 0),
  (74, s_gf 77 layM 7 28),
  (77, s_il 78 1),
  (78, s_il 79 2),
  (79, s_ic 80 1),
  (80, s_b 81 (fun x y => x + y)),
  (81, s_ix 82 layM 0),
  (82, s_al 83 0),
  (83, s_gf 86 layM 7 25),
  (86, s_il 87 1),
  (87, s_ia 88 layM 0),
  (88, s_zle 91 175),
  (91, s_al 92 0),
  (92, s_gf 95 layM 7 25),
  (95, s_il 96 1),
  (96, s_ia 97 layM 0),
  (97, s_ic 99 10),
  (99, s_cge 102 175),
  (102, s_al 103 0),
  (103, s_gf 106 layM 7 5),
  (106, s_ic 108 69),
  (108, s_al 109 0),
  (109, s_gf 112 layM 7 25),
  (112, s_il 113 1),
  (113, s_ia 114 layM 0),
  (114, s_b 115 (fun x y => x + y)),
  (115, s_ic 116 1),
  (116, s_b 117 (fun x y => x - y)),
  (117, s_ia 118 layM 0),
  (118, s_is 119 3),
  (119, s_al 120 0),
  (120, s_gf 123 layM 7 24),
  (123, s_il 124 1),
  (124, s_ia 125 layM 0),
  (125, s_il 126 3),
  (126, s_cge 129 172),
  (129, s_al 130 0),
  (130, s_gf 133 layM 7 24),
  (133, s_il 134 1),
  (134, s_il 135 3),
  (135, s_al 136 0),
  (136, s_gf 139 layM 7 24),
  (139, s_il 140 1),
  (140, s_ia 141 layM 0),
  (141, s_al 142 0),
  (142, s_gf 145 layM 7 5),
  (145, s_ic 147 66),
  (147, s_al 148 0),
  (148, s_gf 151 layM 7 25),
  (151, s_il 152 1),
  (152, s_ia 153 layM 0),
  (153, s_b 154 (fun x y => x + y)),
  (154, s_ic 155 1),
  (155, s_b 156 (fun x y => x - y)),
  (156, s_ia 157 layM 0),
  (157, s_al 158 0),
  (158, s_gf 161 layM 7 3),
  (161, s_ic 163 6),
  (163, s_il 164 1),
  (164, s_b 165 (fun x y => x + y)),
  (165, s_ia 166 layM 0),
  (166, s_bd 167 (fun x y => x / y)),
  (167, s_b 168 (fun x y => x + y)),
  (168, s_m 171 (fun x y => if y < x then y else x)),
  (171, s_ix 172 layM 0),
  (172, s_go 202),
  (175, s_al 176 0),
  (176, s_gf 179 layM 7 24),
  (179, s_il 180 1),
  (180, s_ic 182 20),
  (182, s_al 183 0),
  (183, s_gf 186 layM 7 24),
  (186, s_il 187 1),
  (187, s_ia 188 layM 0),
  (188, s_al 189 0),
  (189, s_gf 192 layM 7 3),
  (192, s_ic 194 12),
  (194, s_il 195 1),
  (195, s_b 196 (fun x y => x + y)),
  (196, s_ia 197 layM 0),
  (197, s_b 198 (fun x y => x - y)),
  (198, s_m 201 (fun x y => if x < y then y else x)),
  (201, s_ix 202 layM 0),
  (202, s_vr)]
def cs_X7_works : Cs := [(82, [0, 1]), (175, [0, 1])]
noncomputable def f_X7_works : List Vv → Mm → Option Ou := lock (sem t_X7_works cs_X7_works 4)
set_option maxRecDepth 20000 in
theorem ok_X7_works (l : Launch) : Ok l RX7 cX7_works 4 2 none layM t_X7_works :=
  Ok.cons (so_aload_n dX7_works_0 rfl rfl) <|
  Ok.cons (so_gf (C := RX7) (T := TX7) (N := 42) inGX7 rfl (by decide) wq_1199 rfl dX7_works_1 rfl) <|
  Ok.cons (so_iload_n dX7_works_4 rfl rfl) <|
  Ok.cons (so_ia0 dX7_works_5 rfl) <|
  Ok.cons (so_bipush dX7_works_6 (by decide) rfl) <|
  Ok.cons (so_clt dX7_works_8 (by decide) rfl) <|
  Ok.cons (so_aload_n dX7_works_11 rfl rfl) <|
  Ok.cons (so_gf (C := RX7) (T := TX7) (N := 42) inGX7 rfl (by decide) wq_1201 rfl dX7_works_12 rfl) <|
  Ok.cons (so_iload_n dX7_works_15 rfl rfl) <|
  Ok.cons (so_dup2 dX7_works_16 rfl) <|
  Ok.cons (so_ia0 dX7_works_17 rfl) <|
  Ok.cons (so_iconst dX7_works_18 (by decide) rfl) <|
  Ok.cons (so_iadd dX7_works_19 rfl) <|
  Ok.cons (so_ix dX7_works_20 rfl) <|
  Ok.cons (so_aload_n dX7_works_21 rfl rfl) <|
  Ok.cons (so_gf (C := RX7) (T := TX7) (N := 42) inGX7 rfl (by decide) wq_1201 rfl dX7_works_22 rfl) <|
  Ok.cons (so_iload_n dX7_works_25 rfl rfl) <|
  Ok.cons (so_ia0 dX7_works_26 rfl) <|
  Ok.cons (so_aload_n dX7_works_27 rfl rfl) <|
  Ok.cons (so_gf (C := RX7) (T := TX7) (N := 42) inGX7 rfl (by decide) wq_1179 rfl dX7_works_28 rfl) <|
  Ok.cons (so_bipush dX7_works_31 (by decide) rfl) <|
  Ok.cons (so_iconst dX7_works_33 (by decide) rfl) <|
  Ok.cons (so_iload_n dX7_works_34 rfl rfl) <|
  Ok.cons (so_imul dX7_works_35 rfl) <|
  Ok.cons (so_iadd dX7_works_36 rfl) <|
  Ok.cons (so_aload_n dX7_works_37 rfl rfl) <|
  Ok.cons (so_gf (C := RX7) (T := TX7) (N := 42) inGX7 rfl (by decide) wq_1200 rfl dX7_works_38 rfl) <|
  Ok.cons (so_iload_n dX7_works_41 rfl rfl) <|
  Ok.cons (so_ia0 dX7_works_42 rfl) <|
  Ok.cons (so_iadd dX7_works_43 rfl) <|
  Ok.cons (so_ia0 dX7_works_44 rfl) <|
  Ok.cons (so_cne dX7_works_45 (by decide) rfl) <|
  Ok.cons (so_aload_n dX7_works_48 rfl rfl) <|
  Ok.cons (so_gf (C := RX7) (T := TX7) (N := 42) inGX7 rfl (by decide) wq_1200 rfl dX7_works_49 rfl) <|
  Ok.cons (so_iload_n dX7_works_52 rfl rfl) <|
  Ok.cons (so_dup2 dX7_works_53 rfl) <|
  Ok.cons (so_ia0 dX7_works_54 rfl) <|
  Ok.cons (so_iconst dX7_works_55 (by decide) rfl) <|
  Ok.cons (so_iadd dX7_works_56 rfl) <|
  Ok.cons (so_ix dX7_works_57 rfl) <|
  Ok.cons (so_aload_n dX7_works_58 rfl rfl) <|
  Ok.cons (so_gf (C := RX7) (T := TX7) (N := 42) inGX7 rfl (by decide) wq_1201 rfl dX7_works_59 rfl) <|
  Ok.cons (so_iload_n dX7_works_62 rfl rfl) <|
  Ok.cons (so_iconst dX7_works_63 (by decide) rfl) <|
  Ok.cons (so_ix dX7_works_64 rfl) <|
  Ok.cons (so_aload_n dX7_works_65 rfl rfl) <|
  Ok.cons (so_iload_n dX7_works_66 rfl rfl) <|
  Ok.cons (so_vi0 (ct_X7_isDone l) wq_1536 wq_1533 wq_1535 wq_67 wq_95 (by decide +kernel) (by decide) rfl rfl dX7_works_67 rfl) <|
  Ok.cons (so_zeq dX7_works_70 (by decide) rfl) <|
  Ok.cons (so_aload_n dX7_works_73 rfl rfl) <|
  Ok.cons (so_gf (C := RX7) (T := TX7) (N := 42) inGX7 rfl (by decide) wq_1202 rfl dX7_works_74 rfl) <|
  Ok.cons (so_iload_n dX7_works_77 rfl rfl) <|
  Ok.cons (so_iload_n dX7_works_78 rfl rfl) <|
  Ok.cons (so_iconst dX7_works_79 (by decide) rfl) <|
  Ok.cons (so_iadd dX7_works_80 rfl) <|
  Ok.cons (so_ix dX7_works_81 rfl) <|
  Ok.cons (so_aload_n dX7_works_82 rfl rfl) <|
  Ok.cons (so_gf (C := RX7) (T := TX7) (N := 42) inGX7 rfl (by decide) wq_1199 rfl dX7_works_83 rfl) <|
  Ok.cons (so_iload_n dX7_works_86 rfl rfl) <|
  Ok.cons (so_ia0 dX7_works_87 rfl) <|
  Ok.cons (so_zle dX7_works_88 (by decide) rfl) <|
  Ok.cons (so_aload_n dX7_works_91 rfl rfl) <|
  Ok.cons (so_gf (C := RX7) (T := TX7) (N := 42) inGX7 rfl (by decide) wq_1199 rfl dX7_works_92 rfl) <|
  Ok.cons (so_iload_n dX7_works_95 rfl rfl) <|
  Ok.cons (so_ia0 dX7_works_96 rfl) <|
  Ok.cons (so_bipush dX7_works_97 (by decide) rfl) <|
  Ok.cons (so_cge dX7_works_99 (by decide) rfl) <|
  Ok.cons (so_aload_n dX7_works_102 rfl rfl) <|
  Ok.cons (so_gf (C := RX7) (T := TX7) (N := 42) inGX7 rfl (by decide) wq_1179 rfl dX7_works_103 rfl) <|
  Ok.cons (so_bipush dX7_works_106 (by decide) rfl) <|
  Ok.cons (so_aload_n dX7_works_108 rfl rfl) <|
  Ok.cons (so_gf (C := RX7) (T := TX7) (N := 42) inGX7 rfl (by decide) wq_1199 rfl dX7_works_109 rfl) <|
  Ok.cons (so_iload_n dX7_works_112 rfl rfl) <|
  Ok.cons (so_ia0 dX7_works_113 rfl) <|
  Ok.cons (so_iadd dX7_works_114 rfl) <|
  Ok.cons (so_iconst dX7_works_115 (by decide) rfl) <|
  Ok.cons (so_isub dX7_works_116 rfl) <|
  Ok.cons (so_ia0 dX7_works_117 rfl) <|
  Ok.cons (so_istore_n dX7_works_118 rfl (by decide) rfl) <|
  Ok.cons (so_aload_n dX7_works_119 rfl rfl) <|
  Ok.cons (so_gf (C := RX7) (T := TX7) (N := 42) inGX7 rfl (by decide) wq_1198 rfl dX7_works_120 rfl) <|
  Ok.cons (so_iload_n dX7_works_123 rfl rfl) <|
  Ok.cons (so_ia0 dX7_works_124 rfl) <|
  Ok.cons (so_iload_n dX7_works_125 rfl rfl) <|
  Ok.cons (so_cge dX7_works_126 (by decide) rfl) <|
  Ok.cons (so_aload_n dX7_works_129 rfl rfl) <|
  Ok.cons (so_gf (C := RX7) (T := TX7) (N := 42) inGX7 rfl (by decide) wq_1198 rfl dX7_works_130 rfl) <|
  Ok.cons (so_iload_n dX7_works_133 rfl rfl) <|
  Ok.cons (so_iload_n dX7_works_134 rfl rfl) <|
  Ok.cons (so_aload_n dX7_works_135 rfl rfl) <|
  Ok.cons (so_gf (C := RX7) (T := TX7) (N := 42) inGX7 rfl (by decide) wq_1198 rfl dX7_works_136 rfl) <|
  Ok.cons (so_iload_n dX7_works_139 rfl rfl) <|
  Ok.cons (so_ia0 dX7_works_140 rfl) <|
  Ok.cons (so_aload_n dX7_works_141 rfl rfl) <|
  Ok.cons (so_gf (C := RX7) (T := TX7) (N := 42) inGX7 rfl (by decide) wq_1179 rfl dX7_works_142 rfl) <|
  Ok.cons (so_bipush dX7_works_145 (by decide) rfl) <|
  Ok.cons (so_aload_n dX7_works_147 rfl rfl) <|
  Ok.cons (so_gf (C := RX7) (T := TX7) (N := 42) inGX7 rfl (by decide) wq_1199 rfl dX7_works_148 rfl) <|
  Ok.cons (so_iload_n dX7_works_151 rfl rfl) <|
  Ok.cons (so_ia0 dX7_works_152 rfl) <|
  Ok.cons (so_iadd dX7_works_153 rfl) <|
  Ok.cons (so_iconst dX7_works_154 (by decide) rfl) <|
  Ok.cons (so_isub dX7_works_155 rfl) <|
  Ok.cons (so_ia0 dX7_works_156 rfl) <|
  Ok.cons (so_aload_n dX7_works_157 rfl rfl) <|
  Ok.cons (so_gf (C := RX7) (T := TX7) (N := 42) inGX7 rfl (by decide) wq_1177 rfl dX7_works_158 rfl) <|
  Ok.cons (so_bipush dX7_works_161 (by decide) rfl) <|
  Ok.cons (so_iload_n dX7_works_163 rfl rfl) <|
  Ok.cons (so_iadd dX7_works_164 rfl) <|
  Ok.cons (so_ia0 dX7_works_165 rfl) <|
  Ok.cons (so_idiv dX7_works_166 rfl) <|
  Ok.cons (so_iadd dX7_works_167 rfl) <|
  Ok.cons (so_min (by decide) wq_1569 wq_408 wq_96 wc_min dX7_works_168 rfl) <|
  Ok.cons (so_ix dX7_works_171 rfl) <|
  Ok.cons (so_goto dX7_works_172 (by decide)) <|
  Ok.cons (so_aload_n dX7_works_175 rfl rfl) <|
  Ok.cons (so_gf (C := RX7) (T := TX7) (N := 42) inGX7 rfl (by decide) wq_1198 rfl dX7_works_176 rfl) <|
  Ok.cons (so_iload_n dX7_works_179 rfl rfl) <|
  Ok.cons (so_bipush dX7_works_180 (by decide) rfl) <|
  Ok.cons (so_aload_n dX7_works_182 rfl rfl) <|
  Ok.cons (so_gf (C := RX7) (T := TX7) (N := 42) inGX7 rfl (by decide) wq_1198 rfl dX7_works_183 rfl) <|
  Ok.cons (so_iload_n dX7_works_186 rfl rfl) <|
  Ok.cons (so_ia0 dX7_works_187 rfl) <|
  Ok.cons (so_aload_n dX7_works_188 rfl rfl) <|
  Ok.cons (so_gf (C := RX7) (T := TX7) (N := 42) inGX7 rfl (by decide) wq_1177 rfl dX7_works_189 rfl) <|
  Ok.cons (so_bipush dX7_works_192 (by decide) rfl) <|
  Ok.cons (so_iload_n dX7_works_194 rfl rfl) <|
  Ok.cons (so_iadd dX7_works_195 rfl) <|
  Ok.cons (so_ia0 dX7_works_196 rfl) <|
  Ok.cons (so_isub dX7_works_197 rfl) <|
  Ok.cons (so_max (by decide) wq_1528 wq_624 wq_96 wc_max dX7_works_198 rfl) <|
  Ok.cons (so_ix dX7_works_201 rfl) <|
  Ok.cons (so_vr rfl dX7_works_202) <| Ok.nil
theorem ct_X7_works (l : Launch) : Ct l yX7_works cX7_works 4 none 2 layM f_X7_works := ofRunL (by decide) rfl (ok_X7_works l)
noncomputable def t_X7_lastOf : Tbl := [(0, s_ic 1 0),
  (1, s_is 2 1),
  (2, s_ic 3 0),
  (3, s_is 4 2),
  (4, s_il 5 2),
  (5, s_al 6 0),
  (6, s_gf 9 layM 7 21),
  (9, s_cge 12 51),
  (12, s_al 13 0),
  (13, s_gf 16 layM 7 28),
  (16, s_al 17 0),
  (17, s_gf 20 layM 7 20),
  (20, s_il 21 2),
  (21, s_ia 22 layM 0),
  (22, s_ia 23 layM 0),
  (23, s_ic 24 (-1)),
  (24, s_cne 27 29),
  (27, s_ic 28 (-1)),
  (28, s_ir),
  (29, s_il 30 1),
  (30, s_al 31 0),
  (31, s_gf 34 layM 7 28),
  (34, s_al 35 0),
  (35, s_gf 38 layM 7 20),
  (38, s_il 39 2),
  (39, s_ia 40 layM 0),
  (40, s_ia 41 layM 0),
  (41, s_m 44 (fun x y => if x < y then y else x)),
  (44, s_is 45 1),
  (45, s_in 48 2 1),
  (48, s_go 4),
  (51, s_il 52 1),
  (52, s_ir)]
def cs_X7_lastOf : Cs := [(4, [0, 1, 2])]
noncomputable def f_X7_lastOf : List Vv → Mm → Option Ou := lock (sem t_X7_lastOf cs_X7_lastOf 3)
set_option maxRecDepth 20000 in
theorem ok_X7_lastOf (l : Launch) : Ok l RX7 cX7_lastOf 3 1 (some .int) layM t_X7_lastOf :=
  Ok.cons (so_iconst dX7_lastOf_0 (by decide) rfl) <|
  Ok.cons (so_istore_n dX7_lastOf_1 rfl (by decide) rfl) <|
  Ok.cons (so_iconst dX7_lastOf_2 (by decide) rfl) <|
  Ok.cons (so_istore_n dX7_lastOf_3 rfl (by decide) rfl) <|
  Ok.cons (so_iload_n dX7_lastOf_4 rfl rfl) <|
  Ok.cons (so_aload_n dX7_lastOf_5 rfl rfl) <|
  Ok.cons (so_gf (C := RX7) (T := TX7) (N := 42) inGX7 rfl (by decide) wq_1195 rfl dX7_lastOf_6 rfl) <|
  Ok.cons (so_cge dX7_lastOf_9 (by decide) rfl) <|
  Ok.cons (so_aload_n dX7_lastOf_12 rfl rfl) <|
  Ok.cons (so_gf (C := RX7) (T := TX7) (N := 42) inGX7 rfl (by decide) wq_1202 rfl dX7_lastOf_13 rfl) <|
  Ok.cons (so_aload_n dX7_lastOf_16 rfl rfl) <|
  Ok.cons (so_gf (C := RX7) (T := TX7) (N := 42) inGX7 rfl (by decide) wq_1194 rfl dX7_lastOf_17 rfl) <|
  Ok.cons (so_iload_n dX7_lastOf_20 rfl rfl) <|
  Ok.cons (so_ia0 dX7_lastOf_21 rfl) <|
  Ok.cons (so_ia0 dX7_lastOf_22 rfl) <|
  Ok.cons (so_iconst dX7_lastOf_23 (by decide) rfl) <|
  Ok.cons (so_cne dX7_lastOf_24 (by decide) rfl) <|
  Ok.cons (so_iconst dX7_lastOf_27 (by decide) rfl) <|
  Ok.cons (so_ir rfl dX7_lastOf_28) <|
  Ok.cons (so_iload_n dX7_lastOf_29 rfl rfl) <|
  Ok.cons (so_aload_n dX7_lastOf_30 rfl rfl) <|
  Ok.cons (so_gf (C := RX7) (T := TX7) (N := 42) inGX7 rfl (by decide) wq_1202 rfl dX7_lastOf_31 rfl) <|
  Ok.cons (so_aload_n dX7_lastOf_34 rfl rfl) <|
  Ok.cons (so_gf (C := RX7) (T := TX7) (N := 42) inGX7 rfl (by decide) wq_1194 rfl dX7_lastOf_35 rfl) <|
  Ok.cons (so_iload_n dX7_lastOf_38 rfl rfl) <|
  Ok.cons (so_ia0 dX7_lastOf_39 rfl) <|
  Ok.cons (so_ia0 dX7_lastOf_40 rfl) <|
  Ok.cons (so_max (by decide) wq_1528 wq_624 wq_96 wc_max dX7_lastOf_41 rfl) <|
  Ok.cons (so_istore_n dX7_lastOf_44 rfl (by decide) rfl) <|
  Ok.cons (so_iinc dX7_lastOf_45 (by decide) (by decide) rfl) <|
  Ok.cons (so_goto dX7_lastOf_48 (by decide)) <|
  Ok.cons (so_iload_n dX7_lastOf_51 rfl rfl) <|
  Ok.cons (so_ir rfl dX7_lastOf_52) <| Ok.nil
theorem ct_X7_lastOf (l : Launch) : Ct l yX7_lastOf cX7_lastOf 3 (some .int) 1 layM f_X7_lastOf := ofRunL (by decide) rfl (ok_X7_lastOf l)
noncomputable def t_X7_ends : Tbl := [(0, s_al 1 0),
  (1, s_cv0 true 4 1 f_X7_begins),
  (4, s_ic 5 0),
  (5, s_is 6 1),
  (6, s_il 7 1),
  (7, s_ic 10 480),
  (10, s_cge 13 58),
  (13, s_al 14 0),
  (14, s_ci0 true 17 1 f_X7_lastOf),
  (17, s_ic 18 (-1)),
  (18, s_cne 21 58),
  (21, s_al 22 0),
  (22, s_cv0 true 25 1 f_X7_moves),
  (25, s_ic 26 0),
  (26, s_is 27 2),
  (27, s_il 28 2),
  (28, s_al 29 0),
  (29, s_gf 32 layM 7 21),
  (32, s_cge 35 52),
  (35, s_al 36 0),
  (36, s_al 37 0),
  (37, s_gf 40 layM 7 20),
  (40, s_il 41 2),
  (41, s_ia 42 layM 0),
  (42, s_il 43 1),
  (43, s_cv0 true 46 3 f_X7_works),
  (46, s_in 49 2 1),
  (49, s_go 27),
  (52, s_in 55 1 1),
  (55, s_go 6),
  (58, s_al 59 0),
  (59, s_ci0 true 62 1 f_X7_lastOf),
  (62, s_ir)]
def cs_X7_ends : Cs := [(6, [0, 1]), (27, [0, 1, 2]), (58, [0])]
noncomputable def f_X7_ends : List Vv → Mm → Option Ou := lock (sem t_X7_ends cs_X7_ends 3)
set_option maxRecDepth 20000 in
theorem ok_X7_ends (l : Launch) : Ok l RX7 cX7_ends 3 5 (some .int) layM t_X7_ends :=
  Ok.cons (so_aload_n dX7_ends_0 rfl rfl) <|
  Ok.cons (so_vv0 (ct_X7_begins l) wq_1523 wq_1520 wq_1522 wq_64 wq_95 (by decide +kernel) (by decide) rfl rfl dX7_ends_1 rfl) <|
  Ok.cons (so_iconst dX7_ends_4 (by decide) rfl) <|
  Ok.cons (so_istore_n dX7_ends_5 rfl (by decide) rfl) <|
  Ok.cons (so_iload_n dX7_ends_6 rfl rfl) <|
  Ok.cons (so_sipush dX7_ends_7 (by decide) rfl) <|
  Ok.cons (so_cge dX7_ends_10 (by decide) rfl) <|
  Ok.cons (so_aload_n dX7_ends_13 rfl rfl) <|
  Ok.cons (so_vi0 (ct_X7_lastOf l) wq_1527 wq_1524 wq_1526 wq_65 wq_95 (by decide +kernel) (by decide) rfl rfl dX7_ends_14 rfl) <|
  Ok.cons (so_iconst dX7_ends_17 (by decide) rfl) <|
  Ok.cons (so_cne dX7_ends_18 (by decide) rfl) <|
  Ok.cons (so_aload_n dX7_ends_21 rfl rfl) <|
  Ok.cons (so_vv0 (ct_X7_moves l) wq_1532 wq_1529 wq_1531 wq_66 wq_95 (by decide +kernel) (by decide) rfl rfl dX7_ends_22 rfl) <|
  Ok.cons (so_iconst dX7_ends_25 (by decide) rfl) <|
  Ok.cons (so_istore_n dX7_ends_26 rfl (by decide) rfl) <|
  Ok.cons (so_iload_n dX7_ends_27 rfl rfl) <|
  Ok.cons (so_aload_n dX7_ends_28 rfl rfl) <|
  Ok.cons (so_gf (C := RX7) (T := TX7) (N := 42) inGX7 rfl (by decide) wq_1195 rfl dX7_ends_29 rfl) <|
  Ok.cons (so_cge dX7_ends_32 (by decide) rfl) <|
  Ok.cons (so_aload_n dX7_ends_35 rfl rfl) <|
  Ok.cons (so_aload_n dX7_ends_36 rfl rfl) <|
  Ok.cons (so_gf (C := RX7) (T := TX7) (N := 42) inGX7 rfl (by decide) wq_1194 rfl dX7_ends_37 rfl) <|
  Ok.cons (so_iload_n dX7_ends_40 rfl rfl) <|
  Ok.cons (so_ia0 dX7_ends_41 rfl) <|
  Ok.cons (so_iload_n dX7_ends_42 rfl rfl) <|
  Ok.cons (so_vv0 (ct_X7_works l) wq_1568 wq_1565 wq_1567 wq_75 wq_95 (by decide +kernel) (by decide) rfl rfl dX7_ends_43 rfl) <|
  Ok.cons (so_iinc dX7_ends_46 (by decide) (by decide) rfl) <|
  Ok.cons (so_goto dX7_ends_49 (by decide)) <|
  Ok.cons (so_iinc dX7_ends_52 (by decide) (by decide) rfl) <|
  Ok.cons (so_goto dX7_ends_55 (by decide)) <|
  Ok.cons (so_aload_n dX7_ends_58 rfl rfl) <|
  Ok.cons (so_vi0 (ct_X7_lastOf l) wq_1527 wq_1524 wq_1526 wq_65 wq_95 (by decide +kernel) (by decide) rfl rfl dX7_ends_59 rfl) <|
  Ok.cons (so_ir rfl dX7_ends_62) <| Ok.nil
theorem ct_X7_ends (l : Launch) : Ct l yX7_ends cX7_ends 3 (some .int) 5 layM f_X7_ends := ofRunL (by decide) rfl (ok_X7_ends l)
noncomputable def t_X7_orders : Tbl := [(0, s_al 1 0),
  (1, s_al 2 0),
  (2, s_gf 5 layM 7 3),
  (5, s_ic 7 18),
  (7, s_ia 8 layM 0),
  (8, s_pf 11 layM 7 21),
  (11, s_ic 12 0),
  (12, s_is 13 1),
  (13, s_il 14 1),
  (14, s_al 15 0),
  (15, s_gf 18 layM 7 21),
  (18, s_cge 21 42),
  (21, s_al 22 0),
  (22, s_gf 25 layM 7 20),
  (25, s_il 26 1),
  (26, s_al 27 0),
  (27, s_gf 30 layM 7 5),
  (30, s_ic 32 72),
  (32, s_il 33 1),
  (33, s_b 34 (fun x y => x + y)),
  (34, s_ia 35 layM 0),
  (35, s_ix 36 layM 0),
  (36, s_in 39 1 1),
  (39, s_go 13),
  (42, s_al 43 0),
  (43, s_al 44 0),
  (44, s_gf 47 layM 7 5),
  (47, s_ic 49 79),
  (49, s_ia 50 layM 0),
  (50, s_pf 53 layM 7 22),
  (53, s_al 54 0),
  (54, s_ic 55 (-1)),
  (55, s_pf 58 layM 7 23),
  (58, s_vr)]
def cs_X7_orders : Cs := [(13, [0, 1])]
noncomputable def f_X7_orders : List Vv → Mm → Option Ou := lock (sem t_X7_orders cs_X7_orders 2)
set_option maxRecDepth 20000 in
theorem ok_X7_orders (l : Launch) : Ok l RX7 cX7_orders 2 1 none layM t_X7_orders :=
  Ok.cons (so_aload_n dX7_orders_0 rfl rfl) <|
  Ok.cons (so_aload_n dX7_orders_1 rfl rfl) <|
  Ok.cons (so_gf (C := RX7) (T := TX7) (N := 42) inGX7 rfl (by decide) wq_1177 rfl dX7_orders_2 rfl) <|
  Ok.cons (so_bipush dX7_orders_5 (by decide) rfl) <|
  Ok.cons (so_ia0 dX7_orders_7 rfl) <|
  Ok.cons (so_pf (C := RX7) (T := TX7) (N := 42) inGX7 tyX7_ok nmX7 rfl (by decide) wq_1195 rfl rfl rfl dX7_orders_8 rfl) <|
  Ok.cons (so_iconst dX7_orders_11 (by decide) rfl) <|
  Ok.cons (so_istore_n dX7_orders_12 rfl (by decide) rfl) <|
  Ok.cons (so_iload_n dX7_orders_13 rfl rfl) <|
  Ok.cons (so_aload_n dX7_orders_14 rfl rfl) <|
  Ok.cons (so_gf (C := RX7) (T := TX7) (N := 42) inGX7 rfl (by decide) wq_1195 rfl dX7_orders_15 rfl) <|
  Ok.cons (so_cge dX7_orders_18 (by decide) rfl) <|
  Ok.cons (so_aload_n dX7_orders_21 rfl rfl) <|
  Ok.cons (so_gf (C := RX7) (T := TX7) (N := 42) inGX7 rfl (by decide) wq_1194 rfl dX7_orders_22 rfl) <|
  Ok.cons (so_iload_n dX7_orders_25 rfl rfl) <|
  Ok.cons (so_aload_n dX7_orders_26 rfl rfl) <|
  Ok.cons (so_gf (C := RX7) (T := TX7) (N := 42) inGX7 rfl (by decide) wq_1179 rfl dX7_orders_27 rfl) <|
  Ok.cons (so_bipush dX7_orders_30 (by decide) rfl) <|
  Ok.cons (so_iload_n dX7_orders_32 rfl rfl) <|
  Ok.cons (so_iadd dX7_orders_33 rfl) <|
  Ok.cons (so_ia0 dX7_orders_34 rfl) <|
  Ok.cons (so_ix dX7_orders_35 rfl) <|
  Ok.cons (so_iinc dX7_orders_36 (by decide) (by decide) rfl) <|
  Ok.cons (so_goto dX7_orders_39 (by decide)) <|
  Ok.cons (so_aload_n dX7_orders_42 rfl rfl) <|
  Ok.cons (so_aload_n dX7_orders_43 rfl rfl) <|
  Ok.cons (so_gf (C := RX7) (T := TX7) (N := 42) inGX7 rfl (by decide) wq_1179 rfl dX7_orders_44 rfl) <|
  Ok.cons (so_bipush dX7_orders_47 (by decide) rfl) <|
  Ok.cons (so_ia0 dX7_orders_49 rfl) <|
  Ok.cons (so_pf (C := RX7) (T := TX7) (N := 42) inGX7 tyX7_ok nmX7 rfl (by decide) wq_1196 rfl rfl rfl dX7_orders_50 rfl) <|
  Ok.cons (so_aload_n dX7_orders_53 rfl rfl) <|
  Ok.cons (so_iconst dX7_orders_54 (by decide) rfl) <|
  Ok.cons (so_pf (C := RX7) (T := TX7) (N := 42) inGX7 tyX7_ok nmX7 rfl (by decide) wq_1197 rfl rfl rfl dX7_orders_55 rfl) <|
  Ok.cons (so_vr rfl dX7_orders_58) <| Ok.nil
theorem ct_X7_orders (l : Launch) : Ct l yX7_orders cX7_orders 2 none 1 layM f_X7_orders := ofRunL (by decide) rfl (ok_X7_orders l)
noncomputable def t_X7_runs : Tbl := [(0, s_al 1 0),
  (1, s_gf 4 layM 7 37),
  (4, s_zeq 7 8),
  (7, s_vr),
  (8, s_al 9 0),
  (9, s_ic 10 1),
  (10, s_pz 13 layM 7 37),
  (13, s_al 14 0),
  (14, s_cv0 true 17 1 f_X7_orders),
  (17, s_al 18 0),
  (18, s_cv0 true 21 1 f_X7_begins),
  (21, s_ic 22 0),
  (22, s_is 23 1),
  (23, s_il 24 1),
  (24, s_ic 27 480),
  (27, s_cgt 30 152),
  (30, s_ic 31 0),
  (31, s_is 32 2),
  (32, s_il 33 2),
  (33, s_ic 35 6),
  (35, s_cge 38 78),
  (38, s_al 39 0),
  (39, s_gf 42 layM 7 31),
  (42, s_ic 44 6),
  (44, s_il 45 1),
  (45, s_b 46 (fun x y => x * y)),
  (46, s_il 47 2),
  (47, s_b 48 (fun x y => x + y)),
  (48, s_al 49 0),
  (49, s_gf 52 layM 7 24),
  (52, s_il 53 2),
  (53, s_ia 54 layM 0),
  (54, s_ix 55 layM 0),
  (55, s_al 56 0),
  (56, s_gf 59 layM 7 33),
  (59, s_ic 61 6),
  (61, s_il 62 1),
  (62, s_b 63 (fun x y => x * y)),
  (63, s_il 64 2),
  (64, s_b 65 (fun x y => x + y)),
  (65, s_al 66 0),
  (66, s_gf 69 layM 7 26),
  (69, s_il 70 2),
  (70, s_ia 71 layM 0),
  (71, s_ix 72 layM 0),
  (72, s_in 75 2 1),
  (75, s_go 32),
  (78, s_il 79 1),
  (79, s_ic 82 480),
  (82, s_cne 85 88),
  (85, s_go 146),
  (88, s_al 89 0),
  (89, s_cv0 true 92 1 f_X7_moves),
  (92, s_ic 93 0),
  (93, s_is 94 2),
  (94, s_il 95 2),
  (95, s_al 96 0),
  (96, s_gf 99 layM 7 21),
  (99, s_cge 102 146),
  (102, s_al 103 0),
  (103, s_gf 106 layM 7 32),
  (106, s_ic 108 6),
  (108, s_il 109 1),
  (109, s_b 110 (fun x y => x * y)),
  (110, s_al 111 0),
  (111, s_gf 114 layM 7 20),
  (114, s_il 115 2),
  (115, s_ia 116 layM 0),
  (116, s_b 117 (fun x y => x + y)),
  (117, s_al 118 0),
  (118, s_gf 121 layM 7 25),
  (121, s_al 122 0),
  (122, s_gf 125 layM 7 20),
  (125, s_il 126 2),
  (126, s_ia 127 layM 0),
  (127, s_ia 128 layM 0),
  (128, s_ix 129 layM 0),
  (129, s_al 130 0),
  (130, s_al 131 0),
  (131, s_gf 134 layM 7 20),
  (134, s_il 135 2),
  (135, s_ia 136 layM 0),
  (136, s_il 137 1),
  (137, s_cv0 true 140 3 f_X7_works),
  (140, s_in 143 2 1),
  (143, s_go 94),
  (146, s_in 149 1 1),
  (149, s_go 23),
  (152, s_ic 153 0),
  (153, s_is 154 1),
  (154, s_il 155 1),
  (155, s_ic 157 6),
  (157, s_cge 160 202),
  (160, s_al 161 0),
  (161, s_gf 164 layM 7 34),
  (164, s_il 165 1),
  (165, s_al 166 0),
  (166, s_gf 169 layM 7 28),
  (169, s_il 170 1),
  (170, s_ia 171 layM 0),
  (171, s_ix 172 layM 0),
  (172, s_al 173 0),
  (173, s_gf 176 layM 7 35),
  (176, s_il 177 1),
  (177, s_al 178 0),
  (178, s_gf 181 layM 7 29),
  (181, s_il 182 1),
  (182, s_ia 183 layM 0),
  (183, s_ix 184 layM 0),
  (184, s_al 185 0),
  (185, s_gf 188 layM 7 36),
  (188, s_il 189 1),
  (189, s_al 190 0),
  (190, s_gf 193 layM 7 30),
  (193, s_il 194 1),
  (194, s_ia 195 layM 0),
  (195, s_ix 196 layM 0),
  (196, s_in 199 1 1),
  (199, s_go 154),
  (202, s_vr)]
def cs_X7_runs : Cs := [(23, [0, 1]), (32, [0, 1, 2]), (94, [0, 1, 2]), (154, [0, 1])]
noncomputable def f_X7_runs : List Vv → Mm → Option Ou := lock (sem t_X7_runs cs_X7_runs 3)
set_option maxRecDepth 20000 in
theorem ok_X7_runs (l : Launch) : Ok l RX7 cX7_runs 3 5 none layM t_X7_runs :=
  Ok.cons (so_aload_n dX7_runs_0 rfl rfl) <|
  Ok.cons (so_gf (C := RX7) (T := TX7) (N := 42) inGX7 rfl (by decide) wq_1211 rfl dX7_runs_1 rfl) <|
  Ok.cons (so_zeq dX7_runs_4 (by decide) rfl) <|
  Ok.cons (so_vr rfl dX7_runs_7) <|
  Ok.cons (so_aload_n dX7_runs_8 rfl rfl) <|
  Ok.cons (so_iconst dX7_runs_9 (by decide) rfl) <|
  Ok.cons (so_pz (C := RX7) (T := TX7) (N := 42) inGX7 tyX7_ok nmX7 rfl (by decide) wq_1211 rfl rfl rfl dX7_runs_10 rfl) <|
  Ok.cons (so_aload_n dX7_runs_13 rfl rfl) <|
  Ok.cons (so_vv0 (ct_X7_orders l) wq_1515 wq_1512 wq_1514 wq_62 wq_95 (by decide +kernel) (by decide) rfl rfl dX7_runs_14 rfl) <|
  Ok.cons (so_aload_n dX7_runs_17 rfl rfl) <|
  Ok.cons (so_vv0 (ct_X7_begins l) wq_1523 wq_1520 wq_1522 wq_64 wq_95 (by decide +kernel) (by decide) rfl rfl dX7_runs_18 rfl) <|
  Ok.cons (so_iconst dX7_runs_21 (by decide) rfl) <|
  Ok.cons (so_istore_n dX7_runs_22 rfl (by decide) rfl) <|
  Ok.cons (so_iload_n dX7_runs_23 rfl rfl) <|
  Ok.cons (so_sipush dX7_runs_24 (by decide) rfl) <|
  Ok.cons (so_cgt dX7_runs_27 (by decide) rfl) <|
  Ok.cons (so_iconst dX7_runs_30 (by decide) rfl) <|
  Ok.cons (so_istore_n dX7_runs_31 rfl (by decide) rfl) <|
  Ok.cons (so_iload_n dX7_runs_32 rfl rfl) <|
  Ok.cons (so_bipush dX7_runs_33 (by decide) rfl) <|
  Ok.cons (so_cge dX7_runs_35 (by decide) rfl) <|
  Ok.cons (so_aload_n dX7_runs_38 rfl rfl) <|
  Ok.cons (so_gf (C := RX7) (T := TX7) (N := 42) inGX7 rfl (by decide) wq_1205 rfl dX7_runs_39 rfl) <|
  Ok.cons (so_bipush dX7_runs_42 (by decide) rfl) <|
  Ok.cons (so_iload_n dX7_runs_44 rfl rfl) <|
  Ok.cons (so_imul dX7_runs_45 rfl) <|
  Ok.cons (so_iload_n dX7_runs_46 rfl rfl) <|
  Ok.cons (so_iadd dX7_runs_47 rfl) <|
  Ok.cons (so_aload_n dX7_runs_48 rfl rfl) <|
  Ok.cons (so_gf (C := RX7) (T := TX7) (N := 42) inGX7 rfl (by decide) wq_1198 rfl dX7_runs_49 rfl) <|
  Ok.cons (so_iload_n dX7_runs_52 rfl rfl) <|
  Ok.cons (so_ia0 dX7_runs_53 rfl) <|
  Ok.cons (so_ix dX7_runs_54 rfl) <|
  Ok.cons (so_aload_n dX7_runs_55 rfl rfl) <|
  Ok.cons (so_gf (C := RX7) (T := TX7) (N := 42) inGX7 rfl (by decide) wq_1207 rfl dX7_runs_56 rfl) <|
  Ok.cons (so_bipush dX7_runs_59 (by decide) rfl) <|
  Ok.cons (so_iload_n dX7_runs_61 rfl rfl) <|
  Ok.cons (so_imul dX7_runs_62 rfl) <|
  Ok.cons (so_iload_n dX7_runs_63 rfl rfl) <|
  Ok.cons (so_iadd dX7_runs_64 rfl) <|
  Ok.cons (so_aload_n dX7_runs_65 rfl rfl) <|
  Ok.cons (so_gf (C := RX7) (T := TX7) (N := 42) inGX7 rfl (by decide) wq_1200 rfl dX7_runs_66 rfl) <|
  Ok.cons (so_iload_n dX7_runs_69 rfl rfl) <|
  Ok.cons (so_ia0 dX7_runs_70 rfl) <|
  Ok.cons (so_ix dX7_runs_71 rfl) <|
  Ok.cons (so_iinc dX7_runs_72 (by decide) (by decide) rfl) <|
  Ok.cons (so_goto dX7_runs_75 (by decide)) <|
  Ok.cons (so_iload_n dX7_runs_78 rfl rfl) <|
  Ok.cons (so_sipush dX7_runs_79 (by decide) rfl) <|
  Ok.cons (so_cne dX7_runs_82 (by decide) rfl) <|
  Ok.cons (so_goto dX7_runs_85 (by decide)) <|
  Ok.cons (so_aload_n dX7_runs_88 rfl rfl) <|
  Ok.cons (so_vv0 (ct_X7_moves l) wq_1532 wq_1529 wq_1531 wq_66 wq_95 (by decide +kernel) (by decide) rfl rfl dX7_runs_89 rfl) <|
  Ok.cons (so_iconst dX7_runs_92 (by decide) rfl) <|
  Ok.cons (so_istore_n dX7_runs_93 rfl (by decide) rfl) <|
  Ok.cons (so_iload_n dX7_runs_94 rfl rfl) <|
  Ok.cons (so_aload_n dX7_runs_95 rfl rfl) <|
  Ok.cons (so_gf (C := RX7) (T := TX7) (N := 42) inGX7 rfl (by decide) wq_1195 rfl dX7_runs_96 rfl) <|
  Ok.cons (so_cge dX7_runs_99 (by decide) rfl) <|
  Ok.cons (so_aload_n dX7_runs_102 rfl rfl) <|
  Ok.cons (so_gf (C := RX7) (T := TX7) (N := 42) inGX7 rfl (by decide) wq_1206 rfl dX7_runs_103 rfl) <|
  Ok.cons (so_bipush dX7_runs_106 (by decide) rfl) <|
  Ok.cons (so_iload_n dX7_runs_108 rfl rfl) <|
  Ok.cons (so_imul dX7_runs_109 rfl) <|
  Ok.cons (so_aload_n dX7_runs_110 rfl rfl) <|
  Ok.cons (so_gf (C := RX7) (T := TX7) (N := 42) inGX7 rfl (by decide) wq_1194 rfl dX7_runs_111 rfl) <|
  Ok.cons (so_iload_n dX7_runs_114 rfl rfl) <|
  Ok.cons (so_ia0 dX7_runs_115 rfl) <|
  Ok.cons (so_iadd dX7_runs_116 rfl) <|
  Ok.cons (so_aload_n dX7_runs_117 rfl rfl) <|
  Ok.cons (so_gf (C := RX7) (T := TX7) (N := 42) inGX7 rfl (by decide) wq_1199 rfl dX7_runs_118 rfl) <|
  Ok.cons (so_aload_n dX7_runs_121 rfl rfl) <|
  Ok.cons (so_gf (C := RX7) (T := TX7) (N := 42) inGX7 rfl (by decide) wq_1194 rfl dX7_runs_122 rfl) <|
  Ok.cons (so_iload_n dX7_runs_125 rfl rfl) <|
  Ok.cons (so_ia0 dX7_runs_126 rfl) <|
  Ok.cons (so_ia0 dX7_runs_127 rfl) <|
  Ok.cons (so_ix dX7_runs_128 rfl) <|
  Ok.cons (so_aload_n dX7_runs_129 rfl rfl) <|
  Ok.cons (so_aload_n dX7_runs_130 rfl rfl) <|
  Ok.cons (so_gf (C := RX7) (T := TX7) (N := 42) inGX7 rfl (by decide) wq_1194 rfl dX7_runs_131 rfl) <|
  Ok.cons (so_iload_n dX7_runs_134 rfl rfl) <|
  Ok.cons (so_ia0 dX7_runs_135 rfl) <|
  Ok.cons (so_iload_n dX7_runs_136 rfl rfl) <|
  Ok.cons (so_vv0 (ct_X7_works l) wq_1568 wq_1565 wq_1567 wq_75 wq_95 (by decide +kernel) (by decide) rfl rfl dX7_runs_137 rfl) <|
  Ok.cons (so_iinc dX7_runs_140 (by decide) (by decide) rfl) <|
  Ok.cons (so_goto dX7_runs_143 (by decide)) <|
  Ok.cons (so_iinc dX7_runs_146 (by decide) (by decide) rfl) <|
  Ok.cons (so_goto dX7_runs_149 (by decide)) <|
  Ok.cons (so_iconst dX7_runs_152 (by decide) rfl) <|
  Ok.cons (so_istore_n dX7_runs_153 rfl (by decide) rfl) <|
  Ok.cons (so_iload_n dX7_runs_154 rfl rfl) <|
  Ok.cons (so_bipush dX7_runs_155 (by decide) rfl) <|
  Ok.cons (so_cge dX7_runs_157 (by decide) rfl) <|
  Ok.cons (so_aload_n dX7_runs_160 rfl rfl) <|
  Ok.cons (so_gf (C := RX7) (T := TX7) (N := 42) inGX7 rfl (by decide) wq_1208 rfl dX7_runs_161 rfl) <|
  Ok.cons (so_iload_n dX7_runs_164 rfl rfl) <|
  Ok.cons (so_aload_n dX7_runs_165 rfl rfl) <|
  Ok.cons (so_gf (C := RX7) (T := TX7) (N := 42) inGX7 rfl (by decide) wq_1202 rfl dX7_runs_166 rfl) <|
  Ok.cons (so_iload_n dX7_runs_169 rfl rfl) <|
  Ok.cons (so_ia0 dX7_runs_170 rfl) <|
  Ok.cons (so_ix dX7_runs_171 rfl) <|
  Ok.cons (so_aload_n dX7_runs_172 rfl rfl) <|
  Ok.cons (so_gf (C := RX7) (T := TX7) (N := 42) inGX7 rfl (by decide) wq_1209 rfl dX7_runs_173 rfl) <|
  Ok.cons (so_iload_n dX7_runs_176 rfl rfl) <|
  Ok.cons (so_aload_n dX7_runs_177 rfl rfl) <|
  Ok.cons (so_gf (C := RX7) (T := TX7) (N := 42) inGX7 rfl (by decide) wq_1203 rfl dX7_runs_178 rfl) <|
  Ok.cons (so_iload_n dX7_runs_181 rfl rfl) <|
  Ok.cons (so_ia0 dX7_runs_182 rfl) <|
  Ok.cons (so_ix dX7_runs_183 rfl) <|
  Ok.cons (so_aload_n dX7_runs_184 rfl rfl) <|
  Ok.cons (so_gf (C := RX7) (T := TX7) (N := 42) inGX7 rfl (by decide) wq_1210 rfl dX7_runs_185 rfl) <|
  Ok.cons (so_iload_n dX7_runs_188 rfl rfl) <|
  Ok.cons (so_aload_n dX7_runs_189 rfl rfl) <|
  Ok.cons (so_gf (C := RX7) (T := TX7) (N := 42) inGX7 rfl (by decide) wq_1204 rfl dX7_runs_190 rfl) <|
  Ok.cons (so_iload_n dX7_runs_193 rfl rfl) <|
  Ok.cons (so_ia0 dX7_runs_194 rfl) <|
  Ok.cons (so_ix dX7_runs_195 rfl) <|
  Ok.cons (so_iinc dX7_runs_196 (by decide) (by decide) rfl) <|
  Ok.cons (so_goto dX7_runs_199 (by decide)) <|
  Ok.cons (so_vr rfl dX7_runs_202) <| Ok.nil
theorem ct_X7_runs (l : Launch) : Ct l yX7_runs cX7_runs 3 none 5 layM f_X7_runs := ofRunL (by decide) rfl (ok_X7_runs l)
noncomputable def t_X7_finish : Tbl := [(0, s_al 1 0),
  (1, s_ic 2 0),
  (2, s_pf 5 layM 7 0),
  (5, s_al 6 0),
  (6, s_cv0 true 9 1 f_X7_orders),
  (9, s_al 10 0),
  (10, s_ci0 true 13 1 f_X7_ends),
  (13, s_ir)]
def cs_X7_finish : Cs := []
noncomputable def f_X7_finish : List Vv → Mm → Option Ou := lock (sem t_X7_finish cs_X7_finish 1)
set_option maxRecDepth 20000 in
theorem ok_X7_finish (l : Launch) : Ok l RX7 cX7_finish 1 6 (some .int) layM t_X7_finish :=
  Ok.cons (so_aload_n dX7_finish_0 rfl rfl) <|
  Ok.cons (so_iconst dX7_finish_1 (by decide) rfl) <|
  Ok.cons (so_pf (C := RX7) (T := TX7) (N := 42) inGX7 tyX7_ok nmX7 rfl (by decide) wq_1174 rfl rfl rfl dX7_finish_2 rfl) <|
  Ok.cons (so_aload_n dX7_finish_5 rfl rfl) <|
  Ok.cons (so_vv0 (ct_X7_orders l) wq_1515 wq_1512 wq_1514 wq_62 wq_95 (by decide +kernel) (by decide) rfl rfl dX7_finish_6 rfl) <|
  Ok.cons (so_aload_n dX7_finish_9 rfl rfl) <|
  Ok.cons (so_vi0 (ct_X7_ends l) wq_1519 wq_1516 wq_1518 wq_63 wq_95 (by decide +kernel) (by decide) rfl rfl dX7_finish_10 rfl) <|
  Ok.cons (so_ir rfl dX7_finish_13) <| Ok.nil
theorem ct_X7_finish (l : Launch) : Ct l yX7_finish cX7_finish 1 (some .int) 6 layM f_X7_finish := ofRunL (by decide) rfl (ok_X7_finish l)
noncomputable def t_X7_finishOf : Tbl := [(0, s_al 1 0),
  (1, s_al 2 0),
  (2, s_il 3 1),
  (3, s_ci0 true 6 2 f_X7_isIron),
  (6, s_ci0 true 9 2 f_X7_checks),
  (9, s_zne 12 14),
  (12, s_ic 13 0),
  (13, s_ir),
  (14, s_al 15 0),
  (15, s_cv0 true 18 1 f_X7_runs),
  (18, s_al 19 0),
  (19, s_gf 22 layM 7 34),
  (22, s_il 23 1),
  (23, s_ia 24 layM 0),
  (24, s_ir)]
def cs_X7_finishOf : Cs := []
noncomputable def f_X7_finishOf : List Vv → Mm → Option Ou := lock (sem t_X7_finishOf cs_X7_finishOf 2)
set_option maxRecDepth 20000 in
theorem ok_X7_finishOf (l : Launch) : Ok l RX7 cX7_finishOf 2 6 (some .int) layM t_X7_finishOf :=
  Ok.cons (so_aload_n dX7_finishOf_0 rfl rfl) <|
  Ok.cons (so_aload_n dX7_finishOf_1 rfl rfl) <|
  Ok.cons (so_iload_n dX7_finishOf_2 rfl rfl) <|
  Ok.cons (so_vi0 (ct_X7_isIron l) wq_1456 wq_1453 wq_1455 wq_58 wq_95 (by decide +kernel) (by decide) rfl rfl dX7_finishOf_3 rfl) <|
  Ok.cons (so_vi0 (ct_X7_checks l) wq_1460 wq_1457 wq_1459 wq_59 wq_95 (by decide +kernel) (by decide) rfl rfl dX7_finishOf_6 rfl) <|
  Ok.cons (so_zne dX7_finishOf_9 (by decide) rfl) <|
  Ok.cons (so_iconst dX7_finishOf_12 (by decide) rfl) <|
  Ok.cons (so_ir rfl dX7_finishOf_13) <|
  Ok.cons (so_aload_n dX7_finishOf_14 rfl rfl) <|
  Ok.cons (so_vv0 (ct_X7_runs l) wq_1577 wq_1574 wq_1576 wq_76 wq_95 (by decide +kernel) (by decide) rfl rfl dX7_finishOf_15 rfl) <|
  Ok.cons (so_aload_n dX7_finishOf_18 rfl rfl) <|
  Ok.cons (so_gf (C := RX7) (T := TX7) (N := 42) inGX7 rfl (by decide) wq_1208 rfl dX7_finishOf_19 rfl) <|
  Ok.cons (so_iload_n dX7_finishOf_22 rfl rfl) <|
  Ok.cons (so_ia0 dX7_finishOf_23 rfl) <|
  Ok.cons (so_ir rfl dX7_finishOf_24) <| Ok.nil
theorem ct_X7_finishOf (l : Launch) : Ct l yX7_finishOf cX7_finishOf 2 (some .int) 6 layM f_X7_finishOf := ofRunL (by decide) rfl (ok_X7_finishOf l)
noncomputable def t_X7_heatAfter : Tbl := [(0, s_al 1 0),
  (1, s_al 2 0),
  (2, s_il 3 1),
  (3, s_ci0 true 6 2 f_X7_isIron),
  (6, s_ci0 true 9 2 f_X7_checks),
  (9, s_zne 12 14),
  (12, s_ic 13 0),
  (13, s_ir),
  (14, s_il 15 2),
  (15, s_zlt 18 25),
  (18, s_il 19 2),
  (19, s_ic 22 480),
  (22, s_cle 25 28),
  (25, s_ic 27 (-2)),
  (27, s_ir),
  (28, s_al 29 0),
  (29, s_cv0 true 32 1 f_X7_runs),
  (32, s_al 33 0),
  (33, s_gf 36 layM 7 31),
  (36, s_ic 38 6),
  (38, s_il 39 2),
  (39, s_b 40 (fun x y => x * y)),
  (40, s_il 41 1),
  (41, s_b 42 (fun x y => x + y)),
  (42, s_ia 43 layM 0),
  (43, s_ir)]
def cs_X7_heatAfter : Cs := []
noncomputable def f_X7_heatAfter : List Vv → Mm → Option Ou := lock (sem t_X7_heatAfter cs_X7_heatAfter 3)
set_option maxRecDepth 20000 in
theorem ok_X7_heatAfter (l : Launch) : Ok l RX7 cX7_heatAfter 3 6 (some .int) layM t_X7_heatAfter :=
  Ok.cons (so_aload_n dX7_heatAfter_0 rfl rfl) <|
  Ok.cons (so_aload_n dX7_heatAfter_1 rfl rfl) <|
  Ok.cons (so_iload_n dX7_heatAfter_2 rfl rfl) <|
  Ok.cons (so_vi0 (ct_X7_isIron l) wq_1456 wq_1453 wq_1455 wq_58 wq_95 (by decide +kernel) (by decide) rfl rfl dX7_heatAfter_3 rfl) <|
  Ok.cons (so_vi0 (ct_X7_checks l) wq_1460 wq_1457 wq_1459 wq_59 wq_95 (by decide +kernel) (by decide) rfl rfl dX7_heatAfter_6 rfl) <|
  Ok.cons (so_zne dX7_heatAfter_9 (by decide) rfl) <|
  Ok.cons (so_iconst dX7_heatAfter_12 (by decide) rfl) <|
  Ok.cons (so_ir rfl dX7_heatAfter_13) <|
  Ok.cons (so_iload_n dX7_heatAfter_14 rfl rfl) <|
  Ok.cons (so_zlt dX7_heatAfter_15 (by decide) rfl) <|
  Ok.cons (so_iload_n dX7_heatAfter_18 rfl rfl) <|
  Ok.cons (so_sipush dX7_heatAfter_19 (by decide) rfl) <|
  Ok.cons (so_cle dX7_heatAfter_22 (by decide) rfl) <|
  Ok.cons (so_bipush dX7_heatAfter_25 (by decide) rfl) <|
  Ok.cons (so_ir rfl dX7_heatAfter_27) <|
  Ok.cons (so_aload_n dX7_heatAfter_28 rfl rfl) <|
  Ok.cons (so_vv0 (ct_X7_runs l) wq_1577 wq_1574 wq_1576 wq_76 wq_95 (by decide +kernel) (by decide) rfl rfl dX7_heatAfter_29 rfl) <|
  Ok.cons (so_aload_n dX7_heatAfter_32 rfl rfl) <|
  Ok.cons (so_gf (C := RX7) (T := TX7) (N := 42) inGX7 rfl (by decide) wq_1205 rfl dX7_heatAfter_33 rfl) <|
  Ok.cons (so_bipush dX7_heatAfter_36 (by decide) rfl) <|
  Ok.cons (so_iload_n dX7_heatAfter_38 rfl rfl) <|
  Ok.cons (so_imul dX7_heatAfter_39 rfl) <|
  Ok.cons (so_iload_n dX7_heatAfter_40 rfl rfl) <|
  Ok.cons (so_iadd dX7_heatAfter_41 rfl) <|
  Ok.cons (so_ia0 dX7_heatAfter_42 rfl) <|
  Ok.cons (so_ir rfl dX7_heatAfter_43) <| Ok.nil
theorem ct_X7_heatAfter (l : Launch) : Ct l yX7_heatAfter cX7_heatAfter 3 (some .int) 6 layM f_X7_heatAfter := ofRunL (by decide) rfl (ok_X7_heatAfter l)
noncomputable def t_X7_whereIn : Tbl := [(0, s_al 1 0),
  (1, s_al 2 0),
  (2, s_il 3 1),
  (3, s_ci0 true 6 2 f_X7_isIron),
  (6, s_ci0 true 9 2 f_X7_checks),
  (9, s_zne 12 14),
  (12, s_ic 13 0),
  (13, s_ir),
  (14, s_il 15 2),
  (15, s_zlt 18 25),
  (18, s_il 19 2),
  (19, s_ic 22 480),
  (22, s_clt 25 28),
  (25, s_ic 27 (-2)),
  (27, s_ir),
  (28, s_al 29 0),
  (29, s_cv0 true 32 1 f_X7_runs),
  (32, s_al 33 0),
  (33, s_gf 36 layM 7 32),
  (36, s_ic 38 6),
  (38, s_il 39 2),
  (39, s_b 40 (fun x y => x * y)),
  (40, s_il 41 1),
  (41, s_b 42 (fun x y => x + y)),
  (42, s_ia 43 layM 0),
  (43, s_ir)]
def cs_X7_whereIn : Cs := []
noncomputable def f_X7_whereIn : List Vv → Mm → Option Ou := lock (sem t_X7_whereIn cs_X7_whereIn 3)
set_option maxRecDepth 20000 in
theorem ok_X7_whereIn (l : Launch) : Ok l RX7 cX7_whereIn 3 6 (some .int) layM t_X7_whereIn :=
  Ok.cons (so_aload_n dX7_whereIn_0 rfl rfl) <|
  Ok.cons (so_aload_n dX7_whereIn_1 rfl rfl) <|
  Ok.cons (so_iload_n dX7_whereIn_2 rfl rfl) <|
  Ok.cons (so_vi0 (ct_X7_isIron l) wq_1456 wq_1453 wq_1455 wq_58 wq_95 (by decide +kernel) (by decide) rfl rfl dX7_whereIn_3 rfl) <|
  Ok.cons (so_vi0 (ct_X7_checks l) wq_1460 wq_1457 wq_1459 wq_59 wq_95 (by decide +kernel) (by decide) rfl rfl dX7_whereIn_6 rfl) <|
  Ok.cons (so_zne dX7_whereIn_9 (by decide) rfl) <|
  Ok.cons (so_iconst dX7_whereIn_12 (by decide) rfl) <|
  Ok.cons (so_ir rfl dX7_whereIn_13) <|
  Ok.cons (so_iload_n dX7_whereIn_14 rfl rfl) <|
  Ok.cons (so_zlt dX7_whereIn_15 (by decide) rfl) <|
  Ok.cons (so_iload_n dX7_whereIn_18 rfl rfl) <|
  Ok.cons (so_sipush dX7_whereIn_19 (by decide) rfl) <|
  Ok.cons (so_clt dX7_whereIn_22 (by decide) rfl) <|
  Ok.cons (so_bipush dX7_whereIn_25 (by decide) rfl) <|
  Ok.cons (so_ir rfl dX7_whereIn_27) <|
  Ok.cons (so_aload_n dX7_whereIn_28 rfl rfl) <|
  Ok.cons (so_vv0 (ct_X7_runs l) wq_1577 wq_1574 wq_1576 wq_76 wq_95 (by decide +kernel) (by decide) rfl rfl dX7_whereIn_29 rfl) <|
  Ok.cons (so_aload_n dX7_whereIn_32 rfl rfl) <|
  Ok.cons (so_gf (C := RX7) (T := TX7) (N := 42) inGX7 rfl (by decide) wq_1206 rfl dX7_whereIn_33 rfl) <|
  Ok.cons (so_bipush dX7_whereIn_36 (by decide) rfl) <|
  Ok.cons (so_iload_n dX7_whereIn_38 rfl rfl) <|
  Ok.cons (so_imul dX7_whereIn_39 rfl) <|
  Ok.cons (so_iload_n dX7_whereIn_40 rfl rfl) <|
  Ok.cons (so_iadd dX7_whereIn_41 rfl) <|
  Ok.cons (so_ia0 dX7_whereIn_42 rfl) <|
  Ok.cons (so_ir rfl dX7_whereIn_43) <| Ok.nil
theorem ct_X7_whereIn (l : Launch) : Ct l yX7_whereIn cX7_whereIn 3 (some .int) 6 layM f_X7_whereIn := ofRunL (by decide) rfl (ok_X7_whereIn l)
noncomputable def t_X7_stepsAfter : Tbl := [(0, s_al 1 0),
  (1, s_al 2 0),
  (2, s_il 3 1),
  (3, s_ci0 true 6 2 f_X7_isIron),
  (6, s_ci0 true 9 2 f_X7_checks),
  (9, s_zne 12 14),
  (12, s_ic 13 0),
  (13, s_ir),
  (14, s_il 15 2),
  (15, s_zlt 18 25),
  (18, s_il 19 2),
  (19, s_ic 22 480),
  (22, s_cle 25 28),
  (25, s_ic 27 (-2)),
  (27, s_ir),
  (28, s_al 29 0),
  (29, s_cv0 true 32 1 f_X7_runs),
  (32, s_al 33 0),
  (33, s_gf 36 layM 7 33),
  (36, s_ic 38 6),
  (38, s_il 39 2),
  (39, s_b 40 (fun x y => x * y)),
  (40, s_il 41 1),
  (41, s_b 42 (fun x y => x + y)),
  (42, s_ia 43 layM 0),
  (43, s_ir)]
def cs_X7_stepsAfter : Cs := []
noncomputable def f_X7_stepsAfter : List Vv → Mm → Option Ou := lock (sem t_X7_stepsAfter cs_X7_stepsAfter 3)
set_option maxRecDepth 20000 in
theorem ok_X7_stepsAfter (l : Launch) : Ok l RX7 cX7_stepsAfter 3 6 (some .int) layM t_X7_stepsAfter :=
  Ok.cons (so_aload_n dX7_stepsAfter_0 rfl rfl) <|
  Ok.cons (so_aload_n dX7_stepsAfter_1 rfl rfl) <|
  Ok.cons (so_iload_n dX7_stepsAfter_2 rfl rfl) <|
  Ok.cons (so_vi0 (ct_X7_isIron l) wq_1456 wq_1453 wq_1455 wq_58 wq_95 (by decide +kernel) (by decide) rfl rfl dX7_stepsAfter_3 rfl) <|
  Ok.cons (so_vi0 (ct_X7_checks l) wq_1460 wq_1457 wq_1459 wq_59 wq_95 (by decide +kernel) (by decide) rfl rfl dX7_stepsAfter_6 rfl) <|
  Ok.cons (so_zne dX7_stepsAfter_9 (by decide) rfl) <|
  Ok.cons (so_iconst dX7_stepsAfter_12 (by decide) rfl) <|
  Ok.cons (so_ir rfl dX7_stepsAfter_13) <|
  Ok.cons (so_iload_n dX7_stepsAfter_14 rfl rfl) <|
  Ok.cons (so_zlt dX7_stepsAfter_15 (by decide) rfl) <|
  Ok.cons (so_iload_n dX7_stepsAfter_18 rfl rfl) <|
  Ok.cons (so_sipush dX7_stepsAfter_19 (by decide) rfl) <|
  Ok.cons (so_cle dX7_stepsAfter_22 (by decide) rfl) <|
  Ok.cons (so_bipush dX7_stepsAfter_25 (by decide) rfl) <|
  Ok.cons (so_ir rfl dX7_stepsAfter_27) <|
  Ok.cons (so_aload_n dX7_stepsAfter_28 rfl rfl) <|
  Ok.cons (so_vv0 (ct_X7_runs l) wq_1577 wq_1574 wq_1576 wq_76 wq_95 (by decide +kernel) (by decide) rfl rfl dX7_stepsAfter_29 rfl) <|
  Ok.cons (so_aload_n dX7_stepsAfter_32 rfl rfl) <|
  Ok.cons (so_gf (C := RX7) (T := TX7) (N := 42) inGX7 rfl (by decide) wq_1207 rfl dX7_stepsAfter_33 rfl) <|
  Ok.cons (so_bipush dX7_stepsAfter_36 (by decide) rfl) <|
  Ok.cons (so_iload_n dX7_stepsAfter_38 rfl rfl) <|
  Ok.cons (so_imul dX7_stepsAfter_39 rfl) <|
  Ok.cons (so_iload_n dX7_stepsAfter_40 rfl rfl) <|
  Ok.cons (so_iadd dX7_stepsAfter_41 rfl) <|
  Ok.cons (so_ia0 dX7_stepsAfter_42 rfl) <|
  Ok.cons (so_ir rfl dX7_stepsAfter_43) <| Ok.nil
theorem ct_X7_stepsAfter (l : Launch) : Ct l yX7_stepsAfter cX7_stepsAfter 3 (some .int) 6 layM f_X7_stepsAfter := ofRunL (by decide) rfl (ok_X7_stepsAfter l)
noncomputable def t_X7_coldStops : Tbl := [(0, s_al 1 0),
  (1, s_al 2 0),
  (2, s_il 3 1),
  (3, s_ci0 true 6 2 f_X7_isIron),
  (6, s_ci0 true 9 2 f_X7_checks),
  (9, s_zne 12 14),
  (12, s_ic 13 0),
  (13, s_ir),
  (14, s_al 15 0),
  (15, s_cv0 true 18 1 f_X7_runs),
  (18, s_al 19 0),
  (19, s_gf 22 layM 7 35),
  (22, s_il 23 1),
  (23, s_ia 24 layM 0),
  (24, s_ir)]
def cs_X7_coldStops : Cs := []
noncomputable def f_X7_coldStops : List Vv → Mm → Option Ou := lock (sem t_X7_coldStops cs_X7_coldStops 2)
set_option maxRecDepth 20000 in
theorem ok_X7_coldStops (l : Launch) : Ok l RX7 cX7_coldStops 2 6 (some .int) layM t_X7_coldStops :=
  Ok.cons (so_aload_n dX7_coldStops_0 rfl rfl) <|
  Ok.cons (so_aload_n dX7_coldStops_1 rfl rfl) <|
  Ok.cons (so_iload_n dX7_coldStops_2 rfl rfl) <|
  Ok.cons (so_vi0 (ct_X7_isIron l) wq_1456 wq_1453 wq_1455 wq_58 wq_95 (by decide +kernel) (by decide) rfl rfl dX7_coldStops_3 rfl) <|
  Ok.cons (so_vi0 (ct_X7_checks l) wq_1460 wq_1457 wq_1459 wq_59 wq_95 (by decide +kernel) (by decide) rfl rfl dX7_coldStops_6 rfl) <|
  Ok.cons (so_zne dX7_coldStops_9 (by decide) rfl) <|
  Ok.cons (so_iconst dX7_coldStops_12 (by decide) rfl) <|
  Ok.cons (so_ir rfl dX7_coldStops_13) <|
  Ok.cons (so_aload_n dX7_coldStops_14 rfl rfl) <|
  Ok.cons (so_vv0 (ct_X7_runs l) wq_1577 wq_1574 wq_1576 wq_76 wq_95 (by decide +kernel) (by decide) rfl rfl dX7_coldStops_15 rfl) <|
  Ok.cons (so_aload_n dX7_coldStops_18 rfl rfl) <|
  Ok.cons (so_gf (C := RX7) (T := TX7) (N := 42) inGX7 rfl (by decide) wq_1209 rfl dX7_coldStops_19 rfl) <|
  Ok.cons (so_iload_n dX7_coldStops_22 rfl rfl) <|
  Ok.cons (so_ia0 dX7_coldStops_23 rfl) <|
  Ok.cons (so_ir rfl dX7_coldStops_24) <| Ok.nil
theorem ct_X7_coldStops (l : Launch) : Ct l yX7_coldStops cX7_coldStops 2 (some .int) 6 layM f_X7_coldStops := ofRunL (by decide) rfl (ok_X7_coldStops l)
noncomputable def t_X7_heats : Tbl := [(0, s_al 1 0),
  (1, s_al 2 0),
  (2, s_il 3 1),
  (3, s_ci0 true 6 2 f_X7_isIron),
  (6, s_ci0 true 9 2 f_X7_checks),
  (9, s_zne 12 14),
  (12, s_ic 13 0),
  (13, s_ir),
  (14, s_al 15 0),
  (15, s_cv0 true 18 1 f_X7_runs),
  (18, s_al 19 0),
  (19, s_gf 22 layM 7 36),
  (22, s_il 23 1),
  (23, s_ia 24 layM 0),
  (24, s_ir)]
def cs_X7_heats : Cs := []
noncomputable def f_X7_heats : List Vv → Mm → Option Ou := lock (sem t_X7_heats cs_X7_heats 2)
set_option maxRecDepth 20000 in
theorem ok_X7_heats (l : Launch) : Ok l RX7 cX7_heats 2 6 (some .int) layM t_X7_heats :=
  Ok.cons (so_aload_n dX7_heats_0 rfl rfl) <|
  Ok.cons (so_aload_n dX7_heats_1 rfl rfl) <|
  Ok.cons (so_iload_n dX7_heats_2 rfl rfl) <|
  Ok.cons (so_vi0 (ct_X7_isIron l) wq_1456 wq_1453 wq_1455 wq_58 wq_95 (by decide +kernel) (by decide) rfl rfl dX7_heats_3 rfl) <|
  Ok.cons (so_vi0 (ct_X7_checks l) wq_1460 wq_1457 wq_1459 wq_59 wq_95 (by decide +kernel) (by decide) rfl rfl dX7_heats_6 rfl) <|
  Ok.cons (so_zne dX7_heats_9 (by decide) rfl) <|
  Ok.cons (so_iconst dX7_heats_12 (by decide) rfl) <|
  Ok.cons (so_ir rfl dX7_heats_13) <|
  Ok.cons (so_aload_n dX7_heats_14 rfl rfl) <|
  Ok.cons (so_vv0 (ct_X7_runs l) wq_1577 wq_1574 wq_1576 wq_76 wq_95 (by decide +kernel) (by decide) rfl rfl dX7_heats_15 rfl) <|
  Ok.cons (so_aload_n dX7_heats_18 rfl rfl) <|
  Ok.cons (so_gf (C := RX7) (T := TX7) (N := 42) inGX7 rfl (by decide) wq_1210 rfl dX7_heats_19 rfl) <|
  Ok.cons (so_iload_n dX7_heats_22 rfl rfl) <|
  Ok.cons (so_ia0 dX7_heats_23 rfl) <|
  Ok.cons (so_ir rfl dX7_heats_24) <| Ok.nil
theorem ct_X7_heats (l : Launch) : Ct l yX7_heats cX7_heats 2 (some .int) 6 layM f_X7_heats := ofRunL (by decide) rfl (ok_X7_heats l)
noncomputable def t_X7_minutesAt : Tbl := [(0, s_al 1 0),
  (1, s_cv0 true 4 1 f_X7_runs),
  (4, s_ic 5 0),
  (5, s_is 7 4),
  (7, s_ic 8 0),
  (8, s_is 10 5),
  (10, s_il 12 5),
  (12, s_al 13 0),
  (13, s_gf 16 layM 7 3),
  (16, s_ic 18 18),
  (18, s_ia 19 layM 0),
  (19, s_cge 22 93),
  (22, s_ic 23 0),
  (23, s_is 25 6),
  (25, s_il 27 6),
  (27, s_ic 30 480),
  (30, s_cge 33 87),
  (33, s_il 34 1),
  (34, s_ic 35 (-1)),
  (35, s_ceq 38 44),
  (38, s_il 39 1),
  (39, s_il 41 5),
  (41, s_cne 44 87),
  (44, s_al 45 0),
  (45, s_gf 48 layM 7 32),
  (48, s_ic 50 6),
  (50, s_il 52 6),
  (52, s_b 53 (fun x y => x * y)),
  (53, s_il 55 5),
  (55, s_b 56 (fun x y => x + y)),
  (56, s_ia 57 layM 0),
  (57, s_is 59 7),
  (59, s_il 61 4),
  (61, s_il 63 7),
  (63, s_il 64 2),
  (64, s_clt 67 77),
  (67, s_il 69 7),
  (69, s_il 70 3),
  (70, s_cgt 73 77),
  (73, s_ic 74 1),
  (74, s_go 78),
  (77, s_ic 78 0),
  (78, s_b 79 (fun x y => x + y)),
  (79, s_is 81 4),
  (81, s_in 84 6 1),
  (84, s_go 25),
  (87, s_in 90 5 1),
  (90, s_go 10),
  (93, s_il 95 4),
  (95, s_ir)]
def cs_X7_minutesAt : Cs := [(10, [0, 1, 2, 3, 4, 5]), (25, [0, 1, 2, 3, 4, 5, 6]), (44, [0, 1, 2, 3, 4, 5, 6])]
noncomputable def f_X7_minutesAt : List Vv → Mm → Option Ou := lock (sem t_X7_minutesAt cs_X7_minutesAt 8)
set_option maxRecDepth 20000 in
theorem ok_X7_minutesAt (l : Launch) : Ok l RX7 cX7_minutesAt 8 6 (some .int) layM t_X7_minutesAt :=
  Ok.cons (so_aload_n dX7_minutesAt_0 rfl rfl) <|
  Ok.cons (so_vv0 (ct_X7_runs l) wq_1577 wq_1574 wq_1576 wq_76 wq_95 (by decide +kernel) (by decide) rfl rfl dX7_minutesAt_1 rfl) <|
  Ok.cons (so_iconst dX7_minutesAt_4 (by decide) rfl) <|
  Ok.cons (so_istore dX7_minutesAt_5 (by decide) rfl) <|
  Ok.cons (so_iconst dX7_minutesAt_7 (by decide) rfl) <|
  Ok.cons (so_istore dX7_minutesAt_8 (by decide) rfl) <|
  Ok.cons (so_iload dX7_minutesAt_10 rfl) <|
  Ok.cons (so_aload_n dX7_minutesAt_12 rfl rfl) <|
  Ok.cons (so_gf (C := RX7) (T := TX7) (N := 42) inGX7 rfl (by decide) wq_1177 rfl dX7_minutesAt_13 rfl) <|
  Ok.cons (so_bipush dX7_minutesAt_16 (by decide) rfl) <|
  Ok.cons (so_ia0 dX7_minutesAt_18 rfl) <|
  Ok.cons (so_cge dX7_minutesAt_19 (by decide) rfl) <|
  Ok.cons (so_iconst dX7_minutesAt_22 (by decide) rfl) <|
  Ok.cons (so_istore dX7_minutesAt_23 (by decide) rfl) <|
  Ok.cons (so_iload dX7_minutesAt_25 rfl) <|
  Ok.cons (so_sipush dX7_minutesAt_27 (by decide) rfl) <|
  Ok.cons (so_cge dX7_minutesAt_30 (by decide) rfl) <|
  Ok.cons (so_iload_n dX7_minutesAt_33 rfl rfl) <|
  Ok.cons (so_iconst dX7_minutesAt_34 (by decide) rfl) <|
  Ok.cons (so_ceq dX7_minutesAt_35 (by decide) rfl) <|
  Ok.cons (so_iload_n dX7_minutesAt_38 rfl rfl) <|
  Ok.cons (so_iload dX7_minutesAt_39 rfl) <|
  Ok.cons (so_cne dX7_minutesAt_41 (by decide) rfl) <|
  Ok.cons (so_aload_n dX7_minutesAt_44 rfl rfl) <|
  Ok.cons (so_gf (C := RX7) (T := TX7) (N := 42) inGX7 rfl (by decide) wq_1206 rfl dX7_minutesAt_45 rfl) <|
  Ok.cons (so_bipush dX7_minutesAt_48 (by decide) rfl) <|
  Ok.cons (so_iload dX7_minutesAt_50 rfl) <|
  Ok.cons (so_imul dX7_minutesAt_52 rfl) <|
  Ok.cons (so_iload dX7_minutesAt_53 rfl) <|
  Ok.cons (so_iadd dX7_minutesAt_55 rfl) <|
  Ok.cons (so_ia0 dX7_minutesAt_56 rfl) <|
  Ok.cons (so_istore dX7_minutesAt_57 (by decide) rfl) <|
  Ok.cons (so_iload dX7_minutesAt_59 rfl) <|
  Ok.cons (so_iload dX7_minutesAt_61 rfl) <|
  Ok.cons (so_iload_n dX7_minutesAt_63 rfl rfl) <|
  Ok.cons (so_clt dX7_minutesAt_64 (by decide) rfl) <|
  Ok.cons (so_iload dX7_minutesAt_67 rfl) <|
  Ok.cons (so_iload_n dX7_minutesAt_69 rfl rfl) <|
  Ok.cons (so_cgt dX7_minutesAt_70 (by decide) rfl) <|
  Ok.cons (so_iconst dX7_minutesAt_73 (by decide) rfl) <|
  Ok.cons (so_goto dX7_minutesAt_74 (by decide)) <|
  Ok.cons (so_iconst dX7_minutesAt_77 (by decide) rfl) <|
  Ok.cons (so_iadd dX7_minutesAt_78 rfl) <|
  Ok.cons (so_istore dX7_minutesAt_79 (by decide) rfl) <|
  Ok.cons (so_iinc dX7_minutesAt_81 (by decide) (by decide) rfl) <|
  Ok.cons (so_goto dX7_minutesAt_84 (by decide)) <|
  Ok.cons (so_iinc dX7_minutesAt_87 (by decide) (by decide) rfl) <|
  Ok.cons (so_goto dX7_minutesAt_90 (by decide)) <|
  Ok.cons (so_iload dX7_minutesAt_93 rfl) <|
  Ok.cons (so_ir rfl dX7_minutesAt_95) <| Ok.nil
theorem ct_X7_minutesAt (l : Launch) : Ct l yX7_minutesAt cX7_minutesAt 8 (some .int) 6 layM f_X7_minutesAt := ofRunL (by decide) rfl (ok_X7_minutesAt l)
noncomputable def t_X7_fireMinutes : Tbl := [(0, s_al 1 0),
  (1, s_al 2 0),
  (2, s_il 3 1),
  (3, s_ci0 true 6 2 f_X7_isIron),
  (6, s_ci0 true 9 2 f_X7_checks),
  (9, s_zeq 12 23),
  (12, s_al 13 0),
  (13, s_il 14 1),
  (14, s_ic 15 1),
  (15, s_ic 17 9),
  (17, s_ci0 true 20 4 f_X7_minutesAt),
  (20, s_go 24),
  (23, s_ic 24 0),
  (24, s_ir)]
def cs_X7_fireMinutes : Cs := []
noncomputable def f_X7_fireMinutes : List Vv → Mm → Option Ou := lock (sem t_X7_fireMinutes cs_X7_fireMinutes 2)
set_option maxRecDepth 20000 in
theorem ok_X7_fireMinutes (l : Launch) : Ok l RX7 cX7_fireMinutes 2 7 (some .int) layM t_X7_fireMinutes :=
  Ok.cons (so_aload_n dX7_fireMinutes_0 rfl rfl) <|
  Ok.cons (so_aload_n dX7_fireMinutes_1 rfl rfl) <|
  Ok.cons (so_iload_n dX7_fireMinutes_2 rfl rfl) <|
  Ok.cons (so_vi0 (ct_X7_isIron l) wq_1456 wq_1453 wq_1455 wq_58 wq_95 (by decide +kernel) (by decide) rfl rfl dX7_fireMinutes_3 rfl) <|
  Ok.cons (so_vi0 (ct_X7_checks l) wq_1460 wq_1457 wq_1459 wq_59 wq_95 (by decide +kernel) (by decide) rfl rfl dX7_fireMinutes_6 rfl) <|
  Ok.cons (so_zeq dX7_fireMinutes_9 (by decide) rfl) <|
  Ok.cons (so_aload_n dX7_fireMinutes_12 rfl rfl) <|
  Ok.cons (so_iload_n dX7_fireMinutes_13 rfl rfl) <|
  Ok.cons (so_iconst dX7_fireMinutes_14 (by decide) rfl) <|
  Ok.cons (so_bipush dX7_fireMinutes_15 (by decide) rfl) <|
  Ok.cons (so_vi0 (ct_X7_minutesAt l) wq_1605 wq_1602 wq_1604 wq_77 wq_95 (by decide +kernel) (by decide) rfl rfl dX7_fireMinutes_17 rfl) <|
  Ok.cons (so_goto dX7_fireMinutes_20 (by decide)) <|
  Ok.cons (so_iconst dX7_fireMinutes_23 (by decide) rfl) <|
  Ok.cons (so_ir rfl dX7_fireMinutes_24) <| Ok.nil
theorem ct_X7_fireMinutes (l : Launch) : Ct l yX7_fireMinutes cX7_fireMinutes 2 (some .int) 7 layM f_X7_fireMinutes := ofRunL (by decide) rfl (ok_X7_fireMinutes l)
noncomputable def t_X7_anvilMinutes : Tbl := [(0, s_al 1 0),
  (1, s_il 2 1),
  (2, s_zlt 5 20),
  (5, s_il 6 1),
  (6, s_al 7 0),
  (7, s_gf 10 layM 7 5),
  (10, s_ic 12 78),
  (12, s_ia 13 layM 0),
  (13, s_cge 16 20),
  (16, s_ic 17 1),
  (17, s_go 21),
  (20, s_ic 21 0),
  (21, s_ci0 true 24 2 f_X7_checks),
  (24, s_zeq 27 43),
  (27, s_al 28 0),
  (28, s_ic 29 (-1)),
  (29, s_ic 31 10),
  (31, s_il 32 1),
  (32, s_b 33 (fun x y => x + y)),
  (33, s_ic 35 10),
  (35, s_il 36 1),
  (36, s_b 37 (fun x y => x + y)),
  (37, s_ci0 true 40 4 f_X7_minutesAt),
  (40, s_go 44),
  (43, s_ic 44 0),
  (44, s_ir)]
def cs_X7_anvilMinutes : Cs := [(21, [0, 1])]
noncomputable def f_X7_anvilMinutes : List Vv → Mm → Option Ou := lock (sem t_X7_anvilMinutes cs_X7_anvilMinutes 2)
set_option maxRecDepth 20000 in
theorem ok_X7_anvilMinutes (l : Launch) : Ok l RX7 cX7_anvilMinutes 2 7 (some .int) layM t_X7_anvilMinutes :=
  Ok.cons (so_aload_n dX7_anvilMinutes_0 rfl rfl) <|
  Ok.cons (so_iload_n dX7_anvilMinutes_1 rfl rfl) <|
  Ok.cons (so_zlt dX7_anvilMinutes_2 (by decide) rfl) <|
  Ok.cons (so_iload_n dX7_anvilMinutes_5 rfl rfl) <|
  Ok.cons (so_aload_n dX7_anvilMinutes_6 rfl rfl) <|
  Ok.cons (so_gf (C := RX7) (T := TX7) (N := 42) inGX7 rfl (by decide) wq_1179 rfl dX7_anvilMinutes_7 rfl) <|
  Ok.cons (so_bipush dX7_anvilMinutes_10 (by decide) rfl) <|
  Ok.cons (so_ia0 dX7_anvilMinutes_12 rfl) <|
  Ok.cons (so_cge dX7_anvilMinutes_13 (by decide) rfl) <|
  Ok.cons (so_iconst dX7_anvilMinutes_16 (by decide) rfl) <|
  Ok.cons (so_goto dX7_anvilMinutes_17 (by decide)) <|
  Ok.cons (so_iconst dX7_anvilMinutes_20 (by decide) rfl) <|
  Ok.cons (so_vi0 (ct_X7_checks l) wq_1460 wq_1457 wq_1459 wq_59 wq_95 (by decide +kernel) (by decide) rfl rfl dX7_anvilMinutes_21 rfl) <|
  Ok.cons (so_zeq dX7_anvilMinutes_24 (by decide) rfl) <|
  Ok.cons (so_aload_n dX7_anvilMinutes_27 rfl rfl) <|
  Ok.cons (so_iconst dX7_anvilMinutes_28 (by decide) rfl) <|
  Ok.cons (so_bipush dX7_anvilMinutes_29 (by decide) rfl) <|
  Ok.cons (so_iload_n dX7_anvilMinutes_31 rfl rfl) <|
  Ok.cons (so_iadd dX7_anvilMinutes_32 rfl) <|
  Ok.cons (so_bipush dX7_anvilMinutes_33 (by decide) rfl) <|
  Ok.cons (so_iload_n dX7_anvilMinutes_35 rfl rfl) <|
  Ok.cons (so_iadd dX7_anvilMinutes_36 rfl) <|
  Ok.cons (so_vi0 (ct_X7_minutesAt l) wq_1605 wq_1602 wq_1604 wq_77 wq_95 (by decide +kernel) (by decide) rfl rfl dX7_anvilMinutes_37 rfl) <|
  Ok.cons (so_goto dX7_anvilMinutes_40 (by decide)) <|
  Ok.cons (so_iconst dX7_anvilMinutes_43 (by decide) rfl) <|
  Ok.cons (so_ir rfl dX7_anvilMinutes_44) <| Ok.nil
theorem ct_X7_anvilMinutes (l : Launch) : Ct l yX7_anvilMinutes cX7_anvilMinutes 2 (some .int) 7 layM f_X7_anvilMinutes := ofRunL (by decide) rfl (ok_X7_anvilMinutes l)
noncomputable def t_X7_placeMinutes : Tbl := [(0, s_al 1 0),
  (1, s_al 2 0),
  (2, s_il 3 1),
  (3, s_ci0 true 6 2 f_X7_isPlace),
  (6, s_ci0 true 9 2 f_X7_checks),
  (9, s_zeq 12 26),
  (12, s_al 13 0),
  (13, s_ic 14 (-1)),
  (14, s_ic 15 1),
  (15, s_il 16 1),
  (16, s_b 17 (fun x y => x + y)),
  (17, s_ic 18 1),
  (18, s_il 19 1),
  (19, s_b 20 (fun x y => x + y)),
  (20, s_ci0 true 23 4 f_X7_minutesAt),
  (23, s_go 27),
  (26, s_ic 27 0),
  (27, s_ir)]
def cs_X7_placeMinutes : Cs := []
noncomputable def f_X7_placeMinutes : List Vv → Mm → Option Ou := lock (sem t_X7_placeMinutes cs_X7_placeMinutes 2)
set_option maxRecDepth 20000 in
theorem ok_X7_placeMinutes (l : Launch) : Ok l RX7 cX7_placeMinutes 2 7 (some .int) layM t_X7_placeMinutes :=
  Ok.cons (so_aload_n dX7_placeMinutes_0 rfl rfl) <|
  Ok.cons (so_aload_n dX7_placeMinutes_1 rfl rfl) <|
  Ok.cons (so_iload_n dX7_placeMinutes_2 rfl rfl) <|
  Ok.cons (so_vi0 (ct_X7_isPlace l) wq_1488 wq_1485 wq_1487 wq_61 wq_95 (by decide +kernel) (by decide) rfl rfl dX7_placeMinutes_3 rfl) <|
  Ok.cons (so_vi0 (ct_X7_checks l) wq_1460 wq_1457 wq_1459 wq_59 wq_95 (by decide +kernel) (by decide) rfl rfl dX7_placeMinutes_6 rfl) <|
  Ok.cons (so_zeq dX7_placeMinutes_9 (by decide) rfl) <|
  Ok.cons (so_aload_n dX7_placeMinutes_12 rfl rfl) <|
  Ok.cons (so_iconst dX7_placeMinutes_13 (by decide) rfl) <|
  Ok.cons (so_iconst dX7_placeMinutes_14 (by decide) rfl) <|
  Ok.cons (so_iload_n dX7_placeMinutes_15 rfl rfl) <|
  Ok.cons (so_iadd dX7_placeMinutes_16 rfl) <|
  Ok.cons (so_iconst dX7_placeMinutes_17 (by decide) rfl) <|
  Ok.cons (so_iload_n dX7_placeMinutes_18 rfl rfl) <|
  Ok.cons (so_iadd dX7_placeMinutes_19 rfl) <|
  Ok.cons (so_vi0 (ct_X7_minutesAt l) wq_1605 wq_1602 wq_1604 wq_77 wq_95 (by decide +kernel) (by decide) rfl rfl dX7_placeMinutes_20 rfl) <|
  Ok.cons (so_goto dX7_placeMinutes_23 (by decide)) <|
  Ok.cons (so_iconst dX7_placeMinutes_26 (by decide) rfl) <|
  Ok.cons (so_ir rfl dX7_placeMinutes_27) <| Ok.nil
theorem ct_X7_placeMinutes (l : Launch) : Ct l yX7_placeMinutes cX7_placeMinutes 2 (some .int) 7 layM f_X7_placeMinutes := ofRunL (by decide) rfl (ok_X7_placeMinutes l)
noncomputable def t_X7_isOpen : Tbl := [(0, s_al 1 0),
  (1, s_gf 4 layM 7 34),
  (4, s_il 5 1),
  (5, s_ia 6 layM 0),
  (6, s_ic 7 (-1)),
  (7, s_ceq 10 20),
  (10, s_al 11 0),
  (11, s_gf 14 layM 7 34),
  (14, s_il 15 1),
  (15, s_ia 16 layM 0),
  (16, s_il 17 2),
  (17, s_cle 20 24),
  (20, s_ic 21 1),
  (21, s_go 25),
  (24, s_ic 25 0),
  (25, s_zr)]
def cs_X7_isOpen : Cs := []
noncomputable def f_X7_isOpen : List Vv → Mm → Option Ou := lock (sem t_X7_isOpen cs_X7_isOpen 3)
set_option maxRecDepth 20000 in
theorem ok_X7_isOpen (l : Launch) : Ok l RX7 cX7_isOpen 3 1 (some .boolean) layM t_X7_isOpen :=
  Ok.cons (so_aload_n dX7_isOpen_0 rfl rfl) <|
  Ok.cons (so_gf (C := RX7) (T := TX7) (N := 42) inGX7 rfl (by decide) wq_1208 rfl dX7_isOpen_1 rfl) <|
  Ok.cons (so_iload_n dX7_isOpen_4 rfl rfl) <|
  Ok.cons (so_ia0 dX7_isOpen_5 rfl) <|
  Ok.cons (so_iconst dX7_isOpen_6 (by decide) rfl) <|
  Ok.cons (so_ceq dX7_isOpen_7 (by decide) rfl) <|
  Ok.cons (so_aload_n dX7_isOpen_10 rfl rfl) <|
  Ok.cons (so_gf (C := RX7) (T := TX7) (N := 42) inGX7 rfl (by decide) wq_1208 rfl dX7_isOpen_11 rfl) <|
  Ok.cons (so_iload_n dX7_isOpen_14 rfl rfl) <|
  Ok.cons (so_ia0 dX7_isOpen_15 rfl) <|
  Ok.cons (so_iload_n dX7_isOpen_16 rfl rfl) <|
  Ok.cons (so_cle dX7_isOpen_17 (by decide) rfl) <|
  Ok.cons (so_iconst dX7_isOpen_20 (by decide) rfl) <|
  Ok.cons (so_goto dX7_isOpen_21 (by decide)) <|
  Ok.cons (so_iconst dX7_isOpen_24 (by decide) rfl) <|
  Ok.cons (so_zr rfl dX7_isOpen_25) <| Ok.nil
theorem ct_X7_isOpen (l : Launch) : Ct l yX7_isOpen cX7_isOpen 3 (some .boolean) 1 layM f_X7_isOpen := ofRunL (by decide) rfl (ok_X7_isOpen l)
noncomputable def t_X7_rackMinutes : Tbl := [(0, s_al 1 0),
  (1, s_al 2 0),
  (2, s_il 3 1),
  (3, s_ci0 true 6 2 f_X7_isIron),
  (6, s_ci0 true 9 2 f_X7_checks),
  (9, s_zne 12 14),
  (12, s_ic 13 0),
  (13, s_ir),
  (14, s_al 15 0),
  (15, s_cv0 true 18 1 f_X7_runs),
  (18, s_ic 19 0),
  (19, s_is 20 2),
  (20, s_ic 21 0),
  (21, s_is 22 3),
  (22, s_il 23 3),
  (23, s_ic 26 480),
  (26, s_cge 29 66),
  (29, s_il 30 2),
  (30, s_al 31 0),
  (31, s_gf 34 layM 7 32),
  (34, s_ic 36 6),
  (36, s_il 37 3),
  (37, s_b 38 (fun x y => x * y)),
  (38, s_il 39 1),
  (39, s_b 40 (fun x y => x + y)),
  (40, s_ia 41 layM 0),
  (41, s_zne 44 57),
  (44, s_al 45 0),
  (45, s_il 46 1),
  (46, s_il 47 3),
  (47, s_ci0 true 50 3 f_X7_isOpen),
  (50, s_zeq 53 57),
  (53, s_ic 54 1),
  (54, s_go 58),
  (57, s_ic 58 0),
  (58, s_b 59 (fun x y => x + y)),
  (59, s_is 60 2),
  (60, s_in 63 3 1),
  (63, s_go 22),
  (66, s_il 67 2),
  (67, s_ir)]
def cs_X7_rackMinutes : Cs := [(22, [0, 1, 2, 3])]
noncomputable def f_X7_rackMinutes : List Vv → Mm → Option Ou := lock (sem t_X7_rackMinutes cs_X7_rackMinutes 4)
set_option maxRecDepth 20000 in
theorem ok_X7_rackMinutes (l : Launch) : Ok l RX7 cX7_rackMinutes 4 6 (some .int) layM t_X7_rackMinutes :=
  Ok.cons (so_aload_n dX7_rackMinutes_0 rfl rfl) <|
  Ok.cons (so_aload_n dX7_rackMinutes_1 rfl rfl) <|
  Ok.cons (so_iload_n dX7_rackMinutes_2 rfl rfl) <|
  Ok.cons (so_vi0 (ct_X7_isIron l) wq_1456 wq_1453 wq_1455 wq_58 wq_95 (by decide +kernel) (by decide) rfl rfl dX7_rackMinutes_3 rfl) <|
  Ok.cons (so_vi0 (ct_X7_checks l) wq_1460 wq_1457 wq_1459 wq_59 wq_95 (by decide +kernel) (by decide) rfl rfl dX7_rackMinutes_6 rfl) <|
  Ok.cons (so_zne dX7_rackMinutes_9 (by decide) rfl) <|
  Ok.cons (so_iconst dX7_rackMinutes_12 (by decide) rfl) <|
  Ok.cons (so_ir rfl dX7_rackMinutes_13) <|
  Ok.cons (so_aload_n dX7_rackMinutes_14 rfl rfl) <|
  Ok.cons (so_vv0 (ct_X7_runs l) wq_1577 wq_1574 wq_1576 wq_76 wq_95 (by decide +kernel) (by decide) rfl rfl dX7_rackMinutes_15 rfl) <|
  Ok.cons (so_iconst dX7_rackMinutes_18 (by decide) rfl) <|
  Ok.cons (so_istore_n dX7_rackMinutes_19 rfl (by decide) rfl) <|
  Ok.cons (so_iconst dX7_rackMinutes_20 (by decide) rfl) <|
  Ok.cons (so_istore_n dX7_rackMinutes_21 rfl (by decide) rfl) <|
  Ok.cons (so_iload_n dX7_rackMinutes_22 rfl rfl) <|
  Ok.cons (so_sipush dX7_rackMinutes_23 (by decide) rfl) <|
  Ok.cons (so_cge dX7_rackMinutes_26 (by decide) rfl) <|
  Ok.cons (so_iload_n dX7_rackMinutes_29 rfl rfl) <|
  Ok.cons (so_aload_n dX7_rackMinutes_30 rfl rfl) <|
  Ok.cons (so_gf (C := RX7) (T := TX7) (N := 42) inGX7 rfl (by decide) wq_1206 rfl dX7_rackMinutes_31 rfl) <|
  Ok.cons (so_bipush dX7_rackMinutes_34 (by decide) rfl) <|
  Ok.cons (so_iload_n dX7_rackMinutes_36 rfl rfl) <|
  Ok.cons (so_imul dX7_rackMinutes_37 rfl) <|
  Ok.cons (so_iload_n dX7_rackMinutes_38 rfl rfl) <|
  Ok.cons (so_iadd dX7_rackMinutes_39 rfl) <|
  Ok.cons (so_ia0 dX7_rackMinutes_40 rfl) <|
  Ok.cons (so_zne dX7_rackMinutes_41 (by decide) rfl) <|
  Ok.cons (so_aload_n dX7_rackMinutes_44 rfl rfl) <|
  Ok.cons (so_iload_n dX7_rackMinutes_45 rfl rfl) <|
  Ok.cons (so_iload_n dX7_rackMinutes_46 rfl rfl) <|
  Ok.cons (so_vi0 (ct_X7_isOpen l) wq_1621 wq_1618 wq_1620 wq_78 wq_95 (by decide +kernel) (by decide) rfl rfl dX7_rackMinutes_47 rfl) <|
  Ok.cons (so_zeq dX7_rackMinutes_50 (by decide) rfl) <|
  Ok.cons (so_iconst dX7_rackMinutes_53 (by decide) rfl) <|
  Ok.cons (so_goto dX7_rackMinutes_54 (by decide)) <|
  Ok.cons (so_iconst dX7_rackMinutes_57 (by decide) rfl) <|
  Ok.cons (so_iadd dX7_rackMinutes_58 rfl) <|
  Ok.cons (so_istore_n dX7_rackMinutes_59 rfl (by decide) rfl) <|
  Ok.cons (so_iinc dX7_rackMinutes_60 (by decide) (by decide) rfl) <|
  Ok.cons (so_goto dX7_rackMinutes_63 (by decide)) <|
  Ok.cons (so_iload_n dX7_rackMinutes_66 rfl rfl) <|
  Ok.cons (so_ir rfl dX7_rackMinutes_67) <| Ok.nil
theorem ct_X7_rackMinutes (l : Launch) : Ct l yX7_rackMinutes cX7_rackMinutes 4 (some .int) 6 layM f_X7_rackMinutes := ofRunL (by decide) rfl (ok_X7_rackMinutes l)
noncomputable def t_X7_firstWork : Tbl := [(0, s_al 1 0),
  (1, s_al 2 0),
  (2, s_il 3 1),
  (3, s_ci0 true 6 2 f_X7_isIron),
  (6, s_ci0 true 9 2 f_X7_checks),
  (9, s_zne 12 14),
  (12, s_ic 13 0),
  (13, s_ir),
  (14, s_al 15 0),
  (15, s_cv0 true 18 1 f_X7_runs),
  (18, s_ic 19 0),
  (19, s_is 20 2),
  (20, s_il 21 2),
  (21, s_ic 24 480),
  (24, s_cge 27 51),
  (27, s_al 28 0),
  (28, s_gf 31 layM 7 32),
  (31, s_ic 33 6),
  (33, s_il 34 2),
  (34, s_b 35 (fun x y => x * y)),
  (35, s_il 36 1),
  (36, s_b 37 (fun x y => x + y)),
  (37, s_ia 38 layM 0),
  (38, s_ic 40 10),
  (40, s_clt 43 45),
  (43, s_il 44 2),
  (44, s_ir),
  (45, s_in 48 2 1),
  (48, s_go 20),
  (51, s_ic 52 (-1)),
  (52, s_ir)]
def cs_X7_firstWork : Cs := [(20, [0, 1, 2])]
noncomputable def f_X7_firstWork : List Vv → Mm → Option Ou := lock (sem t_X7_firstWork cs_X7_firstWork 3)
set_option maxRecDepth 20000 in
theorem ok_X7_firstWork (l : Launch) : Ok l RX7 cX7_firstWork 3 6 (some .int) layM t_X7_firstWork :=
  Ok.cons (so_aload_n dX7_firstWork_0 rfl rfl) <|
  Ok.cons (so_aload_n dX7_firstWork_1 rfl rfl) <|
  Ok.cons (so_iload_n dX7_firstWork_2 rfl rfl) <|
  Ok.cons (so_vi0 (ct_X7_isIron l) wq_1456 wq_1453 wq_1455 wq_58 wq_95 (by decide +kernel) (by decide) rfl rfl dX7_firstWork_3 rfl) <|
  Ok.cons (so_vi0 (ct_X7_checks l) wq_1460 wq_1457 wq_1459 wq_59 wq_95 (by decide +kernel) (by decide) rfl rfl dX7_firstWork_6 rfl) <|
  Ok.cons (so_zne dX7_firstWork_9 (by decide) rfl) <|
  Ok.cons (so_iconst dX7_firstWork_12 (by decide) rfl) <|
  Ok.cons (so_ir rfl dX7_firstWork_13) <|
  Ok.cons (so_aload_n dX7_firstWork_14 rfl rfl) <|
  Ok.cons (so_vv0 (ct_X7_runs l) wq_1577 wq_1574 wq_1576 wq_76 wq_95 (by decide +kernel) (by decide) rfl rfl dX7_firstWork_15 rfl) <|
  Ok.cons (so_iconst dX7_firstWork_18 (by decide) rfl) <|
  Ok.cons (so_istore_n dX7_firstWork_19 rfl (by decide) rfl) <|
  Ok.cons (so_iload_n dX7_firstWork_20 rfl rfl) <|
  Ok.cons (so_sipush dX7_firstWork_21 (by decide) rfl) <|
  Ok.cons (so_cge dX7_firstWork_24 (by decide) rfl) <|
  Ok.cons (so_aload_n dX7_firstWork_27 rfl rfl) <|
  Ok.cons (so_gf (C := RX7) (T := TX7) (N := 42) inGX7 rfl (by decide) wq_1206 rfl dX7_firstWork_28 rfl) <|
  Ok.cons (so_bipush dX7_firstWork_31 (by decide) rfl) <|
  Ok.cons (so_iload_n dX7_firstWork_33 rfl rfl) <|
  Ok.cons (so_imul dX7_firstWork_34 rfl) <|
  Ok.cons (so_iload_n dX7_firstWork_35 rfl rfl) <|
  Ok.cons (so_iadd dX7_firstWork_36 rfl) <|
  Ok.cons (so_ia0 dX7_firstWork_37 rfl) <|
  Ok.cons (so_bipush dX7_firstWork_38 (by decide) rfl) <|
  Ok.cons (so_clt dX7_firstWork_40 (by decide) rfl) <|
  Ok.cons (so_iload_n dX7_firstWork_43 rfl rfl) <|
  Ok.cons (so_ir rfl dX7_firstWork_44) <|
  Ok.cons (so_iinc dX7_firstWork_45 (by decide) (by decide) rfl) <|
  Ok.cons (so_goto dX7_firstWork_48 (by decide)) <|
  Ok.cons (so_iconst dX7_firstWork_51 (by decide) rfl) <|
  Ok.cons (so_ir rfl dX7_firstWork_52) <| Ok.nil
theorem ct_X7_firstWork (l : Launch) : Ct l yX7_firstWork cX7_firstWork 3 (some .int) 6 layM f_X7_firstWork := ofRunL (by decide) rfl (ok_X7_firstWork l)
noncomputable def t_X7_ironIn : Tbl := [(0, s_il 1 2),
  (1, s_zlt 4 11),
  (4, s_il 5 2),
  (5, s_ic 8 480),
  (8, s_clt 11 14),
  (11, s_ic 13 (-2)),
  (13, s_ir),
  (14, s_al 15 0),
  (15, s_cv0 true 18 1 f_X7_runs),
  (18, s_ic 19 0),
  (19, s_is 20 3),
  (20, s_il 21 3),
  (21, s_al 22 0),
  (22, s_gf 25 layM 7 3),
  (25, s_ic 27 18),
  (27, s_ia 28 layM 0),
  (28, s_cge 31 54),
  (31, s_al 32 0),
  (32, s_gf 35 layM 7 32),
  (35, s_ic 37 6),
  (37, s_il 38 2),
  (38, s_b 39 (fun x y => x * y)),
  (39, s_il 40 3),
  (40, s_b 41 (fun x y => x + y)),
  (41, s_ia 42 layM 0),
  (42, s_il 43 1),
  (43, s_cne 46 48),
  (46, s_il 47 3),
  (47, s_ir),
  (48, s_in 51 3 1),
  (51, s_go 20),
  (54, s_ic 55 (-1)),
  (55, s_ir)]
def cs_X7_ironIn : Cs := [(20, [0, 1, 2, 3])]
noncomputable def f_X7_ironIn : List Vv → Mm → Option Ou := lock (sem t_X7_ironIn cs_X7_ironIn 4)
set_option maxRecDepth 20000 in
theorem ok_X7_ironIn (l : Launch) : Ok l RX7 cX7_ironIn 4 6 (some .int) layM t_X7_ironIn :=
  Ok.cons (so_iload_n dX7_ironIn_0 rfl rfl) <|
  Ok.cons (so_zlt dX7_ironIn_1 (by decide) rfl) <|
  Ok.cons (so_iload_n dX7_ironIn_4 rfl rfl) <|
  Ok.cons (so_sipush dX7_ironIn_5 (by decide) rfl) <|
  Ok.cons (so_clt dX7_ironIn_8 (by decide) rfl) <|
  Ok.cons (so_bipush dX7_ironIn_11 (by decide) rfl) <|
  Ok.cons (so_ir rfl dX7_ironIn_13) <|
  Ok.cons (so_aload_n dX7_ironIn_14 rfl rfl) <|
  Ok.cons (so_vv0 (ct_X7_runs l) wq_1577 wq_1574 wq_1576 wq_76 wq_95 (by decide +kernel) (by decide) rfl rfl dX7_ironIn_15 rfl) <|
  Ok.cons (so_iconst dX7_ironIn_18 (by decide) rfl) <|
  Ok.cons (so_istore_n dX7_ironIn_19 rfl (by decide) rfl) <|
  Ok.cons (so_iload_n dX7_ironIn_20 rfl rfl) <|
  Ok.cons (so_aload_n dX7_ironIn_21 rfl rfl) <|
  Ok.cons (so_gf (C := RX7) (T := TX7) (N := 42) inGX7 rfl (by decide) wq_1177 rfl dX7_ironIn_22 rfl) <|
  Ok.cons (so_bipush dX7_ironIn_25 (by decide) rfl) <|
  Ok.cons (so_ia0 dX7_ironIn_27 rfl) <|
  Ok.cons (so_cge dX7_ironIn_28 (by decide) rfl) <|
  Ok.cons (so_aload_n dX7_ironIn_31 rfl rfl) <|
  Ok.cons (so_gf (C := RX7) (T := TX7) (N := 42) inGX7 rfl (by decide) wq_1206 rfl dX7_ironIn_32 rfl) <|
  Ok.cons (so_bipush dX7_ironIn_35 (by decide) rfl) <|
  Ok.cons (so_iload_n dX7_ironIn_37 rfl rfl) <|
  Ok.cons (so_imul dX7_ironIn_38 rfl) <|
  Ok.cons (so_iload_n dX7_ironIn_39 rfl rfl) <|
  Ok.cons (so_iadd dX7_ironIn_40 rfl) <|
  Ok.cons (so_ia0 dX7_ironIn_41 rfl) <|
  Ok.cons (so_iload_n dX7_ironIn_42 rfl rfl) <|
  Ok.cons (so_cne dX7_ironIn_43 (by decide) rfl) <|
  Ok.cons (so_iload_n dX7_ironIn_46 rfl rfl) <|
  Ok.cons (so_ir rfl dX7_ironIn_47) <|
  Ok.cons (so_iinc dX7_ironIn_48 (by decide) (by decide) rfl) <|
  Ok.cons (so_goto dX7_ironIn_51 (by decide)) <|
  Ok.cons (so_iconst dX7_ironIn_54 (by decide) rfl) <|
  Ok.cons (so_ir rfl dX7_ironIn_55) <| Ok.nil
theorem ct_X7_ironIn (l : Launch) : Ct l yX7_ironIn cX7_ironIn 4 (some .int) 6 layM f_X7_ironIn := ofRunL (by decide) rfl (ok_X7_ironIn l)
noncomputable def t_X7_ironInPlace : Tbl := [(0, s_al 1 0),
  (1, s_al 2 0),
  (2, s_il 3 1),
  (3, s_ci0 true 6 2 f_X7_isPlace),
  (6, s_ci0 true 9 2 f_X7_checks),
  (9, s_zeq 12 23),
  (12, s_al 13 0),
  (13, s_ic 14 1),
  (14, s_il 15 1),
  (15, s_b 16 (fun x y => x + y)),
  (16, s_il 17 2),
  (17, s_ci0 true 20 3 f_X7_ironIn),
  (20, s_go 24),
  (23, s_ic 24 0),
  (24, s_ir)]
def cs_X7_ironInPlace : Cs := []
noncomputable def f_X7_ironInPlace : List Vv → Mm → Option Ou := lock (sem t_X7_ironInPlace cs_X7_ironInPlace 3)
set_option maxRecDepth 20000 in
theorem ok_X7_ironInPlace (l : Launch) : Ok l RX7 cX7_ironInPlace 3 7 (some .int) layM t_X7_ironInPlace :=
  Ok.cons (so_aload_n dX7_ironInPlace_0 rfl rfl) <|
  Ok.cons (so_aload_n dX7_ironInPlace_1 rfl rfl) <|
  Ok.cons (so_iload_n dX7_ironInPlace_2 rfl rfl) <|
  Ok.cons (so_vi0 (ct_X7_isPlace l) wq_1488 wq_1485 wq_1487 wq_61 wq_95 (by decide +kernel) (by decide) rfl rfl dX7_ironInPlace_3 rfl) <|
  Ok.cons (so_vi0 (ct_X7_checks l) wq_1460 wq_1457 wq_1459 wq_59 wq_95 (by decide +kernel) (by decide) rfl rfl dX7_ironInPlace_6 rfl) <|
  Ok.cons (so_zeq dX7_ironInPlace_9 (by decide) rfl) <|
  Ok.cons (so_aload_n dX7_ironInPlace_12 rfl rfl) <|
  Ok.cons (so_iconst dX7_ironInPlace_13 (by decide) rfl) <|
  Ok.cons (so_iload_n dX7_ironInPlace_14 rfl rfl) <|
  Ok.cons (so_iadd dX7_ironInPlace_15 rfl) <|
  Ok.cons (so_iload_n dX7_ironInPlace_16 rfl rfl) <|
  Ok.cons (so_vi0 (ct_X7_ironIn l) wq_1633 wq_1630 wq_1632 wq_79 wq_95 (by decide +kernel) (by decide) rfl rfl dX7_ironInPlace_17 rfl) <|
  Ok.cons (so_goto dX7_ironInPlace_20 (by decide)) <|
  Ok.cons (so_iconst dX7_ironInPlace_23 (by decide) rfl) <|
  Ok.cons (so_ir rfl dX7_ironInPlace_24) <| Ok.nil
theorem ct_X7_ironInPlace (l : Launch) : Ct l yX7_ironInPlace cX7_ironInPlace 3 (some .int) 7 layM f_X7_ironInPlace := ofRunL (by decide) rfl (ok_X7_ironInPlace l)
noncomputable def t_X7_ironOnAnvil : Tbl := [(0, s_al 1 0),
  (1, s_il 2 1),
  (2, s_zlt 5 20),
  (5, s_il 6 1),
  (6, s_al 7 0),
  (7, s_gf 10 layM 7 5),
  (10, s_ic 12 78),
  (12, s_ia 13 layM 0),
  (13, s_cge 16 20),
  (16, s_ic 17 1),
  (17, s_go 21),
  (20, s_ic 21 0),
  (21, s_ci0 true 24 2 f_X7_checks),
  (24, s_zeq 27 39),
  (27, s_al 28 0),
  (28, s_ic 30 10),
  (30, s_il 31 1),
  (31, s_b 32 (fun x y => x + y)),
  (32, s_il 33 2),
  (33, s_ci0 true 36 3 f_X7_ironIn),
  (36, s_go 40),
  (39, s_ic 40 0),
  (40, s_ir)]
def cs_X7_ironOnAnvil : Cs := [(21, [0, 1, 2])]
noncomputable def f_X7_ironOnAnvil : List Vv → Mm → Option Ou := lock (sem t_X7_ironOnAnvil cs_X7_ironOnAnvil 3)
set_option maxRecDepth 20000 in
theorem ok_X7_ironOnAnvil (l : Launch) : Ok l RX7 cX7_ironOnAnvil 3 7 (some .int) layM t_X7_ironOnAnvil :=
  Ok.cons (so_aload_n dX7_ironOnAnvil_0 rfl rfl) <|
  Ok.cons (so_iload_n dX7_ironOnAnvil_1 rfl rfl) <|
  Ok.cons (so_zlt dX7_ironOnAnvil_2 (by decide) rfl) <|
  Ok.cons (so_iload_n dX7_ironOnAnvil_5 rfl rfl) <|
  Ok.cons (so_aload_n dX7_ironOnAnvil_6 rfl rfl) <|
  Ok.cons (so_gf (C := RX7) (T := TX7) (N := 42) inGX7 rfl (by decide) wq_1179 rfl dX7_ironOnAnvil_7 rfl) <|
  Ok.cons (so_bipush dX7_ironOnAnvil_10 (by decide) rfl) <|
  Ok.cons (so_ia0 dX7_ironOnAnvil_12 rfl) <|
  Ok.cons (so_cge dX7_ironOnAnvil_13 (by decide) rfl) <|
  Ok.cons (so_iconst dX7_ironOnAnvil_16 (by decide) rfl) <|
  Ok.cons (so_goto dX7_ironOnAnvil_17 (by decide)) <|
  Ok.cons (so_iconst dX7_ironOnAnvil_20 (by decide) rfl) <|
  Ok.cons (so_vi0 (ct_X7_checks l) wq_1460 wq_1457 wq_1459 wq_59 wq_95 (by decide +kernel) (by decide) rfl rfl dX7_ironOnAnvil_21 rfl) <|
  Ok.cons (so_zeq dX7_ironOnAnvil_24 (by decide) rfl) <|
  Ok.cons (so_aload_n dX7_ironOnAnvil_27 rfl rfl) <|
  Ok.cons (so_bipush dX7_ironOnAnvil_28 (by decide) rfl) <|
  Ok.cons (so_iload_n dX7_ironOnAnvil_30 rfl rfl) <|
  Ok.cons (so_iadd dX7_ironOnAnvil_31 rfl) <|
  Ok.cons (so_iload_n dX7_ironOnAnvil_32 rfl rfl) <|
  Ok.cons (so_vi0 (ct_X7_ironIn l) wq_1633 wq_1630 wq_1632 wq_79 wq_95 (by decide +kernel) (by decide) rfl rfl dX7_ironOnAnvil_33 rfl) <|
  Ok.cons (so_goto dX7_ironOnAnvil_36 (by decide)) <|
  Ok.cons (so_iconst dX7_ironOnAnvil_39 (by decide) rfl) <|
  Ok.cons (so_ir rfl dX7_ironOnAnvil_40) <| Ok.nil
theorem ct_X7_ironOnAnvil (l : Launch) : Ct l yX7_ironOnAnvil cX7_ironOnAnvil 3 (some .int) 7 layM f_X7_ironOnAnvil := ofRunL (by decide) rfl (ok_X7_ironOnAnvil l)
noncomputable def t_X7_finishedBy : Tbl := [(0, s_al 1 0),
  (1, s_ic 2 0),
  (2, s_pf 5 layM 7 0),
  (5, s_il 6 1),
  (6, s_zlt 9 16),
  (9, s_il 10 1),
  (10, s_ic 13 480),
  (13, s_cle 16 19),
  (16, s_ic 18 (-2)),
  (18, s_ir),
  (19, s_al 20 0),
  (20, s_cv0 true 23 1 f_X7_runs),
  (23, s_ic 24 0),
  (24, s_is 25 2),
  (25, s_ic 26 0),
  (26, s_is 27 3),
  (27, s_il 28 3),
  (28, s_al 29 0),
  (29, s_gf 32 layM 7 3),
  (32, s_ic 34 18),
  (34, s_ia 35 layM 0),
  (35, s_cge 38 72),
  (38, s_il 39 2),
  (39, s_al 40 0),
  (40, s_gf 43 layM 7 34),
  (43, s_il 44 3),
  (44, s_ia 45 layM 0),
  (45, s_ic 46 (-1)),
  (46, s_ceq 49 63),
  (49, s_al 50 0),
  (50, s_gf 53 layM 7 34),
  (53, s_il 54 3),
  (54, s_ia 55 layM 0),
  (55, s_il 56 1),
  (56, s_cgt 59 63),
  (59, s_ic 60 1),
  (60, s_go 64),
  (63, s_ic 64 0),
  (64, s_b 65 (fun x y => x + y)),
  (65, s_is 66 2),
  (66, s_in 69 3 1),
  (69, s_go 27),
  (72, s_il 73 2),
  (73, s_ir)]
def cs_X7_finishedBy : Cs := [(27, [0, 1, 2, 3])]
noncomputable def f_X7_finishedBy : List Vv → Mm → Option Ou := lock (sem t_X7_finishedBy cs_X7_finishedBy 4)
set_option maxRecDepth 20000 in
theorem ok_X7_finishedBy (l : Launch) : Ok l RX7 cX7_finishedBy 4 6 (some .int) layM t_X7_finishedBy :=
  Ok.cons (so_aload_n dX7_finishedBy_0 rfl rfl) <|
  Ok.cons (so_iconst dX7_finishedBy_1 (by decide) rfl) <|
  Ok.cons (so_pf (C := RX7) (T := TX7) (N := 42) inGX7 tyX7_ok nmX7 rfl (by decide) wq_1174 rfl rfl rfl dX7_finishedBy_2 rfl) <|
  Ok.cons (so_iload_n dX7_finishedBy_5 rfl rfl) <|
  Ok.cons (so_zlt dX7_finishedBy_6 (by decide) rfl) <|
  Ok.cons (so_iload_n dX7_finishedBy_9 rfl rfl) <|
  Ok.cons (so_sipush dX7_finishedBy_10 (by decide) rfl) <|
  Ok.cons (so_cle dX7_finishedBy_13 (by decide) rfl) <|
  Ok.cons (so_bipush dX7_finishedBy_16 (by decide) rfl) <|
  Ok.cons (so_ir rfl dX7_finishedBy_18) <|
  Ok.cons (so_aload_n dX7_finishedBy_19 rfl rfl) <|
  Ok.cons (so_vv0 (ct_X7_runs l) wq_1577 wq_1574 wq_1576 wq_76 wq_95 (by decide +kernel) (by decide) rfl rfl dX7_finishedBy_20 rfl) <|
  Ok.cons (so_iconst dX7_finishedBy_23 (by decide) rfl) <|
  Ok.cons (so_istore_n dX7_finishedBy_24 rfl (by decide) rfl) <|
  Ok.cons (so_iconst dX7_finishedBy_25 (by decide) rfl) <|
  Ok.cons (so_istore_n dX7_finishedBy_26 rfl (by decide) rfl) <|
  Ok.cons (so_iload_n dX7_finishedBy_27 rfl rfl) <|
  Ok.cons (so_aload_n dX7_finishedBy_28 rfl rfl) <|
  Ok.cons (so_gf (C := RX7) (T := TX7) (N := 42) inGX7 rfl (by decide) wq_1177 rfl dX7_finishedBy_29 rfl) <|
  Ok.cons (so_bipush dX7_finishedBy_32 (by decide) rfl) <|
  Ok.cons (so_ia0 dX7_finishedBy_34 rfl) <|
  Ok.cons (so_cge dX7_finishedBy_35 (by decide) rfl) <|
  Ok.cons (so_iload_n dX7_finishedBy_38 rfl rfl) <|
  Ok.cons (so_aload_n dX7_finishedBy_39 rfl rfl) <|
  Ok.cons (so_gf (C := RX7) (T := TX7) (N := 42) inGX7 rfl (by decide) wq_1208 rfl dX7_finishedBy_40 rfl) <|
  Ok.cons (so_iload_n dX7_finishedBy_43 rfl rfl) <|
  Ok.cons (so_ia0 dX7_finishedBy_44 rfl) <|
  Ok.cons (so_iconst dX7_finishedBy_45 (by decide) rfl) <|
  Ok.cons (so_ceq dX7_finishedBy_46 (by decide) rfl) <|
  Ok.cons (so_aload_n dX7_finishedBy_49 rfl rfl) <|
  Ok.cons (so_gf (C := RX7) (T := TX7) (N := 42) inGX7 rfl (by decide) wq_1208 rfl dX7_finishedBy_50 rfl) <|
  Ok.cons (so_iload_n dX7_finishedBy_53 rfl rfl) <|
  Ok.cons (so_ia0 dX7_finishedBy_54 rfl) <|
  Ok.cons (so_iload_n dX7_finishedBy_55 rfl rfl) <|
  Ok.cons (so_cgt dX7_finishedBy_56 (by decide) rfl) <|
  Ok.cons (so_iconst dX7_finishedBy_59 (by decide) rfl) <|
  Ok.cons (so_goto dX7_finishedBy_60 (by decide)) <|
  Ok.cons (so_iconst dX7_finishedBy_63 (by decide) rfl) <|
  Ok.cons (so_iadd dX7_finishedBy_64 rfl) <|
  Ok.cons (so_istore_n dX7_finishedBy_65 rfl (by decide) rfl) <|
  Ok.cons (so_iinc dX7_finishedBy_66 (by decide) (by decide) rfl) <|
  Ok.cons (so_goto dX7_finishedBy_69 (by decide)) <|
  Ok.cons (so_iload_n dX7_finishedBy_72 rfl rfl) <|
  Ok.cons (so_ir rfl dX7_finishedBy_73) <| Ok.nil
theorem ct_X7_finishedBy (l : Launch) : Ct l yX7_finishedBy cX7_finishedBy 4 (some .int) 6 layM f_X7_finishedBy := ofRunL (by decide) rfl (ok_X7_finishedBy l)
noncomputable def t_X7_idleMinutes : Tbl := [(0, s_al 1 0),
  (1, s_ic 2 0),
  (2, s_pf 5 layM 7 0),
  (5, s_al 6 0),
  (6, s_cv0 true 9 1 f_X7_runs),
  (9, s_ic 10 0),
  (10, s_is 11 1),
  (11, s_ic 12 0),
  (12, s_is 13 2),
  (13, s_il 14 2),
  (14, s_ic 17 480),
  (17, s_cge 20 113),
  (20, s_ic 21 0),
  (21, s_is 22 3),
  (22, s_ic 23 0),
  (23, s_is 25 4),
  (25, s_ic 26 0),
  (26, s_is 28 5),
  (28, s_il 30 5),
  (30, s_al 31 0),
  (31, s_gf 34 layM 7 3),
  (34, s_ic 36 18),
  (36, s_ia 37 layM 0),
  (37, s_cge 40 83),
  (40, s_il 41 3),
  (41, s_al 42 0),
  (42, s_gf 45 layM 7 32),
  (45, s_ic 47 6),
  (47, s_il 48 2),
  (48, s_b 49 (fun x y => x * y)),
  (49, s_il 51 5),
  (51, s_b 52 (fun x y => x + y)),
  (52, s_ia 53 layM 0),
  (53, s_ic 55 10),
  (55, s_clt 58 62),
  (58, s_ic 59 1),
  (59, s_go 63),
  (62, s_ic 63 0),
  (63, s_b 64 (fun x y => x + y)),
  (64, s_is 65 3),
  (65, s_il 67 4),
  (67, s_al 68 0),
  (68, s_il 70 5),
  (70, s_il 71 2),
  (71, s_ci0 true 74 3 f_X7_isOpen),
  (74, s_b 75 (fun x y => x ||| y)),
  (75, s_is 77 4),
  (77, s_in 80 5 1),
  (80, s_go 28),
  (83, s_il 84 1),
  (84, s_il 86 4),
  (86, s_zeq 89 104),
  (89, s_il 90 3),
  (90, s_al 91 0),
  (91, s_gf 94 layM 7 5),
  (94, s_ic 96 78),
  (96, s_ia 97 layM 0),
  (97, s_cge 100 104),
  (100, s_ic 101 1),
  (101, s_go 105),
  (104, s_ic 105 0),
  (105, s_b 106 (fun x y => x + y)),
  (106, s_is 107 1),
  (107, s_in 110 2 1),
  (110, s_go 13),
  (113, s_il 114 1),
  (114, s_ir)]
def cs_X7_idleMinutes : Cs := [(13, [0, 1, 2]), (28, [0, 1, 2, 3, 4, 5]), (63, [0, 1, 2, 4, 5])]
noncomputable def f_X7_idleMinutes : List Vv → Mm → Option Ou := lock (sem t_X7_idleMinutes cs_X7_idleMinutes 6)
set_option maxRecDepth 20000 in
theorem ok_X7_idleMinutes (l : Launch) : Ok l RX7 cX7_idleMinutes 6 6 (some .int) layM t_X7_idleMinutes :=
  Ok.cons (so_aload_n dX7_idleMinutes_0 rfl rfl) <|
  Ok.cons (so_iconst dX7_idleMinutes_1 (by decide) rfl) <|
  Ok.cons (so_pf (C := RX7) (T := TX7) (N := 42) inGX7 tyX7_ok nmX7 rfl (by decide) wq_1174 rfl rfl rfl dX7_idleMinutes_2 rfl) <|
  Ok.cons (so_aload_n dX7_idleMinutes_5 rfl rfl) <|
  Ok.cons (so_vv0 (ct_X7_runs l) wq_1577 wq_1574 wq_1576 wq_76 wq_95 (by decide +kernel) (by decide) rfl rfl dX7_idleMinutes_6 rfl) <|
  Ok.cons (so_iconst dX7_idleMinutes_9 (by decide) rfl) <|
  Ok.cons (so_istore_n dX7_idleMinutes_10 rfl (by decide) rfl) <|
  Ok.cons (so_iconst dX7_idleMinutes_11 (by decide) rfl) <|
  Ok.cons (so_istore_n dX7_idleMinutes_12 rfl (by decide) rfl) <|
  Ok.cons (so_iload_n dX7_idleMinutes_13 rfl rfl) <|
  Ok.cons (so_sipush dX7_idleMinutes_14 (by decide) rfl) <|
  Ok.cons (so_cge dX7_idleMinutes_17 (by decide) rfl) <|
  Ok.cons (so_iconst dX7_idleMinutes_20 (by decide) rfl) <|
  Ok.cons (so_istore_n dX7_idleMinutes_21 rfl (by decide) rfl) <|
  Ok.cons (so_iconst dX7_idleMinutes_22 (by decide) rfl) <|
  Ok.cons (so_istore dX7_idleMinutes_23 (by decide) rfl) <|
  Ok.cons (so_iconst dX7_idleMinutes_25 (by decide) rfl) <|
  Ok.cons (so_istore dX7_idleMinutes_26 (by decide) rfl) <|
  Ok.cons (so_iload dX7_idleMinutes_28 rfl) <|
  Ok.cons (so_aload_n dX7_idleMinutes_30 rfl rfl) <|
  Ok.cons (so_gf (C := RX7) (T := TX7) (N := 42) inGX7 rfl (by decide) wq_1177 rfl dX7_idleMinutes_31 rfl) <|
  Ok.cons (so_bipush dX7_idleMinutes_34 (by decide) rfl) <|
  Ok.cons (so_ia0 dX7_idleMinutes_36 rfl) <|
  Ok.cons (so_cge dX7_idleMinutes_37 (by decide) rfl) <|
  Ok.cons (so_iload_n dX7_idleMinutes_40 rfl rfl) <|
  Ok.cons (so_aload_n dX7_idleMinutes_41 rfl rfl) <|
  Ok.cons (so_gf (C := RX7) (T := TX7) (N := 42) inGX7 rfl (by decide) wq_1206 rfl dX7_idleMinutes_42 rfl) <|
  Ok.cons (so_bipush dX7_idleMinutes_45 (by decide) rfl) <|
  Ok.cons (so_iload_n dX7_idleMinutes_47 rfl rfl) <|
  Ok.cons (so_imul dX7_idleMinutes_48 rfl) <|
  Ok.cons (so_iload dX7_idleMinutes_49 rfl) <|
  Ok.cons (so_iadd dX7_idleMinutes_51 rfl) <|
  Ok.cons (so_ia0 dX7_idleMinutes_52 rfl) <|
  Ok.cons (so_bipush dX7_idleMinutes_53 (by decide) rfl) <|
  Ok.cons (so_clt dX7_idleMinutes_55 (by decide) rfl) <|
  Ok.cons (so_iconst dX7_idleMinutes_58 (by decide) rfl) <|
  Ok.cons (so_goto dX7_idleMinutes_59 (by decide)) <|
  Ok.cons (so_iconst dX7_idleMinutes_62 (by decide) rfl) <|
  Ok.cons (so_iadd dX7_idleMinutes_63 rfl) <|
  Ok.cons (so_istore_n dX7_idleMinutes_64 rfl (by decide) rfl) <|
  Ok.cons (so_iload dX7_idleMinutes_65 rfl) <|
  Ok.cons (so_aload_n dX7_idleMinutes_67 rfl rfl) <|
  Ok.cons (so_iload dX7_idleMinutes_68 rfl) <|
  Ok.cons (so_iload_n dX7_idleMinutes_70 rfl rfl) <|
  Ok.cons (so_vi0 (ct_X7_isOpen l) wq_1621 wq_1618 wq_1620 wq_78 wq_95 (by decide +kernel) (by decide) rfl rfl dX7_idleMinutes_71 rfl) <|
  Ok.cons (so_ior dX7_idleMinutes_74 rfl) <|
  Ok.cons (so_istore dX7_idleMinutes_75 (by decide) rfl) <|
  Ok.cons (so_iinc dX7_idleMinutes_77 (by decide) (by decide) rfl) <|
  Ok.cons (so_goto dX7_idleMinutes_80 (by decide)) <|
  Ok.cons (so_iload_n dX7_idleMinutes_83 rfl rfl) <|
  Ok.cons (so_iload dX7_idleMinutes_84 rfl) <|
  Ok.cons (so_zeq dX7_idleMinutes_86 (by decide) rfl) <|
  Ok.cons (so_iload_n dX7_idleMinutes_89 rfl rfl) <|
  Ok.cons (so_aload_n dX7_idleMinutes_90 rfl rfl) <|
  Ok.cons (so_gf (C := RX7) (T := TX7) (N := 42) inGX7 rfl (by decide) wq_1179 rfl dX7_idleMinutes_91 rfl) <|
  Ok.cons (so_bipush dX7_idleMinutes_94 (by decide) rfl) <|
  Ok.cons (so_ia0 dX7_idleMinutes_96 rfl) <|
  Ok.cons (so_cge dX7_idleMinutes_97 (by decide) rfl) <|
  Ok.cons (so_iconst dX7_idleMinutes_100 (by decide) rfl) <|
  Ok.cons (so_goto dX7_idleMinutes_101 (by decide)) <|
  Ok.cons (so_iconst dX7_idleMinutes_104 (by decide) rfl) <|
  Ok.cons (so_iadd dX7_idleMinutes_105 rfl) <|
  Ok.cons (so_istore_n dX7_idleMinutes_106 rfl (by decide) rfl) <|
  Ok.cons (so_iinc dX7_idleMinutes_107 (by decide) (by decide) rfl) <|
  Ok.cons (so_goto dX7_idleMinutes_110 (by decide)) <|
  Ok.cons (so_iload_n dX7_idleMinutes_113 rfl rfl) <|
  Ok.cons (so_ir rfl dX7_idleMinutes_114) <| Ok.nil
theorem ct_X7_idleMinutes (l : Launch) : Ct l yX7_idleMinutes cX7_idleMinutes 6 (some .int) 6 layM f_X7_idleMinutes := ofRunL (by decide) rfl (ok_X7_idleMinutes l)
noncomputable def t_X7_hottest : Tbl := [(0, s_al 1 0),
  (1, s_al 2 0),
  (2, s_il 3 1),
  (3, s_ci0 true 6 2 f_X7_isIron),
  (6, s_ci0 true 9 2 f_X7_checks),
  (9, s_zne 12 14),
  (12, s_ic 13 0),
  (13, s_ir),
  (14, s_al 15 0),
  (15, s_cv0 true 18 1 f_X7_runs),
  (18, s_ic 20 20),
  (20, s_is 21 2),
  (21, s_ic 22 0),
  (22, s_is 23 3),
  (23, s_il 24 3),
  (24, s_ic 27 480),
  (27, s_cgt 30 52),
  (30, s_il 31 2),
  (31, s_al 32 0),
  (32, s_gf 35 layM 7 31),
  (35, s_ic 37 6),
  (37, s_il 38 3),
  (38, s_b 39 (fun x y => x * y)),
  (39, s_il 40 1),
  (40, s_b 41 (fun x y => x + y)),
  (41, s_ia 42 layM 0),
  (42, s_m 45 (fun x y => if x < y then y else x)),
  (45, s_is 46 2),
  (46, s_in 49 3 1),
  (49, s_go 23),
  (52, s_il 53 2),
  (53, s_ir)]
def cs_X7_hottest : Cs := [(23, [0, 1, 2, 3])]
noncomputable def f_X7_hottest : List Vv → Mm → Option Ou := lock (sem t_X7_hottest cs_X7_hottest 4)
set_option maxRecDepth 20000 in
theorem ok_X7_hottest (l : Launch) : Ok l RX7 cX7_hottest 4 6 (some .int) layM t_X7_hottest :=
  Ok.cons (so_aload_n dX7_hottest_0 rfl rfl) <|
  Ok.cons (so_aload_n dX7_hottest_1 rfl rfl) <|
  Ok.cons (so_iload_n dX7_hottest_2 rfl rfl) <|
  Ok.cons (so_vi0 (ct_X7_isIron l) wq_1456 wq_1453 wq_1455 wq_58 wq_95 (by decide +kernel) (by decide) rfl rfl dX7_hottest_3 rfl) <|
  Ok.cons (so_vi0 (ct_X7_checks l) wq_1460 wq_1457 wq_1459 wq_59 wq_95 (by decide +kernel) (by decide) rfl rfl dX7_hottest_6 rfl) <|
  Ok.cons (so_zne dX7_hottest_9 (by decide) rfl) <|
  Ok.cons (so_iconst dX7_hottest_12 (by decide) rfl) <|
  Ok.cons (so_ir rfl dX7_hottest_13) <|
  Ok.cons (so_aload_n dX7_hottest_14 rfl rfl) <|
  Ok.cons (so_vv0 (ct_X7_runs l) wq_1577 wq_1574 wq_1576 wq_76 wq_95 (by decide +kernel) (by decide) rfl rfl dX7_hottest_15 rfl) <|
  Ok.cons (so_bipush dX7_hottest_18 (by decide) rfl) <|
  Ok.cons (so_istore_n dX7_hottest_20 rfl (by decide) rfl) <|
  Ok.cons (so_iconst dX7_hottest_21 (by decide) rfl) <|
  Ok.cons (so_istore_n dX7_hottest_22 rfl (by decide) rfl) <|
  Ok.cons (so_iload_n dX7_hottest_23 rfl rfl) <|
  Ok.cons (so_sipush dX7_hottest_24 (by decide) rfl) <|
  Ok.cons (so_cgt dX7_hottest_27 (by decide) rfl) <|
  Ok.cons (so_iload_n dX7_hottest_30 rfl rfl) <|
  Ok.cons (so_aload_n dX7_hottest_31 rfl rfl) <|
  Ok.cons (so_gf (C := RX7) (T := TX7) (N := 42) inGX7 rfl (by decide) wq_1205 rfl dX7_hottest_32 rfl) <|
  Ok.cons (so_bipush dX7_hottest_35 (by decide) rfl) <|
  Ok.cons (so_iload_n dX7_hottest_37 rfl rfl) <|
  Ok.cons (so_imul dX7_hottest_38 rfl) <|
  Ok.cons (so_iload_n dX7_hottest_39 rfl rfl) <|
  Ok.cons (so_iadd dX7_hottest_40 rfl) <|
  Ok.cons (so_ia0 dX7_hottest_41 rfl) <|
  Ok.cons (so_max (by decide) wq_1528 wq_624 wq_96 wc_max dX7_hottest_42 rfl) <|
  Ok.cons (so_istore_n dX7_hottest_45 rfl (by decide) rfl) <|
  Ok.cons (so_iinc dX7_hottest_46 (by decide) (by decide) rfl) <|
  Ok.cons (so_goto dX7_hottest_49 (by decide)) <|
  Ok.cons (so_iload_n dX7_hottest_52 rfl rfl) <|
  Ok.cons (so_ir rfl dX7_hottest_53) <| Ok.nil
theorem ct_X7_hottest (l : Launch) : Ct l yX7_hottest cX7_hottest 4 (some .int) 6 layM f_X7_hottest := ofRunL (by decide) rfl (ok_X7_hottest l)
noncomputable def t_X7_lastIron : Tbl := [(0, s_al 1 0),
  (1, s_ic 2 0),
  (2, s_pf 5 layM 7 0),
  (5, s_al 6 0),
  (6, s_cv0 true 9 1 f_X7_runs),
  (9, s_ic 10 (-1)),
  (10, s_is 11 1),
  (11, s_ic 12 0),
  (12, s_is 13 2),
  (13, s_il 14 2),
  (14, s_al 15 0),
  (15, s_gf 18 layM 7 3),
  (18, s_ic 20 18),
  (20, s_ia 21 layM 0),
  (21, s_cge 24 64),
  (24, s_al 25 0),
  (25, s_gf 28 layM 7 34),
  (28, s_il 29 2),
  (29, s_ia 30 layM 0),
  (30, s_ic 31 (-1)),
  (31, s_cne 34 36),
  (34, s_ic 35 (-1)),
  (35, s_ir),
  (36, s_il 37 1),
  (37, s_ic 38 (-1)),
  (38, s_ceq 41 56),
  (41, s_al 42 0),
  (42, s_gf 45 layM 7 34),
  (45, s_il 46 2),
  (46, s_ia 47 layM 0),
  (47, s_al 48 0),
  (48, s_gf 51 layM 7 34),
  (51, s_il 52 1),
  (52, s_ia 53 layM 0),
  (53, s_cle 56 58),
  (56, s_il 57 2),
  (57, s_is 58 1),
  (58, s_in 61 2 1),
  (61, s_go 13),
  (64, s_il 65 1),
  (65, s_ir)]
def cs_X7_lastIron : Cs := [(13, [0, 1, 2])]
noncomputable def f_X7_lastIron : List Vv → Mm → Option Ou := lock (sem t_X7_lastIron cs_X7_lastIron 3)
set_option maxRecDepth 20000 in
theorem ok_X7_lastIron (l : Launch) : Ok l RX7 cX7_lastIron 3 6 (some .int) layM t_X7_lastIron :=
  Ok.cons (so_aload_n dX7_lastIron_0 rfl rfl) <|
  Ok.cons (so_iconst dX7_lastIron_1 (by decide) rfl) <|
  Ok.cons (so_pf (C := RX7) (T := TX7) (N := 42) inGX7 tyX7_ok nmX7 rfl (by decide) wq_1174 rfl rfl rfl dX7_lastIron_2 rfl) <|
  Ok.cons (so_aload_n dX7_lastIron_5 rfl rfl) <|
  Ok.cons (so_vv0 (ct_X7_runs l) wq_1577 wq_1574 wq_1576 wq_76 wq_95 (by decide +kernel) (by decide) rfl rfl dX7_lastIron_6 rfl) <|
  Ok.cons (so_iconst dX7_lastIron_9 (by decide) rfl) <|
  Ok.cons (so_istore_n dX7_lastIron_10 rfl (by decide) rfl) <|
  Ok.cons (so_iconst dX7_lastIron_11 (by decide) rfl) <|
  Ok.cons (so_istore_n dX7_lastIron_12 rfl (by decide) rfl) <|
  Ok.cons (so_iload_n dX7_lastIron_13 rfl rfl) <|
  Ok.cons (so_aload_n dX7_lastIron_14 rfl rfl) <|
  Ok.cons (so_gf (C := RX7) (T := TX7) (N := 42) inGX7 rfl (by decide) wq_1177 rfl dX7_lastIron_15 rfl) <|
  Ok.cons (so_bipush dX7_lastIron_18 (by decide) rfl) <|
  Ok.cons (so_ia0 dX7_lastIron_20 rfl) <|
  Ok.cons (so_cge dX7_lastIron_21 (by decide) rfl) <|
  Ok.cons (so_aload_n dX7_lastIron_24 rfl rfl) <|
  Ok.cons (so_gf (C := RX7) (T := TX7) (N := 42) inGX7 rfl (by decide) wq_1208 rfl dX7_lastIron_25 rfl) <|
  Ok.cons (so_iload_n dX7_lastIron_28 rfl rfl) <|
  Ok.cons (so_ia0 dX7_lastIron_29 rfl) <|
  Ok.cons (so_iconst dX7_lastIron_30 (by decide) rfl) <|
  Ok.cons (so_cne dX7_lastIron_31 (by decide) rfl) <|
  Ok.cons (so_iconst dX7_lastIron_34 (by decide) rfl) <|
  Ok.cons (so_ir rfl dX7_lastIron_35) <|
  Ok.cons (so_iload_n dX7_lastIron_36 rfl rfl) <|
  Ok.cons (so_iconst dX7_lastIron_37 (by decide) rfl) <|
  Ok.cons (so_ceq dX7_lastIron_38 (by decide) rfl) <|
  Ok.cons (so_aload_n dX7_lastIron_41 rfl rfl) <|
  Ok.cons (so_gf (C := RX7) (T := TX7) (N := 42) inGX7 rfl (by decide) wq_1208 rfl dX7_lastIron_42 rfl) <|
  Ok.cons (so_iload_n dX7_lastIron_45 rfl rfl) <|
  Ok.cons (so_ia0 dX7_lastIron_46 rfl) <|
  Ok.cons (so_aload_n dX7_lastIron_47 rfl rfl) <|
  Ok.cons (so_gf (C := RX7) (T := TX7) (N := 42) inGX7 rfl (by decide) wq_1208 rfl dX7_lastIron_48 rfl) <|
  Ok.cons (so_iload_n dX7_lastIron_51 rfl rfl) <|
  Ok.cons (so_ia0 dX7_lastIron_52 rfl) <|
  Ok.cons (so_cle dX7_lastIron_53 (by decide) rfl) <|
  Ok.cons (so_iload_n dX7_lastIron_56 rfl rfl) <|
  Ok.cons (so_istore_n dX7_lastIron_57 rfl (by decide) rfl) <|
  Ok.cons (so_iinc dX7_lastIron_58 (by decide) (by decide) rfl) <|
  Ok.cons (so_goto dX7_lastIron_61 (by decide)) <|
  Ok.cons (so_iload_n dX7_lastIron_64 rfl rfl) <|
  Ok.cons (so_ir rfl dX7_lastIron_65) <| Ok.nil
theorem ct_X7_lastIron (l : Launch) : Ct l yX7_lastIron cX7_lastIron 3 (some .int) 6 layM f_X7_lastIron := ofRunL (by decide) rfl (ok_X7_lastIron l)
noncomputable def t_X7_swaps : Tbl := [(0, s_al 1 0),
  (1, s_gf 4 layM 7 20),
  (4, s_il 5 1),
  (5, s_ia 6 layM 0),
  (6, s_is 7 3),
  (7, s_al 8 0),
  (8, s_gf 11 layM 7 20),
  (11, s_il 12 1),
  (12, s_al 13 0),
  (13, s_gf 16 layM 7 20),
  (16, s_il 17 2),
  (17, s_ia 18 layM 0),
  (18, s_ix 19 layM 0),
  (19, s_al 20 0),
  (20, s_gf 23 layM 7 20),
  (23, s_il 24 2),
  (24, s_il 25 3),
  (25, s_ix 26 layM 0),
  (26, s_vr)]
def cs_X7_swaps : Cs := []
noncomputable def f_X7_swaps : List Vv → Mm → Option Ou := lock (sem t_X7_swaps cs_X7_swaps 4)
set_option maxRecDepth 20000 in
theorem ok_X7_swaps (l : Launch) : Ok l RX7 cX7_swaps 4 1 none layM t_X7_swaps :=
  Ok.cons (so_aload_n dX7_swaps_0 rfl rfl) <|
  Ok.cons (so_gf (C := RX7) (T := TX7) (N := 42) inGX7 rfl (by decide) wq_1194 rfl dX7_swaps_1 rfl) <|
  Ok.cons (so_iload_n dX7_swaps_4 rfl rfl) <|
  Ok.cons (so_ia0 dX7_swaps_5 rfl) <|
  Ok.cons (so_istore_n dX7_swaps_6 rfl (by decide) rfl) <|
  Ok.cons (so_aload_n dX7_swaps_7 rfl rfl) <|
  Ok.cons (so_gf (C := RX7) (T := TX7) (N := 42) inGX7 rfl (by decide) wq_1194 rfl dX7_swaps_8 rfl) <|
  Ok.cons (so_iload_n dX7_swaps_11 rfl rfl) <|
  Ok.cons (so_aload_n dX7_swaps_12 rfl rfl) <|
  Ok.cons (so_gf (C := RX7) (T := TX7) (N := 42) inGX7 rfl (by decide) wq_1194 rfl dX7_swaps_13 rfl) <|
  Ok.cons (so_iload_n dX7_swaps_16 rfl rfl) <|
  Ok.cons (so_ia0 dX7_swaps_17 rfl) <|
  Ok.cons (so_ix dX7_swaps_18 rfl) <|
  Ok.cons (so_aload_n dX7_swaps_19 rfl rfl) <|
  Ok.cons (so_gf (C := RX7) (T := TX7) (N := 42) inGX7 rfl (by decide) wq_1194 rfl dX7_swaps_20 rfl) <|
  Ok.cons (so_iload_n dX7_swaps_23 rfl rfl) <|
  Ok.cons (so_iload_n dX7_swaps_24 rfl rfl) <|
  Ok.cons (so_ix dX7_swaps_25 rfl) <|
  Ok.cons (so_vr rfl dX7_swaps_26) <| Ok.nil
theorem ct_X7_swaps (l : Launch) : Ct l yX7_swaps cX7_swaps 4 none 1 layM f_X7_swaps := ofRunL (by decide) rfl (ok_X7_swaps l)
noncomputable def t_X7_nextOrder : Tbl := [(0, s_al 1 0),
  (1, s_gf 4 layM 7 21),
  (4, s_ic 5 2),
  (5, s_b 6 (fun x y => x - y)),
  (6, s_is 7 1),
  (7, s_il 8 1),
  (8, s_zlt 11 34),
  (11, s_al 12 0),
  (12, s_gf 15 layM 7 20),
  (15, s_il 16 1),
  (16, s_ia 17 layM 0),
  (17, s_al 18 0),
  (18, s_gf 21 layM 7 20),
  (21, s_il 22 1),
  (22, s_ic 23 1),
  (23, s_b 24 (fun x y => x + y)),
  (24, s_ia 25 layM 0),
  (25, s_cle 28 34),
  (28, s_in 31 1 (-1)),
  (31, s_go 7),
  (34, s_il 35 1),
  (35, s_zge 38 40),
  (38, s_ic 39 0),
  (39, s_zr),
  (40, s_al 41 0),
  (41, s_gf 44 layM 7 21),
  (44, s_ic 45 1),
  (45, s_b 46 (fun x y => x - y)),
  (46, s_is 47 2),
  (47, s_al 48 0),
  (48, s_gf 51 layM 7 20),
  (51, s_il 52 2),
  (52, s_ia 53 layM 0),
  (53, s_al 54 0),
  (54, s_gf 57 layM 7 20),
  (57, s_il 58 1),
  (58, s_ia 59 layM 0),
  (59, s_cge 62 68),
  (62, s_in 65 2 (-1)),
  (65, s_go 47),
  (68, s_al 69 0),
  (69, s_il 70 1),
  (70, s_il 71 2),
  (71, s_cv0 true 74 3 f_X7_swaps),
  (74, s_il 75 1),
  (75, s_ic 76 1),
  (76, s_b 77 (fun x y => x + y)),
  (77, s_is 78 3),
  (78, s_al 79 0),
  (79, s_gf 82 layM 7 21),
  (82, s_ic 83 1),
  (83, s_b 84 (fun x y => x - y)),
  (84, s_is 86 4),
  (86, s_il 87 3),
  (87, s_il 89 4),
  (89, s_cge 92 108),
  (92, s_al 93 0),
  (93, s_il 94 3),
  (94, s_il 96 4),
  (96, s_cv0 true 99 3 f_X7_swaps),
  (99, s_in 102 3 1),
  (102, s_in 105 4 (-1)),
  (105, s_go 86),
  (108, s_ic 109 1),
  (109, s_zr)]
def cs_X7_nextOrder : Cs := [(7, [0, 1]), (34, [0, 1]), (47, [0, 1, 2]), (86, [0, 3, 4])]
noncomputable def f_X7_nextOrder : List Vv → Mm → Option Ou := lock (sem t_X7_nextOrder cs_X7_nextOrder 5)
set_option maxRecDepth 20000 in
theorem ok_X7_nextOrder (l : Launch) : Ok l RX7 cX7_nextOrder 5 2 (some .boolean) layM t_X7_nextOrder :=
  Ok.cons (so_aload_n dX7_nextOrder_0 rfl rfl) <|
  Ok.cons (so_gf (C := RX7) (T := TX7) (N := 42) inGX7 rfl (by decide) wq_1195 rfl dX7_nextOrder_1 rfl) <|
  Ok.cons (so_iconst dX7_nextOrder_4 (by decide) rfl) <|
  Ok.cons (so_isub dX7_nextOrder_5 rfl) <|
  Ok.cons (so_istore_n dX7_nextOrder_6 rfl (by decide) rfl) <|
  Ok.cons (so_iload_n dX7_nextOrder_7 rfl rfl) <|
  Ok.cons (so_zlt dX7_nextOrder_8 (by decide) rfl) <|
  Ok.cons (so_aload_n dX7_nextOrder_11 rfl rfl) <|
  Ok.cons (so_gf (C := RX7) (T := TX7) (N := 42) inGX7 rfl (by decide) wq_1194 rfl dX7_nextOrder_12 rfl) <|
  Ok.cons (so_iload_n dX7_nextOrder_15 rfl rfl) <|
  Ok.cons (so_ia0 dX7_nextOrder_16 rfl) <|
  Ok.cons (so_aload_n dX7_nextOrder_17 rfl rfl) <|
  Ok.cons (so_gf (C := RX7) (T := TX7) (N := 42) inGX7 rfl (by decide) wq_1194 rfl dX7_nextOrder_18 rfl) <|
  Ok.cons (so_iload_n dX7_nextOrder_21 rfl rfl) <|
  Ok.cons (so_iconst dX7_nextOrder_22 (by decide) rfl) <|
  Ok.cons (so_iadd dX7_nextOrder_23 rfl) <|
  Ok.cons (so_ia0 dX7_nextOrder_24 rfl) <|
  Ok.cons (so_cle dX7_nextOrder_25 (by decide) rfl) <|
  Ok.cons (so_iinc dX7_nextOrder_28 (by decide) (by decide) rfl) <|
  Ok.cons (so_goto dX7_nextOrder_31 (by decide)) <|
  Ok.cons (so_iload_n dX7_nextOrder_34 rfl rfl) <|
  Ok.cons (so_zge dX7_nextOrder_35 (by decide) rfl) <|
  Ok.cons (so_iconst dX7_nextOrder_38 (by decide) rfl) <|
  Ok.cons (so_zr rfl dX7_nextOrder_39) <|
  Ok.cons (so_aload_n dX7_nextOrder_40 rfl rfl) <|
  Ok.cons (so_gf (C := RX7) (T := TX7) (N := 42) inGX7 rfl (by decide) wq_1195 rfl dX7_nextOrder_41 rfl) <|
  Ok.cons (so_iconst dX7_nextOrder_44 (by decide) rfl) <|
  Ok.cons (so_isub dX7_nextOrder_45 rfl) <|
  Ok.cons (so_istore_n dX7_nextOrder_46 rfl (by decide) rfl) <|
  Ok.cons (so_aload_n dX7_nextOrder_47 rfl rfl) <|
  Ok.cons (so_gf (C := RX7) (T := TX7) (N := 42) inGX7 rfl (by decide) wq_1194 rfl dX7_nextOrder_48 rfl) <|
  Ok.cons (so_iload_n dX7_nextOrder_51 rfl rfl) <|
  Ok.cons (so_ia0 dX7_nextOrder_52 rfl) <|
  Ok.cons (so_aload_n dX7_nextOrder_53 rfl rfl) <|
  Ok.cons (so_gf (C := RX7) (T := TX7) (N := 42) inGX7 rfl (by decide) wq_1194 rfl dX7_nextOrder_54 rfl) <|
  Ok.cons (so_iload_n dX7_nextOrder_57 rfl rfl) <|
  Ok.cons (so_ia0 dX7_nextOrder_58 rfl) <|
  Ok.cons (so_cge dX7_nextOrder_59 (by decide) rfl) <|
  Ok.cons (so_iinc dX7_nextOrder_62 (by decide) (by decide) rfl) <|
  Ok.cons (so_goto dX7_nextOrder_65 (by decide)) <|
  Ok.cons (so_aload_n dX7_nextOrder_68 rfl rfl) <|
  Ok.cons (so_iload_n dX7_nextOrder_69 rfl rfl) <|
  Ok.cons (so_iload_n dX7_nextOrder_70 rfl rfl) <|
  Ok.cons (so_vv0 (ct_X7_swaps l) wq_1669 wq_1666 wq_1668 wq_82 wq_95 (by decide +kernel) (by decide) rfl rfl dX7_nextOrder_71 rfl) <|
  Ok.cons (so_iload_n dX7_nextOrder_74 rfl rfl) <|
  Ok.cons (so_iconst dX7_nextOrder_75 (by decide) rfl) <|
  Ok.cons (so_iadd dX7_nextOrder_76 rfl) <|
  Ok.cons (so_istore_n dX7_nextOrder_77 rfl (by decide) rfl) <|
  Ok.cons (so_aload_n dX7_nextOrder_78 rfl rfl) <|
  Ok.cons (so_gf (C := RX7) (T := TX7) (N := 42) inGX7 rfl (by decide) wq_1195 rfl dX7_nextOrder_79 rfl) <|
  Ok.cons (so_iconst dX7_nextOrder_82 (by decide) rfl) <|
  Ok.cons (so_isub dX7_nextOrder_83 rfl) <|
  Ok.cons (so_istore dX7_nextOrder_84 (by decide) rfl) <|
  Ok.cons (so_iload_n dX7_nextOrder_86 rfl rfl) <|
  Ok.cons (so_iload dX7_nextOrder_87 rfl) <|
  Ok.cons (so_cge dX7_nextOrder_89 (by decide) rfl) <|
  Ok.cons (so_aload_n dX7_nextOrder_92 rfl rfl) <|
  Ok.cons (so_iload_n dX7_nextOrder_93 rfl rfl) <|
  Ok.cons (so_iload dX7_nextOrder_94 rfl) <|
  Ok.cons (so_vv0 (ct_X7_swaps l) wq_1669 wq_1666 wq_1668 wq_82 wq_95 (by decide +kernel) (by decide) rfl rfl dX7_nextOrder_96 rfl) <|
  Ok.cons (so_iinc dX7_nextOrder_99 (by decide) (by decide) rfl) <|
  Ok.cons (so_iinc dX7_nextOrder_102 (by decide) (by decide) rfl) <|
  Ok.cons (so_goto dX7_nextOrder_105 (by decide)) <|
  Ok.cons (so_iconst dX7_nextOrder_108 (by decide) rfl) <|
  Ok.cons (so_zr rfl dX7_nextOrder_109) <| Ok.nil
theorem ct_X7_nextOrder (l : Launch) : Ct l yX7_nextOrder cX7_nextOrder 5 (some .boolean) 2 layM f_X7_nextOrder := ofRunL (by decide) rfl (ok_X7_nextOrder l)
noncomputable def t_X7_tries : Tbl := [(0, s_al 1 0),
  (1, s_gf 4 layM 7 38),
  (4, s_zeq 7 8),
  (7, s_vr),
  (8, s_al 9 0),
  (9, s_ic 10 1),
  (10, s_pz 13 layM 7 38),
  (13, s_al 14 0),
  (14, s_cv0 true 17 1 f_X7_orders),
  (17, s_ic 18 0),
  (18, s_is 19 1),
  (19, s_il 20 1),
  (20, s_al 21 0),
  (21, s_gf 24 layM 7 21),
  (24, s_cge 27 40),
  (27, s_al 28 0),
  (28, s_gf 31 layM 7 20),
  (31, s_il 32 1),
  (32, s_il 33 1),
  (33, s_ix 34 layM 0),
  (34, s_in 37 1 1),
  (37, s_go 19),
  (40, s_al 41 0),
  (41, s_ic 42 (-1)),
  (42, s_pf 45 layM 7 40),
  (45, s_al 46 0),
  (46, s_ic 47 0),
  (47, s_pf 50 layM 7 41),
  (50, s_ic 51 1),
  (51, s_is 52 1),
  (52, s_il 53 1),
  (53, s_zeq 56 155),
  (56, s_al 57 0),
  (57, s_ci0 true 60 1 f_X7_ends),
  (60, s_is 61 2),
  (61, s_il 62 2),
  (62, s_ic 63 (-1)),
  (63, s_ceq 66 120),
  (66, s_al 67 0),
  (67, s_gf 70 layM 7 40),
  (70, s_ic 71 (-1)),
  (71, s_ceq 74 82),
  (74, s_il 75 2),
  (75, s_al 76 0),
  (76, s_gf 79 layM 7 40),
  (79, s_cge 82 120),
  (82, s_al 83 0),
  (83, s_il 84 2),
  (84, s_pf 87 layM 7 40),
  (87, s_al 88 0),
  (88, s_ic 89 0),
  (89, s_pf 92 layM 7 41),
  (92, s_ic 93 0),
  (93, s_is 94 3),
  (94, s_il 95 3),
  (95, s_al 96 0),
  (96, s_gf 99 layM 7 21),
  (99, s_cge 102 120),
  (102, s_al 103 0),
  (103, s_gf 106 layM 7 39),
  (106, s_il 107 3),
  (107, s_al 108 0),
  (108, s_gf 111 layM 7 20),
  (111, s_il 112 3),
  (112, s_ia 113 layM 0),
  (113, s_ix 114 layM 0),
  (114, s_in 117 3 1),
  (117, s_go 94),
  (120, s_al 121 0),
  (121, s_dup 122),
  (122, s_gf 125 layM 7 41),
  (125, s_il 126 2),
  (126, s_ic 127 (-1)),
  (127, s_ceq 130 142),
  (130, s_il 131 2),
  (131, s_al 132 0),
  (132, s_gf 135 layM 7 40),
  (135, s_cne 138 142),
  (138, s_ic 139 1),
  (139, s_go 143),
  (142, s_ic 143 0),
  (143, s_b 144 (fun x y => x + y)),
  (144, s_pf 147 layM 7 41),
  (147, s_al 148 0),
  (148, s_ci0 true 151 1 f_X7_nextOrder),
  (151, s_is 152 1),
  (152, s_go 52),
  (155, s_vr)]
def cs_X7_tries : Cs := [(19, [0, 1]), (52, [0, 1]), (94, [0, 2, 3]), (120, [0, 2]), (143, [0])]
noncomputable def f_X7_tries : List Vv → Mm → Option Ou := lock (sem t_X7_tries cs_X7_tries 4)
set_option maxRecDepth 20000 in
theorem ok_X7_tries (l : Launch) : Ok l RX7 cX7_tries 4 6 none layM t_X7_tries :=
  Ok.cons (so_aload_n dX7_tries_0 rfl rfl) <|
  Ok.cons (so_gf (C := RX7) (T := TX7) (N := 42) inGX7 rfl (by decide) wq_1212 rfl dX7_tries_1 rfl) <|
  Ok.cons (so_zeq dX7_tries_4 (by decide) rfl) <|
  Ok.cons (so_vr rfl dX7_tries_7) <|
  Ok.cons (so_aload_n dX7_tries_8 rfl rfl) <|
  Ok.cons (so_iconst dX7_tries_9 (by decide) rfl) <|
  Ok.cons (so_pz (C := RX7) (T := TX7) (N := 42) inGX7 tyX7_ok nmX7 rfl (by decide) wq_1212 rfl rfl rfl dX7_tries_10 rfl) <|
  Ok.cons (so_aload_n dX7_tries_13 rfl rfl) <|
  Ok.cons (so_vv0 (ct_X7_orders l) wq_1515 wq_1512 wq_1514 wq_62 wq_95 (by decide +kernel) (by decide) rfl rfl dX7_tries_14 rfl) <|
  Ok.cons (so_iconst dX7_tries_17 (by decide) rfl) <|
  Ok.cons (so_istore_n dX7_tries_18 rfl (by decide) rfl) <|
  Ok.cons (so_iload_n dX7_tries_19 rfl rfl) <|
  Ok.cons (so_aload_n dX7_tries_20 rfl rfl) <|
  Ok.cons (so_gf (C := RX7) (T := TX7) (N := 42) inGX7 rfl (by decide) wq_1195 rfl dX7_tries_21 rfl) <|
  Ok.cons (so_cge dX7_tries_24 (by decide) rfl) <|
  Ok.cons (so_aload_n dX7_tries_27 rfl rfl) <|
  Ok.cons (so_gf (C := RX7) (T := TX7) (N := 42) inGX7 rfl (by decide) wq_1194 rfl dX7_tries_28 rfl) <|
  Ok.cons (so_iload_n dX7_tries_31 rfl rfl) <|
  Ok.cons (so_iload_n dX7_tries_32 rfl rfl) <|
  Ok.cons (so_ix dX7_tries_33 rfl) <|
  Ok.cons (so_iinc dX7_tries_34 (by decide) (by decide) rfl) <|
  Ok.cons (so_goto dX7_tries_37 (by decide)) <|
  Ok.cons (so_aload_n dX7_tries_40 rfl rfl) <|
  Ok.cons (so_iconst dX7_tries_41 (by decide) rfl) <|
  Ok.cons (so_pf (C := RX7) (T := TX7) (N := 42) inGX7 tyX7_ok nmX7 rfl (by decide) wq_1214 rfl rfl rfl dX7_tries_42 rfl) <|
  Ok.cons (so_aload_n dX7_tries_45 rfl rfl) <|
  Ok.cons (so_iconst dX7_tries_46 (by decide) rfl) <|
  Ok.cons (so_pf (C := RX7) (T := TX7) (N := 42) inGX7 tyX7_ok nmX7 rfl (by decide) wq_1215 rfl rfl rfl dX7_tries_47 rfl) <|
  Ok.cons (so_iconst dX7_tries_50 (by decide) rfl) <|
  Ok.cons (so_istore_n dX7_tries_51 rfl (by decide) rfl) <|
  Ok.cons (so_iload_n dX7_tries_52 rfl rfl) <|
  Ok.cons (so_zeq dX7_tries_53 (by decide) rfl) <|
  Ok.cons (so_aload_n dX7_tries_56 rfl rfl) <|
  Ok.cons (so_vi0 (ct_X7_ends l) wq_1519 wq_1516 wq_1518 wq_63 wq_95 (by decide +kernel) (by decide) rfl rfl dX7_tries_57 rfl) <|
  Ok.cons (so_istore_n dX7_tries_60 rfl (by decide) rfl) <|
  Ok.cons (so_iload_n dX7_tries_61 rfl rfl) <|
  Ok.cons (so_iconst dX7_tries_62 (by decide) rfl) <|
  Ok.cons (so_ceq dX7_tries_63 (by decide) rfl) <|
  Ok.cons (so_aload_n dX7_tries_66 rfl rfl) <|
  Ok.cons (so_gf (C := RX7) (T := TX7) (N := 42) inGX7 rfl (by decide) wq_1214 rfl dX7_tries_67 rfl) <|
  Ok.cons (so_iconst dX7_tries_70 (by decide) rfl) <|
  Ok.cons (so_ceq dX7_tries_71 (by decide) rfl) <|
  Ok.cons (so_iload_n dX7_tries_74 rfl rfl) <|
  Ok.cons (so_aload_n dX7_tries_75 rfl rfl) <|
  Ok.cons (so_gf (C := RX7) (T := TX7) (N := 42) inGX7 rfl (by decide) wq_1214 rfl dX7_tries_76 rfl) <|
  Ok.cons (so_cge dX7_tries_79 (by decide) rfl) <|
  Ok.cons (so_aload_n dX7_tries_82 rfl rfl) <|
  Ok.cons (so_iload_n dX7_tries_83 rfl rfl) <|
  Ok.cons (so_pf (C := RX7) (T := TX7) (N := 42) inGX7 tyX7_ok nmX7 rfl (by decide) wq_1214 rfl rfl rfl dX7_tries_84 rfl) <|
  Ok.cons (so_aload_n dX7_tries_87 rfl rfl) <|
  Ok.cons (so_iconst dX7_tries_88 (by decide) rfl) <|
  Ok.cons (so_pf (C := RX7) (T := TX7) (N := 42) inGX7 tyX7_ok nmX7 rfl (by decide) wq_1215 rfl rfl rfl dX7_tries_89 rfl) <|
  Ok.cons (so_iconst dX7_tries_92 (by decide) rfl) <|
  Ok.cons (so_istore_n dX7_tries_93 rfl (by decide) rfl) <|
  Ok.cons (so_iload_n dX7_tries_94 rfl rfl) <|
  Ok.cons (so_aload_n dX7_tries_95 rfl rfl) <|
  Ok.cons (so_gf (C := RX7) (T := TX7) (N := 42) inGX7 rfl (by decide) wq_1195 rfl dX7_tries_96 rfl) <|
  Ok.cons (so_cge dX7_tries_99 (by decide) rfl) <|
  Ok.cons (so_aload_n dX7_tries_102 rfl rfl) <|
  Ok.cons (so_gf (C := RX7) (T := TX7) (N := 42) inGX7 rfl (by decide) wq_1213 rfl dX7_tries_103 rfl) <|
  Ok.cons (so_iload_n dX7_tries_106 rfl rfl) <|
  Ok.cons (so_aload_n dX7_tries_107 rfl rfl) <|
  Ok.cons (so_gf (C := RX7) (T := TX7) (N := 42) inGX7 rfl (by decide) wq_1194 rfl dX7_tries_108 rfl) <|
  Ok.cons (so_iload_n dX7_tries_111 rfl rfl) <|
  Ok.cons (so_ia0 dX7_tries_112 rfl) <|
  Ok.cons (so_ix dX7_tries_113 rfl) <|
  Ok.cons (so_iinc dX7_tries_114 (by decide) (by decide) rfl) <|
  Ok.cons (so_goto dX7_tries_117 (by decide)) <|
  Ok.cons (so_aload_n dX7_tries_120 rfl rfl) <|
  Ok.cons (so_dup dX7_tries_121 rfl) <|
  Ok.cons (so_gf (C := RX7) (T := TX7) (N := 42) inGX7 rfl (by decide) wq_1215 rfl dX7_tries_122 rfl) <|
  Ok.cons (so_iload_n dX7_tries_125 rfl rfl) <|
  Ok.cons (so_iconst dX7_tries_126 (by decide) rfl) <|
  Ok.cons (so_ceq dX7_tries_127 (by decide) rfl) <|
  Ok.cons (so_iload_n dX7_tries_130 rfl rfl) <|
  Ok.cons (so_aload_n dX7_tries_131 rfl rfl) <|
  Ok.cons (so_gf (C := RX7) (T := TX7) (N := 42) inGX7 rfl (by decide) wq_1214 rfl dX7_tries_132 rfl) <|
  Ok.cons (so_cne dX7_tries_135 (by decide) rfl) <|
  Ok.cons (so_iconst dX7_tries_138 (by decide) rfl) <|
  Ok.cons (so_goto dX7_tries_139 (by decide)) <|
  Ok.cons (so_iconst dX7_tries_142 (by decide) rfl) <|
  Ok.cons (so_iadd dX7_tries_143 rfl) <|
  Ok.cons (so_pf (C := RX7) (T := TX7) (N := 42) inGX7 tyX7_ok nmX7 rfl (by decide) wq_1215 rfl rfl rfl dX7_tries_144 rfl) <|
  Ok.cons (so_aload_n dX7_tries_147 rfl rfl) <|
  Ok.cons (so_vi0 (ct_X7_nextOrder l) wq_1665 wq_1662 wq_1664 wq_81 wq_95 (by decide +kernel) (by decide) rfl rfl dX7_tries_148 rfl) <|
  Ok.cons (so_istore_n dX7_tries_151 rfl (by decide) rfl) <|
  Ok.cons (so_goto dX7_tries_152 (by decide)) <|
  Ok.cons (so_vr rfl dX7_tries_155) <| Ok.nil
theorem ct_X7_tries (l : Launch) : Ct l yX7_tries cX7_tries 4 none 6 layM f_X7_tries := ofRunL (by decide) rfl (ok_X7_tries l)
noncomputable def t_X7_bestFinish : Tbl := [(0, s_al 1 0),
  (1, s_ic 2 0),
  (2, s_pf 5 layM 7 0),
  (5, s_al 6 0),
  (6, s_cv0 true 9 1 f_X7_tries),
  (9, s_al 10 0),
  (10, s_gf 13 layM 7 40),
  (13, s_ir)]
def cs_X7_bestFinish : Cs := []
noncomputable def f_X7_bestFinish : List Vv → Mm → Option Ou := lock (sem t_X7_bestFinish cs_X7_bestFinish 1)
set_option maxRecDepth 20000 in
theorem ok_X7_bestFinish (l : Launch) : Ok l RX7 cX7_bestFinish 1 7 (some .int) layM t_X7_bestFinish :=
  Ok.cons (so_aload_n dX7_bestFinish_0 rfl rfl) <|
  Ok.cons (so_iconst dX7_bestFinish_1 (by decide) rfl) <|
  Ok.cons (so_pf (C := RX7) (T := TX7) (N := 42) inGX7 tyX7_ok nmX7 rfl (by decide) wq_1174 rfl rfl rfl dX7_bestFinish_2 rfl) <|
  Ok.cons (so_aload_n dX7_bestFinish_5 rfl rfl) <|
  Ok.cons (so_vv0 (ct_X7_tries l) wq_1661 wq_1658 wq_1660 wq_80 wq_95 (by decide +kernel) (by decide) rfl rfl dX7_bestFinish_6 rfl) <|
  Ok.cons (so_aload_n dX7_bestFinish_9 rfl rfl) <|
  Ok.cons (so_gf (C := RX7) (T := TX7) (N := 42) inGX7 rfl (by decide) wq_1214 rfl dX7_bestFinish_10 rfl) <|
  Ok.cons (so_ir rfl dX7_bestFinish_13) <| Ok.nil
theorem ct_X7_bestFinish (l : Launch) : Ct l yX7_bestFinish cX7_bestFinish 1 (some .int) 7 layM f_X7_bestFinish := ofRunL (by decide) rfl (ok_X7_bestFinish l)
noncomputable def t_X7_bestIronAt : Tbl := [(0, s_al 1 0),
  (1, s_al 2 0),
  (2, s_il 3 1),
  (3, s_ci0 true 6 2 f_X7_isIron),
  (6, s_ci0 true 9 2 f_X7_checks),
  (9, s_zne 12 14),
  (12, s_ic 13 0),
  (13, s_ir),
  (14, s_al 15 0),
  (15, s_cv0 true 18 1 f_X7_tries),
  (18, s_al 19 0),
  (19, s_gf 22 layM 7 40),
  (22, s_ic 23 (-1)),
  (23, s_cne 26 30),
  (26, s_ic 27 (-1)),
  (27, s_go 36),
  (30, s_al 31 0),
  (31, s_gf 34 layM 7 39),
  (34, s_il 35 1),
  (35, s_ia 36 layM 0),
  (36, s_ir)]
def cs_X7_bestIronAt : Cs := []
noncomputable def f_X7_bestIronAt : List Vv → Mm → Option Ou := lock (sem t_X7_bestIronAt cs_X7_bestIronAt 2)
set_option maxRecDepth 20000 in
theorem ok_X7_bestIronAt (l : Launch) : Ok l RX7 cX7_bestIronAt 2 7 (some .int) layM t_X7_bestIronAt :=
  Ok.cons (so_aload_n dX7_bestIronAt_0 rfl rfl) <|
  Ok.cons (so_aload_n dX7_bestIronAt_1 rfl rfl) <|
  Ok.cons (so_iload_n dX7_bestIronAt_2 rfl rfl) <|
  Ok.cons (so_vi0 (ct_X7_isIron l) wq_1456 wq_1453 wq_1455 wq_58 wq_95 (by decide +kernel) (by decide) rfl rfl dX7_bestIronAt_3 rfl) <|
  Ok.cons (so_vi0 (ct_X7_checks l) wq_1460 wq_1457 wq_1459 wq_59 wq_95 (by decide +kernel) (by decide) rfl rfl dX7_bestIronAt_6 rfl) <|
  Ok.cons (so_zne dX7_bestIronAt_9 (by decide) rfl) <|
  Ok.cons (so_iconst dX7_bestIronAt_12 (by decide) rfl) <|
  Ok.cons (so_ir rfl dX7_bestIronAt_13) <|
  Ok.cons (so_aload_n dX7_bestIronAt_14 rfl rfl) <|
  Ok.cons (so_vv0 (ct_X7_tries l) wq_1661 wq_1658 wq_1660 wq_80 wq_95 (by decide +kernel) (by decide) rfl rfl dX7_bestIronAt_15 rfl) <|
  Ok.cons (so_aload_n dX7_bestIronAt_18 rfl rfl) <|
  Ok.cons (so_gf (C := RX7) (T := TX7) (N := 42) inGX7 rfl (by decide) wq_1214 rfl dX7_bestIronAt_19 rfl) <|
  Ok.cons (so_iconst dX7_bestIronAt_22 (by decide) rfl) <|
  Ok.cons (so_cne dX7_bestIronAt_23 (by decide) rfl) <|
  Ok.cons (so_iconst dX7_bestIronAt_26 (by decide) rfl) <|
  Ok.cons (so_goto dX7_bestIronAt_27 (by decide)) <|
  Ok.cons (so_aload_n dX7_bestIronAt_30 rfl rfl) <|
  Ok.cons (so_gf (C := RX7) (T := TX7) (N := 42) inGX7 rfl (by decide) wq_1213 rfl dX7_bestIronAt_31 rfl) <|
  Ok.cons (so_iload_n dX7_bestIronAt_34 rfl rfl) <|
  Ok.cons (so_ia0 dX7_bestIronAt_35 rfl) <|
  Ok.cons (so_ir rfl dX7_bestIronAt_36) <| Ok.nil
theorem ct_X7_bestIronAt (l : Launch) : Ct l yX7_bestIronAt cX7_bestIronAt 2 (some .int) 7 layM f_X7_bestIronAt := ofRunL (by decide) rfl (ok_X7_bestIronAt l)
noncomputable def t_X7_bestOrders : Tbl := [(0, s_al 1 0),
  (1, s_ic 2 0),
  (2, s_pf 5 layM 7 0),
  (5, s_al 6 0),
  (6, s_cv0 true 9 1 f_X7_tries),
  (9, s_al 10 0),
  (10, s_gf 13 layM 7 41),
  (13, s_ir)]
def cs_X7_bestOrders : Cs := []
noncomputable def f_X7_bestOrders : List Vv → Mm → Option Ou := lock (sem t_X7_bestOrders cs_X7_bestOrders 1)
set_option maxRecDepth 20000 in
theorem ok_X7_bestOrders (l : Launch) : Ok l RX7 cX7_bestOrders 1 7 (some .int) layM t_X7_bestOrders :=
  Ok.cons (so_aload_n dX7_bestOrders_0 rfl rfl) <|
  Ok.cons (so_iconst dX7_bestOrders_1 (by decide) rfl) <|
  Ok.cons (so_pf (C := RX7) (T := TX7) (N := 42) inGX7 tyX7_ok nmX7 rfl (by decide) wq_1174 rfl rfl rfl dX7_bestOrders_2 rfl) <|
  Ok.cons (so_aload_n dX7_bestOrders_5 rfl rfl) <|
  Ok.cons (so_vv0 (ct_X7_tries l) wq_1661 wq_1658 wq_1660 wq_80 wq_95 (by decide +kernel) (by decide) rfl rfl dX7_bestOrders_6 rfl) <|
  Ok.cons (so_aload_n dX7_bestOrders_9 rfl rfl) <|
  Ok.cons (so_gf (C := RX7) (T := TX7) (N := 42) inGX7 rfl (by decide) wq_1215 rfl dX7_bestOrders_10 rfl) <|
  Ok.cons (so_ir rfl dX7_bestOrders_13) <| Ok.nil
theorem ct_X7_bestOrders (l : Launch) : Ct l yX7_bestOrders cX7_bestOrders 1 (some .int) 7 layM f_X7_bestOrders := ofRunL (by decide) rfl (ok_X7_bestOrders l)
noncomputable def t_X7_finishWithSwap : Tbl := [(0, s_al 1 0),
  (1, s_al 2 0),
  (2, s_il 3 1),
  (3, s_ci0 true 6 2 f_X7_isIron),
  (6, s_zeq 9 21),
  (9, s_al 10 0),
  (10, s_il 11 2),
  (11, s_ci0 true 14 2 f_X7_isIron),
  (14, s_zeq 17 21),
  (17, s_ic 18 1),
  (18, s_go 22),
  (21, s_ic 22 0),
  (22, s_ci0 true 25 2 f_X7_checks),
  (25, s_zne 28 30),
  (28, s_ic 29 0),
  (29, s_ir),
  (30, s_al 31 0),
  (31, s_cv0 true 34 1 f_X7_orders),
  (34, s_al 35 0),
  (35, s_il 36 1),
  (36, s_il 37 2),
  (37, s_cv0 true 40 3 f_X7_swaps),
  (40, s_al 41 0),
  (41, s_ci0 true 44 1 f_X7_ends),
  (44, s_ir)]
def cs_X7_finishWithSwap : Cs := [(22, [0, 1, 2])]
noncomputable def f_X7_finishWithSwap : List Vv → Mm → Option Ou := lock (sem t_X7_finishWithSwap cs_X7_finishWithSwap 3)
set_option maxRecDepth 20000 in
theorem ok_X7_finishWithSwap (l : Launch) : Ok l RX7 cX7_finishWithSwap 3 6 (some .int) layM t_X7_finishWithSwap :=
  Ok.cons (so_aload_n dX7_finishWithSwap_0 rfl rfl) <|
  Ok.cons (so_aload_n dX7_finishWithSwap_1 rfl rfl) <|
  Ok.cons (so_iload_n dX7_finishWithSwap_2 rfl rfl) <|
  Ok.cons (so_vi0 (ct_X7_isIron l) wq_1456 wq_1453 wq_1455 wq_58 wq_95 (by decide +kernel) (by decide) rfl rfl dX7_finishWithSwap_3 rfl) <|
  Ok.cons (so_zeq dX7_finishWithSwap_6 (by decide) rfl) <|
  Ok.cons (so_aload_n dX7_finishWithSwap_9 rfl rfl) <|
  Ok.cons (so_iload_n dX7_finishWithSwap_10 rfl rfl) <|
  Ok.cons (so_vi0 (ct_X7_isIron l) wq_1456 wq_1453 wq_1455 wq_58 wq_95 (by decide +kernel) (by decide) rfl rfl dX7_finishWithSwap_11 rfl) <|
  Ok.cons (so_zeq dX7_finishWithSwap_14 (by decide) rfl) <|
  Ok.cons (so_iconst dX7_finishWithSwap_17 (by decide) rfl) <|
  Ok.cons (so_goto dX7_finishWithSwap_18 (by decide)) <|
  Ok.cons (so_iconst dX7_finishWithSwap_21 (by decide) rfl) <|
  Ok.cons (so_vi0 (ct_X7_checks l) wq_1460 wq_1457 wq_1459 wq_59 wq_95 (by decide +kernel) (by decide) rfl rfl dX7_finishWithSwap_22 rfl) <|
  Ok.cons (so_zne dX7_finishWithSwap_25 (by decide) rfl) <|
  Ok.cons (so_iconst dX7_finishWithSwap_28 (by decide) rfl) <|
  Ok.cons (so_ir rfl dX7_finishWithSwap_29) <|
  Ok.cons (so_aload_n dX7_finishWithSwap_30 rfl rfl) <|
  Ok.cons (so_vv0 (ct_X7_orders l) wq_1515 wq_1512 wq_1514 wq_62 wq_95 (by decide +kernel) (by decide) rfl rfl dX7_finishWithSwap_31 rfl) <|
  Ok.cons (so_aload_n dX7_finishWithSwap_34 rfl rfl) <|
  Ok.cons (so_iload_n dX7_finishWithSwap_35 rfl rfl) <|
  Ok.cons (so_iload_n dX7_finishWithSwap_36 rfl rfl) <|
  Ok.cons (so_vv0 (ct_X7_swaps l) wq_1669 wq_1666 wq_1668 wq_82 wq_95 (by decide +kernel) (by decide) rfl rfl dX7_finishWithSwap_37 rfl) <|
  Ok.cons (so_aload_n dX7_finishWithSwap_40 rfl rfl) <|
  Ok.cons (so_vi0 (ct_X7_ends l) wq_1519 wq_1516 wq_1518 wq_63 wq_95 (by decide +kernel) (by decide) rfl rfl dX7_finishWithSwap_41 rfl) <|
  Ok.cons (so_ir rfl dX7_finishWithSwap_44) <| Ok.nil
theorem ct_X7_finishWithSwap (l : Launch) : Ct l yX7_finishWithSwap cX7_finishWithSwap 3 (some .int) 6 layM f_X7_finishWithSwap := ofRunL (by decide) rfl (ok_X7_finishWithSwap l)
noncomputable def t_X7_isMargin : Tbl := [(0, s_il 1 0),
  (1, s_zlt 4 15),
  (4, s_il 5 0),
  (5, s_ic 8 500),
  (8, s_cgt 11 15),
  (11, s_ic 12 1),
  (12, s_go 16),
  (15, s_ic 16 0),
  (16, s_zr)]
def cs_X7_isMargin : Cs := []
noncomputable def f_X7_isMargin : List Vv → Mm → Option Ou := lock (sem t_X7_isMargin cs_X7_isMargin 1)
set_option maxRecDepth 20000 in
theorem ok_X7_isMargin (l : Launch) : Ok l RX7 cX7_isMargin 1 1 (some .boolean) lay0 t_X7_isMargin :=
  Ok.cons (so_iload_n dX7_isMargin_0 rfl rfl) <|
  Ok.cons (so_zlt dX7_isMargin_1 (by decide) rfl) <|
  Ok.cons (so_iload_n dX7_isMargin_4 rfl rfl) <|
  Ok.cons (so_sipush dX7_isMargin_5 (by decide) rfl) <|
  Ok.cons (so_cgt dX7_isMargin_8 (by decide) rfl) <|
  Ok.cons (so_iconst dX7_isMargin_11 (by decide) rfl) <|
  Ok.cons (so_goto dX7_isMargin_12 (by decide)) <|
  Ok.cons (so_iconst dX7_isMargin_15 (by decide) rfl) <|
  Ok.cons (so_zr rfl dX7_isMargin_16) <| Ok.nil
theorem ct_X7_isMargin (l : Launch) : Ct l yX7_isMargin cX7_isMargin 1 (some .boolean) 1 lay0 f_X7_isMargin := ofRunL (by decide) rfl (ok_X7_isMargin l)
noncomputable def t_X7_endsWith : Tbl := [(0, s_al 1 0),
  (1, s_cv0 true 4 1 f_X7_orders),
  (4, s_al 5 0),
  (5, s_il 6 1),
  (6, s_pf 9 layM 7 22),
  (9, s_al 10 0),
  (10, s_ci0 true 13 1 f_X7_ends),
  (13, s_ir)]
def cs_X7_endsWith : Cs := []
noncomputable def f_X7_endsWith : List Vv → Mm → Option Ou := lock (sem t_X7_endsWith cs_X7_endsWith 2)
set_option maxRecDepth 20000 in
theorem ok_X7_endsWith (l : Launch) : Ok l RX7 cX7_endsWith 2 6 (some .int) layM t_X7_endsWith :=
  Ok.cons (so_aload_n dX7_endsWith_0 rfl rfl) <|
  Ok.cons (so_vv0 (ct_X7_orders l) wq_1515 wq_1512 wq_1514 wq_62 wq_95 (by decide +kernel) (by decide) rfl rfl dX7_endsWith_1 rfl) <|
  Ok.cons (so_aload_n dX7_endsWith_4 rfl rfl) <|
  Ok.cons (so_iload_n dX7_endsWith_5 rfl rfl) <|
  Ok.cons (so_pf (C := RX7) (T := TX7) (N := 42) inGX7 tyX7_ok nmX7 rfl (by decide) wq_1196 rfl rfl rfl dX7_endsWith_6 rfl) <|
  Ok.cons (so_aload_n dX7_endsWith_9 rfl rfl) <|
  Ok.cons (so_vi0 (ct_X7_ends l) wq_1519 wq_1516 wq_1518 wq_63 wq_95 (by decide +kernel) (by decide) rfl rfl dX7_endsWith_10 rfl) <|
  Ok.cons (so_ir rfl dX7_endsWith_13) <| Ok.nil
theorem ct_X7_endsWith (l : Launch) : Ct l yX7_endsWith cX7_endsWith 2 (some .int) 6 layM f_X7_endsWith := ofRunL (by decide) rfl (ok_X7_endsWith l)
noncomputable def t_X7_finishWithMargin : Tbl := [(0, s_al 1 0),
  (1, s_ic 2 0),
  (2, s_pf 5 layM 7 0),
  (5, s_il 6 1),
  (6, s_ci false 9 1 (sg0) f_X7_isMargin),
  (9, s_zeq 12 20),
  (12, s_al 13 0),
  (13, s_il 14 1),
  (14, s_ci0 true 17 2 f_X7_endsWith),
  (17, s_go 22),
  (20, s_ic 22 (-2)),
  (22, s_ir)]
def cs_X7_finishWithMargin : Cs := []
noncomputable def f_X7_finishWithMargin : List Vv → Mm → Option Ou := lock (sem t_X7_finishWithMargin cs_X7_finishWithMargin 2)
set_option maxRecDepth 20000 in
theorem ok_X7_finishWithMargin (l : Launch) : Ok l RX7 cX7_finishWithMargin 2 7 (some .int) layM t_X7_finishWithMargin :=
  Ok.cons (so_aload_n dX7_finishWithMargin_0 rfl rfl) <|
  Ok.cons (so_iconst dX7_finishWithMargin_1 (by decide) rfl) <|
  Ok.cons (so_pf (C := RX7) (T := TX7) (N := 42) inGX7 tyX7_ok nmX7 rfl (by decide) wq_1174 rfl rfl rfl dX7_finishWithMargin_2 rfl) <|
  Ok.cons (so_iload_n dX7_finishWithMargin_5 rfl rfl) <|
  Ok.cons (so_si (ct_X7_isMargin l) wq_1688 wq_1686 wq_1687 wq_95 (by decide +kernel) (by decide) cmp_layM_sg0 dX7_finishWithMargin_6 rfl) <|
  Ok.cons (so_zeq dX7_finishWithMargin_9 (by decide) rfl) <|
  Ok.cons (so_aload_n dX7_finishWithMargin_12 rfl rfl) <|
  Ok.cons (so_iload_n dX7_finishWithMargin_13 rfl rfl) <|
  Ok.cons (so_vi0 (ct_X7_endsWith l) wq_1692 wq_1689 wq_1691 wq_83 wq_95 (by decide +kernel) (by decide) rfl rfl dX7_finishWithMargin_14 rfl) <|
  Ok.cons (so_goto dX7_finishWithMargin_17 (by decide)) <|
  Ok.cons (so_bipush dX7_finishWithMargin_20 (by decide) rfl) <|
  Ok.cons (so_ir rfl dX7_finishWithMargin_22) <| Ok.nil
theorem ct_X7_finishWithMargin (l : Launch) : Ct l yX7_finishWithMargin cX7_finishWithMargin 2 (some .int) 7 layM f_X7_finishWithMargin := ofRunL (by decide) rfl (ok_X7_finishWithMargin l)
noncomputable def t_X7_bestMargin : Tbl := [(0, s_al 1 0),
  (1, s_ic 2 0),
  (2, s_pf 5 layM 7 0),
  (5, s_ic 6 (-1)),
  (6, s_is 7 1),
  (7, s_ic 8 0),
  (8, s_is 9 2),
  (9, s_ic 10 0),
  (10, s_is 11 3),
  (11, s_il 12 3),
  (12, s_ic 15 500),
  (15, s_cgt 18 56),
  (18, s_al 19 0),
  (19, s_il 20 3),
  (20, s_ci0 true 23 2 f_X7_endsWith),
  (23, s_is 25 4),
  (25, s_il 27 4),
  (27, s_ic 28 (-1)),
  (28, s_ceq 31 50),
  (31, s_il 32 1),
  (32, s_ic 33 (-1)),
  (33, s_ceq 36 45),
  (36, s_il 38 4),
  (38, s_il 39 2),
  (39, s_clt 42 45),
  (42, s_go 50),
  (45, s_il 46 3),
  (46, s_is 47 1),
  (47, s_il 49 4),
  (49, s_is 50 2),
  (50, s_in 53 3 10),
  (53, s_go 11),
  (56, s_il 57 1),
  (57, s_ir)]
def cs_X7_bestMargin : Cs := [(11, [0, 1, 2, 3])]
noncomputable def f_X7_bestMargin : List Vv → Mm → Option Ou := lock (sem t_X7_bestMargin cs_X7_bestMargin 5)
set_option maxRecDepth 20000 in
theorem ok_X7_bestMargin (l : Launch) : Ok l RX7 cX7_bestMargin 5 7 (some .int) layM t_X7_bestMargin :=
  Ok.cons (so_aload_n dX7_bestMargin_0 rfl rfl) <|
  Ok.cons (so_iconst dX7_bestMargin_1 (by decide) rfl) <|
  Ok.cons (so_pf (C := RX7) (T := TX7) (N := 42) inGX7 tyX7_ok nmX7 rfl (by decide) wq_1174 rfl rfl rfl dX7_bestMargin_2 rfl) <|
  Ok.cons (so_iconst dX7_bestMargin_5 (by decide) rfl) <|
  Ok.cons (so_istore_n dX7_bestMargin_6 rfl (by decide) rfl) <|
  Ok.cons (so_iconst dX7_bestMargin_7 (by decide) rfl) <|
  Ok.cons (so_istore_n dX7_bestMargin_8 rfl (by decide) rfl) <|
  Ok.cons (so_iconst dX7_bestMargin_9 (by decide) rfl) <|
  Ok.cons (so_istore_n dX7_bestMargin_10 rfl (by decide) rfl) <|
  Ok.cons (so_iload_n dX7_bestMargin_11 rfl rfl) <|
  Ok.cons (so_sipush dX7_bestMargin_12 (by decide) rfl) <|
  Ok.cons (so_cgt dX7_bestMargin_15 (by decide) rfl) <|
  Ok.cons (so_aload_n dX7_bestMargin_18 rfl rfl) <|
  Ok.cons (so_iload_n dX7_bestMargin_19 rfl rfl) <|
  Ok.cons (so_vi0 (ct_X7_endsWith l) wq_1692 wq_1689 wq_1691 wq_83 wq_95 (by decide +kernel) (by decide) rfl rfl dX7_bestMargin_20 rfl) <|
  Ok.cons (so_istore dX7_bestMargin_23 (by decide) rfl) <|
  Ok.cons (so_iload dX7_bestMargin_25 rfl) <|
  Ok.cons (so_iconst dX7_bestMargin_27 (by decide) rfl) <|
  Ok.cons (so_ceq dX7_bestMargin_28 (by decide) rfl) <|
  Ok.cons (so_iload_n dX7_bestMargin_31 rfl rfl) <|
  Ok.cons (so_iconst dX7_bestMargin_32 (by decide) rfl) <|
  Ok.cons (so_ceq dX7_bestMargin_33 (by decide) rfl) <|
  Ok.cons (so_iload dX7_bestMargin_36 rfl) <|
  Ok.cons (so_iload_n dX7_bestMargin_38 rfl rfl) <|
  Ok.cons (so_clt dX7_bestMargin_39 (by decide) rfl) <|
  Ok.cons (so_goto dX7_bestMargin_42 (by decide)) <|
  Ok.cons (so_iload_n dX7_bestMargin_45 rfl rfl) <|
  Ok.cons (so_istore_n dX7_bestMargin_46 rfl (by decide) rfl) <|
  Ok.cons (so_iload dX7_bestMargin_47 rfl) <|
  Ok.cons (so_istore_n dX7_bestMargin_49 rfl (by decide) rfl) <|
  Ok.cons (so_iinc dX7_bestMargin_50 (by decide) (by decide) rfl) <|
  Ok.cons (so_goto dX7_bestMargin_53 (by decide)) <|
  Ok.cons (so_iload_n dX7_bestMargin_56 rfl rfl) <|
  Ok.cons (so_ir rfl dX7_bestMargin_57) <| Ok.nil
theorem ct_X7_bestMargin (l : Launch) : Ct l yX7_bestMargin cX7_bestMargin 5 (some .int) 7 layM f_X7_bestMargin := ofRunL (by decide) rfl (ok_X7_bestMargin l)
noncomputable def t_X7_finishWithoutPlace : Tbl := [(0, s_al 1 0),
  (1, s_al 2 0),
  (2, s_il 3 1),
  (3, s_ci0 true 6 2 f_X7_isPlace),
  (6, s_ci0 true 9 2 f_X7_checks),
  (9, s_zne 12 14),
  (12, s_ic 13 0),
  (13, s_ir),
  (14, s_al 15 0),
  (15, s_cv0 true 18 1 f_X7_orders),
  (18, s_al 19 0),
  (19, s_il 20 1),
  (20, s_pf 23 layM 7 23),
  (23, s_al 24 0),
  (24, s_ci0 true 27 1 f_X7_ends),
  (27, s_ir)]
def cs_X7_finishWithoutPlace : Cs := []
noncomputable def f_X7_finishWithoutPlace : List Vv → Mm → Option Ou := lock (sem t_X7_finishWithoutPlace cs_X7_finishWithoutPlace 2)
set_option maxRecDepth 20000 in
theorem ok_X7_finishWithoutPlace (l : Launch) : Ok l RX7 cX7_finishWithoutPlace 2 6 (some .int) layM t_X7_finishWithoutPlace :=
  Ok.cons (so_aload_n dX7_finishWithoutPlace_0 rfl rfl) <|
  Ok.cons (so_aload_n dX7_finishWithoutPlace_1 rfl rfl) <|
  Ok.cons (so_iload_n dX7_finishWithoutPlace_2 rfl rfl) <|
  Ok.cons (so_vi0 (ct_X7_isPlace l) wq_1488 wq_1485 wq_1487 wq_61 wq_95 (by decide +kernel) (by decide) rfl rfl dX7_finishWithoutPlace_3 rfl) <|
  Ok.cons (so_vi0 (ct_X7_checks l) wq_1460 wq_1457 wq_1459 wq_59 wq_95 (by decide +kernel) (by decide) rfl rfl dX7_finishWithoutPlace_6 rfl) <|
  Ok.cons (so_zne dX7_finishWithoutPlace_9 (by decide) rfl) <|
  Ok.cons (so_iconst dX7_finishWithoutPlace_12 (by decide) rfl) <|
  Ok.cons (so_ir rfl dX7_finishWithoutPlace_13) <|
  Ok.cons (so_aload_n dX7_finishWithoutPlace_14 rfl rfl) <|
  Ok.cons (so_vv0 (ct_X7_orders l) wq_1515 wq_1512 wq_1514 wq_62 wq_95 (by decide +kernel) (by decide) rfl rfl dX7_finishWithoutPlace_15 rfl) <|
  Ok.cons (so_aload_n dX7_finishWithoutPlace_18 rfl rfl) <|
  Ok.cons (so_iload_n dX7_finishWithoutPlace_19 rfl rfl) <|
  Ok.cons (so_pf (C := RX7) (T := TX7) (N := 42) inGX7 tyX7_ok nmX7 rfl (by decide) wq_1197 rfl rfl rfl dX7_finishWithoutPlace_20 rfl) <|
  Ok.cons (so_aload_n dX7_finishWithoutPlace_23 rfl rfl) <|
  Ok.cons (so_vi0 (ct_X7_ends l) wq_1519 wq_1516 wq_1518 wq_63 wq_95 (by decide +kernel) (by decide) rfl rfl dX7_finishWithoutPlace_24 rfl) <|
  Ok.cons (so_ir rfl dX7_finishWithoutPlace_27) <| Ok.nil
theorem ct_X7_finishWithoutPlace (l : Launch) : Ct l yX7_finishWithoutPlace cX7_finishWithoutPlace 2 (some .int) 6 layM f_X7_finishWithoutPlace := ofRunL (by decide) rfl (ok_X7_finishWithoutPlace l)
noncomputable def t_X7_finishWithoutIron : Tbl := [(0, s_al 1 0),
  (1, s_al 2 0),
  (2, s_il 3 1),
  (3, s_ci0 true 6 2 f_X7_isIron),
  (6, s_ci0 true 9 2 f_X7_checks),
  (9, s_zne 12 14),
  (12, s_ic 13 0),
  (13, s_ir),
  (14, s_al 15 0),
  (15, s_cv0 true 18 1 f_X7_orders),
  (18, s_ic 19 0),
  (19, s_is 20 2),
  (20, s_ic 21 0),
  (21, s_is 22 3),
  (22, s_il 23 3),
  (23, s_al 24 0),
  (24, s_gf 27 layM 7 21),
  (27, s_cge 30 64),
  (30, s_al 31 0),
  (31, s_gf 34 layM 7 20),
  (34, s_il 35 3),
  (35, s_ia 36 layM 0),
  (36, s_il 37 1),
  (37, s_cne 40 43),
  (40, s_go 58),
  (43, s_al 44 0),
  (44, s_gf 47 layM 7 20),
  (47, s_il 48 2),
  (48, s_al 49 0),
  (49, s_gf 52 layM 7 20),
  (52, s_il 53 3),
  (53, s_ia 54 layM 0),
  (54, s_ix 55 layM 0),
  (55, s_in 58 2 1),
  (58, s_in 61 3 1),
  (61, s_go 22),
  (64, s_al 65 0),
  (65, s_il 66 2),
  (66, s_pf 69 layM 7 21),
  (69, s_al 70 0),
  (70, s_ci0 true 73 1 f_X7_ends),
  (73, s_ir)]
def cs_X7_finishWithoutIron : Cs := [(22, [0, 1, 2, 3])]
noncomputable def f_X7_finishWithoutIron : List Vv → Mm → Option Ou := lock (sem t_X7_finishWithoutIron cs_X7_finishWithoutIron 4)
set_option maxRecDepth 20000 in
theorem ok_X7_finishWithoutIron (l : Launch) : Ok l RX7 cX7_finishWithoutIron 4 6 (some .int) layM t_X7_finishWithoutIron :=
  Ok.cons (so_aload_n dX7_finishWithoutIron_0 rfl rfl) <|
  Ok.cons (so_aload_n dX7_finishWithoutIron_1 rfl rfl) <|
  Ok.cons (so_iload_n dX7_finishWithoutIron_2 rfl rfl) <|
  Ok.cons (so_vi0 (ct_X7_isIron l) wq_1456 wq_1453 wq_1455 wq_58 wq_95 (by decide +kernel) (by decide) rfl rfl dX7_finishWithoutIron_3 rfl) <|
  Ok.cons (so_vi0 (ct_X7_checks l) wq_1460 wq_1457 wq_1459 wq_59 wq_95 (by decide +kernel) (by decide) rfl rfl dX7_finishWithoutIron_6 rfl) <|
  Ok.cons (so_zne dX7_finishWithoutIron_9 (by decide) rfl) <|
  Ok.cons (so_iconst dX7_finishWithoutIron_12 (by decide) rfl) <|
  Ok.cons (so_ir rfl dX7_finishWithoutIron_13) <|
  Ok.cons (so_aload_n dX7_finishWithoutIron_14 rfl rfl) <|
  Ok.cons (so_vv0 (ct_X7_orders l) wq_1515 wq_1512 wq_1514 wq_62 wq_95 (by decide +kernel) (by decide) rfl rfl dX7_finishWithoutIron_15 rfl) <|
  Ok.cons (so_iconst dX7_finishWithoutIron_18 (by decide) rfl) <|
  Ok.cons (so_istore_n dX7_finishWithoutIron_19 rfl (by decide) rfl) <|
  Ok.cons (so_iconst dX7_finishWithoutIron_20 (by decide) rfl) <|
  Ok.cons (so_istore_n dX7_finishWithoutIron_21 rfl (by decide) rfl) <|
  Ok.cons (so_iload_n dX7_finishWithoutIron_22 rfl rfl) <|
  Ok.cons (so_aload_n dX7_finishWithoutIron_23 rfl rfl) <|
  Ok.cons (so_gf (C := RX7) (T := TX7) (N := 42) inGX7 rfl (by decide) wq_1195 rfl dX7_finishWithoutIron_24 rfl) <|
  Ok.cons (so_cge dX7_finishWithoutIron_27 (by decide) rfl) <|
  Ok.cons (so_aload_n dX7_finishWithoutIron_30 rfl rfl) <|
  Ok.cons (so_gf (C := RX7) (T := TX7) (N := 42) inGX7 rfl (by decide) wq_1194 rfl dX7_finishWithoutIron_31 rfl) <|
  Ok.cons (so_iload_n dX7_finishWithoutIron_34 rfl rfl) <|
  Ok.cons (so_ia0 dX7_finishWithoutIron_35 rfl) <|
  Ok.cons (so_iload_n dX7_finishWithoutIron_36 rfl rfl) <|
  Ok.cons (so_cne dX7_finishWithoutIron_37 (by decide) rfl) <|
  Ok.cons (so_goto dX7_finishWithoutIron_40 (by decide)) <|
  Ok.cons (so_aload_n dX7_finishWithoutIron_43 rfl rfl) <|
  Ok.cons (so_gf (C := RX7) (T := TX7) (N := 42) inGX7 rfl (by decide) wq_1194 rfl dX7_finishWithoutIron_44 rfl) <|
  Ok.cons (so_iload_n dX7_finishWithoutIron_47 rfl rfl) <|
  Ok.cons (so_aload_n dX7_finishWithoutIron_48 rfl rfl) <|
  Ok.cons (so_gf (C := RX7) (T := TX7) (N := 42) inGX7 rfl (by decide) wq_1194 rfl dX7_finishWithoutIron_49 rfl) <|
  Ok.cons (so_iload_n dX7_finishWithoutIron_52 rfl rfl) <|
  Ok.cons (so_ia0 dX7_finishWithoutIron_53 rfl) <|
  Ok.cons (so_ix dX7_finishWithoutIron_54 rfl) <|
  Ok.cons (so_iinc dX7_finishWithoutIron_55 (by decide) (by decide) rfl) <|
  Ok.cons (so_iinc dX7_finishWithoutIron_58 (by decide) (by decide) rfl) <|
  Ok.cons (so_goto dX7_finishWithoutIron_61 (by decide)) <|
  Ok.cons (so_aload_n dX7_finishWithoutIron_64 rfl rfl) <|
  Ok.cons (so_iload_n dX7_finishWithoutIron_65 rfl rfl) <|
  Ok.cons (so_pf (C := RX7) (T := TX7) (N := 42) inGX7 tyX7_ok nmX7 rfl (by decide) wq_1195 rfl rfl rfl dX7_finishWithoutIron_66 rfl) <|
  Ok.cons (so_aload_n dX7_finishWithoutIron_69 rfl rfl) <|
  Ok.cons (so_vi0 (ct_X7_ends l) wq_1519 wq_1516 wq_1518 wq_63 wq_95 (by decide +kernel) (by decide) rfl rfl dX7_finishWithoutIron_70 rfl) <|
  Ok.cons (so_ir rfl dX7_finishWithoutIron_73) <| Ok.nil
theorem ct_X7_finishWithoutIron (l : Launch) : Ct l yX7_finishWithoutIron cX7_finishWithoutIron 4 (some .int) 6 layM f_X7_finishWithoutIron := ofRunL (by decide) rfl (ok_X7_finishWithoutIron l)
noncomputable def t_X7_finishAlone : Tbl := [(0, s_al 1 0),
  (1, s_al 2 0),
  (2, s_il 3 1),
  (3, s_ci0 true 6 2 f_X7_isIron),
  (6, s_ci0 true 9 2 f_X7_checks),
  (9, s_zne 12 14),
  (12, s_ic 13 0),
  (13, s_ir),
  (14, s_al 15 0),
  (15, s_cv0 true 18 1 f_X7_orders),
  (18, s_al 19 0),
  (19, s_gf 22 layM 7 20),
  (22, s_ic 23 0),
  (23, s_il 24 1),
  (24, s_ix 25 layM 0),
  (25, s_al 26 0),
  (26, s_ic 27 1),
  (27, s_pf 30 layM 7 21),
  (30, s_al 31 0),
  (31, s_ci0 true 34 1 f_X7_ends),
  (34, s_ir)]
def cs_X7_finishAlone : Cs := []
noncomputable def f_X7_finishAlone : List Vv → Mm → Option Ou := lock (sem t_X7_finishAlone cs_X7_finishAlone 2)
set_option maxRecDepth 20000 in
theorem ok_X7_finishAlone (l : Launch) : Ok l RX7 cX7_finishAlone 2 6 (some .int) layM t_X7_finishAlone :=
  Ok.cons (so_aload_n dX7_finishAlone_0 rfl rfl) <|
  Ok.cons (so_aload_n dX7_finishAlone_1 rfl rfl) <|
  Ok.cons (so_iload_n dX7_finishAlone_2 rfl rfl) <|
  Ok.cons (so_vi0 (ct_X7_isIron l) wq_1456 wq_1453 wq_1455 wq_58 wq_95 (by decide +kernel) (by decide) rfl rfl dX7_finishAlone_3 rfl) <|
  Ok.cons (so_vi0 (ct_X7_checks l) wq_1460 wq_1457 wq_1459 wq_59 wq_95 (by decide +kernel) (by decide) rfl rfl dX7_finishAlone_6 rfl) <|
  Ok.cons (so_zne dX7_finishAlone_9 (by decide) rfl) <|
  Ok.cons (so_iconst dX7_finishAlone_12 (by decide) rfl) <|
  Ok.cons (so_ir rfl dX7_finishAlone_13) <|
  Ok.cons (so_aload_n dX7_finishAlone_14 rfl rfl) <|
  Ok.cons (so_vv0 (ct_X7_orders l) wq_1515 wq_1512 wq_1514 wq_62 wq_95 (by decide +kernel) (by decide) rfl rfl dX7_finishAlone_15 rfl) <|
  Ok.cons (so_aload_n dX7_finishAlone_18 rfl rfl) <|
  Ok.cons (so_gf (C := RX7) (T := TX7) (N := 42) inGX7 rfl (by decide) wq_1194 rfl dX7_finishAlone_19 rfl) <|
  Ok.cons (so_iconst dX7_finishAlone_22 (by decide) rfl) <|
  Ok.cons (so_iload_n dX7_finishAlone_23 rfl rfl) <|
  Ok.cons (so_ix dX7_finishAlone_24 rfl) <|
  Ok.cons (so_aload_n dX7_finishAlone_25 rfl rfl) <|
  Ok.cons (so_iconst dX7_finishAlone_26 (by decide) rfl) <|
  Ok.cons (so_pf (C := RX7) (T := TX7) (N := 42) inGX7 tyX7_ok nmX7 rfl (by decide) wq_1195 rfl rfl rfl dX7_finishAlone_27 rfl) <|
  Ok.cons (so_aload_n dX7_finishAlone_30 rfl rfl) <|
  Ok.cons (so_vi0 (ct_X7_ends l) wq_1519 wq_1516 wq_1518 wq_63 wq_95 (by decide +kernel) (by decide) rfl rfl dX7_finishAlone_31 rfl) <|
  Ok.cons (so_ir rfl dX7_finishAlone_34) <| Ok.nil
theorem ct_X7_finishAlone (l : Launch) : Ct l yX7_finishAlone cX7_finishAlone 2 (some .int) 6 layM f_X7_finishAlone := ofRunL (by decide) rfl (ok_X7_finishAlone l)
noncomputable def t_X7_endsIf : Tbl := [(0, s_al 1 0),
  (1, s_gf 4 layM 7 5),
  (4, s_il 5 1),
  (5, s_ia 6 layM 0),
  (6, s_is 7 3),
  (7, s_al 8 0),
  (8, s_gf 11 layM 7 5),
  (11, s_il 12 1),
  (12, s_il 13 2),
  (13, s_ix 14 layM 0),
  (14, s_al 15 0),
  (15, s_cv0 true 18 1 f_X7_orders),
  (18, s_al 19 0),
  (19, s_ci0 true 22 1 f_X7_ends),
  (22, s_is 24 4),
  (24, s_al 25 0),
  (25, s_gf 28 layM 7 5),
  (28, s_il 29 1),
  (29, s_il 30 3),
  (30, s_ix 31 layM 0),
  (31, s_il 33 4),
  (33, s_ir)]
def cs_X7_endsIf : Cs := []
noncomputable def f_X7_endsIf : List Vv → Mm → Option Ou := lock (sem t_X7_endsIf cs_X7_endsIf 5)
set_option maxRecDepth 20000 in
theorem ok_X7_endsIf (l : Launch) : Ok l RX7 cX7_endsIf 5 6 (some .int) layM t_X7_endsIf :=
  Ok.cons (so_aload_n dX7_endsIf_0 rfl rfl) <|
  Ok.cons (so_gf (C := RX7) (T := TX7) (N := 42) inGX7 rfl (by decide) wq_1179 rfl dX7_endsIf_1 rfl) <|
  Ok.cons (so_iload_n dX7_endsIf_4 rfl rfl) <|
  Ok.cons (so_ia0 dX7_endsIf_5 rfl) <|
  Ok.cons (so_istore_n dX7_endsIf_6 rfl (by decide) rfl) <|
  Ok.cons (so_aload_n dX7_endsIf_7 rfl rfl) <|
  Ok.cons (so_gf (C := RX7) (T := TX7) (N := 42) inGX7 rfl (by decide) wq_1179 rfl dX7_endsIf_8 rfl) <|
  Ok.cons (so_iload_n dX7_endsIf_11 rfl rfl) <|
  Ok.cons (so_iload_n dX7_endsIf_12 rfl rfl) <|
  Ok.cons (so_ix dX7_endsIf_13 rfl) <|
  Ok.cons (so_aload_n dX7_endsIf_14 rfl rfl) <|
  Ok.cons (so_vv0 (ct_X7_orders l) wq_1515 wq_1512 wq_1514 wq_62 wq_95 (by decide +kernel) (by decide) rfl rfl dX7_endsIf_15 rfl) <|
  Ok.cons (so_aload_n dX7_endsIf_18 rfl rfl) <|
  Ok.cons (so_vi0 (ct_X7_ends l) wq_1519 wq_1516 wq_1518 wq_63 wq_95 (by decide +kernel) (by decide) rfl rfl dX7_endsIf_19 rfl) <|
  Ok.cons (so_istore dX7_endsIf_22 (by decide) rfl) <|
  Ok.cons (so_aload_n dX7_endsIf_24 rfl rfl) <|
  Ok.cons (so_gf (C := RX7) (T := TX7) (N := 42) inGX7 rfl (by decide) wq_1179 rfl dX7_endsIf_25 rfl) <|
  Ok.cons (so_iload_n dX7_endsIf_28 rfl rfl) <|
  Ok.cons (so_iload_n dX7_endsIf_29 rfl rfl) <|
  Ok.cons (so_ix dX7_endsIf_30 rfl) <|
  Ok.cons (so_iload dX7_endsIf_31 rfl) <|
  Ok.cons (so_ir rfl dX7_endsIf_33) <| Ok.nil
theorem ct_X7_endsIf (l : Launch) : Ct l yX7_endsIf cX7_endsIf 5 (some .int) 6 layM f_X7_endsIf := ofRunL (by decide) rfl (ok_X7_endsIf l)
noncomputable def t_X7_finishWithAnvils : Tbl := [(0, s_al 1 0),
  (1, s_ic 2 0),
  (2, s_pf 5 layM 7 0),
  (5, s_il 6 1),
  (6, s_ic 7 1),
  (7, s_clt 10 25),
  (10, s_il 11 1),
  (11, s_ic 12 3),
  (12, s_cgt 15 25),
  (15, s_al 16 0),
  (16, s_ic 18 78),
  (18, s_il 19 1),
  (19, s_ci0 true 22 3 f_X7_endsIf),
  (22, s_go 27),
  (25, s_ic 27 (-2)),
  (27, s_ir)]
def cs_X7_finishWithAnvils : Cs := []
noncomputable def f_X7_finishWithAnvils : List Vv → Mm → Option Ou := lock (sem t_X7_finishWithAnvils cs_X7_finishWithAnvils 2)
set_option maxRecDepth 20000 in
theorem ok_X7_finishWithAnvils (l : Launch) : Ok l RX7 cX7_finishWithAnvils 2 7 (some .int) layM t_X7_finishWithAnvils :=
  Ok.cons (so_aload_n dX7_finishWithAnvils_0 rfl rfl) <|
  Ok.cons (so_iconst dX7_finishWithAnvils_1 (by decide) rfl) <|
  Ok.cons (so_pf (C := RX7) (T := TX7) (N := 42) inGX7 tyX7_ok nmX7 rfl (by decide) wq_1174 rfl rfl rfl dX7_finishWithAnvils_2 rfl) <|
  Ok.cons (so_iload_n dX7_finishWithAnvils_5 rfl rfl) <|
  Ok.cons (so_iconst dX7_finishWithAnvils_6 (by decide) rfl) <|
  Ok.cons (so_clt dX7_finishWithAnvils_7 (by decide) rfl) <|
  Ok.cons (so_iload_n dX7_finishWithAnvils_10 rfl rfl) <|
  Ok.cons (so_iconst dX7_finishWithAnvils_11 (by decide) rfl) <|
  Ok.cons (so_cgt dX7_finishWithAnvils_12 (by decide) rfl) <|
  Ok.cons (so_aload_n dX7_finishWithAnvils_15 rfl rfl) <|
  Ok.cons (so_bipush dX7_finishWithAnvils_16 (by decide) rfl) <|
  Ok.cons (so_iload_n dX7_finishWithAnvils_18 rfl rfl) <|
  Ok.cons (so_vi0 (ct_X7_endsIf l) wq_1716 wq_1713 wq_1715 wq_84 wq_95 (by decide +kernel) (by decide) rfl rfl dX7_finishWithAnvils_19 rfl) <|
  Ok.cons (so_goto dX7_finishWithAnvils_22 (by decide)) <|
  Ok.cons (so_bipush dX7_finishWithAnvils_25 (by decide) rfl) <|
  Ok.cons (so_ir rfl dX7_finishWithAnvils_27) <| Ok.nil
theorem ct_X7_finishWithAnvils (l : Launch) : Ct l yX7_finishWithAnvils cX7_finishWithAnvils 2 (some .int) 7 layM f_X7_finishWithAnvils := ofRunL (by decide) rfl (ok_X7_finishWithAnvils l)
noncomputable def t_X7_bestRule : Tbl := [(0, s_al 1 0),
  (1, s_ic 2 0),
  (2, s_pf 5 layM 7 0),
  (5, s_ic 6 (-1)),
  (6, s_is 7 1),
  (7, s_ic 8 0),
  (8, s_is 9 2),
  (9, s_ic 10 0),
  (10, s_is 11 3),
  (11, s_il 12 3),
  (12, s_ic 13 3),
  (13, s_cge 16 56),
  (16, s_al 17 0),
  (17, s_ic 19 80),
  (19, s_il 20 3),
  (20, s_ci0 true 23 3 f_X7_endsIf),
  (23, s_is 25 4),
  (25, s_il 27 4),
  (27, s_ic 28 (-1)),
  (28, s_ceq 31 50),
  (31, s_il 32 1),
  (32, s_ic 33 (-1)),
  (33, s_ceq 36 45),
  (36, s_il 38 4),
  (38, s_il 39 2),
  (39, s_clt 42 45),
  (42, s_go 50),
  (45, s_il 46 3),
  (46, s_is 47 1),
  (47, s_il 49 4),
  (49, s_is 50 2),
  (50, s_in 53 3 1),
  (53, s_go 11),
  (56, s_il 57 1),
  (57, s_ir)]
def cs_X7_bestRule : Cs := [(11, [0, 1, 2, 3])]
noncomputable def f_X7_bestRule : List Vv → Mm → Option Ou := lock (sem t_X7_bestRule cs_X7_bestRule 5)
set_option maxRecDepth 20000 in
theorem ok_X7_bestRule (l : Launch) : Ok l RX7 cX7_bestRule 5 7 (some .int) layM t_X7_bestRule :=
  Ok.cons (so_aload_n dX7_bestRule_0 rfl rfl) <|
  Ok.cons (so_iconst dX7_bestRule_1 (by decide) rfl) <|
  Ok.cons (so_pf (C := RX7) (T := TX7) (N := 42) inGX7 tyX7_ok nmX7 rfl (by decide) wq_1174 rfl rfl rfl dX7_bestRule_2 rfl) <|
  Ok.cons (so_iconst dX7_bestRule_5 (by decide) rfl) <|
  Ok.cons (so_istore_n dX7_bestRule_6 rfl (by decide) rfl) <|
  Ok.cons (so_iconst dX7_bestRule_7 (by decide) rfl) <|
  Ok.cons (so_istore_n dX7_bestRule_8 rfl (by decide) rfl) <|
  Ok.cons (so_iconst dX7_bestRule_9 (by decide) rfl) <|
  Ok.cons (so_istore_n dX7_bestRule_10 rfl (by decide) rfl) <|
  Ok.cons (so_iload_n dX7_bestRule_11 rfl rfl) <|
  Ok.cons (so_iconst dX7_bestRule_12 (by decide) rfl) <|
  Ok.cons (so_cge dX7_bestRule_13 (by decide) rfl) <|
  Ok.cons (so_aload_n dX7_bestRule_16 rfl rfl) <|
  Ok.cons (so_bipush dX7_bestRule_17 (by decide) rfl) <|
  Ok.cons (so_iload_n dX7_bestRule_19 rfl rfl) <|
  Ok.cons (so_vi0 (ct_X7_endsIf l) wq_1716 wq_1713 wq_1715 wq_84 wq_95 (by decide +kernel) (by decide) rfl rfl dX7_bestRule_20 rfl) <|
  Ok.cons (so_istore dX7_bestRule_23 (by decide) rfl) <|
  Ok.cons (so_iload dX7_bestRule_25 rfl) <|
  Ok.cons (so_iconst dX7_bestRule_27 (by decide) rfl) <|
  Ok.cons (so_ceq dX7_bestRule_28 (by decide) rfl) <|
  Ok.cons (so_iload_n dX7_bestRule_31 rfl rfl) <|
  Ok.cons (so_iconst dX7_bestRule_32 (by decide) rfl) <|
  Ok.cons (so_ceq dX7_bestRule_33 (by decide) rfl) <|
  Ok.cons (so_iload dX7_bestRule_36 rfl) <|
  Ok.cons (so_iload_n dX7_bestRule_38 rfl rfl) <|
  Ok.cons (so_clt dX7_bestRule_39 (by decide) rfl) <|
  Ok.cons (so_goto dX7_bestRule_42 (by decide)) <|
  Ok.cons (so_iload_n dX7_bestRule_45 rfl rfl) <|
  Ok.cons (so_istore_n dX7_bestRule_46 rfl (by decide) rfl) <|
  Ok.cons (so_iload dX7_bestRule_47 rfl) <|
  Ok.cons (so_istore_n dX7_bestRule_49 rfl (by decide) rfl) <|
  Ok.cons (so_iinc dX7_bestRule_50 (by decide) (by decide) rfl) <|
  Ok.cons (so_goto dX7_bestRule_53 (by decide)) <|
  Ok.cons (so_iload_n dX7_bestRule_56 rfl rfl) <|
  Ok.cons (so_ir rfl dX7_bestRule_57) <| Ok.nil
theorem ct_X7_bestRule (l : Launch) : Ct l yX7_bestRule cX7_bestRule 5 (some .int) 7 layM f_X7_bestRule := ofRunL (by decide) rfl (ok_X7_bestRule l)
noncomputable def t_X7_finishWithRate : Tbl := [(0, s_al 1 0),
  (1, s_al 2 0),
  (2, s_il 3 1),
  (3, s_ci0 true 6 2 f_X7_isPlace),
  (6, s_ci0 true 9 2 f_X7_checks),
  (9, s_zne 12 14),
  (12, s_ic 13 0),
  (13, s_ir),
  (14, s_il 15 2),
  (15, s_ic 16 1),
  (16, s_clt 19 38),
  (19, s_il 20 2),
  (20, s_ic 23 2000),
  (23, s_cgt 26 38),
  (26, s_al 27 0),
  (27, s_ic 29 66),
  (29, s_il 30 1),
  (30, s_b 31 (fun x y => x + y)),
  (31, s_il 32 2),
  (32, s_ci0 true 35 3 f_X7_endsIf),
  (35, s_go 40),
  (38, s_ic 40 (-2)),
  (40, s_ir)]
def cs_X7_finishWithRate : Cs := []
noncomputable def f_X7_finishWithRate : List Vv → Mm → Option Ou := lock (sem t_X7_finishWithRate cs_X7_finishWithRate 3)
set_option maxRecDepth 20000 in
theorem ok_X7_finishWithRate (l : Launch) : Ok l RX7 cX7_finishWithRate 3 7 (some .int) layM t_X7_finishWithRate :=
  Ok.cons (so_aload_n dX7_finishWithRate_0 rfl rfl) <|
  Ok.cons (so_aload_n dX7_finishWithRate_1 rfl rfl) <|
  Ok.cons (so_iload_n dX7_finishWithRate_2 rfl rfl) <|
  Ok.cons (so_vi0 (ct_X7_isPlace l) wq_1488 wq_1485 wq_1487 wq_61 wq_95 (by decide +kernel) (by decide) rfl rfl dX7_finishWithRate_3 rfl) <|
  Ok.cons (so_vi0 (ct_X7_checks l) wq_1460 wq_1457 wq_1459 wq_59 wq_95 (by decide +kernel) (by decide) rfl rfl dX7_finishWithRate_6 rfl) <|
  Ok.cons (so_zne dX7_finishWithRate_9 (by decide) rfl) <|
  Ok.cons (so_iconst dX7_finishWithRate_12 (by decide) rfl) <|
  Ok.cons (so_ir rfl dX7_finishWithRate_13) <|
  Ok.cons (so_iload_n dX7_finishWithRate_14 rfl rfl) <|
  Ok.cons (so_iconst dX7_finishWithRate_15 (by decide) rfl) <|
  Ok.cons (so_clt dX7_finishWithRate_16 (by decide) rfl) <|
  Ok.cons (so_iload_n dX7_finishWithRate_19 rfl rfl) <|
  Ok.cons (so_sipush dX7_finishWithRate_20 (by decide) rfl) <|
  Ok.cons (so_cgt dX7_finishWithRate_23 (by decide) rfl) <|
  Ok.cons (so_aload_n dX7_finishWithRate_26 rfl rfl) <|
  Ok.cons (so_bipush dX7_finishWithRate_27 (by decide) rfl) <|
  Ok.cons (so_iload_n dX7_finishWithRate_29 rfl rfl) <|
  Ok.cons (so_iadd dX7_finishWithRate_30 rfl) <|
  Ok.cons (so_iload_n dX7_finishWithRate_31 rfl rfl) <|
  Ok.cons (so_vi0 (ct_X7_endsIf l) wq_1716 wq_1713 wq_1715 wq_84 wq_95 (by decide +kernel) (by decide) rfl rfl dX7_finishWithRate_32 rfl) <|
  Ok.cons (so_goto dX7_finishWithRate_35 (by decide)) <|
  Ok.cons (so_bipush dX7_finishWithRate_38 (by decide) rfl) <|
  Ok.cons (so_ir rfl dX7_finishWithRate_40) <| Ok.nil
theorem ct_X7_finishWithRate (l : Launch) : Ct l yX7_finishWithRate cX7_finishWithRate 3 (some .int) 7 layM f_X7_finishWithRate := ofRunL (by decide) rfl (ok_X7_finishWithRate l)
noncomputable def t_X7_leastRate : Tbl := [(0, s_al 1 0),
  (1, s_al 2 0),
  (2, s_il 3 1),
  (3, s_ci0 true 6 2 f_X7_isPlace),
  (6, s_ci0 true 9 2 f_X7_checks),
  (9, s_zne 12 14),
  (12, s_ic 13 0),
  (13, s_ir),
  (14, s_al 15 0),
  (15, s_cv0 true 18 1 f_X7_orders),
  (18, s_al 19 0),
  (19, s_ci0 true 22 1 f_X7_ends),
  (22, s_is 23 2),
  (23, s_ic 25 20),
  (25, s_is 26 3),
  (26, s_il 27 3),
  (27, s_ic 30 2000),
  (30, s_cgt 33 69),
  (33, s_il 34 2),
  (34, s_ic 35 (-1)),
  (35, s_ceq 38 69),
  (38, s_al 39 0),
  (39, s_ic 41 66),
  (41, s_il 42 1),
  (42, s_b 43 (fun x y => x + y)),
  (43, s_il 44 3),
  (44, s_ci0 true 47 3 f_X7_endsIf),
  (47, s_is 49 4),
  (49, s_il 51 4),
  (51, s_ic 52 (-1)),
  (52, s_ceq 55 63),
  (55, s_il 57 4),
  (57, s_il 58 2),
  (58, s_cgt 61 63),
  (61, s_il 62 3),
  (62, s_ir),
  (63, s_in 66 3 20),
  (66, s_go 26),
  (69, s_ic 70 (-1)),
  (70, s_ir)]
def cs_X7_leastRate : Cs := [(26, [0, 1, 2, 3])]
noncomputable def f_X7_leastRate : List Vv → Mm → Option Ou := lock (sem t_X7_leastRate cs_X7_leastRate 5)
set_option maxRecDepth 20000 in
theorem ok_X7_leastRate (l : Launch) : Ok l RX7 cX7_leastRate 5 7 (some .int) layM t_X7_leastRate :=
  Ok.cons (so_aload_n dX7_leastRate_0 rfl rfl) <|
  Ok.cons (so_aload_n dX7_leastRate_1 rfl rfl) <|
  Ok.cons (so_iload_n dX7_leastRate_2 rfl rfl) <|
  Ok.cons (so_vi0 (ct_X7_isPlace l) wq_1488 wq_1485 wq_1487 wq_61 wq_95 (by decide +kernel) (by decide) rfl rfl dX7_leastRate_3 rfl) <|
  Ok.cons (so_vi0 (ct_X7_checks l) wq_1460 wq_1457 wq_1459 wq_59 wq_95 (by decide +kernel) (by decide) rfl rfl dX7_leastRate_6 rfl) <|
  Ok.cons (so_zne dX7_leastRate_9 (by decide) rfl) <|
  Ok.cons (so_iconst dX7_leastRate_12 (by decide) rfl) <|
  Ok.cons (so_ir rfl dX7_leastRate_13) <|
  Ok.cons (so_aload_n dX7_leastRate_14 rfl rfl) <|
  Ok.cons (so_vv0 (ct_X7_orders l) wq_1515 wq_1512 wq_1514 wq_62 wq_95 (by decide +kernel) (by decide) rfl rfl dX7_leastRate_15 rfl) <|
  Ok.cons (so_aload_n dX7_leastRate_18 rfl rfl) <|
  Ok.cons (so_vi0 (ct_X7_ends l) wq_1519 wq_1516 wq_1518 wq_63 wq_95 (by decide +kernel) (by decide) rfl rfl dX7_leastRate_19 rfl) <|
  Ok.cons (so_istore_n dX7_leastRate_22 rfl (by decide) rfl) <|
  Ok.cons (so_bipush dX7_leastRate_23 (by decide) rfl) <|
  Ok.cons (so_istore_n dX7_leastRate_25 rfl (by decide) rfl) <|
  Ok.cons (so_iload_n dX7_leastRate_26 rfl rfl) <|
  Ok.cons (so_sipush dX7_leastRate_27 (by decide) rfl) <|
  Ok.cons (so_cgt dX7_leastRate_30 (by decide) rfl) <|
  Ok.cons (so_iload_n dX7_leastRate_33 rfl rfl) <|
  Ok.cons (so_iconst dX7_leastRate_34 (by decide) rfl) <|
  Ok.cons (so_ceq dX7_leastRate_35 (by decide) rfl) <|
  Ok.cons (so_aload_n dX7_leastRate_38 rfl rfl) <|
  Ok.cons (so_bipush dX7_leastRate_39 (by decide) rfl) <|
  Ok.cons (so_iload_n dX7_leastRate_41 rfl rfl) <|
  Ok.cons (so_iadd dX7_leastRate_42 rfl) <|
  Ok.cons (so_iload_n dX7_leastRate_43 rfl rfl) <|
  Ok.cons (so_vi0 (ct_X7_endsIf l) wq_1716 wq_1713 wq_1715 wq_84 wq_95 (by decide +kernel) (by decide) rfl rfl dX7_leastRate_44 rfl) <|
  Ok.cons (so_istore dX7_leastRate_47 (by decide) rfl) <|
  Ok.cons (so_iload dX7_leastRate_49 rfl) <|
  Ok.cons (so_iconst dX7_leastRate_51 (by decide) rfl) <|
  Ok.cons (so_ceq dX7_leastRate_52 (by decide) rfl) <|
  Ok.cons (so_iload dX7_leastRate_55 rfl) <|
  Ok.cons (so_iload_n dX7_leastRate_57 rfl rfl) <|
  Ok.cons (so_cgt dX7_leastRate_58 (by decide) rfl) <|
  Ok.cons (so_iload_n dX7_leastRate_61 rfl rfl) <|
  Ok.cons (so_ir rfl dX7_leastRate_62) <|
  Ok.cons (so_iinc dX7_leastRate_63 (by decide) (by decide) rfl) <|
  Ok.cons (so_goto dX7_leastRate_66 (by decide)) <|
  Ok.cons (so_iconst dX7_leastRate_69 (by decide) rfl) <|
  Ok.cons (so_ir rfl dX7_leastRate_70) <| Ok.nil
theorem ct_X7_leastRate (l : Launch) : Ct l yX7_leastRate cX7_leastRate 5 (some .int) 7 layM f_X7_leastRate := ofRunL (by decide) rfl (ok_X7_leastRate l)
noncomputable def t_X7_criticalIrons : Tbl := [(0, s_al 1 0),
  (1, s_ic 2 0),
  (2, s_pf 5 layM 7 0),
  (5, s_al 6 0),
  (6, s_cv0 true 9 1 f_X7_orders),
  (9, s_al 10 0),
  (10, s_ci0 true 13 1 f_X7_ends),
  (13, s_is 14 1),
  (14, s_ic 15 0),
  (15, s_is 16 2),
  (16, s_ic 17 0),
  (17, s_is 18 3),
  (18, s_il 19 3),
  (19, s_al 20 0),
  (20, s_gf 23 layM 7 3),
  (23, s_ic 25 18),
  (25, s_ia 26 layM 0),
  (26, s_cge 29 69),
  (29, s_il 30 1),
  (30, s_ic 31 (-1)),
  (31, s_ceq 34 69),
  (34, s_al 35 0),
  (35, s_il 36 3),
  (36, s_ci0 true 39 2 f_X7_finishWithoutIron),
  (39, s_is 41 4),
  (41, s_il 42 2),
  (42, s_il 44 4),
  (44, s_ic 45 (-1)),
  (45, s_ceq 48 60),
  (48, s_il 50 4),
  (50, s_il 51 1),
  (51, s_cge 54 60),
  (54, s_ic 55 1),
  (55, s_il 56 3),
  (56, s_b 57 (fun x y => x <<< (y &&& 31))),
  (57, s_go 61),
  (60, s_ic 61 0),
  (61, s_b 62 (fun x y => x ||| y)),
  (62, s_is 63 2),
  (63, s_in 66 3 1),
  (66, s_go 18),
  (69, s_il 70 2),
  (70, s_ir)]
def cs_X7_criticalIrons : Cs := [(18, [0, 1, 2, 3])]
noncomputable def f_X7_criticalIrons : List Vv → Mm → Option Ou := lock (sem t_X7_criticalIrons cs_X7_criticalIrons 5)
set_option maxRecDepth 20000 in
theorem ok_X7_criticalIrons (l : Launch) : Ok l RX7 cX7_criticalIrons 5 7 (some .int) layM t_X7_criticalIrons :=
  Ok.cons (so_aload_n dX7_criticalIrons_0 rfl rfl) <|
  Ok.cons (so_iconst dX7_criticalIrons_1 (by decide) rfl) <|
  Ok.cons (so_pf (C := RX7) (T := TX7) (N := 42) inGX7 tyX7_ok nmX7 rfl (by decide) wq_1174 rfl rfl rfl dX7_criticalIrons_2 rfl) <|
  Ok.cons (so_aload_n dX7_criticalIrons_5 rfl rfl) <|
  Ok.cons (so_vv0 (ct_X7_orders l) wq_1515 wq_1512 wq_1514 wq_62 wq_95 (by decide +kernel) (by decide) rfl rfl dX7_criticalIrons_6 rfl) <|
  Ok.cons (so_aload_n dX7_criticalIrons_9 rfl rfl) <|
  Ok.cons (so_vi0 (ct_X7_ends l) wq_1519 wq_1516 wq_1518 wq_63 wq_95 (by decide +kernel) (by decide) rfl rfl dX7_criticalIrons_10 rfl) <|
  Ok.cons (so_istore_n dX7_criticalIrons_13 rfl (by decide) rfl) <|
  Ok.cons (so_iconst dX7_criticalIrons_14 (by decide) rfl) <|
  Ok.cons (so_istore_n dX7_criticalIrons_15 rfl (by decide) rfl) <|
  Ok.cons (so_iconst dX7_criticalIrons_16 (by decide) rfl) <|
  Ok.cons (so_istore_n dX7_criticalIrons_17 rfl (by decide) rfl) <|
  Ok.cons (so_iload_n dX7_criticalIrons_18 rfl rfl) <|
  Ok.cons (so_aload_n dX7_criticalIrons_19 rfl rfl) <|
  Ok.cons (so_gf (C := RX7) (T := TX7) (N := 42) inGX7 rfl (by decide) wq_1177 rfl dX7_criticalIrons_20 rfl) <|
  Ok.cons (so_bipush dX7_criticalIrons_23 (by decide) rfl) <|
  Ok.cons (so_ia0 dX7_criticalIrons_25 rfl) <|
  Ok.cons (so_cge dX7_criticalIrons_26 (by decide) rfl) <|
  Ok.cons (so_iload_n dX7_criticalIrons_29 rfl rfl) <|
  Ok.cons (so_iconst dX7_criticalIrons_30 (by decide) rfl) <|
  Ok.cons (so_ceq dX7_criticalIrons_31 (by decide) rfl) <|
  Ok.cons (so_aload_n dX7_criticalIrons_34 rfl rfl) <|
  Ok.cons (so_iload_n dX7_criticalIrons_35 rfl rfl) <|
  Ok.cons (so_vi0 (ct_X7_finishWithoutIron l) wq_1704 wq_1733 wq_1702 wq_1703 wq_95 (by decide +kernel) (by decide) rfl rfl dX7_criticalIrons_36 rfl) <|
  Ok.cons (so_istore dX7_criticalIrons_39 (by decide) rfl) <|
  Ok.cons (so_iload_n dX7_criticalIrons_41 rfl rfl) <|
  Ok.cons (so_iload dX7_criticalIrons_42 rfl) <|
  Ok.cons (so_iconst dX7_criticalIrons_44 (by decide) rfl) <|
  Ok.cons (so_ceq dX7_criticalIrons_45 (by decide) rfl) <|
  Ok.cons (so_iload dX7_criticalIrons_48 rfl) <|
  Ok.cons (so_iload_n dX7_criticalIrons_50 rfl rfl) <|
  Ok.cons (so_cge dX7_criticalIrons_51 (by decide) rfl) <|
  Ok.cons (so_iconst dX7_criticalIrons_54 (by decide) rfl) <|
  Ok.cons (so_iload_n dX7_criticalIrons_55 rfl rfl) <|
  Ok.cons (so_ishl dX7_criticalIrons_56 rfl) <|
  Ok.cons (so_goto dX7_criticalIrons_57 (by decide)) <|
  Ok.cons (so_iconst dX7_criticalIrons_60 (by decide) rfl) <|
  Ok.cons (so_ior dX7_criticalIrons_61 rfl) <|
  Ok.cons (so_istore_n dX7_criticalIrons_62 rfl (by decide) rfl) <|
  Ok.cons (so_iinc dX7_criticalIrons_63 (by decide) (by decide) rfl) <|
  Ok.cons (so_goto dX7_criticalIrons_66 (by decide)) <|
  Ok.cons (so_iload_n dX7_criticalIrons_69 rfl rfl) <|
  Ok.cons (so_ir rfl dX7_criticalIrons_70) <| Ok.nil
theorem ct_X7_criticalIrons (l : Launch) : Ct l yX7_criticalIrons cX7_criticalIrons 5 (some .int) 7 layM f_X7_criticalIrons := ofRunL (by decide) rfl (ok_X7_criticalIrons l)
noncomputable def t_X7_orderCode : Tbl := [(0, s_al 1 0),
  (1, s_ic 2 0),
  (2, s_pf 5 layM 7 0),
  (5, s_ic 6 0),
  (6, s_is 7 1),
  (7, s_ic 8 0),
  (8, s_is 9 2),
  (9, s_il 10 2),
  (10, s_al 11 0),
  (11, s_gf 14 layM 7 3),
  (14, s_ic 16 18),
  (16, s_ia 17 layM 0),
  (17, s_cge 20 44),
  (20, s_il 21 1),
  (21, s_al 22 0),
  (22, s_gf 25 layM 7 5),
  (25, s_ic 27 72),
  (27, s_il 28 2),
  (28, s_b 29 (fun x y => x + y)),
  (29, s_ia 30 layM 0),
  (30, s_ic 31 1),
  (31, s_b 32 (fun x y => x + y)),
  (32, s_ic 33 3),
  (33, s_il 34 2),
  (34, s_b 35 (fun x y => x * y)),
  (35, s_b 36 (fun x y => x <<< (y &&& 31))),
  (36, s_b 37 (fun x y => x ||| y)),
  (37, s_is 38 1),
  (38, s_in 41 2 1),
  (41, s_go 9),
  (44, s_il 45 1),
  (45, s_ir)]
def cs_X7_orderCode : Cs := [(9, [0, 1, 2])]
noncomputable def f_X7_orderCode : List Vv → Mm → Option Ou := lock (sem t_X7_orderCode cs_X7_orderCode 3)
set_option maxRecDepth 20000 in
theorem ok_X7_orderCode (l : Launch) : Ok l RX7 cX7_orderCode 3 1 (some .int) layM t_X7_orderCode :=
  Ok.cons (so_aload_n dX7_orderCode_0 rfl rfl) <|
  Ok.cons (so_iconst dX7_orderCode_1 (by decide) rfl) <|
  Ok.cons (so_pf (C := RX7) (T := TX7) (N := 42) inGX7 tyX7_ok nmX7 rfl (by decide) wq_1174 rfl rfl rfl dX7_orderCode_2 rfl) <|
  Ok.cons (so_iconst dX7_orderCode_5 (by decide) rfl) <|
  Ok.cons (so_istore_n dX7_orderCode_6 rfl (by decide) rfl) <|
  Ok.cons (so_iconst dX7_orderCode_7 (by decide) rfl) <|
  Ok.cons (so_istore_n dX7_orderCode_8 rfl (by decide) rfl) <|
  Ok.cons (so_iload_n dX7_orderCode_9 rfl rfl) <|
  Ok.cons (so_aload_n dX7_orderCode_10 rfl rfl) <|
  Ok.cons (so_gf (C := RX7) (T := TX7) (N := 42) inGX7 rfl (by decide) wq_1177 rfl dX7_orderCode_11 rfl) <|
  Ok.cons (so_bipush dX7_orderCode_14 (by decide) rfl) <|
  Ok.cons (so_ia0 dX7_orderCode_16 rfl) <|
  Ok.cons (so_cge dX7_orderCode_17 (by decide) rfl) <|
  Ok.cons (so_iload_n dX7_orderCode_20 rfl rfl) <|
  Ok.cons (so_aload_n dX7_orderCode_21 rfl rfl) <|
  Ok.cons (so_gf (C := RX7) (T := TX7) (N := 42) inGX7 rfl (by decide) wq_1179 rfl dX7_orderCode_22 rfl) <|
  Ok.cons (so_bipush dX7_orderCode_25 (by decide) rfl) <|
  Ok.cons (so_iload_n dX7_orderCode_27 rfl rfl) <|
  Ok.cons (so_iadd dX7_orderCode_28 rfl) <|
  Ok.cons (so_ia0 dX7_orderCode_29 rfl) <|
  Ok.cons (so_iconst dX7_orderCode_30 (by decide) rfl) <|
  Ok.cons (so_iadd dX7_orderCode_31 rfl) <|
  Ok.cons (so_iconst dX7_orderCode_32 (by decide) rfl) <|
  Ok.cons (so_iload_n dX7_orderCode_33 rfl rfl) <|
  Ok.cons (so_imul dX7_orderCode_34 rfl) <|
  Ok.cons (so_ishl dX7_orderCode_35 rfl) <|
  Ok.cons (so_ior dX7_orderCode_36 rfl) <|
  Ok.cons (so_istore_n dX7_orderCode_37 rfl (by decide) rfl) <|
  Ok.cons (so_iinc dX7_orderCode_38 (by decide) (by decide) rfl) <|
  Ok.cons (so_goto dX7_orderCode_41 (by decide)) <|
  Ok.cons (so_iload_n dX7_orderCode_44 rfl rfl) <|
  Ok.cons (so_ir rfl dX7_orderCode_45) <| Ok.nil
theorem ct_X7_orderCode (l : Launch) : Ct l yX7_orderCode cX7_orderCode 3 (some .int) 1 layM f_X7_orderCode := ofRunL (by decide) rfl (ok_X7_orderCode l)
noncomputable def t_X7_keeps : Tbl := [(0, s_al 1 0),
  (1, s_ic 2 0),
  (2, s_pz 5 layM 7 37),
  (5, s_al 6 0),
  (6, s_ic 7 0),
  (7, s_pz 10 layM 7 38),
  (10, s_al 11 0),
  (11, s_gf 14 layM 7 8),
  (14, s_ic 16 12),
  (16, s_cne 19 60),
  (19, s_ic 21 81),
  (21, s_is 22 1),
  (22, s_il 23 1),
  (23, s_ic 26 972),
  (26, s_cge 29 50),
  (29, s_al 30 0),
  (30, s_gf 33 layM 7 7),
  (33, s_il 34 1),
  (34, s_ic 36 81),
  (36, s_b 37 (fun x y => x - y)),
  (37, s_al 38 0),
  (38, s_gf 41 layM 7 7),
  (41, s_il 42 1),
  (42, s_ia 43 layM 0),
  (43, s_ix 44 layM 0),
  (44, s_in 47 1 1),
  (47, s_go 22),
  (50, s_al 51 0),
  (51, s_dup 52),
  (52, s_gf 55 layM 7 8),
  (55, s_ic 56 1),
  (56, s_b 57 (fun x y => x - y)),
  (57, s_pf 60 layM 7 8),
  (60, s_ic 61 0),
  (61, s_is 62 1),
  (62, s_il 63 1),
  (63, s_ic 65 81),
  (65, s_cge 68 94),
  (68, s_al 69 0),
  (69, s_gf 72 layM 7 7),
  (72, s_ic 74 81),
  (74, s_al 75 0),
  (75, s_gf 78 layM 7 8),
  (78, s_b 79 (fun x y => x * y)),
  (79, s_il 80 1),
  (80, s_b 81 (fun x y => x + y)),
  (81, s_al 82 0),
  (82, s_gf 85 layM 7 5),
  (85, s_il 86 1),
  (86, s_ia 87 layM 0),
  (87, s_ix 88 layM 0),
  (88, s_in 91 1 1),
  (91, s_go 62),
  (94, s_al 95 0),
  (95, s_dup 96),
  (96, s_gf 99 layM 7 8),
  (99, s_ic 100 1),
  (100, s_b 101 (fun x y => x + y)),
  (101, s_pf 104 layM 7 8),
  (104, s_vr)]
def cs_X7_keeps : Cs := [(22, [0, 1]), (62, [0, 1])]
noncomputable def f_X7_keeps : List Vv → Mm → Option Ou := lock (sem t_X7_keeps cs_X7_keeps 2)
set_option maxRecDepth 20000 in
theorem ok_X7_keeps (l : Launch) : Ok l RX7 cX7_keeps 2 1 none layM t_X7_keeps :=
  Ok.cons (so_aload_n dX7_keeps_0 rfl rfl) <|
  Ok.cons (so_iconst dX7_keeps_1 (by decide) rfl) <|
  Ok.cons (so_pz (C := RX7) (T := TX7) (N := 42) inGX7 tyX7_ok nmX7 rfl (by decide) wq_1211 rfl rfl rfl dX7_keeps_2 rfl) <|
  Ok.cons (so_aload_n dX7_keeps_5 rfl rfl) <|
  Ok.cons (so_iconst dX7_keeps_6 (by decide) rfl) <|
  Ok.cons (so_pz (C := RX7) (T := TX7) (N := 42) inGX7 tyX7_ok nmX7 rfl (by decide) wq_1212 rfl rfl rfl dX7_keeps_7 rfl) <|
  Ok.cons (so_aload_n dX7_keeps_10 rfl rfl) <|
  Ok.cons (so_gf (C := RX7) (T := TX7) (N := 42) inGX7 rfl (by decide) wq_1182 rfl dX7_keeps_11 rfl) <|
  Ok.cons (so_bipush dX7_keeps_14 (by decide) rfl) <|
  Ok.cons (so_cne dX7_keeps_16 (by decide) rfl) <|
  Ok.cons (so_bipush dX7_keeps_19 (by decide) rfl) <|
  Ok.cons (so_istore_n dX7_keeps_21 rfl (by decide) rfl) <|
  Ok.cons (so_iload_n dX7_keeps_22 rfl rfl) <|
  Ok.cons (so_sipush dX7_keeps_23 (by decide) rfl) <|
  Ok.cons (so_cge dX7_keeps_26 (by decide) rfl) <|
  Ok.cons (so_aload_n dX7_keeps_29 rfl rfl) <|
  Ok.cons (so_gf (C := RX7) (T := TX7) (N := 42) inGX7 rfl (by decide) wq_1181 rfl dX7_keeps_30 rfl) <|
  Ok.cons (so_iload_n dX7_keeps_33 rfl rfl) <|
  Ok.cons (so_bipush dX7_keeps_34 (by decide) rfl) <|
  Ok.cons (so_isub dX7_keeps_36 rfl) <|
  Ok.cons (so_aload_n dX7_keeps_37 rfl rfl) <|
  Ok.cons (so_gf (C := RX7) (T := TX7) (N := 42) inGX7 rfl (by decide) wq_1181 rfl dX7_keeps_38 rfl) <|
  Ok.cons (so_iload_n dX7_keeps_41 rfl rfl) <|
  Ok.cons (so_ia0 dX7_keeps_42 rfl) <|
  Ok.cons (so_ix dX7_keeps_43 rfl) <|
  Ok.cons (so_iinc dX7_keeps_44 (by decide) (by decide) rfl) <|
  Ok.cons (so_goto dX7_keeps_47 (by decide)) <|
  Ok.cons (so_aload_n dX7_keeps_50 rfl rfl) <|
  Ok.cons (so_dup dX7_keeps_51 rfl) <|
  Ok.cons (so_gf (C := RX7) (T := TX7) (N := 42) inGX7 rfl (by decide) wq_1182 rfl dX7_keeps_52 rfl) <|
  Ok.cons (so_iconst dX7_keeps_55 (by decide) rfl) <|
  Ok.cons (so_isub dX7_keeps_56 rfl) <|
  Ok.cons (so_pf (C := RX7) (T := TX7) (N := 42) inGX7 tyX7_ok nmX7 rfl (by decide) wq_1182 rfl rfl rfl dX7_keeps_57 rfl) <|
  Ok.cons (so_iconst dX7_keeps_60 (by decide) rfl) <|
  Ok.cons (so_istore_n dX7_keeps_61 rfl (by decide) rfl) <|
  Ok.cons (so_iload_n dX7_keeps_62 rfl rfl) <|
  Ok.cons (so_bipush dX7_keeps_63 (by decide) rfl) <|
  Ok.cons (so_cge dX7_keeps_65 (by decide) rfl) <|
  Ok.cons (so_aload_n dX7_keeps_68 rfl rfl) <|
  Ok.cons (so_gf (C := RX7) (T := TX7) (N := 42) inGX7 rfl (by decide) wq_1181 rfl dX7_keeps_69 rfl) <|
  Ok.cons (so_bipush dX7_keeps_72 (by decide) rfl) <|
  Ok.cons (so_aload_n dX7_keeps_74 rfl rfl) <|
  Ok.cons (so_gf (C := RX7) (T := TX7) (N := 42) inGX7 rfl (by decide) wq_1182 rfl dX7_keeps_75 rfl) <|
  Ok.cons (so_imul dX7_keeps_78 rfl) <|
  Ok.cons (so_iload_n dX7_keeps_79 rfl rfl) <|
  Ok.cons (so_iadd dX7_keeps_80 rfl) <|
  Ok.cons (so_aload_n dX7_keeps_81 rfl rfl) <|
  Ok.cons (so_gf (C := RX7) (T := TX7) (N := 42) inGX7 rfl (by decide) wq_1179 rfl dX7_keeps_82 rfl) <|
  Ok.cons (so_iload_n dX7_keeps_85 rfl rfl) <|
  Ok.cons (so_ia0 dX7_keeps_86 rfl) <|
  Ok.cons (so_ix dX7_keeps_87 rfl) <|
  Ok.cons (so_iinc dX7_keeps_88 (by decide) (by decide) rfl) <|
  Ok.cons (so_goto dX7_keeps_91 (by decide)) <|
  Ok.cons (so_aload_n dX7_keeps_94 rfl rfl) <|
  Ok.cons (so_dup dX7_keeps_95 rfl) <|
  Ok.cons (so_gf (C := RX7) (T := TX7) (N := 42) inGX7 rfl (by decide) wq_1182 rfl dX7_keeps_96 rfl) <|
  Ok.cons (so_iconst dX7_keeps_99 (by decide) rfl) <|
  Ok.cons (so_iadd dX7_keeps_100 rfl) <|
  Ok.cons (so_pf (C := RX7) (T := TX7) (N := 42) inGX7 tyX7_ok nmX7 rfl (by decide) wq_1182 rfl rfl rfl dX7_keeps_101 rfl) <|
  Ok.cons (so_vr rfl dX7_keeps_104) <| Ok.nil
theorem ct_X7_keeps (l : Launch) : Ct l yX7_keeps cX7_keeps 2 none 1 layM f_X7_keeps := ofRunL (by decide) rfl (ok_X7_keeps l)
noncomputable def t_X7_undo : Tbl := [(0, s_al 1 0),
  (1, s_ic 2 0),
  (2, s_pf 5 layM 7 0),
  (5, s_al 6 0),
  (6, s_gf 9 layM 7 8),
  (9, s_zne 12 14),
  (12, s_ic 13 (-1)),
  (13, s_ir),
  (14, s_al 15 0),
  (15, s_ic 16 0),
  (16, s_pz 19 layM 7 37),
  (19, s_al 20 0),
  (20, s_ic 21 0),
  (21, s_pz 24 layM 7 38),
  (24, s_al 25 0),
  (25, s_dup 26),
  (26, s_gf 29 layM 7 8),
  (29, s_ic 30 1),
  (30, s_b 31 (fun x y => x - y)),
  (31, s_pf 34 layM 7 8),
  (34, s_ic 35 0),
  (35, s_is 36 1),
  (36, s_il 37 1),
  (37, s_ic 39 81),
  (39, s_cge 42 68),
  (42, s_al 43 0),
  (43, s_gf 46 layM 7 5),
  (46, s_il 47 1),
  (47, s_al 48 0),
  (48, s_gf 51 layM 7 7),
  (51, s_ic 53 81),
  (53, s_al 54 0),
  (54, s_gf 57 layM 7 8),
  (57, s_b 58 (fun x y => x * y)),
  (58, s_il 59 1),
  (59, s_b 60 (fun x y => x + y)),
  (60, s_ia 61 layM 0),
  (61, s_ix 62 layM 0),
  (62, s_in 65 1 1),
  (65, s_go 36),
  (68, s_al 69 0),
  (69, s_gf 72 layM 7 8),
  (72, s_ir)]
def cs_X7_undo : Cs := [(36, [0, 1])]
noncomputable def f_X7_undo : List Vv → Mm → Option Ou := lock (sem t_X7_undo cs_X7_undo 2)
set_option maxRecDepth 20000 in
theorem ok_X7_undo (l : Launch) : Ok l RX7 cX7_undo 2 1 (some .int) layM t_X7_undo :=
  Ok.cons (so_aload_n dX7_undo_0 rfl rfl) <|
  Ok.cons (so_iconst dX7_undo_1 (by decide) rfl) <|
  Ok.cons (so_pf (C := RX7) (T := TX7) (N := 42) inGX7 tyX7_ok nmX7 rfl (by decide) wq_1174 rfl rfl rfl dX7_undo_2 rfl) <|
  Ok.cons (so_aload_n dX7_undo_5 rfl rfl) <|
  Ok.cons (so_gf (C := RX7) (T := TX7) (N := 42) inGX7 rfl (by decide) wq_1182 rfl dX7_undo_6 rfl) <|
  Ok.cons (so_zne dX7_undo_9 (by decide) rfl) <|
  Ok.cons (so_iconst dX7_undo_12 (by decide) rfl) <|
  Ok.cons (so_ir rfl dX7_undo_13) <|
  Ok.cons (so_aload_n dX7_undo_14 rfl rfl) <|
  Ok.cons (so_iconst dX7_undo_15 (by decide) rfl) <|
  Ok.cons (so_pz (C := RX7) (T := TX7) (N := 42) inGX7 tyX7_ok nmX7 rfl (by decide) wq_1211 rfl rfl rfl dX7_undo_16 rfl) <|
  Ok.cons (so_aload_n dX7_undo_19 rfl rfl) <|
  Ok.cons (so_iconst dX7_undo_20 (by decide) rfl) <|
  Ok.cons (so_pz (C := RX7) (T := TX7) (N := 42) inGX7 tyX7_ok nmX7 rfl (by decide) wq_1212 rfl rfl rfl dX7_undo_21 rfl) <|
  Ok.cons (so_aload_n dX7_undo_24 rfl rfl) <|
  Ok.cons (so_dup dX7_undo_25 rfl) <|
  Ok.cons (so_gf (C := RX7) (T := TX7) (N := 42) inGX7 rfl (by decide) wq_1182 rfl dX7_undo_26 rfl) <|
  Ok.cons (so_iconst dX7_undo_29 (by decide) rfl) <|
  Ok.cons (so_isub dX7_undo_30 rfl) <|
  Ok.cons (so_pf (C := RX7) (T := TX7) (N := 42) inGX7 tyX7_ok nmX7 rfl (by decide) wq_1182 rfl rfl rfl dX7_undo_31 rfl) <|
  Ok.cons (so_iconst dX7_undo_34 (by decide) rfl) <|
  Ok.cons (so_istore_n dX7_undo_35 rfl (by decide) rfl) <|
  Ok.cons (so_iload_n dX7_undo_36 rfl rfl) <|
  Ok.cons (so_bipush dX7_undo_37 (by decide) rfl) <|
  Ok.cons (so_cge dX7_undo_39 (by decide) rfl) <|
  Ok.cons (so_aload_n dX7_undo_42 rfl rfl) <|
  Ok.cons (so_gf (C := RX7) (T := TX7) (N := 42) inGX7 rfl (by decide) wq_1179 rfl dX7_undo_43 rfl) <|
  Ok.cons (so_iload_n dX7_undo_46 rfl rfl) <|
  Ok.cons (so_aload_n dX7_undo_47 rfl rfl) <|
  Ok.cons (so_gf (C := RX7) (T := TX7) (N := 42) inGX7 rfl (by decide) wq_1181 rfl dX7_undo_48 rfl) <|
  Ok.cons (so_bipush dX7_undo_51 (by decide) rfl) <|
  Ok.cons (so_aload_n dX7_undo_53 rfl rfl) <|
  Ok.cons (so_gf (C := RX7) (T := TX7) (N := 42) inGX7 rfl (by decide) wq_1182 rfl dX7_undo_54 rfl) <|
  Ok.cons (so_imul dX7_undo_57 rfl) <|
  Ok.cons (so_iload_n dX7_undo_58 rfl rfl) <|
  Ok.cons (so_iadd dX7_undo_59 rfl) <|
  Ok.cons (so_ia0 dX7_undo_60 rfl) <|
  Ok.cons (so_ix dX7_undo_61 rfl) <|
  Ok.cons (so_iinc dX7_undo_62 (by decide) (by decide) rfl) <|
  Ok.cons (so_goto dX7_undo_65 (by decide)) <|
  Ok.cons (so_aload_n dX7_undo_68 rfl rfl) <|
  Ok.cons (so_gf (C := RX7) (T := TX7) (N := 42) inGX7 rfl (by decide) wq_1182 rfl dX7_undo_69 rfl) <|
  Ok.cons (so_ir rfl dX7_undo_72) <| Ok.nil
theorem ct_X7_undo (l : Launch) : Ct l yX7_undo cX7_undo 2 (some .int) 1 layM f_X7_undo := ofRunL (by decide) rfl (ok_X7_undo l)
noncomputable def t_X7_setSetting : Tbl := [(0, s_al 1 0),
  (1, s_ic 2 0),
  (2, s_pf 5 layM 7 0),
  (5, s_il 6 1),
  (6, s_ci false 9 1 (sg0) f_X7_isSetting),
  (9, s_zeq 12 28),
  (12, s_il 13 2),
  (13, s_il 14 1),
  (14, s_ci false 17 1 (sg0) f_X7_leastOf),
  (17, s_clt 20 28),
  (20, s_il 21 2),
  (21, s_il 22 1),
  (22, s_ci false 25 1 (sg0) f_X7_mostOf),
  (25, s_cle 28 31),
  (28, s_ic 30 (-2)),
  (30, s_ir),
  (31, s_al 32 0),
  (32, s_cv0 true 35 1 f_X7_keeps),
  (35, s_al 36 0),
  (36, s_gf 39 layM 7 5),
  (39, s_ic 41 78),
  (41, s_il 42 1),
  (42, s_b 43 (fun x y => x + y)),
  (43, s_ia 44 layM 0),
  (44, s_is 45 3),
  (45, s_al 46 0),
  (46, s_gf 49 layM 7 5),
  (49, s_ic 51 78),
  (51, s_il 52 1),
  (52, s_b 53 (fun x y => x + y)),
  (53, s_il 54 2),
  (54, s_ix 55 layM 0),
  (55, s_il 56 3),
  (56, s_ir)]
def cs_X7_setSetting : Cs := []
noncomputable def f_X7_setSetting : List Vv → Mm → Option Ou := lock (sem t_X7_setSetting cs_X7_setSetting 4)
set_option maxRecDepth 20000 in
theorem ok_X7_setSetting (l : Launch) : Ok l RX7 cX7_setSetting 4 2 (some .int) layM t_X7_setSetting :=
  Ok.cons (so_aload_n dX7_setSetting_0 rfl rfl) <|
  Ok.cons (so_iconst dX7_setSetting_1 (by decide) rfl) <|
  Ok.cons (so_pf (C := RX7) (T := TX7) (N := 42) inGX7 tyX7_ok nmX7 rfl (by decide) wq_1174 rfl rfl rfl dX7_setSetting_2 rfl) <|
  Ok.cons (so_iload_n dX7_setSetting_5 rfl rfl) <|
  Ok.cons (so_si (ct_X7_isSetting l) wq_1499 wq_1497 wq_1498 wq_95 (by decide +kernel) (by decide) cmp_layM_sg0 dX7_setSetting_6 rfl) <|
  Ok.cons (so_zeq dX7_setSetting_9 (by decide) rfl) <|
  Ok.cons (so_iload_n dX7_setSetting_12 rfl rfl) <|
  Ok.cons (so_iload_n dX7_setSetting_13 rfl rfl) <|
  Ok.cons (so_si (ct_X7_leastOf l) wq_1425 wq_1423 wq_1424 wq_95 (by decide +kernel) (by decide) cmp_layM_sg0 dX7_setSetting_14 rfl) <|
  Ok.cons (so_clt dX7_setSetting_17 (by decide) rfl) <|
  Ok.cons (so_iload_n dX7_setSetting_20 rfl rfl) <|
  Ok.cons (so_iload_n dX7_setSetting_21 rfl rfl) <|
  Ok.cons (so_si (ct_X7_mostOf l) wq_1428 wq_1426 wq_1427 wq_95 (by decide +kernel) (by decide) cmp_layM_sg0 dX7_setSetting_22 rfl) <|
  Ok.cons (so_cle dX7_setSetting_25 (by decide) rfl) <|
  Ok.cons (so_bipush dX7_setSetting_28 (by decide) rfl) <|
  Ok.cons (so_ir rfl dX7_setSetting_30) <|
  Ok.cons (so_aload_n dX7_setSetting_31 rfl rfl) <|
  Ok.cons (so_vv0 (ct_X7_keeps l) wq_1749 wq_1746 wq_1748 wq_85 wq_95 (by decide +kernel) (by decide) rfl rfl dX7_setSetting_32 rfl) <|
  Ok.cons (so_aload_n dX7_setSetting_35 rfl rfl) <|
  Ok.cons (so_gf (C := RX7) (T := TX7) (N := 42) inGX7 rfl (by decide) wq_1179 rfl dX7_setSetting_36 rfl) <|
  Ok.cons (so_bipush dX7_setSetting_39 (by decide) rfl) <|
  Ok.cons (so_iload_n dX7_setSetting_41 rfl rfl) <|
  Ok.cons (so_iadd dX7_setSetting_42 rfl) <|
  Ok.cons (so_ia0 dX7_setSetting_43 rfl) <|
  Ok.cons (so_istore_n dX7_setSetting_44 rfl (by decide) rfl) <|
  Ok.cons (so_aload_n dX7_setSetting_45 rfl rfl) <|
  Ok.cons (so_gf (C := RX7) (T := TX7) (N := 42) inGX7 rfl (by decide) wq_1179 rfl dX7_setSetting_46 rfl) <|
  Ok.cons (so_bipush dX7_setSetting_49 (by decide) rfl) <|
  Ok.cons (so_iload_n dX7_setSetting_51 rfl rfl) <|
  Ok.cons (so_iadd dX7_setSetting_52 rfl) <|
  Ok.cons (so_iload_n dX7_setSetting_53 rfl rfl) <|
  Ok.cons (so_ix dX7_setSetting_54 rfl) <|
  Ok.cons (so_iload_n dX7_setSetting_55 rfl rfl) <|
  Ok.cons (so_ir rfl dX7_setSetting_56) <| Ok.nil
theorem ct_X7_setSetting (l : Launch) : Ct l yX7_setSetting cX7_setSetting 4 (some .int) 2 layM f_X7_setSetting := ofRunL (by decide) rfl (ok_X7_setSetting l)
noncomputable def t_X7_swap : Tbl := [(0, s_al 1 0),
  (1, s_ic 2 0),
  (2, s_pf 5 layM 7 0),
  (5, s_al 6 0),
  (6, s_il 7 1),
  (7, s_ci0 true 10 2 f_X7_isIron),
  (10, s_zeq 13 21),
  (13, s_al 14 0),
  (14, s_il 15 2),
  (15, s_ci0 true 18 2 f_X7_isIron),
  (18, s_zne 21 23),
  (21, s_ic 22 0),
  (22, s_zr),
  (23, s_al 24 0),
  (24, s_cv0 true 27 1 f_X7_keeps),
  (27, s_al 28 0),
  (28, s_gf 31 layM 7 5),
  (31, s_ic 33 72),
  (33, s_il 34 1),
  (34, s_b 35 (fun x y => x + y)),
  (35, s_ia 36 layM 0),
  (36, s_is 37 3),
  (37, s_al 38 0),
  (38, s_gf 41 layM 7 5),
  (41, s_ic 43 72),
  (43, s_il 44 1),
  (44, s_b 45 (fun x y => x + y)),
  (45, s_al 46 0),
  (46, s_gf 49 layM 7 5),
  (49, s_ic 51 72),
  (51, s_il 52 2),
  (52, s_b 53 (fun x y => x + y)),
  (53, s_ia 54 layM 0),
  (54, s_ix 55 layM 0),
  (55, s_al 56 0),
  (56, s_gf 59 layM 7 5),
  (59, s_ic 61 72),
  (61, s_il 62 2),
  (62, s_b 63 (fun x y => x + y)),
  (63, s_il 64 3),
  (64, s_ix 65 layM 0),
  (65, s_ic 66 1),
  (66, s_zr)]
def cs_X7_swap : Cs := []
noncomputable def f_X7_swap : List Vv → Mm → Option Ou := lock (sem t_X7_swap cs_X7_swap 4)
set_option maxRecDepth 20000 in
theorem ok_X7_swap (l : Launch) : Ok l RX7 cX7_swap 4 2 (some .boolean) layM t_X7_swap :=
  Ok.cons (so_aload_n dX7_swap_0 rfl rfl) <|
  Ok.cons (so_iconst dX7_swap_1 (by decide) rfl) <|
  Ok.cons (so_pf (C := RX7) (T := TX7) (N := 42) inGX7 tyX7_ok nmX7 rfl (by decide) wq_1174 rfl rfl rfl dX7_swap_2 rfl) <|
  Ok.cons (so_aload_n dX7_swap_5 rfl rfl) <|
  Ok.cons (so_iload_n dX7_swap_6 rfl rfl) <|
  Ok.cons (so_vi0 (ct_X7_isIron l) wq_1456 wq_1453 wq_1455 wq_58 wq_95 (by decide +kernel) (by decide) rfl rfl dX7_swap_7 rfl) <|
  Ok.cons (so_zeq dX7_swap_10 (by decide) rfl) <|
  Ok.cons (so_aload_n dX7_swap_13 rfl rfl) <|
  Ok.cons (so_iload_n dX7_swap_14 rfl rfl) <|
  Ok.cons (so_vi0 (ct_X7_isIron l) wq_1456 wq_1453 wq_1455 wq_58 wq_95 (by decide +kernel) (by decide) rfl rfl dX7_swap_15 rfl) <|
  Ok.cons (so_zne dX7_swap_18 (by decide) rfl) <|
  Ok.cons (so_iconst dX7_swap_21 (by decide) rfl) <|
  Ok.cons (so_zr rfl dX7_swap_22) <|
  Ok.cons (so_aload_n dX7_swap_23 rfl rfl) <|
  Ok.cons (so_vv0 (ct_X7_keeps l) wq_1749 wq_1746 wq_1748 wq_85 wq_95 (by decide +kernel) (by decide) rfl rfl dX7_swap_24 rfl) <|
  Ok.cons (so_aload_n dX7_swap_27 rfl rfl) <|
  Ok.cons (so_gf (C := RX7) (T := TX7) (N := 42) inGX7 rfl (by decide) wq_1179 rfl dX7_swap_28 rfl) <|
  Ok.cons (so_bipush dX7_swap_31 (by decide) rfl) <|
  Ok.cons (so_iload_n dX7_swap_33 rfl rfl) <|
  Ok.cons (so_iadd dX7_swap_34 rfl) <|
  Ok.cons (so_ia0 dX7_swap_35 rfl) <|
  Ok.cons (so_istore_n dX7_swap_36 rfl (by decide) rfl) <|
  Ok.cons (so_aload_n dX7_swap_37 rfl rfl) <|
  Ok.cons (so_gf (C := RX7) (T := TX7) (N := 42) inGX7 rfl (by decide) wq_1179 rfl dX7_swap_38 rfl) <|
  Ok.cons (so_bipush dX7_swap_41 (by decide) rfl) <|
  Ok.cons (so_iload_n dX7_swap_43 rfl rfl) <|
  Ok.cons (so_iadd dX7_swap_44 rfl) <|
  Ok.cons (so_aload_n dX7_swap_45 rfl rfl) <|
  Ok.cons (so_gf (C := RX7) (T := TX7) (N := 42) inGX7 rfl (by decide) wq_1179 rfl dX7_swap_46 rfl) <|
  Ok.cons (so_bipush dX7_swap_49 (by decide) rfl) <|
  Ok.cons (so_iload_n dX7_swap_51 rfl rfl) <|
  Ok.cons (so_iadd dX7_swap_52 rfl) <|
  Ok.cons (so_ia0 dX7_swap_53 rfl) <|
  Ok.cons (so_ix dX7_swap_54 rfl) <|
  Ok.cons (so_aload_n dX7_swap_55 rfl rfl) <|
  Ok.cons (so_gf (C := RX7) (T := TX7) (N := 42) inGX7 rfl (by decide) wq_1179 rfl dX7_swap_56 rfl) <|
  Ok.cons (so_bipush dX7_swap_59 (by decide) rfl) <|
  Ok.cons (so_iload_n dX7_swap_61 rfl rfl) <|
  Ok.cons (so_iadd dX7_swap_62 rfl) <|
  Ok.cons (so_iload_n dX7_swap_63 rfl rfl) <|
  Ok.cons (so_ix dX7_swap_64 rfl) <|
  Ok.cons (so_iconst dX7_swap_65 (by decide) rfl) <|
  Ok.cons (so_zr rfl dX7_swap_66) <| Ok.nil
theorem ct_X7_swap (l : Launch) : Ct l yX7_swap cX7_swap 4 (some .boolean) 2 layM f_X7_swap := ofRunL (by decide) rfl (ok_X7_swap l)
noncomputable def t_X7_useBestOrder : Tbl := [(0, s_al 1 0),
  (1, s_ic 2 0),
  (2, s_pf 5 layM 7 0),
  (5, s_al 6 0),
  (6, s_cv0 true 9 1 f_X7_tries),
  (9, s_al 10 0),
  (10, s_gf 13 layM 7 40),
  (13, s_ic 14 (-1)),
  (14, s_cne 17 19),
  (17, s_ic 18 (-1)),
  (18, s_ir),
  (19, s_al 20 0),
  (20, s_cv0 true 23 1 f_X7_keeps),
  (23, s_ic 24 0),
  (24, s_is 25 1),
  (25, s_il 26 1),
  (26, s_al 27 0),
  (27, s_gf 30 layM 7 3),
  (30, s_ic 32 18),
  (32, s_ia 33 layM 0),
  (33, s_cge 36 57),
  (36, s_al 37 0),
  (37, s_gf 40 layM 7 5),
  (40, s_ic 42 72),
  (42, s_il 43 1),
  (43, s_b 44 (fun x y => x + y)),
  (44, s_al 45 0),
  (45, s_gf 48 layM 7 39),
  (48, s_il 49 1),
  (49, s_ia 50 layM 0),
  (50, s_ix 51 layM 0),
  (51, s_in 54 1 1),
  (54, s_go 25),
  (57, s_al 58 0),
  (58, s_gf 61 layM 7 40),
  (61, s_ir)]
def cs_X7_useBestOrder : Cs := [(25, [0, 1])]
noncomputable def f_X7_useBestOrder : List Vv → Mm → Option Ou := lock (sem t_X7_useBestOrder cs_X7_useBestOrder 2)
set_option maxRecDepth 20000 in
theorem ok_X7_useBestOrder (l : Launch) : Ok l RX7 cX7_useBestOrder 2 7 (some .int) layM t_X7_useBestOrder :=
  Ok.cons (so_aload_n dX7_useBestOrder_0 rfl rfl) <|
  Ok.cons (so_iconst dX7_useBestOrder_1 (by decide) rfl) <|
  Ok.cons (so_pf (C := RX7) (T := TX7) (N := 42) inGX7 tyX7_ok nmX7 rfl (by decide) wq_1174 rfl rfl rfl dX7_useBestOrder_2 rfl) <|
  Ok.cons (so_aload_n dX7_useBestOrder_5 rfl rfl) <|
  Ok.cons (so_vv0 (ct_X7_tries l) wq_1661 wq_1658 wq_1660 wq_80 wq_95 (by decide +kernel) (by decide) rfl rfl dX7_useBestOrder_6 rfl) <|
  Ok.cons (so_aload_n dX7_useBestOrder_9 rfl rfl) <|
  Ok.cons (so_gf (C := RX7) (T := TX7) (N := 42) inGX7 rfl (by decide) wq_1214 rfl dX7_useBestOrder_10 rfl) <|
  Ok.cons (so_iconst dX7_useBestOrder_13 (by decide) rfl) <|
  Ok.cons (so_cne dX7_useBestOrder_14 (by decide) rfl) <|
  Ok.cons (so_iconst dX7_useBestOrder_17 (by decide) rfl) <|
  Ok.cons (so_ir rfl dX7_useBestOrder_18) <|
  Ok.cons (so_aload_n dX7_useBestOrder_19 rfl rfl) <|
  Ok.cons (so_vv0 (ct_X7_keeps l) wq_1749 wq_1746 wq_1748 wq_85 wq_95 (by decide +kernel) (by decide) rfl rfl dX7_useBestOrder_20 rfl) <|
  Ok.cons (so_iconst dX7_useBestOrder_23 (by decide) rfl) <|
  Ok.cons (so_istore_n dX7_useBestOrder_24 rfl (by decide) rfl) <|
  Ok.cons (so_iload_n dX7_useBestOrder_25 rfl rfl) <|
  Ok.cons (so_aload_n dX7_useBestOrder_26 rfl rfl) <|
  Ok.cons (so_gf (C := RX7) (T := TX7) (N := 42) inGX7 rfl (by decide) wq_1177 rfl dX7_useBestOrder_27 rfl) <|
  Ok.cons (so_bipush dX7_useBestOrder_30 (by decide) rfl) <|
  Ok.cons (so_ia0 dX7_useBestOrder_32 rfl) <|
  Ok.cons (so_cge dX7_useBestOrder_33 (by decide) rfl) <|
  Ok.cons (so_aload_n dX7_useBestOrder_36 rfl rfl) <|
  Ok.cons (so_gf (C := RX7) (T := TX7) (N := 42) inGX7 rfl (by decide) wq_1179 rfl dX7_useBestOrder_37 rfl) <|
  Ok.cons (so_bipush dX7_useBestOrder_40 (by decide) rfl) <|
  Ok.cons (so_iload_n dX7_useBestOrder_42 rfl rfl) <|
  Ok.cons (so_iadd dX7_useBestOrder_43 rfl) <|
  Ok.cons (so_aload_n dX7_useBestOrder_44 rfl rfl) <|
  Ok.cons (so_gf (C := RX7) (T := TX7) (N := 42) inGX7 rfl (by decide) wq_1213 rfl dX7_useBestOrder_45 rfl) <|
  Ok.cons (so_iload_n dX7_useBestOrder_48 rfl rfl) <|
  Ok.cons (so_ia0 dX7_useBestOrder_49 rfl) <|
  Ok.cons (so_ix dX7_useBestOrder_50 rfl) <|
  Ok.cons (so_iinc dX7_useBestOrder_51 (by decide) (by decide) rfl) <|
  Ok.cons (so_goto dX7_useBestOrder_54 (by decide)) <|
  Ok.cons (so_aload_n dX7_useBestOrder_57 rfl rfl) <|
  Ok.cons (so_gf (C := RX7) (T := TX7) (N := 42) inGX7 rfl (by decide) wq_1214 rfl dX7_useBestOrder_58 rfl) <|
  Ok.cons (so_ir rfl dX7_useBestOrder_61) <| Ok.nil
theorem ct_X7_useBestOrder (l : Launch) : Ct l yX7_useBestOrder cX7_useBestOrder 2 (some .int) 7 layM f_X7_useBestOrder := ofRunL (by decide) rfl (ok_X7_useBestOrder l)
noncomputable def t_X7_setPlace : Tbl := [(0, s_al 1 0),
  (1, s_ic 2 0),
  (2, s_pf 5 layM 7 0),
  (5, s_al 6 0),
  (6, s_il 7 1),
  (7, s_ci0 true 10 2 f_X7_isPlace),
  (10, s_zeq 13 38),
  (13, s_il 14 2),
  (14, s_ic 15 1),
  (15, s_clt 18 38),
  (18, s_il 19 2),
  (19, s_ic 22 2000),
  (22, s_cgt 25 38),
  (25, s_il 26 3),
  (26, s_ic 28 100),
  (28, s_clt 31 38),
  (31, s_il 32 3),
  (32, s_ic 35 1500),
  (35, s_cle 38 40),
  (38, s_ic 39 0),
  (39, s_zr),
  (40, s_al 41 0),
  (41, s_cv0 true 44 1 f_X7_keeps),
  (44, s_al 45 0),
  (45, s_gf 48 layM 7 5),
  (48, s_ic 50 66),
  (50, s_il 51 1),
  (51, s_b 52 (fun x y => x + y)),
  (52, s_il 53 2),
  (53, s_ix 54 layM 0),
  (54, s_al 55 0),
  (55, s_gf 58 layM 7 5),
  (58, s_ic 60 69),
  (60, s_il 61 1),
  (61, s_b 62 (fun x y => x + y)),
  (62, s_il 63 3),
  (63, s_ix 64 layM 0),
  (64, s_ic 65 1),
  (65, s_zr)]
def cs_X7_setPlace : Cs := []
noncomputable def f_X7_setPlace : List Vv → Mm → Option Ou := lock (sem t_X7_setPlace cs_X7_setPlace 4)
set_option maxRecDepth 20000 in
theorem ok_X7_setPlace (l : Launch) : Ok l RX7 cX7_setPlace 4 2 (some .boolean) layM t_X7_setPlace :=
  Ok.cons (so_aload_n dX7_setPlace_0 rfl rfl) <|
  Ok.cons (so_iconst dX7_setPlace_1 (by decide) rfl) <|
  Ok.cons (so_pf (C := RX7) (T := TX7) (N := 42) inGX7 tyX7_ok nmX7 rfl (by decide) wq_1174 rfl rfl rfl dX7_setPlace_2 rfl) <|
  Ok.cons (so_aload_n dX7_setPlace_5 rfl rfl) <|
  Ok.cons (so_iload_n dX7_setPlace_6 rfl rfl) <|
  Ok.cons (so_vi0 (ct_X7_isPlace l) wq_1488 wq_1485 wq_1487 wq_61 wq_95 (by decide +kernel) (by decide) rfl rfl dX7_setPlace_7 rfl) <|
  Ok.cons (so_zeq dX7_setPlace_10 (by decide) rfl) <|
  Ok.cons (so_iload_n dX7_setPlace_13 rfl rfl) <|
  Ok.cons (so_iconst dX7_setPlace_14 (by decide) rfl) <|
  Ok.cons (so_clt dX7_setPlace_15 (by decide) rfl) <|
  Ok.cons (so_iload_n dX7_setPlace_18 rfl rfl) <|
  Ok.cons (so_sipush dX7_setPlace_19 (by decide) rfl) <|
  Ok.cons (so_cgt dX7_setPlace_22 (by decide) rfl) <|
  Ok.cons (so_iload_n dX7_setPlace_25 rfl rfl) <|
  Ok.cons (so_bipush dX7_setPlace_26 (by decide) rfl) <|
  Ok.cons (so_clt dX7_setPlace_28 (by decide) rfl) <|
  Ok.cons (so_iload_n dX7_setPlace_31 rfl rfl) <|
  Ok.cons (so_sipush dX7_setPlace_32 (by decide) rfl) <|
  Ok.cons (so_cle dX7_setPlace_35 (by decide) rfl) <|
  Ok.cons (so_iconst dX7_setPlace_38 (by decide) rfl) <|
  Ok.cons (so_zr rfl dX7_setPlace_39) <|
  Ok.cons (so_aload_n dX7_setPlace_40 rfl rfl) <|
  Ok.cons (so_vv0 (ct_X7_keeps l) wq_1749 wq_1746 wq_1748 wq_85 wq_95 (by decide +kernel) (by decide) rfl rfl dX7_setPlace_41 rfl) <|
  Ok.cons (so_aload_n dX7_setPlace_44 rfl rfl) <|
  Ok.cons (so_gf (C := RX7) (T := TX7) (N := 42) inGX7 rfl (by decide) wq_1179 rfl dX7_setPlace_45 rfl) <|
  Ok.cons (so_bipush dX7_setPlace_48 (by decide) rfl) <|
  Ok.cons (so_iload_n dX7_setPlace_50 rfl rfl) <|
  Ok.cons (so_iadd dX7_setPlace_51 rfl) <|
  Ok.cons (so_iload_n dX7_setPlace_52 rfl rfl) <|
  Ok.cons (so_ix dX7_setPlace_53 rfl) <|
  Ok.cons (so_aload_n dX7_setPlace_54 rfl rfl) <|
  Ok.cons (so_gf (C := RX7) (T := TX7) (N := 42) inGX7 rfl (by decide) wq_1179 rfl dX7_setPlace_55 rfl) <|
  Ok.cons (so_bipush dX7_setPlace_58 (by decide) rfl) <|
  Ok.cons (so_iload_n dX7_setPlace_60 rfl rfl) <|
  Ok.cons (so_iadd dX7_setPlace_61 rfl) <|
  Ok.cons (so_iload_n dX7_setPlace_62 rfl rfl) <|
  Ok.cons (so_ix dX7_setPlace_63 rfl) <|
  Ok.cons (so_iconst dX7_setPlace_64 (by decide) rfl) <|
  Ok.cons (so_zr rfl dX7_setPlace_65) <| Ok.nil
theorem ct_X7_setPlace (l : Launch) : Ct l yX7_setPlace cX7_setPlace 4 (some .boolean) 2 layM f_X7_setPlace := ofRunL (by decide) rfl (ok_X7_setPlace l)
noncomputable def t_X7_addStep : Tbl := [(0, s_al 1 0),
  (1, s_ic 2 0),
  (2, s_pf 5 layM 7 0),
  (5, s_al 6 0),
  (6, s_il 7 1),
  (7, s_ci0 true 10 2 f_X7_isIron),
  (10, s_zne 13 15),
  (13, s_ic 14 (-1)),
  (14, s_ir),
  (15, s_il 16 2),
  (16, s_ic 18 100),
  (18, s_clt 21 39),
  (21, s_il 22 2),
  (22, s_ic 25 1400),
  (25, s_cgt 28 39),
  (28, s_il 29 3),
  (29, s_ic 30 1),
  (30, s_clt 33 39),
  (33, s_il 34 3),
  (34, s_ic 36 30),
  (36, s_cle 39 42),
  (39, s_ic 41 (-2)),
  (41, s_ir),
  (42, s_al 43 0),
  (43, s_gf 46 layM 7 5),
  (46, s_ic 47 0),
  (47, s_il 48 1),
  (48, s_b 49 (fun x y => x + y)),
  (49, s_ia 50 layM 0),
  (50, s_ic 51 5),
  (51, s_cne 54 57),
  (54, s_ic 56 (-3)),
  (56, s_ir),
  (57, s_al 58 0),
  (58, s_cv0 true 61 1 f_X7_keeps),
  (61, s_al 62 0),
  (62, s_gf 65 layM 7 5),
  (65, s_il 66 1),
  (66, s_il 67 2),
  (67, s_il 68 3),
  (68, s_cv0 false 71 4 f_X7_adds),
  (71, s_al 72 0),
  (72, s_gf 75 layM 7 5),
  (75, s_ic 76 0),
  (76, s_il 77 1),
  (77, s_b 78 (fun x y => x + y)),
  (78, s_ia 79 layM 0),
  (79, s_ir)]
def cs_X7_addStep : Cs := []
noncomputable def f_X7_addStep : List Vv → Mm → Option Ou := lock (sem t_X7_addStep cs_X7_addStep 4)
set_option maxRecDepth 20000 in
theorem ok_X7_addStep (l : Launch) : Ok l RX7 cX7_addStep 4 2 (some .int) layM t_X7_addStep :=
  Ok.cons (so_aload_n dX7_addStep_0 rfl rfl) <|
  Ok.cons (so_iconst dX7_addStep_1 (by decide) rfl) <|
  Ok.cons (so_pf (C := RX7) (T := TX7) (N := 42) inGX7 tyX7_ok nmX7 rfl (by decide) wq_1174 rfl rfl rfl dX7_addStep_2 rfl) <|
  Ok.cons (so_aload_n dX7_addStep_5 rfl rfl) <|
  Ok.cons (so_iload_n dX7_addStep_6 rfl rfl) <|
  Ok.cons (so_vi0 (ct_X7_isIron l) wq_1456 wq_1453 wq_1455 wq_58 wq_95 (by decide +kernel) (by decide) rfl rfl dX7_addStep_7 rfl) <|
  Ok.cons (so_zne dX7_addStep_10 (by decide) rfl) <|
  Ok.cons (so_iconst dX7_addStep_13 (by decide) rfl) <|
  Ok.cons (so_ir rfl dX7_addStep_14) <|
  Ok.cons (so_iload_n dX7_addStep_15 rfl rfl) <|
  Ok.cons (so_bipush dX7_addStep_16 (by decide) rfl) <|
  Ok.cons (so_clt dX7_addStep_18 (by decide) rfl) <|
  Ok.cons (so_iload_n dX7_addStep_21 rfl rfl) <|
  Ok.cons (so_sipush dX7_addStep_22 (by decide) rfl) <|
  Ok.cons (so_cgt dX7_addStep_25 (by decide) rfl) <|
  Ok.cons (so_iload_n dX7_addStep_28 rfl rfl) <|
  Ok.cons (so_iconst dX7_addStep_29 (by decide) rfl) <|
  Ok.cons (so_clt dX7_addStep_30 (by decide) rfl) <|
  Ok.cons (so_iload_n dX7_addStep_33 rfl rfl) <|
  Ok.cons (so_bipush dX7_addStep_34 (by decide) rfl) <|
  Ok.cons (so_cle dX7_addStep_36 (by decide) rfl) <|
  Ok.cons (so_bipush dX7_addStep_39 (by decide) rfl) <|
  Ok.cons (so_ir rfl dX7_addStep_41) <|
  Ok.cons (so_aload_n dX7_addStep_42 rfl rfl) <|
  Ok.cons (so_gf (C := RX7) (T := TX7) (N := 42) inGX7 rfl (by decide) wq_1179 rfl dX7_addStep_43 rfl) <|
  Ok.cons (so_iconst dX7_addStep_46 (by decide) rfl) <|
  Ok.cons (so_iload_n dX7_addStep_47 rfl rfl) <|
  Ok.cons (so_iadd dX7_addStep_48 rfl) <|
  Ok.cons (so_ia0 dX7_addStep_49 rfl) <|
  Ok.cons (so_iconst dX7_addStep_50 (by decide) rfl) <|
  Ok.cons (so_cne dX7_addStep_51 (by decide) rfl) <|
  Ok.cons (so_bipush dX7_addStep_54 (by decide) rfl) <|
  Ok.cons (so_ir rfl dX7_addStep_56) <|
  Ok.cons (so_aload_n dX7_addStep_57 rfl rfl) <|
  Ok.cons (so_vv0 (ct_X7_keeps l) wq_1749 wq_1746 wq_1748 wq_85 wq_95 (by decide +kernel) (by decide) rfl rfl dX7_addStep_58 rfl) <|
  Ok.cons (so_aload_n dX7_addStep_61 rfl rfl) <|
  Ok.cons (so_gf (C := RX7) (T := TX7) (N := 42) inGX7 rfl (by decide) wq_1179 rfl dX7_addStep_62 rfl) <|
  Ok.cons (so_iload_n dX7_addStep_65 rfl rfl) <|
  Ok.cons (so_iload_n dX7_addStep_66 rfl rfl) <|
  Ok.cons (so_iload_n dX7_addStep_67 rfl rfl) <|
  Ok.cons (so_sv0 (ct_X7_adds l) wq_1414 wq_1412 wq_1413 wq_95 (by decide +kernel) (by decide) dX7_addStep_68 rfl) <|
  Ok.cons (so_aload_n dX7_addStep_71 rfl rfl) <|
  Ok.cons (so_gf (C := RX7) (T := TX7) (N := 42) inGX7 rfl (by decide) wq_1179 rfl dX7_addStep_72 rfl) <|
  Ok.cons (so_iconst dX7_addStep_75 (by decide) rfl) <|
  Ok.cons (so_iload_n dX7_addStep_76 rfl rfl) <|
  Ok.cons (so_iadd dX7_addStep_77 rfl) <|
  Ok.cons (so_ia0 dX7_addStep_78 rfl) <|
  Ok.cons (so_ir rfl dX7_addStep_79) <| Ok.nil
theorem ct_X7_addStep (l : Launch) : Ct l yX7_addStep cX7_addStep 4 (some .int) 2 layM f_X7_addStep := ofRunL (by decide) rfl (ok_X7_addStep l)
noncomputable def t_X7_removeStep : Tbl := [(0, s_al 1 0),
  (1, s_ic 2 0),
  (2, s_pf 5 layM 7 0),
  (5, s_al 6 0),
  (6, s_il 7 1),
  (7, s_ci0 true 10 2 f_X7_isIron),
  (10, s_zeq 13 24),
  (13, s_al 14 0),
  (14, s_gf 17 layM 7 5),
  (17, s_ic 18 0),
  (18, s_il 19 1),
  (19, s_b 20 (fun x y => x + y)),
  (20, s_ia 21 layM 0),
  (21, s_zne 24 26),
  (24, s_ic 25 (-1)),
  (25, s_ir),
  (26, s_al 27 0),
  (27, s_cv0 true 30 1 f_X7_keeps),
  (30, s_al 31 0),
  (31, s_gf 34 layM 7 5),
  (34, s_ic 35 0),
  (35, s_il 36 1),
  (36, s_b 37 (fun x y => x + y)),
  (37, s_dup2 38),
  (38, s_ia 39 layM 0),
  (39, s_ic 40 1),
  (40, s_b 41 (fun x y => x - y)),
  (41, s_ix 42 layM 0),
  (42, s_al 43 0),
  (43, s_gf 46 layM 7 5),
  (46, s_ic 47 0),
  (47, s_il 48 1),
  (48, s_b 49 (fun x y => x + y)),
  (49, s_ia 50 layM 0),
  (50, s_ir)]
def cs_X7_removeStep : Cs := []
noncomputable def f_X7_removeStep : List Vv → Mm → Option Ou := lock (sem t_X7_removeStep cs_X7_removeStep 2)
set_option maxRecDepth 20000 in
theorem ok_X7_removeStep (l : Launch) : Ok l RX7 cX7_removeStep 2 2 (some .int) layM t_X7_removeStep :=
  Ok.cons (so_aload_n dX7_removeStep_0 rfl rfl) <|
  Ok.cons (so_iconst dX7_removeStep_1 (by decide) rfl) <|
  Ok.cons (so_pf (C := RX7) (T := TX7) (N := 42) inGX7 tyX7_ok nmX7 rfl (by decide) wq_1174 rfl rfl rfl dX7_removeStep_2 rfl) <|
  Ok.cons (so_aload_n dX7_removeStep_5 rfl rfl) <|
  Ok.cons (so_iload_n dX7_removeStep_6 rfl rfl) <|
  Ok.cons (so_vi0 (ct_X7_isIron l) wq_1456 wq_1453 wq_1455 wq_58 wq_95 (by decide +kernel) (by decide) rfl rfl dX7_removeStep_7 rfl) <|
  Ok.cons (so_zeq dX7_removeStep_10 (by decide) rfl) <|
  Ok.cons (so_aload_n dX7_removeStep_13 rfl rfl) <|
  Ok.cons (so_gf (C := RX7) (T := TX7) (N := 42) inGX7 rfl (by decide) wq_1179 rfl dX7_removeStep_14 rfl) <|
  Ok.cons (so_iconst dX7_removeStep_17 (by decide) rfl) <|
  Ok.cons (so_iload_n dX7_removeStep_18 rfl rfl) <|
  Ok.cons (so_iadd dX7_removeStep_19 rfl) <|
  Ok.cons (so_ia0 dX7_removeStep_20 rfl) <|
  Ok.cons (so_zne dX7_removeStep_21 (by decide) rfl) <|
  Ok.cons (so_iconst dX7_removeStep_24 (by decide) rfl) <|
  Ok.cons (so_ir rfl dX7_removeStep_25) <|
  Ok.cons (so_aload_n dX7_removeStep_26 rfl rfl) <|
  Ok.cons (so_vv0 (ct_X7_keeps l) wq_1749 wq_1746 wq_1748 wq_85 wq_95 (by decide +kernel) (by decide) rfl rfl dX7_removeStep_27 rfl) <|
  Ok.cons (so_aload_n dX7_removeStep_30 rfl rfl) <|
  Ok.cons (so_gf (C := RX7) (T := TX7) (N := 42) inGX7 rfl (by decide) wq_1179 rfl dX7_removeStep_31 rfl) <|
  Ok.cons (so_iconst dX7_removeStep_34 (by decide) rfl) <|
  Ok.cons (so_iload_n dX7_removeStep_35 rfl rfl) <|
  Ok.cons (so_iadd dX7_removeStep_36 rfl) <|
  Ok.cons (so_dup2 dX7_removeStep_37 rfl) <|
  Ok.cons (so_ia0 dX7_removeStep_38 rfl) <|
  Ok.cons (so_iconst dX7_removeStep_39 (by decide) rfl) <|
  Ok.cons (so_isub dX7_removeStep_40 rfl) <|
  Ok.cons (so_ix dX7_removeStep_41 rfl) <|
  Ok.cons (so_aload_n dX7_removeStep_42 rfl rfl) <|
  Ok.cons (so_gf (C := RX7) (T := TX7) (N := 42) inGX7 rfl (by decide) wq_1179 rfl dX7_removeStep_43 rfl) <|
  Ok.cons (so_iconst dX7_removeStep_46 (by decide) rfl) <|
  Ok.cons (so_iload_n dX7_removeStep_47 rfl rfl) <|
  Ok.cons (so_iadd dX7_removeStep_48 rfl) <|
  Ok.cons (so_ia0 dX7_removeStep_49 rfl) <|
  Ok.cons (so_ir rfl dX7_removeStep_50) <| Ok.nil
theorem ct_X7_removeStep (l : Launch) : Ct l yX7_removeStep cX7_removeStep 2 (some .int) 2 layM f_X7_removeStep := ofRunL (by decide) rfl (ok_X7_removeStep l)
