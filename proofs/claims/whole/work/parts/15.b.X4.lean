noncomputable def t_X4_hasRoom : Tbl := [(0, s_al 1 0),
  (1, s_gf 4 layD 4 3),
  (4, s_ic 6 20),
  (6, s_b 7 (fun x y => x + y)),
  (7, s_ic 10 900),
  (10, s_cgt 13 17),
  (13, s_ic 14 1),
  (14, s_go 18),
  (17, s_ic 18 0),
  (18, s_zr)]
def cs_X4_hasRoom : Cs := []
noncomputable def f_X4_hasRoom : List Vv → Mm → Option Ou := lock (sem t_X4_hasRoom cs_X4_hasRoom 1)
set_option maxRecDepth 20000 in
theorem ok_X4_hasRoom (l : Launch) : Ok l RX4 cX4_hasRoom 1 1 (some .boolean) layD t_X4_hasRoom :=
  Ok.cons (so_aload_n dX4_hasRoom_0 rfl rfl) <|
  Ok.cons (so_gf (C := RX4) (T := TX4) (N := 11) inGX4 rfl (by decide) wq_221 rfl dX4_hasRoom_1 rfl) <|
  Ok.cons (so_bipush dX4_hasRoom_4 (by decide) rfl) <|
  Ok.cons (so_iadd dX4_hasRoom_6 rfl) <|
  Ok.cons (so_sipush dX4_hasRoom_7 (by decide) rfl) <|
  Ok.cons (so_cgt dX4_hasRoom_10 (by decide) rfl) <|
  Ok.cons (so_iconst dX4_hasRoom_13 (by decide) rfl) <|
  Ok.cons (so_goto dX4_hasRoom_14 (by decide)) <|
  Ok.cons (so_iconst dX4_hasRoom_17 (by decide) rfl) <|
  Ok.cons (so_zr rfl dX4_hasRoom_18) <| Ok.nil
theorem ct_X4_hasRoom (l : Launch) : Ct l yX4_hasRoom cX4_hasRoom 1 (some .boolean) 1 layD f_X4_hasRoom := ofRunL (by decide) rfl (ok_X4_hasRoom l)
noncomputable def t_X4_append : Tbl := [(0, s_ic 2 24),
  (2, s_is 3 2),
  (3, s_il 4 2),
  (4, s_zlt 7 46),
  (7, s_al 8 0),
  (8, s_gf 11 layD 4 3),
  (11, s_ic 14 900),
  (14, s_cge 17 46),
  (17, s_al 18 0),
  (18, s_gf 21 layD 4 0),
  (21, s_al 22 0),
  (22, s_gf 25 layD 4 3),
  (25, s_il 26 1),
  (26, s_il 27 2),
  (27, s_b 28 (fun x y => x >>> (y &&& 31))),
  (28, s_u 29 (fun x => x.toInt8.toInt32)),
  (29, s_bx 30 layD),
  (30, s_al 31 0),
  (31, s_dup 32),
  (32, s_gf 35 layD 4 3),
  (35, s_ic 36 1),
  (36, s_b 37 (fun x y => x + y)),
  (37, s_pf 40 layD 4 3),
  (40, s_in 43 2 (-8)),
  (43, s_go 3),
  (46, s_vr)]
def cs_X4_append : Cs := [(3, [0, 1, 2])]
noncomputable def f_X4_append : List Vv → Mm → Option Ou := lock (sem t_X4_append cs_X4_append 3)
set_option maxRecDepth 20000 in
theorem ok_X4_append (l : Launch) : Ok l RX4 cX4_append 3 1 none layD t_X4_append :=
  Ok.cons (so_bipush dX4_append_0 (by decide) rfl) <|
  Ok.cons (so_istore_n dX4_append_2 rfl (by decide) rfl) <|
  Ok.cons (so_iload_n dX4_append_3 rfl rfl) <|
  Ok.cons (so_zlt dX4_append_4 (by decide) rfl) <|
  Ok.cons (so_aload_n dX4_append_7 rfl rfl) <|
  Ok.cons (so_gf (C := RX4) (T := TX4) (N := 11) inGX4 rfl (by decide) wq_221 rfl dX4_append_8 rfl) <|
  Ok.cons (so_sipush dX4_append_11 (by decide) rfl) <|
  Ok.cons (so_cge dX4_append_14 (by decide) rfl) <|
  Ok.cons (so_aload_n dX4_append_17 rfl rfl) <|
  Ok.cons (so_gf (C := RX4) (T := TX4) (N := 11) inGX4 rfl (by decide) wq_217 rfl dX4_append_18 rfl) <|
  Ok.cons (so_aload_n dX4_append_21 rfl rfl) <|
  Ok.cons (so_gf (C := RX4) (T := TX4) (N := 11) inGX4 rfl (by decide) wq_221 rfl dX4_append_22 rfl) <|
  Ok.cons (so_iload_n dX4_append_25 rfl rfl) <|
  Ok.cons (so_iload_n dX4_append_26 rfl rfl) <|
  Ok.cons (so_ishr dX4_append_27 rfl) <|
  Ok.cons (so_i2b dX4_append_28 rfl) <|
  Ok.cons (so_bx dX4_append_29 rfl) <|
  Ok.cons (so_aload_n dX4_append_30 rfl rfl) <|
  Ok.cons (so_dup dX4_append_31 rfl) <|
  Ok.cons (so_gf (C := RX4) (T := TX4) (N := 11) inGX4 rfl (by decide) wq_221 rfl dX4_append_32 rfl) <|
  Ok.cons (so_iconst dX4_append_35 (by decide) rfl) <|
  Ok.cons (so_iadd dX4_append_36 rfl) <|
  Ok.cons (so_pf (C := RX4) (T := TX4) (N := 11) inGX4 tyX4_ok nmX4 rfl (by decide) wq_221 rfl rfl rfl dX4_append_37 rfl) <|
  Ok.cons (so_iinc dX4_append_40 (by decide) (by decide) rfl) <|
  Ok.cons (so_goto dX4_append_43 (by decide)) <|
  Ok.cons (so_vr rfl dX4_append_46) <| Ok.nil
theorem ct_X4_append (l : Launch) : Ct l yX4_append cX4_append 3 none 1 layD f_X4_append := ofRunL (by decide) rfl (ok_X4_append l)
noncomputable def t_X4_beginText : Tbl := [(0, s_al 1 0),
  (1, s_il 2 1),
  (2, s_al 3 0),
  (3, s_gf 6 layD 4 3),
  (6, s_m 9 (fun x y => if y < x then y else x)),
  (9, s_pf 12 layD 4 6),
  (12, s_al 13 0),
  (13, s_ic 14 0),
  (14, s_pf 17 layD 4 3),
  (17, s_al 18 0),
  (18, s_ic 19 0),
  (19, s_pf 22 layD 4 7),
  (22, s_al 23 0),
  (23, s_ic 24 (-1)),
  (24, s_pf 27 layD 4 4),
  (27, s_al 28 0),
  (28, s_gf 31 layD 4 1),
  (31, s_cv true 34 1 (sgC 3 11) f_X2_clear),
  (34, s_ic 35 0),
  (35, s_is 36 2),
  (36, s_il 37 2),
  (37, s_ic 38 3),
  (38, s_cge 41 54),
  (41, s_al 42 0),
  (42, s_gf 45 layD 4 2),
  (45, s_il 46 2),
  (46, s_ic 47 0),
  (47, s_zx 48 layD),
  (48, s_in 51 2 1),
  (51, s_go 36),
  (54, s_vr)]
def cs_X4_beginText : Cs := [(36, [0, 2])]
noncomputable def f_X4_beginText : List Vv → Mm → Option Ou := lock (sem t_X4_beginText cs_X4_beginText 3)
set_option maxRecDepth 20000 in
theorem ok_X4_beginText (l : Launch) : Ok l RX4 cX4_beginText 3 2 none layD t_X4_beginText :=
  Ok.cons (so_aload_n dX4_beginText_0 rfl rfl) <|
  Ok.cons (so_iload_n dX4_beginText_1 rfl rfl) <|
  Ok.cons (so_aload_n dX4_beginText_2 rfl rfl) <|
  Ok.cons (so_gf (C := RX4) (T := TX4) (N := 11) inGX4 rfl (by decide) wq_221 rfl dX4_beginText_3 rfl) <|
  Ok.cons (so_min (by decide) wq_407 wq_408 wq_96 wc_min dX4_beginText_6 rfl) <|
  Ok.cons (so_pf (C := RX4) (T := TX4) (N := 11) inGX4 tyX4_ok nmX4 rfl (by decide) wq_226 rfl rfl rfl dX4_beginText_9 rfl) <|
  Ok.cons (so_aload_n dX4_beginText_12 rfl rfl) <|
  Ok.cons (so_iconst dX4_beginText_13 (by decide) rfl) <|
  Ok.cons (so_pf (C := RX4) (T := TX4) (N := 11) inGX4 tyX4_ok nmX4 rfl (by decide) wq_221 rfl rfl rfl dX4_beginText_14 rfl) <|
  Ok.cons (so_aload_n dX4_beginText_17 rfl rfl) <|
  Ok.cons (so_iconst dX4_beginText_18 (by decide) rfl) <|
  Ok.cons (so_pf (C := RX4) (T := TX4) (N := 11) inGX4 tyX4_ok nmX4 rfl (by decide) wq_227 rfl rfl rfl dX4_beginText_19 rfl) <|
  Ok.cons (so_aload_n dX4_beginText_22 rfl rfl) <|
  Ok.cons (so_iconst dX4_beginText_23 (by decide) rfl) <|
  Ok.cons (so_pf (C := RX4) (T := TX4) (N := 11) inGX4 tyX4_ok nmX4 rfl (by decide) wq_223 rfl rfl rfl dX4_beginText_24 rfl) <|
  Ok.cons (so_aload_n dX4_beginText_27 rfl rfl) <|
  Ok.cons (so_gf (C := RX4) (T := TX4) (N := 11) inGX4 rfl (by decide) wq_218 rfl dX4_beginText_28 rfl) <|
  Ok.cons (so_vv (ct_X2_clear l) wq_413 wq_410 wq_411 wq_412 wq_88 (by decide +kernel) (by decide) rfl rfl cmp_layD_sgC_3_11 dX4_beginText_31 rfl) <|
  Ok.cons (so_iconst dX4_beginText_34 (by decide) rfl) <|
  Ok.cons (so_istore_n dX4_beginText_35 rfl (by decide) rfl) <|
  Ok.cons (so_iload_n dX4_beginText_36 rfl rfl) <|
  Ok.cons (so_iconst dX4_beginText_37 (by decide) rfl) <|
  Ok.cons (so_cge dX4_beginText_38 (by decide) rfl) <|
  Ok.cons (so_aload_n dX4_beginText_41 rfl rfl) <|
  Ok.cons (so_gf (C := RX4) (T := TX4) (N := 11) inGX4 rfl (by decide) wq_220 rfl dX4_beginText_42 rfl) <|
  Ok.cons (so_iload_n dX4_beginText_45 rfl rfl) <|
  Ok.cons (so_iconst dX4_beginText_46 (by decide) rfl) <|
  Ok.cons (so_zx dX4_beginText_47 rfl) <|
  Ok.cons (so_iinc dX4_beginText_48 (by decide) (by decide) rfl) <|
  Ok.cons (so_goto dX4_beginText_51 (by decide)) <|
  Ok.cons (so_vr rfl dX4_beginText_54) <| Ok.nil
theorem ct_X4_beginText (l : Launch) : Ct l yX4_beginText cX4_beginText 3 none 2 layD f_X4_beginText := ofRunL (by decide) rfl (ok_X4_beginText l)
noncomputable def t_X4_takeWord : Tbl := [(0, s_ic 1 0),
  (1, s_is 2 1),
  (2, s_ic 3 0),
  (3, s_is 4 2),
  (4, s_al 5 0),
  (5, s_gf 8 layD 4 7),
  (8, s_al 9 0),
  (9, s_gf 12 layD 4 6),
  (12, s_cge 15 87),
  (15, s_al 16 0),
  (16, s_gf 19 layD 4 0),
  (19, s_al 20 0),
  (20, s_gf 23 layD 4 7),
  (23, s_ia 24 layD 1),
  (24, s_ic 26 97),
  (26, s_clt 29 87),
  (29, s_al 30 0),
  (30, s_gf 33 layD 4 0),
  (33, s_al 34 0),
  (34, s_gf 37 layD 4 7),
  (37, s_ia 38 layD 1),
  (38, s_ic 40 122),
  (40, s_cgt 43 87),
  (43, s_il 44 2),
  (44, s_ic 46 6),
  (46, s_cge 49 71),
  (49, s_il 50 1),
  (50, s_al 51 0),
  (51, s_gf 54 layD 4 0),
  (54, s_al 55 0),
  (55, s_gf 58 layD 4 7),
  (58, s_ia 59 layD 1),
  (59, s_ic 61 31),
  (61, s_b 62 (fun x y => x &&& y)),
  (62, s_ic 64 25),
  (64, s_ic 65 5),
  (65, s_il 66 2),
  (66, s_b 67 (fun x y => x * y)),
  (67, s_b 68 (fun x y => x - y)),
  (68, s_b 69 (fun x y => x <<< (y &&& 31))),
  (69, s_b 70 (fun x y => x ||| y)),
  (70, s_is 71 1),
  (71, s_in 74 2 1),
  (74, s_al 75 0),
  (75, s_dup 76),
  (76, s_gf 79 layD 4 7),
  (79, s_ic 80 1),
  (80, s_b 81 (fun x y => x + y)),
  (81, s_pf 84 layD 4 7),
  (84, s_go 4),
  (87, s_al 88 0),
  (88, s_ic 89 1),
  (89, s_pf 92 layD 4 9),
  (92, s_al 93 0),
  (93, s_il 94 2),
  (94, s_ic 96 6),
  (96, s_cgt 99 103),
  (99, s_il 100 1),
  (100, s_go 104),
  (103, s_ic 104 0),
  (104, s_pf 107 layD 4 10),
  (107, s_vr)]
def cs_X4_takeWord : Cs := [(4, [0, 1, 2]), (87, [0, 1, 2])]
noncomputable def f_X4_takeWord : List Vv → Mm → Option Ou := lock (sem t_X4_takeWord cs_X4_takeWord 3)
set_option maxRecDepth 20000 in
theorem ok_X4_takeWord (l : Launch) : Ok l RX4 cX4_takeWord 3 1 none layD t_X4_takeWord :=
  Ok.cons (so_iconst dX4_takeWord_0 (by decide) rfl) <|
  Ok.cons (so_istore_n dX4_takeWord_1 rfl (by decide) rfl) <|
  Ok.cons (so_iconst dX4_takeWord_2 (by decide) rfl) <|
  Ok.cons (so_istore_n dX4_takeWord_3 rfl (by decide) rfl) <|
  Ok.cons (so_aload_n dX4_takeWord_4 rfl rfl) <|
  Ok.cons (so_gf (C := RX4) (T := TX4) (N := 11) inGX4 rfl (by decide) wq_227 rfl dX4_takeWord_5 rfl) <|
  Ok.cons (so_aload_n dX4_takeWord_8 rfl rfl) <|
  Ok.cons (so_gf (C := RX4) (T := TX4) (N := 11) inGX4 rfl (by decide) wq_226 rfl dX4_takeWord_9 rfl) <|
  Ok.cons (so_cge dX4_takeWord_12 (by decide) rfl) <|
  Ok.cons (so_aload_n dX4_takeWord_15 rfl rfl) <|
  Ok.cons (so_gf (C := RX4) (T := TX4) (N := 11) inGX4 rfl (by decide) wq_217 rfl dX4_takeWord_16 rfl) <|
  Ok.cons (so_aload_n dX4_takeWord_19 rfl rfl) <|
  Ok.cons (so_gf (C := RX4) (T := TX4) (N := 11) inGX4 rfl (by decide) wq_227 rfl dX4_takeWord_20 rfl) <|
  Ok.cons (so_ia1 dX4_takeWord_23 rfl) <|
  Ok.cons (so_bipush dX4_takeWord_24 (by decide) rfl) <|
  Ok.cons (so_clt dX4_takeWord_26 (by decide) rfl) <|
  Ok.cons (so_aload_n dX4_takeWord_29 rfl rfl) <|
  Ok.cons (so_gf (C := RX4) (T := TX4) (N := 11) inGX4 rfl (by decide) wq_217 rfl dX4_takeWord_30 rfl) <|
  Ok.cons (so_aload_n dX4_takeWord_33 rfl rfl) <|
  Ok.cons (so_gf (C := RX4) (T := TX4) (N := 11) inGX4 rfl (by decide) wq_227 rfl dX4_takeWord_34 rfl) <|
  Ok.cons (so_ia1 dX4_takeWord_37 rfl) <|
  Ok.cons (so_bipush dX4_takeWord_38 (by decide) rfl) <|
  Ok.cons (so_cgt dX4_takeWord_40 (by decide) rfl) <|
  Ok.cons (so_iload_n dX4_takeWord_43 rfl rfl) <|
  Ok.cons (so_bipush dX4_takeWord_44 (by decide) rfl) <|
  Ok.cons (so_cge dX4_takeWord_46 (by decide) rfl) <|
  Ok.cons (so_iload_n dX4_takeWord_49 rfl rfl) <|
  Ok.cons (so_aload_n dX4_takeWord_50 rfl rfl) <|
  Ok.cons (so_gf (C := RX4) (T := TX4) (N := 11) inGX4 rfl (by decide) wq_217 rfl dX4_takeWord_51 rfl) <|
  Ok.cons (so_aload_n dX4_takeWord_54 rfl rfl) <|
  Ok.cons (so_gf (C := RX4) (T := TX4) (N := 11) inGX4 rfl (by decide) wq_227 rfl dX4_takeWord_55 rfl) <|
  Ok.cons (so_ia1 dX4_takeWord_58 rfl) <|
  Ok.cons (so_bipush dX4_takeWord_59 (by decide) rfl) <|
  Ok.cons (so_iand dX4_takeWord_61 rfl) <|
  Ok.cons (so_bipush dX4_takeWord_62 (by decide) rfl) <|
  Ok.cons (so_iconst dX4_takeWord_64 (by decide) rfl) <|
  Ok.cons (so_iload_n dX4_takeWord_65 rfl rfl) <|
  Ok.cons (so_imul dX4_takeWord_66 rfl) <|
  Ok.cons (so_isub dX4_takeWord_67 rfl) <|
  Ok.cons (so_ishl dX4_takeWord_68 rfl) <|
  Ok.cons (so_ior dX4_takeWord_69 rfl) <|
  Ok.cons (so_istore_n dX4_takeWord_70 rfl (by decide) rfl) <|
  Ok.cons (so_iinc dX4_takeWord_71 (by decide) (by decide) rfl) <|
  Ok.cons (so_aload_n dX4_takeWord_74 rfl rfl) <|
  Ok.cons (so_dup dX4_takeWord_75 rfl) <|
  Ok.cons (so_gf (C := RX4) (T := TX4) (N := 11) inGX4 rfl (by decide) wq_227 rfl dX4_takeWord_76 rfl) <|
  Ok.cons (so_iconst dX4_takeWord_79 (by decide) rfl) <|
  Ok.cons (so_iadd dX4_takeWord_80 rfl) <|
  Ok.cons (so_pf (C := RX4) (T := TX4) (N := 11) inGX4 tyX4_ok nmX4 rfl (by decide) wq_227 rfl rfl rfl dX4_takeWord_81 rfl) <|
  Ok.cons (so_goto dX4_takeWord_84 (by decide)) <|
  Ok.cons (so_aload_n dX4_takeWord_87 rfl rfl) <|
  Ok.cons (so_iconst dX4_takeWord_88 (by decide) rfl) <|
  Ok.cons (so_pf (C := RX4) (T := TX4) (N := 11) inGX4 tyX4_ok nmX4 rfl (by decide) wq_229 rfl rfl rfl dX4_takeWord_89 rfl) <|
  Ok.cons (so_aload_n dX4_takeWord_92 rfl rfl) <|
  Ok.cons (so_iload_n dX4_takeWord_93 rfl rfl) <|
  Ok.cons (so_bipush dX4_takeWord_94 (by decide) rfl) <|
  Ok.cons (so_cgt dX4_takeWord_96 (by decide) rfl) <|
  Ok.cons (so_iload_n dX4_takeWord_99 rfl rfl) <|
  Ok.cons (so_goto dX4_takeWord_100 (by decide)) <|
  Ok.cons (so_iconst dX4_takeWord_103 (by decide) rfl) <|
  Ok.cons (so_pf (C := RX4) (T := TX4) (N := 11) inGX4 tyX4_ok nmX4 rfl (by decide) wq_230 rfl rfl rfl dX4_takeWord_104 rfl) <|
  Ok.cons (so_vr rfl dX4_takeWord_107) <| Ok.nil
theorem ct_X4_takeWord (l : Launch) : Ct l yX4_takeWord cX4_takeWord 3 none 1 layD f_X4_takeWord := ofRunL (by decide) rfl (ok_X4_takeWord l)
noncomputable def t_X4_takeNumber : Tbl := [(0, s_ic 1 0),
  (1, s_is 2 1),
  (2, s_al 3 0),
  (3, s_gf 6 layD 4 7),
  (6, s_al 7 0),
  (7, s_gf 10 layD 4 6),
  (10, s_cge 13 78),
  (13, s_al 14 0),
  (14, s_gf 17 layD 4 0),
  (17, s_al 18 0),
  (18, s_gf 21 layD 4 7),
  (21, s_ia 22 layD 1),
  (22, s_ic 24 48),
  (24, s_clt 27 78),
  (27, s_al 28 0),
  (28, s_gf 31 layD 4 0),
  (31, s_al 32 0),
  (32, s_gf 35 layD 4 7),
  (35, s_ia 36 layD 1),
  (36, s_ic 38 57),
  (38, s_cgt 41 78),
  (41, s_il 42 1),
  (42, s_ic 44 100000),
  (44, s_cge 47 65),
  (47, s_il 48 1),
  (48, s_ic 50 10),
  (50, s_b 51 (fun x y => x * y)),
  (51, s_al 52 0),
  (52, s_gf 55 layD 4 0),
  (55, s_al 56 0),
  (56, s_gf 59 layD 4 7),
  (59, s_ia 60 layD 1),
  (60, s_ic 62 48),
  (62, s_b 63 (fun x y => x - y)),
  (63, s_b 64 (fun x y => x + y)),
  (64, s_is 65 1),
  (65, s_al 66 0),
  (66, s_dup 67),
  (67, s_gf 70 layD 4 7),
  (70, s_ic 71 1),
  (71, s_b 72 (fun x y => x + y)),
  (72, s_pf 75 layD 4 7),
  (75, s_go 2),
  (78, s_al 79 0),
  (79, s_ic 80 2),
  (80, s_pf 83 layD 4 9),
  (83, s_al 84 0),
  (84, s_il 85 1),
  (85, s_pf 88 layD 4 10),
  (88, s_vr)]
def cs_X4_takeNumber : Cs := [(2, [0, 1])]
noncomputable def f_X4_takeNumber : List Vv → Mm → Option Ou := lock (sem t_X4_takeNumber cs_X4_takeNumber 2)
set_option maxRecDepth 20000 in
theorem ok_X4_takeNumber (l : Launch) : Ok l RX4 cX4_takeNumber 2 1 none layD t_X4_takeNumber :=
  Ok.cons (so_iconst dX4_takeNumber_0 (by decide) rfl) <|
  Ok.cons (so_istore_n dX4_takeNumber_1 rfl (by decide) rfl) <|
  Ok.cons (so_aload_n dX4_takeNumber_2 rfl rfl) <|
  Ok.cons (so_gf (C := RX4) (T := TX4) (N := 11) inGX4 rfl (by decide) wq_227 rfl dX4_takeNumber_3 rfl) <|
  Ok.cons (so_aload_n dX4_takeNumber_6 rfl rfl) <|
  Ok.cons (so_gf (C := RX4) (T := TX4) (N := 11) inGX4 rfl (by decide) wq_226 rfl dX4_takeNumber_7 rfl) <|
  Ok.cons (so_cge dX4_takeNumber_10 (by decide) rfl) <|
  Ok.cons (so_aload_n dX4_takeNumber_13 rfl rfl) <|
  Ok.cons (so_gf (C := RX4) (T := TX4) (N := 11) inGX4 rfl (by decide) wq_217 rfl dX4_takeNumber_14 rfl) <|
  Ok.cons (so_aload_n dX4_takeNumber_17 rfl rfl) <|
  Ok.cons (so_gf (C := RX4) (T := TX4) (N := 11) inGX4 rfl (by decide) wq_227 rfl dX4_takeNumber_18 rfl) <|
  Ok.cons (so_ia1 dX4_takeNumber_21 rfl) <|
  Ok.cons (so_bipush dX4_takeNumber_22 (by decide) rfl) <|
  Ok.cons (so_clt dX4_takeNumber_24 (by decide) rfl) <|
  Ok.cons (so_aload_n dX4_takeNumber_27 rfl rfl) <|
  Ok.cons (so_gf (C := RX4) (T := TX4) (N := 11) inGX4 rfl (by decide) wq_217 rfl dX4_takeNumber_28 rfl) <|
  Ok.cons (so_aload_n dX4_takeNumber_31 rfl rfl) <|
  Ok.cons (so_gf (C := RX4) (T := TX4) (N := 11) inGX4 rfl (by decide) wq_227 rfl dX4_takeNumber_32 rfl) <|
  Ok.cons (so_ia1 dX4_takeNumber_35 rfl) <|
  Ok.cons (so_bipush dX4_takeNumber_36 (by decide) rfl) <|
  Ok.cons (so_cgt dX4_takeNumber_38 (by decide) rfl) <|
  Ok.cons (so_iload_n dX4_takeNumber_41 rfl rfl) <|
  Ok.cons (so_ldc wq_427 dX4_takeNumber_42 rfl) <|
  Ok.cons (so_cge dX4_takeNumber_44 (by decide) rfl) <|
  Ok.cons (so_iload_n dX4_takeNumber_47 rfl rfl) <|
  Ok.cons (so_bipush dX4_takeNumber_48 (by decide) rfl) <|
  Ok.cons (so_imul dX4_takeNumber_50 rfl) <|
  Ok.cons (so_aload_n dX4_takeNumber_51 rfl rfl) <|
  Ok.cons (so_gf (C := RX4) (T := TX4) (N := 11) inGX4 rfl (by decide) wq_217 rfl dX4_takeNumber_52 rfl) <|
  Ok.cons (so_aload_n dX4_takeNumber_55 rfl rfl) <|
  Ok.cons (so_gf (C := RX4) (T := TX4) (N := 11) inGX4 rfl (by decide) wq_227 rfl dX4_takeNumber_56 rfl) <|
  Ok.cons (so_ia1 dX4_takeNumber_59 rfl) <|
  Ok.cons (so_bipush dX4_takeNumber_60 (by decide) rfl) <|
  Ok.cons (so_isub dX4_takeNumber_62 rfl) <|
  Ok.cons (so_iadd dX4_takeNumber_63 rfl) <|
  Ok.cons (so_istore_n dX4_takeNumber_64 rfl (by decide) rfl) <|
  Ok.cons (so_aload_n dX4_takeNumber_65 rfl rfl) <|
  Ok.cons (so_dup dX4_takeNumber_66 rfl) <|
  Ok.cons (so_gf (C := RX4) (T := TX4) (N := 11) inGX4 rfl (by decide) wq_227 rfl dX4_takeNumber_67 rfl) <|
  Ok.cons (so_iconst dX4_takeNumber_70 (by decide) rfl) <|
  Ok.cons (so_iadd dX4_takeNumber_71 rfl) <|
  Ok.cons (so_pf (C := RX4) (T := TX4) (N := 11) inGX4 tyX4_ok nmX4 rfl (by decide) wq_227 rfl rfl rfl dX4_takeNumber_72 rfl) <|
  Ok.cons (so_goto dX4_takeNumber_75 (by decide)) <|
  Ok.cons (so_aload_n dX4_takeNumber_78 rfl rfl) <|
  Ok.cons (so_iconst dX4_takeNumber_79 (by decide) rfl) <|
  Ok.cons (so_pf (C := RX4) (T := TX4) (N := 11) inGX4 tyX4_ok nmX4 rfl (by decide) wq_229 rfl rfl rfl dX4_takeNumber_80 rfl) <|
  Ok.cons (so_aload_n dX4_takeNumber_83 rfl rfl) <|
  Ok.cons (so_iload_n dX4_takeNumber_84 rfl rfl) <|
  Ok.cons (so_pf (C := RX4) (T := TX4) (N := 11) inGX4 tyX4_ok nmX4 rfl (by decide) wq_230 rfl rfl rfl dX4_takeNumber_85 rfl) <|
  Ok.cons (so_vr rfl dX4_takeNumber_88) <| Ok.nil
theorem ct_X4_takeNumber (l : Launch) : Ct l yX4_takeNumber cX4_takeNumber 2 none 1 layD f_X4_takeNumber := ofRunL (by decide) rfl (ok_X4_takeNumber l)
noncomputable def t_X4_nextToken : Tbl := [(0, s_al 1 0),
  (1, s_gf 4 layD 4 7),
  (4, s_al 5 0),
  (5, s_gf 8 layD 4 6),
  (8, s_cge 11 52),
  (11, s_al 12 0),
  (12, s_gf 15 layD 4 0),
  (15, s_al 16 0),
  (16, s_gf 19 layD 4 7),
  (19, s_ia 20 layD 1),
  (20, s_ic 22 32),
  (22, s_ceq 25 39),
  (25, s_al 26 0),
  (26, s_gf 29 layD 4 0),
  (29, s_al 30 0),
  (30, s_gf 33 layD 4 7),
  (33, s_ia 34 layD 1),
  (34, s_ic 36 10),
  (36, s_cne 39 52),
  (39, s_al 40 0),
  (40, s_dup 41),
  (41, s_gf 44 layD 4 7),
  (44, s_ic 45 1),
  (45, s_b 46 (fun x y => x + y)),
  (46, s_pf 49 layD 4 7),
  (49, s_go 0),
  (52, s_al 53 0),
  (53, s_al 54 0),
  (54, s_gf 57 layD 4 7),
  (57, s_pf 60 layD 4 8),
  (60, s_al 61 0),
  (61, s_gf 64 layD 4 7),
  (64, s_al 65 0),
  (65, s_gf 68 layD 4 6),
  (68, s_clt 71 79),
  (71, s_al 72 0),
  (72, s_ic 73 0),
  (73, s_pf 76 layD 4 9),
  (76, s_go 164),
  (79, s_al 80 0),
  (80, s_gf 83 layD 4 0),
  (83, s_al 84 0),
  (84, s_gf 87 layD 4 7),
  (87, s_ia 88 layD 1),
  (88, s_ic 90 97),
  (90, s_ic 92 122),
  (92, s_cin false 95 3 (sg0) f_X6_isWithin),
  (95, s_zeq 98 105),
  (98, s_al 99 0),
  (99, s_cv0 true 102 1 f_X4_takeWord),
  (102, s_go 164),
  (105, s_al 106 0),
  (106, s_gf 109 layD 4 0),
  (109, s_al 110 0),
  (110, s_gf 113 layD 4 7),
  (113, s_ia 114 layD 1),
  (114, s_ic 116 48),
  (116, s_ic 118 57),
  (118, s_cin false 121 3 (sg0) f_X6_isWithin),
  (121, s_zeq 124 131),
  (124, s_al 125 0),
  (125, s_cv0 true 128 1 f_X4_takeNumber),
  (128, s_go 164),
  (131, s_al 132 0),
  (132, s_al 133 0),
  (133, s_gf 136 layD 4 0),
  (136, s_al 137 0),
  (137, s_gf 140 layD 4 7),
  (140, s_ia 141 layD 1),
  (141, s_ic 143 59),
  (143, s_cne 146 150),
  (146, s_ic 147 3),
  (147, s_go 151),
  (150, s_ic 151 4),
  (151, s_pf 154 layD 4 9),
  (154, s_al 155 0),
  (155, s_dup 156),
  (156, s_gf 159 layD 4 7),
  (159, s_ic 160 1),
  (160, s_b 161 (fun x y => x + y)),
  (161, s_pf 164 layD 4 7),
  (164, s_vr)]
def cs_X4_nextToken : Cs := [(0, [0]), (52, [0])]
noncomputable def f_X4_nextToken : List Vv → Mm → Option Ou := lock (sem t_X4_nextToken cs_X4_nextToken 1)
set_option maxRecDepth 20000 in
theorem ok_X4_nextToken (l : Launch) : Ok l RX4 cX4_nextToken 1 2 none layD t_X4_nextToken :=
  Ok.cons (so_aload_n dX4_nextToken_0 rfl rfl) <|
  Ok.cons (so_gf (C := RX4) (T := TX4) (N := 11) inGX4 rfl (by decide) wq_227 rfl dX4_nextToken_1 rfl) <|
  Ok.cons (so_aload_n dX4_nextToken_4 rfl rfl) <|
  Ok.cons (so_gf (C := RX4) (T := TX4) (N := 11) inGX4 rfl (by decide) wq_226 rfl dX4_nextToken_5 rfl) <|
  Ok.cons (so_cge dX4_nextToken_8 (by decide) rfl) <|
  Ok.cons (so_aload_n dX4_nextToken_11 rfl rfl) <|
  Ok.cons (so_gf (C := RX4) (T := TX4) (N := 11) inGX4 rfl (by decide) wq_217 rfl dX4_nextToken_12 rfl) <|
  Ok.cons (so_aload_n dX4_nextToken_15 rfl rfl) <|
  Ok.cons (so_gf (C := RX4) (T := TX4) (N := 11) inGX4 rfl (by decide) wq_227 rfl dX4_nextToken_16 rfl) <|
  Ok.cons (so_ia1 dX4_nextToken_19 rfl) <|
  Ok.cons (so_bipush dX4_nextToken_20 (by decide) rfl) <|
  Ok.cons (so_ceq dX4_nextToken_22 (by decide) rfl) <|
  Ok.cons (so_aload_n dX4_nextToken_25 rfl rfl) <|
  Ok.cons (so_gf (C := RX4) (T := TX4) (N := 11) inGX4 rfl (by decide) wq_217 rfl dX4_nextToken_26 rfl) <|
  Ok.cons (so_aload_n dX4_nextToken_29 rfl rfl) <|
  Ok.cons (so_gf (C := RX4) (T := TX4) (N := 11) inGX4 rfl (by decide) wq_227 rfl dX4_nextToken_30 rfl) <|
  Ok.cons (so_ia1 dX4_nextToken_33 rfl) <|
  Ok.cons (so_bipush dX4_nextToken_34 (by decide) rfl) <|
  Ok.cons (so_cne dX4_nextToken_36 (by decide) rfl) <|
  Ok.cons (so_aload_n dX4_nextToken_39 rfl rfl) <|
  Ok.cons (so_dup dX4_nextToken_40 rfl) <|
  Ok.cons (so_gf (C := RX4) (T := TX4) (N := 11) inGX4 rfl (by decide) wq_227 rfl dX4_nextToken_41 rfl) <|
  Ok.cons (so_iconst dX4_nextToken_44 (by decide) rfl) <|
  Ok.cons (so_iadd dX4_nextToken_45 rfl) <|
  Ok.cons (so_pf (C := RX4) (T := TX4) (N := 11) inGX4 tyX4_ok nmX4 rfl (by decide) wq_227 rfl rfl rfl dX4_nextToken_46 rfl) <|
  Ok.cons (so_goto dX4_nextToken_49 (by decide)) <|
  Ok.cons (so_aload_n dX4_nextToken_52 rfl rfl) <|
  Ok.cons (so_aload_n dX4_nextToken_53 rfl rfl) <|
  Ok.cons (so_gf (C := RX4) (T := TX4) (N := 11) inGX4 rfl (by decide) wq_227 rfl dX4_nextToken_54 rfl) <|
  Ok.cons (so_pf (C := RX4) (T := TX4) (N := 11) inGX4 tyX4_ok nmX4 rfl (by decide) wq_228 rfl rfl rfl dX4_nextToken_57 rfl) <|
  Ok.cons (so_aload_n dX4_nextToken_60 rfl rfl) <|
  Ok.cons (so_gf (C := RX4) (T := TX4) (N := 11) inGX4 rfl (by decide) wq_227 rfl dX4_nextToken_61 rfl) <|
  Ok.cons (so_aload_n dX4_nextToken_64 rfl rfl) <|
  Ok.cons (so_gf (C := RX4) (T := TX4) (N := 11) inGX4 rfl (by decide) wq_226 rfl dX4_nextToken_65 rfl) <|
  Ok.cons (so_clt dX4_nextToken_68 (by decide) rfl) <|
  Ok.cons (so_aload_n dX4_nextToken_71 rfl rfl) <|
  Ok.cons (so_iconst dX4_nextToken_72 (by decide) rfl) <|
  Ok.cons (so_pf (C := RX4) (T := TX4) (N := 11) inGX4 tyX4_ok nmX4 rfl (by decide) wq_229 rfl rfl rfl dX4_nextToken_73 rfl) <|
  Ok.cons (so_goto dX4_nextToken_76 (by decide)) <|
  Ok.cons (so_aload_n dX4_nextToken_79 rfl rfl) <|
  Ok.cons (so_gf (C := RX4) (T := TX4) (N := 11) inGX4 rfl (by decide) wq_217 rfl dX4_nextToken_80 rfl) <|
  Ok.cons (so_aload_n dX4_nextToken_83 rfl rfl) <|
  Ok.cons (so_gf (C := RX4) (T := TX4) (N := 11) inGX4 rfl (by decide) wq_227 rfl dX4_nextToken_84 rfl) <|
  Ok.cons (so_ia1 dX4_nextToken_87 rfl) <|
  Ok.cons (so_bipush dX4_nextToken_88 (by decide) rfl) <|
  Ok.cons (so_bipush dX4_nextToken_90 (by decide) rfl) <|
  Ok.cons (so_sni (ct_X6_isWithin l) wq_398 (fun U h => h.2.2.2.1) wq_397 wq_87 (by decide +kernel) (by decide) cmp_layD_sg0 dX4_nextToken_92 rfl) <|
  Ok.cons (so_zeq dX4_nextToken_95 (by decide) rfl) <|
  Ok.cons (so_aload_n dX4_nextToken_98 rfl rfl) <|
  Ok.cons (so_vv0 (ct_X4_takeWord l) wq_422 wq_419 wq_421 wq_2 wq_91 (by decide +kernel) (by decide) rfl rfl dX4_nextToken_99 rfl) <|
  Ok.cons (so_goto dX4_nextToken_102 (by decide)) <|
  Ok.cons (so_aload_n dX4_nextToken_105 rfl rfl) <|
  Ok.cons (so_gf (C := RX4) (T := TX4) (N := 11) inGX4 rfl (by decide) wq_217 rfl dX4_nextToken_106 rfl) <|
  Ok.cons (so_aload_n dX4_nextToken_109 rfl rfl) <|
  Ok.cons (so_gf (C := RX4) (T := TX4) (N := 11) inGX4 rfl (by decide) wq_227 rfl dX4_nextToken_110 rfl) <|
  Ok.cons (so_ia1 dX4_nextToken_113 rfl) <|
  Ok.cons (so_bipush dX4_nextToken_114 (by decide) rfl) <|
  Ok.cons (so_bipush dX4_nextToken_116 (by decide) rfl) <|
  Ok.cons (so_sni (ct_X6_isWithin l) wq_398 (fun U h => h.2.2.2.1) wq_397 wq_87 (by decide +kernel) (by decide) cmp_layD_sg0 dX4_nextToken_118 rfl) <|
  Ok.cons (so_zeq dX4_nextToken_121 (by decide) rfl) <|
  Ok.cons (so_aload_n dX4_nextToken_124 rfl rfl) <|
  Ok.cons (so_vv0 (ct_X4_takeNumber l) wq_426 wq_423 wq_425 wq_3 wq_91 (by decide +kernel) (by decide) rfl rfl dX4_nextToken_125 rfl) <|
  Ok.cons (so_goto dX4_nextToken_128 (by decide)) <|
  Ok.cons (so_aload_n dX4_nextToken_131 rfl rfl) <|
  Ok.cons (so_aload_n dX4_nextToken_132 rfl rfl) <|
  Ok.cons (so_gf (C := RX4) (T := TX4) (N := 11) inGX4 rfl (by decide) wq_217 rfl dX4_nextToken_133 rfl) <|
  Ok.cons (so_aload_n dX4_nextToken_136 rfl rfl) <|
  Ok.cons (so_gf (C := RX4) (T := TX4) (N := 11) inGX4 rfl (by decide) wq_227 rfl dX4_nextToken_137 rfl) <|
  Ok.cons (so_ia1 dX4_nextToken_140 rfl) <|
  Ok.cons (so_bipush dX4_nextToken_141 (by decide) rfl) <|
  Ok.cons (so_cne dX4_nextToken_143 (by decide) rfl) <|
  Ok.cons (so_iconst dX4_nextToken_146 (by decide) rfl) <|
  Ok.cons (so_goto dX4_nextToken_147 (by decide)) <|
  Ok.cons (so_iconst dX4_nextToken_150 (by decide) rfl) <|
  Ok.cons (so_pf (C := RX4) (T := TX4) (N := 11) inGX4 tyX4_ok nmX4 rfl (by decide) wq_229 rfl rfl rfl dX4_nextToken_151 rfl) <|
  Ok.cons (so_aload_n dX4_nextToken_154 rfl rfl) <|
  Ok.cons (so_dup dX4_nextToken_155 rfl) <|
  Ok.cons (so_gf (C := RX4) (T := TX4) (N := 11) inGX4 rfl (by decide) wq_227 rfl dX4_nextToken_156 rfl) <|
  Ok.cons (so_iconst dX4_nextToken_159 (by decide) rfl) <|
  Ok.cons (so_iadd dX4_nextToken_160 rfl) <|
  Ok.cons (so_pf (C := RX4) (T := TX4) (N := 11) inGX4 tyX4_ok nmX4 rfl (by decide) wq_227 rfl rfl rfl dX4_nextToken_161 rfl) <|
  Ok.cons (so_vr rfl dX4_nextToken_164) <| Ok.nil
theorem ct_X4_nextToken (l : Launch) : Ct l yX4_nextToken cX4_nextToken 1 none 2 layD f_X4_nextToken := ofRunL (by decide) rfl (ok_X4_nextToken l)
noncomputable def t_X4_fail : Tbl := [(0, s_al 1 0),
  (1, s_il 2 1),
  (2, s_pf 5 layD 4 5),
  (5, s_al 6 0),
  (6, s_al 7 0),
  (7, s_gf 10 layD 4 8),
  (10, s_pf 13 layD 4 4),
  (13, s_ic 14 0),
  (14, s_zr)]
def cs_X4_fail : Cs := []
noncomputable def f_X4_fail : List Vv → Mm → Option Ou := lock (sem t_X4_fail cs_X4_fail 2)
set_option maxRecDepth 20000 in
theorem ok_X4_fail (l : Launch) : Ok l RX4 cX4_fail 2 1 (some .boolean) layD t_X4_fail :=
  Ok.cons (so_aload_n dX4_fail_0 rfl rfl) <|
  Ok.cons (so_iload_n dX4_fail_1 rfl rfl) <|
  Ok.cons (so_pf (C := RX4) (T := TX4) (N := 11) inGX4 tyX4_ok nmX4 rfl (by decide) wq_225 rfl rfl rfl dX4_fail_2 rfl) <|
  Ok.cons (so_aload_n dX4_fail_5 rfl rfl) <|
  Ok.cons (so_aload_n dX4_fail_6 rfl rfl) <|
  Ok.cons (so_gf (C := RX4) (T := TX4) (N := 11) inGX4 rfl (by decide) wq_228 rfl dX4_fail_7 rfl) <|
  Ok.cons (so_pf (C := RX4) (T := TX4) (N := 11) inGX4 tyX4_ok nmX4 rfl (by decide) wq_223 rfl rfl rfl dX4_fail_10 rfl) <|
  Ok.cons (so_iconst dX4_fail_13 (by decide) rfl) <|
  Ok.cons (so_zr rfl dX4_fail_14) <| Ok.nil
theorem ct_X4_fail (l : Launch) : Ct l yX4_fail cX4_fail 2 (some .boolean) 1 layD f_X4_fail := ofRunL (by decide) rfl (ok_X4_fail l)
noncomputable def t_X4_settingOfWord : Tbl := [(0, s_il 1 0),
  (1, s_sw [(48965011, 36), (437853486, 38), (626398208, 40)] 42),
  (36, s_ic 37 0),
  (37, s_ir),
  (38, s_ic 39 1),
  (39, s_ir),
  (40, s_ic 41 2),
  (41, s_ir),
  (42, s_ic 43 (-1)),
  (43, s_ir)]
def cs_X4_settingOfWord : Cs := []
noncomputable def f_X4_settingOfWord : List Vv → Mm → Option Ou := lock (sem t_X4_settingOfWord cs_X4_settingOfWord 1)
set_option maxRecDepth 20000 in
theorem ok_X4_settingOfWord (l : Launch) : Ok l RX4 cX4_settingOfWord 1 1 (some .int) lay0 t_X4_settingOfWord :=
  Ok.cons (so_iload_n dX4_settingOfWord_0 rfl rfl) <|
  Ok.cons (so_sw dX4_settingOfWord_1 (by decide +kernel) (by decide +kernel) (by decide)) <|
  Ok.cons (so_iconst dX4_settingOfWord_36 (by decide) rfl) <|
  Ok.cons (so_ir rfl dX4_settingOfWord_37) <|
  Ok.cons (so_iconst dX4_settingOfWord_38 (by decide) rfl) <|
  Ok.cons (so_ir rfl dX4_settingOfWord_39) <|
  Ok.cons (so_iconst dX4_settingOfWord_40 (by decide) rfl) <|
  Ok.cons (so_ir rfl dX4_settingOfWord_41) <|
  Ok.cons (so_iconst dX4_settingOfWord_42 (by decide) rfl) <|
  Ok.cons (so_ir rfl dX4_settingOfWord_43) <| Ok.nil
theorem ct_X4_settingOfWord (l : Launch) : Ct l yX4_settingOfWord cX4_settingOfWord 1 (some .int) 1 lay0 f_X4_settingOfWord := ofRunL (by decide) rfl (ok_X4_settingOfWord l)
noncomputable def t_X4_isReserved : Tbl := [(0, s_il 1 0),
  (1, s_ic 3 321370112),
  (3, s_ceq 6 32),
  (6, s_il 7 0),
  (7, s_ic 9 658685952),
  (9, s_ceq 12 32),
  (12, s_il 13 0),
  (13, s_ic 15 549489824),
  (15, s_ceq 18 32),
  (18, s_il 19 0),
  (19, s_ic 21 643432448),
  (21, s_ceq 24 32),
  (24, s_il 25 0),
  (25, s_ci0 false 28 1 f_X4_settingOfWord),
  (28, s_ic 29 (-1)),
  (29, s_ceq 32 36),
  (32, s_ic 33 1),
  (33, s_go 37),
  (36, s_ic 37 0),
  (37, s_zr)]
def cs_X4_isReserved : Cs := []
noncomputable def f_X4_isReserved : List Vv → Mm → Option Ou := lock (sem t_X4_isReserved cs_X4_isReserved 1)
set_option maxRecDepth 20000 in
theorem ok_X4_isReserved (l : Launch) : Ok l RX4 cX4_isReserved 1 2 (some .boolean) lay0 t_X4_isReserved :=
  Ok.cons (so_iload_n dX4_isReserved_0 rfl rfl) <|
  Ok.cons (so_ldc wq_447 dX4_isReserved_1 rfl) <|
  Ok.cons (so_ceq dX4_isReserved_3 (by decide) rfl) <|
  Ok.cons (so_iload_n dX4_isReserved_6 rfl rfl) <|
  Ok.cons (so_ldc wq_448 dX4_isReserved_7 rfl) <|
  Ok.cons (so_ceq dX4_isReserved_9 (by decide) rfl) <|
  Ok.cons (so_iload_n dX4_isReserved_12 rfl rfl) <|
  Ok.cons (so_ldc wq_449 dX4_isReserved_13 rfl) <|
  Ok.cons (so_ceq dX4_isReserved_15 (by decide) rfl) <|
  Ok.cons (so_iload_n dX4_isReserved_18 rfl rfl) <|
  Ok.cons (so_ldc wq_450 dX4_isReserved_19 rfl) <|
  Ok.cons (so_ceq dX4_isReserved_21 (by decide) rfl) <|
  Ok.cons (so_iload_n dX4_isReserved_24 rfl rfl) <|
  Ok.cons (so_si0 (ct_X4_settingOfWord l) wq_453 wq_451 wq_452 wq_91 (by decide +kernel) (by decide) dX4_isReserved_25 rfl) <|
  Ok.cons (so_iconst dX4_isReserved_28 (by decide) rfl) <|
  Ok.cons (so_ceq dX4_isReserved_29 (by decide) rfl) <|
  Ok.cons (so_iconst dX4_isReserved_32 (by decide) rfl) <|
  Ok.cons (so_goto dX4_isReserved_33 (by decide)) <|
  Ok.cons (so_iconst dX4_isReserved_36 (by decide) rfl) <|
  Ok.cons (so_zr rfl dX4_isReserved_37) <| Ok.nil
theorem ct_X4_isReserved (l : Launch) : Ct l yX4_isReserved cX4_isReserved 1 (some .boolean) 2 lay0 f_X4_isReserved := ofRunL (by decide) rfl (ok_X4_isReserved l)
noncomputable def t_X4_readName : Tbl := [(0, s_al 1 0),
  (1, s_cv0 true 4 1 f_X4_nextToken),
  (4, s_al 5 0),
  (5, s_gf 8 layD 4 9),
  (8, s_ic 9 1),
  (9, s_cne 12 33),
  (12, s_al 13 0),
  (13, s_gf 16 layD 4 10),
  (16, s_zeq 19 33),
  (19, s_al 20 0),
  (20, s_gf 23 layD 4 10),
  (23, s_ci false 26 1 (sg0) f_X4_isReserved),
  (26, s_zne 29 33),
  (29, s_ic 30 1),
  (30, s_go 34),
  (33, s_ic 34 0),
  (34, s_is 35 1),
  (35, s_il 36 1),
  (36, s_zne 39 48),
  (39, s_al 40 0),
  (40, s_ic 42 (-11)),
  (42, s_ci0 true 45 2 f_X4_fail),
  (45, s_zeq 48 52),
  (48, s_ic 49 1),
  (49, s_go 53),
  (52, s_ic 53 0),
  (53, s_zr)]
def cs_X4_readName : Cs := [(34, [0])]
noncomputable def f_X4_readName : List Vv → Mm → Option Ou := lock (sem t_X4_readName cs_X4_readName 2)
set_option maxRecDepth 20000 in
theorem ok_X4_readName (l : Launch) : Ok l RX4 cX4_readName 2 3 (some .boolean) layD t_X4_readName :=
  Ok.cons (so_aload_n dX4_readName_0 rfl rfl) <|
  Ok.cons (so_vv0 (ct_X4_nextToken l) wq_417 wq_414 wq_416 wq_1 wq_91 (by decide +kernel) (by decide) rfl rfl dX4_readName_1 rfl) <|
  Ok.cons (so_aload_n dX4_readName_4 rfl rfl) <|
  Ok.cons (so_gf (C := RX4) (T := TX4) (N := 11) inGX4 rfl (by decide) wq_229 rfl dX4_readName_5 rfl) <|
  Ok.cons (so_iconst dX4_readName_8 (by decide) rfl) <|
  Ok.cons (so_cne dX4_readName_9 (by decide) rfl) <|
  Ok.cons (so_aload_n dX4_readName_12 rfl rfl) <|
  Ok.cons (so_gf (C := RX4) (T := TX4) (N := 11) inGX4 rfl (by decide) wq_230 rfl dX4_readName_13 rfl) <|
  Ok.cons (so_zeq dX4_readName_16 (by decide) rfl) <|
  Ok.cons (so_aload_n dX4_readName_19 rfl rfl) <|
  Ok.cons (so_gf (C := RX4) (T := TX4) (N := 11) inGX4 rfl (by decide) wq_230 rfl dX4_readName_20 rfl) <|
  Ok.cons (so_si (ct_X4_isReserved l) wq_446 wq_444 wq_445 wq_91 (by decide +kernel) (by decide) cmp_layD_sg0 dX4_readName_23 rfl) <|
  Ok.cons (so_zne dX4_readName_26 (by decide) rfl) <|
  Ok.cons (so_iconst dX4_readName_29 (by decide) rfl) <|
  Ok.cons (so_goto dX4_readName_30 (by decide)) <|
  Ok.cons (so_iconst dX4_readName_33 (by decide) rfl) <|
  Ok.cons (so_istore_n dX4_readName_34 rfl (by decide) rfl) <|
  Ok.cons (so_iload_n dX4_readName_35 rfl rfl) <|
  Ok.cons (so_zne dX4_readName_36 (by decide) rfl) <|
  Ok.cons (so_aload_n dX4_readName_39 rfl rfl) <|
  Ok.cons (so_bipush dX4_readName_40 (by decide) rfl) <|
  Ok.cons (so_vi0 (ct_X4_fail l) wq_435 wq_432 wq_434 wq_5 wq_91 (by decide +kernel) (by decide) rfl rfl dX4_readName_42 rfl) <|
  Ok.cons (so_zeq dX4_readName_45 (by decide) rfl) <|
  Ok.cons (so_iconst dX4_readName_48 (by decide) rfl) <|
  Ok.cons (so_goto dX4_readName_49 (by decide)) <|
  Ok.cons (so_iconst dX4_readName_52 (by decide) rfl) <|
  Ok.cons (so_zr rfl dX4_readName_53) <| Ok.nil
theorem ct_X4_readName (l : Launch) : Ct l yX4_readName cX4_readName 2 (some .boolean) 3 layD f_X4_readName := ofRunL (by decide) rfl (ok_X4_readName l)
noncomputable def t_X4_readNumber : Tbl := [(0, s_al 1 0),
  (1, s_cv0 true 4 1 f_X4_nextToken),
  (4, s_al 5 0),
  (5, s_gf 8 layD 4 9),
  (8, s_ic 9 2),
  (9, s_ceq 12 19),
  (12, s_al 13 0),
  (13, s_ic 15 (-11)),
  (15, s_ci0 true 18 2 f_X4_fail),
  (18, s_zr),
  (19, s_al 20 0),
  (20, s_gf 23 layD 4 10),
  (23, s_il 24 1),
  (24, s_il 25 2),
  (25, s_cin false 28 3 (sg0) f_X6_isWithin),
  (28, s_zne 31 40),
  (31, s_al 32 0),
  (32, s_ic 34 (-12)),
  (34, s_ci0 true 37 2 f_X4_fail),
  (37, s_zeq 40 44),
  (40, s_ic 41 1),
  (41, s_go 45),
  (44, s_ic 45 0),
  (45, s_zr)]
def cs_X4_readNumber : Cs := []
noncomputable def f_X4_readNumber : List Vv → Mm → Option Ou := lock (sem t_X4_readNumber cs_X4_readNumber 3)
set_option maxRecDepth 20000 in
theorem ok_X4_readNumber (l : Launch) : Ok l RX4 cX4_readNumber 3 3 (some .boolean) layD t_X4_readNumber :=
  Ok.cons (so_aload_n dX4_readNumber_0 rfl rfl) <|
  Ok.cons (so_vv0 (ct_X4_nextToken l) wq_417 wq_414 wq_416 wq_1 wq_91 (by decide +kernel) (by decide) rfl rfl dX4_readNumber_1 rfl) <|
  Ok.cons (so_aload_n dX4_readNumber_4 rfl rfl) <|
  Ok.cons (so_gf (C := RX4) (T := TX4) (N := 11) inGX4 rfl (by decide) wq_229 rfl dX4_readNumber_5 rfl) <|
  Ok.cons (so_iconst dX4_readNumber_8 (by decide) rfl) <|
  Ok.cons (so_ceq dX4_readNumber_9 (by decide) rfl) <|
  Ok.cons (so_aload_n dX4_readNumber_12 rfl rfl) <|
  Ok.cons (so_bipush dX4_readNumber_13 (by decide) rfl) <|
  Ok.cons (so_vi0 (ct_X4_fail l) wq_435 wq_432 wq_434 wq_5 wq_91 (by decide +kernel) (by decide) rfl rfl dX4_readNumber_15 rfl) <|
  Ok.cons (so_zr rfl dX4_readNumber_18) <|
  Ok.cons (so_aload_n dX4_readNumber_19 rfl rfl) <|
  Ok.cons (so_gf (C := RX4) (T := TX4) (N := 11) inGX4 rfl (by decide) wq_230 rfl dX4_readNumber_20 rfl) <|
  Ok.cons (so_iload_n dX4_readNumber_23 rfl rfl) <|
  Ok.cons (so_iload_n dX4_readNumber_24 rfl rfl) <|
  Ok.cons (so_sni (ct_X6_isWithin l) wq_398 (fun U h => h.2.2.2.1) wq_397 wq_87 (by decide +kernel) (by decide) cmp_layD_sg0 dX4_readNumber_25 rfl) <|
  Ok.cons (so_zne dX4_readNumber_28 (by decide) rfl) <|
  Ok.cons (so_aload_n dX4_readNumber_31 rfl rfl) <|
  Ok.cons (so_bipush dX4_readNumber_32 (by decide) rfl) <|
  Ok.cons (so_vi0 (ct_X4_fail l) wq_435 wq_432 wq_434 wq_5 wq_91 (by decide +kernel) (by decide) rfl rfl dX4_readNumber_34 rfl) <|
  Ok.cons (so_zeq dX4_readNumber_37 (by decide) rfl) <|
  Ok.cons (so_iconst dX4_readNumber_40 (by decide) rfl) <|
  Ok.cons (so_goto dX4_readNumber_41 (by decide)) <|
  Ok.cons (so_iconst dX4_readNumber_44 (by decide) rfl) <|
  Ok.cons (so_zr rfl dX4_readNumber_45) <| Ok.nil
theorem ct_X4_readNumber (l : Launch) : Ct l yX4_readNumber cX4_readNumber 3 (some .boolean) 3 layD f_X4_readNumber := ofRunL (by decide) rfl (ok_X4_readNumber l)
noncomputable def t_X4_readIron : Tbl := [(0, s_al 1 0),
  (1, s_gf 4 layD 4 1),
  (4, s_gf 7 layD 2 0),
  (7, s_ic 9 6),
  (9, s_clt 12 19),
  (12, s_al 13 0),
  (13, s_ic 15 (-15)),
  (15, s_ci0 true 18 2 f_X4_fail),
  (18, s_zr),
  (19, s_al 20 0),
  (20, s_ci0 true 23 1 f_X4_readName),
  (23, s_zne 26 28),
  (26, s_ic 27 0),
  (27, s_zr),
  (28, s_al 29 0),
  (29, s_gf 32 layD 4 10),
  (32, s_is 33 1),
  (33, s_al 34 0),
  (34, s_gf 37 layD 4 1),
  (37, s_il 38 1),
  (38, s_ci true 41 2 (sgC 3 11) f_X2_findName),
  (41, s_ic 42 (-1)),
  (42, s_ceq 45 52),
  (45, s_al 46 0),
  (46, s_ic 48 (-14)),
  (48, s_ci0 true 51 2 f_X4_fail),
  (51, s_zr),
  (52, s_al 53 0),
  (53, s_ic 54 1),
  (54, s_ic 56 9),
  (56, s_ci0 true 59 3 f_X4_readNumber),
  (59, s_zne 62 64),
  (62, s_ic 63 0),
  (63, s_zr),
  (64, s_al 65 0),
  (65, s_gf 68 layD 4 10),
  (68, s_is 69 2),
  (69, s_al 70 0),
  (70, s_ic 71 1),
  (71, s_ic 73 99),
  (73, s_ci0 true 76 3 f_X4_readNumber),
  (76, s_zne 79 81),
  (79, s_ic 80 0),
  (80, s_zr),
  (81, s_al 82 0),
  (82, s_gf 85 layD 4 1),
  (85, s_il 86 1),
  (86, s_il 87 2),
  (87, s_al 88 0),
  (88, s_gf 91 layD 4 10),
  (91, s_cv true 94 4 (sgC 3 11) f_X2_appendIron),
  (94, s_ic 95 1),
  (95, s_zr)]
def cs_X4_readIron : Cs := []
noncomputable def f_X4_readIron : List Vv → Mm → Option Ou := lock (sem t_X4_readIron cs_X4_readIron 3)
set_option maxRecDepth 20000 in
theorem ok_X4_readIron (l : Launch) : Ok l RX4 cX4_readIron 3 4 (some .boolean) layD t_X4_readIron :=
  Ok.cons (so_aload_n dX4_readIron_0 rfl rfl) <|
  Ok.cons (so_gf (C := RX4) (T := TX4) (N := 11) inGX4 rfl (by decide) wq_218 rfl dX4_readIron_1 rfl) <|
  Ok.cons (so_gf (C := RX2) (T := TX2) (N := 12) inGX2 rfl (by decide) wq_129 rfl dX4_readIron_4 rfl) <|
  Ok.cons (so_bipush dX4_readIron_7 (by decide) rfl) <|
  Ok.cons (so_clt dX4_readIron_9 (by decide) rfl) <|
  Ok.cons (so_aload_n dX4_readIron_12 rfl rfl) <|
  Ok.cons (so_bipush dX4_readIron_13 (by decide) rfl) <|
  Ok.cons (so_vi0 (ct_X4_fail l) wq_435 wq_432 wq_434 wq_5 wq_91 (by decide +kernel) (by decide) rfl rfl dX4_readIron_15 rfl) <|
  Ok.cons (so_zr rfl dX4_readIron_18) <|
  Ok.cons (so_aload_n dX4_readIron_19 rfl rfl) <|
  Ok.cons (so_vi0 (ct_X4_readName l) wq_443 wq_440 wq_442 wq_7 wq_91 (by decide +kernel) (by decide) rfl rfl dX4_readIron_20 rfl) <|
  Ok.cons (so_zne dX4_readIron_23 (by decide) rfl) <|
  Ok.cons (so_iconst dX4_readIron_26 (by decide) rfl) <|
  Ok.cons (so_zr rfl dX4_readIron_27) <|
  Ok.cons (so_aload_n dX4_readIron_28 rfl rfl) <|
  Ok.cons (so_gf (C := RX4) (T := TX4) (N := 11) inGX4 rfl (by decide) wq_230 rfl dX4_readIron_29 rfl) <|
  Ok.cons (so_istore_n dX4_readIron_32 rfl (by decide) rfl) <|
  Ok.cons (so_aload_n dX4_readIron_33 rfl rfl) <|
  Ok.cons (so_gf (C := RX4) (T := TX4) (N := 11) inGX4 rfl (by decide) wq_218 rfl dX4_readIron_34 rfl) <|
  Ok.cons (so_iload_n dX4_readIron_37 rfl rfl) <|
  Ok.cons (so_vi (ct_X2_findName l) wq_457 wq_454 wq_455 wq_456 wq_88 (by decide +kernel) (by decide) rfl rfl cmp_layD_sgC_3_11 dX4_readIron_38 rfl) <|
  Ok.cons (so_iconst dX4_readIron_41 (by decide) rfl) <|
  Ok.cons (so_ceq dX4_readIron_42 (by decide) rfl) <|
  Ok.cons (so_aload_n dX4_readIron_45 rfl rfl) <|
  Ok.cons (so_bipush dX4_readIron_46 (by decide) rfl) <|
  Ok.cons (so_vi0 (ct_X4_fail l) wq_435 wq_432 wq_434 wq_5 wq_91 (by decide +kernel) (by decide) rfl rfl dX4_readIron_48 rfl) <|
  Ok.cons (so_zr rfl dX4_readIron_51) <|
  Ok.cons (so_aload_n dX4_readIron_52 rfl rfl) <|
  Ok.cons (so_iconst dX4_readIron_53 (by decide) rfl) <|
  Ok.cons (so_bipush dX4_readIron_54 (by decide) rfl) <|
  Ok.cons (so_vi0 (ct_X4_readNumber l) wq_461 wq_458 wq_460 wq_8 wq_91 (by decide +kernel) (by decide) rfl rfl dX4_readIron_56 rfl) <|
  Ok.cons (so_zne dX4_readIron_59 (by decide) rfl) <|
  Ok.cons (so_iconst dX4_readIron_62 (by decide) rfl) <|
  Ok.cons (so_zr rfl dX4_readIron_63) <|
  Ok.cons (so_aload_n dX4_readIron_64 rfl rfl) <|
  Ok.cons (so_gf (C := RX4) (T := TX4) (N := 11) inGX4 rfl (by decide) wq_230 rfl dX4_readIron_65 rfl) <|
  Ok.cons (so_istore_n dX4_readIron_68 rfl (by decide) rfl) <|
  Ok.cons (so_aload_n dX4_readIron_69 rfl rfl) <|
  Ok.cons (so_iconst dX4_readIron_70 (by decide) rfl) <|
  Ok.cons (so_bipush dX4_readIron_71 (by decide) rfl) <|
  Ok.cons (so_vi0 (ct_X4_readNumber l) wq_461 wq_458 wq_460 wq_8 wq_91 (by decide +kernel) (by decide) rfl rfl dX4_readIron_73 rfl) <|
  Ok.cons (so_zne dX4_readIron_76 (by decide) rfl) <|
  Ok.cons (so_iconst dX4_readIron_79 (by decide) rfl) <|
  Ok.cons (so_zr rfl dX4_readIron_80) <|
  Ok.cons (so_aload_n dX4_readIron_81 rfl rfl) <|
  Ok.cons (so_gf (C := RX4) (T := TX4) (N := 11) inGX4 rfl (by decide) wq_218 rfl dX4_readIron_82 rfl) <|
  Ok.cons (so_iload_n dX4_readIron_85 rfl rfl) <|
  Ok.cons (so_iload_n dX4_readIron_86 rfl rfl) <|
  Ok.cons (so_aload_n dX4_readIron_87 rfl rfl) <|
  Ok.cons (so_gf (C := RX4) (T := TX4) (N := 11) inGX4 rfl (by decide) wq_230 rfl dX4_readIron_88 rfl) <|
  Ok.cons (so_vv (ct_X2_appendIron l) wq_465 wq_462 wq_463 wq_464 wq_88 (by decide +kernel) (by decide) rfl rfl cmp_layD_sgC_3_11 dX4_readIron_91 rfl) <|
  Ok.cons (so_iconst dX4_readIron_94 (by decide) rfl) <|
  Ok.cons (so_zr rfl dX4_readIron_95) <| Ok.nil
theorem ct_X4_readIron (l : Launch) : Ct l yX4_readIron cX4_readIron 3 (some .boolean) 4 layD f_X4_readIron := ofRunL (by decide) rfl (ok_X4_readIron l)
noncomputable def t_X4_readStep : Tbl := [(0, s_al 1 0),
  (1, s_ci0 true 4 1 f_X4_readName),
  (4, s_zne 7 9),
  (7, s_ic 8 0),
  (8, s_zr),
  (9, s_al 10 0),
  (10, s_gf 13 layD 4 1),
  (13, s_al 14 0),
  (14, s_gf 17 layD 4 10),
  (17, s_ci true 20 2 (sgC 3 11) f_X2_findName),
  (20, s_is 21 1),
  (21, s_il 22 1),
  (22, s_ic 23 (-1)),
  (23, s_cne 26 33),
  (26, s_al 27 0),
  (27, s_ic 29 (-13)),
  (29, s_ci0 true 32 2 f_X4_fail),
  (32, s_zr),
  (33, s_al 34 0),
  (34, s_gf 37 layD 4 1),
  (37, s_gf 40 layD 2 5),
  (40, s_il 41 1),
  (41, s_ia 42 layD 0),
  (42, s_ic 43 5),
  (43, s_clt 46 53),
  (46, s_al 47 0),
  (47, s_ic 49 (-15)),
  (49, s_ci0 true 52 2 f_X4_fail),
  (52, s_zr),
  (53, s_al 54 0),
  (54, s_ic 56 100),
  (56, s_ic 59 1400),
  (59, s_ci0 true 62 3 f_X4_readNumber),
  (62, s_zne 65 67),
  (65, s_ic 66 0),
  (66, s_zr),
  (67, s_al 68 0),
  (68, s_gf 71 layD 4 10),
  (71, s_is 72 2),
  (72, s_al 73 0),
  (73, s_ic 74 1),
  (74, s_ic 76 30),
  (76, s_ci0 true 79 3 f_X4_readNumber),
  (79, s_zne 82 84),
  (82, s_ic 83 0),
  (83, s_zr),
  (84, s_al 85 0),
  (85, s_gf 88 layD 4 1),
  (88, s_il 89 1),
  (89, s_il 90 2),
  (90, s_al 91 0),
  (91, s_gf 94 layD 4 10),
  (94, s_cv true 97 4 (sgC 3 11) f_X2_appendStep),
  (97, s_ic 98 1),
  (98, s_zr)]
def cs_X4_readStep : Cs := []
noncomputable def f_X4_readStep : List Vv → Mm → Option Ou := lock (sem t_X4_readStep cs_X4_readStep 3)
set_option maxRecDepth 20000 in
theorem ok_X4_readStep (l : Launch) : Ok l RX4 cX4_readStep 3 4 (some .boolean) layD t_X4_readStep :=
  Ok.cons (so_aload_n dX4_readStep_0 rfl rfl) <|
  Ok.cons (so_vi0 (ct_X4_readName l) wq_443 wq_440 wq_442 wq_7 wq_91 (by decide +kernel) (by decide) rfl rfl dX4_readStep_1 rfl) <|
  Ok.cons (so_zne dX4_readStep_4 (by decide) rfl) <|
  Ok.cons (so_iconst dX4_readStep_7 (by decide) rfl) <|
  Ok.cons (so_zr rfl dX4_readStep_8) <|
  Ok.cons (so_aload_n dX4_readStep_9 rfl rfl) <|
  Ok.cons (so_gf (C := RX4) (T := TX4) (N := 11) inGX4 rfl (by decide) wq_218 rfl dX4_readStep_10 rfl) <|
  Ok.cons (so_aload_n dX4_readStep_13 rfl rfl) <|
  Ok.cons (so_gf (C := RX4) (T := TX4) (N := 11) inGX4 rfl (by decide) wq_230 rfl dX4_readStep_14 rfl) <|
  Ok.cons (so_vi (ct_X2_findName l) wq_457 wq_454 wq_455 wq_456 wq_88 (by decide +kernel) (by decide) rfl rfl cmp_layD_sgC_3_11 dX4_readStep_17 rfl) <|
  Ok.cons (so_istore_n dX4_readStep_20 rfl (by decide) rfl) <|
  Ok.cons (so_iload_n dX4_readStep_21 rfl rfl) <|
  Ok.cons (so_iconst dX4_readStep_22 (by decide) rfl) <|
  Ok.cons (so_cne dX4_readStep_23 (by decide) rfl) <|
  Ok.cons (so_aload_n dX4_readStep_26 rfl rfl) <|
  Ok.cons (so_bipush dX4_readStep_27 (by decide) rfl) <|
  Ok.cons (so_vi0 (ct_X4_fail l) wq_435 wq_432 wq_434 wq_5 wq_91 (by decide +kernel) (by decide) rfl rfl dX4_readStep_29 rfl) <|
  Ok.cons (so_zr rfl dX4_readStep_32) <|
  Ok.cons (so_aload_n dX4_readStep_33 rfl rfl) <|
  Ok.cons (so_gf (C := RX4) (T := TX4) (N := 11) inGX4 rfl (by decide) wq_218 rfl dX4_readStep_34 rfl) <|
  Ok.cons (so_gf (C := RX2) (T := TX2) (N := 12) inGX2 rfl (by decide) wq_142 rfl dX4_readStep_37 rfl) <|
  Ok.cons (so_iload_n dX4_readStep_40 rfl rfl) <|
  Ok.cons (so_ia0 dX4_readStep_41 rfl) <|
  Ok.cons (so_iconst dX4_readStep_42 (by decide) rfl) <|
  Ok.cons (so_clt dX4_readStep_43 (by decide) rfl) <|
  Ok.cons (so_aload_n dX4_readStep_46 rfl rfl) <|
  Ok.cons (so_bipush dX4_readStep_47 (by decide) rfl) <|
  Ok.cons (so_vi0 (ct_X4_fail l) wq_435 wq_432 wq_434 wq_5 wq_91 (by decide +kernel) (by decide) rfl rfl dX4_readStep_49 rfl) <|
  Ok.cons (so_zr rfl dX4_readStep_52) <|
  Ok.cons (so_aload_n dX4_readStep_53 rfl rfl) <|
  Ok.cons (so_bipush dX4_readStep_54 (by decide) rfl) <|
  Ok.cons (so_sipush dX4_readStep_56 (by decide) rfl) <|
  Ok.cons (so_vi0 (ct_X4_readNumber l) wq_461 wq_458 wq_460 wq_8 wq_91 (by decide +kernel) (by decide) rfl rfl dX4_readStep_59 rfl) <|
  Ok.cons (so_zne dX4_readStep_62 (by decide) rfl) <|
  Ok.cons (so_iconst dX4_readStep_65 (by decide) rfl) <|
  Ok.cons (so_zr rfl dX4_readStep_66) <|
  Ok.cons (so_aload_n dX4_readStep_67 rfl rfl) <|
  Ok.cons (so_gf (C := RX4) (T := TX4) (N := 11) inGX4 rfl (by decide) wq_230 rfl dX4_readStep_68 rfl) <|
  Ok.cons (so_istore_n dX4_readStep_71 rfl (by decide) rfl) <|
  Ok.cons (so_aload_n dX4_readStep_72 rfl rfl) <|
  Ok.cons (so_iconst dX4_readStep_73 (by decide) rfl) <|
  Ok.cons (so_bipush dX4_readStep_74 (by decide) rfl) <|
  Ok.cons (so_vi0 (ct_X4_readNumber l) wq_461 wq_458 wq_460 wq_8 wq_91 (by decide +kernel) (by decide) rfl rfl dX4_readStep_76 rfl) <|
  Ok.cons (so_zne dX4_readStep_79 (by decide) rfl) <|
  Ok.cons (so_iconst dX4_readStep_82 (by decide) rfl) <|
  Ok.cons (so_zr rfl dX4_readStep_83) <|
  Ok.cons (so_aload_n dX4_readStep_84 rfl rfl) <|
  Ok.cons (so_gf (C := RX4) (T := TX4) (N := 11) inGX4 rfl (by decide) wq_218 rfl dX4_readStep_85 rfl) <|
  Ok.cons (so_iload_n dX4_readStep_88 rfl rfl) <|
  Ok.cons (so_iload_n dX4_readStep_89 rfl rfl) <|
  Ok.cons (so_aload_n dX4_readStep_90 rfl rfl) <|
  Ok.cons (so_gf (C := RX4) (T := TX4) (N := 11) inGX4 rfl (by decide) wq_230 rfl dX4_readStep_91 rfl) <|
  Ok.cons (so_vv (ct_X2_appendStep l) wq_473 wq_470 wq_471 wq_472 wq_88 (by decide +kernel) (by decide) rfl rfl cmp_layD_sgC_3_11 dX4_readStep_94 rfl) <|
  Ok.cons (so_iconst dX4_readStep_97 (by decide) rfl) <|
  Ok.cons (so_zr rfl dX4_readStep_98) <| Ok.nil
theorem ct_X4_readStep (l : Launch) : Ct l yX4_readStep cX4_readStep 3 (some .boolean) 4 layD f_X4_readStep := ofRunL (by decide) rfl (ok_X4_readStep l)
noncomputable def t_X4_readPlace : Tbl := [(0, s_al 1 0),
  (1, s_gf 4 layD 4 1),
  (4, s_gf 7 layD 2 1),
  (7, s_ic 8 3),
  (8, s_clt 11 18),
  (11, s_al 12 0),
  (12, s_ic 14 (-15)),
  (14, s_ci0 true 17 2 f_X4_fail),
  (17, s_zr),
  (18, s_al 19 0),
  (19, s_ic 20 1),
  (20, s_ic 23 2000),
  (23, s_ci0 true 26 3 f_X4_readNumber),
  (26, s_zne 29 31),
  (29, s_ic 30 0),
  (30, s_zr),
  (31, s_al 32 0),
  (32, s_gf 35 layD 4 10),
  (35, s_is 36 1),
  (36, s_al 37 0),
  (37, s_ic 39 100),
  (39, s_ic 42 1500),
  (42, s_ci0 true 45 3 f_X4_readNumber),
  (45, s_zne 48 50),
  (48, s_ic 49 0),
  (49, s_zr),
  (50, s_al 51 0),
  (51, s_gf 54 layD 4 1),
  (54, s_il 55 1),
  (55, s_al 56 0),
  (56, s_gf 59 layD 4 10),
  (59, s_cv true 62 3 (sgC 3 11) f_X2_appendPlace),
  (62, s_ic 63 1),
  (63, s_zr)]
def cs_X4_readPlace : Cs := []
noncomputable def f_X4_readPlace : List Vv → Mm → Option Ou := lock (sem t_X4_readPlace cs_X4_readPlace 2)
set_option maxRecDepth 20000 in
theorem ok_X4_readPlace (l : Launch) : Ok l RX4 cX4_readPlace 2 4 (some .boolean) layD t_X4_readPlace :=
  Ok.cons (so_aload_n dX4_readPlace_0 rfl rfl) <|
  Ok.cons (so_gf (C := RX4) (T := TX4) (N := 11) inGX4 rfl (by decide) wq_218 rfl dX4_readPlace_1 rfl) <|
  Ok.cons (so_gf (C := RX2) (T := TX2) (N := 12) inGX2 rfl (by decide) wq_132 rfl dX4_readPlace_4 rfl) <|
  Ok.cons (so_iconst dX4_readPlace_7 (by decide) rfl) <|
  Ok.cons (so_clt dX4_readPlace_8 (by decide) rfl) <|
  Ok.cons (so_aload_n dX4_readPlace_11 rfl rfl) <|
  Ok.cons (so_bipush dX4_readPlace_12 (by decide) rfl) <|
  Ok.cons (so_vi0 (ct_X4_fail l) wq_435 wq_432 wq_434 wq_5 wq_91 (by decide +kernel) (by decide) rfl rfl dX4_readPlace_14 rfl) <|
  Ok.cons (so_zr rfl dX4_readPlace_17) <|
  Ok.cons (so_aload_n dX4_readPlace_18 rfl rfl) <|
  Ok.cons (so_iconst dX4_readPlace_19 (by decide) rfl) <|
  Ok.cons (so_sipush dX4_readPlace_20 (by decide) rfl) <|
  Ok.cons (so_vi0 (ct_X4_readNumber l) wq_461 wq_458 wq_460 wq_8 wq_91 (by decide +kernel) (by decide) rfl rfl dX4_readPlace_23 rfl) <|
  Ok.cons (so_zne dX4_readPlace_26 (by decide) rfl) <|
  Ok.cons (so_iconst dX4_readPlace_29 (by decide) rfl) <|
  Ok.cons (so_zr rfl dX4_readPlace_30) <|
  Ok.cons (so_aload_n dX4_readPlace_31 rfl rfl) <|
  Ok.cons (so_gf (C := RX4) (T := TX4) (N := 11) inGX4 rfl (by decide) wq_230 rfl dX4_readPlace_32 rfl) <|
  Ok.cons (so_istore_n dX4_readPlace_35 rfl (by decide) rfl) <|
  Ok.cons (so_aload_n dX4_readPlace_36 rfl rfl) <|
  Ok.cons (so_bipush dX4_readPlace_37 (by decide) rfl) <|
  Ok.cons (so_sipush dX4_readPlace_39 (by decide) rfl) <|
  Ok.cons (so_vi0 (ct_X4_readNumber l) wq_461 wq_458 wq_460 wq_8 wq_91 (by decide +kernel) (by decide) rfl rfl dX4_readPlace_42 rfl) <|
  Ok.cons (so_zne dX4_readPlace_45 (by decide) rfl) <|
  Ok.cons (so_iconst dX4_readPlace_48 (by decide) rfl) <|
  Ok.cons (so_zr rfl dX4_readPlace_49) <|
  Ok.cons (so_aload_n dX4_readPlace_50 rfl rfl) <|
  Ok.cons (so_gf (C := RX4) (T := TX4) (N := 11) inGX4 rfl (by decide) wq_218 rfl dX4_readPlace_51 rfl) <|
  Ok.cons (so_iload_n dX4_readPlace_54 rfl rfl) <|
  Ok.cons (so_aload_n dX4_readPlace_55 rfl rfl) <|
  Ok.cons (so_gf (C := RX4) (T := TX4) (N := 11) inGX4 rfl (by decide) wq_230 rfl dX4_readPlace_56 rfl) <|
  Ok.cons (so_vv (ct_X2_appendPlace l) wq_481 wq_478 wq_479 wq_480 wq_88 (by decide +kernel) (by decide) rfl rfl cmp_layD_sgC_3_11 dX4_readPlace_59 rfl) <|
  Ok.cons (so_iconst dX4_readPlace_62 (by decide) rfl) <|
  Ok.cons (so_zr rfl dX4_readPlace_63) <| Ok.nil
theorem ct_X4_readPlace (l : Launch) : Ct l yX4_readPlace cX4_readPlace 2 (some .boolean) 4 layD f_X4_readPlace := ofRunL (by decide) rfl (ok_X4_readPlace l)
noncomputable def t_X4_readSetting : Tbl := [(0, s_al 1 0),
  (1, s_cv0 true 4 1 f_X4_nextToken),
  (4, s_al 5 0),
  (5, s_gf 8 layD 4 9),
  (8, s_ic 9 1),
  (9, s_cne 12 22),
  (12, s_al 13 0),
  (13, s_gf 16 layD 4 10),
  (16, s_ci false 19 1 (sg0) f_X4_settingOfWord),
  (19, s_go 23),
  (22, s_ic 23 (-1)),
  (23, s_is 24 1),
  (24, s_il 25 1),
  (25, s_ic 26 (-1)),
  (26, s_cne 29 36),
  (29, s_al 30 0),
  (30, s_ic 32 (-11)),
  (32, s_ci0 true 35 2 f_X4_fail),
  (35, s_zr),
  (36, s_al 37 0),
  (37, s_gf 40 layD 4 2),
  (40, s_il 41 1),
  (41, s_ia 42 layD 2),
  (42, s_zeq 45 52),
  (45, s_al 46 0),
  (46, s_ic 48 (-14)),
  (48, s_ci0 true 51 2 f_X4_fail),
  (51, s_zr),
  (52, s_al 53 0),
  (53, s_gs 56 0),
  (56, s_il 57 1),
  (57, s_ia 58 layD 0),
  (58, s_gs 61 1),
  (61, s_il 62 1),
  (62, s_ia 63 layD 0),
  (63, s_ci0 true 66 3 f_X4_readNumber),
  (66, s_zne 69 71),
  (69, s_ic 70 0),
  (70, s_zr),
  (71, s_al 72 0),
  (72, s_gf 75 layD 4 2),
  (75, s_il 76 1),
  (76, s_ic 77 1),
  (77, s_zx 78 layD),
  (78, s_al 79 0),
  (79, s_gf 82 layD 4 1),
  (82, s_gf 85 layD 2 10),
  (85, s_il 86 1),
  (86, s_al 87 0),
  (87, s_gf 90 layD 4 10),
  (90, s_ix 91 layD 0),
  (91, s_ic 92 1),
  (92, s_zr)]
def cs_X4_readSetting : Cs := [(23, [0])]
noncomputable def f_X4_readSetting : List Vv → Mm → Option Ou := lock (sem t_X4_readSetting cs_X4_readSetting 2)
set_option maxRecDepth 20000 in
theorem ok_X4_readSetting (l : Launch) : Ok l RX4 cX4_readSetting 2 4 (some .boolean) layD t_X4_readSetting :=
  Ok.cons (so_aload_n dX4_readSetting_0 rfl rfl) <|
  Ok.cons (so_vv0 (ct_X4_nextToken l) wq_417 wq_414 wq_416 wq_1 wq_91 (by decide +kernel) (by decide) rfl rfl dX4_readSetting_1 rfl) <|
  Ok.cons (so_aload_n dX4_readSetting_4 rfl rfl) <|
  Ok.cons (so_gf (C := RX4) (T := TX4) (N := 11) inGX4 rfl (by decide) wq_229 rfl dX4_readSetting_5 rfl) <|
  Ok.cons (so_iconst dX4_readSetting_8 (by decide) rfl) <|
  Ok.cons (so_cne dX4_readSetting_9 (by decide) rfl) <|
  Ok.cons (so_aload_n dX4_readSetting_12 rfl rfl) <|
  Ok.cons (so_gf (C := RX4) (T := TX4) (N := 11) inGX4 rfl (by decide) wq_230 rfl dX4_readSetting_13 rfl) <|
  Ok.cons (so_si (ct_X4_settingOfWord l) wq_453 wq_451 wq_452 wq_91 (by decide +kernel) (by decide) cmp_layD_sg0 dX4_readSetting_16 rfl) <|
  Ok.cons (so_goto dX4_readSetting_19 (by decide)) <|
  Ok.cons (so_iconst dX4_readSetting_22 (by decide) rfl) <|
  Ok.cons (so_istore_n dX4_readSetting_23 rfl (by decide) rfl) <|
  Ok.cons (so_iload_n dX4_readSetting_24 rfl rfl) <|
  Ok.cons (so_iconst dX4_readSetting_25 (by decide) rfl) <|
  Ok.cons (so_cne dX4_readSetting_26 (by decide) rfl) <|
  Ok.cons (so_aload_n dX4_readSetting_29 rfl rfl) <|
  Ok.cons (so_bipush dX4_readSetting_30 (by decide) rfl) <|
  Ok.cons (so_vi0 (ct_X4_fail l) wq_435 wq_432 wq_434 wq_5 wq_91 (by decide +kernel) (by decide) rfl rfl dX4_readSetting_32 rfl) <|
  Ok.cons (so_zr rfl dX4_readSetting_35) <|
  Ok.cons (so_aload_n dX4_readSetting_36 rfl rfl) <|
  Ok.cons (so_gf (C := RX4) (T := TX4) (N := 11) inGX4 rfl (by decide) wq_220 rfl dX4_readSetting_37 rfl) <|
  Ok.cons (so_iload_n dX4_readSetting_40 rfl rfl) <|
  Ok.cons (so_ia2 dX4_readSetting_41 rfl) <|
  Ok.cons (so_zeq dX4_readSetting_42 (by decide) rfl) <|
  Ok.cons (so_aload_n dX4_readSetting_45 rfl rfl) <|
  Ok.cons (so_bipush dX4_readSetting_46 (by decide) rfl) <|
  Ok.cons (so_vi0 (ct_X4_fail l) wq_435 wq_432 wq_434 wq_5 wq_91 (by decide +kernel) (by decide) rfl rfl dX4_readSetting_48 rfl) <|
  Ok.cons (so_zr rfl dX4_readSetting_51) <|
  Ok.cons (so_aload_n dX4_readSetting_52 rfl rfl) <|
  Ok.cons (so_gsn (fun U h => h.2.1) dX4_readSetting_53 rfl) <|
  Ok.cons (so_iload_n dX4_readSetting_56 rfl rfl) <|
  Ok.cons (so_ia0 dX4_readSetting_57 rfl) <|
  Ok.cons (so_gsn (fun U h => h.2.2.1) dX4_readSetting_58 rfl) <|
  Ok.cons (so_iload_n dX4_readSetting_61 rfl rfl) <|
  Ok.cons (so_ia0 dX4_readSetting_62 rfl) <|
  Ok.cons (so_vi0 (ct_X4_readNumber l) wq_461 wq_458 wq_460 wq_8 wq_91 (by decide +kernel) (by decide) rfl rfl dX4_readSetting_63 rfl) <|
  Ok.cons (so_zne dX4_readSetting_66 (by decide) rfl) <|
  Ok.cons (so_iconst dX4_readSetting_69 (by decide) rfl) <|
  Ok.cons (so_zr rfl dX4_readSetting_70) <|
  Ok.cons (so_aload_n dX4_readSetting_71 rfl rfl) <|
  Ok.cons (so_gf (C := RX4) (T := TX4) (N := 11) inGX4 rfl (by decide) wq_220 rfl dX4_readSetting_72 rfl) <|
  Ok.cons (so_iload_n dX4_readSetting_75 rfl rfl) <|
  Ok.cons (so_iconst dX4_readSetting_76 (by decide) rfl) <|
  Ok.cons (so_zx dX4_readSetting_77 rfl) <|
  Ok.cons (so_aload_n dX4_readSetting_78 rfl rfl) <|
  Ok.cons (so_gf (C := RX4) (T := TX4) (N := 11) inGX4 rfl (by decide) wq_218 rfl dX4_readSetting_79 rfl) <|
  Ok.cons (so_gf (C := RX2) (T := TX2) (N := 12) inGX2 rfl (by decide) wq_157 rfl dX4_readSetting_82 rfl) <|
  Ok.cons (so_iload_n dX4_readSetting_85 rfl rfl) <|
  Ok.cons (so_aload_n dX4_readSetting_86 rfl rfl) <|
  Ok.cons (so_gf (C := RX4) (T := TX4) (N := 11) inGX4 rfl (by decide) wq_230 rfl dX4_readSetting_87 rfl) <|
  Ok.cons (so_ix dX4_readSetting_90 rfl) <|
  Ok.cons (so_iconst dX4_readSetting_91 (by decide) rfl) <|
  Ok.cons (so_zr rfl dX4_readSetting_92) <| Ok.nil
theorem ct_X4_readSetting (l : Launch) : Ct l yX4_readSetting cX4_readSetting 2 (some .boolean) 4 layD f_X4_readSetting := ofRunL (by decide) rfl (ok_X4_readSetting l)
noncomputable def t_X4_readStatement : Tbl := [(0, s_al 1 0),
  (1, s_gf 4 layD 4 9),
  (4, s_ic 5 1),
  (5, s_ceq 8 15),
  (8, s_al 9 0),
  (9, s_ic 11 (-11)),
  (11, s_ci0 true 14 2 f_X4_fail),
  (14, s_zr),
  (15, s_al 16 0),
  (16, s_gf 19 layD 4 10),
  (19, s_sw [(321370112, 60), (549489824, 70), (643432448, 75), (658685952, 65)] 80),
  (60, s_al 61 0),
  (61, s_ci0 true 64 1 f_X4_readIron),
  (64, s_zr),
  (65, s_al 66 0),
  (66, s_ci0 true 69 1 f_X4_readStep),
  (69, s_zr),
  (70, s_al 71 0),
  (71, s_ci0 true 74 1 f_X4_readPlace),
  (74, s_zr),
  (75, s_al 76 0),
  (76, s_ci0 true 79 1 f_X4_readSetting),
  (79, s_zr),
  (80, s_al 81 0),
  (81, s_ic 83 (-11)),
  (83, s_ci0 true 86 2 f_X4_fail),
  (86, s_zr)]
def cs_X4_readStatement : Cs := []
noncomputable def f_X4_readStatement : List Vv → Mm → Option Ou := lock (sem t_X4_readStatement cs_X4_readStatement 1)
set_option maxRecDepth 20000 in
theorem ok_X4_readStatement (l : Launch) : Ok l RX4 cX4_readStatement 1 5 (some .boolean) layD t_X4_readStatement :=
  Ok.cons (so_aload_n dX4_readStatement_0 rfl rfl) <|
  Ok.cons (so_gf (C := RX4) (T := TX4) (N := 11) inGX4 rfl (by decide) wq_229 rfl dX4_readStatement_1 rfl) <|
  Ok.cons (so_iconst dX4_readStatement_4 (by decide) rfl) <|
  Ok.cons (so_ceq dX4_readStatement_5 (by decide) rfl) <|
  Ok.cons (so_aload_n dX4_readStatement_8 rfl rfl) <|
  Ok.cons (so_bipush dX4_readStatement_9 (by decide) rfl) <|
  Ok.cons (so_vi0 (ct_X4_fail l) wq_435 wq_432 wq_434 wq_5 wq_91 (by decide +kernel) (by decide) rfl rfl dX4_readStatement_11 rfl) <|
  Ok.cons (so_zr rfl dX4_readStatement_14) <|
  Ok.cons (so_aload_n dX4_readStatement_15 rfl rfl) <|
  Ok.cons (so_gf (C := RX4) (T := TX4) (N := 11) inGX4 rfl (by decide) wq_230 rfl dX4_readStatement_16 rfl) <|
  Ok.cons (so_sw dX4_readStatement_19 (by decide +kernel) (by decide +kernel) (by decide)) <|
  Ok.cons (so_aload_n dX4_readStatement_60 rfl rfl) <|
  Ok.cons (so_vi0 (ct_X4_readIron l) wq_439 wq_436 wq_438 wq_6 wq_91 (by decide +kernel) (by decide) rfl rfl dX4_readStatement_61 rfl) <|
  Ok.cons (so_zr rfl dX4_readStatement_64) <|
  Ok.cons (so_aload_n dX4_readStatement_65 rfl rfl) <|
  Ok.cons (so_vi0 (ct_X4_readStep l) wq_469 wq_466 wq_468 wq_9 wq_91 (by decide +kernel) (by decide) rfl rfl dX4_readStatement_66 rfl) <|
  Ok.cons (so_zr rfl dX4_readStatement_69) <|
  Ok.cons (so_aload_n dX4_readStatement_70 rfl rfl) <|
  Ok.cons (so_vi0 (ct_X4_readPlace l) wq_477 wq_474 wq_476 wq_10 wq_91 (by decide +kernel) (by decide) rfl rfl dX4_readStatement_71 rfl) <|
  Ok.cons (so_zr rfl dX4_readStatement_74) <|
  Ok.cons (so_aload_n dX4_readStatement_75 rfl rfl) <|
  Ok.cons (so_vi0 (ct_X4_readSetting l) wq_485 wq_482 wq_484 wq_11 wq_91 (by decide +kernel) (by decide) rfl rfl dX4_readStatement_76 rfl) <|
  Ok.cons (so_zr rfl dX4_readStatement_79) <|
  Ok.cons (so_aload_n dX4_readStatement_80 rfl rfl) <|
  Ok.cons (so_bipush dX4_readStatement_81 (by decide) rfl) <|
  Ok.cons (so_vi0 (ct_X4_fail l) wq_435 wq_432 wq_434 wq_5 wq_91 (by decide +kernel) (by decide) rfl rfl dX4_readStatement_83 rfl) <|
  Ok.cons (so_zr rfl dX4_readStatement_86) <| Ok.nil
theorem ct_X4_readStatement (l : Launch) : Ct l yX4_readStatement cX4_readStatement 1 (some .boolean) 5 layD f_X4_readStatement := ofRunL (by decide) rfl (ok_X4_readStatement l)
noncomputable def t_X4_readSemicolon : Tbl := [(0, s_al 1 0),
  (1, s_cv0 true 4 1 f_X4_nextToken),
  (4, s_al 5 0),
  (5, s_gf 8 layD 4 9),
  (8, s_ic 9 3),
  (9, s_ceq 12 21),
  (12, s_al 13 0),
  (13, s_ic 15 (-11)),
  (15, s_ci0 true 18 2 f_X4_fail),
  (18, s_zeq 21 25),
  (21, s_ic 22 1),
  (22, s_go 26),
  (25, s_ic 26 0),
  (26, s_zr)]
def cs_X4_readSemicolon : Cs := []
noncomputable def f_X4_readSemicolon : List Vv → Mm → Option Ou := lock (sem t_X4_readSemicolon cs_X4_readSemicolon 1)
set_option maxRecDepth 20000 in
theorem ok_X4_readSemicolon (l : Launch) : Ok l RX4 cX4_readSemicolon 1 3 (some .boolean) layD t_X4_readSemicolon :=
  Ok.cons (so_aload_n dX4_readSemicolon_0 rfl rfl) <|
  Ok.cons (so_vv0 (ct_X4_nextToken l) wq_417 wq_414 wq_416 wq_1 wq_91 (by decide +kernel) (by decide) rfl rfl dX4_readSemicolon_1 rfl) <|
  Ok.cons (so_aload_n dX4_readSemicolon_4 rfl rfl) <|
  Ok.cons (so_gf (C := RX4) (T := TX4) (N := 11) inGX4 rfl (by decide) wq_229 rfl dX4_readSemicolon_5 rfl) <|
  Ok.cons (so_iconst dX4_readSemicolon_8 (by decide) rfl) <|
  Ok.cons (so_ceq dX4_readSemicolon_9 (by decide) rfl) <|
  Ok.cons (so_aload_n dX4_readSemicolon_12 rfl rfl) <|
  Ok.cons (so_bipush dX4_readSemicolon_13 (by decide) rfl) <|
  Ok.cons (so_vi0 (ct_X4_fail l) wq_435 wq_432 wq_434 wq_5 wq_91 (by decide +kernel) (by decide) rfl rfl dX4_readSemicolon_15 rfl) <|
  Ok.cons (so_zeq dX4_readSemicolon_18 (by decide) rfl) <|
  Ok.cons (so_iconst dX4_readSemicolon_21 (by decide) rfl) <|
  Ok.cons (so_goto dX4_readSemicolon_22 (by decide)) <|
  Ok.cons (so_iconst dX4_readSemicolon_25 (by decide) rfl) <|
  Ok.cons (so_zr rfl dX4_readSemicolon_26) <| Ok.nil
theorem ct_X4_readSemicolon (l : Launch) : Ct l yX4_readSemicolon cX4_readSemicolon 1 (some .boolean) 3 layD f_X4_readSemicolon := ofRunL (by decide) rfl (ok_X4_readSemicolon l)
noncomputable def t_X4_readText : Tbl := [(0, s_al 1 0),
  (1, s_il 2 1),
  (2, s_cv0 true 5 2 f_X4_beginText),
  (5, s_ic 6 0),
  (6, s_is 7 2),
  (7, s_al 8 0),
  (8, s_cv0 true 11 1 f_X4_nextToken),
  (11, s_al 12 0),
  (12, s_gf 15 layD 4 9),
  (15, s_zeq 18 52),
  (18, s_il 19 2),
  (19, s_il 20 1),
  (20, s_cge 23 52),
  (23, s_al 24 0),
  (24, s_ci0 true 27 1 f_X4_readStatement),
  (27, s_zeq 30 37),
  (30, s_al 31 0),
  (31, s_ci0 true 34 1 f_X4_readSemicolon),
  (34, s_zne 37 42),
  (37, s_al 38 0),
  (38, s_gf 41 layD 4 5),
  (41, s_ir),
  (42, s_in 45 2 1),
  (45, s_al 46 0),
  (46, s_cv0 true 49 1 f_X4_nextToken),
  (49, s_go 11),
  (52, s_il 53 2),
  (53, s_ir)]
def cs_X4_readText : Cs := [(11, [0, 1, 2])]
noncomputable def f_X4_readText : List Vv → Mm → Option Ou := lock (sem t_X4_readText cs_X4_readText 3)
set_option maxRecDepth 20000 in
theorem ok_X4_readText (l : Launch) : Ok l RX4 cX4_readText 3 6 (some .int) layD t_X4_readText :=
  Ok.cons (so_aload_n dX4_readText_0 rfl rfl) <|
  Ok.cons (so_iload_n dX4_readText_1 rfl rfl) <|
  Ok.cons (so_vv0 (ct_X4_beginText l) wq_406 wq_403 wq_405 wq_0 wq_91 (by decide +kernel) (by decide) rfl rfl dX4_readText_2 rfl) <|
  Ok.cons (so_iconst dX4_readText_5 (by decide) rfl) <|
  Ok.cons (so_istore_n dX4_readText_6 rfl (by decide) rfl) <|
  Ok.cons (so_aload_n dX4_readText_7 rfl rfl) <|
  Ok.cons (so_vv0 (ct_X4_nextToken l) wq_417 wq_414 wq_416 wq_1 wq_91 (by decide +kernel) (by decide) rfl rfl dX4_readText_8 rfl) <|
  Ok.cons (so_aload_n dX4_readText_11 rfl rfl) <|
  Ok.cons (so_gf (C := RX4) (T := TX4) (N := 11) inGX4 rfl (by decide) wq_229 rfl dX4_readText_12 rfl) <|
  Ok.cons (so_zeq dX4_readText_15 (by decide) rfl) <|
  Ok.cons (so_iload_n dX4_readText_18 rfl rfl) <|
  Ok.cons (so_iload_n dX4_readText_19 rfl rfl) <|
  Ok.cons (so_cge dX4_readText_20 (by decide) rfl) <|
  Ok.cons (so_aload_n dX4_readText_23 rfl rfl) <|
  Ok.cons (so_vi0 (ct_X4_readStatement l) wq_431 wq_428 wq_430 wq_4 wq_91 (by decide +kernel) (by decide) rfl rfl dX4_readText_24 rfl) <|
  Ok.cons (so_zeq dX4_readText_27 (by decide) rfl) <|
  Ok.cons (so_aload_n dX4_readText_30 rfl rfl) <|
  Ok.cons (so_vi0 (ct_X4_readSemicolon l) wq_493 wq_490 wq_492 wq_12 wq_91 (by decide +kernel) (by decide) rfl rfl dX4_readText_31 rfl) <|
  Ok.cons (so_zne dX4_readText_34 (by decide) rfl) <|
  Ok.cons (so_aload_n dX4_readText_37 rfl rfl) <|
  Ok.cons (so_gf (C := RX4) (T := TX4) (N := 11) inGX4 rfl (by decide) wq_225 rfl dX4_readText_38 rfl) <|
  Ok.cons (so_ir rfl dX4_readText_41) <|
  Ok.cons (so_iinc dX4_readText_42 (by decide) (by decide) rfl) <|
  Ok.cons (so_aload_n dX4_readText_45 rfl rfl) <|
  Ok.cons (so_vv0 (ct_X4_nextToken l) wq_417 wq_414 wq_416 wq_1 wq_91 (by decide +kernel) (by decide) rfl rfl dX4_readText_46 rfl) <|
  Ok.cons (so_goto dX4_readText_49 (by decide)) <|
  Ok.cons (so_iload_n dX4_readText_52 rfl rfl) <|
  Ok.cons (so_ir rfl dX4_readText_53) <| Ok.nil
theorem ct_X4_readText (l : Launch) : Ct l yX4_readText cX4_readText 3 (some .int) 6 layD f_X4_readText := ofRunL (by decide) rfl (ok_X4_readText l)
