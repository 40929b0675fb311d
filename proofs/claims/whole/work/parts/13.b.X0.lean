noncomputable def t_X0_take : Tbl := [(0, s_il 1 2),
  (1, s_al 2 0),
  (2, s_gf 5 layB 0 1),
  (5, s_cne 8 19),
  (8, s_al 9 0),
  (9, s_dup 10),
  (10, s_gf 13 layB 0 2),
  (13, s_ic 14 1),
  (14, s_b 15 (fun x y => x + y)),
  (15, s_pf 18 layB 0 2),
  (18, s_vr),
  (19, s_al 20 0),
  (20, s_il 21 2),
  (21, s_pf 24 layB 0 1),
  (24, s_al 25 0),
  (25, s_ic 26 1),
  (26, s_pf 29 layB 0 2),
  (29, s_al 30 1),
  (30, s_gf 33 layB 2 11),
  (33, s_ic 34 0),
  (34, s_al 35 0),
  (35, s_gf 38 layB 0 0),
  (38, s_ic 39 0),
  (39, s_ic 41 6),
  (41, s_cp 44 layB),
  (44, s_vr)]
def cs_X0_take : Cs := []
noncomputable def f_X0_take : List Vv → Mm → Option Ou := lock (sem t_X0_take cs_X0_take 3)
set_option maxRecDepth 20000 in
theorem ok_X0_take (l : Launch) : Ok l RX0 cX0_take 3 1 none layB t_X0_take :=
  Ok.cons (so_iload_n dX0_take_0 rfl rfl) <|
  Ok.cons (so_aload_n dX0_take_1 rfl rfl) <|
  Ok.cons (so_gf (C := RX0) (T := TX0) (N := 3) inGX0 rfl (by decide) wq_339 rfl dX0_take_2 rfl) <|
  Ok.cons (so_cne dX0_take_5 (by decide) rfl) <|
  Ok.cons (so_aload_n dX0_take_8 rfl rfl) <|
  Ok.cons (so_dup dX0_take_9 rfl) <|
  Ok.cons (so_gf (C := RX0) (T := TX0) (N := 3) inGX0 rfl (by decide) wq_341 rfl dX0_take_10 rfl) <|
  Ok.cons (so_iconst dX0_take_13 (by decide) rfl) <|
  Ok.cons (so_iadd dX0_take_14 rfl) <|
  Ok.cons (so_pf (C := RX0) (T := TX0) (N := 3) inGX0 tyX0_ok nmX0 rfl (by decide) wq_341 rfl rfl rfl dX0_take_15 rfl) <|
  Ok.cons (so_vr rfl dX0_take_18) <|
  Ok.cons (so_aload_n dX0_take_19 rfl rfl) <|
  Ok.cons (so_iload_n dX0_take_20 rfl rfl) <|
  Ok.cons (so_pf (C := RX0) (T := TX0) (N := 3) inGX0 tyX0_ok nmX0 rfl (by decide) wq_339 rfl rfl rfl dX0_take_21 rfl) <|
  Ok.cons (so_aload_n dX0_take_24 rfl rfl) <|
  Ok.cons (so_iconst dX0_take_25 (by decide) rfl) <|
  Ok.cons (so_pf (C := RX0) (T := TX0) (N := 3) inGX0 tyX0_ok nmX0 rfl (by decide) wq_341 rfl rfl rfl dX0_take_26 rfl) <|
  Ok.cons (so_aload_n dX0_take_29 rfl rfl) <|
  Ok.cons (so_gf (C := RX2) (T := TX2) (N := 12) inGX2 rfl (by decide) wq_161 rfl dX0_take_30 rfl) <|
  Ok.cons (so_iconst dX0_take_33 (by decide) rfl) <|
  Ok.cons (so_aload_n dX0_take_34 rfl rfl) <|
  Ok.cons (so_gf (C := RX0) (T := TX0) (N := 3) inGX0 rfl (by decide) wq_337 rfl dX0_take_35 rfl) <|
  Ok.cons (so_iconst dX0_take_38 (by decide) rfl) <|
  Ok.cons (so_bipush dX0_take_39 (by decide) rfl) <|
  Ok.cons (so_cp (by decide) wq_673 wq_123 wq_122 wq_89 dX0_take_41 rfl) <|
  Ok.cons (so_vr rfl dX0_take_44) <| Ok.nil
theorem ct_X0_take (l : Launch) : Ct l yX0_take cX0_take 3 none 1 layB f_X0_take := ofRunL (by decide) rfl (ok_X0_take l)
noncomputable def t_X0_advance : Tbl := [(0, s_al 1 1),
  (1, s_gf 4 layB 2 11),
  (4, s_as 5 2),
  (5, s_al 6 1),
  (6, s_gf 9 layB 2 0),
  (9, s_ic 10 2),
  (10, s_b 11 (fun x y => x - y)),
  (11, s_is 12 3),
  (12, s_il 13 3),
  (13, s_zlt 16 33),
  (16, s_al 17 2),
  (17, s_il 18 3),
  (18, s_ia 19 layB 0),
  (19, s_al 20 2),
  (20, s_il 21 3),
  (21, s_ic 22 1),
  (22, s_b 23 (fun x y => x + y)),
  (23, s_ia 24 layB 0),
  (24, s_cle 27 33),
  (27, s_in 30 3 (-1)),
  (30, s_go 12),
  (33, s_il 34 3),
  (34, s_zge 37 39),
  (37, s_ic 38 0),
  (38, s_zr),
  (39, s_al 40 1),
  (40, s_gf 43 layB 2 0),
  (43, s_ic 44 1),
  (44, s_b 45 (fun x y => x - y)),
  (45, s_is 47 4),
  (47, s_il 49 4),
  (49, s_il 50 3),
  (50, s_cle 53 69),
  (53, s_al 54 2),
  (54, s_il 56 4),
  (56, s_ia 57 layB 0),
  (57, s_al 58 2),
  (58, s_il 59 3),
  (59, s_ia 60 layB 0),
  (60, s_cge 63 69),
  (63, s_in 66 4 (-1)),
  (66, s_go 47),
  (69, s_al 70 1),
  (70, s_il 71 3),
  (71, s_il 73 4),
  (73, s_cv true 76 3 (sgC 14 11) f_X2_exchange),
  (76, s_il 77 3),
  (77, s_ic 78 1),
  (78, s_b 79 (fun x y => x + y)),
  (79, s_is 81 5),
  (81, s_al 82 1),
  (82, s_gf 85 layB 2 0),
  (85, s_ic 86 1),
  (86, s_b 87 (fun x y => x - y)),
  (87, s_is 89 6),
  (89, s_il 91 5),
  (91, s_il 93 6),
  (93, s_cge 96 113),
  (96, s_al 97 1),
  (97, s_il 99 5),
  (99, s_il 101 6),
  (101, s_cv true 104 3 (sgC 14 11) f_X2_exchange),
  (104, s_in 107 5 1),
  (107, s_in 110 6 (-1)),
  (110, s_go 89),
  (113, s_ic 114 1),
  (114, s_zr)]
def cs_X0_advance : Cs := [(12, [1, 2, 3]), (33, [1, 2, 3]), (47, [1, 2, 3, 4]), (69, [1, 3, 4]), (89, [1, 5, 6])]
noncomputable def f_X0_advance : List Vv → Mm → Option Ou := lock (sem t_X0_advance cs_X0_advance 7)
set_option maxRecDepth 20000 in
theorem ok_X0_advance (l : Launch) : Ok l RX0 cX0_advance 7 2 (some .boolean) layB t_X0_advance :=
  Ok.cons (so_aload_n dX0_advance_0 rfl rfl) <|
  Ok.cons (so_gf (C := RX2) (T := TX2) (N := 12) inGX2 rfl (by decide) wq_161 rfl dX0_advance_1 rfl) <|
  Ok.cons (so_astore_n dX0_advance_4 rfl (by decide) rfl) <|
  Ok.cons (so_aload_n dX0_advance_5 rfl rfl) <|
  Ok.cons (so_gf (C := RX2) (T := TX2) (N := 12) inGX2 rfl (by decide) wq_127 rfl dX0_advance_6 rfl) <|
  Ok.cons (so_iconst dX0_advance_9 (by decide) rfl) <|
  Ok.cons (so_isub dX0_advance_10 rfl) <|
  Ok.cons (so_istore_n dX0_advance_11 rfl (by decide) rfl) <|
  Ok.cons (so_iload_n dX0_advance_12 rfl rfl) <|
  Ok.cons (so_zlt dX0_advance_13 (by decide) rfl) <|
  Ok.cons (so_aload_n dX0_advance_16 rfl rfl) <|
  Ok.cons (so_iload_n dX0_advance_17 rfl rfl) <|
  Ok.cons (so_ia0 dX0_advance_18 rfl) <|
  Ok.cons (so_aload_n dX0_advance_19 rfl rfl) <|
  Ok.cons (so_iload_n dX0_advance_20 rfl rfl) <|
  Ok.cons (so_iconst dX0_advance_21 (by decide) rfl) <|
  Ok.cons (so_iadd dX0_advance_22 rfl) <|
  Ok.cons (so_ia0 dX0_advance_23 rfl) <|
  Ok.cons (so_cle dX0_advance_24 (by decide) rfl) <|
  Ok.cons (so_iinc dX0_advance_27 (by decide) (by decide) rfl) <|
  Ok.cons (so_goto dX0_advance_30 (by decide)) <|
  Ok.cons (so_iload_n dX0_advance_33 rfl rfl) <|
  Ok.cons (so_zge dX0_advance_34 (by decide) rfl) <|
  Ok.cons (so_iconst dX0_advance_37 (by decide) rfl) <|
  Ok.cons (so_zr rfl dX0_advance_38) <|
  Ok.cons (so_aload_n dX0_advance_39 rfl rfl) <|
  Ok.cons (so_gf (C := RX2) (T := TX2) (N := 12) inGX2 rfl (by decide) wq_127 rfl dX0_advance_40 rfl) <|
  Ok.cons (so_iconst dX0_advance_43 (by decide) rfl) <|
  Ok.cons (so_isub dX0_advance_44 rfl) <|
  Ok.cons (so_istore dX0_advance_45 (by decide) rfl) <|
  Ok.cons (so_iload dX0_advance_47 rfl) <|
  Ok.cons (so_iload_n dX0_advance_49 rfl rfl) <|
  Ok.cons (so_cle dX0_advance_50 (by decide) rfl) <|
  Ok.cons (so_aload_n dX0_advance_53 rfl rfl) <|
  Ok.cons (so_iload dX0_advance_54 rfl) <|
  Ok.cons (so_ia0 dX0_advance_56 rfl) <|
  Ok.cons (so_aload_n dX0_advance_57 rfl rfl) <|
  Ok.cons (so_iload_n dX0_advance_58 rfl rfl) <|
  Ok.cons (so_ia0 dX0_advance_59 rfl) <|
  Ok.cons (so_cge dX0_advance_60 (by decide) rfl) <|
  Ok.cons (so_iinc dX0_advance_63 (by decide) (by decide) rfl) <|
  Ok.cons (so_goto dX0_advance_66 (by decide)) <|
  Ok.cons (so_aload_n dX0_advance_69 rfl rfl) <|
  Ok.cons (so_iload_n dX0_advance_70 rfl rfl) <|
  Ok.cons (so_iload dX0_advance_71 rfl) <|
  Ok.cons (so_vv (ct_X2_exchange l) wq_681 wq_678 wq_679 wq_680 wq_88 (by decide +kernel) (by decide) rfl rfl cmp_layB_sgC_14_11 dX0_advance_73 rfl) <|
  Ok.cons (so_iload_n dX0_advance_76 rfl rfl) <|
  Ok.cons (so_iconst dX0_advance_77 (by decide) rfl) <|
  Ok.cons (so_iadd dX0_advance_78 rfl) <|
  Ok.cons (so_istore dX0_advance_79 (by decide) rfl) <|
  Ok.cons (so_aload_n dX0_advance_81 rfl rfl) <|
  Ok.cons (so_gf (C := RX2) (T := TX2) (N := 12) inGX2 rfl (by decide) wq_127 rfl dX0_advance_82 rfl) <|
  Ok.cons (so_iconst dX0_advance_85 (by decide) rfl) <|
  Ok.cons (so_isub dX0_advance_86 rfl) <|
  Ok.cons (so_istore dX0_advance_87 (by decide) rfl) <|
  Ok.cons (so_iload dX0_advance_89 rfl) <|
  Ok.cons (so_iload dX0_advance_91 rfl) <|
  Ok.cons (so_cge dX0_advance_93 (by decide) rfl) <|
  Ok.cons (so_aload_n dX0_advance_96 rfl rfl) <|
  Ok.cons (so_iload dX0_advance_97 rfl) <|
  Ok.cons (so_iload dX0_advance_99 rfl) <|
  Ok.cons (so_vv (ct_X2_exchange l) wq_681 wq_678 wq_679 wq_680 wq_88 (by decide +kernel) (by decide) rfl rfl cmp_layB_sgC_14_11 dX0_advance_101 rfl) <|
  Ok.cons (so_iinc dX0_advance_104 (by decide) (by decide) rfl) <|
  Ok.cons (so_iinc dX0_advance_107 (by decide) (by decide) rfl) <|
  Ok.cons (so_goto dX0_advance_110 (by decide)) <|
  Ok.cons (so_iconst dX0_advance_113 (by decide) rfl) <|
  Ok.cons (so_zr rfl dX0_advance_114) <| Ok.nil
theorem ct_X0_advance (l : Launch) : Ct l yX0_advance cX0_advance 7 (some .boolean) 2 layB f_X0_advance := ofRunL (by decide) rfl (ok_X0_advance l)
noncomputable def t_X0_search : Tbl := [(0, s_al 1 0),
  (1, s_ic 2 (-1)),
  (2, s_pf 5 layB 0 1),
  (5, s_al 6 0),
  (6, s_ic 7 0),
  (7, s_pf 10 layB 0 2),
  (10, s_al 11 1),
  (11, s_cv true 14 1 (sgC 14 11) f_X2_orderByIndex),
  (14, s_ic 15 1),
  (15, s_is 16 3),
  (16, s_ic 17 0),
  (17, s_is 19 4),
  (19, s_il 21 4),
  (21, s_ic 24 720),
  (24, s_cge 27 80),
  (27, s_il 28 3),
  (28, s_zeq 31 80),
  (31, s_al 32 2),
  (32, s_al 33 0),
  (33, s_gf 36 layB 0 1),
  (36, s_ic 37 (-1)),
  (37, s_cne 40 46),
  (40, s_ic 43 480),
  (43, s_go 50),
  (46, s_al 47 0),
  (47, s_gf 50 layB 0 1),
  (50, s_ci true 53 2 (sgC 2 23) f_X5_endWithin),
  (53, s_is 55 5),
  (55, s_il 57 5),
  (57, s_ic 58 (-1)),
  (58, s_ceq 61 68),
  (61, s_al 62 0),
  (62, s_al 63 1),
  (63, s_il 65 5),
  (65, s_cv0 true 68 3 f_X0_take),
  (68, s_al 69 0),
  (69, s_al 70 1),
  (70, s_ci0 true 73 2 f_X0_advance),
  (73, s_is 74 3),
  (74, s_in 77 4 1),
  (77, s_go 19),
  (80, s_vr)]
def cs_X0_search : Cs := [(19, [0, 1, 2, 3, 4]), (50, [0, 1, 2, 4]), (68, [0, 1, 2, 4])]
noncomputable def f_X0_search : List Vv → Mm → Option Ou := lock (sem t_X0_search cs_X0_search 6)
set_option maxRecDepth 20000 in
theorem ok_X0_search (l : Launch) : Ok l RX0 cX0_search 6 5 none layB t_X0_search :=
  Ok.cons (so_aload_n dX0_search_0 rfl rfl) <|
  Ok.cons (so_iconst dX0_search_1 (by decide) rfl) <|
  Ok.cons (so_pf (C := RX0) (T := TX0) (N := 3) inGX0 tyX0_ok nmX0 rfl (by decide) wq_339 rfl rfl rfl dX0_search_2 rfl) <|
  Ok.cons (so_aload_n dX0_search_5 rfl rfl) <|
  Ok.cons (so_iconst dX0_search_6 (by decide) rfl) <|
  Ok.cons (so_pf (C := RX0) (T := TX0) (N := 3) inGX0 tyX0_ok nmX0 rfl (by decide) wq_341 rfl rfl rfl dX0_search_7 rfl) <|
  Ok.cons (so_aload_n dX0_search_10 rfl rfl) <|
  Ok.cons (so_vv (ct_X2_orderByIndex l) wq_658 wq_655 wq_656 wq_657 wq_88 (by decide +kernel) (by decide) rfl rfl cmp_layB_sgC_14_11 dX0_search_11 rfl) <|
  Ok.cons (so_iconst dX0_search_14 (by decide) rfl) <|
  Ok.cons (so_istore_n dX0_search_15 rfl (by decide) rfl) <|
  Ok.cons (so_iconst dX0_search_16 (by decide) rfl) <|
  Ok.cons (so_istore dX0_search_17 (by decide) rfl) <|
  Ok.cons (so_iload dX0_search_19 rfl) <|
  Ok.cons (so_sipush dX0_search_21 (by decide) rfl) <|
  Ok.cons (so_cge dX0_search_24 (by decide) rfl) <|
  Ok.cons (so_iload_n dX0_search_27 rfl rfl) <|
  Ok.cons (so_zeq dX0_search_28 (by decide) rfl) <|
  Ok.cons (so_aload_n dX0_search_31 rfl rfl) <|
  Ok.cons (so_aload_n dX0_search_32 rfl rfl) <|
  Ok.cons (so_gf (C := RX0) (T := TX0) (N := 3) inGX0 rfl (by decide) wq_339 rfl dX0_search_33 rfl) <|
  Ok.cons (so_iconst dX0_search_36 (by decide) rfl) <|
  Ok.cons (so_cne dX0_search_37 (by decide) rfl) <|
  Ok.cons (so_sipush dX0_search_40 (by decide) rfl) <|
  Ok.cons (so_goto dX0_search_43 (by decide)) <|
  Ok.cons (so_aload_n dX0_search_46 rfl rfl) <|
  Ok.cons (so_gf (C := RX0) (T := TX0) (N := 3) inGX0 rfl (by decide) wq_339 rfl dX0_search_47 rfl) <|
  Ok.cons (so_vi (ct_X5_endWithin l) wq_662 wq_659 wq_660 wq_661 wq_93 (by decide +kernel) (by decide) rfl rfl cmp_layB_sgC_2_23 dX0_search_50 rfl) <|
  Ok.cons (so_istore dX0_search_53 (by decide) rfl) <|
  Ok.cons (so_iload dX0_search_55 rfl) <|
  Ok.cons (so_iconst dX0_search_57 (by decide) rfl) <|
  Ok.cons (so_ceq dX0_search_58 (by decide) rfl) <|
  Ok.cons (so_aload_n dX0_search_61 rfl rfl) <|
  Ok.cons (so_aload_n dX0_search_62 rfl rfl) <|
  Ok.cons (so_iload dX0_search_63 rfl) <|
  Ok.cons (so_vv0 (ct_X0_take l) wq_672 wq_669 wq_671 wq_30 wq_94 (by decide +kernel) (by decide) rfl rfl dX0_search_65 rfl) <|
  Ok.cons (so_aload_n dX0_search_68 rfl rfl) <|
  Ok.cons (so_aload_n dX0_search_69 rfl rfl) <|
  Ok.cons (so_vi0 (ct_X0_advance l) wq_677 wq_674 wq_676 wq_31 wq_94 (by decide +kernel) (by decide) rfl rfl dX0_search_70 rfl) <|
  Ok.cons (so_istore_n dX0_search_73 rfl (by decide) rfl) <|
  Ok.cons (so_iinc dX0_search_74 (by decide) (by decide) rfl) <|
  Ok.cons (so_goto dX0_search_77 (by decide)) <|
  Ok.cons (so_vr rfl dX0_search_80) <| Ok.nil
theorem ct_X0_search (l : Launch) : Ct l yX0_search cX0_search 6 none 5 layB f_X0_search := ofRunL (by decide) rfl (ok_X0_search l)
