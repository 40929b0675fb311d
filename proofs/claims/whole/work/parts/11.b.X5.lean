noncomputable def t_X5_isFinished : Tbl := [(0, s_al 1 0),
  (1, s_gf 4 layR 5 6),
  (4, s_il 5 1),
  (5, s_ia 6 layR 0),
  (6, s_zne 9 13),
  (9, s_ic 10 1),
  (10, s_go 14),
  (13, s_ic 14 0),
  (14, s_zr)]
def cs_X5_isFinished : Cs := []
noncomputable def f_X5_isFinished : List Vv → Mm → Option Ou := lock (sem t_X5_isFinished cs_X5_isFinished 2)
set_option maxRecDepth 20000 in
theorem ok_X5_isFinished (l : Launch) : Ok l RX5 cX5_isFinished 2 1 (some .boolean) layR t_X5_isFinished :=
  Ok.cons (so_aload_n dX5_isFinished_0 rfl rfl) <|
  Ok.cons (so_gf (C := RX5) (T := TX5) (N := 13) inGX5 rfl (by decide) wq_277 rfl dX5_isFinished_1 rfl) <|
  Ok.cons (so_iload_n dX5_isFinished_4 rfl rfl) <|
  Ok.cons (so_ia0 dX5_isFinished_5 rfl) <|
  Ok.cons (so_zne dX5_isFinished_6 (by decide) rfl) <|
  Ok.cons (so_iconst dX5_isFinished_9 (by decide) rfl) <|
  Ok.cons (so_goto dX5_isFinished_10 (by decide)) <|
  Ok.cons (so_iconst dX5_isFinished_13 (by decide) rfl) <|
  Ok.cons (so_zr rfl dX5_isFinished_14) <| Ok.nil
theorem ct_X5_isFinished (l : Launch) : Ct l yX5_isFinished cX5_isFinished 2 (some .boolean) 1 layR f_X5_isFinished := ofRunL (by decide) rfl (ok_X5_isFinished l)
noncomputable def t_X5_beginStep : Tbl := [(0, s_il 1 1),
  (1, s_ic 2 5),
  (2, s_b 3 (fun x y => x * y)),
  (3, s_al 4 0),
  (4, s_gf 7 layR 5 3),
  (7, s_il 8 1),
  (8, s_ia 9 layR 0),
  (9, s_b 10 (fun x y => x + y)),
  (10, s_is 11 2),
  (11, s_al 12 0),
  (12, s_gf 15 layR 5 4),
  (15, s_il 16 1),
  (16, s_al 17 0),
  (17, s_gf 20 layR 5 0),
  (20, s_gf 23 layR 2 7),
  (23, s_il 24 2),
  (24, s_ia 25 layR 0),
  (25, s_ix 26 layR 0),
  (26, s_al 27 0),
  (27, s_gf 30 layR 5 5),
  (30, s_il 31 1),
  (31, s_al 32 0),
  (32, s_gf 35 layR 5 0),
  (35, s_gf 38 layR 2 6),
  (38, s_il 39 2),
  (39, s_ia 40 layR 0),
  (40, s_ix 41 layR 0),
  (41, s_vr)]
def cs_X5_beginStep : Cs := []
noncomputable def f_X5_beginStep : List Vv → Mm → Option Ou := lock (sem t_X5_beginStep cs_X5_beginStep 3)
set_option maxRecDepth 20000 in
theorem ok_X5_beginStep (l : Launch) : Ok l RX5 cX5_beginStep 3 1 none layR t_X5_beginStep :=
  Ok.cons (so_iload_n dX5_beginStep_0 rfl rfl) <|
  Ok.cons (so_iconst dX5_beginStep_1 (by decide) rfl) <|
  Ok.cons (so_imul dX5_beginStep_2 rfl) <|
  Ok.cons (so_aload_n dX5_beginStep_3 rfl rfl) <|
  Ok.cons (so_gf (C := RX5) (T := TX5) (N := 13) inGX5 rfl (by decide) wq_273 rfl dX5_beginStep_4 rfl) <|
  Ok.cons (so_iload_n dX5_beginStep_7 rfl rfl) <|
  Ok.cons (so_ia0 dX5_beginStep_8 rfl) <|
  Ok.cons (so_iadd dX5_beginStep_9 rfl) <|
  Ok.cons (so_istore_n dX5_beginStep_10 rfl (by decide) rfl) <|
  Ok.cons (so_aload_n dX5_beginStep_11 rfl rfl) <|
  Ok.cons (so_gf (C := RX5) (T := TX5) (N := 13) inGX5 rfl (by decide) wq_275 rfl dX5_beginStep_12 rfl) <|
  Ok.cons (so_iload_n dX5_beginStep_15 rfl rfl) <|
  Ok.cons (so_aload_n dX5_beginStep_16 rfl rfl) <|
  Ok.cons (so_gf (C := RX5) (T := TX5) (N := 13) inGX5 rfl (by decide) wq_268 rfl dX5_beginStep_17 rfl) <|
  Ok.cons (so_gf (C := RX2) (T := TX2) (N := 12) inGX2 rfl (by decide) wq_148 rfl dX5_beginStep_20 rfl) <|
  Ok.cons (so_iload_n dX5_beginStep_23 rfl rfl) <|
  Ok.cons (so_ia0 dX5_beginStep_24 rfl) <|
  Ok.cons (so_ix dX5_beginStep_25 rfl) <|
  Ok.cons (so_aload_n dX5_beginStep_26 rfl rfl) <|
  Ok.cons (so_gf (C := RX5) (T := TX5) (N := 13) inGX5 rfl (by decide) wq_276 rfl dX5_beginStep_27 rfl) <|
  Ok.cons (so_iload_n dX5_beginStep_30 rfl rfl) <|
  Ok.cons (so_aload_n dX5_beginStep_31 rfl rfl) <|
  Ok.cons (so_gf (C := RX5) (T := TX5) (N := 13) inGX5 rfl (by decide) wq_268 rfl dX5_beginStep_32 rfl) <|
  Ok.cons (so_gf (C := RX2) (T := TX2) (N := 12) inGX2 rfl (by decide) wq_146 rfl dX5_beginStep_35 rfl) <|
  Ok.cons (so_iload_n dX5_beginStep_38 rfl rfl) <|
  Ok.cons (so_ia0 dX5_beginStep_39 rfl) <|
  Ok.cons (so_ix dX5_beginStep_40 rfl) <|
  Ok.cons (so_vr rfl dX5_beginStep_41) <| Ok.nil
theorem ct_X5_beginStep (l : Launch) : Ct l yX5_beginStep cX5_beginStep 3 none 1 layR f_X5_beginStep := ofRunL (by decide) rfl (ok_X5_beginStep l)
noncomputable def t_X5_beginIron : Tbl := [(0, s_al 1 0),
  (1, s_gf 4 layR 5 1),
  (4, s_il 5 1),
  (5, s_ic 7 20),
  (7, s_ix 8 layR 0),
  (8, s_al 9 0),
  (9, s_gf 12 layR 5 2),
  (12, s_il 13 1),
  (13, s_ic 14 0),
  (14, s_ix 15 layR 0),
  (15, s_al 16 0),
  (16, s_gf 19 layR 5 3),
  (19, s_il 20 1),
  (20, s_ic 21 0),
  (21, s_ix 22 layR 0),
  (22, s_al 23 0),
  (23, s_gf 26 layR 5 8),
  (26, s_il 27 1),
  (27, s_ic 28 0),
  (28, s_ix 29 layR 0),
  (29, s_al 30 0),
  (30, s_gf 33 layR 5 9),
  (33, s_il 34 1),
  (34, s_ic 35 0),
  (35, s_ix 36 layR 0),
  (36, s_al 37 0),
  (37, s_gf 40 layR 5 6),
  (40, s_il 41 1),
  (41, s_al 42 0),
  (42, s_gf 45 layR 5 0),
  (45, s_il 46 1),
  (46, s_ci true 49 2 (sgC 12 11) f_X2_minutesOfWork),
  (49, s_ix 50 layR 0),
  (50, s_al 51 0),
  (51, s_il 52 1),
  (52, s_ci0 true 55 2 f_X5_isFinished),
  (55, s_zeq 58 68),
  (58, s_al 59 0),
  (59, s_gf 62 layR 5 7),
  (62, s_il 63 1),
  (63, s_ic 64 0),
  (64, s_ix 65 layR 0),
  (65, s_go 90),
  (68, s_al 69 0),
  (69, s_gf 72 layR 5 7),
  (72, s_il 73 1),
  (73, s_ic 74 (-1)),
  (74, s_ix 75 layR 0),
  (75, s_al 76 0),
  (76, s_dup 77),
  (77, s_gf 80 layR 5 12),
  (80, s_ic 81 1),
  (81, s_b 82 (fun x y => x + y)),
  (82, s_pf 85 layR 5 12),
  (85, s_al 86 0),
  (86, s_il 87 1),
  (87, s_cv0 true 90 2 f_X5_beginStep),
  (90, s_vr)]
def cs_X5_beginIron : Cs := []
noncomputable def f_X5_beginIron : List Vv → Mm → Option Ou := lock (sem t_X5_beginIron cs_X5_beginIron 2)
set_option maxRecDepth 20000 in
theorem ok_X5_beginIron (l : Launch) : Ok l RX5 cX5_beginIron 2 2 none layR t_X5_beginIron :=
  Ok.cons (so_aload_n dX5_beginIron_0 rfl rfl) <|
  Ok.cons (so_gf (C := RX5) (T := TX5) (N := 13) inGX5 rfl (by decide) wq_269 rfl dX5_beginIron_1 rfl) <|
  Ok.cons (so_iload_n dX5_beginIron_4 rfl rfl) <|
  Ok.cons (so_bipush dX5_beginIron_5 (by decide) rfl) <|
  Ok.cons (so_ix dX5_beginIron_7 rfl) <|
  Ok.cons (so_aload_n dX5_beginIron_8 rfl rfl) <|
  Ok.cons (so_gf (C := RX5) (T := TX5) (N := 13) inGX5 rfl (by decide) wq_271 rfl dX5_beginIron_9 rfl) <|
  Ok.cons (so_iload_n dX5_beginIron_12 rfl rfl) <|
  Ok.cons (so_iconst dX5_beginIron_13 (by decide) rfl) <|
  Ok.cons (so_ix dX5_beginIron_14 rfl) <|
  Ok.cons (so_aload_n dX5_beginIron_15 rfl rfl) <|
  Ok.cons (so_gf (C := RX5) (T := TX5) (N := 13) inGX5 rfl (by decide) wq_273 rfl dX5_beginIron_16 rfl) <|
  Ok.cons (so_iload_n dX5_beginIron_19 rfl rfl) <|
  Ok.cons (so_iconst dX5_beginIron_20 (by decide) rfl) <|
  Ok.cons (so_ix dX5_beginIron_21 rfl) <|
  Ok.cons (so_aload_n dX5_beginIron_22 rfl rfl) <|
  Ok.cons (so_gf (C := RX5) (T := TX5) (N := 13) inGX5 rfl (by decide) wq_280 rfl dX5_beginIron_23 rfl) <|
  Ok.cons (so_iload_n dX5_beginIron_26 rfl rfl) <|
  Ok.cons (so_iconst dX5_beginIron_27 (by decide) rfl) <|
  Ok.cons (so_ix dX5_beginIron_28 rfl) <|
  Ok.cons (so_aload_n dX5_beginIron_29 rfl rfl) <|
  Ok.cons (so_gf (C := RX5) (T := TX5) (N := 13) inGX5 rfl (by decide) wq_282 rfl dX5_beginIron_30 rfl) <|
  Ok.cons (so_iload_n dX5_beginIron_33 rfl rfl) <|
  Ok.cons (so_iconst dX5_beginIron_34 (by decide) rfl) <|
  Ok.cons (so_ix dX5_beginIron_35 rfl) <|
  Ok.cons (so_aload_n dX5_beginIron_36 rfl rfl) <|
  Ok.cons (so_gf (C := RX5) (T := TX5) (N := 13) inGX5 rfl (by decide) wq_277 rfl dX5_beginIron_37 rfl) <|
  Ok.cons (so_iload_n dX5_beginIron_40 rfl rfl) <|
  Ok.cons (so_aload_n dX5_beginIron_41 rfl rfl) <|
  Ok.cons (so_gf (C := RX5) (T := TX5) (N := 13) inGX5 rfl (by decide) wq_268 rfl dX5_beginIron_42 rfl) <|
  Ok.cons (so_iload_n dX5_beginIron_45 rfl rfl) <|
  Ok.cons (so_vi (ct_X2_minutesOfWork l) wq_557 wq_554 wq_555 wq_556 wq_88 (by decide +kernel) (by decide) rfl rfl cmp_layR_sgC_12_11 dX5_beginIron_46 rfl) <|
  Ok.cons (so_ix dX5_beginIron_49 rfl) <|
  Ok.cons (so_aload_n dX5_beginIron_50 rfl rfl) <|
  Ok.cons (so_iload_n dX5_beginIron_51 rfl rfl) <|
  Ok.cons (so_vi0 (ct_X5_isFinished l) wq_561 wq_558 wq_560 wq_16 wq_93 (by decide +kernel) (by decide) rfl rfl dX5_beginIron_52 rfl) <|
  Ok.cons (so_zeq dX5_beginIron_55 (by decide) rfl) <|
  Ok.cons (so_aload_n dX5_beginIron_58 rfl rfl) <|
  Ok.cons (so_gf (C := RX5) (T := TX5) (N := 13) inGX5 rfl (by decide) wq_278 rfl dX5_beginIron_59 rfl) <|
  Ok.cons (so_iload_n dX5_beginIron_62 rfl rfl) <|
  Ok.cons (so_iconst dX5_beginIron_63 (by decide) rfl) <|
  Ok.cons (so_ix dX5_beginIron_64 rfl) <|
  Ok.cons (so_goto dX5_beginIron_65 (by decide)) <|
  Ok.cons (so_aload_n dX5_beginIron_68 rfl rfl) <|
  Ok.cons (so_gf (C := RX5) (T := TX5) (N := 13) inGX5 rfl (by decide) wq_278 rfl dX5_beginIron_69 rfl) <|
  Ok.cons (so_iload_n dX5_beginIron_72 rfl rfl) <|
  Ok.cons (so_iconst dX5_beginIron_73 (by decide) rfl) <|
  Ok.cons (so_ix dX5_beginIron_74 rfl) <|
  Ok.cons (so_aload_n dX5_beginIron_75 rfl rfl) <|
  Ok.cons (so_dup dX5_beginIron_76 rfl) <|
  Ok.cons (so_gf (C := RX5) (T := TX5) (N := 13) inGX5 rfl (by decide) wq_286 rfl dX5_beginIron_77 rfl) <|
  Ok.cons (so_iconst dX5_beginIron_80 (by decide) rfl) <|
  Ok.cons (so_iadd dX5_beginIron_81 rfl) <|
  Ok.cons (so_pf (C := RX5) (T := TX5) (N := 13) inGX5 tyX5_ok nmX5 rfl (by decide) wq_286 rfl rfl rfl dX5_beginIron_82 rfl) <|
  Ok.cons (so_aload_n dX5_beginIron_85 rfl rfl) <|
  Ok.cons (so_iload_n dX5_beginIron_86 rfl rfl) <|
  Ok.cons (so_vv0 (ct_X5_beginStep l) wq_565 wq_562 wq_564 wq_17 wq_93 (by decide +kernel) (by decide) rfl rfl dX5_beginIron_87 rfl) <|
  Ok.cons (so_vr rfl dX5_beginIron_90) <| Ok.nil
theorem ct_X5_beginIron (l : Launch) : Ct l yX5_beginIron cX5_beginIron 2 none 2 layR f_X5_beginIron := ofRunL (by decide) rfl (ok_X5_beginIron l)
noncomputable def t_X5_begin : Tbl := [(0, s_al 1 0),
  (1, s_ic 2 0),
  (2, s_pf 5 layR 5 12),
  (5, s_ic 6 0),
  (6, s_is 7 1),
  (7, s_il 8 1),
  (8, s_ic 9 3),
  (9, s_cge 12 25),
  (12, s_al 13 0),
  (13, s_gf 16 layR 5 10),
  (16, s_il 17 1),
  (17, s_ic 18 (-1)),
  (18, s_ix 19 layR 0),
  (19, s_in 22 1 1),
  (22, s_go 7),
  (25, s_ic 26 0),
  (26, s_is 27 1),
  (27, s_il 28 1),
  (28, s_ic 29 3),
  (29, s_cge 32 45),
  (32, s_al 33 0),
  (33, s_gf 36 layR 5 11),
  (36, s_il 37 1),
  (37, s_ic 38 (-1)),
  (38, s_ix 39 layR 0),
  (39, s_in 42 1 1),
  (42, s_go 27),
  (45, s_ic 46 0),
  (46, s_is 47 1),
  (47, s_il 48 1),
  (48, s_al 49 0),
  (49, s_gf 52 layR 5 0),
  (52, s_gf 55 layR 2 0),
  (55, s_cge 58 69),
  (58, s_al 59 0),
  (59, s_il 60 1),
  (60, s_cv0 true 63 2 f_X5_beginIron),
  (63, s_in 66 1 1),
  (66, s_go 47),
  (69, s_vr)]
def cs_X5_begin : Cs := [(7, [0, 1]), (27, [0, 1]), (47, [0, 1])]
noncomputable def f_X5_begin : List Vv → Mm → Option Ou := lock (sem t_X5_begin cs_X5_begin 2)
set_option maxRecDepth 20000 in
theorem ok_X5_begin (l : Launch) : Ok l RX5 cX5_begin 2 3 none layR t_X5_begin :=
  Ok.cons (so_aload_n dX5_begin_0 rfl rfl) <|
  Ok.cons (so_iconst dX5_begin_1 (by decide) rfl) <|
  Ok.cons (so_pf (C := RX5) (T := TX5) (N := 13) inGX5 tyX5_ok nmX5 rfl (by decide) wq_286 rfl rfl rfl dX5_begin_2 rfl) <|
  Ok.cons (so_iconst dX5_begin_5 (by decide) rfl) <|
  Ok.cons (so_istore_n dX5_begin_6 rfl (by decide) rfl) <|
  Ok.cons (so_iload_n dX5_begin_7 rfl rfl) <|
  Ok.cons (so_iconst dX5_begin_8 (by decide) rfl) <|
  Ok.cons (so_cge dX5_begin_9 (by decide) rfl) <|
  Ok.cons (so_aload_n dX5_begin_12 rfl rfl) <|
  Ok.cons (so_gf (C := RX5) (T := TX5) (N := 13) inGX5 rfl (by decide) wq_284 rfl dX5_begin_13 rfl) <|
  Ok.cons (so_iload_n dX5_begin_16 rfl rfl) <|
  Ok.cons (so_iconst dX5_begin_17 (by decide) rfl) <|
  Ok.cons (so_ix dX5_begin_18 rfl) <|
  Ok.cons (so_iinc dX5_begin_19 (by decide) (by decide) rfl) <|
  Ok.cons (so_goto dX5_begin_22 (by decide)) <|
  Ok.cons (so_iconst dX5_begin_25 (by decide) rfl) <|
  Ok.cons (so_istore_n dX5_begin_26 rfl (by decide) rfl) <|
  Ok.cons (so_iload_n dX5_begin_27 rfl rfl) <|
  Ok.cons (so_iconst dX5_begin_28 (by decide) rfl) <|
  Ok.cons (so_cge dX5_begin_29 (by decide) rfl) <|
  Ok.cons (so_aload_n dX5_begin_32 rfl rfl) <|
  Ok.cons (so_gf (C := RX5) (T := TX5) (N := 13) inGX5 rfl (by decide) wq_285 rfl dX5_begin_33 rfl) <|
  Ok.cons (so_iload_n dX5_begin_36 rfl rfl) <|
  Ok.cons (so_iconst dX5_begin_37 (by decide) rfl) <|
  Ok.cons (so_ix dX5_begin_38 rfl) <|
  Ok.cons (so_iinc dX5_begin_39 (by decide) (by decide) rfl) <|
  Ok.cons (so_goto dX5_begin_42 (by decide)) <|
  Ok.cons (so_iconst dX5_begin_45 (by decide) rfl) <|
  Ok.cons (so_istore_n dX5_begin_46 rfl (by decide) rfl) <|
  Ok.cons (so_iload_n dX5_begin_47 rfl rfl) <|
  Ok.cons (so_aload_n dX5_begin_48 rfl rfl) <|
  Ok.cons (so_gf (C := RX5) (T := TX5) (N := 13) inGX5 rfl (by decide) wq_268 rfl dX5_begin_49 rfl) <|
  Ok.cons (so_gf (C := RX2) (T := TX2) (N := 12) inGX2 rfl (by decide) wq_126 rfl dX5_begin_52 rfl) <|
  Ok.cons (so_cge dX5_begin_55 (by decide) rfl) <|
  Ok.cons (so_aload_n dX5_begin_58 rfl rfl) <|
  Ok.cons (so_iload_n dX5_begin_59 rfl rfl) <|
  Ok.cons (so_vv0 (ct_X5_beginIron l) wq_553 wq_550 wq_552 wq_15 wq_93 (by decide +kernel) (by decide) rfl rfl dX5_begin_60 rfl) <|
  Ok.cons (so_iinc dX5_begin_63 (by decide) (by decide) rfl) <|
  Ok.cons (so_goto dX5_begin_66 (by decide)) <|
  Ok.cons (so_vr rfl dX5_begin_69) <| Ok.nil
theorem ct_X5_begin (l : Launch) : Ct l yX5_begin cX5_begin 2 none 3 layR f_X5_begin := ofRunL (by decide) rfl (ok_X5_begin l)
noncomputable def t_X5_putOnRack : Tbl := [(0, s_al 1 0),
  (1, s_gf 4 layR 5 10),
  (4, s_il 5 2),
  (5, s_ic 6 (-1)),
  (6, s_ix 7 layR 0),
  (7, s_al 8 0),
  (8, s_gf 11 layR 5 2),
  (11, s_il 12 1),
  (12, s_ic 13 0),
  (13, s_ix 14 layR 0),
  (14, s_vr)]
def cs_X5_putOnRack : Cs := []
noncomputable def f_X5_putOnRack : List Vv → Mm → Option Ou := lock (sem t_X5_putOnRack cs_X5_putOnRack 3)
set_option maxRecDepth 20000 in
theorem ok_X5_putOnRack (l : Launch) : Ok l RX5 cX5_putOnRack 3 1 none layR t_X5_putOnRack :=
  Ok.cons (so_aload_n dX5_putOnRack_0 rfl rfl) <|
  Ok.cons (so_gf (C := RX5) (T := TX5) (N := 13) inGX5 rfl (by decide) wq_284 rfl dX5_putOnRack_1 rfl) <|
  Ok.cons (so_iload_n dX5_putOnRack_4 rfl rfl) <|
  Ok.cons (so_iconst dX5_putOnRack_5 (by decide) rfl) <|
  Ok.cons (so_ix dX5_putOnRack_6 rfl) <|
  Ok.cons (so_aload_n dX5_putOnRack_7 rfl rfl) <|
  Ok.cons (so_gf (C := RX5) (T := TX5) (N := 13) inGX5 rfl (by decide) wq_271 rfl dX5_putOnRack_8 rfl) <|
  Ok.cons (so_iload_n dX5_putOnRack_11 rfl rfl) <|
  Ok.cons (so_iconst dX5_putOnRack_12 (by decide) rfl) <|
  Ok.cons (so_ix dX5_putOnRack_13 rfl) <|
  Ok.cons (so_vr rfl dX5_putOnRack_14) <| Ok.nil
theorem ct_X5_putOnRack (l : Launch) : Ct l yX5_putOnRack cX5_putOnRack 3 none 1 layR f_X5_putOnRack := ofRunL (by decide) rfl (ok_X5_putOnRack l)
noncomputable def t_X5_clearAnvils : Tbl := [(0, s_ic 1 0),
  (1, s_is 2 1),
  (2, s_il 3 1),
  (3, s_al 4 0),
  (4, s_gf 7 layR 5 0),
  (7, s_gf 10 layR 2 10),
  (10, s_ic 11 0),
  (11, s_ia 12 layR 0),
  (12, s_cge 15 84),
  (15, s_al 16 0),
  (16, s_gf 19 layR 5 10),
  (19, s_il 20 1),
  (20, s_ia 21 layR 0),
  (21, s_is 22 2),
  (22, s_il 23 2),
  (23, s_ic 24 (-1)),
  (24, s_cne 27 30),
  (27, s_go 78),
  (30, s_al 31 0),
  (31, s_il 32 2),
  (32, s_ci0 true 35 2 f_X5_isFinished),
  (35, s_zeq 38 47),
  (38, s_al 39 0),
  (39, s_il 40 2),
  (40, s_il 41 1),
  (41, s_cv0 true 44 3 f_X5_putOnRack),
  (44, s_go 78),
  (47, s_al 48 0),
  (48, s_gf 51 layR 5 1),
  (51, s_il 52 2),
  (52, s_ia 53 layR 0),
  (53, s_al 54 0),
  (54, s_gf 57 layR 5 5),
  (57, s_il 58 2),
  (58, s_ia 59 layR 0),
  (59, s_cge 62 78),
  (62, s_al 63 0),
  (63, s_il 64 2),
  (64, s_il 65 1),
  (65, s_cv0 true 68 3 f_X5_putOnRack),
  (68, s_al 69 0),
  (69, s_gf 72 layR 5 8),
  (72, s_il 73 2),
  (73, s_dup2 74),
  (74, s_ia 75 layR 0),
  (75, s_ic 76 1),
  (76, s_b 77 (fun x y => x + y)),
  (77, s_ix 78 layR 0),
  (78, s_in 81 1 1),
  (81, s_go 2),
  (84, s_vr)]
def cs_X5_clearAnvils : Cs := [(2, [0, 1])]
noncomputable def f_X5_clearAnvils : List Vv → Mm → Option Ou := lock (sem t_X5_clearAnvils cs_X5_clearAnvils 3)
set_option maxRecDepth 20000 in
theorem ok_X5_clearAnvils (l : Launch) : Ok l RX5 cX5_clearAnvils 3 2 none layR t_X5_clearAnvils :=
  Ok.cons (so_iconst dX5_clearAnvils_0 (by decide) rfl) <|
  Ok.cons (so_istore_n dX5_clearAnvils_1 rfl (by decide) rfl) <|
  Ok.cons (so_iload_n dX5_clearAnvils_2 rfl rfl) <|
  Ok.cons (so_aload_n dX5_clearAnvils_3 rfl rfl) <|
  Ok.cons (so_gf (C := RX5) (T := TX5) (N := 13) inGX5 rfl (by decide) wq_268 rfl dX5_clearAnvils_4 rfl) <|
  Ok.cons (so_gf (C := RX2) (T := TX2) (N := 12) inGX2 rfl (by decide) wq_156 rfl dX5_clearAnvils_7 rfl) <|
  Ok.cons (so_iconst dX5_clearAnvils_10 (by decide) rfl) <|
  Ok.cons (so_ia0 dX5_clearAnvils_11 rfl) <|
  Ok.cons (so_cge dX5_clearAnvils_12 (by decide) rfl) <|
  Ok.cons (so_aload_n dX5_clearAnvils_15 rfl rfl) <|
  Ok.cons (so_gf (C := RX5) (T := TX5) (N := 13) inGX5 rfl (by decide) wq_284 rfl dX5_clearAnvils_16 rfl) <|
  Ok.cons (so_iload_n dX5_clearAnvils_19 rfl rfl) <|
  Ok.cons (so_ia0 dX5_clearAnvils_20 rfl) <|
  Ok.cons (so_istore_n dX5_clearAnvils_21 rfl (by decide) rfl) <|
  Ok.cons (so_iload_n dX5_clearAnvils_22 rfl rfl) <|
  Ok.cons (so_iconst dX5_clearAnvils_23 (by decide) rfl) <|
  Ok.cons (so_cne dX5_clearAnvils_24 (by decide) rfl) <|
  Ok.cons (so_goto dX5_clearAnvils_27 (by decide)) <|
  Ok.cons (so_aload_n dX5_clearAnvils_30 rfl rfl) <|
  Ok.cons (so_iload_n dX5_clearAnvils_31 rfl rfl) <|
  Ok.cons (so_vi0 (ct_X5_isFinished l) wq_561 wq_558 wq_560 wq_16 wq_93 (by decide +kernel) (by decide) rfl rfl dX5_clearAnvils_32 rfl) <|
  Ok.cons (so_zeq dX5_clearAnvils_35 (by decide) rfl) <|
  Ok.cons (so_aload_n dX5_clearAnvils_38 rfl rfl) <|
  Ok.cons (so_iload_n dX5_clearAnvils_39 rfl rfl) <|
  Ok.cons (so_iload_n dX5_clearAnvils_40 rfl rfl) <|
  Ok.cons (so_vv0 (ct_X5_putOnRack l) wq_577 wq_574 wq_576 wq_19 wq_93 (by decide +kernel) (by decide) rfl rfl dX5_clearAnvils_41 rfl) <|
  Ok.cons (so_goto dX5_clearAnvils_44 (by decide)) <|
  Ok.cons (so_aload_n dX5_clearAnvils_47 rfl rfl) <|
  Ok.cons (so_gf (C := RX5) (T := TX5) (N := 13) inGX5 rfl (by decide) wq_269 rfl dX5_clearAnvils_48 rfl) <|
  Ok.cons (so_iload_n dX5_clearAnvils_51 rfl rfl) <|
  Ok.cons (so_ia0 dX5_clearAnvils_52 rfl) <|
  Ok.cons (so_aload_n dX5_clearAnvils_53 rfl rfl) <|
  Ok.cons (so_gf (C := RX5) (T := TX5) (N := 13) inGX5 rfl (by decide) wq_276 rfl dX5_clearAnvils_54 rfl) <|
  Ok.cons (so_iload_n dX5_clearAnvils_57 rfl rfl) <|
  Ok.cons (so_ia0 dX5_clearAnvils_58 rfl) <|
  Ok.cons (so_cge dX5_clearAnvils_59 (by decide) rfl) <|
  Ok.cons (so_aload_n dX5_clearAnvils_62 rfl rfl) <|
  Ok.cons (so_iload_n dX5_clearAnvils_63 rfl rfl) <|
  Ok.cons (so_iload_n dX5_clearAnvils_64 rfl rfl) <|
  Ok.cons (so_vv0 (ct_X5_putOnRack l) wq_577 wq_574 wq_576 wq_19 wq_93 (by decide +kernel) (by decide) rfl rfl dX5_clearAnvils_65 rfl) <|
  Ok.cons (so_aload_n dX5_clearAnvils_68 rfl rfl) <|
  Ok.cons (so_gf (C := RX5) (T := TX5) (N := 13) inGX5 rfl (by decide) wq_280 rfl dX5_clearAnvils_69 rfl) <|
  Ok.cons (so_iload_n dX5_clearAnvils_72 rfl rfl) <|
  Ok.cons (so_dup2 dX5_clearAnvils_73 rfl) <|
  Ok.cons (so_ia0 dX5_clearAnvils_74 rfl) <|
  Ok.cons (so_iconst dX5_clearAnvils_75 (by decide) rfl) <|
  Ok.cons (so_iadd dX5_clearAnvils_76 rfl) <|
  Ok.cons (so_ix dX5_clearAnvils_77 rfl) <|
  Ok.cons (so_iinc dX5_clearAnvils_78 (by decide) (by decide) rfl) <|
  Ok.cons (so_goto dX5_clearAnvils_81 (by decide)) <|
  Ok.cons (so_vr rfl dX5_clearAnvils_84) <| Ok.nil
theorem ct_X5_clearAnvils (l : Launch) : Ct l yX5_clearAnvils cX5_clearAnvils 3 none 2 layR f_X5_clearAnvils := ofRunL (by decide) rfl (ok_X5_clearAnvils l)
noncomputable def t_X5_isReady : Tbl := [(0, s_al 1 0),
  (1, s_gf 4 layR 5 6),
  (4, s_il 5 1),
  (5, s_ia 6 layR 0),
  (6, s_zle 9 49),
  (9, s_al 10 0),
  (10, s_gf 13 layR 5 2),
  (13, s_il 14 1),
  (14, s_ia 15 layR 0),
  (15, s_ic 17 10),
  (17, s_cge 20 49),
  (20, s_al 21 0),
  (21, s_gf 24 layR 5 1),
  (24, s_il 25 1),
  (25, s_ia 26 layR 0),
  (26, s_al 27 0),
  (27, s_gf 30 layR 5 5),
  (30, s_il 31 1),
  (31, s_ia 32 layR 0),
  (32, s_al 33 0),
  (33, s_gf 36 layR 5 0),
  (36, s_gf 39 layR 2 10),
  (39, s_ic 40 1),
  (40, s_ia 41 layR 0),
  (41, s_b 42 (fun x y => x + y)),
  (42, s_clt 45 49),
  (45, s_ic 46 1),
  (46, s_go 50),
  (49, s_ic 50 0),
  (50, s_zr)]
def cs_X5_isReady : Cs := []
noncomputable def f_X5_isReady : List Vv → Mm → Option Ou := lock (sem t_X5_isReady cs_X5_isReady 2)
set_option maxRecDepth 20000 in
theorem ok_X5_isReady (l : Launch) : Ok l RX5 cX5_isReady 2 1 (some .boolean) layR t_X5_isReady :=
  Ok.cons (so_aload_n dX5_isReady_0 rfl rfl) <|
  Ok.cons (so_gf (C := RX5) (T := TX5) (N := 13) inGX5 rfl (by decide) wq_277 rfl dX5_isReady_1 rfl) <|
  Ok.cons (so_iload_n dX5_isReady_4 rfl rfl) <|
  Ok.cons (so_ia0 dX5_isReady_5 rfl) <|
  Ok.cons (so_zle dX5_isReady_6 (by decide) rfl) <|
  Ok.cons (so_aload_n dX5_isReady_9 rfl rfl) <|
  Ok.cons (so_gf (C := RX5) (T := TX5) (N := 13) inGX5 rfl (by decide) wq_271 rfl dX5_isReady_10 rfl) <|
  Ok.cons (so_iload_n dX5_isReady_13 rfl rfl) <|
  Ok.cons (so_ia0 dX5_isReady_14 rfl) <|
  Ok.cons (so_bipush dX5_isReady_15 (by decide) rfl) <|
  Ok.cons (so_cge dX5_isReady_17 (by decide) rfl) <|
  Ok.cons (so_aload_n dX5_isReady_20 rfl rfl) <|
  Ok.cons (so_gf (C := RX5) (T := TX5) (N := 13) inGX5 rfl (by decide) wq_269 rfl dX5_isReady_21 rfl) <|
  Ok.cons (so_iload_n dX5_isReady_24 rfl rfl) <|
  Ok.cons (so_ia0 dX5_isReady_25 rfl) <|
  Ok.cons (so_aload_n dX5_isReady_26 rfl rfl) <|
  Ok.cons (so_gf (C := RX5) (T := TX5) (N := 13) inGX5 rfl (by decide) wq_276 rfl dX5_isReady_27 rfl) <|
  Ok.cons (so_iload_n dX5_isReady_30 rfl rfl) <|
  Ok.cons (so_ia0 dX5_isReady_31 rfl) <|
  Ok.cons (so_aload_n dX5_isReady_32 rfl rfl) <|
  Ok.cons (so_gf (C := RX5) (T := TX5) (N := 13) inGX5 rfl (by decide) wq_268 rfl dX5_isReady_33 rfl) <|
  Ok.cons (so_gf (C := RX2) (T := TX2) (N := 12) inGX2 rfl (by decide) wq_156 rfl dX5_isReady_36 rfl) <|
  Ok.cons (so_iconst dX5_isReady_39 (by decide) rfl) <|
  Ok.cons (so_ia0 dX5_isReady_40 rfl) <|
  Ok.cons (so_iadd dX5_isReady_41 rfl) <|
  Ok.cons (so_clt dX5_isReady_42 (by decide) rfl) <|
  Ok.cons (so_iconst dX5_isReady_45 (by decide) rfl) <|
  Ok.cons (so_goto dX5_isReady_46 (by decide)) <|
  Ok.cons (so_iconst dX5_isReady_49 (by decide) rfl) <|
  Ok.cons (so_zr rfl dX5_isReady_50) <| Ok.nil
theorem ct_X5_isReady (l : Launch) : Ct l yX5_isReady cX5_isReady 2 (some .boolean) 1 layR f_X5_isReady := ofRunL (by decide) rfl (ok_X5_isReady l)
noncomputable def t_X5_goesBefore : Tbl := [(0, s_al 1 0),
  (1, s_gf 4 layR 5 0),
  (4, s_gf 7 layR 2 10),
  (7, s_ic 8 2),
  (8, s_ia 9 layR 0),
  (9, s_sw [(1, 36), (2, 57)] 78),
  (36, s_al 37 0),
  (37, s_gf 40 layR 5 1),
  (40, s_il 41 1),
  (41, s_ia 42 layR 0),
  (42, s_al 43 0),
  (43, s_gf 46 layR 5 1),
  (46, s_il 47 2),
  (47, s_ia 48 layR 0),
  (48, s_cle 51 55),
  (51, s_ic 52 1),
  (52, s_go 56),
  (55, s_ic 56 0),
  (56, s_zr),
  (57, s_al 58 0),
  (58, s_gf 61 layR 5 6),
  (61, s_il 62 1),
  (62, s_ia 63 layR 0),
  (63, s_al 64 0),
  (64, s_gf 67 layR 5 6),
  (67, s_il 68 2),
  (68, s_ia 69 layR 0),
  (69, s_cge 72 76),
  (72, s_ic 73 1),
  (73, s_go 77),
  (76, s_ic 77 0),
  (77, s_zr),
  (78, s_ic 79 0),
  (79, s_zr)]
def cs_X5_goesBefore : Cs := []
noncomputable def f_X5_goesBefore : List Vv → Mm → Option Ou := lock (sem t_X5_goesBefore cs_X5_goesBefore 3)
set_option maxRecDepth 20000 in
theorem ok_X5_goesBefore (l : Launch) : Ok l RX5 cX5_goesBefore 3 1 (some .boolean) layR t_X5_goesBefore :=
  Ok.cons (so_aload_n dX5_goesBefore_0 rfl rfl) <|
  Ok.cons (so_gf (C := RX5) (T := TX5) (N := 13) inGX5 rfl (by decide) wq_268 rfl dX5_goesBefore_1 rfl) <|
  Ok.cons (so_gf (C := RX2) (T := TX2) (N := 12) inGX2 rfl (by decide) wq_156 rfl dX5_goesBefore_4 rfl) <|
  Ok.cons (so_iconst dX5_goesBefore_7 (by decide) rfl) <|
  Ok.cons (so_ia0 dX5_goesBefore_8 rfl) <|
  Ok.cons (so_sw dX5_goesBefore_9 (by decide +kernel) (by decide +kernel) (by decide)) <|
  Ok.cons (so_aload_n dX5_goesBefore_36 rfl rfl) <|
  Ok.cons (so_gf (C := RX5) (T := TX5) (N := 13) inGX5 rfl (by decide) wq_269 rfl dX5_goesBefore_37 rfl) <|
  Ok.cons (so_iload_n dX5_goesBefore_40 rfl rfl) <|
  Ok.cons (so_ia0 dX5_goesBefore_41 rfl) <|
  Ok.cons (so_aload_n dX5_goesBefore_42 rfl rfl) <|
  Ok.cons (so_gf (C := RX5) (T := TX5) (N := 13) inGX5 rfl (by decide) wq_269 rfl dX5_goesBefore_43 rfl) <|
  Ok.cons (so_iload_n dX5_goesBefore_46 rfl rfl) <|
  Ok.cons (so_ia0 dX5_goesBefore_47 rfl) <|
  Ok.cons (so_cle dX5_goesBefore_48 (by decide) rfl) <|
  Ok.cons (so_iconst dX5_goesBefore_51 (by decide) rfl) <|
  Ok.cons (so_goto dX5_goesBefore_52 (by decide)) <|
  Ok.cons (so_iconst dX5_goesBefore_55 (by decide) rfl) <|
  Ok.cons (so_zr rfl dX5_goesBefore_56) <|
  Ok.cons (so_aload_n dX5_goesBefore_57 rfl rfl) <|
  Ok.cons (so_gf (C := RX5) (T := TX5) (N := 13) inGX5 rfl (by decide) wq_277 rfl dX5_goesBefore_58 rfl) <|
  Ok.cons (so_iload_n dX5_goesBefore_61 rfl rfl) <|
  Ok.cons (so_ia0 dX5_goesBefore_62 rfl) <|
  Ok.cons (so_aload_n dX5_goesBefore_63 rfl rfl) <|
  Ok.cons (so_gf (C := RX5) (T := TX5) (N := 13) inGX5 rfl (by decide) wq_277 rfl dX5_goesBefore_64 rfl) <|
  Ok.cons (so_iload_n dX5_goesBefore_67 rfl rfl) <|
  Ok.cons (so_ia0 dX5_goesBefore_68 rfl) <|
  Ok.cons (so_cge dX5_goesBefore_69 (by decide) rfl) <|
  Ok.cons (so_iconst dX5_goesBefore_72 (by decide) rfl) <|
  Ok.cons (so_goto dX5_goesBefore_73 (by decide)) <|
  Ok.cons (so_iconst dX5_goesBefore_76 (by decide) rfl) <|
  Ok.cons (so_zr rfl dX5_goesBefore_77) <|
  Ok.cons (so_iconst dX5_goesBefore_78 (by decide) rfl) <|
  Ok.cons (so_zr rfl dX5_goesBefore_79) <| Ok.nil
theorem ct_X5_goesBefore (l : Launch) : Ct l yX5_goesBefore cX5_goesBefore 3 (some .boolean) 1 layR f_X5_goesBefore := ofRunL (by decide) rfl (ok_X5_goesBefore l)
noncomputable def t_X5_chooseReady : Tbl := [(0, s_ic 1 (-1)),
  (1, s_is 2 1),
  (2, s_ic 3 0),
  (3, s_is 4 2),
  (4, s_il 5 2),
  (5, s_al 6 0),
  (6, s_gf 9 layR 5 0),
  (9, s_gf 12 layR 2 0),
  (12, s_cge 15 55),
  (15, s_al 16 0),
  (16, s_gf 19 layR 5 0),
  (19, s_gf 22 layR 2 11),
  (22, s_il 23 2),
  (23, s_ia 24 layR 0),
  (24, s_is 25 3),
  (25, s_al 26 0),
  (26, s_il 27 3),
  (27, s_ci0 true 30 2 f_X5_isReady),
  (30, s_zeq 33 49),
  (33, s_il 34 1),
  (34, s_ic 35 (-1)),
  (35, s_ceq 38 47),
  (38, s_al 39 0),
  (39, s_il 40 3),
  (40, s_il 41 1),
  (41, s_ci0 true 44 3 f_X5_goesBefore),
  (44, s_zeq 47 49),
  (47, s_il 48 3),
  (48, s_is 49 1),
  (49, s_in 52 2 1),
  (52, s_go 4),
  (55, s_il 56 1),
  (56, s_ir)]
def cs_X5_chooseReady : Cs := [(4, [0, 1, 2])]
noncomputable def f_X5_chooseReady : List Vv → Mm → Option Ou := lock (sem t_X5_chooseReady cs_X5_chooseReady 4)
set_option maxRecDepth 20000 in
theorem ok_X5_chooseReady (l : Launch) : Ok l RX5 cX5_chooseReady 4 2 (some .int) layR t_X5_chooseReady :=
  Ok.cons (so_iconst dX5_chooseReady_0 (by decide) rfl) <|
  Ok.cons (so_istore_n dX5_chooseReady_1 rfl (by decide) rfl) <|
  Ok.cons (so_iconst dX5_chooseReady_2 (by decide) rfl) <|
  Ok.cons (so_istore_n dX5_chooseReady_3 rfl (by decide) rfl) <|
  Ok.cons (so_iload_n dX5_chooseReady_4 rfl rfl) <|
  Ok.cons (so_aload_n dX5_chooseReady_5 rfl rfl) <|
  Ok.cons (so_gf (C := RX5) (T := TX5) (N := 13) inGX5 rfl (by decide) wq_268 rfl dX5_chooseReady_6 rfl) <|
  Ok.cons (so_gf (C := RX2) (T := TX2) (N := 12) inGX2 rfl (by decide) wq_126 rfl dX5_chooseReady_9 rfl) <|
  Ok.cons (so_cge dX5_chooseReady_12 (by decide) rfl) <|
  Ok.cons (so_aload_n dX5_chooseReady_15 rfl rfl) <|
  Ok.cons (so_gf (C := RX5) (T := TX5) (N := 13) inGX5 rfl (by decide) wq_268 rfl dX5_chooseReady_16 rfl) <|
  Ok.cons (so_gf (C := RX2) (T := TX2) (N := 12) inGX2 rfl (by decide) wq_162 rfl dX5_chooseReady_19 rfl) <|
  Ok.cons (so_iload_n dX5_chooseReady_22 rfl rfl) <|
  Ok.cons (so_ia0 dX5_chooseReady_23 rfl) <|
  Ok.cons (so_istore_n dX5_chooseReady_24 rfl (by decide) rfl) <|
  Ok.cons (so_aload_n dX5_chooseReady_25 rfl rfl) <|
  Ok.cons (so_iload_n dX5_chooseReady_26 rfl rfl) <|
  Ok.cons (so_vi0 (ct_X5_isReady l) wq_589 wq_586 wq_588 wq_21 wq_93 (by decide +kernel) (by decide) rfl rfl dX5_chooseReady_27 rfl) <|
  Ok.cons (so_zeq dX5_chooseReady_30 (by decide) rfl) <|
  Ok.cons (so_iload_n dX5_chooseReady_33 rfl rfl) <|
  Ok.cons (so_iconst dX5_chooseReady_34 (by decide) rfl) <|
  Ok.cons (so_ceq dX5_chooseReady_35 (by decide) rfl) <|
  Ok.cons (so_aload_n dX5_chooseReady_38 rfl rfl) <|
  Ok.cons (so_iload_n dX5_chooseReady_39 rfl rfl) <|
  Ok.cons (so_iload_n dX5_chooseReady_40 rfl rfl) <|
  Ok.cons (so_vi0 (ct_X5_goesBefore l) wq_593 wq_590 wq_592 wq_22 wq_93 (by decide +kernel) (by decide) rfl rfl dX5_chooseReady_41 rfl) <|
  Ok.cons (so_zeq dX5_chooseReady_44 (by decide) rfl) <|
  Ok.cons (so_iload_n dX5_chooseReady_47 rfl rfl) <|
  Ok.cons (so_istore_n dX5_chooseReady_48 rfl (by decide) rfl) <|
  Ok.cons (so_iinc dX5_chooseReady_49 (by decide) (by decide) rfl) <|
  Ok.cons (so_goto dX5_chooseReady_52 (by decide)) <|
  Ok.cons (so_iload_n dX5_chooseReady_55 rfl rfl) <|
  Ok.cons (so_ir rfl dX5_chooseReady_56) <| Ok.nil
theorem ct_X5_chooseReady (l : Launch) : Ct l yX5_chooseReady cX5_chooseReady 4 (some .int) 2 layR f_X5_chooseReady := ofRunL (by decide) rfl (ok_X5_chooseReady l)
noncomputable def t_X5_isInFire : Tbl := [(0, s_al 1 0),
  (1, s_gf 4 layR 5 2),
  (4, s_il 5 1),
  (5, s_ia 6 layR 0),
  (6, s_ic 7 1),
  (7, s_clt 10 25),
  (10, s_al 11 0),
  (11, s_gf 14 layR 5 2),
  (14, s_il 15 1),
  (15, s_ia 16 layR 0),
  (16, s_ic 18 10),
  (18, s_cge 21 25),
  (21, s_ic 22 1),
  (22, s_go 26),
  (25, s_ic 26 0),
  (26, s_zr)]
def cs_X5_isInFire : Cs := []
noncomputable def f_X5_isInFire : List Vv → Mm → Option Ou := lock (sem t_X5_isInFire cs_X5_isInFire 2)
set_option maxRecDepth 20000 in
theorem ok_X5_isInFire (l : Launch) : Ok l RX5 cX5_isInFire 2 1 (some .boolean) layR t_X5_isInFire :=
  Ok.cons (so_aload_n dX5_isInFire_0 rfl rfl) <|
  Ok.cons (so_gf (C := RX5) (T := TX5) (N := 13) inGX5 rfl (by decide) wq_271 rfl dX5_isInFire_1 rfl) <|
  Ok.cons (so_iload_n dX5_isInFire_4 rfl rfl) <|
  Ok.cons (so_ia0 dX5_isInFire_5 rfl) <|
  Ok.cons (so_iconst dX5_isInFire_6 (by decide) rfl) <|
  Ok.cons (so_clt dX5_isInFire_7 (by decide) rfl) <|
  Ok.cons (so_aload_n dX5_isInFire_10 rfl rfl) <|
  Ok.cons (so_gf (C := RX5) (T := TX5) (N := 13) inGX5 rfl (by decide) wq_271 rfl dX5_isInFire_11 rfl) <|
  Ok.cons (so_iload_n dX5_isInFire_14 rfl rfl) <|
  Ok.cons (so_ia0 dX5_isInFire_15 rfl) <|
  Ok.cons (so_bipush dX5_isInFire_16 (by decide) rfl) <|
  Ok.cons (so_cge dX5_isInFire_18 (by decide) rfl) <|
  Ok.cons (so_iconst dX5_isInFire_21 (by decide) rfl) <|
  Ok.cons (so_goto dX5_isInFire_22 (by decide)) <|
  Ok.cons (so_iconst dX5_isInFire_25 (by decide) rfl) <|
  Ok.cons (so_zr rfl dX5_isInFire_26) <| Ok.nil
theorem ct_X5_isInFire (l : Launch) : Ct l yX5_isInFire cX5_isInFire 2 (some .boolean) 1 layR f_X5_isInFire := ofRunL (by decide) rfl (ok_X5_isInFire l)
noncomputable def t_X5_fillAnvils : Tbl := [(0, s_ic 1 0),
  (1, s_is 2 1),
  (2, s_il 3 1),
  (3, s_al 4 0),
  (4, s_gf 7 layR 5 0),
  (7, s_gf 10 layR 2 10),
  (10, s_ic 11 0),
  (11, s_ia 12 layR 0),
  (12, s_cge 15 84),
  (15, s_al 16 0),
  (16, s_gf 19 layR 5 10),
  (19, s_il 20 1),
  (20, s_ia 21 layR 0),
  (21, s_ic 22 (-1)),
  (22, s_ceq 25 28),
  (25, s_go 78),
  (28, s_al 29 0),
  (29, s_ci0 true 32 1 f_X5_chooseReady),
  (32, s_is 33 2),
  (33, s_il 34 2),
  (34, s_ic 35 (-1)),
  (35, s_cne 38 39),
  (38, s_vr),
  (39, s_al 40 0),
  (40, s_il 41 2),
  (41, s_ci0 true 44 2 f_X5_isInFire),
  (44, s_zeq 47 61),
  (47, s_al 48 0),
  (48, s_gf 51 layR 5 11),
  (51, s_al 52 0),
  (52, s_gf 55 layR 5 2),
  (55, s_il 56 2),
  (56, s_ia 57 layR 0),
  (57, s_ic 58 1),
  (58, s_b 59 (fun x y => x - y)),
  (59, s_ic 60 (-1)),
  (60, s_ix 61 layR 0),
  (61, s_al 62 0),
  (62, s_gf 65 layR 5 10),
  (65, s_il 66 1),
  (66, s_il 67 2),
  (67, s_ix 68 layR 0),
  (68, s_al 69 0),
  (69, s_gf 72 layR 5 2),
  (72, s_il 73 2),
  (73, s_ic 75 10),
  (75, s_il 76 1),
  (76, s_b 77 (fun x y => x + y)),
  (77, s_ix 78 layR 0),
  (78, s_in 81 1 1),
  (81, s_go 2),
  (84, s_vr)]
def cs_X5_fillAnvils : Cs := [(2, [0, 1]), (61, [0, 1, 2])]
noncomputable def f_X5_fillAnvils : List Vv → Mm → Option Ou := lock (sem t_X5_fillAnvils cs_X5_fillAnvils 3)
set_option maxRecDepth 20000 in
theorem ok_X5_fillAnvils (l : Launch) : Ok l RX5 cX5_fillAnvils 3 3 none layR t_X5_fillAnvils :=
  Ok.cons (so_iconst dX5_fillAnvils_0 (by decide) rfl) <|
  Ok.cons (so_istore_n dX5_fillAnvils_1 rfl (by decide) rfl) <|
  Ok.cons (so_iload_n dX5_fillAnvils_2 rfl rfl) <|
  Ok.cons (so_aload_n dX5_fillAnvils_3 rfl rfl) <|
  Ok.cons (so_gf (C := RX5) (T := TX5) (N := 13) inGX5 rfl (by decide) wq_268 rfl dX5_fillAnvils_4 rfl) <|
  Ok.cons (so_gf (C := RX2) (T := TX2) (N := 12) inGX2 rfl (by decide) wq_156 rfl dX5_fillAnvils_7 rfl) <|
  Ok.cons (so_iconst dX5_fillAnvils_10 (by decide) rfl) <|
  Ok.cons (so_ia0 dX5_fillAnvils_11 rfl) <|
  Ok.cons (so_cge dX5_fillAnvils_12 (by decide) rfl) <|
  Ok.cons (so_aload_n dX5_fillAnvils_15 rfl rfl) <|
  Ok.cons (so_gf (C := RX5) (T := TX5) (N := 13) inGX5 rfl (by decide) wq_284 rfl dX5_fillAnvils_16 rfl) <|
  Ok.cons (so_iload_n dX5_fillAnvils_19 rfl rfl) <|
  Ok.cons (so_ia0 dX5_fillAnvils_20 rfl) <|
  Ok.cons (so_iconst dX5_fillAnvils_21 (by decide) rfl) <|
  Ok.cons (so_ceq dX5_fillAnvils_22 (by decide) rfl) <|
  Ok.cons (so_goto dX5_fillAnvils_25 (by decide)) <|
  Ok.cons (so_aload_n dX5_fillAnvils_28 rfl rfl) <|
  Ok.cons (so_vi0 (ct_X5_chooseReady l) wq_585 wq_582 wq_584 wq_20 wq_93 (by decide +kernel) (by decide) rfl rfl dX5_fillAnvils_29 rfl) <|
  Ok.cons (so_istore_n dX5_fillAnvils_32 rfl (by decide) rfl) <|
  Ok.cons (so_iload_n dX5_fillAnvils_33 rfl rfl) <|
  Ok.cons (so_iconst dX5_fillAnvils_34 (by decide) rfl) <|
  Ok.cons (so_cne dX5_fillAnvils_35 (by decide) rfl) <|
  Ok.cons (so_vr rfl dX5_fillAnvils_38) <|
  Ok.cons (so_aload_n dX5_fillAnvils_39 rfl rfl) <|
  Ok.cons (so_iload_n dX5_fillAnvils_40 rfl rfl) <|
  Ok.cons (so_vi0 (ct_X5_isInFire l) wq_597 wq_594 wq_596 wq_23 wq_93 (by decide +kernel) (by decide) rfl rfl dX5_fillAnvils_41 rfl) <|
  Ok.cons (so_zeq dX5_fillAnvils_44 (by decide) rfl) <|
  Ok.cons (so_aload_n dX5_fillAnvils_47 rfl rfl) <|
  Ok.cons (so_gf (C := RX5) (T := TX5) (N := 13) inGX5 rfl (by decide) wq_285 rfl dX5_fillAnvils_48 rfl) <|
  Ok.cons (so_aload_n dX5_fillAnvils_51 rfl rfl) <|
  Ok.cons (so_gf (C := RX5) (T := TX5) (N := 13) inGX5 rfl (by decide) wq_271 rfl dX5_fillAnvils_52 rfl) <|
  Ok.cons (so_iload_n dX5_fillAnvils_55 rfl rfl) <|
  Ok.cons (so_ia0 dX5_fillAnvils_56 rfl) <|
  Ok.cons (so_iconst dX5_fillAnvils_57 (by decide) rfl) <|
  Ok.cons (so_isub dX5_fillAnvils_58 rfl) <|
  Ok.cons (so_iconst dX5_fillAnvils_59 (by decide) rfl) <|
  Ok.cons (so_ix dX5_fillAnvils_60 rfl) <|
  Ok.cons (so_aload_n dX5_fillAnvils_61 rfl rfl) <|
  Ok.cons (so_gf (C := RX5) (T := TX5) (N := 13) inGX5 rfl (by decide) wq_284 rfl dX5_fillAnvils_62 rfl) <|
  Ok.cons (so_iload_n dX5_fillAnvils_65 rfl rfl) <|
  Ok.cons (so_iload_n dX5_fillAnvils_66 rfl rfl) <|
  Ok.cons (so_ix dX5_fillAnvils_67 rfl) <|
  Ok.cons (so_aload_n dX5_fillAnvils_68 rfl rfl) <|
  Ok.cons (so_gf (C := RX5) (T := TX5) (N := 13) inGX5 rfl (by decide) wq_271 rfl dX5_fillAnvils_69 rfl) <|
  Ok.cons (so_iload_n dX5_fillAnvils_72 rfl rfl) <|
  Ok.cons (so_bipush dX5_fillAnvils_73 (by decide) rfl) <|
  Ok.cons (so_iload_n dX5_fillAnvils_75 rfl rfl) <|
  Ok.cons (so_iadd dX5_fillAnvils_76 rfl) <|
  Ok.cons (so_ix dX5_fillAnvils_77 rfl) <|
  Ok.cons (so_iinc dX5_fillAnvils_78 (by decide) (by decide) rfl) <|
  Ok.cons (so_goto dX5_fillAnvils_81 (by decide)) <|
  Ok.cons (so_vr rfl dX5_fillAnvils_84) <| Ok.nil
theorem ct_X5_fillAnvils (l : Launch) : Ct l yX5_fillAnvils cX5_fillAnvils 3 none 3 layR f_X5_fillAnvils := ofRunL (by decide) rfl (ok_X5_fillAnvils l)
noncomputable def t_X5_firstWaiting : Tbl := [(0, s_ic 1 0),
  (1, s_is 2 1),
  (2, s_il 3 1),
  (3, s_al 4 0),
  (4, s_gf 7 layR 5 0),
  (7, s_gf 10 layR 2 0),
  (10, s_cge 13 56),
  (13, s_al 14 0),
  (14, s_gf 17 layR 5 0),
  (17, s_gf 20 layR 2 11),
  (20, s_il 21 1),
  (21, s_ia 22 layR 0),
  (22, s_is 23 2),
  (23, s_al 24 0),
  (24, s_gf 27 layR 5 2),
  (27, s_il 28 2),
  (28, s_ia 29 layR 0),
  (29, s_zne 32 50),
  (32, s_al 33 0),
  (33, s_il 34 2),
  (34, s_ci0 true 37 2 f_X5_isFinished),
  (37, s_zne 40 50),
  (40, s_al 41 0),
  (41, s_il 42 2),
  (42, s_ci0 true 45 2 f_X5_isReady),
  (45, s_zne 48 50),
  (48, s_il 49 2),
  (49, s_ir),
  (50, s_in 53 1 1),
  (53, s_go 2),
  (56, s_ic 57 (-1)),
  (57, s_ir)]
def cs_X5_firstWaiting : Cs := [(2, [0, 1])]
noncomputable def f_X5_firstWaiting : List Vv → Mm → Option Ou := lock (sem t_X5_firstWaiting cs_X5_firstWaiting 3)
set_option maxRecDepth 20000 in
theorem ok_X5_firstWaiting (l : Launch) : Ok l RX5 cX5_firstWaiting 3 2 (some .int) layR t_X5_firstWaiting :=
  Ok.cons (so_iconst dX5_firstWaiting_0 (by decide) rfl) <|
  Ok.cons (so_istore_n dX5_firstWaiting_1 rfl (by decide) rfl) <|
  Ok.cons (so_iload_n dX5_firstWaiting_2 rfl rfl) <|
  Ok.cons (so_aload_n dX5_firstWaiting_3 rfl rfl) <|
  Ok.cons (so_gf (C := RX5) (T := TX5) (N := 13) inGX5 rfl (by decide) wq_268 rfl dX5_firstWaiting_4 rfl) <|
  Ok.cons (so_gf (C := RX2) (T := TX2) (N := 12) inGX2 rfl (by decide) wq_126 rfl dX5_firstWaiting_7 rfl) <|
  Ok.cons (so_cge dX5_firstWaiting_10 (by decide) rfl) <|
  Ok.cons (so_aload_n dX5_firstWaiting_13 rfl rfl) <|
  Ok.cons (so_gf (C := RX5) (T := TX5) (N := 13) inGX5 rfl (by decide) wq_268 rfl dX5_firstWaiting_14 rfl) <|
  Ok.cons (so_gf (C := RX2) (T := TX2) (N := 12) inGX2 rfl (by decide) wq_162 rfl dX5_firstWaiting_17 rfl) <|
  Ok.cons (so_iload_n dX5_firstWaiting_20 rfl rfl) <|
  Ok.cons (so_ia0 dX5_firstWaiting_21 rfl) <|
  Ok.cons (so_istore_n dX5_firstWaiting_22 rfl (by decide) rfl) <|
  Ok.cons (so_aload_n dX5_firstWaiting_23 rfl rfl) <|
  Ok.cons (so_gf (C := RX5) (T := TX5) (N := 13) inGX5 rfl (by decide) wq_271 rfl dX5_firstWaiting_24 rfl) <|
  Ok.cons (so_iload_n dX5_firstWaiting_27 rfl rfl) <|
  Ok.cons (so_ia0 dX5_firstWaiting_28 rfl) <|
  Ok.cons (so_zne dX5_firstWaiting_29 (by decide) rfl) <|
  Ok.cons (so_aload_n dX5_firstWaiting_32 rfl rfl) <|
  Ok.cons (so_iload_n dX5_firstWaiting_33 rfl rfl) <|
  Ok.cons (so_vi0 (ct_X5_isFinished l) wq_561 wq_558 wq_560 wq_16 wq_93 (by decide +kernel) (by decide) rfl rfl dX5_firstWaiting_34 rfl) <|
  Ok.cons (so_zne dX5_firstWaiting_37 (by decide) rfl) <|
  Ok.cons (so_aload_n dX5_firstWaiting_40 rfl rfl) <|
  Ok.cons (so_iload_n dX5_firstWaiting_41 rfl rfl) <|
  Ok.cons (so_vi0 (ct_X5_isReady l) wq_589 wq_586 wq_588 wq_21 wq_93 (by decide +kernel) (by decide) rfl rfl dX5_firstWaiting_42 rfl) <|
  Ok.cons (so_zne dX5_firstWaiting_45 (by decide) rfl) <|
  Ok.cons (so_iload_n dX5_firstWaiting_48 rfl rfl) <|
  Ok.cons (so_ir rfl dX5_firstWaiting_49) <|
  Ok.cons (so_iinc dX5_firstWaiting_50 (by decide) (by decide) rfl) <|
  Ok.cons (so_goto dX5_firstWaiting_53 (by decide)) <|
  Ok.cons (so_iconst dX5_firstWaiting_56 (by decide) rfl) <|
  Ok.cons (so_ir rfl dX5_firstWaiting_57) <| Ok.nil
theorem ct_X5_firstWaiting (l : Launch) : Ct l yX5_firstWaiting cX5_firstWaiting 3 (some .int) 2 layR f_X5_firstWaiting := ofRunL (by decide) rfl (ok_X5_firstWaiting l)
noncomputable def t_X5_fillPlaces : Tbl := [(0, s_ic 1 0),
  (1, s_is 2 1),
  (2, s_il 3 1),
  (3, s_al 4 0),
  (4, s_gf 7 layR 5 0),
  (7, s_gf 10 layR 2 1),
  (10, s_cge 13 69),
  (13, s_al 14 0),
  (14, s_gf 17 layR 5 11),
  (17, s_il 18 1),
  (18, s_ia 19 layR 0),
  (19, s_ic 20 (-1)),
  (20, s_ceq 23 26),
  (23, s_go 63),
  (26, s_al 27 0),
  (27, s_ci0 true 30 1 f_X5_firstWaiting),
  (30, s_is 31 2),
  (31, s_il 32 2),
  (32, s_ic 33 (-1)),
  (33, s_cne 36 37),
  (36, s_vr),
  (37, s_al 38 0),
  (38, s_gf 41 layR 5 11),
  (41, s_il 42 1),
  (42, s_il 43 2),
  (43, s_ix 44 layR 0),
  (44, s_al 45 0),
  (45, s_gf 48 layR 5 2),
  (48, s_il 49 2),
  (49, s_ic 50 1),
  (50, s_il 51 1),
  (51, s_b 52 (fun x y => x + y)),
  (52, s_ix 53 layR 0),
  (53, s_al 54 0),
  (54, s_gf 57 layR 5 9),
  (57, s_il 58 2),
  (58, s_dup2 59),
  (59, s_ia 60 layR 0),
  (60, s_ic 61 1),
  (61, s_b 62 (fun x y => x + y)),
  (62, s_ix 63 layR 0),
  (63, s_in 66 1 1),
  (66, s_go 2),
  (69, s_vr)]
def cs_X5_fillPlaces : Cs := [(2, [0, 1])]
noncomputable def f_X5_fillPlaces : List Vv → Mm → Option Ou := lock (sem t_X5_fillPlaces cs_X5_fillPlaces 3)
set_option maxRecDepth 20000 in
theorem ok_X5_fillPlaces (l : Launch) : Ok l RX5 cX5_fillPlaces 3 3 none layR t_X5_fillPlaces :=
  Ok.cons (so_iconst dX5_fillPlaces_0 (by decide) rfl) <|
  Ok.cons (so_istore_n dX5_fillPlaces_1 rfl (by decide) rfl) <|
  Ok.cons (so_iload_n dX5_fillPlaces_2 rfl rfl) <|
  Ok.cons (so_aload_n dX5_fillPlaces_3 rfl rfl) <|
  Ok.cons (so_gf (C := RX5) (T := TX5) (N := 13) inGX5 rfl (by decide) wq_268 rfl dX5_fillPlaces_4 rfl) <|
  Ok.cons (so_gf (C := RX2) (T := TX2) (N := 12) inGX2 rfl (by decide) wq_133 rfl dX5_fillPlaces_7 rfl) <|
  Ok.cons (so_cge dX5_fillPlaces_10 (by decide) rfl) <|
  Ok.cons (so_aload_n dX5_fillPlaces_13 rfl rfl) <|
  Ok.cons (so_gf (C := RX5) (T := TX5) (N := 13) inGX5 rfl (by decide) wq_285 rfl dX5_fillPlaces_14 rfl) <|
  Ok.cons (so_iload_n dX5_fillPlaces_17 rfl rfl) <|
  Ok.cons (so_ia0 dX5_fillPlaces_18 rfl) <|
  Ok.cons (so_iconst dX5_fillPlaces_19 (by decide) rfl) <|
  Ok.cons (so_ceq dX5_fillPlaces_20 (by decide) rfl) <|
  Ok.cons (so_goto dX5_fillPlaces_23 (by decide)) <|
  Ok.cons (so_aload_n dX5_fillPlaces_26 rfl rfl) <|
  Ok.cons (so_vi0 (ct_X5_firstWaiting l) wq_605 wq_602 wq_604 wq_24 wq_93 (by decide +kernel) (by decide) rfl rfl dX5_fillPlaces_27 rfl) <|
  Ok.cons (so_istore_n dX5_fillPlaces_30 rfl (by decide) rfl) <|
  Ok.cons (so_iload_n dX5_fillPlaces_31 rfl rfl) <|
  Ok.cons (so_iconst dX5_fillPlaces_32 (by decide) rfl) <|
  Ok.cons (so_cne dX5_fillPlaces_33 (by decide) rfl) <|
  Ok.cons (so_vr rfl dX5_fillPlaces_36) <|
  Ok.cons (so_aload_n dX5_fillPlaces_37 rfl rfl) <|
  Ok.cons (so_gf (C := RX5) (T := TX5) (N := 13) inGX5 rfl (by decide) wq_285 rfl dX5_fillPlaces_38 rfl) <|
  Ok.cons (so_iload_n dX5_fillPlaces_41 rfl rfl) <|
  Ok.cons (so_iload_n dX5_fillPlaces_42 rfl rfl) <|
  Ok.cons (so_ix dX5_fillPlaces_43 rfl) <|
  Ok.cons (so_aload_n dX5_fillPlaces_44 rfl rfl) <|
  Ok.cons (so_gf (C := RX5) (T := TX5) (N := 13) inGX5 rfl (by decide) wq_271 rfl dX5_fillPlaces_45 rfl) <|
  Ok.cons (so_iload_n dX5_fillPlaces_48 rfl rfl) <|
  Ok.cons (so_iconst dX5_fillPlaces_49 (by decide) rfl) <|
  Ok.cons (so_iload_n dX5_fillPlaces_50 rfl rfl) <|
  Ok.cons (so_iadd dX5_fillPlaces_51 rfl) <|
  Ok.cons (so_ix dX5_fillPlaces_52 rfl) <|
  Ok.cons (so_aload_n dX5_fillPlaces_53 rfl rfl) <|
  Ok.cons (so_gf (C := RX5) (T := TX5) (N := 13) inGX5 rfl (by decide) wq_282 rfl dX5_fillPlaces_54 rfl) <|
  Ok.cons (so_iload_n dX5_fillPlaces_57 rfl rfl) <|
  Ok.cons (so_dup2 dX5_fillPlaces_58 rfl) <|
  Ok.cons (so_ia0 dX5_fillPlaces_59 rfl) <|
  Ok.cons (so_iconst dX5_fillPlaces_60 (by decide) rfl) <|
  Ok.cons (so_iadd dX5_fillPlaces_61 rfl) <|
  Ok.cons (so_ix dX5_fillPlaces_62 rfl) <|
  Ok.cons (so_iinc dX5_fillPlaces_63 (by decide) (by decide) rfl) <|
  Ok.cons (so_goto dX5_fillPlaces_66 (by decide)) <|
  Ok.cons (so_vr rfl dX5_fillPlaces_69) <| Ok.nil
theorem ct_X5_fillPlaces (l : Launch) : Ct l yX5_fillPlaces cX5_fillPlaces 3 none 3 layR f_X5_fillPlaces := ofRunL (by decide) rfl (ok_X5_fillPlaces l)
noncomputable def t_X5_warmed : Tbl := [(0, s_al 1 0),
  (1, s_gf 4 layR 5 0),
  (4, s_gf 7 layR 2 9),
  (7, s_il 8 2),
  (8, s_ia 9 layR 0),
  (9, s_is 10 3),
  (10, s_al 11 0),
  (11, s_gf 14 layR 5 0),
  (14, s_gf 17 layR 2 3),
  (17, s_il 18 1),
  (18, s_ia 19 layR 0),
  (19, s_is 21 4),
  (21, s_al 22 0),
  (22, s_gf 25 layR 5 1),
  (25, s_il 26 1),
  (26, s_ia 27 layR 0),
  (27, s_il 28 3),
  (28, s_cge 31 36),
  (31, s_il 33 4),
  (33, s_zgt 36 43),
  (36, s_al 37 0),
  (37, s_gf 40 layR 5 1),
  (40, s_il 41 1),
  (41, s_ia 42 layR 0),
  (42, s_ir),
  (43, s_al 44 0),
  (44, s_gf 47 layR 5 1),
  (47, s_il 48 1),
  (48, s_ia 49 layR 0),
  (49, s_al 50 0),
  (50, s_gf 53 layR 5 0),
  (53, s_gf 56 layR 2 8),
  (56, s_il 57 2),
  (57, s_ia 58 layR 0),
  (58, s_il 60 4),
  (60, s_bd 61 (fun x y => x / y)),
  (61, s_b 62 (fun x y => x + y)),
  (62, s_il 63 3),
  (63, s_m 66 (fun x y => if y < x then y else x)),
  (66, s_ir)]
def cs_X5_warmed : Cs := []
noncomputable def f_X5_warmed : List Vv → Mm → Option Ou := lock (sem t_X5_warmed cs_X5_warmed 5)
set_option maxRecDepth 20000 in
theorem ok_X5_warmed (l : Launch) : Ok l RX5 cX5_warmed 5 1 (some .int) layR t_X5_warmed :=
  Ok.cons (so_aload_n dX5_warmed_0 rfl rfl) <|
  Ok.cons (so_gf (C := RX5) (T := TX5) (N := 13) inGX5 rfl (by decide) wq_268 rfl dX5_warmed_1 rfl) <|
  Ok.cons (so_gf (C := RX2) (T := TX2) (N := 12) inGX2 rfl (by decide) wq_154 rfl dX5_warmed_4 rfl) <|
  Ok.cons (so_iload_n dX5_warmed_7 rfl rfl) <|
  Ok.cons (so_ia0 dX5_warmed_8 rfl) <|
  Ok.cons (so_istore_n dX5_warmed_9 rfl (by decide) rfl) <|
  Ok.cons (so_aload_n dX5_warmed_10 rfl rfl) <|
  Ok.cons (so_gf (C := RX5) (T := TX5) (N := 13) inGX5 rfl (by decide) wq_268 rfl dX5_warmed_11 rfl) <|
  Ok.cons (so_gf (C := RX2) (T := TX2) (N := 12) inGX2 rfl (by decide) wq_137 rfl dX5_warmed_14 rfl) <|
  Ok.cons (so_iload_n dX5_warmed_17 rfl rfl) <|
  Ok.cons (so_ia0 dX5_warmed_18 rfl) <|
  Ok.cons (so_istore dX5_warmed_19 (by decide) rfl) <|
  Ok.cons (so_aload_n dX5_warmed_21 rfl rfl) <|
  Ok.cons (so_gf (C := RX5) (T := TX5) (N := 13) inGX5 rfl (by decide) wq_269 rfl dX5_warmed_22 rfl) <|
  Ok.cons (so_iload_n dX5_warmed_25 rfl rfl) <|
  Ok.cons (so_ia0 dX5_warmed_26 rfl) <|
  Ok.cons (so_iload_n dX5_warmed_27 rfl rfl) <|
  Ok.cons (so_cge dX5_warmed_28 (by decide) rfl) <|
  Ok.cons (so_iload dX5_warmed_31 rfl) <|
  Ok.cons (so_zgt dX5_warmed_33 (by decide) rfl) <|
  Ok.cons (so_aload_n dX5_warmed_36 rfl rfl) <|
  Ok.cons (so_gf (C := RX5) (T := TX5) (N := 13) inGX5 rfl (by decide) wq_269 rfl dX5_warmed_37 rfl) <|
  Ok.cons (so_iload_n dX5_warmed_40 rfl rfl) <|
  Ok.cons (so_ia0 dX5_warmed_41 rfl) <|
  Ok.cons (so_ir rfl dX5_warmed_42) <|
  Ok.cons (so_aload_n dX5_warmed_43 rfl rfl) <|
  Ok.cons (so_gf (C := RX5) (T := TX5) (N := 13) inGX5 rfl (by decide) wq_269 rfl dX5_warmed_44 rfl) <|
  Ok.cons (so_iload_n dX5_warmed_47 rfl rfl) <|
  Ok.cons (so_ia0 dX5_warmed_48 rfl) <|
  Ok.cons (so_aload_n dX5_warmed_49 rfl rfl) <|
  Ok.cons (so_gf (C := RX5) (T := TX5) (N := 13) inGX5 rfl (by decide) wq_268 rfl dX5_warmed_50 rfl) <|
  Ok.cons (so_gf (C := RX2) (T := TX2) (N := 12) inGX2 rfl (by decide) wq_151 rfl dX5_warmed_53 rfl) <|
  Ok.cons (so_iload_n dX5_warmed_56 rfl rfl) <|
  Ok.cons (so_ia0 dX5_warmed_57 rfl) <|
  Ok.cons (so_iload dX5_warmed_58 rfl) <|
  Ok.cons (so_idiv dX5_warmed_60 rfl) <|
  Ok.cons (so_iadd dX5_warmed_61 rfl) <|
  Ok.cons (so_iload_n dX5_warmed_62 rfl rfl) <|
  Ok.cons (so_min (by decide) wq_618 wq_408 wq_96 wc_min dX5_warmed_63 rfl) <|
  Ok.cons (so_ir rfl dX5_warmed_66) <| Ok.nil
theorem ct_X5_warmed (l : Launch) : Ct l yX5_warmed cX5_warmed 5 (some .int) 1 layR f_X5_warmed := ofRunL (by decide) rfl (ok_X5_warmed l)
noncomputable def t_X5_cooled : Tbl := [(0, s_al 1 0),
  (1, s_gf 4 layR 5 1),
  (4, s_il 5 1),
  (5, s_ia 6 layR 0),
  (6, s_al 7 0),
  (7, s_gf 10 layR 5 0),
  (10, s_gf 13 layR 2 4),
  (13, s_il 14 1),
  (14, s_ia 15 layR 0),
  (15, s_b 16 (fun x y => x - y)),
  (16, s_ic 18 20),
  (18, s_m 21 (fun x y => if x < y then y else x)),
  (21, s_ir)]
def cs_X5_cooled : Cs := []
noncomputable def f_X5_cooled : List Vv → Mm → Option Ou := lock (sem t_X5_cooled cs_X5_cooled 2)
set_option maxRecDepth 20000 in
theorem ok_X5_cooled (l : Launch) : Ok l RX5 cX5_cooled 2 1 (some .int) layR t_X5_cooled :=
  Ok.cons (so_aload_n dX5_cooled_0 rfl rfl) <|
  Ok.cons (so_gf (C := RX5) (T := TX5) (N := 13) inGX5 rfl (by decide) wq_269 rfl dX5_cooled_1 rfl) <|
  Ok.cons (so_iload_n dX5_cooled_4 rfl rfl) <|
  Ok.cons (so_ia0 dX5_cooled_5 rfl) <|
  Ok.cons (so_aload_n dX5_cooled_6 rfl rfl) <|
  Ok.cons (so_gf (C := RX5) (T := TX5) (N := 13) inGX5 rfl (by decide) wq_268 rfl dX5_cooled_7 rfl) <|
  Ok.cons (so_gf (C := RX2) (T := TX2) (N := 12) inGX2 rfl (by decide) wq_140 rfl dX5_cooled_10 rfl) <|
  Ok.cons (so_iload_n dX5_cooled_13 rfl rfl) <|
  Ok.cons (so_ia0 dX5_cooled_14 rfl) <|
  Ok.cons (so_isub dX5_cooled_15 rfl) <|
  Ok.cons (so_bipush dX5_cooled_16 (by decide) rfl) <|
  Ok.cons (so_max (by decide) wq_623 wq_624 wq_96 wc_max dX5_cooled_18 rfl) <|
  Ok.cons (so_ir rfl dX5_cooled_21) <| Ok.nil
theorem ct_X5_cooled (l : Launch) : Ct l yX5_cooled cX5_cooled 2 (some .int) 1 layR f_X5_cooled := ofRunL (by decide) rfl (ok_X5_cooled l)
noncomputable def t_X5_work : Tbl := [(0, s_al 1 0),
  (1, s_gf 4 layR 5 6),
  (4, s_il 5 1),
  (5, s_dup2 6),
  (6, s_ia 7 layR 0),
  (7, s_ic 8 1),
  (8, s_b 9 (fun x y => x - y)),
  (9, s_ix 10 layR 0),
  (10, s_al 11 0),
  (11, s_gf 14 layR 5 4),
  (14, s_il 15 1),
  (15, s_dup2 16),
  (16, s_ia 17 layR 0),
  (17, s_ic 18 1),
  (18, s_b 19 (fun x y => x - y)),
  (19, s_ix 20 layR 0),
  (20, s_al 21 0),
  (21, s_gf 24 layR 5 4),
  (24, s_il 25 1),
  (25, s_ia 26 layR 0),
  (26, s_zle 29 30),
  (29, s_vr),
  (30, s_al 31 0),
  (31, s_gf 34 layR 5 3),
  (34, s_il 35 1),
  (35, s_dup2 36),
  (36, s_ia 37 layR 0),
  (37, s_ic 38 1),
  (38, s_b 39 (fun x y => x + y)),
  (39, s_ix 40 layR 0),
  (40, s_al 41 0),
  (41, s_il 42 1),
  (42, s_ci0 true 45 2 f_X5_isFinished),
  (45, s_zeq 48 70),
  (48, s_al 49 0),
  (49, s_gf 52 layR 5 7),
  (52, s_il 53 1),
  (53, s_il 54 2),
  (54, s_ic 55 1),
  (55, s_b 56 (fun x y => x + y)),
  (56, s_ix 57 layR 0),
  (57, s_al 58 0),
  (58, s_dup 59),
  (59, s_gf 62 layR 5 12),
  (62, s_ic 63 1),
  (63, s_b 64 (fun x y => x - y)),
  (64, s_pf 67 layR 5 12),
  (67, s_go 75),
  (70, s_al 71 0),
  (71, s_il 72 1),
  (72, s_cv0 true 75 2 f_X5_beginStep),
  (75, s_vr)]
def cs_X5_work : Cs := []
noncomputable def f_X5_work : List Vv → Mm → Option Ou := lock (sem t_X5_work cs_X5_work 3)
set_option maxRecDepth 20000 in
theorem ok_X5_work (l : Launch) : Ok l RX5 cX5_work 3 2 none layR t_X5_work :=
  Ok.cons (so_aload_n dX5_work_0 rfl rfl) <|
  Ok.cons (so_gf (C := RX5) (T := TX5) (N := 13) inGX5 rfl (by decide) wq_277 rfl dX5_work_1 rfl) <|
  Ok.cons (so_iload_n dX5_work_4 rfl rfl) <|
  Ok.cons (so_dup2 dX5_work_5 rfl) <|
  Ok.cons (so_ia0 dX5_work_6 rfl) <|
  Ok.cons (so_iconst dX5_work_7 (by decide) rfl) <|
  Ok.cons (so_isub dX5_work_8 rfl) <|
  Ok.cons (so_ix dX5_work_9 rfl) <|
  Ok.cons (so_aload_n dX5_work_10 rfl rfl) <|
  Ok.cons (so_gf (C := RX5) (T := TX5) (N := 13) inGX5 rfl (by decide) wq_275 rfl dX5_work_11 rfl) <|
  Ok.cons (so_iload_n dX5_work_14 rfl rfl) <|
  Ok.cons (so_dup2 dX5_work_15 rfl) <|
  Ok.cons (so_ia0 dX5_work_16 rfl) <|
  Ok.cons (so_iconst dX5_work_17 (by decide) rfl) <|
  Ok.cons (so_isub dX5_work_18 rfl) <|
  Ok.cons (so_ix dX5_work_19 rfl) <|
  Ok.cons (so_aload_n dX5_work_20 rfl rfl) <|
  Ok.cons (so_gf (C := RX5) (T := TX5) (N := 13) inGX5 rfl (by decide) wq_275 rfl dX5_work_21 rfl) <|
  Ok.cons (so_iload_n dX5_work_24 rfl rfl) <|
  Ok.cons (so_ia0 dX5_work_25 rfl) <|
  Ok.cons (so_zle dX5_work_26 (by decide) rfl) <|
  Ok.cons (so_vr rfl dX5_work_29) <|
  Ok.cons (so_aload_n dX5_work_30 rfl rfl) <|
  Ok.cons (so_gf (C := RX5) (T := TX5) (N := 13) inGX5 rfl (by decide) wq_273 rfl dX5_work_31 rfl) <|
  Ok.cons (so_iload_n dX5_work_34 rfl rfl) <|
  Ok.cons (so_dup2 dX5_work_35 rfl) <|
  Ok.cons (so_ia0 dX5_work_36 rfl) <|
  Ok.cons (so_iconst dX5_work_37 (by decide) rfl) <|
  Ok.cons (so_iadd dX5_work_38 rfl) <|
  Ok.cons (so_ix dX5_work_39 rfl) <|
  Ok.cons (so_aload_n dX5_work_40 rfl rfl) <|
  Ok.cons (so_iload_n dX5_work_41 rfl rfl) <|
  Ok.cons (so_vi0 (ct_X5_isFinished l) wq_561 wq_558 wq_560 wq_16 wq_93 (by decide +kernel) (by decide) rfl rfl dX5_work_42 rfl) <|
  Ok.cons (so_zeq dX5_work_45 (by decide) rfl) <|
  Ok.cons (so_aload_n dX5_work_48 rfl rfl) <|
  Ok.cons (so_gf (C := RX5) (T := TX5) (N := 13) inGX5 rfl (by decide) wq_278 rfl dX5_work_49 rfl) <|
  Ok.cons (so_iload_n dX5_work_52 rfl rfl) <|
  Ok.cons (so_iload_n dX5_work_53 rfl rfl) <|
  Ok.cons (so_iconst dX5_work_54 (by decide) rfl) <|
  Ok.cons (so_iadd dX5_work_55 rfl) <|
  Ok.cons (so_ix dX5_work_56 rfl) <|
  Ok.cons (so_aload_n dX5_work_57 rfl rfl) <|
  Ok.cons (so_dup dX5_work_58 rfl) <|
  Ok.cons (so_gf (C := RX5) (T := TX5) (N := 13) inGX5 rfl (by decide) wq_286 rfl dX5_work_59 rfl) <|
  Ok.cons (so_iconst dX5_work_62 (by decide) rfl) <|
  Ok.cons (so_isub dX5_work_63 rfl) <|
  Ok.cons (so_pf (C := RX5) (T := TX5) (N := 13) inGX5 tyX5_ok nmX5 rfl (by decide) wq_286 rfl rfl rfl dX5_work_64 rfl) <|
  Ok.cons (so_goto dX5_work_67 (by decide)) <|
  Ok.cons (so_aload_n dX5_work_70 rfl rfl) <|
  Ok.cons (so_iload_n dX5_work_71 rfl rfl) <|
  Ok.cons (so_vv0 (ct_X5_beginStep l) wq_565 wq_562 wq_564 wq_17 wq_93 (by decide +kernel) (by decide) rfl rfl dX5_work_72 rfl) <|
  Ok.cons (so_vr rfl dX5_work_75) <| Ok.nil
theorem ct_X5_work (l : Launch) : Ct l yX5_work cX5_work 3 none 2 layR f_X5_work := ofRunL (by decide) rfl (ok_X5_work l)
noncomputable def t_X5_pass : Tbl := [(0, s_ic 1 0),
  (1, s_is 2 2),
  (2, s_ic 3 0),
  (3, s_is 4 3),
  (4, s_il 5 3),
  (5, s_al 6 0),
  (6, s_gf 9 layR 5 0),
  (9, s_gf 12 layR 2 0),
  (12, s_cge 15 110),
  (15, s_al 16 0),
  (16, s_gf 19 layR 5 1),
  (19, s_il 20 3),
  (20, s_ia 21 layR 0),
  (21, s_is 23 4),
  (23, s_al 24 0),
  (24, s_gf 27 layR 5 1),
  (27, s_il 28 3),
  (28, s_al 29 0),
  (29, s_il 30 3),
  (30, s_ci0 true 33 2 f_X5_isInFire),
  (33, s_zeq 36 52),
  (36, s_al 37 0),
  (37, s_il 38 3),
  (38, s_al 39 0),
  (39, s_gf 42 layR 5 2),
  (42, s_il 43 3),
  (43, s_ia 44 layR 0),
  (44, s_ic 45 1),
  (45, s_b 46 (fun x y => x - y)),
  (46, s_ci0 true 49 3 f_X5_warmed),
  (49, s_go 57),
  (52, s_al 53 0),
  (53, s_il 54 3),
  (54, s_ci0 true 57 2 f_X5_cooled),
  (57, s_ix 58 layR 0),
  (58, s_il 59 2),
  (59, s_al 60 0),
  (60, s_gf 63 layR 5 1),
  (63, s_il 64 3),
  (64, s_ia 65 layR 0),
  (65, s_il 67 4),
  (67, s_ceq 70 82),
  (70, s_al 71 0),
  (71, s_il 72 3),
  (72, s_ci0 true 75 2 f_X5_isFinished),
  (75, s_zne 78 82),
  (78, s_ic 79 1),
  (79, s_go 83),
  (82, s_ic 83 0),
  (83, s_b 84 (fun x y => x ||| y)),
  (84, s_is 85 2),
  (85, s_al 86 0),
  (86, s_gf 89 layR 5 2),
  (89, s_il 90 3),
  (90, s_ia 91 layR 0),
  (91, s_ic 93 10),
  (93, s_clt 96 104),
  (96, s_al 97 0),
  (97, s_il 98 3),
  (98, s_il 99 1),
  (99, s_cv0 true 102 3 f_X5_work),
  (102, s_ic 103 1),
  (103, s_is 104 2),
  (104, s_in 107 3 1),
  (107, s_go 4),
  (110, s_il 111 2),
  (111, s_zr)]
def cs_X5_pass : Cs := [(4, [0, 1, 2, 3]), (57, [0, 1, 2, 3, 4]), (83, [0, 1, 3])]
noncomputable def f_X5_pass : List Vv → Mm → Option Ou := lock (sem t_X5_pass cs_X5_pass 5)
set_option maxRecDepth 20000 in
theorem ok_X5_pass (l : Launch) : Ok l RX5 cX5_pass 5 3 (some .boolean) layR t_X5_pass :=
  Ok.cons (so_iconst dX5_pass_0 (by decide) rfl) <|
  Ok.cons (so_istore_n dX5_pass_1 rfl (by decide) rfl) <|
  Ok.cons (so_iconst dX5_pass_2 (by decide) rfl) <|
  Ok.cons (so_istore_n dX5_pass_3 rfl (by decide) rfl) <|
  Ok.cons (so_iload_n dX5_pass_4 rfl rfl) <|
  Ok.cons (so_aload_n dX5_pass_5 rfl rfl) <|
  Ok.cons (so_gf (C := RX5) (T := TX5) (N := 13) inGX5 rfl (by decide) wq_268 rfl dX5_pass_6 rfl) <|
  Ok.cons (so_gf (C := RX2) (T := TX2) (N := 12) inGX2 rfl (by decide) wq_126 rfl dX5_pass_9 rfl) <|
  Ok.cons (so_cge dX5_pass_12 (by decide) rfl) <|
  Ok.cons (so_aload_n dX5_pass_15 rfl rfl) <|
  Ok.cons (so_gf (C := RX5) (T := TX5) (N := 13) inGX5 rfl (by decide) wq_269 rfl dX5_pass_16 rfl) <|
  Ok.cons (so_iload_n dX5_pass_19 rfl rfl) <|
  Ok.cons (so_ia0 dX5_pass_20 rfl) <|
  Ok.cons (so_istore dX5_pass_21 (by decide) rfl) <|
  Ok.cons (so_aload_n dX5_pass_23 rfl rfl) <|
  Ok.cons (so_gf (C := RX5) (T := TX5) (N := 13) inGX5 rfl (by decide) wq_269 rfl dX5_pass_24 rfl) <|
  Ok.cons (so_iload_n dX5_pass_27 rfl rfl) <|
  Ok.cons (so_aload_n dX5_pass_28 rfl rfl) <|
  Ok.cons (so_iload_n dX5_pass_29 rfl rfl) <|
  Ok.cons (so_vi0 (ct_X5_isInFire l) wq_597 wq_594 wq_596 wq_23 wq_93 (by decide +kernel) (by decide) rfl rfl dX5_pass_30 rfl) <|
  Ok.cons (so_zeq dX5_pass_33 (by decide) rfl) <|
  Ok.cons (so_aload_n dX5_pass_36 rfl rfl) <|
  Ok.cons (so_iload_n dX5_pass_37 rfl rfl) <|
  Ok.cons (so_aload_n dX5_pass_38 rfl rfl) <|
  Ok.cons (so_gf (C := RX5) (T := TX5) (N := 13) inGX5 rfl (by decide) wq_271 rfl dX5_pass_39 rfl) <|
  Ok.cons (so_iload_n dX5_pass_42 rfl rfl) <|
  Ok.cons (so_ia0 dX5_pass_43 rfl) <|
  Ok.cons (so_iconst dX5_pass_44 (by decide) rfl) <|
  Ok.cons (so_isub dX5_pass_45 rfl) <|
  Ok.cons (so_vi0 (ct_X5_warmed l) wq_617 wq_614 wq_616 wq_26 wq_93 (by decide +kernel) (by decide) rfl rfl dX5_pass_46 rfl) <|
  Ok.cons (so_goto dX5_pass_49 (by decide)) <|
  Ok.cons (so_aload_n dX5_pass_52 rfl rfl) <|
  Ok.cons (so_iload_n dX5_pass_53 rfl rfl) <|
  Ok.cons (so_vi0 (ct_X5_cooled l) wq_622 wq_619 wq_621 wq_27 wq_93 (by decide +kernel) (by decide) rfl rfl dX5_pass_54 rfl) <|
  Ok.cons (so_ix dX5_pass_57 rfl) <|
  Ok.cons (so_iload_n dX5_pass_58 rfl rfl) <|
  Ok.cons (so_aload_n dX5_pass_59 rfl rfl) <|
  Ok.cons (so_gf (C := RX5) (T := TX5) (N := 13) inGX5 rfl (by decide) wq_269 rfl dX5_pass_60 rfl) <|
  Ok.cons (so_iload_n dX5_pass_63 rfl rfl) <|
  Ok.cons (so_ia0 dX5_pass_64 rfl) <|
  Ok.cons (so_iload dX5_pass_65 rfl) <|
  Ok.cons (so_ceq dX5_pass_67 (by decide) rfl) <|
  Ok.cons (so_aload_n dX5_pass_70 rfl rfl) <|
  Ok.cons (so_iload_n dX5_pass_71 rfl rfl) <|
  Ok.cons (so_vi0 (ct_X5_isFinished l) wq_561 wq_558 wq_560 wq_16 wq_93 (by decide +kernel) (by decide) rfl rfl dX5_pass_72 rfl) <|
  Ok.cons (so_zne dX5_pass_75 (by decide) rfl) <|
  Ok.cons (so_iconst dX5_pass_78 (by decide) rfl) <|
  Ok.cons (so_goto dX5_pass_79 (by decide)) <|
  Ok.cons (so_iconst dX5_pass_82 (by decide) rfl) <|
  Ok.cons (so_ior dX5_pass_83 rfl) <|
  Ok.cons (so_istore_n dX5_pass_84 rfl (by decide) rfl) <|
  Ok.cons (so_aload_n dX5_pass_85 rfl rfl) <|
  Ok.cons (so_gf (C := RX5) (T := TX5) (N := 13) inGX5 rfl (by decide) wq_271 rfl dX5_pass_86 rfl) <|
  Ok.cons (so_iload_n dX5_pass_89 rfl rfl) <|
  Ok.cons (so_ia0 dX5_pass_90 rfl) <|
  Ok.cons (so_bipush dX5_pass_91 (by decide) rfl) <|
  Ok.cons (so_clt dX5_pass_93 (by decide) rfl) <|
  Ok.cons (so_aload_n dX5_pass_96 rfl rfl) <|
  Ok.cons (so_iload_n dX5_pass_97 rfl rfl) <|
  Ok.cons (so_iload_n dX5_pass_98 rfl rfl) <|
  Ok.cons (so_vv0 (ct_X5_work l) wq_629 wq_626 wq_628 wq_28 wq_93 (by decide +kernel) (by decide) rfl rfl dX5_pass_99 rfl) <|
  Ok.cons (so_iconst dX5_pass_102 (by decide) rfl) <|
  Ok.cons (so_istore_n dX5_pass_103 rfl (by decide) rfl) <|
  Ok.cons (so_iinc dX5_pass_104 (by decide) (by decide) rfl) <|
  Ok.cons (so_goto dX5_pass_107 (by decide)) <|
  Ok.cons (so_iload_n dX5_pass_110 rfl rfl) <|
  Ok.cons (so_zr rfl dX5_pass_111) <| Ok.nil
theorem ct_X5_pass (l : Launch) : Ct l yX5_pass cX5_pass 5 (some .boolean) 3 layR f_X5_pass := ofRunL (by decide) rfl (ok_X5_pass l)
noncomputable def t_X5_lastFinished : Tbl := [(0, s_ic 1 (-1)),
  (1, s_is 2 1),
  (2, s_ic 3 0),
  (3, s_is 4 2),
  (4, s_al 5 0),
  (5, s_gf 8 layR 5 12),
  (8, s_zne 11 50),
  (11, s_il 12 2),
  (12, s_al 13 0),
  (13, s_gf 16 layR 5 0),
  (16, s_gf 19 layR 2 0),
  (19, s_cge 22 50),
  (22, s_il 23 1),
  (23, s_ic 24 (-1)),
  (24, s_ceq 27 42),
  (27, s_al 28 0),
  (28, s_gf 31 layR 5 7),
  (31, s_il 32 2),
  (32, s_ia 33 layR 0),
  (33, s_al 34 0),
  (34, s_gf 37 layR 5 7),
  (37, s_il 38 1),
  (38, s_ia 39 layR 0),
  (39, s_cle 42 44),
  (42, s_il 43 2),
  (43, s_is 44 1),
  (44, s_in 47 2 1),
  (47, s_go 4),
  (50, s_il 51 1),
  (51, s_ir)]
def cs_X5_lastFinished : Cs := [(4, [0, 1, 2])]
noncomputable def f_X5_lastFinished : List Vv → Mm → Option Ou := lock (sem t_X5_lastFinished cs_X5_lastFinished 3)
set_option maxRecDepth 20000 in
theorem ok_X5_lastFinished (l : Launch) : Ok l RX5 cX5_lastFinished 3 1 (some .int) layR t_X5_lastFinished :=
  Ok.cons (so_iconst dX5_lastFinished_0 (by decide) rfl) <|
  Ok.cons (so_istore_n dX5_lastFinished_1 rfl (by decide) rfl) <|
  Ok.cons (so_iconst dX5_lastFinished_2 (by decide) rfl) <|
  Ok.cons (so_istore_n dX5_lastFinished_3 rfl (by decide) rfl) <|
  Ok.cons (so_aload_n dX5_lastFinished_4 rfl rfl) <|
  Ok.cons (so_gf (C := RX5) (T := TX5) (N := 13) inGX5 rfl (by decide) wq_286 rfl dX5_lastFinished_5 rfl) <|
  Ok.cons (so_zne dX5_lastFinished_8 (by decide) rfl) <|
  Ok.cons (so_iload_n dX5_lastFinished_11 rfl rfl) <|
  Ok.cons (so_aload_n dX5_lastFinished_12 rfl rfl) <|
  Ok.cons (so_gf (C := RX5) (T := TX5) (N := 13) inGX5 rfl (by decide) wq_268 rfl dX5_lastFinished_13 rfl) <|
  Ok.cons (so_gf (C := RX2) (T := TX2) (N := 12) inGX2 rfl (by decide) wq_126 rfl dX5_lastFinished_16 rfl) <|
  Ok.cons (so_cge dX5_lastFinished_19 (by decide) rfl) <|
  Ok.cons (so_iload_n dX5_lastFinished_22 rfl rfl) <|
  Ok.cons (so_iconst dX5_lastFinished_23 (by decide) rfl) <|
  Ok.cons (so_ceq dX5_lastFinished_24 (by decide) rfl) <|
  Ok.cons (so_aload_n dX5_lastFinished_27 rfl rfl) <|
  Ok.cons (so_gf (C := RX5) (T := TX5) (N := 13) inGX5 rfl (by decide) wq_278 rfl dX5_lastFinished_28 rfl) <|
  Ok.cons (so_iload_n dX5_lastFinished_31 rfl rfl) <|
  Ok.cons (so_ia0 dX5_lastFinished_32 rfl) <|
  Ok.cons (so_aload_n dX5_lastFinished_33 rfl rfl) <|
  Ok.cons (so_gf (C := RX5) (T := TX5) (N := 13) inGX5 rfl (by decide) wq_278 rfl dX5_lastFinished_34 rfl) <|
  Ok.cons (so_iload_n dX5_lastFinished_37 rfl rfl) <|
  Ok.cons (so_ia0 dX5_lastFinished_38 rfl) <|
  Ok.cons (so_cle dX5_lastFinished_39 (by decide) rfl) <|
  Ok.cons (so_iload_n dX5_lastFinished_42 rfl rfl) <|
  Ok.cons (so_istore_n dX5_lastFinished_43 rfl (by decide) rfl) <|
  Ok.cons (so_iinc dX5_lastFinished_44 (by decide) (by decide) rfl) <|
  Ok.cons (so_goto dX5_lastFinished_47 (by decide)) <|
  Ok.cons (so_iload_n dX5_lastFinished_50 rfl rfl) <|
  Ok.cons (so_ir rfl dX5_lastFinished_51) <| Ok.nil
theorem ct_X5_lastFinished (l : Launch) : Ct l yX5_lastFinished cX5_lastFinished 3 (some .int) 1 layR f_X5_lastFinished := ofRunL (by decide) rfl (ok_X5_lastFinished l)
noncomputable def t_X5_endMinute : Tbl := [(0, s_al 1 0),
  (1, s_ci0 true 4 1 f_X5_lastFinished),
  (4, s_is 5 1),
  (5, s_il 6 1),
  (6, s_ic 7 (-1)),
  (7, s_ceq 10 17),
  (10, s_al 11 0),
  (11, s_gf 14 layR 5 7),
  (14, s_il 15 1),
  (15, s_ia 16 layR 0),
  (16, s_ir),
  (17, s_al 18 0),
  (18, s_gf 21 layR 5 12),
  (21, s_zle 24 28),
  (24, s_ic 25 (-1)),
  (25, s_go 29),
  (28, s_ic 29 0),
  (29, s_ir)]
def cs_X5_endMinute : Cs := []
noncomputable def f_X5_endMinute : List Vv → Mm → Option Ou := lock (sem t_X5_endMinute cs_X5_endMinute 2)
set_option maxRecDepth 20000 in
theorem ok_X5_endMinute (l : Launch) : Ok l RX5 cX5_endMinute 2 2 (some .int) layR t_X5_endMinute :=
  Ok.cons (so_aload_n dX5_endMinute_0 rfl rfl) <|
  Ok.cons (so_vi0 (ct_X5_lastFinished l) wq_637 wq_634 wq_635 wq_636 wq_93 (by decide +kernel) (by decide) rfl rfl dX5_endMinute_1 rfl) <|
  Ok.cons (so_istore_n dX5_endMinute_4 rfl (by decide) rfl) <|
  Ok.cons (so_iload_n dX5_endMinute_5 rfl rfl) <|
  Ok.cons (so_iconst dX5_endMinute_6 (by decide) rfl) <|
  Ok.cons (so_ceq dX5_endMinute_7 (by decide) rfl) <|
  Ok.cons (so_aload_n dX5_endMinute_10 rfl rfl) <|
  Ok.cons (so_gf (C := RX5) (T := TX5) (N := 13) inGX5 rfl (by decide) wq_278 rfl dX5_endMinute_11 rfl) <|
  Ok.cons (so_iload_n dX5_endMinute_14 rfl rfl) <|
  Ok.cons (so_ia0 dX5_endMinute_15 rfl) <|
  Ok.cons (so_ir rfl dX5_endMinute_16) <|
  Ok.cons (so_aload_n dX5_endMinute_17 rfl rfl) <|
  Ok.cons (so_gf (C := RX5) (T := TX5) (N := 13) inGX5 rfl (by decide) wq_286 rfl dX5_endMinute_18 rfl) <|
  Ok.cons (so_zle dX5_endMinute_21 (by decide) rfl) <|
  Ok.cons (so_iconst dX5_endMinute_24 (by decide) rfl) <|
  Ok.cons (so_goto dX5_endMinute_25 (by decide)) <|
  Ok.cons (so_iconst dX5_endMinute_28 (by decide) rfl) <|
  Ok.cons (so_ir rfl dX5_endMinute_29) <| Ok.nil
theorem ct_X5_endMinute (l : Launch) : Ct l yX5_endMinute cX5_endMinute 2 (some .int) 2 layR f_X5_endMinute := ofRunL (by decide) rfl (ok_X5_endMinute l)
noncomputable def t_X5_endWithin : Tbl := [(0, s_al 1 0),
  (1, s_cv0 true 4 1 f_X5_begin),
  (4, s_ic 5 1),
  (5, s_is 6 2),
  (6, s_ic 7 0),
  (7, s_is 8 3),
  (8, s_il 9 3),
  (9, s_il 10 1),
  (10, s_cge 13 48),
  (13, s_al 14 0),
  (14, s_gf 17 layR 5 12),
  (17, s_zle 20 48),
  (20, s_il 21 2),
  (21, s_zeq 24 48),
  (24, s_al 25 0),
  (25, s_cv0 true 28 1 f_X5_clearAnvils),
  (28, s_al 29 0),
  (29, s_cv0 true 32 1 f_X5_fillAnvils),
  (32, s_al 33 0),
  (33, s_cv0 true 36 1 f_X5_fillPlaces),
  (36, s_al 37 0),
  (37, s_il 38 3),
  (38, s_ci0 true 41 2 f_X5_pass),
  (41, s_is 42 2),
  (42, s_in 45 3 1),
  (45, s_go 8),
  (48, s_al 49 0),
  (49, s_ci0 true 52 1 f_X5_endMinute),
  (52, s_ir)]
def cs_X5_endWithin : Cs := [(8, [0, 1, 2, 3]), (48, [0])]
noncomputable def f_X5_endWithin : List Vv → Mm → Option Ou := lock (sem t_X5_endWithin cs_X5_endWithin 4)
set_option maxRecDepth 20000 in
theorem ok_X5_endWithin (l : Launch) : Ok l RX5 cX5_endWithin 4 4 (some .int) layR t_X5_endWithin :=
  Ok.cons (so_aload_n dX5_endWithin_0 rfl rfl) <|
  Ok.cons (so_vv0 (ct_X5_begin l) wq_549 wq_663 wq_547 wq_548 wq_93 (by decide +kernel) (by decide) rfl rfl dX5_endWithin_1 rfl) <|
  Ok.cons (so_iconst dX5_endWithin_4 (by decide) rfl) <|
  Ok.cons (so_istore_n dX5_endWithin_5 rfl (by decide) rfl) <|
  Ok.cons (so_iconst dX5_endWithin_6 (by decide) rfl) <|
  Ok.cons (so_istore_n dX5_endWithin_7 rfl (by decide) rfl) <|
  Ok.cons (so_iload_n dX5_endWithin_8 rfl rfl) <|
  Ok.cons (so_iload_n dX5_endWithin_9 rfl rfl) <|
  Ok.cons (so_cge dX5_endWithin_10 (by decide) rfl) <|
  Ok.cons (so_aload_n dX5_endWithin_13 rfl rfl) <|
  Ok.cons (so_gf (C := RX5) (T := TX5) (N := 13) inGX5 rfl (by decide) wq_286 rfl dX5_endWithin_14 rfl) <|
  Ok.cons (so_zle dX5_endWithin_17 (by decide) rfl) <|
  Ok.cons (so_iload_n dX5_endWithin_20 rfl rfl) <|
  Ok.cons (so_zeq dX5_endWithin_21 (by decide) rfl) <|
  Ok.cons (so_aload_n dX5_endWithin_24 rfl rfl) <|
  Ok.cons (so_vv0 (ct_X5_clearAnvils l) wq_573 wq_664 wq_571 wq_572 wq_93 (by decide +kernel) (by decide) rfl rfl dX5_endWithin_25 rfl) <|
  Ok.cons (so_aload_n dX5_endWithin_28 rfl rfl) <|
  Ok.cons (so_vv0 (ct_X5_fillAnvils l) wq_581 wq_665 wq_579 wq_580 wq_93 (by decide +kernel) (by decide) rfl rfl dX5_endWithin_29 rfl) <|
  Ok.cons (so_aload_n dX5_endWithin_32 rfl rfl) <|
  Ok.cons (so_vv0 (ct_X5_fillPlaces l) wq_601 wq_666 wq_599 wq_600 wq_93 (by decide +kernel) (by decide) rfl rfl dX5_endWithin_33 rfl) <|
  Ok.cons (so_aload_n dX5_endWithin_36 rfl rfl) <|
  Ok.cons (so_iload_n dX5_endWithin_37 rfl rfl) <|
  Ok.cons (so_vi0 (ct_X5_pass l) wq_613 wq_667 wq_611 wq_612 wq_93 (by decide +kernel) (by decide) rfl rfl dX5_endWithin_38 rfl) <|
  Ok.cons (so_istore_n dX5_endWithin_41 rfl (by decide) rfl) <|
  Ok.cons (so_iinc dX5_endWithin_42 (by decide) (by decide) rfl) <|
  Ok.cons (so_goto dX5_endWithin_45 (by decide)) <|
  Ok.cons (so_aload_n dX5_endWithin_48 rfl rfl) <|
  Ok.cons (so_vi0 (ct_X5_endMinute l) wq_633 wq_668 wq_631 wq_632 wq_93 (by decide +kernel) (by decide) rfl rfl dX5_endWithin_49 rfl) <|
  Ok.cons (so_ir rfl dX5_endWithin_52) <| Ok.nil
theorem ct_X5_endWithin (l : Launch) : Ct l yX5_endWithin cX5_endWithin 4 (some .int) 4 layR f_X5_endWithin := ofRunL (by decide) rfl (ok_X5_endWithin l)
