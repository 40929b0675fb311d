noncomputable def t_X3_writeState : Tbl := [(0, s_ic 1 0),
  (1, s_is 2 2),
  (2, s_il 3 2),
  (3, s_al 4 0),
  (4, s_gf 7 layL 3 0),
  (7, s_gf 10 layL 2 0),
  (10, s_cge 13 61),
  (13, s_al 14 0),
  (14, s_gf 17 layL 3 2),
  (17, s_il 18 2),
  (18, s_ic 21 481),
  (21, s_b 22 (fun x y => x * y)),
  (22, s_il 23 1),
  (23, s_b 24 (fun x y => x + y)),
  (24, s_al 25 0),
  (25, s_gf 28 layL 3 1),
  (28, s_gf 31 layL 5 1),
  (31, s_il 32 2),
  (32, s_ia 33 layL 0),
  (33, s_ix 34 layL 0),
  (34, s_al 35 0),
  (35, s_gf 38 layL 3 3),
  (38, s_il 39 2),
  (39, s_ic 42 481),
  (42, s_b 43 (fun x y => x * y)),
  (43, s_il 44 1),
  (44, s_b 45 (fun x y => x + y)),
  (45, s_al 46 0),
  (46, s_gf 49 layL 3 1),
  (49, s_gf 52 layL 5 3),
  (52, s_il 53 2),
  (53, s_ia 54 layL 0),
  (54, s_ix 55 layL 0),
  (55, s_in 58 2 1),
  (58, s_go 2),
  (61, s_vr)]
def cs_X3_writeState : Cs := [(2, [0, 1, 2])]
noncomputable def f_X3_writeState : List Vv → Mm → Option Ou := lock (sem t_X3_writeState cs_X3_writeState 3)
set_option maxRecDepth 20000 in
theorem ok_X3_writeState (l : Launch) : Ok l RX3 cX3_writeState 3 1 none layL t_X3_writeState :=
  Ok.cons (so_iconst dX3_writeState_0 (by decide) rfl) <|
  Ok.cons (so_istore_n dX3_writeState_1 rfl (by decide) rfl) <|
  Ok.cons (so_iload_n dX3_writeState_2 rfl rfl) <|
  Ok.cons (so_aload_n dX3_writeState_3 rfl rfl) <|
  Ok.cons (so_gf (C := RX3) (T := TX3) (N := 5) inGX3 rfl (by decide) wq_314 rfl dX3_writeState_4 rfl) <|
  Ok.cons (so_gf (C := RX2) (T := TX2) (N := 12) inGX2 rfl (by decide) wq_125 rfl dX3_writeState_7 rfl) <|
  Ok.cons (so_cge dX3_writeState_10 (by decide) rfl) <|
  Ok.cons (so_aload_n dX3_writeState_13 rfl rfl) <|
  Ok.cons (so_gf (C := RX3) (T := TX3) (N := 5) inGX3 rfl (by decide) wq_317 rfl dX3_writeState_14 rfl) <|
  Ok.cons (so_iload_n dX3_writeState_17 rfl rfl) <|
  Ok.cons (so_sipush dX3_writeState_18 (by decide) rfl) <|
  Ok.cons (so_imul dX3_writeState_21 rfl) <|
  Ok.cons (so_iload_n dX3_writeState_22 rfl rfl) <|
  Ok.cons (so_iadd dX3_writeState_23 rfl) <|
  Ok.cons (so_aload_n dX3_writeState_24 rfl rfl) <|
  Ok.cons (so_gf (C := RX3) (T := TX3) (N := 5) inGX3 rfl (by decide) wq_315 rfl dX3_writeState_25 rfl) <|
  Ok.cons (so_gf (C := RX5) (T := TX5) (N := 13) inGX5 rfl (by decide) wq_270 rfl dX3_writeState_28 rfl) <|
  Ok.cons (so_iload_n dX3_writeState_31 rfl rfl) <|
  Ok.cons (so_ia0 dX3_writeState_32 rfl) <|
  Ok.cons (so_ix dX3_writeState_33 rfl) <|
  Ok.cons (so_aload_n dX3_writeState_34 rfl rfl) <|
  Ok.cons (so_gf (C := RX3) (T := TX3) (N := 5) inGX3 rfl (by decide) wq_318 rfl dX3_writeState_35 rfl) <|
  Ok.cons (so_iload_n dX3_writeState_38 rfl rfl) <|
  Ok.cons (so_sipush dX3_writeState_39 (by decide) rfl) <|
  Ok.cons (so_imul dX3_writeState_42 rfl) <|
  Ok.cons (so_iload_n dX3_writeState_43 rfl rfl) <|
  Ok.cons (so_iadd dX3_writeState_44 rfl) <|
  Ok.cons (so_aload_n dX3_writeState_45 rfl rfl) <|
  Ok.cons (so_gf (C := RX3) (T := TX3) (N := 5) inGX3 rfl (by decide) wq_315 rfl dX3_writeState_46 rfl) <|
  Ok.cons (so_gf (C := RX5) (T := TX5) (N := 13) inGX5 rfl (by decide) wq_274 rfl dX3_writeState_49 rfl) <|
  Ok.cons (so_iload_n dX3_writeState_52 rfl rfl) <|
  Ok.cons (so_ia0 dX3_writeState_53 rfl) <|
  Ok.cons (so_ix dX3_writeState_54 rfl) <|
  Ok.cons (so_iinc dX3_writeState_55 (by decide) (by decide) rfl) <|
  Ok.cons (so_goto dX3_writeState_58 (by decide)) <|
  Ok.cons (so_vr rfl dX3_writeState_61) <| Ok.nil
theorem ct_X3_writeState (l : Launch) : Ct l yX3_writeState cX3_writeState 3 none 1 layL f_X3_writeState := ofRunL (by decide) rfl (ok_X3_writeState l)
noncomputable def t_X3_writeSpots : Tbl := [(0, s_ic 1 0),
  (1, s_is 2 2),
  (2, s_il 3 2),
  (3, s_al 4 0),
  (4, s_gf 7 layL 3 0),
  (7, s_gf 10 layL 2 0),
  (10, s_cge 13 40),
  (13, s_al 14 0),
  (14, s_gf 17 layL 3 4),
  (17, s_il 18 2),
  (18, s_ic 21 480),
  (21, s_b 22 (fun x y => x * y)),
  (22, s_il 23 1),
  (23, s_b 24 (fun x y => x + y)),
  (24, s_al 25 0),
  (25, s_gf 28 layL 3 1),
  (28, s_gf 31 layL 5 2),
  (31, s_il 32 2),
  (32, s_ia 33 layL 0),
  (33, s_ix 34 layL 0),
  (34, s_in 37 2 1),
  (37, s_go 2),
  (40, s_vr)]
def cs_X3_writeSpots : Cs := [(2, [0, 1, 2])]
noncomputable def f_X3_writeSpots : List Vv → Mm → Option Ou := lock (sem t_X3_writeSpots cs_X3_writeSpots 3)
set_option maxRecDepth 20000 in
theorem ok_X3_writeSpots (l : Launch) : Ok l RX3 cX3_writeSpots 3 1 none layL t_X3_writeSpots :=
  Ok.cons (so_iconst dX3_writeSpots_0 (by decide) rfl) <|
  Ok.cons (so_istore_n dX3_writeSpots_1 rfl (by decide) rfl) <|
  Ok.cons (so_iload_n dX3_writeSpots_2 rfl rfl) <|
  Ok.cons (so_aload_n dX3_writeSpots_3 rfl rfl) <|
  Ok.cons (so_gf (C := RX3) (T := TX3) (N := 5) inGX3 rfl (by decide) wq_314 rfl dX3_writeSpots_4 rfl) <|
  Ok.cons (so_gf (C := RX2) (T := TX2) (N := 12) inGX2 rfl (by decide) wq_125 rfl dX3_writeSpots_7 rfl) <|
  Ok.cons (so_cge dX3_writeSpots_10 (by decide) rfl) <|
  Ok.cons (so_aload_n dX3_writeSpots_13 rfl rfl) <|
  Ok.cons (so_gf (C := RX3) (T := TX3) (N := 5) inGX3 rfl (by decide) wq_319 rfl dX3_writeSpots_14 rfl) <|
  Ok.cons (so_iload_n dX3_writeSpots_17 rfl rfl) <|
  Ok.cons (so_sipush dX3_writeSpots_18 (by decide) rfl) <|
  Ok.cons (so_imul dX3_writeSpots_21 rfl) <|
  Ok.cons (so_iload_n dX3_writeSpots_22 rfl rfl) <|
  Ok.cons (so_iadd dX3_writeSpots_23 rfl) <|
  Ok.cons (so_aload_n dX3_writeSpots_24 rfl rfl) <|
  Ok.cons (so_gf (C := RX3) (T := TX3) (N := 5) inGX3 rfl (by decide) wq_315 rfl dX3_writeSpots_25 rfl) <|
  Ok.cons (so_gf (C := RX5) (T := TX5) (N := 13) inGX5 rfl (by decide) wq_272 rfl dX3_writeSpots_28 rfl) <|
  Ok.cons (so_iload_n dX3_writeSpots_31 rfl rfl) <|
  Ok.cons (so_ia0 dX3_writeSpots_32 rfl) <|
  Ok.cons (so_ix dX3_writeSpots_33 rfl) <|
  Ok.cons (so_iinc dX3_writeSpots_34 (by decide) (by decide) rfl) <|
  Ok.cons (so_goto dX3_writeSpots_37 (by decide)) <|
  Ok.cons (so_vr rfl dX3_writeSpots_40) <| Ok.nil
theorem ct_X3_writeSpots (l : Launch) : Ct l yX3_writeSpots cX3_writeSpots 3 none 1 layL f_X3_writeSpots := ofRunL (by decide) rfl (ok_X3_writeSpots l)
noncomputable def t_X3_write : Tbl := [(0, s_al 1 0),
  (1, s_gf 4 layL 3 1),
  (4, s_cv true 7 1 (sgC 4 23) f_X5_begin),
  (7, s_al 8 0),
  (8, s_ic 9 0),
  (9, s_cv0 true 12 2 f_X3_writeState),
  (12, s_ic 13 0),
  (13, s_is 14 1),
  (14, s_il 15 1),
  (15, s_ic 18 480),
  (18, s_cge 21 69),
  (21, s_al 22 0),
  (22, s_gf 25 layL 3 1),
  (25, s_cv true 28 1 (sgC 4 23) f_X5_clearAnvils),
  (28, s_al 29 0),
  (29, s_gf 32 layL 3 1),
  (32, s_cv true 35 1 (sgC 4 23) f_X5_fillAnvils),
  (35, s_al 36 0),
  (36, s_gf 39 layL 3 1),
  (39, s_cv true 42 1 (sgC 4 23) f_X5_fillPlaces),
  (42, s_al 43 0),
  (43, s_il 44 1),
  (44, s_cv0 true 47 2 f_X3_writeSpots),
  (47, s_al 48 0),
  (48, s_gf 51 layL 3 1),
  (51, s_il 52 1),
  (52, s_ci true 55 2 (sgC 4 23) f_X5_pass),
  (55, s_pop 56),
  (56, s_al 57 0),
  (57, s_il 58 1),
  (58, s_ic 59 1),
  (59, s_b 60 (fun x y => x + y)),
  (60, s_cv0 true 63 2 f_X3_writeState),
  (63, s_in 66 1 1),
  (66, s_go 14),
  (69, s_vr)]
def cs_X3_write : Cs := [(14, [0, 1])]
noncomputable def f_X3_write : List Vv → Mm → Option Ou := lock (sem t_X3_write cs_X3_write 2)
set_option maxRecDepth 20000 in
theorem ok_X3_write (l : Launch) : Ok l RX3 cX3_write 2 4 none layL t_X3_write :=
  Ok.cons (so_aload_n dX3_write_0 rfl rfl) <|
  Ok.cons (so_gf (C := RX3) (T := TX3) (N := 5) inGX3 rfl (by decide) wq_315 rfl dX3_write_1 rfl) <|
  Ok.cons (so_vv (ct_X5_begin l) wq_549 wq_546 wq_547 wq_548 wq_93 (by decide +kernel) (by decide) rfl rfl cmp_layL_sgC_4_23 dX3_write_4 rfl) <|
  Ok.cons (so_aload_n dX3_write_7 rfl rfl) <|
  Ok.cons (so_iconst dX3_write_8 (by decide) rfl) <|
  Ok.cons (so_vv0 (ct_X3_writeState l) wq_569 wq_566 wq_568 wq_18 wq_92 (by decide +kernel) (by decide) rfl rfl dX3_write_9 rfl) <|
  Ok.cons (so_iconst dX3_write_12 (by decide) rfl) <|
  Ok.cons (so_istore_n dX3_write_13 rfl (by decide) rfl) <|
  Ok.cons (so_iload_n dX3_write_14 rfl rfl) <|
  Ok.cons (so_sipush dX3_write_15 (by decide) rfl) <|
  Ok.cons (so_cge dX3_write_18 (by decide) rfl) <|
  Ok.cons (so_aload_n dX3_write_21 rfl rfl) <|
  Ok.cons (so_gf (C := RX3) (T := TX3) (N := 5) inGX3 rfl (by decide) wq_315 rfl dX3_write_22 rfl) <|
  Ok.cons (so_vv (ct_X5_clearAnvils l) wq_573 wq_570 wq_571 wq_572 wq_93 (by decide +kernel) (by decide) rfl rfl cmp_layL_sgC_4_23 dX3_write_25 rfl) <|
  Ok.cons (so_aload_n dX3_write_28 rfl rfl) <|
  Ok.cons (so_gf (C := RX3) (T := TX3) (N := 5) inGX3 rfl (by decide) wq_315 rfl dX3_write_29 rfl) <|
  Ok.cons (so_vv (ct_X5_fillAnvils l) wq_581 wq_578 wq_579 wq_580 wq_93 (by decide +kernel) (by decide) rfl rfl cmp_layL_sgC_4_23 dX3_write_32 rfl) <|
  Ok.cons (so_aload_n dX3_write_35 rfl rfl) <|
  Ok.cons (so_gf (C := RX3) (T := TX3) (N := 5) inGX3 rfl (by decide) wq_315 rfl dX3_write_36 rfl) <|
  Ok.cons (so_vv (ct_X5_fillPlaces l) wq_601 wq_598 wq_599 wq_600 wq_93 (by decide +kernel) (by decide) rfl rfl cmp_layL_sgC_4_23 dX3_write_39 rfl) <|
  Ok.cons (so_aload_n dX3_write_42 rfl rfl) <|
  Ok.cons (so_iload_n dX3_write_43 rfl rfl) <|
  Ok.cons (so_vv0 (ct_X3_writeSpots l) wq_609 wq_606 wq_608 wq_25 wq_92 (by decide +kernel) (by decide) rfl rfl dX3_write_44 rfl) <|
  Ok.cons (so_aload_n dX3_write_47 rfl rfl) <|
  Ok.cons (so_gf (C := RX3) (T := TX3) (N := 5) inGX3 rfl (by decide) wq_315 rfl dX3_write_48 rfl) <|
  Ok.cons (so_iload_n dX3_write_51 rfl rfl) <|
  Ok.cons (so_vi (ct_X5_pass l) wq_613 wq_610 wq_611 wq_612 wq_93 (by decide +kernel) (by decide) rfl rfl cmp_layL_sgC_4_23 dX3_write_52 rfl) <|
  Ok.cons (so_pop dX3_write_55 rfl) <|
  Ok.cons (so_aload_n dX3_write_56 rfl rfl) <|
  Ok.cons (so_iload_n dX3_write_57 rfl rfl) <|
  Ok.cons (so_iconst dX3_write_58 (by decide) rfl) <|
  Ok.cons (so_iadd dX3_write_59 rfl) <|
  Ok.cons (so_vv0 (ct_X3_writeState l) wq_569 wq_566 wq_568 wq_18 wq_92 (by decide +kernel) (by decide) rfl rfl dX3_write_60 rfl) <|
  Ok.cons (so_iinc dX3_write_63 (by decide) (by decide) rfl) <|
  Ok.cons (so_goto dX3_write_66 (by decide)) <|
  Ok.cons (so_vr rfl dX3_write_69) <| Ok.nil
theorem ct_X3_write (l : Launch) : Ct l yX3_write cX3_write 2 none 4 layL f_X3_write := ofRunL (by decide) rfl (ok_X3_write l)
noncomputable def t_X3_heatOf : Tbl := [(0, s_al 1 0),
  (1, s_gf 4 layL 3 2),
  (4, s_il 5 1),
  (5, s_ic 8 481),
  (8, s_b 9 (fun x y => x * y)),
  (9, s_il 10 2),
  (10, s_b 11 (fun x y => x + y)),
  (11, s_ia 12 layL 0),
  (12, s_ir)]
def cs_X3_heatOf : Cs := []
noncomputable def f_X3_heatOf : List Vv → Mm → Option Ou := lock (sem t_X3_heatOf cs_X3_heatOf 3)
set_option maxRecDepth 20000 in
theorem ok_X3_heatOf (l : Launch) : Ok l RX3 cX3_heatOf 3 1 (some .int) layL t_X3_heatOf :=
  Ok.cons (so_aload_n dX3_heatOf_0 rfl rfl) <|
  Ok.cons (so_gf (C := RX3) (T := TX3) (N := 5) inGX3 rfl (by decide) wq_317 rfl dX3_heatOf_1 rfl) <|
  Ok.cons (so_iload_n dX3_heatOf_4 rfl rfl) <|
  Ok.cons (so_sipush dX3_heatOf_5 (by decide) rfl) <|
  Ok.cons (so_imul dX3_heatOf_8 rfl) <|
  Ok.cons (so_iload_n dX3_heatOf_9 rfl rfl) <|
  Ok.cons (so_iadd dX3_heatOf_10 rfl) <|
  Ok.cons (so_ia0 dX3_heatOf_11 rfl) <|
  Ok.cons (so_ir rfl dX3_heatOf_12) <| Ok.nil
theorem ct_X3_heatOf (l : Launch) : Ct l yX3_heatOf cX3_heatOf 3 (some .int) 1 layL f_X3_heatOf := ofRunL (by decide) rfl (ok_X3_heatOf l)
noncomputable def t_X3_stepsOf : Tbl := [(0, s_al 1 0),
  (1, s_gf 4 layL 3 3),
  (4, s_il 5 1),
  (5, s_ic 8 481),
  (8, s_b 9 (fun x y => x * y)),
  (9, s_il 10 2),
  (10, s_b 11 (fun x y => x + y)),
  (11, s_ia 12 layL 0),
  (12, s_ir)]
def cs_X3_stepsOf : Cs := []
noncomputable def f_X3_stepsOf : List Vv → Mm → Option Ou := lock (sem t_X3_stepsOf cs_X3_stepsOf 3)
set_option maxRecDepth 20000 in
theorem ok_X3_stepsOf (l : Launch) : Ok l RX3 cX3_stepsOf 3 1 (some .int) layL t_X3_stepsOf :=
  Ok.cons (so_aload_n dX3_stepsOf_0 rfl rfl) <|
  Ok.cons (so_gf (C := RX3) (T := TX3) (N := 5) inGX3 rfl (by decide) wq_318 rfl dX3_stepsOf_1 rfl) <|
  Ok.cons (so_iload_n dX3_stepsOf_4 rfl rfl) <|
  Ok.cons (so_sipush dX3_stepsOf_5 (by decide) rfl) <|
  Ok.cons (so_imul dX3_stepsOf_8 rfl) <|
  Ok.cons (so_iload_n dX3_stepsOf_9 rfl rfl) <|
  Ok.cons (so_iadd dX3_stepsOf_10 rfl) <|
  Ok.cons (so_ia0 dX3_stepsOf_11 rfl) <|
  Ok.cons (so_ir rfl dX3_stepsOf_12) <| Ok.nil
theorem ct_X3_stepsOf (l : Launch) : Ct l yX3_stepsOf cX3_stepsOf 3 (some .int) 1 layL f_X3_stepsOf := ofRunL (by decide) rfl (ok_X3_stepsOf l)
noncomputable def t_X3_spotOf : Tbl := [(0, s_al 1 0),
  (1, s_gf 4 layL 3 4),
  (4, s_il 5 1),
  (5, s_ic 8 480),
  (8, s_b 9 (fun x y => x * y)),
  (9, s_il 10 2),
  (10, s_b 11 (fun x y => x + y)),
  (11, s_ia 12 layL 0),
  (12, s_ir)]
def cs_X3_spotOf : Cs := []
noncomputable def f_X3_spotOf : List Vv → Mm → Option Ou := lock (sem t_X3_spotOf cs_X3_spotOf 3)
set_option maxRecDepth 20000 in
theorem ok_X3_spotOf (l : Launch) : Ok l RX3 cX3_spotOf 3 1 (some .int) layL t_X3_spotOf :=
  Ok.cons (so_aload_n dX3_spotOf_0 rfl rfl) <|
  Ok.cons (so_gf (C := RX3) (T := TX3) (N := 5) inGX3 rfl (by decide) wq_319 rfl dX3_spotOf_1 rfl) <|
  Ok.cons (so_iload_n dX3_spotOf_4 rfl rfl) <|
  Ok.cons (so_sipush dX3_spotOf_5 (by decide) rfl) <|
  Ok.cons (so_imul dX3_spotOf_8 rfl) <|
  Ok.cons (so_iload_n dX3_spotOf_9 rfl rfl) <|
  Ok.cons (so_iadd dX3_spotOf_10 rfl) <|
  Ok.cons (so_ia0 dX3_spotOf_11 rfl) <|
  Ok.cons (so_ir rfl dX3_spotOf_12) <| Ok.nil
theorem ct_X3_spotOf (l : Launch) : Ct l yX3_spotOf cX3_spotOf 3 (some .int) 1 layL f_X3_spotOf := ofRunL (by decide) rfl (ok_X3_spotOf l)
noncomputable def t_X3_greatestHeat : Tbl := [(0, s_ic 2 20),
  (2, s_is 3 2),
  (3, s_ic 4 0),
  (4, s_is 5 3),
  (5, s_il 6 3),
  (6, s_ic 9 480),
  (9, s_cgt 12 29),
  (12, s_il 13 2),
  (13, s_al 14 0),
  (14, s_il 15 1),
  (15, s_il 16 3),
  (16, s_ci0 true 19 3 f_X3_heatOf),
  (19, s_m 22 (fun x y => if x < y then y else x)),
  (22, s_is 23 2),
  (23, s_in 26 3 1),
  (26, s_go 5),
  (29, s_il 30 2),
  (30, s_ir)]
def cs_X3_greatestHeat : Cs := [(5, [0, 1, 2, 3])]
noncomputable def f_X3_greatestHeat : List Vv → Mm → Option Ou := lock (sem t_X3_greatestHeat cs_X3_greatestHeat 4)
set_option maxRecDepth 20000 in
theorem ok_X3_greatestHeat (l : Launch) : Ok l RX3 cX3_greatestHeat 4 2 (some .int) layL t_X3_greatestHeat :=
  Ok.cons (so_bipush dX3_greatestHeat_0 (by decide) rfl) <|
  Ok.cons (so_istore_n dX3_greatestHeat_2 rfl (by decide) rfl) <|
  Ok.cons (so_iconst dX3_greatestHeat_3 (by decide) rfl) <|
  Ok.cons (so_istore_n dX3_greatestHeat_4 rfl (by decide) rfl) <|
  Ok.cons (so_iload_n dX3_greatestHeat_5 rfl rfl) <|
  Ok.cons (so_sipush dX3_greatestHeat_6 (by decide) rfl) <|
  Ok.cons (so_cgt dX3_greatestHeat_9 (by decide) rfl) <|
  Ok.cons (so_iload_n dX3_greatestHeat_12 rfl rfl) <|
  Ok.cons (so_aload_n dX3_greatestHeat_13 rfl rfl) <|
  Ok.cons (so_iload_n dX3_greatestHeat_14 rfl rfl) <|
  Ok.cons (so_iload_n dX3_greatestHeat_15 rfl rfl) <|
  Ok.cons (so_vi0 (ct_X3_heatOf l) wq_985 wq_1068 wq_983 wq_984 wq_92 (by decide +kernel) (by decide) rfl rfl dX3_greatestHeat_16 rfl) <|
  Ok.cons (so_max (by decide) wq_1069 wq_624 wq_96 wc_max dX3_greatestHeat_19 rfl) <|
  Ok.cons (so_istore_n dX3_greatestHeat_22 rfl (by decide) rfl) <|
  Ok.cons (so_iinc dX3_greatestHeat_23 (by decide) (by decide) rfl) <|
  Ok.cons (so_goto dX3_greatestHeat_26 (by decide)) <|
  Ok.cons (so_iload_n dX3_greatestHeat_29 rfl rfl) <|
  Ok.cons (so_ir rfl dX3_greatestHeat_30) <| Ok.nil
theorem ct_X3_greatestHeat (l : Launch) : Ct l yX3_greatestHeat cX3_greatestHeat 4 (some .int) 2 layL f_X3_greatestHeat := ofRunL (by decide) rfl (ok_X3_greatestHeat l)
noncomputable def t_X3_minutesInFire : Tbl := [(0, s_ic 1 0),
  (1, s_is 2 2),
  (2, s_ic 3 0),
  (3, s_is 4 3),
  (4, s_il 5 3),
  (5, s_ic 8 480),
  (8, s_cge 11 41),
  (11, s_al 12 0),
  (12, s_il 13 1),
  (13, s_il 14 3),
  (14, s_ci0 true 17 3 f_X3_spotOf),
  (17, s_is 19 4),
  (19, s_il 21 4),
  (21, s_ic 22 1),
  (22, s_clt 25 35),
  (25, s_il 27 4),
  (27, s_ic 29 10),
  (29, s_cge 32 35),
  (32, s_in 35 2 1),
  (35, s_in 38 3 1),
  (38, s_go 4),
  (41, s_il 42 2),
  (42, s_ir)]
def cs_X3_minutesInFire : Cs := [(4, [0, 1, 2, 3])]
noncomputable def f_X3_minutesInFire : List Vv → Mm → Option Ou := lock (sem t_X3_minutesInFire cs_X3_minutesInFire 5)
set_option maxRecDepth 20000 in
theorem ok_X3_minutesInFire (l : Launch) : Ok l RX3 cX3_minutesInFire 5 2 (some .int) layL t_X3_minutesInFire :=
  Ok.cons (so_iconst dX3_minutesInFire_0 (by decide) rfl) <|
  Ok.cons (so_istore_n dX3_minutesInFire_1 rfl (by decide) rfl) <|
  Ok.cons (so_iconst dX3_minutesInFire_2 (by decide) rfl) <|
  Ok.cons (so_istore_n dX3_minutesInFire_3 rfl (by decide) rfl) <|
  Ok.cons (so_iload_n dX3_minutesInFire_4 rfl rfl) <|
  Ok.cons (so_sipush dX3_minutesInFire_5 (by decide) rfl) <|
  Ok.cons (so_cge dX3_minutesInFire_8 (by decide) rfl) <|
  Ok.cons (so_aload_n dX3_minutesInFire_11 rfl rfl) <|
  Ok.cons (so_iload_n dX3_minutesInFire_12 rfl rfl) <|
  Ok.cons (so_iload_n dX3_minutesInFire_13 rfl rfl) <|
  Ok.cons (so_vi0 (ct_X3_spotOf l) wq_795 wq_792 wq_793 wq_794 wq_92 (by decide +kernel) (by decide) rfl rfl dX3_minutesInFire_14 rfl) <|
  Ok.cons (so_istore dX3_minutesInFire_17 (by decide) rfl) <|
  Ok.cons (so_iload dX3_minutesInFire_19 rfl) <|
  Ok.cons (so_iconst dX3_minutesInFire_21 (by decide) rfl) <|
  Ok.cons (so_clt dX3_minutesInFire_22 (by decide) rfl) <|
  Ok.cons (so_iload dX3_minutesInFire_25 rfl) <|
  Ok.cons (so_bipush dX3_minutesInFire_27 (by decide) rfl) <|
  Ok.cons (so_cge dX3_minutesInFire_29 (by decide) rfl) <|
  Ok.cons (so_iinc dX3_minutesInFire_32 (by decide) (by decide) rfl) <|
  Ok.cons (so_iinc dX3_minutesInFire_35 (by decide) (by decide) rfl) <|
  Ok.cons (so_goto dX3_minutesInFire_38 (by decide)) <|
  Ok.cons (so_iload_n dX3_minutesInFire_41 rfl rfl) <|
  Ok.cons (so_ir rfl dX3_minutesInFire_42) <| Ok.nil
theorem ct_X3_minutesInFire (l : Launch) : Ct l yX3_minutesInFire cX3_minutesInFire 5 (some .int) 2 layL f_X3_minutesInFire := ofRunL (by decide) rfl (ok_X3_minutesInFire l)
noncomputable def t_X3_minutesOnRack : Tbl := [(0, s_ic 1 0),
  (1, s_is 2 3),
  (2, s_ic 3 0),
  (3, s_is 5 4),
  (5, s_il 7 4),
  (7, s_ic 10 480),
  (10, s_cge 13 43),
  (13, s_al 14 0),
  (14, s_il 15 1),
  (15, s_il 17 4),
  (17, s_ci0 true 20 3 f_X3_spotOf),
  (20, s_zne 23 37),
  (23, s_al 24 0),
  (24, s_il 25 1),
  (25, s_il 27 4),
  (27, s_ci0 true 30 3 f_X3_stepsOf),
  (30, s_il 31 2),
  (31, s_cge 34 37),
  (34, s_in 37 3 1),
  (37, s_in 40 4 1),
  (40, s_go 5),
  (43, s_il 44 3),
  (44, s_ir)]
def cs_X3_minutesOnRack : Cs := [(5, [0, 1, 2, 3, 4])]
noncomputable def f_X3_minutesOnRack : List Vv → Mm → Option Ou := lock (sem t_X3_minutesOnRack cs_X3_minutesOnRack 5)
set_option maxRecDepth 20000 in
theorem ok_X3_minutesOnRack (l : Launch) : Ok l RX3 cX3_minutesOnRack 5 2 (some .int) layL t_X3_minutesOnRack :=
  Ok.cons (so_iconst dX3_minutesOnRack_0 (by decide) rfl) <|
  Ok.cons (so_istore_n dX3_minutesOnRack_1 rfl (by decide) rfl) <|
  Ok.cons (so_iconst dX3_minutesOnRack_2 (by decide) rfl) <|
  Ok.cons (so_istore dX3_minutesOnRack_3 (by decide) rfl) <|
  Ok.cons (so_iload dX3_minutesOnRack_5 rfl) <|
  Ok.cons (so_sipush dX3_minutesOnRack_7 (by decide) rfl) <|
  Ok.cons (so_cge dX3_minutesOnRack_10 (by decide) rfl) <|
  Ok.cons (so_aload_n dX3_minutesOnRack_13 rfl rfl) <|
  Ok.cons (so_iload_n dX3_minutesOnRack_14 rfl rfl) <|
  Ok.cons (so_iload dX3_minutesOnRack_15 rfl) <|
  Ok.cons (so_vi0 (ct_X3_spotOf l) wq_795 wq_792 wq_793 wq_794 wq_92 (by decide +kernel) (by decide) rfl rfl dX3_minutesOnRack_17 rfl) <|
  Ok.cons (so_zne dX3_minutesOnRack_20 (by decide) rfl) <|
  Ok.cons (so_aload_n dX3_minutesOnRack_23 rfl rfl) <|
  Ok.cons (so_iload_n dX3_minutesOnRack_24 rfl rfl) <|
  Ok.cons (so_iload dX3_minutesOnRack_25 rfl) <|
  Ok.cons (so_vi0 (ct_X3_stepsOf l) wq_778 wq_775 wq_776 wq_777 wq_92 (by decide +kernel) (by decide) rfl rfl dX3_minutesOnRack_27 rfl) <|
  Ok.cons (so_iload_n dX3_minutesOnRack_30 rfl rfl) <|
  Ok.cons (so_cge dX3_minutesOnRack_31 (by decide) rfl) <|
  Ok.cons (so_iinc dX3_minutesOnRack_34 (by decide) (by decide) rfl) <|
  Ok.cons (so_iinc dX3_minutesOnRack_37 (by decide) (by decide) rfl) <|
  Ok.cons (so_goto dX3_minutesOnRack_40 (by decide)) <|
  Ok.cons (so_iload_n dX3_minutesOnRack_43 rfl rfl) <|
  Ok.cons (so_ir rfl dX3_minutesOnRack_44) <| Ok.nil
theorem ct_X3_minutesOnRack (l : Launch) : Ct l yX3_minutesOnRack cX3_minutesOnRack 5 (some .int) 2 layL f_X3_minutesOnRack := ofRunL (by decide) rfl (ok_X3_minutesOnRack l)
noncomputable def t_X3_firstOnAnvil : Tbl := [(0, s_ic 1 0),
  (1, s_is 2 2),
  (2, s_il 3 2),
  (3, s_ic 6 480),
  (6, s_cge 9 28),
  (9, s_al 10 0),
  (10, s_il 11 1),
  (11, s_il 12 2),
  (12, s_ci0 true 15 3 f_X3_spotOf),
  (15, s_ic 17 10),
  (17, s_clt 20 22),
  (20, s_il 21 2),
  (21, s_ir),
  (22, s_in 25 2 1),
  (25, s_go 2),
  (28, s_ic 29 (-1)),
  (29, s_ir)]
def cs_X3_firstOnAnvil : Cs := [(2, [0, 1, 2])]
noncomputable def f_X3_firstOnAnvil : List Vv → Mm → Option Ou := lock (sem t_X3_firstOnAnvil cs_X3_firstOnAnvil 3)
set_option maxRecDepth 20000 in
theorem ok_X3_firstOnAnvil (l : Launch) : Ok l RX3 cX3_firstOnAnvil 3 2 (some .int) layL t_X3_firstOnAnvil :=
  Ok.cons (so_iconst dX3_firstOnAnvil_0 (by decide) rfl) <|
  Ok.cons (so_istore_n dX3_firstOnAnvil_1 rfl (by decide) rfl) <|
  Ok.cons (so_iload_n dX3_firstOnAnvil_2 rfl rfl) <|
  Ok.cons (so_sipush dX3_firstOnAnvil_3 (by decide) rfl) <|
  Ok.cons (so_cge dX3_firstOnAnvil_6 (by decide) rfl) <|
  Ok.cons (so_aload_n dX3_firstOnAnvil_9 rfl rfl) <|
  Ok.cons (so_iload_n dX3_firstOnAnvil_10 rfl rfl) <|
  Ok.cons (so_iload_n dX3_firstOnAnvil_11 rfl rfl) <|
  Ok.cons (so_vi0 (ct_X3_spotOf l) wq_795 wq_792 wq_793 wq_794 wq_92 (by decide +kernel) (by decide) rfl rfl dX3_firstOnAnvil_12 rfl) <|
  Ok.cons (so_bipush dX3_firstOnAnvil_15 (by decide) rfl) <|
  Ok.cons (so_clt dX3_firstOnAnvil_17 (by decide) rfl) <|
  Ok.cons (so_iload_n dX3_firstOnAnvil_20 rfl rfl) <|
  Ok.cons (so_ir rfl dX3_firstOnAnvil_21) <|
  Ok.cons (so_iinc dX3_firstOnAnvil_22 (by decide) (by decide) rfl) <|
  Ok.cons (so_goto dX3_firstOnAnvil_25 (by decide)) <|
  Ok.cons (so_iconst dX3_firstOnAnvil_28 (by decide) rfl) <|
  Ok.cons (so_ir rfl dX3_firstOnAnvil_29) <| Ok.nil
theorem ct_X3_firstOnAnvil (l : Launch) : Ct l yX3_firstOnAnvil cX3_firstOnAnvil 3 (some .int) 2 layL f_X3_firstOnAnvil := ofRunL (by decide) rfl (ok_X3_firstOnAnvil l)
noncomputable def t_X3_ironOnSpot : Tbl := [(0, s_ic 1 0),
  (1, s_is 2 3),
  (2, s_il 3 3),
  (3, s_al 4 0),
  (4, s_gf 7 layL 3 0),
  (7, s_gf 10 layL 2 0),
  (10, s_cge 13 31),
  (13, s_al 14 0),
  (14, s_il 15 3),
  (15, s_il 16 2),
  (16, s_ci0 true 19 3 f_X3_spotOf),
  (19, s_il 20 1),
  (20, s_cne 23 25),
  (23, s_il 24 3),
  (24, s_ir),
  (25, s_in 28 3 1),
  (28, s_go 2),
  (31, s_ic 32 (-1)),
  (32, s_ir)]
def cs_X3_ironOnSpot : Cs := [(2, [0, 1, 2, 3])]
noncomputable def f_X3_ironOnSpot : List Vv → Mm → Option Ou := lock (sem t_X3_ironOnSpot cs_X3_ironOnSpot 4)
set_option maxRecDepth 20000 in
theorem ok_X3_ironOnSpot (l : Launch) : Ok l RX3 cX3_ironOnSpot 4 2 (some .int) layL t_X3_ironOnSpot :=
  Ok.cons (so_iconst dX3_ironOnSpot_0 (by decide) rfl) <|
  Ok.cons (so_istore_n dX3_ironOnSpot_1 rfl (by decide) rfl) <|
  Ok.cons (so_iload_n dX3_ironOnSpot_2 rfl rfl) <|
  Ok.cons (so_aload_n dX3_ironOnSpot_3 rfl rfl) <|
  Ok.cons (so_gf (C := RX3) (T := TX3) (N := 5) inGX3 rfl (by decide) wq_314 rfl dX3_ironOnSpot_4 rfl) <|
  Ok.cons (so_gf (C := RX2) (T := TX2) (N := 12) inGX2 rfl (by decide) wq_125 rfl dX3_ironOnSpot_7 rfl) <|
  Ok.cons (so_cge dX3_ironOnSpot_10 (by decide) rfl) <|
  Ok.cons (so_aload_n dX3_ironOnSpot_13 rfl rfl) <|
  Ok.cons (so_iload_n dX3_ironOnSpot_14 rfl rfl) <|
  Ok.cons (so_iload_n dX3_ironOnSpot_15 rfl rfl) <|
  Ok.cons (so_vi0 (ct_X3_spotOf l) wq_795 wq_792 wq_793 wq_794 wq_92 (by decide +kernel) (by decide) rfl rfl dX3_ironOnSpot_16 rfl) <|
  Ok.cons (so_iload_n dX3_ironOnSpot_19 rfl rfl) <|
  Ok.cons (so_cne dX3_ironOnSpot_20 (by decide) rfl) <|
  Ok.cons (so_iload_n dX3_ironOnSpot_23 rfl rfl) <|
  Ok.cons (so_ir rfl dX3_ironOnSpot_24) <|
  Ok.cons (so_iinc dX3_ironOnSpot_25 (by decide) (by decide) rfl) <|
  Ok.cons (so_goto dX3_ironOnSpot_28 (by decide)) <|
  Ok.cons (so_iconst dX3_ironOnSpot_31 (by decide) rfl) <|
  Ok.cons (so_ir rfl dX3_ironOnSpot_32) <| Ok.nil
theorem ct_X3_ironOnSpot (l : Launch) : Ct l yX3_ironOnSpot cX3_ironOnSpot 4 (some .int) 2 layL f_X3_ironOnSpot := ofRunL (by decide) rfl (ok_X3_ironOnSpot l)
noncomputable def t_X3_minutesUsed : Tbl := [(0, s_ic 1 0),
  (1, s_is 2 2),
  (2, s_ic 3 0),
  (3, s_is 4 3),
  (4, s_il 5 3),
  (5, s_ic 8 480),
  (8, s_cge 11 30),
  (11, s_al 12 0),
  (12, s_il 13 1),
  (13, s_il 14 3),
  (14, s_ci0 true 17 3 f_X3_ironOnSpot),
  (17, s_ic 18 (-1)),
  (18, s_ceq 21 24),
  (21, s_in 24 2 1),
  (24, s_in 27 3 1),
  (27, s_go 4),
  (30, s_il 31 2),
  (31, s_ir)]
def cs_X3_minutesUsed : Cs := [(4, [0, 1, 2, 3])]
noncomputable def f_X3_minutesUsed : List Vv → Mm → Option Ou := lock (sem t_X3_minutesUsed cs_X3_minutesUsed 4)
set_option maxRecDepth 20000 in
theorem ok_X3_minutesUsed (l : Launch) : Ok l RX3 cX3_minutesUsed 4 3 (some .int) layL t_X3_minutesUsed :=
  Ok.cons (so_iconst dX3_minutesUsed_0 (by decide) rfl) <|
  Ok.cons (so_istore_n dX3_minutesUsed_1 rfl (by decide) rfl) <|
  Ok.cons (so_iconst dX3_minutesUsed_2 (by decide) rfl) <|
  Ok.cons (so_istore_n dX3_minutesUsed_3 rfl (by decide) rfl) <|
  Ok.cons (so_iload_n dX3_minutesUsed_4 rfl rfl) <|
  Ok.cons (so_sipush dX3_minutesUsed_5 (by decide) rfl) <|
  Ok.cons (so_cge dX3_minutesUsed_8 (by decide) rfl) <|
  Ok.cons (so_aload_n dX3_minutesUsed_11 rfl rfl) <|
  Ok.cons (so_iload_n dX3_minutesUsed_12 rfl rfl) <|
  Ok.cons (so_iload_n dX3_minutesUsed_13 rfl rfl) <|
  Ok.cons (so_vi0 (ct_X3_ironOnSpot l) wq_1049 wq_1046 wq_1047 wq_1048 wq_92 (by decide +kernel) (by decide) rfl rfl dX3_minutesUsed_14 rfl) <|
  Ok.cons (so_iconst dX3_minutesUsed_17 (by decide) rfl) <|
  Ok.cons (so_ceq dX3_minutesUsed_18 (by decide) rfl) <|
  Ok.cons (so_iinc dX3_minutesUsed_21 (by decide) (by decide) rfl) <|
  Ok.cons (so_iinc dX3_minutesUsed_24 (by decide) (by decide) rfl) <|
  Ok.cons (so_goto dX3_minutesUsed_27 (by decide)) <|
  Ok.cons (so_iload_n dX3_minutesUsed_30 rfl rfl) <|
  Ok.cons (so_ir rfl dX3_minutesUsed_31) <| Ok.nil
theorem ct_X3_minutesUsed (l : Launch) : Ct l yX3_minutesUsed cX3_minutesUsed 4 (some .int) 3 layL f_X3_minutesUsed := ofRunL (by decide) rfl (ok_X3_minutesUsed l)
noncomputable def t_X3_finishedAfter : Tbl := [(0, s_ic 1 0),
  (1, s_is 2 2),
  (2, s_ic 3 0),
  (3, s_is 4 3),
  (4, s_il 5 3),
  (5, s_al 6 0),
  (6, s_gf 9 layL 3 0),
  (9, s_gf 12 layL 2 0),
  (12, s_cge 15 42),
  (15, s_al 16 0),
  (16, s_il 17 3),
  (17, s_il 18 1),
  (18, s_ci0 true 21 3 f_X3_stepsOf),
  (21, s_al 22 0),
  (22, s_gf 25 layL 3 0),
  (25, s_gf 28 layL 2 5),
  (28, s_il 29 3),
  (29, s_ia 30 layL 0),
  (30, s_clt 33 36),
  (33, s_in 36 2 1),
  (36, s_in 39 3 1),
  (39, s_go 4),
  (42, s_il 43 2),
  (43, s_ir)]
def cs_X3_finishedAfter : Cs := [(4, [0, 1, 2, 3])]
noncomputable def f_X3_finishedAfter : List Vv → Mm → Option Ou := lock (sem t_X3_finishedAfter cs_X3_finishedAfter 4)
set_option maxRecDepth 20000 in
theorem ok_X3_finishedAfter (l : Launch) : Ok l RX3 cX3_finishedAfter 4 2 (some .int) layL t_X3_finishedAfter :=
  Ok.cons (so_iconst dX3_finishedAfter_0 (by decide) rfl) <|
  Ok.cons (so_istore_n dX3_finishedAfter_1 rfl (by decide) rfl) <|
  Ok.cons (so_iconst dX3_finishedAfter_2 (by decide) rfl) <|
  Ok.cons (so_istore_n dX3_finishedAfter_3 rfl (by decide) rfl) <|
  Ok.cons (so_iload_n dX3_finishedAfter_4 rfl rfl) <|
  Ok.cons (so_aload_n dX3_finishedAfter_5 rfl rfl) <|
  Ok.cons (so_gf (C := RX3) (T := TX3) (N := 5) inGX3 rfl (by decide) wq_314 rfl dX3_finishedAfter_6 rfl) <|
  Ok.cons (so_gf (C := RX2) (T := TX2) (N := 12) inGX2 rfl (by decide) wq_125 rfl dX3_finishedAfter_9 rfl) <|
  Ok.cons (so_cge dX3_finishedAfter_12 (by decide) rfl) <|
  Ok.cons (so_aload_n dX3_finishedAfter_15 rfl rfl) <|
  Ok.cons (so_iload_n dX3_finishedAfter_16 rfl rfl) <|
  Ok.cons (so_iload_n dX3_finishedAfter_17 rfl rfl) <|
  Ok.cons (so_vi0 (ct_X3_stepsOf l) wq_778 wq_775 wq_776 wq_777 wq_92 (by decide +kernel) (by decide) rfl rfl dX3_finishedAfter_18 rfl) <|
  Ok.cons (so_aload_n dX3_finishedAfter_21 rfl rfl) <|
  Ok.cons (so_gf (C := RX3) (T := TX3) (N := 5) inGX3 rfl (by decide) wq_314 rfl dX3_finishedAfter_22 rfl) <|
  Ok.cons (so_gf (C := RX2) (T := TX2) (N := 12) inGX2 rfl (by decide) wq_144 rfl dX3_finishedAfter_25 rfl) <|
  Ok.cons (so_iload_n dX3_finishedAfter_28 rfl rfl) <|
  Ok.cons (so_ia0 dX3_finishedAfter_29 rfl) <|
  Ok.cons (so_clt dX3_finishedAfter_30 (by decide) rfl) <|
  Ok.cons (so_iinc dX3_finishedAfter_33 (by decide) (by decide) rfl) <|
  Ok.cons (so_iinc dX3_finishedAfter_36 (by decide) (by decide) rfl) <|
  Ok.cons (so_goto dX3_finishedAfter_39 (by decide)) <|
  Ok.cons (so_iload_n dX3_finishedAfter_42 rfl rfl) <|
  Ok.cons (so_ir rfl dX3_finishedAfter_43) <| Ok.nil
theorem ct_X3_finishedAfter (l : Launch) : Ct l yX3_finishedAfter cX3_finishedAfter 4 (some .int) 2 layL f_X3_finishedAfter := ofRunL (by decide) rfl (ok_X3_finishedAfter l)
noncomputable def t_X3_anvilsUsed : Tbl := [(0, s_ic 1 0),
  (1, s_is 2 2),
  (2, s_ic 3 0),
  (3, s_is 4 3),
  (4, s_il 5 3),
  (5, s_al 6 0),
  (6, s_gf 9 layL 3 0),
  (9, s_gf 12 layL 2 0),
  (12, s_cge 15 35),
  (15, s_al 16 0),
  (16, s_il 17 3),
  (17, s_il 18 1),
  (18, s_ci0 true 21 3 f_X3_spotOf),
  (21, s_ic 23 10),
  (23, s_clt 26 29),
  (26, s_in 29 2 1),
  (29, s_in 32 3 1),
  (32, s_go 4),
  (35, s_il 36 2),
  (36, s_ir)]
def cs_X3_anvilsUsed : Cs := [(4, [0, 1, 2, 3])]
noncomputable def f_X3_anvilsUsed : List Vv → Mm → Option Ou := lock (sem t_X3_anvilsUsed cs_X3_anvilsUsed 4)
set_option maxRecDepth 20000 in
theorem ok_X3_anvilsUsed (l : Launch) : Ok l RX3 cX3_anvilsUsed 4 2 (some .int) layL t_X3_anvilsUsed :=
  Ok.cons (so_iconst dX3_anvilsUsed_0 (by decide) rfl) <|
  Ok.cons (so_istore_n dX3_anvilsUsed_1 rfl (by decide) rfl) <|
  Ok.cons (so_iconst dX3_anvilsUsed_2 (by decide) rfl) <|
  Ok.cons (so_istore_n dX3_anvilsUsed_3 rfl (by decide) rfl) <|
  Ok.cons (so_iload_n dX3_anvilsUsed_4 rfl rfl) <|
  Ok.cons (so_aload_n dX3_anvilsUsed_5 rfl rfl) <|
  Ok.cons (so_gf (C := RX3) (T := TX3) (N := 5) inGX3 rfl (by decide) wq_314 rfl dX3_anvilsUsed_6 rfl) <|
  Ok.cons (so_gf (C := RX2) (T := TX2) (N := 12) inGX2 rfl (by decide) wq_125 rfl dX3_anvilsUsed_9 rfl) <|
  Ok.cons (so_cge dX3_anvilsUsed_12 (by decide) rfl) <|
  Ok.cons (so_aload_n dX3_anvilsUsed_15 rfl rfl) <|
  Ok.cons (so_iload_n dX3_anvilsUsed_16 rfl rfl) <|
  Ok.cons (so_iload_n dX3_anvilsUsed_17 rfl rfl) <|
  Ok.cons (so_vi0 (ct_X3_spotOf l) wq_795 wq_792 wq_793 wq_794 wq_92 (by decide +kernel) (by decide) rfl rfl dX3_anvilsUsed_18 rfl) <|
  Ok.cons (so_bipush dX3_anvilsUsed_21 (by decide) rfl) <|
  Ok.cons (so_clt dX3_anvilsUsed_23 (by decide) rfl) <|
  Ok.cons (so_iinc dX3_anvilsUsed_26 (by decide) (by decide) rfl) <|
  Ok.cons (so_iinc dX3_anvilsUsed_29 (by decide) (by decide) rfl) <|
  Ok.cons (so_goto dX3_anvilsUsed_32 (by decide)) <|
  Ok.cons (so_iload_n dX3_anvilsUsed_35 rfl rfl) <|
  Ok.cons (so_ir rfl dX3_anvilsUsed_36) <| Ok.nil
theorem ct_X3_anvilsUsed (l : Launch) : Ct l yX3_anvilsUsed cX3_anvilsUsed 4 (some .int) 2 layL f_X3_anvilsUsed := ofRunL (by decide) rfl (ok_X3_anvilsUsed l)
noncomputable def t_X3_minutesIdle : Tbl := [(0, s_ic 1 0),
  (1, s_is 2 1),
  (2, s_ic 3 0),
  (3, s_is 4 2),
  (4, s_il 5 2),
  (5, s_ic 8 480),
  (8, s_cge 11 52),
  (11, s_al 12 0),
  (12, s_il 13 2),
  (13, s_ci0 true 16 2 f_X3_finishedAfter),
  (16, s_al 17 0),
  (17, s_gf 20 layL 3 0),
  (20, s_gf 23 layL 2 0),
  (23, s_cge 26 46),
  (26, s_al 27 0),
  (27, s_il 28 2),
  (28, s_ci0 true 31 2 f_X3_anvilsUsed),
  (31, s_al 32 0),
  (32, s_gf 35 layL 3 0),
  (35, s_gf 38 layL 2 10),
  (38, s_ic 39 0),
  (39, s_ia 40 layL 0),
  (40, s_cge 43 46),
  (43, s_in 46 1 1),
  (46, s_in 49 2 1),
  (49, s_go 4),
  (52, s_il 53 1),
  (53, s_ir)]
def cs_X3_minutesIdle : Cs := [(4, [0, 1, 2])]
noncomputable def f_X3_minutesIdle : List Vv → Mm → Option Ou := lock (sem t_X3_minutesIdle cs_X3_minutesIdle 3)
set_option maxRecDepth 20000 in
theorem ok_X3_minutesIdle (l : Launch) : Ok l RX3 cX3_minutesIdle 3 3 (some .int) layL t_X3_minutesIdle :=
  Ok.cons (so_iconst dX3_minutesIdle_0 (by decide) rfl) <|
  Ok.cons (so_istore_n dX3_minutesIdle_1 rfl (by decide) rfl) <|
  Ok.cons (so_iconst dX3_minutesIdle_2 (by decide) rfl) <|
  Ok.cons (so_istore_n dX3_minutesIdle_3 rfl (by decide) rfl) <|
  Ok.cons (so_iload_n dX3_minutesIdle_4 rfl rfl) <|
  Ok.cons (so_sipush dX3_minutesIdle_5 (by decide) rfl) <|
  Ok.cons (so_cge dX3_minutesIdle_8 (by decide) rfl) <|
  Ok.cons (so_aload_n dX3_minutesIdle_11 rfl rfl) <|
  Ok.cons (so_iload_n dX3_minutesIdle_12 rfl rfl) <|
  Ok.cons (so_vi0 (ct_X3_finishedAfter l) wq_774 wq_787 wq_772 wq_773 wq_92 (by decide +kernel) (by decide) rfl rfl dX3_minutesIdle_13 rfl) <|
  Ok.cons (so_aload_n dX3_minutesIdle_16 rfl rfl) <|
  Ok.cons (so_gf (C := RX3) (T := TX3) (N := 5) inGX3 rfl (by decide) wq_314 rfl dX3_minutesIdle_17 rfl) <|
  Ok.cons (so_gf (C := RX2) (T := TX2) (N := 12) inGX2 rfl (by decide) wq_125 rfl dX3_minutesIdle_20 rfl) <|
  Ok.cons (so_cge dX3_minutesIdle_23 (by decide) rfl) <|
  Ok.cons (so_aload_n dX3_minutesIdle_26 rfl rfl) <|
  Ok.cons (so_iload_n dX3_minutesIdle_27 rfl rfl) <|
  Ok.cons (so_vi0 (ct_X3_anvilsUsed l) wq_791 wq_788 wq_790 wq_37 wq_92 (by decide +kernel) (by decide) rfl rfl dX3_minutesIdle_28 rfl) <|
  Ok.cons (so_aload_n dX3_minutesIdle_31 rfl rfl) <|
  Ok.cons (so_gf (C := RX3) (T := TX3) (N := 5) inGX3 rfl (by decide) wq_314 rfl dX3_minutesIdle_32 rfl) <|
  Ok.cons (so_gf (C := RX2) (T := TX2) (N := 12) inGX2 rfl (by decide) wq_158 rfl dX3_minutesIdle_35 rfl) <|
  Ok.cons (so_iconst dX3_minutesIdle_38 (by decide) rfl) <|
  Ok.cons (so_ia0 dX3_minutesIdle_39 rfl) <|
  Ok.cons (so_cge dX3_minutesIdle_40 (by decide) rfl) <|
  Ok.cons (so_iinc dX3_minutesIdle_43 (by decide) (by decide) rfl) <|
  Ok.cons (so_iinc dX3_minutesIdle_46 (by decide) (by decide) rfl) <|
  Ok.cons (so_goto dX3_minutesIdle_49 (by decide)) <|
  Ok.cons (so_iload_n dX3_minutesIdle_52 rfl rfl) <|
  Ok.cons (so_ir rfl dX3_minutesIdle_53) <| Ok.nil
theorem ct_X3_minutesIdle (l : Launch) : Ct l yX3_minutesIdle cX3_minutesIdle 3 (some .int) 3 layL f_X3_minutesIdle := ofRunL (by decide) rfl (ok_X3_minutesIdle l)
