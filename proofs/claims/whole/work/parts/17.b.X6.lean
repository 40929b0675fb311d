noncomputable def t_X6_feed : Tbl := [(0, s_al 1 0),
  (1, s_gf 4 layX 6 2),
  (4, s_ci true 7 1 (sgC 2 14) f_X4_hasRoom),
  (7, s_zne 10 13),
  (10, s_ic 12 (-3)),
  (12, s_ir),
  (13, s_al 14 0),
  (14, s_gf 17 layX 6 2),
  (17, s_il 18 1),
  (18, s_cv true 21 2 (sgC 2 14) f_X4_append),
  (21, s_al 22 0),
  (22, s_gf 25 layX 6 2),
  (25, s_il 26 2),
  (26, s_cv true 29 2 (sgC 2 14) f_X4_append),
  (29, s_al 30 0),
  (30, s_gf 33 layX 6 2),
  (33, s_il 34 3),
  (34, s_cv true 37 2 (sgC 2 14) f_X4_append),
  (37, s_al 38 0),
  (38, s_gf 41 layX 6 2),
  (41, s_il 43 4),
  (43, s_cv true 46 2 (sgC 2 14) f_X4_append),
  (46, s_al 47 0),
  (47, s_gf 50 layX 6 2),
  (50, s_il 52 5),
  (52, s_cv true 55 2 (sgC 2 14) f_X4_append),
  (55, s_al 56 0),
  (56, s_gf 59 layX 6 2),
  (59, s_gf 62 layX 4 3),
  (62, s_ir)]
def cs_X6_feed : Cs := []
noncomputable def f_X6_feed : List Vv → Mm → Option Ou := lock (sem t_X6_feed cs_X6_feed 6)
set_option maxRecDepth 20000 in
theorem ok_X6_feed (l : Launch) (hl : l.stackTraces = false) : Ok l RX6 cX6_feed 6 2 (some .int) layX t_X6_feed :=
  Ok.cons (so_aload_n dX6_feed_0 rfl rfl) <|
  Ok.cons (so_gf (C := RX6) (T := TX6) (N := 9) inGX6 rfl (by decide) wq_354 rfl dX6_feed_1 rfl) <|
  Ok.cons (so_vi (ct_X4_hasRoom l) wq_387 wq_384 wq_385 wq_386 wq_91 (by decide +kernel) (by decide) rfl rfl cmp_layX_sgC_2_14 dX6_feed_4 rfl) <|
  Ok.cons (so_zne dX6_feed_7 (by decide) rfl) <|
  Ok.cons (so_bipush dX6_feed_10 (by decide) rfl) <|
  Ok.cons (so_ir rfl dX6_feed_12) <|
  Ok.cons (so_aload_n dX6_feed_13 rfl rfl) <|
  Ok.cons (so_gf (C := RX6) (T := TX6) (N := 9) inGX6 rfl (by decide) wq_354 rfl dX6_feed_14 rfl) <|
  Ok.cons (so_iload_n dX6_feed_17 rfl rfl) <|
  Ok.cons (so_vv (ct_X4_append l) wq_391 wq_388 wq_389 wq_390 wq_91 (by decide +kernel) (by decide) rfl rfl cmp_layX_sgC_2_14 dX6_feed_18 rfl) <|
  Ok.cons (so_aload_n dX6_feed_21 rfl rfl) <|
  Ok.cons (so_gf (C := RX6) (T := TX6) (N := 9) inGX6 rfl (by decide) wq_354 rfl dX6_feed_22 rfl) <|
  Ok.cons (so_iload_n dX6_feed_25 rfl rfl) <|
  Ok.cons (so_vv (ct_X4_append l) wq_391 wq_388 wq_389 wq_390 wq_91 (by decide +kernel) (by decide) rfl rfl cmp_layX_sgC_2_14 dX6_feed_26 rfl) <|
  Ok.cons (so_aload_n dX6_feed_29 rfl rfl) <|
  Ok.cons (so_gf (C := RX6) (T := TX6) (N := 9) inGX6 rfl (by decide) wq_354 rfl dX6_feed_30 rfl) <|
  Ok.cons (so_iload_n dX6_feed_33 rfl rfl) <|
  Ok.cons (so_vv (ct_X4_append l) wq_391 wq_388 wq_389 wq_390 wq_91 (by decide +kernel) (by decide) rfl rfl cmp_layX_sgC_2_14 dX6_feed_34 rfl) <|
  Ok.cons (so_aload_n dX6_feed_37 rfl rfl) <|
  Ok.cons (so_gf (C := RX6) (T := TX6) (N := 9) inGX6 rfl (by decide) wq_354 rfl dX6_feed_38 rfl) <|
  Ok.cons (so_iload dX6_feed_41 rfl) <|
  Ok.cons (so_vv (ct_X4_append l) wq_391 wq_388 wq_389 wq_390 wq_91 (by decide +kernel) (by decide) rfl rfl cmp_layX_sgC_2_14 dX6_feed_43 rfl) <|
  Ok.cons (so_aload_n dX6_feed_46 rfl rfl) <|
  Ok.cons (so_gf (C := RX6) (T := TX6) (N := 9) inGX6 rfl (by decide) wq_354 rfl dX6_feed_47 rfl) <|
  Ok.cons (so_iload dX6_feed_50 rfl) <|
  Ok.cons (so_vv (ct_X4_append l) wq_391 wq_388 wq_389 wq_390 wq_91 (by decide +kernel) (by decide) rfl rfl cmp_layX_sgC_2_14 dX6_feed_52 rfl) <|
  Ok.cons (so_aload_n dX6_feed_55 rfl rfl) <|
  Ok.cons (so_gf (C := RX6) (T := TX6) (N := 9) inGX6 rfl (by decide) wq_354 rfl dX6_feed_56 rfl) <|
  Ok.cons (so_gf (C := RX4) (T := TX4) (N := 11) inGX4 rfl (by decide) wq_222 rfl dX6_feed_59 rfl) <|
  Ok.cons (so_ir rfl dX6_feed_62) <| Ok.nil
theorem ct_X6_feed (l : Launch) (hl : l.stackTraces = false) : Ct l yX6_feed cX6_feed 6 (some .int) 2 layX f_X6_feed := ofRunL (by decide) rfl (ok_X6_feed l hl)
noncomputable def t_X6_forgetResults : Tbl := [(0, s_al 1 0),
  (1, s_ic 2 0),
  (2, s_pz 5 layX 6 7),
  (5, s_al 6 0),
  (6, s_ic 7 0),
  (7, s_pz 10 layX 6 8),
  (10, s_vr)]
def cs_X6_forgetResults : Cs := []
noncomputable def f_X6_forgetResults : List Vv → Mm → Option Ou := lock (sem t_X6_forgetResults cs_X6_forgetResults 1)
set_option maxRecDepth 20000 in
theorem ok_X6_forgetResults (l : Launch) (hl : l.stackTraces = false) : Ok l RX6 cX6_forgetResults 1 1 none layX t_X6_forgetResults :=
  Ok.cons (so_aload_n dX6_forgetResults_0 rfl rfl) <|
  Ok.cons (so_iconst dX6_forgetResults_1 (by decide) rfl) <|
  Ok.cons (so_pz (C := RX6) (T := TX6) (N := 9) inGX6 tyX6_ok nmX6 rfl (by decide) wq_359 rfl rfl rfl dX6_forgetResults_2 rfl) <|
  Ok.cons (so_aload_n dX6_forgetResults_5 rfl rfl) <|
  Ok.cons (so_iconst dX6_forgetResults_6 (by decide) rfl) <|
  Ok.cons (so_pz (C := RX6) (T := TX6) (N := 9) inGX6 tyX6_ok nmX6 rfl (by decide) wq_360 rfl rfl rfl dX6_forgetResults_7 rfl) <|
  Ok.cons (so_vr rfl dX6_forgetResults_10) <| Ok.nil
theorem ct_X6_forgetResults (l : Launch) (hl : l.stackTraces = false) : Ct l yX6_forgetResults cX6_forgetResults 1 none 1 layX f_X6_forgetResults := ofRunL (by decide) rfl (ok_X6_forgetResults l hl)
noncomputable def t_X6_load : Tbl := [(0, s_il 1 1),
  (1, s_ic 2 0),
  (2, s_al 3 0),
  (3, s_gf 6 layX 6 2),
  (6, s_gf 9 layX 4 3),
  (9, s_ci false 12 3 (sg0) f_X6_isWithin),
  (12, s_zne 15 18),
  (15, s_ic 17 (-2)),
  (17, s_ir),
  (18, s_al 19 0),
  (19, s_gf 22 layX 6 2),
  (22, s_il 23 1),
  (23, s_ci true 26 2 (sgC 2 14) f_X4_readText),
  (26, s_is 27 2),
  (27, s_il 28 2),
  (28, s_zlt 31 56),
  (31, s_al 32 0),
  (32, s_gf 35 layX 6 0),
  (35, s_al 36 0),
  (36, s_gf 39 layX 6 2),
  (39, s_gf 42 layX 4 1),
  (42, s_cv true 45 2 (sg2 32 5 11) f_X2_copyFrom),
  (45, s_al 46 0),
  (46, s_gf 49 layX 6 1),
  (49, s_cv true 52 1 (sgH) f_X1_forget),
  (52, s_al 53 0),
  (53, s_cv0 true 56 1 f_X6_forgetResults),
  (56, s_il 57 2),
  (57, s_ir)]
def cs_X6_load : Cs := []
noncomputable def f_X6_load : List Vv → Mm → Option Ou := lock (sem t_X6_load cs_X6_load 3)
set_option maxRecDepth 20000 in
theorem ok_X6_load (l : Launch) (hl : l.stackTraces = false) : Ok l RX6 cX6_load 3 7 (some .int) layX t_X6_load :=
  Ok.cons (so_iload_n dX6_load_0 rfl rfl) <|
  Ok.cons (so_iconst dX6_load_1 (by decide) rfl) <|
  Ok.cons (so_aload_n dX6_load_2 rfl rfl) <|
  Ok.cons (so_gf (C := RX6) (T := TX6) (N := 9) inGX6 rfl (by decide) wq_354 rfl dX6_load_3 rfl) <|
  Ok.cons (so_gf (C := RX4) (T := TX4) (N := 11) inGX4 rfl (by decide) wq_222 rfl dX6_load_6 rfl) <|
  Ok.cons (so_si (ct_X6_isWithin l) wq_398 wq_396 wq_397 wq_87 (by decide +kernel) (by decide) cmp_layX_sg0 dX6_load_9 rfl) <|
  Ok.cons (so_zne dX6_load_12 (by decide) rfl) <|
  Ok.cons (so_bipush dX6_load_15 (by decide) rfl) <|
  Ok.cons (so_ir rfl dX6_load_17) <|
  Ok.cons (so_aload_n dX6_load_18 rfl rfl) <|
  Ok.cons (so_gf (C := RX6) (T := TX6) (N := 9) inGX6 rfl (by decide) wq_354 rfl dX6_load_19 rfl) <|
  Ok.cons (so_iload_n dX6_load_22 rfl rfl) <|
  Ok.cons (so_vi (ct_X4_readText l) wq_402 wq_399 wq_400 wq_401 wq_91 (by decide +kernel) (by decide) rfl rfl cmp_layX_sgC_2_14 dX6_load_23 rfl) <|
  Ok.cons (so_istore_n dX6_load_26 rfl (by decide) rfl) <|
  Ok.cons (so_iload_n dX6_load_27 rfl rfl) <|
  Ok.cons (so_zlt dX6_load_28 (by decide) rfl) <|
  Ok.cons (so_aload_n dX6_load_31 rfl rfl) <|
  Ok.cons (so_gf (C := RX6) (T := TX6) (N := 9) inGX6 rfl (by decide) wq_352 rfl dX6_load_32 rfl) <|
  Ok.cons (so_aload_n dX6_load_35 rfl rfl) <|
  Ok.cons (so_gf (C := RX6) (T := TX6) (N := 9) inGX6 rfl (by decide) wq_354 rfl dX6_load_36 rfl) <|
  Ok.cons (so_gf (C := RX4) (T := TX4) (N := 11) inGX4 rfl (by decide) wq_219 rfl dX6_load_39 rfl) <|
  Ok.cons (so_vv (ct_X2_copyFrom l) wq_497 wq_494 wq_495 wq_496 wq_88 (by decide +kernel) (by decide) rfl rfl cmp_layX_sg2_32_5_11 dX6_load_42 rfl) <|
  Ok.cons (so_aload_n dX6_load_45 rfl rfl) <|
  Ok.cons (so_gf (C := RX6) (T := TX6) (N := 9) inGX6 rfl (by decide) wq_353 rfl dX6_load_46 rfl) <|
  Ok.cons (so_vv (ct_X1_forget l) wq_501 wq_498 wq_499 wq_500 wq_90 (by decide +kernel) (by decide) rfl rfl cmp_layX_sgH dX6_load_49 rfl) <|
  Ok.cons (so_aload_n dX6_load_52 rfl rfl) <|
  Ok.cons (so_vv0 (ct_X6_forgetResults l hl) wq_505 wq_502 wq_504 wq_13 wq_87 (by decide +kernel) (by decide) rfl rfl dX6_load_53 rfl) <|
  Ok.cons (so_iload_n dX6_load_56 rfl rfl) <|
  Ok.cons (so_ir rfl dX6_load_57) <| Ok.nil
theorem ct_X6_load (l : Launch) (hl : l.stackTraces = false) : Ct l yX6_load cX6_load 3 (some .int) 7 layX f_X6_load := ofRunL (by decide) rfl (ok_X6_load l hl)
noncomputable def t_X6_errorPosition : Tbl := [(0, s_al 1 0),
  (1, s_gf 4 layX 6 2),
  (4, s_gf 7 layX 4 4),
  (7, s_ir)]
def cs_X6_errorPosition : Cs := []
noncomputable def f_X6_errorPosition : List Vv → Mm → Option Ou := lock (sem t_X6_errorPosition cs_X6_errorPosition 1)
set_option maxRecDepth 20000 in
theorem ok_X6_errorPosition (l : Launch) (hl : l.stackTraces = false) : Ok l RX6 cX6_errorPosition 1 1 (some .int) layX t_X6_errorPosition :=
  Ok.cons (so_aload_n dX6_errorPosition_0 rfl rfl) <|
  Ok.cons (so_gf (C := RX6) (T := TX6) (N := 9) inGX6 rfl (by decide) wq_354 rfl dX6_errorPosition_1 rfl) <|
  Ok.cons (so_gf (C := RX4) (T := TX4) (N := 11) inGX4 rfl (by decide) wq_224 rfl dX6_errorPosition_4 rfl) <|
  Ok.cons (so_ir rfl dX6_errorPosition_7) <| Ok.nil
theorem ct_X6_errorPosition (l : Launch) (hl : l.stackTraces = false) : Ct l yX6_errorPosition cX6_errorPosition 1 (some .int) 1 layX f_X6_errorPosition := ofRunL (by decide) rfl (ok_X6_errorPosition l hl)
noncomputable def t_X6_ironCount : Tbl := [(0, s_al 1 0),
  (1, s_gf 4 layX 6 0),
  (4, s_gf 7 layX 2 0),
  (7, s_ir)]
def cs_X6_ironCount : Cs := []
noncomputable def f_X6_ironCount : List Vv → Mm → Option Ou := lock (sem t_X6_ironCount cs_X6_ironCount 1)
set_option maxRecDepth 20000 in
theorem ok_X6_ironCount (l : Launch) (hl : l.stackTraces = false) : Ok l RX6 cX6_ironCount 1 1 (some .int) layX t_X6_ironCount :=
  Ok.cons (so_aload_n dX6_ironCount_0 rfl rfl) <|
  Ok.cons (so_gf (C := RX6) (T := TX6) (N := 9) inGX6 rfl (by decide) wq_352 rfl dX6_ironCount_1 rfl) <|
  Ok.cons (so_gf (C := RX2) (T := TX2) (N := 12) inGX2 rfl (by decide) wq_128 rfl dX6_ironCount_4 rfl) <|
  Ok.cons (so_ir rfl dX6_ironCount_7) <| Ok.nil
theorem ct_X6_ironCount (l : Launch) (hl : l.stackTraces = false) : Ct l yX6_ironCount cX6_ironCount 1 (some .int) 1 layX f_X6_ironCount := ofRunL (by decide) rfl (ok_X6_ironCount l hl)
noncomputable def t_X6_placeCount : Tbl := [(0, s_al 1 0),
  (1, s_gf 4 layX 6 0),
  (4, s_gf 7 layX 2 1),
  (7, s_ir)]
def cs_X6_placeCount : Cs := []
noncomputable def f_X6_placeCount : List Vv → Mm → Option Ou := lock (sem t_X6_placeCount cs_X6_placeCount 1)
set_option maxRecDepth 20000 in
theorem ok_X6_placeCount (l : Launch) (hl : l.stackTraces = false) : Ok l RX6 cX6_placeCount 1 1 (some .int) layX t_X6_placeCount :=
  Ok.cons (so_aload_n dX6_placeCount_0 rfl rfl) <|
  Ok.cons (so_gf (C := RX6) (T := TX6) (N := 9) inGX6 rfl (by decide) wq_352 rfl dX6_placeCount_1 rfl) <|
  Ok.cons (so_gf (C := RX2) (T := TX2) (N := 12) inGX2 rfl (by decide) wq_131 rfl dX6_placeCount_4 rfl) <|
  Ok.cons (so_ir rfl dX6_placeCount_7) <| Ok.nil
theorem ct_X6_placeCount (l : Launch) (hl : l.stackTraces = false) : Ct l yX6_placeCount cX6_placeCount 1 (some .int) 1 layX f_X6_placeCount := ofRunL (by decide) rfl (ok_X6_placeCount l hl)
noncomputable def t_X6_undoCount : Tbl := [(0, s_al 1 0),
  (1, s_gf 4 layX 6 1),
  (4, s_gf 7 layX 1 2),
  (7, s_ir)]
def cs_X6_undoCount : Cs := []
noncomputable def f_X6_undoCount : List Vv → Mm → Option Ou := lock (sem t_X6_undoCount cs_X6_undoCount 1)
set_option maxRecDepth 20000 in
theorem ok_X6_undoCount (l : Launch) (hl : l.stackTraces = false) : Ok l RX6 cX6_undoCount 1 1 (some .int) layX t_X6_undoCount :=
  Ok.cons (so_aload_n dX6_undoCount_0 rfl rfl) <|
  Ok.cons (so_gf (C := RX6) (T := TX6) (N := 9) inGX6 rfl (by decide) wq_353 rfl dX6_undoCount_1 rfl) <|
  Ok.cons (so_gf (C := RX1) (T := TX1) (N := 3) inGX1 rfl (by decide) wq_201 rfl dX6_undoCount_4 rfl) <|
  Ok.cons (so_ir rfl dX6_undoCount_7) <| Ok.nil
theorem ct_X6_undoCount (l : Launch) (hl : l.stackTraces = false) : Ct l yX6_undoCount cX6_undoCount 1 (some .int) 1 layX f_X6_undoCount := ofRunL (by decide) rfl (ok_X6_undoCount l hl)
noncomputable def t_X6_ironNamed : Tbl := [(0, s_al 1 0),
  (1, s_gf 4 layX 6 0),
  (4, s_il 5 1),
  (5, s_ci true 8 2 (sgC 32 11) f_X2_findName),
  (8, s_ir)]
def cs_X6_ironNamed : Cs := []
noncomputable def f_X6_ironNamed : List Vv → Mm → Option Ou := lock (sem t_X6_ironNamed cs_X6_ironNamed 2)
set_option maxRecDepth 20000 in
theorem ok_X6_ironNamed (l : Launch) (hl : l.stackTraces = false) : Ok l RX6 cX6_ironNamed 2 2 (some .int) layX t_X6_ironNamed :=
  Ok.cons (so_aload_n dX6_ironNamed_0 rfl rfl) <|
  Ok.cons (so_gf (C := RX6) (T := TX6) (N := 9) inGX6 rfl (by decide) wq_352 rfl dX6_ironNamed_1 rfl) <|
  Ok.cons (so_iload_n dX6_ironNamed_4 rfl rfl) <|
  Ok.cons (so_vi (ct_X2_findName l) wq_457 wq_526 wq_455 wq_456 wq_88 (by decide +kernel) (by decide) rfl rfl cmp_layX_sgC_32_11 dX6_ironNamed_5 rfl) <|
  Ok.cons (so_ir rfl dX6_ironNamed_8) <| Ok.nil
theorem ct_X6_ironNamed (l : Launch) (hl : l.stackTraces = false) : Ct l yX6_ironNamed cX6_ironNamed 2 (some .int) 2 layX f_X6_ironNamed := ofRunL (by decide) rfl (ok_X6_ironNamed l hl)
noncomputable def t_X6_isIron : Tbl := [(0, s_il 1 1),
  (1, s_ic 2 0),
  (2, s_al 3 0),
  (3, s_gf 6 layX 6 0),
  (6, s_gf 9 layX 2 0),
  (9, s_ic 10 1),
  (10, s_b 11 (fun x y => x - y)),
  (11, s_ci false 14 3 (sg0) f_X6_isWithin),
  (14, s_zr)]
def cs_X6_isIron : Cs := []
noncomputable def f_X6_isIron : List Vv → Mm → Option Ou := lock (sem t_X6_isIron cs_X6_isIron 2)
set_option maxRecDepth 20000 in
theorem ok_X6_isIron (l : Launch) (hl : l.stackTraces = false) : Ok l RX6 cX6_isIron 2 2 (some .boolean) layX t_X6_isIron :=
  Ok.cons (so_iload_n dX6_isIron_0 rfl rfl) <|
  Ok.cons (so_iconst dX6_isIron_1 (by decide) rfl) <|
  Ok.cons (so_aload_n dX6_isIron_2 rfl rfl) <|
  Ok.cons (so_gf (C := RX6) (T := TX6) (N := 9) inGX6 rfl (by decide) wq_352 rfl dX6_isIron_3 rfl) <|
  Ok.cons (so_gf (C := RX2) (T := TX2) (N := 12) inGX2 rfl (by decide) wq_128 rfl dX6_isIron_6 rfl) <|
  Ok.cons (so_iconst dX6_isIron_9 (by decide) rfl) <|
  Ok.cons (so_isub dX6_isIron_10 rfl) <|
  Ok.cons (so_si (ct_X6_isWithin l) wq_398 wq_396 wq_397 wq_87 (by decide +kernel) (by decide) cmp_layX_sg0 dX6_isIron_11 rfl) <|
  Ok.cons (so_zr rfl dX6_isIron_14) <| Ok.nil
theorem ct_X6_isIron (l : Launch) (hl : l.stackTraces = false) : Ct l yX6_isIron cX6_isIron 2 (some .boolean) 2 layX f_X6_isIron := ofRunL (by decide) rfl (ok_X6_isIron l hl)
noncomputable def t_X6_requireIron : Tbl := [(0, s_al 1 0),
  (1, s_il 2 1),
  (2, s_ci0 true 5 2 f_X6_isIron),
  (5, s_zne 8 19),
  (8, s_th),
  (19, s_vr)]
def cs_X6_requireIron : Cs := []
noncomputable def f_X6_requireIron : List Vv → Mm → Option Ou := lock (sem t_X6_requireIron cs_X6_requireIron 2)
set_option maxRecDepth 20000 in
theorem ok_X6_requireIron (l : Launch) (hl : l.stackTraces = false) : Ok l RX6 cX6_requireIron 2 6 none layX t_X6_requireIron :=
  Ok.cons (so_aload_n dX6_requireIron_0 rfl rfl) <|
  Ok.cons (so_iload_n dX6_requireIron_1 rfl rfl) <|
  Ok.cons (so_vi0 (ct_X6_isIron l hl) wq_735 wq_732 wq_734 wq_35 wq_87 (by decide +kernel) (by decide) rfl rfl dX6_requireIron_2 rfl) <|
  Ok.cons (so_zne dX6_requireIron_5 (by decide) rfl) <|
  Ok.cons (so_th (text := "no such iron or position") (sai := 5) hl (by decide) wq_825 wq_104 (fun ts A U h => h.2.2.1) wx_at_287 wx_good_287_283 dX6_requireIron_8 dX6_requireIron_11 dX6_requireIron_12 dX6_requireIron_15 dX6_requireIron_18) <|
  Ok.cons (so_vr rfl dX6_requireIron_19) <| Ok.nil
theorem ct_X6_requireIron (l : Launch) (hl : l.stackTraces = false) : Ct l yX6_requireIron cX6_requireIron 2 none 6 layX f_X6_requireIron := ofRunL (by decide) rfl (ok_X6_requireIron l hl)
noncomputable def t_X6_mass : Tbl := [(0, s_al 1 0),
  (1, s_il 2 1),
  (2, s_cv0 true 5 2 f_X6_requireIron),
  (5, s_al 6 0),
  (6, s_gf 9 layX 6 0),
  (9, s_gf 12 layX 2 3),
  (12, s_il 13 1),
  (13, s_ia 14 layX 0),
  (14, s_ir)]
def cs_X6_mass : Cs := []
noncomputable def f_X6_mass : List Vv → Mm → Option Ou := lock (sem t_X6_mass cs_X6_mass 2)
set_option maxRecDepth 20000 in
theorem ok_X6_mass (l : Launch) (hl : l.stackTraces = false) : Ok l RX6 cX6_mass 2 7 (some .int) layX t_X6_mass :=
  Ok.cons (so_aload_n dX6_mass_0 rfl rfl) <|
  Ok.cons (so_iload_n dX6_mass_1 rfl rfl) <|
  Ok.cons (so_vv0 (ct_X6_requireIron l hl) wq_824 wq_821 wq_823 wq_39 wq_87 (by decide +kernel) (by decide) rfl rfl dX6_mass_2 rfl) <|
  Ok.cons (so_aload_n dX6_mass_5 rfl rfl) <|
  Ok.cons (so_gf (C := RX6) (T := TX6) (N := 9) inGX6 rfl (by decide) wq_352 rfl dX6_mass_6 rfl) <|
  Ok.cons (so_gf (C := RX2) (T := TX2) (N := 12) inGX2 rfl (by decide) wq_136 rfl dX6_mass_9 rfl) <|
  Ok.cons (so_iload_n dX6_mass_12 rfl rfl) <|
  Ok.cons (so_ia0 dX6_mass_13 rfl) <|
  Ok.cons (so_ir rfl dX6_mass_14) <| Ok.nil
theorem ct_X6_mass (l : Launch) (hl : l.stackTraces = false) : Ct l yX6_mass cX6_mass 2 (some .int) 7 layX f_X6_mass := ofRunL (by decide) rfl (ok_X6_mass l hl)
noncomputable def t_X6_cooling : Tbl := [(0, s_al 1 0),
  (1, s_il 2 1),
  (2, s_cv0 true 5 2 f_X6_requireIron),
  (5, s_al 6 0),
  (6, s_gf 9 layX 6 0),
  (9, s_gf 12 layX 2 4),
  (12, s_il 13 1),
  (13, s_ia 14 layX 0),
  (14, s_ir)]
def cs_X6_cooling : Cs := []
noncomputable def f_X6_cooling : List Vv → Mm → Option Ou := lock (sem t_X6_cooling cs_X6_cooling 2)
set_option maxRecDepth 20000 in
theorem ok_X6_cooling (l : Launch) (hl : l.stackTraces = false) : Ok l RX6 cX6_cooling 2 7 (some .int) layX t_X6_cooling :=
  Ok.cons (so_aload_n dX6_cooling_0 rfl rfl) <|
  Ok.cons (so_iload_n dX6_cooling_1 rfl rfl) <|
  Ok.cons (so_vv0 (ct_X6_requireIron l hl) wq_824 wq_821 wq_823 wq_39 wq_87 (by decide +kernel) (by decide) rfl rfl dX6_cooling_2 rfl) <|
  Ok.cons (so_aload_n dX6_cooling_5 rfl rfl) <|
  Ok.cons (so_gf (C := RX6) (T := TX6) (N := 9) inGX6 rfl (by decide) wq_352 rfl dX6_cooling_6 rfl) <|
  Ok.cons (so_gf (C := RX2) (T := TX2) (N := 12) inGX2 rfl (by decide) wq_139 rfl dX6_cooling_9 rfl) <|
  Ok.cons (so_iload_n dX6_cooling_12 rfl rfl) <|
  Ok.cons (so_ia0 dX6_cooling_13 rfl) <|
  Ok.cons (so_ir rfl dX6_cooling_14) <| Ok.nil
theorem ct_X6_cooling (l : Launch) (hl : l.stackTraces = false) : Ct l yX6_cooling cX6_cooling 2 (some .int) 7 layX f_X6_cooling := ofRunL (by decide) rfl (ok_X6_cooling l hl)
noncomputable def t_X6_stepCount : Tbl := [(0, s_al 1 0),
  (1, s_il 2 1),
  (2, s_cv0 true 5 2 f_X6_requireIron),
  (5, s_al 6 0),
  (6, s_gf 9 layX 6 0),
  (9, s_gf 12 layX 2 5),
  (12, s_il 13 1),
  (13, s_ia 14 layX 0),
  (14, s_ir)]
def cs_X6_stepCount : Cs := []
noncomputable def f_X6_stepCount : List Vv → Mm → Option Ou := lock (sem t_X6_stepCount cs_X6_stepCount 2)
set_option maxRecDepth 20000 in
theorem ok_X6_stepCount (l : Launch) (hl : l.stackTraces = false) : Ok l RX6 cX6_stepCount 2 7 (some .int) layX t_X6_stepCount :=
  Ok.cons (so_aload_n dX6_stepCount_0 rfl rfl) <|
  Ok.cons (so_iload_n dX6_stepCount_1 rfl rfl) <|
  Ok.cons (so_vv0 (ct_X6_requireIron l hl) wq_824 wq_821 wq_823 wq_39 wq_87 (by decide +kernel) (by decide) rfl rfl dX6_stepCount_2 rfl) <|
  Ok.cons (so_aload_n dX6_stepCount_5 rfl rfl) <|
  Ok.cons (so_gf (C := RX6) (T := TX6) (N := 9) inGX6 rfl (by decide) wq_352 rfl dX6_stepCount_6 rfl) <|
  Ok.cons (so_gf (C := RX2) (T := TX2) (N := 12) inGX2 rfl (by decide) wq_143 rfl dX6_stepCount_9 rfl) <|
  Ok.cons (so_iload_n dX6_stepCount_12 rfl rfl) <|
  Ok.cons (so_ia0 dX6_stepCount_13 rfl) <|
  Ok.cons (so_ir rfl dX6_stepCount_14) <| Ok.nil
theorem ct_X6_stepCount (l : Launch) (hl : l.stackTraces = false) : Ct l yX6_stepCount cX6_stepCount 2 (some .int) 7 layX f_X6_stepCount := ofRunL (by decide) rfl (ok_X6_stepCount l hl)
noncomputable def t_X6_requireStep : Tbl := [(0, s_al 1 0),
  (1, s_il 2 1),
  (2, s_cv0 true 5 2 f_X6_requireIron),
  (5, s_il 6 2),
  (6, s_ic 7 0),
  (7, s_al 8 0),
  (8, s_gf 11 layX 6 0),
  (11, s_gf 14 layX 2 5),
  (14, s_il 15 1),
  (15, s_ia 16 layX 0),
  (16, s_ic 17 1),
  (17, s_b 18 (fun x y => x - y)),
  (18, s_ci false 21 3 (sg0) f_X6_isWithin),
  (21, s_zne 24 35),
  (24, s_th),
  (35, s_vr)]
def cs_X6_requireStep : Cs := []
noncomputable def f_X6_requireStep : List Vv → Mm → Option Ou := lock (sem t_X6_requireStep cs_X6_requireStep 3)
set_option maxRecDepth 20000 in
theorem ok_X6_requireStep (l : Launch) (hl : l.stackTraces = false) : Ok l RX6 cX6_requireStep 3 7 none layX t_X6_requireStep :=
  Ok.cons (so_aload_n dX6_requireStep_0 rfl rfl) <|
  Ok.cons (so_iload_n dX6_requireStep_1 rfl rfl) <|
  Ok.cons (so_vv0 (ct_X6_requireIron l hl) wq_824 wq_821 wq_823 wq_39 wq_87 (by decide +kernel) (by decide) rfl rfl dX6_requireStep_2 rfl) <|
  Ok.cons (so_iload_n dX6_requireStep_5 rfl rfl) <|
  Ok.cons (so_iconst dX6_requireStep_6 (by decide) rfl) <|
  Ok.cons (so_aload_n dX6_requireStep_7 rfl rfl) <|
  Ok.cons (so_gf (C := RX6) (T := TX6) (N := 9) inGX6 rfl (by decide) wq_352 rfl dX6_requireStep_8 rfl) <|
  Ok.cons (so_gf (C := RX2) (T := TX2) (N := 12) inGX2 rfl (by decide) wq_143 rfl dX6_requireStep_11 rfl) <|
  Ok.cons (so_iload_n dX6_requireStep_14 rfl rfl) <|
  Ok.cons (so_ia0 dX6_requireStep_15 rfl) <|
  Ok.cons (so_iconst dX6_requireStep_16 (by decide) rfl) <|
  Ok.cons (so_isub dX6_requireStep_17 rfl) <|
  Ok.cons (so_si (ct_X6_isWithin l) wq_398 wq_396 wq_397 wq_87 (by decide +kernel) (by decide) cmp_layX_sg0 dX6_requireStep_18 rfl) <|
  Ok.cons (so_zne dX6_requireStep_21 (by decide) rfl) <|
  Ok.cons (so_th (text := "no such step") (sai := 6) hl (by decide) wq_825 wq_104 (fun ts A U h => h.2.2.2.1) wx_at_287 wx_good_287_283 dX6_requireStep_24 dX6_requireStep_27 dX6_requireStep_28 dX6_requireStep_31 dX6_requireStep_34) <|
  Ok.cons (so_vr rfl dX6_requireStep_35) <| Ok.nil
theorem ct_X6_requireStep (l : Launch) (hl : l.stackTraces = false) : Ct l yX6_requireStep cX6_requireStep 3 none 7 layX f_X6_requireStep := ofRunL (by decide) rfl (ok_X6_requireStep l hl)
noncomputable def t_X6_stepHeat : Tbl := [(0, s_al 1 0),
  (1, s_il 2 1),
  (2, s_il 3 2),
  (3, s_cv0 true 6 3 f_X6_requireStep),
  (6, s_al 7 0),
  (7, s_gf 10 layX 6 0),
  (10, s_il 11 1),
  (11, s_il 12 2),
  (12, s_ci true 15 3 (sgC 32 11) f_X2_heatOfStep),
  (15, s_ir)]
def cs_X6_stepHeat : Cs := []
noncomputable def f_X6_stepHeat : List Vv → Mm → Option Ou := lock (sem t_X6_stepHeat cs_X6_stepHeat 3)
set_option maxRecDepth 20000 in
theorem ok_X6_stepHeat (l : Launch) (hl : l.stackTraces = false) : Ok l RX6 cX6_stepHeat 3 8 (some .int) layX t_X6_stepHeat :=
  Ok.cons (so_aload_n dX6_stepHeat_0 rfl rfl) <|
  Ok.cons (so_iload_n dX6_stepHeat_1 rfl rfl) <|
  Ok.cons (so_iload_n dX6_stepHeat_2 rfl rfl) <|
  Ok.cons (so_vv0 (ct_X6_requireStep l hl) wq_914 wq_911 wq_913 wq_41 wq_87 (by decide +kernel) (by decide) rfl rfl dX6_stepHeat_3 rfl) <|
  Ok.cons (so_aload_n dX6_stepHeat_6 rfl rfl) <|
  Ok.cons (so_gf (C := RX6) (T := TX6) (N := 9) inGX6 rfl (by decide) wq_352 rfl dX6_stepHeat_7 rfl) <|
  Ok.cons (so_iload_n dX6_stepHeat_10 rfl rfl) <|
  Ok.cons (so_iload_n dX6_stepHeat_11 rfl rfl) <|
  Ok.cons (so_vi (ct_X2_heatOfStep l) wq_919 wq_916 wq_917 wq_918 wq_88 (by decide +kernel) (by decide) rfl rfl cmp_layX_sgC_32_11 dX6_stepHeat_12 rfl) <|
  Ok.cons (so_ir rfl dX6_stepHeat_15) <| Ok.nil
theorem ct_X6_stepHeat (l : Launch) (hl : l.stackTraces = false) : Ct l yX6_stepHeat cX6_stepHeat 3 (some .int) 8 layX f_X6_stepHeat := ofRunL (by decide) rfl (ok_X6_stepHeat l hl)
noncomputable def t_X6_stepMinutes : Tbl := [(0, s_al 1 0),
  (1, s_il 2 1),
  (2, s_il 3 2),
  (3, s_cv0 true 6 3 f_X6_requireStep),
  (6, s_al 7 0),
  (7, s_gf 10 layX 6 0),
  (10, s_il 11 1),
  (11, s_il 12 2),
  (12, s_ci true 15 3 (sgC 32 11) f_X2_minutesOfStep),
  (15, s_ir)]
def cs_X6_stepMinutes : Cs := []
noncomputable def f_X6_stepMinutes : List Vv → Mm → Option Ou := lock (sem t_X6_stepMinutes cs_X6_stepMinutes 3)
set_option maxRecDepth 20000 in
theorem ok_X6_stepMinutes (l : Launch) (hl : l.stackTraces = false) : Ok l RX6 cX6_stepMinutes 3 8 (some .int) layX t_X6_stepMinutes :=
  Ok.cons (so_aload_n dX6_stepMinutes_0 rfl rfl) <|
  Ok.cons (so_iload_n dX6_stepMinutes_1 rfl rfl) <|
  Ok.cons (so_iload_n dX6_stepMinutes_2 rfl rfl) <|
  Ok.cons (so_vv0 (ct_X6_requireStep l hl) wq_914 wq_911 wq_913 wq_41 wq_87 (by decide +kernel) (by decide) rfl rfl dX6_stepMinutes_3 rfl) <|
  Ok.cons (so_aload_n dX6_stepMinutes_6 rfl rfl) <|
  Ok.cons (so_gf (C := RX6) (T := TX6) (N := 9) inGX6 rfl (by decide) wq_352 rfl dX6_stepMinutes_7 rfl) <|
  Ok.cons (so_iload_n dX6_stepMinutes_10 rfl rfl) <|
  Ok.cons (so_iload_n dX6_stepMinutes_11 rfl rfl) <|
  Ok.cons (so_vi (ct_X2_minutesOfStep l) wq_930 wq_927 wq_928 wq_929 wq_88 (by decide +kernel) (by decide) rfl rfl cmp_layX_sgC_32_11 dX6_stepMinutes_12 rfl) <|
  Ok.cons (so_ir rfl dX6_stepMinutes_15) <| Ok.nil
theorem ct_X6_stepMinutes (l : Launch) (hl : l.stackTraces = false) : Ct l yX6_stepMinutes cX6_stepMinutes 3 (some .int) 8 layX f_X6_stepMinutes := ofRunL (by decide) rfl (ok_X6_stepMinutes l hl)
noncomputable def t_X6_isPlace : Tbl := [(0, s_il 1 1),
  (1, s_ic 2 0),
  (2, s_al 3 0),
  (3, s_gf 6 layX 6 0),
  (6, s_gf 9 layX 2 1),
  (9, s_ic 10 1),
  (10, s_b 11 (fun x y => x - y)),
  (11, s_ci false 14 3 (sg0) f_X6_isWithin),
  (14, s_zr)]
def cs_X6_isPlace : Cs := []
noncomputable def f_X6_isPlace : List Vv → Mm → Option Ou := lock (sem t_X6_isPlace cs_X6_isPlace 2)
set_option maxRecDepth 20000 in
theorem ok_X6_isPlace (l : Launch) (hl : l.stackTraces = false) : Ok l RX6 cX6_isPlace 2 2 (some .boolean) layX t_X6_isPlace :=
  Ok.cons (so_iload_n dX6_isPlace_0 rfl rfl) <|
  Ok.cons (so_iconst dX6_isPlace_1 (by decide) rfl) <|
  Ok.cons (so_aload_n dX6_isPlace_2 rfl rfl) <|
  Ok.cons (so_gf (C := RX6) (T := TX6) (N := 9) inGX6 rfl (by decide) wq_352 rfl dX6_isPlace_3 rfl) <|
  Ok.cons (so_gf (C := RX2) (T := TX2) (N := 12) inGX2 rfl (by decide) wq_131 rfl dX6_isPlace_6 rfl) <|
  Ok.cons (so_iconst dX6_isPlace_9 (by decide) rfl) <|
  Ok.cons (so_isub dX6_isPlace_10 rfl) <|
  Ok.cons (so_si (ct_X6_isWithin l) wq_398 wq_396 wq_397 wq_87 (by decide +kernel) (by decide) cmp_layX_sg0 dX6_isPlace_11 rfl) <|
  Ok.cons (so_zr rfl dX6_isPlace_14) <| Ok.nil
theorem ct_X6_isPlace (l : Launch) (hl : l.stackTraces = false) : Ct l yX6_isPlace cX6_isPlace 2 (some .boolean) 2 layX f_X6_isPlace := ofRunL (by decide) rfl (ok_X6_isPlace l hl)
noncomputable def t_X6_requirePlace : Tbl := [(0, s_al 1 0),
  (1, s_il 2 1),
  (2, s_ci0 true 5 2 f_X6_isPlace),
  (5, s_zne 8 19),
  (8, s_th),
  (19, s_vr)]
def cs_X6_requirePlace : Cs := []
noncomputable def f_X6_requirePlace : List Vv → Mm → Option Ou := lock (sem t_X6_requirePlace cs_X6_requirePlace 2)
set_option maxRecDepth 20000 in
theorem ok_X6_requirePlace (l : Launch) (hl : l.stackTraces = false) : Ok l RX6 cX6_requirePlace 2 6 none layX t_X6_requirePlace :=
  Ok.cons (so_aload_n dX6_requirePlace_0 rfl rfl) <|
  Ok.cons (so_iload_n dX6_requirePlace_1 rfl rfl) <|
  Ok.cons (so_vi0 (ct_X6_isPlace l hl) wq_749 wq_746 wq_748 wq_36 wq_87 (by decide +kernel) (by decide) rfl rfl dX6_requirePlace_2 rfl) <|
  Ok.cons (so_zne dX6_requirePlace_5 (by decide) rfl) <|
  Ok.cons (so_th (text := "no such fire place") (sai := 7) hl (by decide) wq_825 wq_104 (fun ts A U h => h.2.2.2.2.1) wx_at_287 wx_good_287_283 dX6_requirePlace_8 dX6_requirePlace_11 dX6_requirePlace_12 dX6_requirePlace_15 dX6_requirePlace_18) <|
  Ok.cons (so_vr rfl dX6_requirePlace_19) <| Ok.nil
theorem ct_X6_requirePlace (l : Launch) (hl : l.stackTraces = false) : Ct l yX6_requirePlace cX6_requirePlace 2 none 6 layX f_X6_requirePlace := ofRunL (by decide) rfl (ok_X6_requirePlace l hl)
noncomputable def t_X6_placeRate : Tbl := [(0, s_al 1 0),
  (1, s_il 2 1),
  (2, s_cv0 true 5 2 f_X6_requirePlace),
  (5, s_al 6 0),
  (6, s_gf 9 layX 6 0),
  (9, s_gf 12 layX 2 8),
  (12, s_il 13 1),
  (13, s_ia 14 layX 0),
  (14, s_ir)]
def cs_X6_placeRate : Cs := []
noncomputable def f_X6_placeRate : List Vv → Mm → Option Ou := lock (sem t_X6_placeRate cs_X6_placeRate 2)
set_option maxRecDepth 20000 in
theorem ok_X6_placeRate (l : Launch) (hl : l.stackTraces = false) : Ok l RX6 cX6_placeRate 2 7 (some .int) layX t_X6_placeRate :=
  Ok.cons (so_aload_n dX6_placeRate_0 rfl rfl) <|
  Ok.cons (so_iload_n dX6_placeRate_1 rfl rfl) <|
  Ok.cons (so_vv0 (ct_X6_requirePlace l hl) wq_941 wq_938 wq_940 wq_42 wq_87 (by decide +kernel) (by decide) rfl rfl dX6_placeRate_2 rfl) <|
  Ok.cons (so_aload_n dX6_placeRate_5 rfl rfl) <|
  Ok.cons (so_gf (C := RX6) (T := TX6) (N := 9) inGX6 rfl (by decide) wq_352 rfl dX6_placeRate_6 rfl) <|
  Ok.cons (so_gf (C := RX2) (T := TX2) (N := 12) inGX2 rfl (by decide) wq_150 rfl dX6_placeRate_9 rfl) <|
  Ok.cons (so_iload_n dX6_placeRate_12 rfl rfl) <|
  Ok.cons (so_ia0 dX6_placeRate_13 rfl) <|
  Ok.cons (so_ir rfl dX6_placeRate_14) <| Ok.nil
theorem ct_X6_placeRate (l : Launch) (hl : l.stackTraces = false) : Ct l yX6_placeRate cX6_placeRate 2 (some .int) 7 layX f_X6_placeRate := ofRunL (by decide) rfl (ok_X6_placeRate l hl)
noncomputable def t_X6_placeLimit : Tbl := [(0, s_al 1 0),
  (1, s_il 2 1),
  (2, s_cv0 true 5 2 f_X6_requirePlace),
  (5, s_al 6 0),
  (6, s_gf 9 layX 6 0),
  (9, s_gf 12 layX 2 9),
  (12, s_il 13 1),
  (13, s_ia 14 layX 0),
  (14, s_ir)]
def cs_X6_placeLimit : Cs := []
noncomputable def f_X6_placeLimit : List Vv → Mm → Option Ou := lock (sem t_X6_placeLimit cs_X6_placeLimit 2)
set_option maxRecDepth 20000 in
theorem ok_X6_placeLimit (l : Launch) (hl : l.stackTraces = false) : Ok l RX6 cX6_placeLimit 2 7 (some .int) layX t_X6_placeLimit :=
  Ok.cons (so_aload_n dX6_placeLimit_0 rfl rfl) <|
  Ok.cons (so_iload_n dX6_placeLimit_1 rfl rfl) <|
  Ok.cons (so_vv0 (ct_X6_requirePlace l hl) wq_941 wq_938 wq_940 wq_42 wq_87 (by decide +kernel) (by decide) rfl rfl dX6_placeLimit_2 rfl) <|
  Ok.cons (so_aload_n dX6_placeLimit_5 rfl rfl) <|
  Ok.cons (so_gf (C := RX6) (T := TX6) (N := 9) inGX6 rfl (by decide) wq_352 rfl dX6_placeLimit_6 rfl) <|
  Ok.cons (so_gf (C := RX2) (T := TX2) (N := 12) inGX2 rfl (by decide) wq_153 rfl dX6_placeLimit_9 rfl) <|
  Ok.cons (so_iload_n dX6_placeLimit_12 rfl rfl) <|
  Ok.cons (so_ia0 dX6_placeLimit_13 rfl) <|
  Ok.cons (so_ir rfl dX6_placeLimit_14) <| Ok.nil
theorem ct_X6_placeLimit (l : Launch) (hl : l.stackTraces = false) : Ct l yX6_placeLimit cX6_placeLimit 2 (some .int) 7 layX f_X6_placeLimit := ofRunL (by decide) rfl (ok_X6_placeLimit l hl)
noncomputable def t_X6_getSetting : Tbl := [(0, s_il 1 1),
  (1, s_ci false 4 1 (sg0) f_X6_isSetting),
  (4, s_zeq 7 19),
  (7, s_al 8 0),
  (8, s_gf 11 layX 6 0),
  (11, s_gf 14 layX 2 10),
  (14, s_il 15 1),
  (15, s_ia 16 layX 0),
  (16, s_go 21),
  (19, s_ic 21 (-2)),
  (21, s_ir)]
def cs_X6_getSetting : Cs := []
noncomputable def f_X6_getSetting : List Vv → Mm → Option Ou := lock (sem t_X6_getSetting cs_X6_getSetting 2)
set_option maxRecDepth 20000 in
theorem ok_X6_getSetting (l : Launch) (hl : l.stackTraces = false) : Ok l RX6 cX6_getSetting 2 3 (some .int) layX t_X6_getSetting :=
  Ok.cons (so_iload_n dX6_getSetting_0 rfl rfl) <|
  Ok.cons (so_si (ct_X6_isSetting l) wq_533 wq_531 wq_532 wq_87 (by decide +kernel) (by decide) cmp_layX_sg0 dX6_getSetting_1 rfl) <|
  Ok.cons (so_zeq dX6_getSetting_4 (by decide) rfl) <|
  Ok.cons (so_aload_n dX6_getSetting_7 rfl rfl) <|
  Ok.cons (so_gf (C := RX6) (T := TX6) (N := 9) inGX6 rfl (by decide) wq_352 rfl dX6_getSetting_8 rfl) <|
  Ok.cons (so_gf (C := RX2) (T := TX2) (N := 12) inGX2 rfl (by decide) wq_159 rfl dX6_getSetting_11 rfl) <|
  Ok.cons (so_iload_n dX6_getSetting_14 rfl rfl) <|
  Ok.cons (so_ia0 dX6_getSetting_15 rfl) <|
  Ok.cons (so_goto dX6_getSetting_16 (by decide)) <|
  Ok.cons (so_bipush dX6_getSetting_19 (by decide) rfl) <|
  Ok.cons (so_ir rfl dX6_getSetting_21) <| Ok.nil
theorem ct_X6_getSetting (l : Launch) (hl : l.stackTraces = false) : Ct l yX6_getSetting cX6_getSetting 2 (some .int) 3 layX f_X6_getSetting := ofRunL (by decide) rfl (ok_X6_getSetting l hl)
noncomputable def t_X6_ironAt : Tbl := [(0, s_al 1 0),
  (1, s_il 2 1),
  (2, s_cv0 true 5 2 f_X6_requireIron),
  (5, s_al 6 0),
  (6, s_gf 9 layX 6 0),
  (9, s_gf 12 layX 2 11),
  (12, s_il 13 1),
  (13, s_ia 14 layX 0),
  (14, s_ir)]
def cs_X6_ironAt : Cs := []
noncomputable def f_X6_ironAt : List Vv → Mm → Option Ou := lock (sem t_X6_ironAt cs_X6_ironAt 2)
set_option maxRecDepth 20000 in
theorem ok_X6_ironAt (l : Launch) (hl : l.stackTraces = false) : Ok l RX6 cX6_ironAt 2 7 (some .int) layX t_X6_ironAt :=
  Ok.cons (so_aload_n dX6_ironAt_0 rfl rfl) <|
  Ok.cons (so_iload_n dX6_ironAt_1 rfl rfl) <|
  Ok.cons (so_vv0 (ct_X6_requireIron l hl) wq_824 wq_821 wq_823 wq_39 wq_87 (by decide +kernel) (by decide) rfl rfl dX6_ironAt_2 rfl) <|
  Ok.cons (so_aload_n dX6_ironAt_5 rfl rfl) <|
  Ok.cons (so_gf (C := RX6) (T := TX6) (N := 9) inGX6 rfl (by decide) wq_352 rfl dX6_ironAt_6 rfl) <|
  Ok.cons (so_gf (C := RX2) (T := TX2) (N := 12) inGX2 rfl (by decide) wq_163 rfl dX6_ironAt_9 rfl) <|
  Ok.cons (so_iload_n dX6_ironAt_12 rfl rfl) <|
  Ok.cons (so_ia0 dX6_ironAt_13 rfl) <|
  Ok.cons (so_ir rfl dX6_ironAt_14) <| Ok.nil
theorem ct_X6_ironAt (l : Launch) (hl : l.stackTraces = false) : Ct l yX6_ironAt cX6_ironAt 2 (some .int) 7 layX f_X6_ironAt := ofRunL (by decide) rfl (ok_X6_ironAt l hl)
noncomputable def t_X6_positionOf : Tbl := [(0, s_al 1 0),
  (1, s_il 2 1),
  (2, s_cv0 true 5 2 f_X6_requireIron),
  (5, s_al 6 0),
  (6, s_gf 9 layX 6 0),
  (9, s_il 10 1),
  (10, s_ci true 13 2 (sgC 32 11) f_X2_findPosition),
  (13, s_ir)]
def cs_X6_positionOf : Cs := []
noncomputable def f_X6_positionOf : List Vv → Mm → Option Ou := lock (sem t_X6_positionOf cs_X6_positionOf 2)
set_option maxRecDepth 20000 in
theorem ok_X6_positionOf (l : Launch) (hl : l.stackTraces = false) : Ok l RX6 cX6_positionOf 2 7 (some .int) layX t_X6_positionOf :=
  Ok.cons (so_aload_n dX6_positionOf_0 rfl rfl) <|
  Ok.cons (so_iload_n dX6_positionOf_1 rfl rfl) <|
  Ok.cons (so_vv0 (ct_X6_requireIron l hl) wq_824 wq_821 wq_823 wq_39 wq_87 (by decide +kernel) (by decide) rfl rfl dX6_positionOf_2 rfl) <|
  Ok.cons (so_aload_n dX6_positionOf_5 rfl rfl) <|
  Ok.cons (so_gf (C := RX6) (T := TX6) (N := 9) inGX6 rfl (by decide) wq_352 rfl dX6_positionOf_6 rfl) <|
  Ok.cons (so_iload_n dX6_positionOf_9 rfl rfl) <|
  Ok.cons (so_vi (ct_X2_findPosition l) wq_967 wq_964 wq_965 wq_966 wq_88 (by decide +kernel) (by decide) rfl rfl cmp_layX_sgC_32_11 dX6_positionOf_10 rfl) <|
  Ok.cons (so_ir rfl dX6_positionOf_13) <| Ok.nil
theorem ct_X6_positionOf (l : Launch) (hl : l.stackTraces = false) : Ct l yX6_positionOf cX6_positionOf 2 (some .int) 7 layX f_X6_positionOf := ofRunL (by decide) rfl (ok_X6_positionOf l hl)
noncomputable def t_X6_presentLog : Tbl := [(0, s_al 1 0),
  (1, s_gf 4 layX 6 7),
  (4, s_zne 7 19),
  (7, s_al 8 0),
  (8, s_gf 11 layX 6 3),
  (11, s_cv true 14 1 (sgC 16 27) f_X3_write),
  (14, s_al 15 0),
  (15, s_ic 16 1),
  (16, s_pz 19 layX 6 7),
  (19, s_al 20 0),
  (20, s_gf 23 layX 6 3),
  (23, s_ar)]
def cs_X6_presentLog : Cs := []
noncomputable def f_X6_presentLog : List Vv → Mm → Option Ou := lock (sem t_X6_presentLog cs_X6_presentLog 1)
set_option maxRecDepth 20000 in
theorem ok_X6_presentLog (l : Launch) (hl : l.stackTraces = false) : Ok l RX6 cX6_presentLog 1 5 (some (.object "ForgeScheduler$Log")) layX t_X6_presentLog :=
  Ok.cons (so_aload_n dX6_presentLog_0 rfl rfl) <|
  Ok.cons (so_gf (C := RX6) (T := TX6) (N := 9) inGX6 rfl (by decide) wq_359 rfl dX6_presentLog_1 rfl) <|
  Ok.cons (so_zne dX6_presentLog_4 (by decide) rfl) <|
  Ok.cons (so_aload_n dX6_presentLog_7 rfl rfl) <|
  Ok.cons (so_gf (C := RX6) (T := TX6) (N := 9) inGX6 rfl (by decide) wq_355 rfl dX6_presentLog_8 rfl) <|
  Ok.cons (so_vv (ct_X3_write l) wq_545 wq_542 wq_543 wq_544 wq_92 (by decide +kernel) (by decide) rfl rfl cmp_layX_sgC_16_27 dX6_presentLog_11 rfl) <|
  Ok.cons (so_aload_n dX6_presentLog_14 rfl rfl) <|
  Ok.cons (so_iconst dX6_presentLog_15 (by decide) rfl) <|
  Ok.cons (so_pz (C := RX6) (T := TX6) (N := 9) inGX6 tyX6_ok nmX6 rfl (by decide) wq_359 rfl rfl rfl dX6_presentLog_16 rfl) <|
  Ok.cons (so_aload_n dX6_presentLog_19 rfl rfl) <|
  Ok.cons (so_gf (C := RX6) (T := TX6) (N := 9) inGX6 rfl (by decide) wq_355 rfl dX6_presentLog_20 rfl) <|
  Ok.cons (so_ar rfl dX6_presentLog_23) <| Ok.nil
theorem ct_X6_presentLog (l : Launch) (hl : l.stackTraces = false) : Ct l yX6_presentLog cX6_presentLog 1 (some (.object "ForgeScheduler$Log")) 5 layX f_X6_presentLog := ofRunL (by decide) rfl (ok_X6_presentLog l hl)
noncomputable def t_X6_finish : Tbl := [(0, s_al 1 0),
  (1, s_ca0 true 4 1 16 f_X6_presentLog),
  (4, s_gf 7 layX 3 1),
  (7, s_ci true 10 1 (sgC 20 23) f_X5_endMinute),
  (10, s_ir)]
def cs_X6_finish : Cs := []
noncomputable def f_X6_finish : List Vv → Mm → Option Ou := lock (sem t_X6_finish cs_X6_finish 1)
set_option maxRecDepth 20000 in
theorem ok_X6_finish (l : Launch) (hl : l.stackTraces = false) : Ok l RX6 cX6_finish 1 6 (some .int) layX t_X6_finish :=
  Ok.cons (so_aload_n dX6_finish_0 rfl rfl) <|
  Ok.cons (so_va0 (ct_X6_presentLog l hl) wq_541 wq_538 wq_540 wq_14 wq_87 (by decide +kernel) (by decide) rfl rfl dX6_finish_1 rfl) <|
  Ok.cons (so_gf (C := RX3) (T := TX3) (N := 5) inGX3 rfl (by decide) wq_316 rfl dX6_finish_4 rfl) <|
  Ok.cons (so_vi (ct_X5_endMinute l) wq_633 wq_630 wq_631 wq_632 wq_93 (by decide +kernel) (by decide) rfl rfl cmp_layX_sgC_20_23 dX6_finish_7 rfl) <|
  Ok.cons (so_ir rfl dX6_finish_10) <| Ok.nil
theorem ct_X6_finish (l : Launch) (hl : l.stackTraces = false) : Ct l yX6_finish cX6_finish 1 (some .int) 6 layX f_X6_finish := ofRunL (by decide) rfl (ok_X6_finish l hl)
noncomputable def t_X6_finishOf : Tbl := [(0, s_al 1 0),
  (1, s_il 2 1),
  (2, s_cv0 true 5 2 f_X6_requireIron),
  (5, s_al 6 0),
  (6, s_ca0 true 9 1 16 f_X6_presentLog),
  (9, s_gf 12 layX 3 1),
  (12, s_gf 15 layX 5 7),
  (15, s_il 16 1),
  (16, s_ia 17 layX 0),
  (17, s_ir)]
def cs_X6_finishOf : Cs := []
noncomputable def f_X6_finishOf : List Vv → Mm → Option Ou := lock (sem t_X6_finishOf cs_X6_finishOf 2)
set_option maxRecDepth 20000 in
theorem ok_X6_finishOf (l : Launch) (hl : l.stackTraces = false) : Ok l RX6 cX6_finishOf 2 7 (some .int) layX t_X6_finishOf :=
  Ok.cons (so_aload_n dX6_finishOf_0 rfl rfl) <|
  Ok.cons (so_iload_n dX6_finishOf_1 rfl rfl) <|
  Ok.cons (so_vv0 (ct_X6_requireIron l hl) wq_824 wq_821 wq_823 wq_39 wq_87 (by decide +kernel) (by decide) rfl rfl dX6_finishOf_2 rfl) <|
  Ok.cons (so_aload_n dX6_finishOf_5 rfl rfl) <|
  Ok.cons (so_va0 (ct_X6_presentLog l hl) wq_541 wq_538 wq_540 wq_14 wq_87 (by decide +kernel) (by decide) rfl rfl dX6_finishOf_6 rfl) <|
  Ok.cons (so_gf (C := RX3) (T := TX3) (N := 5) inGX3 rfl (by decide) wq_316 rfl dX6_finishOf_9 rfl) <|
  Ok.cons (so_gf (C := RX5) (T := TX5) (N := 13) inGX5 rfl (by decide) wq_279 rfl dX6_finishOf_12 rfl) <|
  Ok.cons (so_iload_n dX6_finishOf_15 rfl rfl) <|
  Ok.cons (so_ia0 dX6_finishOf_16 rfl) <|
  Ok.cons (so_ir rfl dX6_finishOf_17) <| Ok.nil
theorem ct_X6_finishOf (l : Launch) (hl : l.stackTraces = false) : Ct l yX6_finishOf cX6_finishOf 2 (some .int) 7 layX f_X6_finishOf := ofRunL (by decide) rfl (ok_X6_finishOf l hl)
noncomputable def t_X6_heatAfter : Tbl := [(0, s_al 1 0),
  (1, s_il 2 1),
  (2, s_cv0 true 5 2 f_X6_requireIron),
  (5, s_il 6 2),
  (6, s_ic 7 0),
  (7, s_ic 10 480),
  (10, s_ci false 13 3 (sg0) f_X6_isWithin),
  (13, s_zeq 16 28),
  (16, s_al 17 0),
  (17, s_ca0 true 20 1 16 f_X6_presentLog),
  (20, s_il 21 1),
  (21, s_il 22 2),
  (22, s_ci true 25 3 (sgC 16 27) f_X3_heatOf),
  (25, s_go 30),
  (28, s_ic 30 (-2)),
  (30, s_ir)]
def cs_X6_heatAfter : Cs := []
noncomputable def f_X6_heatAfter : List Vv → Mm → Option Ou := lock (sem t_X6_heatAfter cs_X6_heatAfter 3)
set_option maxRecDepth 20000 in
theorem ok_X6_heatAfter (l : Launch) (hl : l.stackTraces = false) : Ok l RX6 cX6_heatAfter 3 7 (some .int) layX t_X6_heatAfter :=
  Ok.cons (so_aload_n dX6_heatAfter_0 rfl rfl) <|
  Ok.cons (so_iload_n dX6_heatAfter_1 rfl rfl) <|
  Ok.cons (so_vv0 (ct_X6_requireIron l hl) wq_824 wq_821 wq_823 wq_39 wq_87 (by decide +kernel) (by decide) rfl rfl dX6_heatAfter_2 rfl) <|
  Ok.cons (so_iload_n dX6_heatAfter_5 rfl rfl) <|
  Ok.cons (so_iconst dX6_heatAfter_6 (by decide) rfl) <|
  Ok.cons (so_sipush dX6_heatAfter_7 (by decide) rfl) <|
  Ok.cons (so_si (ct_X6_isWithin l) wq_398 wq_396 wq_397 wq_87 (by decide +kernel) (by decide) cmp_layX_sg0 dX6_heatAfter_10 rfl) <|
  Ok.cons (so_zeq dX6_heatAfter_13 (by decide) rfl) <|
  Ok.cons (so_aload_n dX6_heatAfter_16 rfl rfl) <|
  Ok.cons (so_va0 (ct_X6_presentLog l hl) wq_541 wq_538 wq_540 wq_14 wq_87 (by decide +kernel) (by decide) rfl rfl dX6_heatAfter_17 rfl) <|
  Ok.cons (so_iload_n dX6_heatAfter_20 rfl rfl) <|
  Ok.cons (so_iload_n dX6_heatAfter_21 rfl rfl) <|
  Ok.cons (so_vi (ct_X3_heatOf l) wq_985 wq_982 wq_983 wq_984 wq_92 (by decide +kernel) (by decide) rfl rfl cmp_layX_sgC_16_27 dX6_heatAfter_22 rfl) <|
  Ok.cons (so_goto dX6_heatAfter_25 (by decide)) <|
  Ok.cons (so_bipush dX6_heatAfter_28 (by decide) rfl) <|
  Ok.cons (so_ir rfl dX6_heatAfter_30) <| Ok.nil
theorem ct_X6_heatAfter (l : Launch) (hl : l.stackTraces = false) : Ct l yX6_heatAfter cX6_heatAfter 3 (some .int) 7 layX f_X6_heatAfter := ofRunL (by decide) rfl (ok_X6_heatAfter l hl)
noncomputable def t_X6_whereIn : Tbl := [(0, s_al 1 0),
  (1, s_il 2 1),
  (2, s_cv0 true 5 2 f_X6_requireIron),
  (5, s_il 6 2),
  (6, s_ci false 9 1 (sg0) f_X6_isMinute),
  (9, s_zeq 12 24),
  (12, s_al 13 0),
  (13, s_ca0 true 16 1 16 f_X6_presentLog),
  (16, s_il 17 1),
  (17, s_il 18 2),
  (18, s_ci true 21 3 (sgC 16 27) f_X3_spotOf),
  (21, s_go 26),
  (24, s_ic 26 (-2)),
  (26, s_ir)]
def cs_X6_whereIn : Cs := []
noncomputable def f_X6_whereIn : List Vv → Mm → Option Ou := lock (sem t_X6_whereIn cs_X6_whereIn 3)
set_option maxRecDepth 20000 in
theorem ok_X6_whereIn (l : Launch) (hl : l.stackTraces = false) : Ok l RX6 cX6_whereIn 3 7 (some .int) layX t_X6_whereIn :=
  Ok.cons (so_aload_n dX6_whereIn_0 rfl rfl) <|
  Ok.cons (so_iload_n dX6_whereIn_1 rfl rfl) <|
  Ok.cons (so_vv0 (ct_X6_requireIron l hl) wq_824 wq_821 wq_823 wq_39 wq_87 (by decide +kernel) (by decide) rfl rfl dX6_whereIn_2 rfl) <|
  Ok.cons (so_iload_n dX6_whereIn_5 rfl rfl) <|
  Ok.cons (so_si (ct_X6_isMinute l) wq_995 wq_993 wq_994 wq_87 (by decide +kernel) (by decide) cmp_layX_sg0 dX6_whereIn_6 rfl) <|
  Ok.cons (so_zeq dX6_whereIn_9 (by decide) rfl) <|
  Ok.cons (so_aload_n dX6_whereIn_12 rfl rfl) <|
  Ok.cons (so_va0 (ct_X6_presentLog l hl) wq_541 wq_538 wq_540 wq_14 wq_87 (by decide +kernel) (by decide) rfl rfl dX6_whereIn_13 rfl) <|
  Ok.cons (so_iload_n dX6_whereIn_16 rfl rfl) <|
  Ok.cons (so_iload_n dX6_whereIn_17 rfl rfl) <|
  Ok.cons (so_vi (ct_X3_spotOf l) wq_795 wq_996 wq_793 wq_794 wq_92 (by decide +kernel) (by decide) rfl rfl cmp_layX_sgC_16_27 dX6_whereIn_18 rfl) <|
  Ok.cons (so_goto dX6_whereIn_21 (by decide)) <|
  Ok.cons (so_bipush dX6_whereIn_24 (by decide) rfl) <|
  Ok.cons (so_ir rfl dX6_whereIn_26) <| Ok.nil
theorem ct_X6_whereIn (l : Launch) (hl : l.stackTraces = false) : Ct l yX6_whereIn cX6_whereIn 3 (some .int) 7 layX f_X6_whereIn := ofRunL (by decide) rfl (ok_X6_whereIn l hl)
noncomputable def t_X6_stepsAfter : Tbl := [(0, s_al 1 0),
  (1, s_il 2 1),
  (2, s_cv0 true 5 2 f_X6_requireIron),
  (5, s_il 6 2),
  (6, s_ic 7 0),
  (7, s_ic 10 480),
  (10, s_ci false 13 3 (sg0) f_X6_isWithin),
  (13, s_zeq 16 28),
  (16, s_al 17 0),
  (17, s_ca0 true 20 1 16 f_X6_presentLog),
  (20, s_il 21 1),
  (21, s_il 22 2),
  (22, s_ci true 25 3 (sgC 16 27) f_X3_stepsOf),
  (25, s_go 30),
  (28, s_ic 30 (-2)),
  (30, s_ir)]
def cs_X6_stepsAfter : Cs := []
noncomputable def f_X6_stepsAfter : List Vv → Mm → Option Ou := lock (sem t_X6_stepsAfter cs_X6_stepsAfter 3)
set_option maxRecDepth 20000 in
theorem ok_X6_stepsAfter (l : Launch) (hl : l.stackTraces = false) : Ok l RX6 cX6_stepsAfter 3 7 (some .int) layX t_X6_stepsAfter :=
  Ok.cons (so_aload_n dX6_stepsAfter_0 rfl rfl) <|
  Ok.cons (so_iload_n dX6_stepsAfter_1 rfl rfl) <|
  Ok.cons (so_vv0 (ct_X6_requireIron l hl) wq_824 wq_821 wq_823 wq_39 wq_87 (by decide +kernel) (by decide) rfl rfl dX6_stepsAfter_2 rfl) <|
  Ok.cons (so_iload_n dX6_stepsAfter_5 rfl rfl) <|
  Ok.cons (so_iconst dX6_stepsAfter_6 (by decide) rfl) <|
  Ok.cons (so_sipush dX6_stepsAfter_7 (by decide) rfl) <|
  Ok.cons (so_si (ct_X6_isWithin l) wq_398 wq_396 wq_397 wq_87 (by decide +kernel) (by decide) cmp_layX_sg0 dX6_stepsAfter_10 rfl) <|
  Ok.cons (so_zeq dX6_stepsAfter_13 (by decide) rfl) <|
  Ok.cons (so_aload_n dX6_stepsAfter_16 rfl rfl) <|
  Ok.cons (so_va0 (ct_X6_presentLog l hl) wq_541 wq_538 wq_540 wq_14 wq_87 (by decide +kernel) (by decide) rfl rfl dX6_stepsAfter_17 rfl) <|
  Ok.cons (so_iload_n dX6_stepsAfter_20 rfl rfl) <|
  Ok.cons (so_iload_n dX6_stepsAfter_21 rfl rfl) <|
  Ok.cons (so_vi (ct_X3_stepsOf l) wq_778 wq_1004 wq_776 wq_777 wq_92 (by decide +kernel) (by decide) rfl rfl cmp_layX_sgC_16_27 dX6_stepsAfter_22 rfl) <|
  Ok.cons (so_goto dX6_stepsAfter_25 (by decide)) <|
  Ok.cons (so_bipush dX6_stepsAfter_28 (by decide) rfl) <|
  Ok.cons (so_ir rfl dX6_stepsAfter_30) <| Ok.nil
theorem ct_X6_stepsAfter (l : Launch) (hl : l.stackTraces = false) : Ct l yX6_stepsAfter cX6_stepsAfter 3 (some .int) 7 layX f_X6_stepsAfter := ofRunL (by decide) rfl (ok_X6_stepsAfter l hl)
noncomputable def t_X6_coldStops : Tbl := [(0, s_al 1 0),
  (1, s_il 2 1),
  (2, s_cv0 true 5 2 f_X6_requireIron),
  (5, s_al 6 0),
  (6, s_ca0 true 9 1 16 f_X6_presentLog),
  (9, s_gf 12 layX 3 1),
  (12, s_gf 15 layX 5 8),
  (15, s_il 16 1),
  (16, s_ia 17 layX 0),
  (17, s_ir)]
def cs_X6_coldStops : Cs := []
noncomputable def f_X6_coldStops : List Vv → Mm → Option Ou := lock (sem t_X6_coldStops cs_X6_coldStops 2)
set_option maxRecDepth 20000 in
theorem ok_X6_coldStops (l : Launch) (hl : l.stackTraces = false) : Ok l RX6 cX6_coldStops 2 7 (some .int) layX t_X6_coldStops :=
  Ok.cons (so_aload_n dX6_coldStops_0 rfl rfl) <|
  Ok.cons (so_iload_n dX6_coldStops_1 rfl rfl) <|
  Ok.cons (so_vv0 (ct_X6_requireIron l hl) wq_824 wq_821 wq_823 wq_39 wq_87 (by decide +kernel) (by decide) rfl rfl dX6_coldStops_2 rfl) <|
  Ok.cons (so_aload_n dX6_coldStops_5 rfl rfl) <|
  Ok.cons (so_va0 (ct_X6_presentLog l hl) wq_541 wq_538 wq_540 wq_14 wq_87 (by decide +kernel) (by decide) rfl rfl dX6_coldStops_6 rfl) <|
  Ok.cons (so_gf (C := RX3) (T := TX3) (N := 5) inGX3 rfl (by decide) wq_316 rfl dX6_coldStops_9 rfl) <|
  Ok.cons (so_gf (C := RX5) (T := TX5) (N := 13) inGX5 rfl (by decide) wq_281 rfl dX6_coldStops_12 rfl) <|
  Ok.cons (so_iload_n dX6_coldStops_15 rfl rfl) <|
  Ok.cons (so_ia0 dX6_coldStops_16 rfl) <|
  Ok.cons (so_ir rfl dX6_coldStops_17) <| Ok.nil
theorem ct_X6_coldStops (l : Launch) (hl : l.stackTraces = false) : Ct l yX6_coldStops cX6_coldStops 2 (some .int) 7 layX f_X6_coldStops := ofRunL (by decide) rfl (ok_X6_coldStops l hl)
noncomputable def t_X6_heats : Tbl := [(0, s_al 1 0),
  (1, s_il 2 1),
  (2, s_cv0 true 5 2 f_X6_requireIron),
  (5, s_al 6 0),
  (6, s_ca0 true 9 1 16 f_X6_presentLog),
  (9, s_gf 12 layX 3 1),
  (12, s_gf 15 layX 5 9),
  (15, s_il 16 1),
  (16, s_ia 17 layX 0),
  (17, s_ir)]
def cs_X6_heats : Cs := []
noncomputable def f_X6_heats : List Vv → Mm → Option Ou := lock (sem t_X6_heats cs_X6_heats 2)
set_option maxRecDepth 20000 in
theorem ok_X6_heats (l : Launch) (hl : l.stackTraces = false) : Ok l RX6 cX6_heats 2 7 (some .int) layX t_X6_heats :=
  Ok.cons (so_aload_n dX6_heats_0 rfl rfl) <|
  Ok.cons (so_iload_n dX6_heats_1 rfl rfl) <|
  Ok.cons (so_vv0 (ct_X6_requireIron l hl) wq_824 wq_821 wq_823 wq_39 wq_87 (by decide +kernel) (by decide) rfl rfl dX6_heats_2 rfl) <|
  Ok.cons (so_aload_n dX6_heats_5 rfl rfl) <|
  Ok.cons (so_va0 (ct_X6_presentLog l hl) wq_541 wq_538 wq_540 wq_14 wq_87 (by decide +kernel) (by decide) rfl rfl dX6_heats_6 rfl) <|
  Ok.cons (so_gf (C := RX3) (T := TX3) (N := 5) inGX3 rfl (by decide) wq_316 rfl dX6_heats_9 rfl) <|
  Ok.cons (so_gf (C := RX5) (T := TX5) (N := 13) inGX5 rfl (by decide) wq_283 rfl dX6_heats_12 rfl) <|
  Ok.cons (so_iload_n dX6_heats_15 rfl rfl) <|
  Ok.cons (so_ia0 dX6_heats_16 rfl) <|
  Ok.cons (so_ir rfl dX6_heats_17) <| Ok.nil
theorem ct_X6_heats (l : Launch) (hl : l.stackTraces = false) : Ct l yX6_heats cX6_heats 2 (some .int) 7 layX f_X6_heats := ofRunL (by decide) rfl (ok_X6_heats l hl)
noncomputable def t_X6_fireMinutes : Tbl := [(0, s_al 1 0),
  (1, s_il 2 1),
  (2, s_cv0 true 5 2 f_X6_requireIron),
  (5, s_al 6 0),
  (6, s_ca0 true 9 1 16 f_X6_presentLog),
  (9, s_il 10 1),
  (10, s_ci true 13 2 (sgC 16 27) f_X3_minutesInFire),
  (13, s_ir)]
def cs_X6_fireMinutes : Cs := []
noncomputable def f_X6_fireMinutes : List Vv → Mm → Option Ou := lock (sem t_X6_fireMinutes cs_X6_fireMinutes 2)
set_option maxRecDepth 20000 in
theorem ok_X6_fireMinutes (l : Launch) (hl : l.stackTraces = false) : Ok l RX6 cX6_fireMinutes 2 7 (some .int) layX t_X6_fireMinutes :=
  Ok.cons (so_aload_n dX6_fireMinutes_0 rfl rfl) <|
  Ok.cons (so_iload_n dX6_fireMinutes_1 rfl rfl) <|
  Ok.cons (so_vv0 (ct_X6_requireIron l hl) wq_824 wq_821 wq_823 wq_39 wq_87 (by decide +kernel) (by decide) rfl rfl dX6_fireMinutes_2 rfl) <|
  Ok.cons (so_aload_n dX6_fireMinutes_5 rfl rfl) <|
  Ok.cons (so_va0 (ct_X6_presentLog l hl) wq_541 wq_538 wq_540 wq_14 wq_87 (by decide +kernel) (by decide) rfl rfl dX6_fireMinutes_6 rfl) <|
  Ok.cons (so_iload_n dX6_fireMinutes_9 rfl rfl) <|
  Ok.cons (so_vi (ct_X3_minutesInFire l) wq_1029 wq_1026 wq_1027 wq_1028 wq_92 (by decide +kernel) (by decide) rfl rfl cmp_layX_sgC_16_27 dX6_fireMinutes_10 rfl) <|
  Ok.cons (so_ir rfl dX6_fireMinutes_13) <| Ok.nil
theorem ct_X6_fireMinutes (l : Launch) (hl : l.stackTraces = false) : Ct l yX6_fireMinutes cX6_fireMinutes 2 (some .int) 7 layX f_X6_fireMinutes := ofRunL (by decide) rfl (ok_X6_fireMinutes l hl)
noncomputable def t_X6_requireAnvil : Tbl := [(0, s_il 1 1),
  (1, s_ic 2 0),
  (2, s_al 3 0),
  (3, s_gf 6 layX 6 0),
  (6, s_gf 9 layX 2 10),
  (9, s_ic 10 0),
  (10, s_ia 11 layX 0),
  (11, s_ic 12 1),
  (12, s_b 13 (fun x y => x - y)),
  (13, s_ci false 16 3 (sg0) f_X6_isWithin),
  (16, s_zne 19 30),
  (19, s_th),
  (30, s_vr)]
def cs_X6_requireAnvil : Cs := []
noncomputable def f_X6_requireAnvil : List Vv → Mm → Option Ou := lock (sem t_X6_requireAnvil cs_X6_requireAnvil 2)
set_option maxRecDepth 20000 in
theorem ok_X6_requireAnvil (l : Launch) (hl : l.stackTraces = false) : Ok l RX6 cX6_requireAnvil 2 6 none layX t_X6_requireAnvil :=
  Ok.cons (so_iload_n dX6_requireAnvil_0 rfl rfl) <|
  Ok.cons (so_iconst dX6_requireAnvil_1 (by decide) rfl) <|
  Ok.cons (so_aload_n dX6_requireAnvil_2 rfl rfl) <|
  Ok.cons (so_gf (C := RX6) (T := TX6) (N := 9) inGX6 rfl (by decide) wq_352 rfl dX6_requireAnvil_3 rfl) <|
  Ok.cons (so_gf (C := RX2) (T := TX2) (N := 12) inGX2 rfl (by decide) wq_159 rfl dX6_requireAnvil_6 rfl) <|
  Ok.cons (so_iconst dX6_requireAnvil_9 (by decide) rfl) <|
  Ok.cons (so_ia0 dX6_requireAnvil_10 rfl) <|
  Ok.cons (so_iconst dX6_requireAnvil_11 (by decide) rfl) <|
  Ok.cons (so_isub dX6_requireAnvil_12 rfl) <|
  Ok.cons (so_si (ct_X6_isWithin l) wq_398 wq_396 wq_397 wq_87 (by decide +kernel) (by decide) cmp_layX_sg0 dX6_requireAnvil_13 rfl) <|
  Ok.cons (so_zne dX6_requireAnvil_16 (by decide) rfl) <|
  Ok.cons (so_th (text := "no such anvil") (sai := 8) hl (by decide) wq_825 wq_104 (fun ts A U h => h.2.2.2.2.2.1) wx_at_287 wx_good_287_283 dX6_requireAnvil_19 dX6_requireAnvil_22 dX6_requireAnvil_23 dX6_requireAnvil_26 dX6_requireAnvil_29) <|
  Ok.cons (so_vr rfl dX6_requireAnvil_30) <| Ok.nil
theorem ct_X6_requireAnvil (l : Launch) (hl : l.stackTraces = false) : Ct l yX6_requireAnvil cX6_requireAnvil 2 none 6 layX f_X6_requireAnvil := ofRunL (by decide) rfl (ok_X6_requireAnvil l hl)
noncomputable def t_X6_anvilMinutes : Tbl := [(0, s_al 1 0),
  (1, s_il 2 1),
  (2, s_cv0 true 5 2 f_X6_requireAnvil),
  (5, s_al 6 0),
  (6, s_ca0 true 9 1 16 f_X6_presentLog),
  (9, s_ic 11 10),
  (11, s_il 12 1),
  (12, s_b 13 (fun x y => x + y)),
  (13, s_ci true 16 2 (sgC 16 27) f_X3_minutesUsed),
  (16, s_ir)]
def cs_X6_anvilMinutes : Cs := []
noncomputable def f_X6_anvilMinutes : List Vv → Mm → Option Ou := lock (sem t_X6_anvilMinutes cs_X6_anvilMinutes 2)
set_option maxRecDepth 20000 in
theorem ok_X6_anvilMinutes (l : Launch) (hl : l.stackTraces = false) : Ok l RX6 cX6_anvilMinutes 2 7 (some .int) layX t_X6_anvilMinutes :=
  Ok.cons (so_aload_n dX6_anvilMinutes_0 rfl rfl) <|
  Ok.cons (so_iload_n dX6_anvilMinutes_1 rfl rfl) <|
  Ok.cons (so_vv0 (ct_X6_requireAnvil l hl) wq_1040 wq_1037 wq_1039 wq_43 wq_87 (by decide +kernel) (by decide) rfl rfl dX6_anvilMinutes_2 rfl) <|
  Ok.cons (so_aload_n dX6_anvilMinutes_5 rfl rfl) <|
  Ok.cons (so_va0 (ct_X6_presentLog l hl) wq_541 wq_538 wq_540 wq_14 wq_87 (by decide +kernel) (by decide) rfl rfl dX6_anvilMinutes_6 rfl) <|
  Ok.cons (so_bipush dX6_anvilMinutes_9 (by decide) rfl) <|
  Ok.cons (so_iload_n dX6_anvilMinutes_11 rfl rfl) <|
  Ok.cons (so_iadd dX6_anvilMinutes_12 rfl) <|
  Ok.cons (so_vi (ct_X3_minutesUsed l) wq_1045 wq_1042 wq_1043 wq_1044 wq_92 (by decide +kernel) (by decide) rfl rfl cmp_layX_sgC_16_27 dX6_anvilMinutes_13 rfl) <|
  Ok.cons (so_ir rfl dX6_anvilMinutes_16) <| Ok.nil
theorem ct_X6_anvilMinutes (l : Launch) (hl : l.stackTraces = false) : Ct l yX6_anvilMinutes cX6_anvilMinutes 2 (some .int) 7 layX f_X6_anvilMinutes := ofRunL (by decide) rfl (ok_X6_anvilMinutes l hl)
noncomputable def t_X6_placeMinutes : Tbl := [(0, s_al 1 0),
  (1, s_il 2 1),
  (2, s_cv0 true 5 2 f_X6_requirePlace),
  (5, s_al 6 0),
  (6, s_ca0 true 9 1 16 f_X6_presentLog),
  (9, s_ic 10 1),
  (10, s_il 11 1),
  (11, s_b 12 (fun x y => x + y)),
  (12, s_ci true 15 2 (sgC 16 27) f_X3_minutesUsed),
  (15, s_ir)]
def cs_X6_placeMinutes : Cs := []
noncomputable def f_X6_placeMinutes : List Vv → Mm → Option Ou := lock (sem t_X6_placeMinutes cs_X6_placeMinutes 2)
set_option maxRecDepth 20000 in
theorem ok_X6_placeMinutes (l : Launch) (hl : l.stackTraces = false) : Ok l RX6 cX6_placeMinutes 2 7 (some .int) layX t_X6_placeMinutes :=
  Ok.cons (so_aload_n dX6_placeMinutes_0 rfl rfl) <|
  Ok.cons (so_iload_n dX6_placeMinutes_1 rfl rfl) <|
  Ok.cons (so_vv0 (ct_X6_requirePlace l hl) wq_941 wq_938 wq_940 wq_42 wq_87 (by decide +kernel) (by decide) rfl rfl dX6_placeMinutes_2 rfl) <|
  Ok.cons (so_aload_n dX6_placeMinutes_5 rfl rfl) <|
  Ok.cons (so_va0 (ct_X6_presentLog l hl) wq_541 wq_538 wq_540 wq_14 wq_87 (by decide +kernel) (by decide) rfl rfl dX6_placeMinutes_6 rfl) <|
  Ok.cons (so_iconst dX6_placeMinutes_9 (by decide) rfl) <|
  Ok.cons (so_iload_n dX6_placeMinutes_10 rfl rfl) <|
  Ok.cons (so_iadd dX6_placeMinutes_11 rfl) <|
  Ok.cons (so_vi (ct_X3_minutesUsed l) wq_1045 wq_1042 wq_1043 wq_1044 wq_92 (by decide +kernel) (by decide) rfl rfl cmp_layX_sgC_16_27 dX6_placeMinutes_12 rfl) <|
  Ok.cons (so_ir rfl dX6_placeMinutes_15) <| Ok.nil
theorem ct_X6_placeMinutes (l : Launch) (hl : l.stackTraces = false) : Ct l yX6_placeMinutes cX6_placeMinutes 2 (some .int) 7 layX f_X6_placeMinutes := ofRunL (by decide) rfl (ok_X6_placeMinutes l hl)
noncomputable def t_X6_hottest : Tbl := [(0, s_al 1 0),
  (1, s_il 2 1),
  (2, s_cv0 true 5 2 f_X6_requireIron),
  (5, s_al 6 0),
  (6, s_ca0 true 9 1 16 f_X6_presentLog),
  (9, s_il 10 1),
  (10, s_ci true 13 2 (sgC 16 27) f_X3_greatestHeat),
  (13, s_ir)]
def cs_X6_hottest : Cs := []
noncomputable def f_X6_hottest : List Vv → Mm → Option Ou := lock (sem t_X6_hottest cs_X6_hottest 2)
set_option maxRecDepth 20000 in
theorem ok_X6_hottest (l : Launch) (hl : l.stackTraces = false) : Ok l RX6 cX6_hottest 2 7 (some .int) layX t_X6_hottest :=
  Ok.cons (so_aload_n dX6_hottest_0 rfl rfl) <|
  Ok.cons (so_iload_n dX6_hottest_1 rfl rfl) <|
  Ok.cons (so_vv0 (ct_X6_requireIron l hl) wq_824 wq_821 wq_823 wq_39 wq_87 (by decide +kernel) (by decide) rfl rfl dX6_hottest_2 rfl) <|
  Ok.cons (so_aload_n dX6_hottest_5 rfl rfl) <|
  Ok.cons (so_va0 (ct_X6_presentLog l hl) wq_541 wq_538 wq_540 wq_14 wq_87 (by decide +kernel) (by decide) rfl rfl dX6_hottest_6 rfl) <|
  Ok.cons (so_iload_n dX6_hottest_9 rfl rfl) <|
  Ok.cons (so_vi (ct_X3_greatestHeat l) wq_1067 wq_1064 wq_1065 wq_1066 wq_92 (by decide +kernel) (by decide) rfl rfl cmp_layX_sgC_16_27 dX6_hottest_10 rfl) <|
  Ok.cons (so_ir rfl dX6_hottest_13) <| Ok.nil
theorem ct_X6_hottest (l : Launch) (hl : l.stackTraces = false) : Ct l yX6_hottest cX6_hottest 2 (some .int) 7 layX f_X6_hottest := ofRunL (by decide) rfl (ok_X6_hottest l hl)
noncomputable def t_X6_lastIron : Tbl := [(0, s_al 1 0),
  (1, s_ca0 true 4 1 16 f_X6_presentLog),
  (4, s_gf 7 layX 3 1),
  (7, s_ci true 10 1 (sgC 20 23) f_X5_lastFinished),
  (10, s_ir)]
def cs_X6_lastIron : Cs := []
noncomputable def f_X6_lastIron : List Vv → Mm → Option Ou := lock (sem t_X6_lastIron cs_X6_lastIron 1)
set_option maxRecDepth 20000 in
theorem ok_X6_lastIron (l : Launch) (hl : l.stackTraces = false) : Ok l RX6 cX6_lastIron 1 6 (some .int) layX t_X6_lastIron :=
  Ok.cons (so_aload_n dX6_lastIron_0 rfl rfl) <|
  Ok.cons (so_va0 (ct_X6_presentLog l hl) wq_541 wq_538 wq_540 wq_14 wq_87 (by decide +kernel) (by decide) rfl rfl dX6_lastIron_1 rfl) <|
  Ok.cons (so_gf (C := RX3) (T := TX3) (N := 5) inGX3 rfl (by decide) wq_316 rfl dX6_lastIron_4 rfl) <|
  Ok.cons (so_vi (ct_X5_lastFinished l) wq_637 wq_642 wq_635 wq_636 wq_93 (by decide +kernel) (by decide) rfl rfl cmp_layX_sgC_20_23 dX6_lastIron_7 rfl) <|
  Ok.cons (so_ir rfl dX6_lastIron_10) <| Ok.nil
theorem ct_X6_lastIron (l : Launch) (hl : l.stackTraces = false) : Ct l yX6_lastIron cX6_lastIron 1 (some .int) 6 layX f_X6_lastIron := ofRunL (by decide) rfl (ok_X6_lastIron l hl)
noncomputable def t_X6_presentBest : Tbl := [(0, s_al 1 0),
  (1, s_gf 4 layX 6 8),
  (4, s_zne 7 38),
  (7, s_al 8 0),
  (8, s_gf 11 layX 6 5),
  (11, s_al 12 0),
  (12, s_gf 15 layX 6 0),
  (15, s_cv true 18 2 (sg2 57 32 11) f_X2_copyFrom),
  (18, s_al 19 0),
  (19, s_gf 22 layX 6 4),
  (22, s_al 23 0),
  (23, s_gf 26 layX 6 5),
  (26, s_al 27 0),
  (27, s_gf 30 layX 6 6),
  (30, s_cv true 33 3 (sgC 43 25) f_X0_search),
  (33, s_al 34 0),
  (34, s_ic 35 1),
  (35, s_pz 38 layX 6 8),
  (38, s_al 39 0),
  (39, s_gf 42 layX 6 4),
  (42, s_ar)]
def cs_X6_presentBest : Cs := []
noncomputable def f_X6_presentBest : List Vv → Mm → Option Ou := lock (sem t_X6_presentBest cs_X6_presentBest 1)
set_option maxRecDepth 20000 in
theorem ok_X6_presentBest (l : Launch) (hl : l.stackTraces = false) : Ok l RX6 cX6_presentBest 1 6 (some (.object "ForgeScheduler$BestOrder")) layX t_X6_presentBest :=
  Ok.cons (so_aload_n dX6_presentBest_0 rfl rfl) <|
  Ok.cons (so_gf (C := RX6) (T := TX6) (N := 9) inGX6 rfl (by decide) wq_360 rfl dX6_presentBest_1 rfl) <|
  Ok.cons (so_zne dX6_presentBest_4 (by decide) rfl) <|
  Ok.cons (so_aload_n dX6_presentBest_7 rfl rfl) <|
  Ok.cons (so_gf (C := RX6) (T := TX6) (N := 9) inGX6 rfl (by decide) wq_357 rfl dX6_presentBest_8 rfl) <|
  Ok.cons (so_aload_n dX6_presentBest_11 rfl rfl) <|
  Ok.cons (so_gf (C := RX6) (T := TX6) (N := 9) inGX6 rfl (by decide) wq_352 rfl dX6_presentBest_12 rfl) <|
  Ok.cons (so_vv (ct_X2_copyFrom l) wq_497 wq_494 wq_495 wq_496 wq_88 (by decide +kernel) (by decide) rfl rfl cmp_layX_sg2_57_32_11 dX6_presentBest_15 rfl) <|
  Ok.cons (so_aload_n dX6_presentBest_18 rfl rfl) <|
  Ok.cons (so_gf (C := RX6) (T := TX6) (N := 9) inGX6 rfl (by decide) wq_356 rfl dX6_presentBest_19 rfl) <|
  Ok.cons (so_aload_n dX6_presentBest_22 rfl rfl) <|
  Ok.cons (so_gf (C := RX6) (T := TX6) (N := 9) inGX6 rfl (by decide) wq_357 rfl dX6_presentBest_23 rfl) <|
  Ok.cons (so_aload_n dX6_presentBest_26 rfl rfl) <|
  Ok.cons (so_gf (C := RX6) (T := TX6) (N := 9) inGX6 rfl (by decide) wq_358 rfl dX6_presentBest_27 rfl) <|
  Ok.cons (so_vv (ct_X0_search l) wq_654 wq_651 wq_652 wq_653 wq_94 (by decide +kernel) (by decide) rfl rfl cmp_layX_sgC_43_25 dX6_presentBest_30 rfl) <|
  Ok.cons (so_aload_n dX6_presentBest_33 rfl rfl) <|
  Ok.cons (so_iconst dX6_presentBest_34 (by decide) rfl) <|
  Ok.cons (so_pz (C := RX6) (T := TX6) (N := 9) inGX6 tyX6_ok nmX6 rfl (by decide) wq_360 rfl rfl rfl dX6_presentBest_35 rfl) <|
  Ok.cons (so_aload_n dX6_presentBest_38 rfl rfl) <|
  Ok.cons (so_gf (C := RX6) (T := TX6) (N := 9) inGX6 rfl (by decide) wq_356 rfl dX6_presentBest_39 rfl) <|
  Ok.cons (so_ar rfl dX6_presentBest_42) <| Ok.nil
theorem ct_X6_presentBest (l : Launch) (hl : l.stackTraces = false) : Ct l yX6_presentBest cX6_presentBest 1 (some (.object "ForgeScheduler$BestOrder")) 6 layX f_X6_presentBest := ofRunL (by decide) rfl (ok_X6_presentBest l hl)
noncomputable def t_X6_bestFinish : Tbl := [(0, s_al 1 0),
  (1, s_ca0 true 4 1 43 f_X6_presentBest),
  (4, s_gf 7 layX 0 1),
  (7, s_ir)]
def cs_X6_bestFinish : Cs := []
noncomputable def f_X6_bestFinish : List Vv → Mm → Option Ou := lock (sem t_X6_bestFinish cs_X6_bestFinish 1)
set_option maxRecDepth 20000 in
theorem ok_X6_bestFinish (l : Launch) (hl : l.stackTraces = false) : Ok l RX6 cX6_bestFinish 1 7 (some .int) layX t_X6_bestFinish :=
  Ok.cons (so_aload_n dX6_bestFinish_0 rfl rfl) <|
  Ok.cons (so_va0 (ct_X6_presentBest l hl) wq_650 wq_647 wq_649 wq_29 wq_87 (by decide +kernel) (by decide) rfl rfl dX6_bestFinish_1 rfl) <|
  Ok.cons (so_gf (C := RX0) (T := TX0) (N := 3) inGX0 rfl (by decide) wq_340 rfl dX6_bestFinish_4 rfl) <|
  Ok.cons (so_ir rfl dX6_bestFinish_7) <| Ok.nil
theorem ct_X6_bestFinish (l : Launch) (hl : l.stackTraces = false) : Ct l yX6_bestFinish cX6_bestFinish 1 (some .int) 7 layX f_X6_bestFinish := ofRunL (by decide) rfl (ok_X6_bestFinish l hl)
noncomputable def t_X6_bestIronAt : Tbl := [(0, s_al 1 0),
  (1, s_il 2 1),
  (2, s_cv0 true 5 2 f_X6_requireIron),
  (5, s_al 6 0),
  (6, s_ca0 true 9 1 43 f_X6_presentBest),
  (9, s_as 10 2),
  (10, s_al 11 2),
  (11, s_gf 14 layX 0 1),
  (14, s_ic 15 (-1)),
  (15, s_cne 18 22),
  (18, s_ic 19 (-1)),
  (19, s_go 28),
  (22, s_al 23 2),
  (23, s_gf 26 layX 0 0),
  (26, s_il 27 1),
  (27, s_ia 28 layX 0),
  (28, s_ir)]
def cs_X6_bestIronAt : Cs := []
noncomputable def f_X6_bestIronAt : List Vv → Mm → Option Ou := lock (sem t_X6_bestIronAt cs_X6_bestIronAt 3)
set_option maxRecDepth 20000 in
theorem ok_X6_bestIronAt (l : Launch) (hl : l.stackTraces = false) : Ok l RX6 cX6_bestIronAt 3 7 (some .int) layX t_X6_bestIronAt :=
  Ok.cons (so_aload_n dX6_bestIronAt_0 rfl rfl) <|
  Ok.cons (so_iload_n dX6_bestIronAt_1 rfl rfl) <|
  Ok.cons (so_vv0 (ct_X6_requireIron l hl) wq_824 wq_821 wq_823 wq_39 wq_87 (by decide +kernel) (by decide) rfl rfl dX6_bestIronAt_2 rfl) <|
  Ok.cons (so_aload_n dX6_bestIronAt_5 rfl rfl) <|
  Ok.cons (so_va0 (ct_X6_presentBest l hl) wq_650 wq_647 wq_649 wq_29 wq_87 (by decide +kernel) (by decide) rfl rfl dX6_bestIronAt_6 rfl) <|
  Ok.cons (so_astore_n dX6_bestIronAt_9 rfl (by decide) rfl) <|
  Ok.cons (so_aload_n dX6_bestIronAt_10 rfl rfl) <|
  Ok.cons (so_gf (C := RX0) (T := TX0) (N := 3) inGX0 rfl (by decide) wq_340 rfl dX6_bestIronAt_11 rfl) <|
  Ok.cons (so_iconst dX6_bestIronAt_14 (by decide) rfl) <|
  Ok.cons (so_cne dX6_bestIronAt_15 (by decide) rfl) <|
  Ok.cons (so_iconst dX6_bestIronAt_18 (by decide) rfl) <|
  Ok.cons (so_goto dX6_bestIronAt_19 (by decide)) <|
  Ok.cons (so_aload_n dX6_bestIronAt_22 rfl rfl) <|
  Ok.cons (so_gf (C := RX0) (T := TX0) (N := 3) inGX0 rfl (by decide) wq_338 rfl dX6_bestIronAt_23 rfl) <|
  Ok.cons (so_iload_n dX6_bestIronAt_26 rfl rfl) <|
  Ok.cons (so_ia0 dX6_bestIronAt_27 rfl) <|
  Ok.cons (so_ir rfl dX6_bestIronAt_28) <| Ok.nil
theorem ct_X6_bestIronAt (l : Launch) (hl : l.stackTraces = false) : Ct l yX6_bestIronAt cX6_bestIronAt 3 (some .int) 7 layX f_X6_bestIronAt := ofRunL (by decide) rfl (ok_X6_bestIronAt l hl)
noncomputable def t_X6_bestOrders : Tbl := [(0, s_al 1 0),
  (1, s_ca0 true 4 1 43 f_X6_presentBest),
  (4, s_gf 7 layX 0 2),
  (7, s_ir)]
def cs_X6_bestOrders : Cs := []
noncomputable def f_X6_bestOrders : List Vv → Mm → Option Ou := lock (sem t_X6_bestOrders cs_X6_bestOrders 1)
set_option maxRecDepth 20000 in
theorem ok_X6_bestOrders (l : Launch) (hl : l.stackTraces = false) : Ok l RX6 cX6_bestOrders 1 7 (some .int) layX t_X6_bestOrders :=
  Ok.cons (so_aload_n dX6_bestOrders_0 rfl rfl) <|
  Ok.cons (so_va0 (ct_X6_presentBest l hl) wq_650 wq_647 wq_649 wq_29 wq_87 (by decide +kernel) (by decide) rfl rfl dX6_bestOrders_1 rfl) <|
  Ok.cons (so_gf (C := RX0) (T := TX0) (N := 3) inGX0 rfl (by decide) wq_342 rfl dX6_bestOrders_4 rfl) <|
  Ok.cons (so_ir rfl dX6_bestOrders_7) <| Ok.nil
theorem ct_X6_bestOrders (l : Launch) (hl : l.stackTraces = false) : Ct l yX6_bestOrders cX6_bestOrders 1 (some .int) 7 layX f_X6_bestOrders := ofRunL (by decide) rfl (ok_X6_bestOrders l hl)
noncomputable def t_X6_finishWithSwap : Tbl := [(0, s_al 1 0),
  (1, s_il 2 1),
  (2, s_cv0 true 5 2 f_X6_requireIron),
  (5, s_al 6 0),
  (6, s_il 7 2),
  (7, s_cv0 true 10 2 f_X6_requireIron),
  (10, s_al 11 0),
  (11, s_gf 14 layX 6 5),
  (14, s_al 15 0),
  (15, s_gf 18 layX 6 0),
  (18, s_cv true 21 2 (sg2 57 32 11) f_X2_copyFrom),
  (21, s_al 22 0),
  (22, s_gf 25 layX 6 5),
  (25, s_il 26 1),
  (26, s_il 27 2),
  (27, s_cv true 30 3 (sgC 57 11) f_X2_exchange),
  (30, s_al 31 0),
  (31, s_gf 34 layX 6 6),
  (34, s_ic 37 480),
  (37, s_ci true 40 2 (sgC 45 23) f_X5_endWithin),
  (40, s_ir)]
def cs_X6_finishWithSwap : Cs := []
noncomputable def f_X6_finishWithSwap : List Vv → Mm → Option Ou := lock (sem t_X6_finishWithSwap cs_X6_finishWithSwap 3)
set_option maxRecDepth 20000 in
theorem ok_X6_finishWithSwap (l : Launch) (hl : l.stackTraces = false) : Ok l RX6 cX6_finishWithSwap 3 7 (some .int) layX t_X6_finishWithSwap :=
  Ok.cons (so_aload_n dX6_finishWithSwap_0 rfl rfl) <|
  Ok.cons (so_iload_n dX6_finishWithSwap_1 rfl rfl) <|
  Ok.cons (so_vv0 (ct_X6_requireIron l hl) wq_824 wq_821 wq_823 wq_39 wq_87 (by decide +kernel) (by decide) rfl rfl dX6_finishWithSwap_2 rfl) <|
  Ok.cons (so_aload_n dX6_finishWithSwap_5 rfl rfl) <|
  Ok.cons (so_iload_n dX6_finishWithSwap_6 rfl rfl) <|
  Ok.cons (so_vv0 (ct_X6_requireIron l hl) wq_824 wq_821 wq_823 wq_39 wq_87 (by decide +kernel) (by decide) rfl rfl dX6_finishWithSwap_7 rfl) <|
  Ok.cons (so_aload_n dX6_finishWithSwap_10 rfl rfl) <|
  Ok.cons (so_gf (C := RX6) (T := TX6) (N := 9) inGX6 rfl (by decide) wq_357 rfl dX6_finishWithSwap_11 rfl) <|
  Ok.cons (so_aload_n dX6_finishWithSwap_14 rfl rfl) <|
  Ok.cons (so_gf (C := RX6) (T := TX6) (N := 9) inGX6 rfl (by decide) wq_352 rfl dX6_finishWithSwap_15 rfl) <|
  Ok.cons (so_vv (ct_X2_copyFrom l) wq_497 wq_494 wq_495 wq_496 wq_88 (by decide +kernel) (by decide) rfl rfl cmp_layX_sg2_57_32_11 dX6_finishWithSwap_18 rfl) <|
  Ok.cons (so_aload_n dX6_finishWithSwap_21 rfl rfl) <|
  Ok.cons (so_gf (C := RX6) (T := TX6) (N := 9) inGX6 rfl (by decide) wq_357 rfl dX6_finishWithSwap_22 rfl) <|
  Ok.cons (so_iload_n dX6_finishWithSwap_25 rfl rfl) <|
  Ok.cons (so_iload_n dX6_finishWithSwap_26 rfl rfl) <|
  Ok.cons (so_vv (ct_X2_exchange l) wq_681 wq_736 wq_679 wq_680 wq_88 (by decide +kernel) (by decide) rfl rfl cmp_layX_sgC_57_11 dX6_finishWithSwap_27 rfl) <|
  Ok.cons (so_aload_n dX6_finishWithSwap_30 rfl rfl) <|
  Ok.cons (so_gf (C := RX6) (T := TX6) (N := 9) inGX6 rfl (by decide) wq_358 rfl dX6_finishWithSwap_31 rfl) <|
  Ok.cons (so_sipush dX6_finishWithSwap_34 (by decide) rfl) <|
  Ok.cons (so_vi (ct_X5_endWithin l) wq_662 wq_699 wq_660 wq_661 wq_93 (by decide +kernel) (by decide) rfl rfl cmp_layX_sgC_45_23 dX6_finishWithSwap_37 rfl) <|
  Ok.cons (so_ir rfl dX6_finishWithSwap_40) <| Ok.nil
theorem ct_X6_finishWithSwap (l : Launch) (hl : l.stackTraces = false) : Ct l yX6_finishWithSwap cX6_finishWithSwap 3 (some .int) 7 layX f_X6_finishWithSwap := ofRunL (by decide) rfl (ok_X6_finishWithSwap l hl)
noncomputable def t_X6_finishWithSetting : Tbl := [(0, s_il 1 1),
  (1, s_il 2 2),
  (2, s_ci false 5 2 (sg0) f_X6_isSettingValue),
  (5, s_zne 8 11),
  (8, s_ic 10 (-2)),
  (10, s_ir),
  (11, s_al 12 0),
  (12, s_gf 15 layX 6 5),
  (15, s_al 16 0),
  (16, s_gf 19 layX 6 0),
  (19, s_cv true 22 2 (sg2 57 32 11) f_X2_copyFrom),
  (22, s_al 23 0),
  (23, s_gf 26 layX 6 5),
  (26, s_gf 29 layX 2 10),
  (29, s_il 30 1),
  (30, s_il 31 2),
  (31, s_ix 32 layX 0),
  (32, s_al 33 0),
  (33, s_gf 36 layX 6 6),
  (36, s_ic 39 480),
  (39, s_ci true 42 2 (sgC 45 23) f_X5_endWithin),
  (42, s_ir)]
def cs_X6_finishWithSetting : Cs := []
noncomputable def f_X6_finishWithSetting : List Vv → Mm → Option Ou := lock (sem t_X6_finishWithSetting cs_X6_finishWithSetting 3)
set_option maxRecDepth 20000 in
theorem ok_X6_finishWithSetting (l : Launch) (hl : l.stackTraces = false) : Ok l RX6 cX6_finishWithSetting 3 5 (some .int) layX t_X6_finishWithSetting :=
  Ok.cons (so_iload_n dX6_finishWithSetting_0 rfl rfl) <|
  Ok.cons (so_iload_n dX6_finishWithSetting_1 rfl rfl) <|
  Ok.cons (so_si (ct_X6_isSettingValue l) wq_696 wq_694 wq_695 wq_87 (by decide +kernel) (by decide) cmp_layX_sg0 dX6_finishWithSetting_2 rfl) <|
  Ok.cons (so_zne dX6_finishWithSetting_5 (by decide) rfl) <|
  Ok.cons (so_bipush dX6_finishWithSetting_8 (by decide) rfl) <|
  Ok.cons (so_ir rfl dX6_finishWithSetting_10) <|
  Ok.cons (so_aload_n dX6_finishWithSetting_11 rfl rfl) <|
  Ok.cons (so_gf (C := RX6) (T := TX6) (N := 9) inGX6 rfl (by decide) wq_357 rfl dX6_finishWithSetting_12 rfl) <|
  Ok.cons (so_aload_n dX6_finishWithSetting_15 rfl rfl) <|
  Ok.cons (so_gf (C := RX6) (T := TX6) (N := 9) inGX6 rfl (by decide) wq_352 rfl dX6_finishWithSetting_16 rfl) <|
  Ok.cons (so_vv (ct_X2_copyFrom l) wq_497 wq_494 wq_495 wq_496 wq_88 (by decide +kernel) (by decide) rfl rfl cmp_layX_sg2_57_32_11 dX6_finishWithSetting_19 rfl) <|
  Ok.cons (so_aload_n dX6_finishWithSetting_22 rfl rfl) <|
  Ok.cons (so_gf (C := RX6) (T := TX6) (N := 9) inGX6 rfl (by decide) wq_357 rfl dX6_finishWithSetting_23 rfl) <|
  Ok.cons (so_gf (C := RX2) (T := TX2) (N := 12) inGX2 rfl (by decide) wq_159 rfl dX6_finishWithSetting_26 rfl) <|
  Ok.cons (so_iload_n dX6_finishWithSetting_29 rfl rfl) <|
  Ok.cons (so_iload_n dX6_finishWithSetting_30 rfl rfl) <|
  Ok.cons (so_ix dX6_finishWithSetting_31 rfl) <|
  Ok.cons (so_aload_n dX6_finishWithSetting_32 rfl rfl) <|
  Ok.cons (so_gf (C := RX6) (T := TX6) (N := 9) inGX6 rfl (by decide) wq_358 rfl dX6_finishWithSetting_33 rfl) <|
  Ok.cons (so_sipush dX6_finishWithSetting_36 (by decide) rfl) <|
  Ok.cons (so_vi (ct_X5_endWithin l) wq_662 wq_699 wq_660 wq_661 wq_93 (by decide +kernel) (by decide) rfl rfl cmp_layX_sgC_45_23 dX6_finishWithSetting_39 rfl) <|
  Ok.cons (so_ir rfl dX6_finishWithSetting_42) <| Ok.nil
theorem ct_X6_finishWithSetting (l : Launch) (hl : l.stackTraces = false) : Ct l yX6_finishWithSetting cX6_finishWithSetting 3 (some .int) 5 layX f_X6_finishWithSetting := ofRunL (by decide) rfl (ok_X6_finishWithSetting l hl)
noncomputable def t_X6_finishWithMargin : Tbl := [(0, s_al 1 0),
  (1, s_ic 2 1),
  (2, s_il 3 1),
  (3, s_ci0 true 6 3 f_X6_finishWithSetting),
  (6, s_ir)]
def cs_X6_finishWithMargin : Cs := []
noncomputable def f_X6_finishWithMargin : List Vv → Mm → Option Ou := lock (sem t_X6_finishWithMargin cs_X6_finishWithMargin 2)
set_option maxRecDepth 20000 in
theorem ok_X6_finishWithMargin (l : Launch) (hl : l.stackTraces = false) : Ok l RX6 cX6_finishWithMargin 2 6 (some .int) layX t_X6_finishWithMargin :=
  Ok.cons (so_aload_n dX6_finishWithMargin_0 rfl rfl) <|
  Ok.cons (so_iconst dX6_finishWithMargin_1 (by decide) rfl) <|
  Ok.cons (so_iload_n dX6_finishWithMargin_2 rfl rfl) <|
  Ok.cons (so_vi0 (ct_X6_finishWithSetting l hl) wq_693 wq_690 wq_692 wq_32 wq_87 (by decide +kernel) (by decide) rfl rfl dX6_finishWithMargin_3 rfl) <|
  Ok.cons (so_ir rfl dX6_finishWithMargin_6) <| Ok.nil
theorem ct_X6_finishWithMargin (l : Launch) (hl : l.stackTraces = false) : Ct l yX6_finishWithMargin cX6_finishWithMargin 2 (some .int) 6 layX f_X6_finishWithMargin := ofRunL (by decide) rfl (ok_X6_finishWithMargin l hl)
noncomputable def t_X6_bestValue : Tbl := [(0, s_ic 1 (-1)),
  (1, s_is 2 3),
  (2, s_ic 5 481),
  (5, s_is 7 4),
  (7, s_al 8 0),
  (8, s_gf 11 layX 6 5),
  (11, s_al 12 0),
  (12, s_gf 15 layX 6 0),
  (15, s_cv true 18 2 (sg2 57 32 11) f_X2_copyFrom),
  (18, s_gs 21 0),
  (21, s_il 22 1),
  (22, s_ia 23 layX 0),
  (23, s_is 25 5),
  (25, s_il 27 5),
  (27, s_gs 30 1),
  (30, s_il 31 1),
  (31, s_ia 32 layX 0),
  (32, s_cgt 35 92),
  (35, s_al 36 0),
  (36, s_gf 39 layX 6 5),
  (39, s_gf 42 layX 2 10),
  (42, s_il 43 1),
  (43, s_il 45 5),
  (45, s_ix 46 layX 0),
  (46, s_al 47 0),
  (47, s_gf 50 layX 6 6),
  (50, s_il 52 4),
  (52, s_ic 55 480),
  (55, s_m 58 (fun x y => if y < x then y else x)),
  (58, s_ci true 61 2 (sgC 45 23) f_X5_endWithin),
  (61, s_is 63 6),
  (63, s_il 65 6),
  (65, s_ic 66 (-1)),
  (66, s_ceq 69 83),
  (69, s_il 71 6),
  (71, s_il 73 4),
  (73, s_cge 76 83),
  (76, s_il 78 6),
  (78, s_is 80 4),
  (80, s_il 82 5),
  (82, s_is 83 3),
  (83, s_il 85 5),
  (85, s_il 86 2),
  (86, s_b 87 (fun x y => x + y)),
  (87, s_is 89 5),
  (89, s_go 25),
  (92, s_il 93 3),
  (93, s_ir)]
def cs_X6_bestValue : Cs := [(25, [0, 1, 2, 3, 4, 5])]
noncomputable def f_X6_bestValue : List Vv → Mm → Option Ou := lock (sem t_X6_bestValue cs_X6_bestValue 7)
set_option maxRecDepth 20000 in
theorem ok_X6_bestValue (l : Launch) (hl : l.stackTraces = false) : Ok l RX6 cX6_bestValue 7 5 (some .int) layX t_X6_bestValue :=
  Ok.cons (so_iconst dX6_bestValue_0 (by decide) rfl) <|
  Ok.cons (so_istore_n dX6_bestValue_1 rfl (by decide) rfl) <|
  Ok.cons (so_sipush dX6_bestValue_2 (by decide) rfl) <|
  Ok.cons (so_istore dX6_bestValue_5 (by decide) rfl) <|
  Ok.cons (so_aload_n dX6_bestValue_7 rfl rfl) <|
  Ok.cons (so_gf (C := RX6) (T := TX6) (N := 9) inGX6 rfl (by decide) wq_357 rfl dX6_bestValue_8 rfl) <|
  Ok.cons (so_aload_n dX6_bestValue_11 rfl rfl) <|
  Ok.cons (so_gf (C := RX6) (T := TX6) (N := 9) inGX6 rfl (by decide) wq_352 rfl dX6_bestValue_12 rfl) <|
  Ok.cons (so_vv (ct_X2_copyFrom l) wq_497 wq_494 wq_495 wq_496 wq_88 (by decide +kernel) (by decide) rfl rfl cmp_layX_sg2_57_32_11 dX6_bestValue_15 rfl) <|
  Ok.cons (so_gs wq_697 dX6_bestValue_18 rfl) <|
  Ok.cons (so_iload_n dX6_bestValue_21 rfl rfl) <|
  Ok.cons (so_ia0 dX6_bestValue_22 rfl) <|
  Ok.cons (so_istore dX6_bestValue_23 (by decide) rfl) <|
  Ok.cons (so_iload dX6_bestValue_25 rfl) <|
  Ok.cons (so_gs wq_698 dX6_bestValue_27 rfl) <|
  Ok.cons (so_iload_n dX6_bestValue_30 rfl rfl) <|
  Ok.cons (so_ia0 dX6_bestValue_31 rfl) <|
  Ok.cons (so_cgt dX6_bestValue_32 (by decide) rfl) <|
  Ok.cons (so_aload_n dX6_bestValue_35 rfl rfl) <|
  Ok.cons (so_gf (C := RX6) (T := TX6) (N := 9) inGX6 rfl (by decide) wq_357 rfl dX6_bestValue_36 rfl) <|
  Ok.cons (so_gf (C := RX2) (T := TX2) (N := 12) inGX2 rfl (by decide) wq_159 rfl dX6_bestValue_39 rfl) <|
  Ok.cons (so_iload_n dX6_bestValue_42 rfl rfl) <|
  Ok.cons (so_iload dX6_bestValue_43 rfl) <|
  Ok.cons (so_ix dX6_bestValue_45 rfl) <|
  Ok.cons (so_aload_n dX6_bestValue_46 rfl rfl) <|
  Ok.cons (so_gf (C := RX6) (T := TX6) (N := 9) inGX6 rfl (by decide) wq_358 rfl dX6_bestValue_47 rfl) <|
  Ok.cons (so_iload dX6_bestValue_50 rfl) <|
  Ok.cons (so_sipush dX6_bestValue_52 (by decide) rfl) <|
  Ok.cons (so_min (by decide) wq_708 wq_408 wq_96 wc_min dX6_bestValue_55 rfl) <|
  Ok.cons (so_vi (ct_X5_endWithin l) wq_662 wq_699 wq_660 wq_661 wq_93 (by decide +kernel) (by decide) rfl rfl cmp_layX_sgC_45_23 dX6_bestValue_58 rfl) <|
  Ok.cons (so_istore dX6_bestValue_61 (by decide) rfl) <|
  Ok.cons (so_iload dX6_bestValue_63 rfl) <|
  Ok.cons (so_iconst dX6_bestValue_65 (by decide) rfl) <|
  Ok.cons (so_ceq dX6_bestValue_66 (by decide) rfl) <|
  Ok.cons (so_iload dX6_bestValue_69 rfl) <|
  Ok.cons (so_iload dX6_bestValue_71 rfl) <|
  Ok.cons (so_cge dX6_bestValue_73 (by decide) rfl) <|
  Ok.cons (so_iload dX6_bestValue_76 rfl) <|
  Ok.cons (so_istore dX6_bestValue_78 (by decide) rfl) <|
  Ok.cons (so_iload dX6_bestValue_80 rfl) <|
  Ok.cons (so_istore_n dX6_bestValue_82 rfl (by decide) rfl) <|
  Ok.cons (so_iload dX6_bestValue_83 rfl) <|
  Ok.cons (so_iload_n dX6_bestValue_85 rfl rfl) <|
  Ok.cons (so_iadd dX6_bestValue_86 rfl) <|
  Ok.cons (so_istore dX6_bestValue_87 (by decide) rfl) <|
  Ok.cons (so_goto dX6_bestValue_89 (by decide)) <|
  Ok.cons (so_iload_n dX6_bestValue_92 rfl rfl) <|
  Ok.cons (so_ir rfl dX6_bestValue_93) <| Ok.nil
theorem ct_X6_bestValue (l : Launch) (hl : l.stackTraces = false) : Ct l yX6_bestValue cX6_bestValue 7 (some .int) 5 layX f_X6_bestValue := ofRunL (by decide) rfl (ok_X6_bestValue l hl)
noncomputable def t_X6_bestMargin : Tbl := [(0, s_al 1 0),
  (1, s_ic 2 1),
  (2, s_ic 4 10),
  (4, s_ci0 true 7 3 f_X6_bestValue),
  (7, s_ir)]
def cs_X6_bestMargin : Cs := []
noncomputable def f_X6_bestMargin : List Vv → Mm → Option Ou := lock (sem t_X6_bestMargin cs_X6_bestMargin 1)
set_option maxRecDepth 20000 in
theorem ok_X6_bestMargin (l : Launch) (hl : l.stackTraces = false) : Ok l RX6 cX6_bestMargin 1 6 (some .int) layX t_X6_bestMargin :=
  Ok.cons (so_aload_n dX6_bestMargin_0 rfl rfl) <|
  Ok.cons (so_iconst dX6_bestMargin_1 (by decide) rfl) <|
  Ok.cons (so_bipush dX6_bestMargin_2 (by decide) rfl) <|
  Ok.cons (so_vi0 (ct_X6_bestValue l hl) wq_707 wq_704 wq_706 wq_33 wq_87 (by decide +kernel) (by decide) rfl rfl dX6_bestMargin_4 rfl) <|
  Ok.cons (so_ir rfl dX6_bestMargin_7) <| Ok.nil
theorem ct_X6_bestMargin (l : Launch) (hl : l.stackTraces = false) : Ct l yX6_bestMargin cX6_bestMargin 1 (some .int) 6 layX f_X6_bestMargin := ofRunL (by decide) rfl (ok_X6_bestMargin l hl)
noncomputable def t_X6_finishWithoutPlace : Tbl := [(0, s_al 1 0),
  (1, s_il 2 1),
  (2, s_cv0 true 5 2 f_X6_requirePlace),
  (5, s_al 6 0),
  (6, s_gf 9 layX 6 5),
  (9, s_al 10 0),
  (10, s_gf 13 layX 6 0),
  (13, s_cv true 16 2 (sg2 57 32 11) f_X2_copyFrom),
  (16, s_al 17 0),
  (17, s_gf 20 layX 6 5),
  (20, s_il 21 1),
  (21, s_cv true 24 2 (sgC 57 11) f_X2_dropPlace),
  (24, s_al 25 0),
  (25, s_gf 28 layX 6 6),
  (28, s_ic 31 480),
  (31, s_ci true 34 2 (sgC 45 23) f_X5_endWithin),
  (34, s_ir)]
def cs_X6_finishWithoutPlace : Cs := []
noncomputable def f_X6_finishWithoutPlace : List Vv → Mm → Option Ou := lock (sem t_X6_finishWithoutPlace cs_X6_finishWithoutPlace 2)
set_option maxRecDepth 20000 in
theorem ok_X6_finishWithoutPlace (l : Launch) (hl : l.stackTraces = false) : Ok l RX6 cX6_finishWithoutPlace 2 7 (some .int) layX t_X6_finishWithoutPlace :=
  Ok.cons (so_aload_n dX6_finishWithoutPlace_0 rfl rfl) <|
  Ok.cons (so_iload_n dX6_finishWithoutPlace_1 rfl rfl) <|
  Ok.cons (so_vv0 (ct_X6_requirePlace l hl) wq_941 wq_938 wq_940 wq_42 wq_87 (by decide +kernel) (by decide) rfl rfl dX6_finishWithoutPlace_2 rfl) <|
  Ok.cons (so_aload_n dX6_finishWithoutPlace_5 rfl rfl) <|
  Ok.cons (so_gf (C := RX6) (T := TX6) (N := 9) inGX6 rfl (by decide) wq_357 rfl dX6_finishWithoutPlace_6 rfl) <|
  Ok.cons (so_aload_n dX6_finishWithoutPlace_9 rfl rfl) <|
  Ok.cons (so_gf (C := RX6) (T := TX6) (N := 9) inGX6 rfl (by decide) wq_352 rfl dX6_finishWithoutPlace_10 rfl) <|
  Ok.cons (so_vv (ct_X2_copyFrom l) wq_497 wq_494 wq_495 wq_496 wq_88 (by decide +kernel) (by decide) rfl rfl cmp_layX_sg2_57_32_11 dX6_finishWithoutPlace_13 rfl) <|
  Ok.cons (so_aload_n dX6_finishWithoutPlace_16 rfl rfl) <|
  Ok.cons (so_gf (C := RX6) (T := TX6) (N := 9) inGX6 rfl (by decide) wq_357 rfl dX6_finishWithoutPlace_17 rfl) <|
  Ok.cons (so_iload_n dX6_finishWithoutPlace_20 rfl rfl) <|
  Ok.cons (so_vv (ct_X2_dropPlace l) wq_1094 wq_1091 wq_1092 wq_1093 wq_88 (by decide +kernel) (by decide) rfl rfl cmp_layX_sgC_57_11 dX6_finishWithoutPlace_21 rfl) <|
  Ok.cons (so_aload_n dX6_finishWithoutPlace_24 rfl rfl) <|
  Ok.cons (so_gf (C := RX6) (T := TX6) (N := 9) inGX6 rfl (by decide) wq_358 rfl dX6_finishWithoutPlace_25 rfl) <|
  Ok.cons (so_sipush dX6_finishWithoutPlace_28 (by decide) rfl) <|
  Ok.cons (so_vi (ct_X5_endWithin l) wq_662 wq_699 wq_660 wq_661 wq_93 (by decide +kernel) (by decide) rfl rfl cmp_layX_sgC_45_23 dX6_finishWithoutPlace_31 rfl) <|
  Ok.cons (so_ir rfl dX6_finishWithoutPlace_34) <| Ok.nil
theorem ct_X6_finishWithoutPlace (l : Launch) (hl : l.stackTraces = false) : Ct l yX6_finishWithoutPlace cX6_finishWithoutPlace 2 (some .int) 7 layX f_X6_finishWithoutPlace := ofRunL (by decide) rfl (ok_X6_finishWithoutPlace l hl)
noncomputable def t_X6_finishOfOthers : Tbl := [(0, s_al 1 0),
  (1, s_gf 4 layX 6 5),
  (4, s_al 5 0),
  (5, s_gf 8 layX 6 0),
  (8, s_cv true 11 2 (sg2 57 32 11) f_X2_copyFrom),
  (11, s_al 12 0),
  (12, s_gf 15 layX 6 5),
  (15, s_gf 18 layX 2 5),
  (18, s_il 19 1),
  (19, s_ic 20 0),
  (20, s_ix 21 layX 0),
  (21, s_al 22 0),
  (22, s_gf 25 layX 6 6),
  (25, s_ic 28 480),
  (28, s_ci true 31 2 (sgC 45 23) f_X5_endWithin),
  (31, s_ir)]
def cs_X6_finishOfOthers : Cs := []
noncomputable def f_X6_finishOfOthers : List Vv → Mm → Option Ou := lock (sem t_X6_finishOfOthers cs_X6_finishOfOthers 2)
set_option maxRecDepth 20000 in
theorem ok_X6_finishOfOthers (l : Launch) (hl : l.stackTraces = false) : Ok l RX6 cX6_finishOfOthers 2 5 (some .int) layX t_X6_finishOfOthers :=
  Ok.cons (so_aload_n dX6_finishOfOthers_0 rfl rfl) <|
  Ok.cons (so_gf (C := RX6) (T := TX6) (N := 9) inGX6 rfl (by decide) wq_357 rfl dX6_finishOfOthers_1 rfl) <|
  Ok.cons (so_aload_n dX6_finishOfOthers_4 rfl rfl) <|
  Ok.cons (so_gf (C := RX6) (T := TX6) (N := 9) inGX6 rfl (by decide) wq_352 rfl dX6_finishOfOthers_5 rfl) <|
  Ok.cons (so_vv (ct_X2_copyFrom l) wq_497 wq_494 wq_495 wq_496 wq_88 (by decide +kernel) (by decide) rfl rfl cmp_layX_sg2_57_32_11 dX6_finishOfOthers_8 rfl) <|
  Ok.cons (so_aload_n dX6_finishOfOthers_11 rfl rfl) <|
  Ok.cons (so_gf (C := RX6) (T := TX6) (N := 9) inGX6 rfl (by decide) wq_357 rfl dX6_finishOfOthers_12 rfl) <|
  Ok.cons (so_gf (C := RX2) (T := TX2) (N := 12) inGX2 rfl (by decide) wq_143 rfl dX6_finishOfOthers_15 rfl) <|
  Ok.cons (so_iload_n dX6_finishOfOthers_18 rfl rfl) <|
  Ok.cons (so_iconst dX6_finishOfOthers_19 (by decide) rfl) <|
  Ok.cons (so_ix dX6_finishOfOthers_20 rfl) <|
  Ok.cons (so_aload_n dX6_finishOfOthers_21 rfl rfl) <|
  Ok.cons (so_gf (C := RX6) (T := TX6) (N := 9) inGX6 rfl (by decide) wq_358 rfl dX6_finishOfOthers_22 rfl) <|
  Ok.cons (so_sipush dX6_finishOfOthers_25 (by decide) rfl) <|
  Ok.cons (so_vi (ct_X5_endWithin l) wq_662 wq_699 wq_660 wq_661 wq_93 (by decide +kernel) (by decide) rfl rfl cmp_layX_sgC_45_23 dX6_finishOfOthers_28 rfl) <|
  Ok.cons (so_ir rfl dX6_finishOfOthers_31) <| Ok.nil
theorem ct_X6_finishOfOthers (l : Launch) (hl : l.stackTraces = false) : Ct l yX6_finishOfOthers cX6_finishOfOthers 2 (some .int) 5 layX f_X6_finishOfOthers := ofRunL (by decide) rfl (ok_X6_finishOfOthers l hl)
noncomputable def t_X6_finishWithoutIron : Tbl := [(0, s_al 1 0),
  (1, s_il 2 1),
  (2, s_cv0 true 5 2 f_X6_requireIron),
  (5, s_al 6 0),
  (6, s_il 7 1),
  (7, s_ci0 true 10 2 f_X6_finishOfOthers),
  (10, s_ir)]
def cs_X6_finishWithoutIron : Cs := []
noncomputable def f_X6_finishWithoutIron : List Vv → Mm → Option Ou := lock (sem t_X6_finishWithoutIron cs_X6_finishWithoutIron 2)
set_option maxRecDepth 20000 in
theorem ok_X6_finishWithoutIron (l : Launch) (hl : l.stackTraces = false) : Ok l RX6 cX6_finishWithoutIron 2 7 (some .int) layX t_X6_finishWithoutIron :=
  Ok.cons (so_aload_n dX6_finishWithoutIron_0 rfl rfl) <|
  Ok.cons (so_iload_n dX6_finishWithoutIron_1 rfl rfl) <|
  Ok.cons (so_vv0 (ct_X6_requireIron l hl) wq_824 wq_821 wq_823 wq_39 wq_87 (by decide +kernel) (by decide) rfl rfl dX6_finishWithoutIron_2 rfl) <|
  Ok.cons (so_aload_n dX6_finishWithoutIron_5 rfl rfl) <|
  Ok.cons (so_iload_n dX6_finishWithoutIron_6 rfl rfl) <|
  Ok.cons (so_vi0 (ct_X6_finishOfOthers l hl) wq_812 wq_809 wq_811 wq_38 wq_87 (by decide +kernel) (by decide) rfl rfl dX6_finishWithoutIron_7 rfl) <|
  Ok.cons (so_ir rfl dX6_finishWithoutIron_10) <| Ok.nil
theorem ct_X6_finishWithoutIron (l : Launch) (hl : l.stackTraces = false) : Ct l yX6_finishWithoutIron cX6_finishWithoutIron 2 (some .int) 7 layX f_X6_finishWithoutIron := ofRunL (by decide) rfl (ok_X6_finishWithoutIron l hl)
noncomputable def t_X6_finishAlone : Tbl := [(0, s_al 1 0),
  (1, s_il 2 1),
  (2, s_cv0 true 5 2 f_X6_requireIron),
  (5, s_al 6 0),
  (6, s_gf 9 layX 6 5),
  (9, s_al 10 0),
  (10, s_gf 13 layX 6 0),
  (13, s_cv true 16 2 (sg2 57 32 11) f_X2_copyFrom),
  (16, s_ic 17 0),
  (17, s_is 18 2),
  (18, s_il 19 2),
  (19, s_al 20 0),
  (20, s_gf 23 layX 6 5),
  (23, s_gf 26 layX 2 0),
  (26, s_cge 29 50),
  (29, s_il 30 2),
  (30, s_il 31 1),
  (31, s_ceq 34 44),
  (34, s_al 35 0),
  (35, s_gf 38 layX 6 5),
  (38, s_gf 41 layX 2 5),
  (41, s_il 42 2),
  (42, s_ic 43 0),
  (43, s_ix 44 layX 0),
  (44, s_in 47 2 1),
  (47, s_go 18),
  (50, s_al 51 0),
  (51, s_gf 54 layX 6 6),
  (54, s_ic 57 480),
  (57, s_ci true 60 2 (sgC 45 23) f_X5_endWithin),
  (60, s_ir)]
def cs_X6_finishAlone : Cs := [(18, [0, 1, 2])]
noncomputable def f_X6_finishAlone : List Vv → Mm → Option Ou := lock (sem t_X6_finishAlone cs_X6_finishAlone 3)
set_option maxRecDepth 20000 in
theorem ok_X6_finishAlone (l : Launch) (hl : l.stackTraces = false) : Ok l RX6 cX6_finishAlone 3 7 (some .int) layX t_X6_finishAlone :=
  Ok.cons (so_aload_n dX6_finishAlone_0 rfl rfl) <|
  Ok.cons (so_iload_n dX6_finishAlone_1 rfl rfl) <|
  Ok.cons (so_vv0 (ct_X6_requireIron l hl) wq_824 wq_821 wq_823 wq_39 wq_87 (by decide +kernel) (by decide) rfl rfl dX6_finishAlone_2 rfl) <|
  Ok.cons (so_aload_n dX6_finishAlone_5 rfl rfl) <|
  Ok.cons (so_gf (C := RX6) (T := TX6) (N := 9) inGX6 rfl (by decide) wq_357 rfl dX6_finishAlone_6 rfl) <|
  Ok.cons (so_aload_n dX6_finishAlone_9 rfl rfl) <|
  Ok.cons (so_gf (C := RX6) (T := TX6) (N := 9) inGX6 rfl (by decide) wq_352 rfl dX6_finishAlone_10 rfl) <|
  Ok.cons (so_vv (ct_X2_copyFrom l) wq_497 wq_494 wq_495 wq_496 wq_88 (by decide +kernel) (by decide) rfl rfl cmp_layX_sg2_57_32_11 dX6_finishAlone_13 rfl) <|
  Ok.cons (so_iconst dX6_finishAlone_16 (by decide) rfl) <|
  Ok.cons (so_istore_n dX6_finishAlone_17 rfl (by decide) rfl) <|
  Ok.cons (so_iload_n dX6_finishAlone_18 rfl rfl) <|
  Ok.cons (so_aload_n dX6_finishAlone_19 rfl rfl) <|
  Ok.cons (so_gf (C := RX6) (T := TX6) (N := 9) inGX6 rfl (by decide) wq_357 rfl dX6_finishAlone_20 rfl) <|
  Ok.cons (so_gf (C := RX2) (T := TX2) (N := 12) inGX2 rfl (by decide) wq_128 rfl dX6_finishAlone_23 rfl) <|
  Ok.cons (so_cge dX6_finishAlone_26 (by decide) rfl) <|
  Ok.cons (so_iload_n dX6_finishAlone_29 rfl rfl) <|
  Ok.cons (so_iload_n dX6_finishAlone_30 rfl rfl) <|
  Ok.cons (so_ceq dX6_finishAlone_31 (by decide) rfl) <|
  Ok.cons (so_aload_n dX6_finishAlone_34 rfl rfl) <|
  Ok.cons (so_gf (C := RX6) (T := TX6) (N := 9) inGX6 rfl (by decide) wq_357 rfl dX6_finishAlone_35 rfl) <|
  Ok.cons (so_gf (C := RX2) (T := TX2) (N := 12) inGX2 rfl (by decide) wq_143 rfl dX6_finishAlone_38 rfl) <|
  Ok.cons (so_iload_n dX6_finishAlone_41 rfl rfl) <|
  Ok.cons (so_iconst dX6_finishAlone_42 (by decide) rfl) <|
  Ok.cons (so_ix dX6_finishAlone_43 rfl) <|
  Ok.cons (so_iinc dX6_finishAlone_44 (by decide) (by decide) rfl) <|
  Ok.cons (so_goto dX6_finishAlone_47 (by decide)) <|
  Ok.cons (so_aload_n dX6_finishAlone_50 rfl rfl) <|
  Ok.cons (so_gf (C := RX6) (T := TX6) (N := 9) inGX6 rfl (by decide) wq_358 rfl dX6_finishAlone_51 rfl) <|
  Ok.cons (so_sipush dX6_finishAlone_54 (by decide) rfl) <|
  Ok.cons (so_vi (ct_X5_endWithin l) wq_662 wq_699 wq_660 wq_661 wq_93 (by decide +kernel) (by decide) rfl rfl cmp_layX_sgC_45_23 dX6_finishAlone_57 rfl) <|
  Ok.cons (so_ir rfl dX6_finishAlone_60) <| Ok.nil
theorem ct_X6_finishAlone (l : Launch) (hl : l.stackTraces = false) : Ct l yX6_finishAlone cX6_finishAlone 3 (some .int) 7 layX f_X6_finishAlone := ofRunL (by decide) rfl (ok_X6_finishAlone l hl)
noncomputable def t_X6_orderCode : Tbl := [(0, s_ic 1 0),
  (1, s_is 2 1),
  (2, s_ic 3 0),
  (3, s_is 4 2),
  (4, s_il 5 2),
  (5, s_al 6 0),
  (6, s_gf 9 layX 6 0),
  (9, s_gf 12 layX 2 0),
  (12, s_cge 15 39),
  (15, s_il 16 1),
  (16, s_al 17 0),
  (17, s_gf 20 layX 6 0),
  (20, s_gf 23 layX 2 11),
  (23, s_il 24 2),
  (24, s_ia 25 layX 0),
  (25, s_ic 26 1),
  (26, s_b 27 (fun x y => x + y)),
  (27, s_ic 28 3),
  (28, s_il 29 2),
  (29, s_b 30 (fun x y => x * y)),
  (30, s_b 31 (fun x y => x <<< (y &&& 31))),
  (31, s_b 32 (fun x y => x ||| y)),
  (32, s_is 33 1),
  (33, s_in 36 2 1),
  (36, s_go 4),
  (39, s_il 40 1),
  (40, s_ir)]
def cs_X6_orderCode : Cs := [(4, [0, 1, 2])]
noncomputable def f_X6_orderCode : List Vv → Mm → Option Ou := lock (sem t_X6_orderCode cs_X6_orderCode 3)
set_option maxRecDepth 20000 in
theorem ok_X6_orderCode (l : Launch) (hl : l.stackTraces = false) : Ok l RX6 cX6_orderCode 3 1 (some .int) layX t_X6_orderCode :=
  Ok.cons (so_iconst dX6_orderCode_0 (by decide) rfl) <|
  Ok.cons (so_istore_n dX6_orderCode_1 rfl (by decide) rfl) <|
  Ok.cons (so_iconst dX6_orderCode_2 (by decide) rfl) <|
  Ok.cons (so_istore_n dX6_orderCode_3 rfl (by decide) rfl) <|
  Ok.cons (so_iload_n dX6_orderCode_4 rfl rfl) <|
  Ok.cons (so_aload_n dX6_orderCode_5 rfl rfl) <|
  Ok.cons (so_gf (C := RX6) (T := TX6) (N := 9) inGX6 rfl (by decide) wq_352 rfl dX6_orderCode_6 rfl) <|
  Ok.cons (so_gf (C := RX2) (T := TX2) (N := 12) inGX2 rfl (by decide) wq_128 rfl dX6_orderCode_9 rfl) <|
  Ok.cons (so_cge dX6_orderCode_12 (by decide) rfl) <|
  Ok.cons (so_iload_n dX6_orderCode_15 rfl rfl) <|
  Ok.cons (so_aload_n dX6_orderCode_16 rfl rfl) <|
  Ok.cons (so_gf (C := RX6) (T := TX6) (N := 9) inGX6 rfl (by decide) wq_352 rfl dX6_orderCode_17 rfl) <|
  Ok.cons (so_gf (C := RX2) (T := TX2) (N := 12) inGX2 rfl (by decide) wq_163 rfl dX6_orderCode_20 rfl) <|
  Ok.cons (so_iload_n dX6_orderCode_23 rfl rfl) <|
  Ok.cons (so_ia0 dX6_orderCode_24 rfl) <|
  Ok.cons (so_iconst dX6_orderCode_25 (by decide) rfl) <|
  Ok.cons (so_iadd dX6_orderCode_26 rfl) <|
  Ok.cons (so_iconst dX6_orderCode_27 (by decide) rfl) <|
  Ok.cons (so_iload_n dX6_orderCode_28 rfl rfl) <|
  Ok.cons (so_imul dX6_orderCode_29 rfl) <|
  Ok.cons (so_ishl dX6_orderCode_30 rfl) <|
  Ok.cons (so_ior dX6_orderCode_31 rfl) <|
  Ok.cons (so_istore_n dX6_orderCode_32 rfl (by decide) rfl) <|
  Ok.cons (so_iinc dX6_orderCode_33 (by decide) (by decide) rfl) <|
  Ok.cons (so_goto dX6_orderCode_36 (by decide)) <|
  Ok.cons (so_iload_n dX6_orderCode_39 rfl rfl) <|
  Ok.cons (so_ir rfl dX6_orderCode_40) <| Ok.nil
theorem ct_X6_orderCode (l : Launch) (hl : l.stackTraces = false) : Ct l yX6_orderCode cX6_orderCode 3 (some .int) 1 layX f_X6_orderCode := ofRunL (by decide) rfl (ok_X6_orderCode l hl)
noncomputable def t_X6_rackMinutes : Tbl := [(0, s_al 1 0),
  (1, s_il 2 1),
  (2, s_cv0 true 5 2 f_X6_requireIron),
  (5, s_al 6 0),
  (6, s_ca0 true 9 1 16 f_X6_presentLog),
  (9, s_il 10 1),
  (10, s_al 11 0),
  (11, s_gf 14 layX 6 0),
  (14, s_gf 17 layX 2 5),
  (17, s_il 18 1),
  (18, s_ia 19 layX 0),
  (19, s_ci true 22 3 (sgC 16 27) f_X3_minutesOnRack),
  (22, s_ir)]
def cs_X6_rackMinutes : Cs := []
noncomputable def f_X6_rackMinutes : List Vv → Mm → Option Ou := lock (sem t_X6_rackMinutes cs_X6_rackMinutes 2)
set_option maxRecDepth 20000 in
theorem ok_X6_rackMinutes (l : Launch) (hl : l.stackTraces = false) : Ok l RX6 cX6_rackMinutes 2 7 (some .int) layX t_X6_rackMinutes :=
  Ok.cons (so_aload_n dX6_rackMinutes_0 rfl rfl) <|
  Ok.cons (so_iload_n dX6_rackMinutes_1 rfl rfl) <|
  Ok.cons (so_vv0 (ct_X6_requireIron l hl) wq_824 wq_821 wq_823 wq_39 wq_87 (by decide +kernel) (by decide) rfl rfl dX6_rackMinutes_2 rfl) <|
  Ok.cons (so_aload_n dX6_rackMinutes_5 rfl rfl) <|
  Ok.cons (so_va0 (ct_X6_presentLog l hl) wq_541 wq_538 wq_540 wq_14 wq_87 (by decide +kernel) (by decide) rfl rfl dX6_rackMinutes_6 rfl) <|
  Ok.cons (so_iload_n dX6_rackMinutes_9 rfl rfl) <|
  Ok.cons (so_aload_n dX6_rackMinutes_10 rfl rfl) <|
  Ok.cons (so_gf (C := RX6) (T := TX6) (N := 9) inGX6 rfl (by decide) wq_352 rfl dX6_rackMinutes_11 rfl) <|
  Ok.cons (so_gf (C := RX2) (T := TX2) (N := 12) inGX2 rfl (by decide) wq_143 rfl dX6_rackMinutes_14 rfl) <|
  Ok.cons (so_iload_n dX6_rackMinutes_17 rfl rfl) <|
  Ok.cons (so_ia0 dX6_rackMinutes_18 rfl) <|
  Ok.cons (so_vi (ct_X3_minutesOnRack l) wq_1119 wq_1116 wq_1117 wq_1118 wq_92 (by decide +kernel) (by decide) rfl rfl cmp_layX_sgC_16_27 dX6_rackMinutes_19 rfl) <|
  Ok.cons (so_ir rfl dX6_rackMinutes_22) <| Ok.nil
theorem ct_X6_rackMinutes (l : Launch) (hl : l.stackTraces = false) : Ct l yX6_rackMinutes cX6_rackMinutes 2 (some .int) 7 layX f_X6_rackMinutes := ofRunL (by decide) rfl (ok_X6_rackMinutes l hl)
noncomputable def t_X6_firstWork : Tbl := [(0, s_al 1 0),
  (1, s_il 2 1),
  (2, s_cv0 true 5 2 f_X6_requireIron),
  (5, s_al 6 0),
  (6, s_ca0 true 9 1 16 f_X6_presentLog),
  (9, s_il 10 1),
  (10, s_ci true 13 2 (sgC 16 27) f_X3_firstOnAnvil),
  (13, s_ir)]
def cs_X6_firstWork : Cs := []
noncomputable def f_X6_firstWork : List Vv → Mm → Option Ou := lock (sem t_X6_firstWork cs_X6_firstWork 2)
set_option maxRecDepth 20000 in
theorem ok_X6_firstWork (l : Launch) (hl : l.stackTraces = false) : Ok l RX6 cX6_firstWork 2 7 (some .int) layX t_X6_firstWork :=
  Ok.cons (so_aload_n dX6_firstWork_0 rfl rfl) <|
  Ok.cons (so_iload_n dX6_firstWork_1 rfl rfl) <|
  Ok.cons (so_vv0 (ct_X6_requireIron l hl) wq_824 wq_821 wq_823 wq_39 wq_87 (by decide +kernel) (by decide) rfl rfl dX6_firstWork_2 rfl) <|
  Ok.cons (so_aload_n dX6_firstWork_5 rfl rfl) <|
  Ok.cons (so_va0 (ct_X6_presentLog l hl) wq_541 wq_538 wq_540 wq_14 wq_87 (by decide +kernel) (by decide) rfl rfl dX6_firstWork_6 rfl) <|
  Ok.cons (so_iload_n dX6_firstWork_9 rfl rfl) <|
  Ok.cons (so_vi (ct_X3_firstOnAnvil l) wq_1130 wq_1127 wq_1128 wq_1129 wq_92 (by decide +kernel) (by decide) rfl rfl cmp_layX_sgC_16_27 dX6_firstWork_10 rfl) <|
  Ok.cons (so_ir rfl dX6_firstWork_13) <| Ok.nil
theorem ct_X6_firstWork (l : Launch) (hl : l.stackTraces = false) : Ct l yX6_firstWork cX6_firstWork 2 (some .int) 7 layX f_X6_firstWork := ofRunL (by decide) rfl (ok_X6_firstWork l hl)
noncomputable def t_X6_ironInPlace : Tbl := [(0, s_al 1 0),
  (1, s_il 2 1),
  (2, s_cv0 true 5 2 f_X6_requirePlace),
  (5, s_il 6 2),
  (6, s_ci false 9 1 (sg0) f_X6_isMinute),
  (9, s_zeq 12 26),
  (12, s_al 13 0),
  (13, s_ca0 true 16 1 16 f_X6_presentLog),
  (16, s_ic 17 1),
  (17, s_il 18 1),
  (18, s_b 19 (fun x y => x + y)),
  (19, s_il 20 2),
  (20, s_ci true 23 3 (sgC 16 27) f_X3_ironOnSpot),
  (23, s_go 28),
  (26, s_ic 28 (-2)),
  (28, s_ir)]
def cs_X6_ironInPlace : Cs := []
noncomputable def f_X6_ironInPlace : List Vv → Mm → Option Ou := lock (sem t_X6_ironInPlace cs_X6_ironInPlace 3)
set_option maxRecDepth 20000 in
theorem ok_X6_ironInPlace (l : Launch) (hl : l.stackTraces = false) : Ok l RX6 cX6_ironInPlace 3 7 (some .int) layX t_X6_ironInPlace :=
  Ok.cons (so_aload_n dX6_ironInPlace_0 rfl rfl) <|
  Ok.cons (so_iload_n dX6_ironInPlace_1 rfl rfl) <|
  Ok.cons (so_vv0 (ct_X6_requirePlace l hl) wq_941 wq_938 wq_940 wq_42 wq_87 (by decide +kernel) (by decide) rfl rfl dX6_ironInPlace_2 rfl) <|
  Ok.cons (so_iload_n dX6_ironInPlace_5 rfl rfl) <|
  Ok.cons (so_si (ct_X6_isMinute l) wq_995 wq_993 wq_994 wq_87 (by decide +kernel) (by decide) cmp_layX_sg0 dX6_ironInPlace_6 rfl) <|
  Ok.cons (so_zeq dX6_ironInPlace_9 (by decide) rfl) <|
  Ok.cons (so_aload_n dX6_ironInPlace_12 rfl rfl) <|
  Ok.cons (so_va0 (ct_X6_presentLog l hl) wq_541 wq_538 wq_540 wq_14 wq_87 (by decide +kernel) (by decide) rfl rfl dX6_ironInPlace_13 rfl) <|
  Ok.cons (so_iconst dX6_ironInPlace_16 (by decide) rfl) <|
  Ok.cons (so_iload_n dX6_ironInPlace_17 rfl rfl) <|
  Ok.cons (so_iadd dX6_ironInPlace_18 rfl) <|
  Ok.cons (so_iload_n dX6_ironInPlace_19 rfl rfl) <|
  Ok.cons (so_vi (ct_X3_ironOnSpot l) wq_1049 wq_1138 wq_1047 wq_1048 wq_92 (by decide +kernel) (by decide) rfl rfl cmp_layX_sgC_16_27 dX6_ironInPlace_20 rfl) <|
  Ok.cons (so_goto dX6_ironInPlace_23 (by decide)) <|
  Ok.cons (so_bipush dX6_ironInPlace_26 (by decide) rfl) <|
  Ok.cons (so_ir rfl dX6_ironInPlace_28) <| Ok.nil
theorem ct_X6_ironInPlace (l : Launch) (hl : l.stackTraces = false) : Ct l yX6_ironInPlace cX6_ironInPlace 3 (some .int) 7 layX f_X6_ironInPlace := ofRunL (by decide) rfl (ok_X6_ironInPlace l hl)
noncomputable def t_X6_ironOnAnvil : Tbl := [(0, s_al 1 0),
  (1, s_il 2 1),
  (2, s_cv0 true 5 2 f_X6_requireAnvil),
  (5, s_il 6 2),
  (6, s_ci false 9 1 (sg0) f_X6_isMinute),
  (9, s_zeq 12 27),
  (12, s_al 13 0),
  (13, s_ca0 true 16 1 16 f_X6_presentLog),
  (16, s_ic 18 10),
  (18, s_il 19 1),
  (19, s_b 20 (fun x y => x + y)),
  (20, s_il 21 2),
  (21, s_ci true 24 3 (sgC 16 27) f_X3_ironOnSpot),
  (24, s_go 29),
  (27, s_ic 29 (-2)),
  (29, s_ir)]
def cs_X6_ironOnAnvil : Cs := []
noncomputable def f_X6_ironOnAnvil : List Vv → Mm → Option Ou := lock (sem t_X6_ironOnAnvil cs_X6_ironOnAnvil 3)
set_option maxRecDepth 20000 in
theorem ok_X6_ironOnAnvil (l : Launch) (hl : l.stackTraces = false) : Ok l RX6 cX6_ironOnAnvil 3 7 (some .int) layX t_X6_ironOnAnvil :=
  Ok.cons (so_aload_n dX6_ironOnAnvil_0 rfl rfl) <|
  Ok.cons (so_iload_n dX6_ironOnAnvil_1 rfl rfl) <|
  Ok.cons (so_vv0 (ct_X6_requireAnvil l hl) wq_1040 wq_1037 wq_1039 wq_43 wq_87 (by decide +kernel) (by decide) rfl rfl dX6_ironOnAnvil_2 rfl) <|
  Ok.cons (so_iload_n dX6_ironOnAnvil_5 rfl rfl) <|
  Ok.cons (so_si (ct_X6_isMinute l) wq_995 wq_993 wq_994 wq_87 (by decide +kernel) (by decide) cmp_layX_sg0 dX6_ironOnAnvil_6 rfl) <|
  Ok.cons (so_zeq dX6_ironOnAnvil_9 (by decide) rfl) <|
  Ok.cons (so_aload_n dX6_ironOnAnvil_12 rfl rfl) <|
  Ok.cons (so_va0 (ct_X6_presentLog l hl) wq_541 wq_538 wq_540 wq_14 wq_87 (by decide +kernel) (by decide) rfl rfl dX6_ironOnAnvil_13 rfl) <|
  Ok.cons (so_bipush dX6_ironOnAnvil_16 (by decide) rfl) <|
  Ok.cons (so_iload_n dX6_ironOnAnvil_18 rfl rfl) <|
  Ok.cons (so_iadd dX6_ironOnAnvil_19 rfl) <|
  Ok.cons (so_iload_n dX6_ironOnAnvil_20 rfl rfl) <|
  Ok.cons (so_vi (ct_X3_ironOnSpot l) wq_1049 wq_1138 wq_1047 wq_1048 wq_92 (by decide +kernel) (by decide) rfl rfl cmp_layX_sgC_16_27 dX6_ironOnAnvil_21 rfl) <|
  Ok.cons (so_goto dX6_ironOnAnvil_24 (by decide)) <|
  Ok.cons (so_bipush dX6_ironOnAnvil_27 (by decide) rfl) <|
  Ok.cons (so_ir rfl dX6_ironOnAnvil_29) <| Ok.nil
theorem ct_X6_ironOnAnvil (l : Launch) (hl : l.stackTraces = false) : Ct l yX6_ironOnAnvil cX6_ironOnAnvil 3 (some .int) 7 layX f_X6_ironOnAnvil := ofRunL (by decide) rfl (ok_X6_ironOnAnvil l hl)
noncomputable def t_X6_finishedBy : Tbl := [(0, s_il 1 1),
  (1, s_ic 2 0),
  (2, s_ic 5 480),
  (5, s_ci false 8 3 (sg0) f_X6_isWithin),
  (8, s_zeq 11 22),
  (11, s_al 12 0),
  (12, s_ca0 true 15 1 16 f_X6_presentLog),
  (15, s_il 16 1),
  (16, s_ci true 19 2 (sgC 16 27) f_X3_finishedAfter),
  (19, s_go 24),
  (22, s_ic 24 (-2)),
  (24, s_ir)]
def cs_X6_finishedBy : Cs := []
noncomputable def f_X6_finishedBy : List Vv → Mm → Option Ou := lock (sem t_X6_finishedBy cs_X6_finishedBy 2)
set_option maxRecDepth 20000 in
theorem ok_X6_finishedBy (l : Launch) (hl : l.stackTraces = false) : Ok l RX6 cX6_finishedBy 2 6 (some .int) layX t_X6_finishedBy :=
  Ok.cons (so_iload_n dX6_finishedBy_0 rfl rfl) <|
  Ok.cons (so_iconst dX6_finishedBy_1 (by decide) rfl) <|
  Ok.cons (so_sipush dX6_finishedBy_2 (by decide) rfl) <|
  Ok.cons (so_si (ct_X6_isWithin l) wq_398 wq_396 wq_397 wq_87 (by decide +kernel) (by decide) cmp_layX_sg0 dX6_finishedBy_5 rfl) <|
  Ok.cons (so_zeq dX6_finishedBy_8 (by decide) rfl) <|
  Ok.cons (so_aload_n dX6_finishedBy_11 rfl rfl) <|
  Ok.cons (so_va0 (ct_X6_presentLog l hl) wq_541 wq_538 wq_540 wq_14 wq_87 (by decide +kernel) (by decide) rfl rfl dX6_finishedBy_12 rfl) <|
  Ok.cons (so_iload_n dX6_finishedBy_15 rfl rfl) <|
  Ok.cons (so_vi (ct_X3_finishedAfter l) wq_774 wq_771 wq_772 wq_773 wq_92 (by decide +kernel) (by decide) rfl rfl cmp_layX_sgC_16_27 dX6_finishedBy_16 rfl) <|
  Ok.cons (so_goto dX6_finishedBy_19 (by decide)) <|
  Ok.cons (so_bipush dX6_finishedBy_22 (by decide) rfl) <|
  Ok.cons (so_ir rfl dX6_finishedBy_24) <| Ok.nil
theorem ct_X6_finishedBy (l : Launch) (hl : l.stackTraces = false) : Ct l yX6_finishedBy cX6_finishedBy 2 (some .int) 6 layX f_X6_finishedBy := ofRunL (by decide) rfl (ok_X6_finishedBy l hl)
noncomputable def t_X6_idleMinutes : Tbl := [(0, s_al 1 0),
  (1, s_ca0 true 4 1 16 f_X6_presentLog),
  (4, s_ci true 7 1 (sgC 16 27) f_X3_minutesIdle),
  (7, s_ir)]
def cs_X6_idleMinutes : Cs := []
noncomputable def f_X6_idleMinutes : List Vv → Mm → Option Ou := lock (sem t_X6_idleMinutes cs_X6_idleMinutes 1)
set_option maxRecDepth 20000 in
theorem ok_X6_idleMinutes (l : Launch) (hl : l.stackTraces = false) : Ok l RX6 cX6_idleMinutes 1 6 (some .int) layX t_X6_idleMinutes :=
  Ok.cons (so_aload_n dX6_idleMinutes_0 rfl rfl) <|
  Ok.cons (so_va0 (ct_X6_presentLog l hl) wq_541 wq_538 wq_540 wq_14 wq_87 (by decide +kernel) (by decide) rfl rfl dX6_idleMinutes_1 rfl) <|
  Ok.cons (so_vi (ct_X3_minutesIdle l) wq_786 wq_783 wq_784 wq_785 wq_92 (by decide +kernel) (by decide) rfl rfl cmp_layX_sgC_16_27 dX6_idleMinutes_4 rfl) <|
  Ok.cons (so_ir rfl dX6_idleMinutes_7) <| Ok.nil
theorem ct_X6_idleMinutes (l : Launch) (hl : l.stackTraces = false) : Ct l yX6_idleMinutes cX6_idleMinutes 1 (some .int) 6 layX f_X6_idleMinutes := ofRunL (by decide) rfl (ok_X6_idleMinutes l hl)
noncomputable def t_X6_finishWithAnvils : Tbl := [(0, s_al 1 0),
  (1, s_ic 2 0),
  (2, s_il 3 1),
  (3, s_ci0 true 6 3 f_X6_finishWithSetting),
  (6, s_ir)]
def cs_X6_finishWithAnvils : Cs := []
noncomputable def f_X6_finishWithAnvils : List Vv → Mm → Option Ou := lock (sem t_X6_finishWithAnvils cs_X6_finishWithAnvils 2)
set_option maxRecDepth 20000 in
theorem ok_X6_finishWithAnvils (l : Launch) (hl : l.stackTraces = false) : Ok l RX6 cX6_finishWithAnvils 2 6 (some .int) layX t_X6_finishWithAnvils :=
  Ok.cons (so_aload_n dX6_finishWithAnvils_0 rfl rfl) <|
  Ok.cons (so_iconst dX6_finishWithAnvils_1 (by decide) rfl) <|
  Ok.cons (so_iload_n dX6_finishWithAnvils_2 rfl rfl) <|
  Ok.cons (so_vi0 (ct_X6_finishWithSetting l hl) wq_693 wq_690 wq_692 wq_32 wq_87 (by decide +kernel) (by decide) rfl rfl dX6_finishWithAnvils_3 rfl) <|
  Ok.cons (so_ir rfl dX6_finishWithAnvils_6) <| Ok.nil
theorem ct_X6_finishWithAnvils (l : Launch) (hl : l.stackTraces = false) : Ct l yX6_finishWithAnvils cX6_finishWithAnvils 2 (some .int) 6 layX f_X6_finishWithAnvils := ofRunL (by decide) rfl (ok_X6_finishWithAnvils l hl)
noncomputable def t_X6_bestRule : Tbl := [(0, s_al 1 0),
  (1, s_ic 2 2),
  (2, s_ic 3 1),
  (3, s_ci0 true 6 3 f_X6_bestValue),
  (6, s_ir)]
def cs_X6_bestRule : Cs := []
noncomputable def f_X6_bestRule : List Vv → Mm → Option Ou := lock (sem t_X6_bestRule cs_X6_bestRule 1)
set_option maxRecDepth 20000 in
theorem ok_X6_bestRule (l : Launch) (hl : l.stackTraces = false) : Ok l RX6 cX6_bestRule 1 6 (some .int) layX t_X6_bestRule :=
  Ok.cons (so_aload_n dX6_bestRule_0 rfl rfl) <|
  Ok.cons (so_iconst dX6_bestRule_1 (by decide) rfl) <|
  Ok.cons (so_iconst dX6_bestRule_2 (by decide) rfl) <|
  Ok.cons (so_vi0 (ct_X6_bestValue l hl) wq_707 wq_704 wq_706 wq_33 wq_87 (by decide +kernel) (by decide) rfl rfl dX6_bestRule_3 rfl) <|
  Ok.cons (so_ir rfl dX6_bestRule_6) <| Ok.nil
theorem ct_X6_bestRule (l : Launch) (hl : l.stackTraces = false) : Ct l yX6_bestRule cX6_bestRule 1 (some .int) 6 layX f_X6_bestRule := ofRunL (by decide) rfl (ok_X6_bestRule l hl)
noncomputable def t_X6_finishWithRate : Tbl := [(0, s_al 1 0),
  (1, s_il 2 1),
  (2, s_cv0 true 5 2 f_X6_requirePlace),
  (5, s_il 6 2),
  (6, s_ic 7 1),
  (7, s_ic 10 2000),
  (10, s_ci false 13 3 (sg0) f_X6_isWithin),
  (13, s_zne 16 19),
  (16, s_ic 18 (-2)),
  (18, s_ir),
  (19, s_al 20 0),
  (20, s_gf 23 layX 6 5),
  (23, s_al 24 0),
  (24, s_gf 27 layX 6 0),
  (27, s_cv true 30 2 (sg2 57 32 11) f_X2_copyFrom),
  (30, s_al 31 0),
  (31, s_gf 34 layX 6 5),
  (34, s_gf 37 layX 2 8),
  (37, s_il 38 1),
  (38, s_il 39 2),
  (39, s_ix 40 layX 0),
  (40, s_al 41 0),
  (41, s_gf 44 layX 6 6),
  (44, s_ic 47 480),
  (47, s_ci true 50 2 (sgC 45 23) f_X5_endWithin),
  (50, s_ir)]
def cs_X6_finishWithRate : Cs := []
noncomputable def f_X6_finishWithRate : List Vv → Mm → Option Ou := lock (sem t_X6_finishWithRate cs_X6_finishWithRate 3)
set_option maxRecDepth 20000 in
theorem ok_X6_finishWithRate (l : Launch) (hl : l.stackTraces = false) : Ok l RX6 cX6_finishWithRate 3 7 (some .int) layX t_X6_finishWithRate :=
  Ok.cons (so_aload_n dX6_finishWithRate_0 rfl rfl) <|
  Ok.cons (so_iload_n dX6_finishWithRate_1 rfl rfl) <|
  Ok.cons (so_vv0 (ct_X6_requirePlace l hl) wq_941 wq_938 wq_940 wq_42 wq_87 (by decide +kernel) (by decide) rfl rfl dX6_finishWithRate_2 rfl) <|
  Ok.cons (so_iload_n dX6_finishWithRate_5 rfl rfl) <|
  Ok.cons (so_iconst dX6_finishWithRate_6 (by decide) rfl) <|
  Ok.cons (so_sipush dX6_finishWithRate_7 (by decide) rfl) <|
  Ok.cons (so_si (ct_X6_isWithin l) wq_398 wq_396 wq_397 wq_87 (by decide +kernel) (by decide) cmp_layX_sg0 dX6_finishWithRate_10 rfl) <|
  Ok.cons (so_zne dX6_finishWithRate_13 (by decide) rfl) <|
  Ok.cons (so_bipush dX6_finishWithRate_16 (by decide) rfl) <|
  Ok.cons (so_ir rfl dX6_finishWithRate_18) <|
  Ok.cons (so_aload_n dX6_finishWithRate_19 rfl rfl) <|
  Ok.cons (so_gf (C := RX6) (T := TX6) (N := 9) inGX6 rfl (by decide) wq_357 rfl dX6_finishWithRate_20 rfl) <|
  Ok.cons (so_aload_n dX6_finishWithRate_23 rfl rfl) <|
  Ok.cons (so_gf (C := RX6) (T := TX6) (N := 9) inGX6 rfl (by decide) wq_352 rfl dX6_finishWithRate_24 rfl) <|
  Ok.cons (so_vv (ct_X2_copyFrom l) wq_497 wq_494 wq_495 wq_496 wq_88 (by decide +kernel) (by decide) rfl rfl cmp_layX_sg2_57_32_11 dX6_finishWithRate_27 rfl) <|
  Ok.cons (so_aload_n dX6_finishWithRate_30 rfl rfl) <|
  Ok.cons (so_gf (C := RX6) (T := TX6) (N := 9) inGX6 rfl (by decide) wq_357 rfl dX6_finishWithRate_31 rfl) <|
  Ok.cons (so_gf (C := RX2) (T := TX2) (N := 12) inGX2 rfl (by decide) wq_150 rfl dX6_finishWithRate_34 rfl) <|
  Ok.cons (so_iload_n dX6_finishWithRate_37 rfl rfl) <|
  Ok.cons (so_iload_n dX6_finishWithRate_38 rfl rfl) <|
  Ok.cons (so_ix dX6_finishWithRate_39 rfl) <|
  Ok.cons (so_aload_n dX6_finishWithRate_40 rfl rfl) <|
  Ok.cons (so_gf (C := RX6) (T := TX6) (N := 9) inGX6 rfl (by decide) wq_358 rfl dX6_finishWithRate_41 rfl) <|
  Ok.cons (so_sipush dX6_finishWithRate_44 (by decide) rfl) <|
  Ok.cons (so_vi (ct_X5_endWithin l) wq_662 wq_699 wq_660 wq_661 wq_93 (by decide +kernel) (by decide) rfl rfl cmp_layX_sgC_45_23 dX6_finishWithRate_47 rfl) <|
  Ok.cons (so_ir rfl dX6_finishWithRate_50) <| Ok.nil
theorem ct_X6_finishWithRate (l : Launch) (hl : l.stackTraces = false) : Ct l yX6_finishWithRate cX6_finishWithRate 3 (some .int) 7 layX f_X6_finishWithRate := ofRunL (by decide) rfl (ok_X6_finishWithRate l hl)
noncomputable def t_X6_leastRate : Tbl := [(0, s_al 1 0),
  (1, s_il 2 1),
  (2, s_cv0 true 5 2 f_X6_requirePlace),
  (5, s_al 6 0),
  (6, s_ci0 true 9 1 f_X6_finish),
  (9, s_is 10 2),
  (10, s_il 11 2),
  (11, s_ic 12 (-1)),
  (12, s_cne 15 17),
  (15, s_ic 16 (-1)),
  (16, s_ir),
  (17, s_al 18 0),
  (18, s_gf 21 layX 6 5),
  (21, s_al 22 0),
  (22, s_gf 25 layX 6 0),
  (25, s_cv true 28 2 (sg2 57 32 11) f_X2_copyFrom),
  (28, s_ic 30 20),
  (30, s_is 31 3),
  (31, s_il 32 3),
  (32, s_ic 35 2000),
  (35, s_cgt 38 68),
  (38, s_al 39 0),
  (39, s_gf 42 layX 6 5),
  (42, s_gf 45 layX 2 8),
  (45, s_il 46 1),
  (46, s_il 47 3),
  (47, s_ix 48 layX 0),
  (48, s_al 49 0),
  (49, s_gf 52 layX 6 6),
  (52, s_il 53 2),
  (53, s_ci true 56 2 (sgC 45 23) f_X5_endWithin),
  (56, s_ic 57 (-1)),
  (57, s_ceq 60 62),
  (60, s_il 61 3),
  (61, s_ir),
  (62, s_in 65 3 20),
  (65, s_go 31),
  (68, s_ic 69 (-1)),
  (69, s_ir)]
def cs_X6_leastRate : Cs := [(31, [0, 1, 2, 3])]
noncomputable def f_X6_leastRate : List Vv → Mm → Option Ou := lock (sem t_X6_leastRate cs_X6_leastRate 4)
set_option maxRecDepth 20000 in
theorem ok_X6_leastRate (l : Launch) (hl : l.stackTraces = false) : Ok l RX6 cX6_leastRate 4 7 (some .int) layX t_X6_leastRate :=
  Ok.cons (so_aload_n dX6_leastRate_0 rfl rfl) <|
  Ok.cons (so_iload_n dX6_leastRate_1 rfl rfl) <|
  Ok.cons (so_vv0 (ct_X6_requirePlace l hl) wq_941 wq_938 wq_940 wq_42 wq_87 (by decide +kernel) (by decide) rfl rfl dX6_leastRate_2 rfl) <|
  Ok.cons (so_aload_n dX6_leastRate_5 rfl rfl) <|
  Ok.cons (so_vi0 (ct_X6_finish l hl) wq_537 wq_808 wq_535 wq_536 wq_87 (by decide +kernel) (by decide) rfl rfl dX6_leastRate_6 rfl) <|
  Ok.cons (so_istore_n dX6_leastRate_9 rfl (by decide) rfl) <|
  Ok.cons (so_iload_n dX6_leastRate_10 rfl rfl) <|
  Ok.cons (so_iconst dX6_leastRate_11 (by decide) rfl) <|
  Ok.cons (so_cne dX6_leastRate_12 (by decide) rfl) <|
  Ok.cons (so_iconst dX6_leastRate_15 (by decide) rfl) <|
  Ok.cons (so_ir rfl dX6_leastRate_16) <|
  Ok.cons (so_aload_n dX6_leastRate_17 rfl rfl) <|
  Ok.cons (so_gf (C := RX6) (T := TX6) (N := 9) inGX6 rfl (by decide) wq_357 rfl dX6_leastRate_18 rfl) <|
  Ok.cons (so_aload_n dX6_leastRate_21 rfl rfl) <|
  Ok.cons (so_gf (C := RX6) (T := TX6) (N := 9) inGX6 rfl (by decide) wq_352 rfl dX6_leastRate_22 rfl) <|
  Ok.cons (so_vv (ct_X2_copyFrom l) wq_497 wq_494 wq_495 wq_496 wq_88 (by decide +kernel) (by decide) rfl rfl cmp_layX_sg2_57_32_11 dX6_leastRate_25 rfl) <|
  Ok.cons (so_bipush dX6_leastRate_28 (by decide) rfl) <|
  Ok.cons (so_istore_n dX6_leastRate_30 rfl (by decide) rfl) <|
  Ok.cons (so_iload_n dX6_leastRate_31 rfl rfl) <|
  Ok.cons (so_sipush dX6_leastRate_32 (by decide) rfl) <|
  Ok.cons (so_cgt dX6_leastRate_35 (by decide) rfl) <|
  Ok.cons (so_aload_n dX6_leastRate_38 rfl rfl) <|
  Ok.cons (so_gf (C := RX6) (T := TX6) (N := 9) inGX6 rfl (by decide) wq_357 rfl dX6_leastRate_39 rfl) <|
  Ok.cons (so_gf (C := RX2) (T := TX2) (N := 12) inGX2 rfl (by decide) wq_150 rfl dX6_leastRate_42 rfl) <|
  Ok.cons (so_iload_n dX6_leastRate_45 rfl rfl) <|
  Ok.cons (so_iload_n dX6_leastRate_46 rfl rfl) <|
  Ok.cons (so_ix dX6_leastRate_47 rfl) <|
  Ok.cons (so_aload_n dX6_leastRate_48 rfl rfl) <|
  Ok.cons (so_gf (C := RX6) (T := TX6) (N := 9) inGX6 rfl (by decide) wq_358 rfl dX6_leastRate_49 rfl) <|
  Ok.cons (so_iload_n dX6_leastRate_52 rfl rfl) <|
  Ok.cons (so_vi (ct_X5_endWithin l) wq_662 wq_699 wq_660 wq_661 wq_93 (by decide +kernel) (by decide) rfl rfl cmp_layX_sgC_45_23 dX6_leastRate_53 rfl) <|
  Ok.cons (so_iconst dX6_leastRate_56 (by decide) rfl) <|
  Ok.cons (so_ceq dX6_leastRate_57 (by decide) rfl) <|
  Ok.cons (so_iload_n dX6_leastRate_60 rfl rfl) <|
  Ok.cons (so_ir rfl dX6_leastRate_61) <|
  Ok.cons (so_iinc dX6_leastRate_62 (by decide) (by decide) rfl) <|
  Ok.cons (so_goto dX6_leastRate_65 (by decide)) <|
  Ok.cons (so_iconst dX6_leastRate_68 (by decide) rfl) <|
  Ok.cons (so_ir rfl dX6_leastRate_69) <| Ok.nil
theorem ct_X6_leastRate (l : Launch) (hl : l.stackTraces = false) : Ct l yX6_leastRate cX6_leastRate 4 (some .int) 7 layX f_X6_leastRate := ofRunL (by decide) rfl (ok_X6_leastRate l hl)
noncomputable def t_X6_criticalIrons : Tbl := [(0, s_al 1 0),
  (1, s_ci0 true 4 1 f_X6_finish),
  (4, s_is 5 1),
  (5, s_ic 6 0),
  (6, s_is 7 2),
  (7, s_ic 8 0),
  (8, s_is 9 3),
  (9, s_il 10 1),
  (10, s_ic 11 (-1)),
  (11, s_ceq 14 56),
  (14, s_il 15 3),
  (15, s_al 16 0),
  (16, s_gf 19 layX 6 0),
  (19, s_gf 22 layX 2 0),
  (22, s_cge 25 56),
  (25, s_al 26 0),
  (26, s_il 27 3),
  (27, s_ci0 true 30 2 f_X6_finishOfOthers),
  (30, s_is 32 4),
  (32, s_il 34 4),
  (34, s_ic 35 (-1)),
  (35, s_ceq 38 50),
  (38, s_il 40 4),
  (40, s_il 41 1),
  (41, s_cge 44 50),
  (44, s_il 45 2),
  (45, s_ic 46 1),
  (46, s_il 47 3),
  (47, s_b 48 (fun x y => x <<< (y &&& 31))),
  (48, s_b 49 (fun x y => x ||| y)),
  (49, s_is 50 2),
  (50, s_in 53 3 1),
  (53, s_go 9),
  (56, s_il 57 2),
  (57, s_ir)]
def cs_X6_criticalIrons : Cs := [(9, [0, 1, 2, 3])]
noncomputable def f_X6_criticalIrons : List Vv → Mm → Option Ou := lock (sem t_X6_criticalIrons cs_X6_criticalIrons 5)
set_option maxRecDepth 20000 in
theorem ok_X6_criticalIrons (l : Launch) (hl : l.stackTraces = false) : Ok l RX6 cX6_criticalIrons 5 7 (some .int) layX t_X6_criticalIrons :=
  Ok.cons (so_aload_n dX6_criticalIrons_0 rfl rfl) <|
  Ok.cons (so_vi0 (ct_X6_finish l hl) wq_537 wq_808 wq_535 wq_536 wq_87 (by decide +kernel) (by decide) rfl rfl dX6_criticalIrons_1 rfl) <|
  Ok.cons (so_istore_n dX6_criticalIrons_4 rfl (by decide) rfl) <|
  Ok.cons (so_iconst dX6_criticalIrons_5 (by decide) rfl) <|
  Ok.cons (so_istore_n dX6_criticalIrons_6 rfl (by decide) rfl) <|
  Ok.cons (so_iconst dX6_criticalIrons_7 (by decide) rfl) <|
  Ok.cons (so_istore_n dX6_criticalIrons_8 rfl (by decide) rfl) <|
  Ok.cons (so_iload_n dX6_criticalIrons_9 rfl rfl) <|
  Ok.cons (so_iconst dX6_criticalIrons_10 (by decide) rfl) <|
  Ok.cons (so_ceq dX6_criticalIrons_11 (by decide) rfl) <|
  Ok.cons (so_iload_n dX6_criticalIrons_14 rfl rfl) <|
  Ok.cons (so_aload_n dX6_criticalIrons_15 rfl rfl) <|
  Ok.cons (so_gf (C := RX6) (T := TX6) (N := 9) inGX6 rfl (by decide) wq_352 rfl dX6_criticalIrons_16 rfl) <|
  Ok.cons (so_gf (C := RX2) (T := TX2) (N := 12) inGX2 rfl (by decide) wq_128 rfl dX6_criticalIrons_19 rfl) <|
  Ok.cons (so_cge dX6_criticalIrons_22 (by decide) rfl) <|
  Ok.cons (so_aload_n dX6_criticalIrons_25 rfl rfl) <|
  Ok.cons (so_iload_n dX6_criticalIrons_26 rfl rfl) <|
  Ok.cons (so_vi0 (ct_X6_finishOfOthers l hl) wq_812 wq_809 wq_811 wq_38 wq_87 (by decide +kernel) (by decide) rfl rfl dX6_criticalIrons_27 rfl) <|
  Ok.cons (so_istore dX6_criticalIrons_30 (by decide) rfl) <|
  Ok.cons (so_iload dX6_criticalIrons_32 rfl) <|
  Ok.cons (so_iconst dX6_criticalIrons_34 (by decide) rfl) <|
  Ok.cons (so_ceq dX6_criticalIrons_35 (by decide) rfl) <|
  Ok.cons (so_iload dX6_criticalIrons_38 rfl) <|
  Ok.cons (so_iload_n dX6_criticalIrons_40 rfl rfl) <|
  Ok.cons (so_cge dX6_criticalIrons_41 (by decide) rfl) <|
  Ok.cons (so_iload_n dX6_criticalIrons_44 rfl rfl) <|
  Ok.cons (so_iconst dX6_criticalIrons_45 (by decide) rfl) <|
  Ok.cons (so_iload_n dX6_criticalIrons_46 rfl rfl) <|
  Ok.cons (so_ishl dX6_criticalIrons_47 rfl) <|
  Ok.cons (so_ior dX6_criticalIrons_48 rfl) <|
  Ok.cons (so_istore_n dX6_criticalIrons_49 rfl (by decide) rfl) <|
  Ok.cons (so_iinc dX6_criticalIrons_50 (by decide) (by decide) rfl) <|
  Ok.cons (so_goto dX6_criticalIrons_53 (by decide)) <|
  Ok.cons (so_iload_n dX6_criticalIrons_56 rfl rfl) <|
  Ok.cons (so_ir rfl dX6_criticalIrons_57) <| Ok.nil
theorem ct_X6_criticalIrons (l : Launch) (hl : l.stackTraces = false) : Ct l yX6_criticalIrons cX6_criticalIrons 5 (some .int) 7 layX f_X6_criticalIrons := ofRunL (by decide) rfl (ok_X6_criticalIrons l hl)
