theorem wq_741 : Cond.methodLink "ForgeScheduler" 242 ⟨"java/lang/System", "arraycopy", "(Ljava/lang/Object;ILjava/lang/Object;II)V"⟩ ∈ gtb := List.mem_filter.mpr ⟨List.mem_of_getElem? (i := 741) (by decide +kernel), rfl⟩
theorem wq_754 : Cond.methodLink "ForgeScheduler" 251 ⟨"ForgeScheduler$Forge", "appendStep", "(III)V"⟩ ∈ gtb := List.mem_filter.mpr ⟨List.mem_of_getElem? (i := 754) (by decide +kernel), rfl⟩
theorem dX6_setSetting_0 : decode cX6_setSetting 0 = .ok (.iload_n 1, 1) := by decide +kernel
theorem dX6_setSetting_1 : decode cX6_setSetting 1 = .ok (.iload_n 2, 1) := by decide +kernel
theorem dX6_setSetting_2 : decode cX6_setSetting 2 = .ok (.invokestatic 232, 3) := by decide +kernel
theorem dX6_setSetting_5 : decode cX6_setSetting 5 = .ok (.ifCond .ne 6, 3) := by decide +kernel
theorem dX6_setSetting_8 : decode cX6_setSetting 8 = .ok (.bipush (-2), 2) := by decide +kernel
theorem dX6_setSetting_10 : decode cX6_setSetting 10 = .ok (.ireturn, 1) := by decide +kernel
theorem dX6_setSetting_11 : decode cX6_setSetting 11 = .ok (.aload_n 0, 1) := by decide +kernel
theorem dX6_setSetting_12 : decode cX6_setSetting 12 = .ok (.getfield 10, 3) := by decide +kernel
theorem dX6_setSetting_15 : decode cX6_setSetting 15 = .ok (.getfield 147, 3) := by decide +kernel
theorem dX6_setSetting_18 : decode cX6_setSetting 18 = .ok (.iload_n 1, 1) := by decide +kernel
theorem dX6_setSetting_19 : decode cX6_setSetting 19 = .ok (.iaload, 1) := by decide +kernel
theorem dX6_setSetting_20 : decode cX6_setSetting 20 = .ok (.istore_n 3, 1) := by decide +kernel
theorem dX6_setSetting_21 : decode cX6_setSetting 21 = .ok (.aload_n 0, 1) := by decide +kernel
theorem dX6_setSetting_22 : decode cX6_setSetting 22 = .ok (.invokevirtual 236, 3) := by decide +kernel
theorem dX6_setSetting_25 : decode cX6_setSetting 25 = .ok (.aload_n 0, 1) := by decide +kernel
theorem dX6_setSetting_26 : decode cX6_setSetting 26 = .ok (.getfield 10, 3) := by decide +kernel
theorem dX6_setSetting_29 : decode cX6_setSetting 29 = .ok (.getfield 147, 3) := by decide +kernel
theorem dX6_setSetting_32 : decode cX6_setSetting 32 = .ok (.iload_n 1, 1) := by decide +kernel
theorem dX6_setSetting_33 : decode cX6_setSetting 33 = .ok (.iload_n 2, 1) := by decide +kernel
theorem dX6_setSetting_34 : decode cX6_setSetting 34 = .ok (.iastore, 1) := by decide +kernel
theorem dX6_setSetting_35 : decode cX6_setSetting 35 = .ok (.iload_n 3, 1) := by decide +kernel
theorem dX6_setSetting_36 : decode cX6_setSetting 36 = .ok (.ireturn, 1) := by decide +kernel
theorem dX6_swap_0 : decode cX6_swap 0 = .ok (.aload_n 0, 1) := by decide +kernel
theorem dX6_swap_1 : decode cX6_swap 1 = .ok (.iload_n 1, 1) := by decide +kernel
theorem dX6_swap_2 : decode cX6_swap 2 = .ok (.invokevirtual 239, 3) := by decide +kernel
theorem dX6_swap_5 : decode cX6_swap 5 = .ok (.ifCond .eq 11, 3) := by decide +kernel
theorem dX6_swap_8 : decode cX6_swap 8 = .ok (.aload_n 0, 1) := by decide +kernel
theorem dX6_swap_9 : decode cX6_swap 9 = .ok (.iload_n 2, 1) := by decide +kernel
theorem dX6_swap_10 : decode cX6_swap 10 = .ok (.invokevirtual 239, 3) := by decide +kernel
theorem dX6_swap_13 : decode cX6_swap 13 = .ok (.ifCond .ne 5, 3) := by decide +kernel
theorem dX6_swap_16 : decode cX6_swap 16 = .ok (.iconst 0, 1) := by decide +kernel
theorem dX6_swap_17 : decode cX6_swap 17 = .ok (.ireturn, 1) := by decide +kernel
theorem dX6_swap_18 : decode cX6_swap 18 = .ok (.aload_n 0, 1) := by decide +kernel
theorem dX6_swap_19 : decode cX6_swap 19 = .ok (.invokevirtual 236, 3) := by decide +kernel
theorem dX6_swap_22 : decode cX6_swap 22 = .ok (.aload_n 0, 1) := by decide +kernel
theorem dX6_swap_23 : decode cX6_swap 23 = .ok (.getfield 10, 3) := by decide +kernel
theorem dX6_swap_26 : decode cX6_swap 26 = .ok (.iload_n 1, 1) := by decide +kernel
theorem dX6_swap_27 : decode cX6_swap 27 = .ok (.iload_n 2, 1) := by decide +kernel
theorem dX6_swap_28 : decode cX6_swap 28 = .ok (.invokevirtual 214, 3) := by decide +kernel
theorem dX6_swap_31 : decode cX6_swap 31 = .ok (.iconst 1, 1) := by decide +kernel
theorem dX6_swap_32 : decode cX6_swap 32 = .ok (.ireturn, 1) := by decide +kernel
theorem dX6_useBestOrder_0 : decode cX6_useBestOrder 0 = .ok (.aload_n 0, 1) := by decide +kernel
theorem dX6_useBestOrder_1 : decode cX6_useBestOrder 1 = .ok (.invokevirtual 203, 3) := by decide +kernel
theorem dX6_useBestOrder_4 : decode cX6_useBestOrder 4 = .ok (.astore_n 1, 1) := by decide +kernel
theorem dX6_useBestOrder_5 : decode cX6_useBestOrder 5 = .ok (.aload_n 1, 1) := by decide +kernel
theorem dX6_useBestOrder_6 : decode cX6_useBestOrder 6 = .ok (.getfield 207, 3) := by decide +kernel
theorem dX6_useBestOrder_9 : decode cX6_useBestOrder 9 = .ok (.iconst (-1), 1) := by decide +kernel
theorem dX6_useBestOrder_10 : decode cX6_useBestOrder 10 = .ok (.if_icmp .ne 5, 3) := by decide +kernel
theorem dX6_useBestOrder_13 : decode cX6_useBestOrder 13 = .ok (.iconst (-1), 1) := by decide +kernel
theorem dX6_useBestOrder_14 : decode cX6_useBestOrder 14 = .ok (.ireturn, 1) := by decide +kernel
theorem dX6_useBestOrder_15 : decode cX6_useBestOrder 15 = .ok (.aload_n 0, 1) := by decide +kernel
theorem dX6_useBestOrder_16 : decode cX6_useBestOrder 16 = .ok (.invokevirtual 236, 3) := by decide +kernel
theorem dX6_useBestOrder_19 : decode cX6_useBestOrder 19 = .ok (.aload_n 1, 1) := by decide +kernel
theorem dX6_useBestOrder_20 : decode cX6_useBestOrder 20 = .ok (.getfield 210, 3) := by decide +kernel
theorem dX6_useBestOrder_23 : decode cX6_useBestOrder 23 = .ok (.iconst 0, 1) := by decide +kernel
theorem dX6_useBestOrder_24 : decode cX6_useBestOrder 24 = .ok (.aload_n 0, 1) := by decide +kernel
theorem dX6_useBestOrder_25 : decode cX6_useBestOrder 25 = .ok (.getfield 10, 3) := by decide +kernel
theorem dX6_useBestOrder_28 : decode cX6_useBestOrder 28 = .ok (.getfield 150, 3) := by decide +kernel
theorem dX6_useBestOrder_31 : decode cX6_useBestOrder 31 = .ok (.iconst 0, 1) := by decide +kernel
theorem dX6_useBestOrder_32 : decode cX6_useBestOrder 32 = .ok (.bipush 6, 2) := by decide +kernel
theorem dX6_useBestOrder_34 : decode cX6_useBestOrder 34 = .ok (.invokestatic 242, 3) := by decide +kernel
theorem dX6_useBestOrder_37 : decode cX6_useBestOrder 37 = .ok (.aload_n 1, 1) := by decide +kernel
theorem dX6_useBestOrder_38 : decode cX6_useBestOrder 38 = .ok (.getfield 207, 3) := by decide +kernel
theorem dX6_useBestOrder_41 : decode cX6_useBestOrder 41 = .ok (.ireturn, 1) := by decide +kernel
theorem dX6_setPlace_0 : decode cX6_setPlace 0 = .ok (.aload_n 0, 1) := by decide +kernel
theorem dX6_setPlace_1 : decode cX6_setPlace 1 = .ok (.iload_n 1, 1) := by decide +kernel
theorem dX6_setPlace_2 : decode cX6_setPlace 2 = .ok (.invokevirtual 248, 3) := by decide +kernel
theorem dX6_setPlace_5 : decode cX6_setPlace 5 = .ok (.ifCond .eq 26, 3) := by decide +kernel
theorem dX6_setPlace_8 : decode cX6_setPlace 8 = .ok (.iload_n 2, 1) := by decide +kernel
theorem dX6_setPlace_9 : decode cX6_setPlace 9 = .ok (.iconst 1, 1) := by decide +kernel
theorem dX6_setPlace_10 : decode cX6_setPlace 10 = .ok (.sipush 2000, 3) := by decide +kernel
theorem dX6_setPlace_13 : decode cX6_setPlace 13 = .ok (.invokestatic 75, 3) := by decide +kernel
theorem dX6_setPlace_16 : decode cX6_setPlace 16 = .ok (.ifCond .eq 15, 3) := by decide +kernel
theorem dX6_setPlace_19 : decode cX6_setPlace 19 = .ok (.iload_n 3, 1) := by decide +kernel
theorem dX6_setPlace_20 : decode cX6_setPlace 20 = .ok (.bipush 100, 2) := by decide +kernel
theorem dX6_setPlace_22 : decode cX6_setPlace 22 = .ok (.sipush 1500, 3) := by decide +kernel
theorem dX6_setPlace_25 : decode cX6_setPlace 25 = .ok (.invokestatic 75, 3) := by decide +kernel
theorem dX6_setPlace_28 : decode cX6_setPlace 28 = .ok (.ifCond .ne 5, 3) := by decide +kernel
theorem dX6_setPlace_31 : decode cX6_setPlace 31 = .ok (.iconst 0, 1) := by decide +kernel
theorem dX6_setPlace_32 : decode cX6_setPlace 32 = .ok (.ireturn, 1) := by decide +kernel
theorem dX6_setPlace_33 : decode cX6_setPlace 33 = .ok (.aload_n 0, 1) := by decide +kernel
theorem dX6_setPlace_34 : decode cX6_setPlace 34 = .ok (.invokevirtual 236, 3) := by decide +kernel
theorem dX6_setPlace_37 : decode cX6_setPlace 37 = .ok (.aload_n 0, 1) := by decide +kernel
theorem dX6_setPlace_38 : decode cX6_setPlace 38 = .ok (.getfield 10, 3) := by decide +kernel
theorem dX6_setPlace_41 : decode cX6_setPlace 41 = .ok (.getfield 137, 3) := by decide +kernel
theorem dX6_setPlace_44 : decode cX6_setPlace 44 = .ok (.iload_n 1, 1) := by decide +kernel
theorem dX6_setPlace_45 : decode cX6_setPlace 45 = .ok (.iload_n 2, 1) := by decide +kernel
theorem dX6_setPlace_46 : decode cX6_setPlace 46 = .ok (.iastore, 1) := by decide +kernel
theorem dX6_setPlace_47 : decode cX6_setPlace 47 = .ok (.aload_n 0, 1) := by decide +kernel
theorem dX6_setPlace_48 : decode cX6_setPlace 48 = .ok (.getfield 10, 3) := by decide +kernel
theorem dX6_setPlace_51 : decode cX6_setPlace 51 = .ok (.getfield 140, 3) := by decide +kernel
theorem dX6_setPlace_54 : decode cX6_setPlace 54 = .ok (.iload_n 1, 1) := by decide +kernel
theorem dX6_setPlace_55 : decode cX6_setPlace 55 = .ok (.iload_n 3, 1) := by decide +kernel
theorem dX6_setPlace_56 : decode cX6_setPlace 56 = .ok (.iastore, 1) := by decide +kernel
theorem dX6_setPlace_57 : decode cX6_setPlace 57 = .ok (.iconst 1, 1) := by decide +kernel
theorem dX6_setPlace_58 : decode cX6_setPlace 58 = .ok (.ireturn, 1) := by decide +kernel
theorem dX6_addStep_0 : decode cX6_addStep 0 = .ok (.aload_n 0, 1) := by decide +kernel
theorem dX6_addStep_1 : decode cX6_addStep 1 = .ok (.iload_n 1, 1) := by decide +kernel
theorem dX6_addStep_2 : decode cX6_addStep 2 = .ok (.invokevirtual 239, 3) := by decide +kernel
theorem dX6_addStep_5 : decode cX6_addStep 5 = .ok (.ifCond .ne 5, 3) := by decide +kernel
theorem dX6_addStep_8 : decode cX6_addStep 8 = .ok (.iconst (-1), 1) := by decide +kernel
theorem dX6_addStep_9 : decode cX6_addStep 9 = .ok (.ireturn, 1) := by decide +kernel
theorem dX6_addStep_10 : decode cX6_addStep 10 = .ok (.iload_n 2, 1) := by decide +kernel
theorem dX6_addStep_11 : decode cX6_addStep 11 = .ok (.bipush 100, 2) := by decide +kernel
theorem dX6_addStep_13 : decode cX6_addStep 13 = .ok (.sipush 1400, 3) := by decide +kernel
theorem dX6_addStep_16 : decode cX6_addStep 16 = .ok (.invokestatic 75, 3) := by decide +kernel
theorem dX6_addStep_19 : decode cX6_addStep 19 = .ok (.ifCond .eq 13, 3) := by decide +kernel
theorem dX6_addStep_22 : decode cX6_addStep 22 = .ok (.iload_n 3, 1) := by decide +kernel
theorem dX6_addStep_23 : decode cX6_addStep 23 = .ok (.iconst 1, 1) := by decide +kernel
theorem dX6_addStep_24 : decode cX6_addStep 24 = .ok (.bipush 30, 2) := by decide +kernel
theorem dX6_addStep_26 : decode cX6_addStep 26 = .ok (.invokestatic 75, 3) := by decide +kernel
theorem dX6_addStep_29 : decode cX6_addStep 29 = .ok (.ifCond .ne 6, 3) := by decide +kernel
theorem dX6_addStep_32 : decode cX6_addStep 32 = .ok (.bipush (-2), 2) := by decide +kernel
theorem dX6_addStep_34 : decode cX6_addStep 34 = .ok (.ireturn, 1) := by decide +kernel
theorem dX6_addStep_35 : decode cX6_addStep 35 = .ok (.aload_n 0, 1) := by decide +kernel
theorem dX6_addStep_36 : decode cX6_addStep 36 = .ok (.getfield 10, 3) := by decide +kernel
theorem dX6_addStep_39 : decode cX6_addStep 39 = .ok (.getfield 120, 3) := by decide +kernel
theorem dX6_addStep_42 : decode cX6_addStep 42 = .ok (.iload_n 1, 1) := by decide +kernel
theorem dX6_addStep_43 : decode cX6_addStep 43 = .ok (.iaload, 1) := by decide +kernel
theorem dX6_addStep_44 : decode cX6_addStep 44 = .ok (.iconst 5, 1) := by decide +kernel
theorem dX6_addStep_45 : decode cX6_addStep 45 = .ok (.if_icmp .lt 6, 3) := by decide +kernel
theorem dX6_addStep_48 : decode cX6_addStep 48 = .ok (.bipush (-3), 2) := by decide +kernel
theorem dX6_addStep_50 : decode cX6_addStep 50 = .ok (.ireturn, 1) := by decide +kernel
theorem dX6_addStep_51 : decode cX6_addStep 51 = .ok (.aload_n 0, 1) := by decide +kernel
theorem dX6_addStep_52 : decode cX6_addStep 52 = .ok (.invokevirtual 236, 3) := by decide +kernel
theorem dX6_addStep_55 : decode cX6_addStep 55 = .ok (.aload_n 0, 1) := by decide +kernel
theorem dX6_addStep_56 : decode cX6_addStep 56 = .ok (.getfield 10, 3) := by decide +kernel
theorem dX6_addStep_59 : decode cX6_addStep 59 = .ok (.iload_n 1, 1) := by decide +kernel
theorem dX6_addStep_60 : decode cX6_addStep 60 = .ok (.iload_n 2, 1) := by decide +kernel
theorem dX6_addStep_61 : decode cX6_addStep 61 = .ok (.iload_n 3, 1) := by decide +kernel
theorem dX6_addStep_62 : decode cX6_addStep 62 = .ok (.invokevirtual 251, 3) := by decide +kernel
theorem dX6_addStep_65 : decode cX6_addStep 65 = .ok (.aload_n 0, 1) := by decide +kernel
theorem dX6_addStep_66 : decode cX6_addStep 66 = .ok (.getfield 10, 3) := by decide +kernel
theorem dX6_addStep_69 : decode cX6_addStep 69 = .ok (.getfield 120, 3) := by decide +kernel
theorem dX6_addStep_72 : decode cX6_addStep 72 = .ok (.iload_n 1, 1) := by decide +kernel
theorem dX6_addStep_73 : decode cX6_addStep 73 = .ok (.iaload, 1) := by decide +kernel
theorem dX6_addStep_74 : decode cX6_addStep 74 = .ok (.ireturn, 1) := by decide +kernel
theorem dX6_removeStep_0 : decode cX6_removeStep 0 = .ok (.aload_n 0, 1) := by decide +kernel
theorem dX6_removeStep_1 : decode cX6_removeStep 1 = .ok (.iload_n 1, 1) := by decide +kernel
theorem dX6_removeStep_2 : decode cX6_removeStep 2 = .ok (.invokevirtual 239, 3) := by decide +kernel
theorem dX6_removeStep_5 : decode cX6_removeStep 5 = .ok (.ifCond .eq 15, 3) := by decide +kernel
theorem dX6_removeStep_8 : decode cX6_removeStep 8 = .ok (.aload_n 0, 1) := by decide +kernel
theorem dX6_removeStep_9 : decode cX6_removeStep 9 = .ok (.getfield 10, 3) := by decide +kernel
theorem dX6_removeStep_12 : decode cX6_removeStep 12 = .ok (.getfield 120, 3) := by decide +kernel
theorem dX6_removeStep_15 : decode cX6_removeStep 15 = .ok (.iload_n 1, 1) := by decide +kernel
theorem dX6_removeStep_16 : decode cX6_removeStep 16 = .ok (.iaload, 1) := by decide +kernel
theorem dX6_removeStep_17 : decode cX6_removeStep 17 = .ok (.ifCond .ne 5, 3) := by decide +kernel
theorem dX6_removeStep_20 : decode cX6_removeStep 20 = .ok (.iconst (-1), 1) := by decide +kernel
theorem dX6_removeStep_21 : decode cX6_removeStep 21 = .ok (.ireturn, 1) := by decide +kernel
theorem dX6_removeStep_22 : decode cX6_removeStep 22 = .ok (.aload_n 0, 1) := by decide +kernel
theorem dX6_removeStep_23 : decode cX6_removeStep 23 = .ok (.invokevirtual 236, 3) := by decide +kernel
theorem dX6_removeStep_26 : decode cX6_removeStep 26 = .ok (.aload_n 0, 1) := by decide +kernel
theorem dX6_removeStep_27 : decode cX6_removeStep 27 = .ok (.getfield 10, 3) := by decide +kernel
theorem dX6_removeStep_30 : decode cX6_removeStep 30 = .ok (.getfield 120, 3) := by decide +kernel
theorem dX6_removeStep_33 : decode cX6_removeStep 33 = .ok (.iload_n 1, 1) := by decide +kernel
theorem dX6_removeStep_34 : decode cX6_removeStep 34 = .ok (.dup2, 1) := by decide +kernel
theorem dX6_removeStep_35 : decode cX6_removeStep 35 = .ok (.iaload, 1) := by decide +kernel
theorem dX6_removeStep_36 : decode cX6_removeStep 36 = .ok (.iconst 1, 1) := by decide +kernel
theorem dX6_removeStep_37 : decode cX6_removeStep 37 = .ok (.isub, 1) := by decide +kernel
theorem dX6_removeStep_38 : decode cX6_removeStep 38 = .ok (.iastore, 1) := by decide +kernel
theorem dX6_removeStep_39 : decode cX6_removeStep 39 = .ok (.aload_n 0, 1) := by decide +kernel
theorem dX6_removeStep_40 : decode cX6_removeStep 40 = .ok (.getfield 10, 3) := by decide +kernel
theorem dX6_removeStep_43 : decode cX6_removeStep 43 = .ok (.getfield 120, 3) := by decide +kernel
theorem dX6_removeStep_46 : decode cX6_removeStep 46 = .ok (.iload_n 1, 1) := by decide +kernel
theorem dX6_removeStep_47 : decode cX6_removeStep 47 = .ok (.iaload, 1) := by decide +kernel
theorem dX6_removeStep_48 : decode cX6_removeStep 48 = .ok (.ireturn, 1) := by decide +kernel
theorem dX6_undo_0 : decode cX6_undo 0 = .ok (.aload_n 0, 1) := by decide +kernel
theorem dX6_undo_1 : decode cX6_undo 1 = .ok (.getfield 19, 3) := by decide +kernel
theorem dX6_undo_4 : decode cX6_undo 4 = .ok (.aload_n 0, 1) := by decide +kernel
theorem dX6_undo_5 : decode cX6_undo 5 = .ok (.getfield 10, 3) := by decide +kernel
theorem dX6_undo_8 : decode cX6_undo 8 = .ok (.invokevirtual 255, 3) := by decide +kernel
theorem dX6_undo_11 : decode cX6_undo 11 = .ok (.ifCond .ne 5, 3) := by decide +kernel
theorem dX6_undo_14 : decode cX6_undo 14 = .ok (.iconst (-1), 1) := by decide +kernel
theorem dX6_undo_15 : decode cX6_undo 15 = .ok (.ireturn, 1) := by decide +kernel
theorem dX6_undo_16 : decode cX6_undo 16 = .ok (.aload_n 0, 1) := by decide +kernel
theorem dX6_undo_17 : decode cX6_undo 17 = .ok (.invokevirtual 92, 3) := by decide +kernel
theorem dX6_undo_20 : decode cX6_undo 20 = .ok (.aload_n 0, 1) := by decide +kernel
theorem dX6_undo_21 : decode cX6_undo 21 = .ok (.getfield 19, 3) := by decide +kernel
theorem dX6_undo_24 : decode cX6_undo 24 = .ok (.getfield 104, 3) := by decide +kernel
theorem dX6_undo_27 : decode cX6_undo 27 = .ok (.ireturn, 1) := by decide +kernel
theorem dX6_beginChange_0 : decode cX6_beginChange 0 = .ok (.aload_n 0, 1) := by decide +kernel
theorem dX6_beginChange_1 : decode cX6_beginChange 1 = .ok (.getfield 19, 3) := by decide +kernel
theorem dX6_beginChange_4 : decode cX6_beginChange 4 = .ok (.aload_n 0, 1) := by decide +kernel
theorem dX6_beginChange_5 : decode cX6_beginChange 5 = .ok (.getfield 10, 3) := by decide +kernel
theorem dX6_beginChange_8 : decode cX6_beginChange 8 = .ok (.invokevirtual 296, 3) := by decide +kernel
theorem dX6_beginChange_11 : decode cX6_beginChange 11 = .ok (.aload_n 0, 1) := by decide +kernel
theorem dX6_beginChange_12 : decode cX6_beginChange 12 = .ok (.invokevirtual 92, 3) := by decide +kernel
theorem dX6_beginChange_15 : decode cX6_beginChange 15 = .ok (.return_, 1) := by decide +kernel
noncomputable def t_X6_beginChange : Tbl := [(0, s_al 1 0),
  (1, s_gf 4 layX 6 1),
  (4, s_al 5 0),
  (5, s_gf 8 layX 6 0),
  (11, s_al 12 0),
  (12, s_cv0 true 15 1 f_X6_forgetResults),
  (15, s_vr)]
def cs_X6_beginChange : Cs := [(8, [0])]
set_option maxRecDepth 20000 in
theorem ok_X6_beginChange (l : Launch) (hl : l.stackTraces = false) : Ok l RX6 cX6_beginChange 1 6 none layX t_X6_beginChange :=
  Ok.cons (so_aload_n dX6_beginChange_0 rfl rfl) <|
  Ok.cons (so_gf (C := RX6) (T := TX6) (N := 9) inGX6 rfl (by decide) wq_353 rfl dX6_beginChange_1 rfl) <|
  Ok.cons (so_aload_n dX6_beginChange_4 rfl rfl) <|
  Ok.cons (so_gf (C := RX6) (T := TX6) (N := 9) inGX6 rfl (by decide) wq_352 rfl dX6_beginChange_5 rfl) <|
  Ok.cons (so_aload_n dX6_beginChange_11 rfl rfl) <|
  Ok.cons (so_vv0 (ct_X6_forgetResults l hl) wq_505 wq_502 wq_504 wq_13 wq_87 (by decide +kernel) (by decide) rfl rfl dX6_beginChange_12 rfl) <|
  Ok.cons (so_vr rfl dX6_beginChange_15) <| Ok.nil
noncomputable def f_X6_beginChange : List Vv → Mm → Option Ou := lock (sem t_X6_beginChange cs_X6_beginChange 1)
theorem ct_X6_beginChange (l : Launch) (hl : l.stackTraces = false) : Ct l yX6_beginChange cX6_beginChange 1 none 6 layX f_X6_beginChange := ofRunL (by decide) rfl (ok_X6_beginChange l hl)
set_option maxRecDepth 20000 in
theorem s_X6_beginChange (k : Kt) (σ : Mm) : rl cs_X6_beginChange k t_X6_beginChange 0 [(0, .inr (.inl 0))] [] σ =
  (k 8 [(0, .inr (.inl 0))] [.inr (.inl 32), .inr (.inl 1)] σ) := rfl
set_option maxRecDepth 20000 in
theorem e0_X6_beginChange (n : Nat) (σ : Mm) : sem0 t_X6_beginChange cs_X6_beginChange 1 n [.inr (.inl 0)] σ =
  (rn t_X6_beginChange cs_X6_beginChange n 8 [(0, .inr (.inl 0))] [.inr (.inl 32), .inr (.inl 1)] σ) := rfl
theorem e_X6_beginChange (σ : Mm) : f_X6_beginChange [.inr (.inl 0)] σ = (rn t_X6_beginChange cs_X6_beginChange bigM 8 [(0, .inr (.inl 0))] [.inr (.inl 32), .inr (.inl 1)] σ) := (lock_ap _ _).trans (e0_X6_beginChange bigM σ)
set_option maxRecDepth 20000 in
theorem u_X6_beginChange (σ : Mm) : rn t_X6_beginChange cs_X6_beginChange 1 11 [(0, .inr (.inl 0))] [] σ =
  (onV (f_X6_forgetResults [.inr (.inl 0)] σ) (fun τ1 => some (none, τ1)) (fun τ1 =>
  some (some none, τ1))) := (onV_cg (fun _ => rfl) (fun τ1 => rfl))
noncomputable def t_X6_setSetting : Tbl := [(0, s_il 1 1),
  (1, s_il 2 2),
  (2, s_ci false 5 2 (sg0) f_X6_isSettingValue),
  (5, s_zne 8 11),
  (8, s_ic 10 (-2)),
  (10, s_ir),
  (11, s_al 12 0),
  (12, s_gf 15 layX 6 0),
  (15, s_gf 18 layX 2 10),
  (18, s_il 19 1),
  (19, s_ia 20 layX 0),
  (20, s_is 21 3),
  (21, s_al 22 0),
  (25, s_al 26 0),
  (26, s_gf 29 layX 6 0),
  (29, s_gf 32 layX 2 10),
  (32, s_il 33 1),
  (33, s_il 34 2),
  (34, s_ix 35 layX 0),
  (35, s_il 36 3),
  (36, s_ir)]
def cs_X6_setSetting : Cs := [(22, [0, 1, 2, 3])]
set_option maxRecDepth 20000 in
theorem ok_X6_setSetting (l : Launch) (hl : l.stackTraces = false) : Ok l RX6 cX6_setSetting 4 7 (some .int) layX t_X6_setSetting :=
  Ok.cons (so_iload_n dX6_setSetting_0 rfl rfl) <|
  Ok.cons (so_iload_n dX6_setSetting_1 rfl rfl) <|
  Ok.cons (so_si (ct_X6_isSettingValue l) wq_696 wq_694 wq_695 wq_87 (by decide +kernel) (by decide) cmp_layX_sg0 dX6_setSetting_2 rfl) <|
  Ok.cons (so_zne dX6_setSetting_5 (by decide) rfl) <|
  Ok.cons (so_bipush dX6_setSetting_8 (by decide) rfl) <|
  Ok.cons (so_ir rfl dX6_setSetting_10) <|
  Ok.cons (so_aload_n dX6_setSetting_11 rfl rfl) <|
  Ok.cons (so_gf (C := RX6) (T := TX6) (N := 9) inGX6 rfl (by decide) wq_352 rfl dX6_setSetting_12 rfl) <|
  Ok.cons (so_gf (C := RX2) (T := TX2) (N := 12) inGX2 rfl (by decide) wq_159 rfl dX6_setSetting_15 rfl) <|
  Ok.cons (so_iload_n dX6_setSetting_18 rfl rfl) <|
  Ok.cons (so_ia0 dX6_setSetting_19 rfl) <|
  Ok.cons (so_istore_n dX6_setSetting_20 rfl (by decide) rfl) <|
  Ok.cons (so_aload_n dX6_setSetting_21 rfl rfl) <|
  Ok.cons (so_aload_n dX6_setSetting_25 rfl rfl) <|
  Ok.cons (so_gf (C := RX6) (T := TX6) (N := 9) inGX6 rfl (by decide) wq_352 rfl dX6_setSetting_26 rfl) <|
  Ok.cons (so_gf (C := RX2) (T := TX2) (N := 12) inGX2 rfl (by decide) wq_159 rfl dX6_setSetting_29 rfl) <|
  Ok.cons (so_iload_n dX6_setSetting_32 rfl rfl) <|
  Ok.cons (so_iload_n dX6_setSetting_33 rfl rfl) <|
  Ok.cons (so_ix dX6_setSetting_34 rfl) <|
  Ok.cons (so_iload_n dX6_setSetting_35 rfl rfl) <|
  Ok.cons (so_ir rfl dX6_setSetting_36) <| Ok.nil
noncomputable def f_X6_setSetting : List Vv → Mm → Option Ou := lock (sem t_X6_setSetting cs_X6_setSetting 4)
theorem ct_X6_setSetting (l : Launch) (hl : l.stackTraces = false) : Ct l yX6_setSetting cX6_setSetting 4 (some .int) 7 layX f_X6_setSetting := ofRunL (by decide) rfl (ok_X6_setSetting l hl)
set_option maxRecDepth 20000 in
theorem s_X6_setSetting (k : Kt) (x1 x2 : Int32) (σ : Mm) : rl cs_X6_setSetting k t_X6_setSetting 0 [(0, .inr (.inl 0)), (1, .inl x1), (2, .inl x2)] [] σ =
  (onI (f_X6_isSettingValue [.inl x1, .inl x2] (pk (sg0) σ)) (fun τ1 => some (none, (put (sg0) σ τ1))) (fun r1 τ1 =>
  (if r1 = 0 then
    some (some (some (.inl (-2))), (put (sg0) σ τ1))
  else
    (if inb x1 3 = true then
    (k 22 [(0, .inr (.inl 0)), (1, .inl x1), (2, .inl x2), (3, .inl (σ 41 x1.toNatClampNeg))] [.inr (.inl 0)] (put (sg0) σ τ1))
    else none)))) := (onI_cg (fun _ => rfl) (fun r1 τ1 => (if_cg rfl (if_cg rfl rfl))))
set_option maxRecDepth 20000 in
theorem e0_X6_setSetting (n : Nat) (x1 x2 : Int32) (σ : Mm) : sem0 t_X6_setSetting cs_X6_setSetting 4 n [.inr (.inl 0), .inl x1, .inl x2] σ =
  (onI (f_X6_isSettingValue [.inl x1, .inl x2] (pk (sg0) σ)) (fun τ1 => some (none, (put (sg0) σ τ1))) (fun r1 τ1 =>
  (if r1 = 0 then
    some (some (some (.inl (-2))), (put (sg0) σ τ1))
  else
    (if inb x1 3 = true then
    (rn t_X6_setSetting cs_X6_setSetting n 22 [(0, .inr (.inl 0)), (1, .inl x1), (2, .inl x2), (3, .inl (σ 41 x1.toNatClampNeg))] [.inr (.inl 0)] (put (sg0) σ τ1))
    else none)))) := (onI_cg (fun _ => rfl) (fun r1 τ1 => (if_cg rfl (if_cg rfl rfl))))
theorem e_X6_setSetting (x1 x2 : Int32) (σ : Mm) : f_X6_setSetting [.inr (.inl 0), .inl x1, .inl x2] σ = (onI (f_X6_isSettingValue [.inl x1, .inl x2] (pk (sg0) σ)) (fun τ1 => some (none, (put (sg0) σ τ1))) (fun r1 τ1 => (if r1 = 0 then some (some (some (.inl (-2))), (put (sg0) σ τ1)) else (if inb x1 3 = true then (rn t_X6_setSetting cs_X6_setSetting bigM 22 [(0, .inr (.inl 0)), (1, .inl x1), (2, .inl x2), (3, .inl (σ 41 x1.toNatClampNeg))] [.inr (.inl 0)] (put (sg0) σ τ1)) else none)))) := (lock_ap _ _).trans (e0_X6_setSetting bigM x1 x2 σ)
set_option maxRecDepth 20000 in
theorem u_X6_setSetting (x1 x2 x3 : Int32) (σ : Mm) : rn t_X6_setSetting cs_X6_setSetting 1 25 [(0, .inr (.inl 0)), (1, .inl x1), (2, .inl x2), (3, .inl x3)] [] σ =
  (if inb x1 3 = true then
  some (some (some (.inl x3)), (wr σ 41 x1.toNatClampNeg x2))
  else none) := (if_cg rfl rfl)
noncomputable def t_X6_swap : Tbl := [(0, s_al 1 0),
  (1, s_il 2 1),
  (2, s_ci0 true 5 2 f_X6_isIron),
  (5, s_zeq 8 16),
  (8, s_al 9 0),
  (9, s_il 10 2),
  (10, s_ci0 true 13 2 f_X6_isIron),
  (13, s_zne 16 18),
  (16, s_ic 17 0),
  (17, s_zr),
  (18, s_al 19 0),
  (22, s_al 23 0),
  (23, s_gf 26 layX 6 0),
  (26, s_il 27 1),
  (27, s_il 28 2),
  (28, s_cv true 31 3 (sgC 32 11) f_X2_exchange),
  (31, s_ic 32 1),
  (32, s_zr)]
def cs_X6_swap : Cs := [(19, [0, 1, 2])]
set_option maxRecDepth 20000 in
theorem ok_X6_swap (l : Launch) (hl : l.stackTraces = false) : Ok l RX6 cX6_swap 3 7 (some .boolean) layX t_X6_swap :=
  Ok.cons (so_aload_n dX6_swap_0 rfl rfl) <|
  Ok.cons (so_iload_n dX6_swap_1 rfl rfl) <|
  Ok.cons (so_vi0 (ct_X6_isIron l hl) wq_735 wq_732 wq_734 wq_35 wq_87 (by decide +kernel) (by decide) rfl rfl dX6_swap_2 rfl) <|
  Ok.cons (so_zeq dX6_swap_5 (by decide) rfl) <|
  Ok.cons (so_aload_n dX6_swap_8 rfl rfl) <|
  Ok.cons (so_iload_n dX6_swap_9 rfl rfl) <|
  Ok.cons (so_vi0 (ct_X6_isIron l hl) wq_735 wq_732 wq_734 wq_35 wq_87 (by decide +kernel) (by decide) rfl rfl dX6_swap_10 rfl) <|
  Ok.cons (so_zne dX6_swap_13 (by decide) rfl) <|
  Ok.cons (so_iconst dX6_swap_16 (by decide) rfl) <|
  Ok.cons (so_zr rfl dX6_swap_17) <|
  Ok.cons (so_aload_n dX6_swap_18 rfl rfl) <|
  Ok.cons (so_aload_n dX6_swap_22 rfl rfl) <|
  Ok.cons (so_gf (C := RX6) (T := TX6) (N := 9) inGX6 rfl (by decide) wq_352 rfl dX6_swap_23 rfl) <|
  Ok.cons (so_iload_n dX6_swap_26 rfl rfl) <|
  Ok.cons (so_iload_n dX6_swap_27 rfl rfl) <|
  Ok.cons (so_vv (ct_X2_exchange l) wq_681 wq_736 wq_679 wq_680 wq_88 (by decide +kernel) (by decide) rfl rfl cmp_layX_sgC_32_11 dX6_swap_28 rfl) <|
  Ok.cons (so_iconst dX6_swap_31 (by decide) rfl) <|
  Ok.cons (so_zr rfl dX6_swap_32) <| Ok.nil
noncomputable def f_X6_swap : List Vv → Mm → Option Ou := lock (sem t_X6_swap cs_X6_swap 3)
theorem ct_X6_swap (l : Launch) (hl : l.stackTraces = false) : Ct l yX6_swap cX6_swap 3 (some .boolean) 7 layX f_X6_swap := ofRunL (by decide) rfl (ok_X6_swap l hl)
set_option maxRecDepth 20000 in
theorem s_X6_swap (k : Kt) (x1 x2 : Int32) (σ : Mm) : rl cs_X6_swap k t_X6_swap 0 [(0, .inr (.inl 0)), (1, .inl x1), (2, .inl x2)] [] σ =
  (onI (f_X6_isIron [.inr (.inl 0), .inl x1] σ) (fun τ1 => some (none, τ1)) (fun r1 τ1 =>
  (if r1 = 0 then
    some (some (some (.inl 0)), τ1)
  else
    (onI (f_X6_isIron [.inr (.inl 0), .inl x2] τ1) (fun τ2 => some (none, τ2)) (fun r2 τ2 =>
    (if r2 = 0 then
      some (some (some (.inl 0)), τ2)
    else
      (k 19 [(0, .inr (.inl 0)), (1, .inl x1), (2, .inl x2)] [.inr (.inl 0)] τ2))))))) := (onI_cg (fun _ => rfl) (fun r1 τ1 => (if_cg rfl (onI_cg (fun _ => rfl) (fun r2 τ2 => (if_cg rfl rfl))))))
set_option maxRecDepth 20000 in
theorem e0_X6_swap (n : Nat) (x1 x2 : Int32) (σ : Mm) : sem0 t_X6_swap cs_X6_swap 3 n [.inr (.inl 0), .inl x1, .inl x2] σ =
  (onI (f_X6_isIron [.inr (.inl 0), .inl x1] σ) (fun τ1 => some (none, τ1)) (fun r1 τ1 =>
  (if r1 = 0 then
    some (some (some (.inl 0)), τ1)
  else
    (onI (f_X6_isIron [.inr (.inl 0), .inl x2] τ1) (fun τ2 => some (none, τ2)) (fun r2 τ2 =>
    (if r2 = 0 then
      some (some (some (.inl 0)), τ2)
    else
      (rn t_X6_swap cs_X6_swap n 19 [(0, .inr (.inl 0)), (1, .inl x1), (2, .inl x2)] [.inr (.inl 0)] τ2))))))) := (onI_cg (fun _ => rfl) (fun r1 τ1 => (if_cg rfl (onI_cg (fun _ => rfl) (fun r2 τ2 => (if_cg rfl rfl))))))
theorem e_X6_swap (x1 x2 : Int32) (σ : Mm) : f_X6_swap [.inr (.inl 0), .inl x1, .inl x2] σ = (onI (f_X6_isIron [.inr (.inl 0), .inl x1] σ) (fun τ1 => some (none, τ1)) (fun r1 τ1 => (if r1 = 0 then some (some (some (.inl 0)), τ1) else (onI (f_X6_isIron [.inr (.inl 0), .inl x2] τ1) (fun τ2 => some (none, τ2)) (fun r2 τ2 => (if r2 = 0 then some (some (some (.inl 0)), τ2) else (rn t_X6_swap cs_X6_swap bigM 19 [(0, .inr (.inl 0)), (1, .inl x1), (2, .inl x2)] [.inr (.inl 0)] τ2))))))) := (lock_ap _ _).trans (e0_X6_swap bigM x1 x2 σ)
set_option maxRecDepth 20000 in
theorem u_X6_swap (x1 x2 : Int32) (σ : Mm) : rn t_X6_swap cs_X6_swap 1 22 [(0, .inr (.inl 0)), (1, .inl x1), (2, .inl x2)] [] σ =
  (onV (f_X2_exchange [.inr (.inl 0), .inl x1, .inl x2] (pk (sgC 32 11) σ)) (fun τ1 => some (none, (put (sgC 32 11) σ τ1))) (fun τ1 =>
  some (some (some (.inl 1)), (put (sgC 32 11) σ τ1)))) := (onV_cg (fun _ => rfl) (fun τ1 => rfl))
noncomputable def t_X6_useBestOrder : Tbl := [(0, s_al 1 0),
  (1, s_ca0 true 4 1 43 f_X6_presentBest),
  (4, s_as 5 1),
  (5, s_al 6 1),
  (6, s_gf 9 layX 0 1),
  (9, s_ic 10 (-1)),
  (10, s_cne 13 15),
  (13, s_ic 14 (-1)),
  (14, s_ir),
  (15, s_al 16 0),
  (19, s_al 20 1),
  (20, s_gf 23 layX 0 0),
  (23, s_ic 24 0),
  (24, s_al 25 0),
  (25, s_gf 28 layX 6 0),
  (28, s_gf 31 layX 2 11),
  (31, s_ic 32 0),
  (32, s_ic 34 6),
  (34, s_cp 37 layX),
  (37, s_al 38 1),
  (38, s_gf 41 layX 0 1),
  (41, s_ir)]
def cs_X6_useBestOrder : Cs := [(16, [0, 1])]
set_option maxRecDepth 20000 in
theorem ok_X6_useBestOrder (l : Launch) (hl : l.stackTraces = false) : Ok l RX6 cX6_useBestOrder 2 9 (some .int) layX t_X6_useBestOrder :=
  Ok.cons (so_aload_n dX6_useBestOrder_0 rfl rfl) <|
  Ok.cons (so_va0 (ct_X6_presentBest l hl) wq_650 wq_647 wq_649 wq_29 wq_87 (by decide +kernel) (by decide) rfl rfl dX6_useBestOrder_1 rfl) <|
  Ok.cons (so_astore_n dX6_useBestOrder_4 rfl (by decide) rfl) <|
  Ok.cons (so_aload_n dX6_useBestOrder_5 rfl rfl) <|
  Ok.cons (so_gf (C := RX0) (T := TX0) (N := 3) inGX0 rfl (by decide) wq_340 rfl dX6_useBestOrder_6 rfl) <|
  Ok.cons (so_iconst dX6_useBestOrder_9 (by decide) rfl) <|
  Ok.cons (so_cne dX6_useBestOrder_10 (by decide) rfl) <|
  Ok.cons (so_iconst dX6_useBestOrder_13 (by decide) rfl) <|
  Ok.cons (so_ir rfl dX6_useBestOrder_14) <|
  Ok.cons (so_aload_n dX6_useBestOrder_15 rfl rfl) <|
  Ok.cons (so_aload_n dX6_useBestOrder_19 rfl rfl) <|
  Ok.cons (so_gf (C := RX0) (T := TX0) (N := 3) inGX0 rfl (by decide) wq_338 rfl dX6_useBestOrder_20 rfl) <|
  Ok.cons (so_iconst dX6_useBestOrder_23 (by decide) rfl) <|
  Ok.cons (so_aload_n dX6_useBestOrder_24 rfl rfl) <|
  Ok.cons (so_gf (C := RX6) (T := TX6) (N := 9) inGX6 rfl (by decide) wq_352 rfl dX6_useBestOrder_25 rfl) <|
  Ok.cons (so_gf (C := RX2) (T := TX2) (N := 12) inGX2 rfl (by decide) wq_163 rfl dX6_useBestOrder_28 rfl) <|
  Ok.cons (so_iconst dX6_useBestOrder_31 (by decide) rfl) <|
  Ok.cons (so_bipush dX6_useBestOrder_32 (by decide) rfl) <|
  Ok.cons (so_cp (by decide) wq_741 wq_123 wq_122 wq_89 dX6_useBestOrder_34 rfl) <|
  Ok.cons (so_aload_n dX6_useBestOrder_37 rfl rfl) <|
  Ok.cons (so_gf (C := RX0) (T := TX0) (N := 3) inGX0 rfl (by decide) wq_340 rfl dX6_useBestOrder_38 rfl) <|
  Ok.cons (so_ir rfl dX6_useBestOrder_41) <| Ok.nil
noncomputable def f_X6_useBestOrder : List Vv → Mm → Option Ou := lock (sem t_X6_useBestOrder cs_X6_useBestOrder 2)
theorem ct_X6_useBestOrder (l : Launch) (hl : l.stackTraces = false) : Ct l yX6_useBestOrder cX6_useBestOrder 2 (some .int) 9 layX f_X6_useBestOrder := ofRunL (by decide) rfl (ok_X6_useBestOrder l hl)
set_option maxRecDepth 20000 in
theorem s_X6_useBestOrder (k : Kt) (σ : Mm) : rl cs_X6_useBestOrder k t_X6_useBestOrder 0 [(0, .inr (.inl 0))] [] σ =
  (onA (f_X6_presentBest [.inr (.inl 0)] σ) 43 (fun τ1 => some (none, τ1)) (fun τ1 =>
  (if (τ1 43 1) = (-1) then
    some (some (some (.inl (-1))), τ1)
  else
    (k 16 [(0, .inr (.inl 0)), (1, .inr (.inl 43))] [.inr (.inl 0)] τ1)))) := (onA_cg (fun _ => rfl) (fun τ1 => (if_cg rfl rfl)))
set_option maxRecDepth 20000 in
theorem e0_X6_useBestOrder (n : Nat) (σ : Mm) : sem0 t_X6_useBestOrder cs_X6_useBestOrder 2 n [.inr (.inl 0)] σ =
  (onA (f_X6_presentBest [.inr (.inl 0)] σ) 43 (fun τ1 => some (none, τ1)) (fun τ1 =>
  (if (τ1 43 1) = (-1) then
    some (some (some (.inl (-1))), τ1)
  else
    (rn t_X6_useBestOrder cs_X6_useBestOrder n 16 [(0, .inr (.inl 0)), (1, .inr (.inl 43))] [.inr (.inl 0)] τ1)))) := (onA_cg (fun _ => rfl) (fun τ1 => (if_cg rfl rfl)))
theorem e_X6_useBestOrder (σ : Mm) : f_X6_useBestOrder [.inr (.inl 0)] σ = (onA (f_X6_presentBest [.inr (.inl 0)] σ) 43 (fun τ1 => some (none, τ1)) (fun τ1 => (if (τ1 43 1) = (-1) then some (some (some (.inl (-1))), τ1) else (rn t_X6_useBestOrder cs_X6_useBestOrder bigM 16 [(0, .inr (.inl 0)), (1, .inr (.inl 43))] [.inr (.inl 0)] τ1)))) := (lock_ap _ _).trans (e0_X6_useBestOrder bigM σ)
set_option maxRecDepth 20000 in
theorem u_X6_useBestOrder (σ : Mm) : rn t_X6_useBestOrder cs_X6_useBestOrder 1 19 [(0, .inr (.inl 0)), (1, .inr (.inl 43))] [] σ =
  some (some (some (.inl (σ 43 1))), (cpm σ 44 42 0 0 6)) := rfl
noncomputable def t_X6_setPlace : Tbl := [(0, s_al 1 0),
  (1, s_il 2 1),
  (2, s_ci0 true 5 2 f_X6_isPlace),
  (5, s_zeq 8 31),
  (8, s_il 9 2),
  (9, s_ic 10 1),
  (10, s_ic 13 2000),
  (13, s_ci false 16 3 (sg0) f_X6_isWithin),
  (16, s_zeq 19 31),
  (19, s_il 20 3),
  (20, s_ic 22 100),
  (22, s_ic 25 1500),
  (25, s_ci false 28 3 (sg0) f_X6_isWithin),
  (28, s_zne 31 33),
  (31, s_ic 32 0),
  (32, s_zr),
  (33, s_al 34 0),
  (37, s_al 38 0),
  (38, s_gf 41 layX 6 0),
  (41, s_gf 44 layX 2 8),
  (44, s_il 45 1),
  (45, s_il 46 2),
  (46, s_ix 47 layX 0),
  (47, s_al 48 0),
  (48, s_gf 51 layX 6 0),
  (51, s_gf 54 layX 2 9),
  (54, s_il 55 1),
  (55, s_il 56 3),
  (56, s_ix 57 layX 0),
  (57, s_ic 58 1),
  (58, s_zr)]
def cs_X6_setPlace : Cs := [(34, [0, 1, 2, 3])]
set_option maxRecDepth 20000 in
theorem ok_X6_setPlace (l : Launch) (hl : l.stackTraces = false) : Ok l RX6 cX6_setPlace 4 7 (some .boolean) layX t_X6_setPlace :=
  Ok.cons (so_aload_n dX6_setPlace_0 rfl rfl) <|
  Ok.cons (so_iload_n dX6_setPlace_1 rfl rfl) <|
  Ok.cons (so_vi0 (ct_X6_isPlace l hl) wq_749 wq_746 wq_748 wq_36 wq_87 (by decide +kernel) (by decide) rfl rfl dX6_setPlace_2 rfl) <|
  Ok.cons (so_zeq dX6_setPlace_5 (by decide) rfl) <|
  Ok.cons (so_iload_n dX6_setPlace_8 rfl rfl) <|
  Ok.cons (so_iconst dX6_setPlace_9 (by decide) rfl) <|
  Ok.cons (so_sipush dX6_setPlace_10 (by decide) rfl) <|
  Ok.cons (so_si (ct_X6_isWithin l) wq_398 wq_396 wq_397 wq_87 (by decide +kernel) (by decide) cmp_layX_sg0 dX6_setPlace_13 rfl) <|
  Ok.cons (so_zeq dX6_setPlace_16 (by decide) rfl) <|
  Ok.cons (so_iload_n dX6_setPlace_19 rfl rfl) <|
  Ok.cons (so_bipush dX6_setPlace_20 (by decide) rfl) <|
  Ok.cons (so_sipush dX6_setPlace_22 (by decide) rfl) <|
  Ok.cons (so_si (ct_X6_isWithin l) wq_398 wq_396 wq_397 wq_87 (by decide +kernel) (by decide) cmp_layX_sg0 dX6_setPlace_25 rfl) <|
  Ok.cons (so_zne dX6_setPlace_28 (by decide) rfl) <|
  Ok.cons (so_iconst dX6_setPlace_31 (by decide) rfl) <|
  Ok.cons (so_zr rfl dX6_setPlace_32) <|
  Ok.cons (so_aload_n dX6_setPlace_33 rfl rfl) <|
  Ok.cons (so_aload_n dX6_setPlace_37 rfl rfl) <|
  Ok.cons (so_gf (C := RX6) (T := TX6) (N := 9) inGX6 rfl (by decide) wq_352 rfl dX6_setPlace_38 rfl) <|
  Ok.cons (so_gf (C := RX2) (T := TX2) (N := 12) inGX2 rfl (by decide) wq_150 rfl dX6_setPlace_41 rfl) <|
  Ok.cons (so_iload_n dX6_setPlace_44 rfl rfl) <|
  Ok.cons (so_iload_n dX6_setPlace_45 rfl rfl) <|
  Ok.cons (so_ix dX6_setPlace_46 rfl) <|
  Ok.cons (so_aload_n dX6_setPlace_47 rfl rfl) <|
  Ok.cons (so_gf (C := RX6) (T := TX6) (N := 9) inGX6 rfl (by decide) wq_352 rfl dX6_setPlace_48 rfl) <|
  Ok.cons (so_gf (C := RX2) (T := TX2) (N := 12) inGX2 rfl (by decide) wq_153 rfl dX6_setPlace_51 rfl) <|
  Ok.cons (so_iload_n dX6_setPlace_54 rfl rfl) <|
  Ok.cons (so_iload_n dX6_setPlace_55 rfl rfl) <|
  Ok.cons (so_ix dX6_setPlace_56 rfl) <|
  Ok.cons (so_iconst dX6_setPlace_57 (by decide) rfl) <|
  Ok.cons (so_zr rfl dX6_setPlace_58) <| Ok.nil
noncomputable def f_X6_setPlace : List Vv → Mm → Option Ou := lock (sem t_X6_setPlace cs_X6_setPlace 4)
theorem ct_X6_setPlace (l : Launch) (hl : l.stackTraces = false) : Ct l yX6_setPlace cX6_setPlace 4 (some .boolean) 7 layX f_X6_setPlace := ofRunL (by decide) rfl (ok_X6_setPlace l hl)
set_option maxRecDepth 20000 in
theorem s_X6_setPlace (k : Kt) (x1 x2 x3 : Int32) (σ : Mm) : rl cs_X6_setPlace k t_X6_setPlace 0 [(0, .inr (.inl 0)), (1, .inl x1), (2, .inl x2), (3, .inl x3)] [] σ =
  (onI (f_X6_isPlace [.inr (.inl 0), .inl x1] σ) (fun τ1 => some (none, τ1)) (fun r1 τ1 =>
  (if r1 = 0 then
    some (some (some (.inl 0)), τ1)
  else
    (onI (f_X6_isWithin [.inl x2, .inl 1, .inl 2000] (pk (sg0) τ1)) (fun τ2 => some (none, (put (sg0) τ1 τ2))) (fun r2 τ2 =>
    (if r2 = 0 then
      some (some (some (.inl 0)), (put (sg0) τ1 τ2))
    else
      (onI (f_X6_isWithin [.inl x3, .inl 100, .inl 1500] (pk (sg0) (put (sg0) τ1 τ2))) (fun τ3 => some (none, (put (sg0) (put (sg0) τ1 τ2) τ3))) (fun r3 τ3 =>
      (if r3 = 0 then
        some (some (some (.inl 0)), (put (sg0) (put (sg0) τ1 τ2) τ3))
      else
        (k 34 [(0, .inr (.inl 0)), (1, .inl x1), (2, .inl x2), (3, .inl x3)] [.inr (.inl 0)] (put (sg0) (put (sg0) τ1 τ2) τ3))))))))))) := (onI_cg (fun _ => rfl) (fun r1 τ1 => (if_cg rfl (onI_cg (fun _ => rfl) (fun r2 τ2 => (if_cg rfl (onI_cg (fun _ => rfl) (fun r3 τ3 => (if_cg rfl rfl)))))))))
set_option maxRecDepth 20000 in
theorem e0_X6_setPlace (n : Nat) (x1 x2 x3 : Int32) (σ : Mm) : sem0 t_X6_setPlace cs_X6_setPlace 4 n [.inr (.inl 0), .inl x1, .inl x2, .inl x3] σ =
  (onI (f_X6_isPlace [.inr (.inl 0), .inl x1] σ) (fun τ1 => some (none, τ1)) (fun r1 τ1 =>
  (if r1 = 0 then
    some (some (some (.inl 0)), τ1)
  else
    (onI (f_X6_isWithin [.inl x2, .inl 1, .inl 2000] (pk (sg0) τ1)) (fun τ2 => some (none, (put (sg0) τ1 τ2))) (fun r2 τ2 =>
    (if r2 = 0 then
      some (some (some (.inl 0)), (put (sg0) τ1 τ2))
    else
      (onI (f_X6_isWithin [.inl x3, .inl 100, .inl 1500] (pk (sg0) (put (sg0) τ1 τ2))) (fun τ3 => some (none, (put (sg0) (put (sg0) τ1 τ2) τ3))) (fun r3 τ3 =>
      (if r3 = 0 then
        some (some (some (.inl 0)), (put (sg0) (put (sg0) τ1 τ2) τ3))
      else
        (rn t_X6_setPlace cs_X6_setPlace n 34 [(0, .inr (.inl 0)), (1, .inl x1), (2, .inl x2), (3, .inl x3)] [.inr (.inl 0)] (put (sg0) (put (sg0) τ1 τ2) τ3))))))))))) := (onI_cg (fun _ => rfl) (fun r1 τ1 => (if_cg rfl (onI_cg (fun _ => rfl) (fun r2 τ2 => (if_cg rfl (onI_cg (fun _ => rfl) (fun r3 τ3 => (if_cg rfl rfl)))))))))
theorem e_X6_setPlace (x1 x2 x3 : Int32) (σ : Mm) : f_X6_setPlace [.inr (.inl 0), .inl x1, .inl x2, .inl x3] σ = (onI (f_X6_isPlace [.inr (.inl 0), .inl x1] σ) (fun τ1 => some (none, τ1)) (fun r1 τ1 => (if r1 = 0 then some (some (some (.inl 0)), τ1) else (onI (f_X6_isWithin [.inl x2, .inl 1, .inl 2000] (pk (sg0) τ1)) (fun τ2 => some (none, (put (sg0) τ1 τ2))) (fun r2 τ2 => (if r2 = 0 then some (some (some (.inl 0)), (put (sg0) τ1 τ2)) else (onI (f_X6_isWithin [.inl x3, .inl 100, .inl 1500] (pk (sg0) (put (sg0) τ1 τ2))) (fun τ3 => some (none, (put (sg0) (put (sg0) τ1 τ2) τ3))) (fun r3 τ3 => (if r3 = 0 then some (some (some (.inl 0)), (put (sg0) (put (sg0) τ1 τ2) τ3)) else (rn t_X6_setPlace cs_X6_setPlace bigM 34 [(0, .inr (.inl 0)), (1, .inl x1), (2, .inl x2), (3, .inl x3)] [.inr (.inl 0)] (put (sg0) (put (sg0) τ1 τ2) τ3))))))))))) := (lock_ap _ _).trans (e0_X6_setPlace bigM x1 x2 x3 σ)
set_option maxRecDepth 20000 in
theorem u_X6_setPlace (x1 x2 x3 : Int32) (σ : Mm) : rn t_X6_setPlace cs_X6_setPlace 1 37 [(0, .inr (.inl 0)), (1, .inl x1), (2, .inl x2), (3, .inl x3)] [] σ =
  (if inb x1 3 = true then
  (if inb x1 3 = true then
  some (some (some (.inl 1)), (wr (wr σ 39 x1.toNatClampNeg x2) 40 x1.toNatClampNeg x3))
  else none)
  else none) := (if_cg (if_cg rfl rfl) rfl)
noncomputable def t_X6_addStep : Tbl := [(0, s_al 1 0),
  (1, s_il 2 1),
  (2, s_ci0 true 5 2 f_X6_isIron),
  (5, s_zne 8 10),
  (8, s_ic 9 (-1)),
  (9, s_ir),
  (10, s_il 11 2),
  (11, s_ic 13 100),
  (13, s_ic 16 1400),
  (16, s_ci false 19 3 (sg0) f_X6_isWithin),
  (19, s_zeq 22 32),
  (22, s_il 23 3),
  (23, s_ic 24 1),
  (24, s_ic 26 30),
  (26, s_ci false 29 3 (sg0) f_X6_isWithin),
  (29, s_zne 32 35),
  (32, s_ic 34 (-2)),
  (34, s_ir),
  (35, s_al 36 0),
  (36, s_gf 39 layX 6 0),
  (39, s_gf 42 layX 2 5),
  (42, s_il 43 1),
  (43, s_ia 44 layX 0),
  (44, s_ic 45 5),
  (45, s_clt 48 51),
  (48, s_ic 50 (-3)),
  (50, s_ir),
  (51, s_al 52 0),
  (55, s_al 56 0),
  (56, s_gf 59 layX 6 0),
  (59, s_il 60 1),
  (60, s_il 61 2),
  (61, s_il 62 3),
  (62, s_cv true 65 4 (sgC 32 11) f_X2_appendStep),
  (65, s_al 66 0),
  (66, s_gf 69 layX 6 0),
  (69, s_gf 72 layX 2 5),
  (72, s_il 73 1),
  (73, s_ia 74 layX 0),
  (74, s_ir)]
def cs_X6_addStep : Cs := [(52, [0, 1, 2, 3])]
set_option maxRecDepth 20000 in
theorem ok_X6_addStep (l : Launch) (hl : l.stackTraces = false) : Ok l RX6 cX6_addStep 4 7 (some .int) layX t_X6_addStep :=
  Ok.cons (so_aload_n dX6_addStep_0 rfl rfl) <|
  Ok.cons (so_iload_n dX6_addStep_1 rfl rfl) <|
  Ok.cons (so_vi0 (ct_X6_isIron l hl) wq_735 wq_732 wq_734 wq_35 wq_87 (by decide +kernel) (by decide) rfl rfl dX6_addStep_2 rfl) <|
  Ok.cons (so_zne dX6_addStep_5 (by decide) rfl) <|
  Ok.cons (so_iconst dX6_addStep_8 (by decide) rfl) <|
  Ok.cons (so_ir rfl dX6_addStep_9) <|
  Ok.cons (so_iload_n dX6_addStep_10 rfl rfl) <|
  Ok.cons (so_bipush dX6_addStep_11 (by decide) rfl) <|
  Ok.cons (so_sipush dX6_addStep_13 (by decide) rfl) <|
  Ok.cons (so_si (ct_X6_isWithin l) wq_398 wq_396 wq_397 wq_87 (by decide +kernel) (by decide) cmp_layX_sg0 dX6_addStep_16 rfl) <|
  Ok.cons (so_zeq dX6_addStep_19 (by decide) rfl) <|
  Ok.cons (so_iload_n dX6_addStep_22 rfl rfl) <|
  Ok.cons (so_iconst dX6_addStep_23 (by decide) rfl) <|
  Ok.cons (so_bipush dX6_addStep_24 (by decide) rfl) <|
  Ok.cons (so_si (ct_X6_isWithin l) wq_398 wq_396 wq_397 wq_87 (by decide +kernel) (by decide) cmp_layX_sg0 dX6_addStep_26 rfl) <|
  Ok.cons (so_zne dX6_addStep_29 (by decide) rfl) <|
  Ok.cons (so_bipush dX6_addStep_32 (by decide) rfl) <|
  Ok.cons (so_ir rfl dX6_addStep_34) <|
  Ok.cons (so_aload_n dX6_addStep_35 rfl rfl) <|
  Ok.cons (so_gf (C := RX6) (T := TX6) (N := 9) inGX6 rfl (by decide) wq_352 rfl dX6_addStep_36 rfl) <|
  Ok.cons (so_gf (C := RX2) (T := TX2) (N := 12) inGX2 rfl (by decide) wq_143 rfl dX6_addStep_39 rfl) <|
  Ok.cons (so_iload_n dX6_addStep_42 rfl rfl) <|
  Ok.cons (so_ia0 dX6_addStep_43 rfl) <|
  Ok.cons (so_iconst dX6_addStep_44 (by decide) rfl) <|
  Ok.cons (so_clt dX6_addStep_45 (by decide) rfl) <|
  Ok.cons (so_bipush dX6_addStep_48 (by decide) rfl) <|
  Ok.cons (so_ir rfl dX6_addStep_50) <|
  Ok.cons (so_aload_n dX6_addStep_51 rfl rfl) <|
  Ok.cons (so_aload_n dX6_addStep_55 rfl rfl) <|
  Ok.cons (so_gf (C := RX6) (T := TX6) (N := 9) inGX6 rfl (by decide) wq_352 rfl dX6_addStep_56 rfl) <|
  Ok.cons (so_iload_n dX6_addStep_59 rfl rfl) <|
  Ok.cons (so_iload_n dX6_addStep_60 rfl rfl) <|
  Ok.cons (so_iload_n dX6_addStep_61 rfl rfl) <|
  Ok.cons (so_vv (ct_X2_appendStep l) wq_473 wq_754 wq_471 wq_472 wq_88 (by decide +kernel) (by decide) rfl rfl cmp_layX_sgC_32_11 dX6_addStep_62 rfl) <|
  Ok.cons (so_aload_n dX6_addStep_65 rfl rfl) <|
  Ok.cons (so_gf (C := RX6) (T := TX6) (N := 9) inGX6 rfl (by decide) wq_352 rfl dX6_addStep_66 rfl) <|
  Ok.cons (so_gf (C := RX2) (T := TX2) (N := 12) inGX2 rfl (by decide) wq_143 rfl dX6_addStep_69 rfl) <|
  Ok.cons (so_iload_n dX6_addStep_72 rfl rfl) <|
  Ok.cons (so_ia0 dX6_addStep_73 rfl) <|
  Ok.cons (so_ir rfl dX6_addStep_74) <| Ok.nil
noncomputable def f_X6_addStep : List Vv → Mm → Option Ou := lock (sem t_X6_addStep cs_X6_addStep 4)
theorem ct_X6_addStep (l : Launch) (hl : l.stackTraces = false) : Ct l yX6_addStep cX6_addStep 4 (some .int) 7 layX f_X6_addStep := ofRunL (by decide) rfl (ok_X6_addStep l hl)
set_option maxRecDepth 20000 in
theorem s_X6_addStep (k : Kt) (x1 x2 x3 : Int32) (σ : Mm) : rl cs_X6_addStep k t_X6_addStep 0 [(0, .inr (.inl 0)), (1, .inl x1), (2, .inl x2), (3, .inl x3)] [] σ =
  (onI (f_X6_isIron [.inr (.inl 0), .inl x1] σ) (fun τ1 => some (none, τ1)) (fun r1 τ1 =>
  (if r1 = 0 then
    some (some (some (.inl (-1))), τ1)
  else
    (onI (f_X6_isWithin [.inl x2, .inl 100, .inl 1400] (pk (sg0) τ1)) (fun τ2 => some (none, (put (sg0) τ1 τ2))) (fun r2 τ2 =>
    (if r2 = 0 then
      some (some (some (.inl (-2))), (put (sg0) τ1 τ2))
    else
      (onI (f_X6_isWithin [.inl x3, .inl 1, .inl 30] (pk (sg0) (put (sg0) τ1 τ2))) (fun τ3 => some (none, (put (sg0) (put (sg0) τ1 τ2) τ3))) (fun r3 τ3 =>
      (if r3 = 0 then
        some (some (some (.inl (-2))), (put (sg0) (put (sg0) τ1 τ2) τ3))
      else
        (if inb x1 6 = true then
        (if (τ1 36 x1.toNatClampNeg) < 5 then
          (k 52 [(0, .inr (.inl 0)), (1, .inl x1), (2, .inl x2), (3, .inl x3)] [.inr (.inl 0)] (put (sg0) (put (sg0) τ1 τ2) τ3))
        else
          some (some (some (.inl (-3))), (put (sg0) (put (sg0) τ1 τ2) τ3)))
        else none)))))))))) := (onI_cg (fun _ => rfl) (fun r1 τ1 => (if_cg rfl (onI_cg (fun _ => rfl) (fun r2 τ2 => (if_cg rfl (onI_cg (fun _ => rfl) (fun r3 τ3 => (if_cg rfl (if_cg (if_cg rfl rfl) rfl))))))))))
set_option maxRecDepth 20000 in
theorem e0_X6_addStep (n : Nat) (x1 x2 x3 : Int32) (σ : Mm) : sem0 t_X6_addStep cs_X6_addStep 4 n [.inr (.inl 0), .inl x1, .inl x2, .inl x3] σ =
  (onI (f_X6_isIron [.inr (.inl 0), .inl x1] σ) (fun τ1 => some (none, τ1)) (fun r1 τ1 =>
  (if r1 = 0 then
    some (some (some (.inl (-1))), τ1)
  else
    (onI (f_X6_isWithin [.inl x2, .inl 100, .inl 1400] (pk (sg0) τ1)) (fun τ2 => some (none, (put (sg0) τ1 τ2))) (fun r2 τ2 =>
    (if r2 = 0 then
      some (some (some (.inl (-2))), (put (sg0) τ1 τ2))
    else
      (onI (f_X6_isWithin [.inl x3, .inl 1, .inl 30] (pk (sg0) (put (sg0) τ1 τ2))) (fun τ3 => some (none, (put (sg0) (put (sg0) τ1 τ2) τ3))) (fun r3 τ3 =>
      (if r3 = 0 then
        some (some (some (.inl (-2))), (put (sg0) (put (sg0) τ1 τ2) τ3))
      else
        (if inb x1 6 = true then
        (if (τ1 36 x1.toNatClampNeg) < 5 then
          (rn t_X6_addStep cs_X6_addStep n 52 [(0, .inr (.inl 0)), (1, .inl x1), (2, .inl x2), (3, .inl x3)] [.inr (.inl 0)] (put (sg0) (put (sg0) τ1 τ2) τ3))
        else
          some (some (some (.inl (-3))), (put (sg0) (put (sg0) τ1 τ2) τ3)))
        else none)))))))))) := (onI_cg (fun _ => rfl) (fun r1 τ1 => (if_cg rfl (onI_cg (fun _ => rfl) (fun r2 τ2 => (if_cg rfl (onI_cg (fun _ => rfl) (fun r3 τ3 => (if_cg rfl (if_cg (if_cg rfl rfl) rfl))))))))))
theorem e_X6_addStep (x1 x2 x3 : Int32) (σ : Mm) : f_X6_addStep [.inr (.inl 0), .inl x1, .inl x2, .inl x3] σ = (onI (f_X6_isIron [.inr (.inl 0), .inl x1] σ) (fun τ1 => some (none, τ1)) (fun r1 τ1 => (if r1 = 0 then some (some (some (.inl (-1))), τ1) else (onI (f_X6_isWithin [.inl x2, .inl 100, .inl 1400] (pk (sg0) τ1)) (fun τ2 => some (none, (put (sg0) τ1 τ2))) (fun r2 τ2 => (if r2 = 0 then some (some (some (.inl (-2))), (put (sg0) τ1 τ2)) else (onI (f_X6_isWithin [.inl x3, .inl 1, .inl 30] (pk (sg0) (put (sg0) τ1 τ2))) (fun τ3 => some (none, (put (sg0) (put (sg0) τ1 τ2) τ3))) (fun r3 τ3 => (if r3 = 0 then some (some (some (.inl (-2))), (put (sg0) (put (sg0) τ1 τ2) τ3)) else (if inb x1 6 = true then (if (τ1 36 x1.toNatClampNeg) < 5 then (rn t_X6_addStep cs_X6_addStep bigM 52 [(0, .inr (.inl 0)), (1, .inl x1), (2, .inl x2), (3, .inl x3)] [.inr (.inl 0)] (put (sg0) (put (sg0) τ1 τ2) τ3)) else some (some (some (.inl (-3))), (put (sg0) (put (sg0) τ1 τ2) τ3))) else none)))))))))) := (lock_ap _ _).trans (e0_X6_addStep bigM x1 x2 x3 σ)
set_option maxRecDepth 20000 in
theorem u_X6_addStep (x1 x2 x3 : Int32) (σ : Mm) : rn t_X6_addStep cs_X6_addStep 1 55 [(0, .inr (.inl 0)), (1, .inl x1), (2, .inl x2), (3, .inl x3)] [] σ =
  (onV (f_X2_appendStep [.inr (.inl 0), .inl x1, .inl x2, .inl x3] (pk (sgC 32 11) σ)) (fun τ1 => some (none, (put (sgC 32 11) σ τ1))) (fun τ1 =>
  (if inb x1 6 = true then
  some (some (some (.inl (τ1 4 x1.toNatClampNeg))), (put (sgC 32 11) σ τ1))
  else none))) := (onV_cg (fun _ => rfl) (fun τ1 => (if_cg rfl rfl)))
noncomputable def t_X6_removeStep : Tbl := [(0, s_al 1 0),
  (1, s_il 2 1),
  (2, s_ci0 true 5 2 f_X6_isIron),
  (5, s_zeq 8 20),
  (8, s_al 9 0),
  (9, s_gf 12 layX 6 0),
  (12, s_gf 15 layX 2 5),
  (15, s_il 16 1),
  (16, s_ia 17 layX 0),
  (17, s_zne 20 22),
  (20, s_ic 21 (-1)),
  (21, s_ir),
  (22, s_al 23 0),
  (26, s_al 27 0),
  (27, s_gf 30 layX 6 0),
  (30, s_gf 33 layX 2 5),
  (33, s_il 34 1),
  (34, s_dup2 35),
  (35, s_ia 36 layX 0),
  (36, s_ic 37 1),
  (37, s_b 38 (fun x y => x - y)),
  (38, s_ix 39 layX 0),
  (39, s_al 40 0),
  (40, s_gf 43 layX 6 0),
  (43, s_gf 46 layX 2 5),
  (46, s_il 47 1),
  (47, s_ia 48 layX 0),
  (48, s_ir)]
def cs_X6_removeStep : Cs := [(23, [0, 1])]
set_option maxRecDepth 20000 in
theorem ok_X6_removeStep (l : Launch) (hl : l.stackTraces = false) : Ok l RX6 cX6_removeStep 2 7 (some .int) layX t_X6_removeStep :=
  Ok.cons (so_aload_n dX6_removeStep_0 rfl rfl) <|
  Ok.cons (so_iload_n dX6_removeStep_1 rfl rfl) <|
  Ok.cons (so_vi0 (ct_X6_isIron l hl) wq_735 wq_732 wq_734 wq_35 wq_87 (by decide +kernel) (by decide) rfl rfl dX6_removeStep_2 rfl) <|
  Ok.cons (so_zeq dX6_removeStep_5 (by decide) rfl) <|
  Ok.cons (so_aload_n dX6_removeStep_8 rfl rfl) <|
  Ok.cons (so_gf (C := RX6) (T := TX6) (N := 9) inGX6 rfl (by decide) wq_352 rfl dX6_removeStep_9 rfl) <|
  Ok.cons (so_gf (C := RX2) (T := TX2) (N := 12) inGX2 rfl (by decide) wq_143 rfl dX6_removeStep_12 rfl) <|
  Ok.cons (so_iload_n dX6_removeStep_15 rfl rfl) <|
  Ok.cons (so_ia0 dX6_removeStep_16 rfl) <|
  Ok.cons (so_zne dX6_removeStep_17 (by decide) rfl) <|
  Ok.cons (so_iconst dX6_removeStep_20 (by decide) rfl) <|
  Ok.cons (so_ir rfl dX6_removeStep_21) <|
  Ok.cons (so_aload_n dX6_removeStep_22 rfl rfl) <|
  Ok.cons (so_aload_n dX6_removeStep_26 rfl rfl) <|
  Ok.cons (so_gf (C := RX6) (T := TX6) (N := 9) inGX6 rfl (by decide) wq_352 rfl dX6_removeStep_27 rfl) <|
  Ok.cons (so_gf (C := RX2) (T := TX2) (N := 12) inGX2 rfl (by decide) wq_143 rfl dX6_removeStep_30 rfl) <|
  Ok.cons (so_iload_n dX6_removeStep_33 rfl rfl) <|
  Ok.cons (so_dup2 dX6_removeStep_34 rfl) <|
  Ok.cons (so_ia0 dX6_removeStep_35 rfl) <|
  Ok.cons (so_iconst dX6_removeStep_36 (by decide) rfl) <|
  Ok.cons (so_isub dX6_removeStep_37 rfl) <|
  Ok.cons (so_ix dX6_removeStep_38 rfl) <|
  Ok.cons (so_aload_n dX6_removeStep_39 rfl rfl) <|
  Ok.cons (so_gf (C := RX6) (T := TX6) (N := 9) inGX6 rfl (by decide) wq_352 rfl dX6_removeStep_40 rfl) <|
  Ok.cons (so_gf (C := RX2) (T := TX2) (N := 12) inGX2 rfl (by decide) wq_143 rfl dX6_removeStep_43 rfl) <|
  Ok.cons (so_iload_n dX6_removeStep_46 rfl rfl) <|
  Ok.cons (so_ia0 dX6_removeStep_47 rfl) <|
  Ok.cons (so_ir rfl dX6_removeStep_48) <| Ok.nil
noncomputable def f_X6_removeStep : List Vv → Mm → Option Ou := lock (sem t_X6_removeStep cs_X6_removeStep 2)
theorem ct_X6_removeStep (l : Launch) (hl : l.stackTraces = false) : Ct l yX6_removeStep cX6_removeStep 2 (some .int) 7 layX f_X6_removeStep := ofRunL (by decide) rfl (ok_X6_removeStep l hl)
set_option maxRecDepth 20000 in
theorem s_X6_removeStep (k : Kt) (x1 : Int32) (σ : Mm) : rl cs_X6_removeStep k t_X6_removeStep 0 [(0, .inr (.inl 0)), (1, .inl x1)] [] σ =
  (onI (f_X6_isIron [.inr (.inl 0), .inl x1] σ) (fun τ1 => some (none, τ1)) (fun r1 τ1 =>
  (if r1 = 0 then
    some (some (some (.inl (-1))), τ1)
  else
    (if inb x1 6 = true then
    (if (τ1 36 x1.toNatClampNeg) = 0 then
      some (some (some (.inl (-1))), τ1)
    else
      (k 23 [(0, .inr (.inl 0)), (1, .inl x1)] [.inr (.inl 0)] τ1))
    else none)))) := (onI_cg (fun _ => rfl) (fun r1 τ1 => (if_cg rfl (if_cg (if_cg rfl rfl) rfl))))
set_option maxRecDepth 20000 in
theorem e0_X6_removeStep (n : Nat) (x1 : Int32) (σ : Mm) : sem0 t_X6_removeStep cs_X6_removeStep 2 n [.inr (.inl 0), .inl x1] σ =
  (onI (f_X6_isIron [.inr (.inl 0), .inl x1] σ) (fun τ1 => some (none, τ1)) (fun r1 τ1 =>
  (if r1 = 0 then
    some (some (some (.inl (-1))), τ1)
  else
    (if inb x1 6 = true then
    (if (τ1 36 x1.toNatClampNeg) = 0 then
      some (some (some (.inl (-1))), τ1)
    else
      (rn t_X6_removeStep cs_X6_removeStep n 23 [(0, .inr (.inl 0)), (1, .inl x1)] [.inr (.inl 0)] τ1))
    else none)))) := (onI_cg (fun _ => rfl) (fun r1 τ1 => (if_cg rfl (if_cg (if_cg rfl rfl) rfl))))
theorem e_X6_removeStep (x1 : Int32) (σ : Mm) : f_X6_removeStep [.inr (.inl 0), .inl x1] σ = (onI (f_X6_isIron [.inr (.inl 0), .inl x1] σ) (fun τ1 => some (none, τ1)) (fun r1 τ1 => (if r1 = 0 then some (some (some (.inl (-1))), τ1) else (if inb x1 6 = true then (if (τ1 36 x1.toNatClampNeg) = 0 then some (some (some (.inl (-1))), τ1) else (rn t_X6_removeStep cs_X6_removeStep bigM 23 [(0, .inr (.inl 0)), (1, .inl x1)] [.inr (.inl 0)] τ1)) else none)))) := (lock_ap _ _).trans (e0_X6_removeStep bigM x1 σ)
set_option maxRecDepth 20000 in
theorem u_X6_removeStep (x1 : Int32) (σ : Mm) : rn t_X6_removeStep cs_X6_removeStep 1 26 [(0, .inr (.inl 0)), (1, .inl x1)] [] σ =
  (if inb x1 6 = true then
  (if inb x1 6 = true then
  (if inb x1 6 = true then
  some (some (some (.inl ((wr σ 36 x1.toNatClampNeg ((σ 36 x1.toNatClampNeg) - 1)) 36 x1.toNatClampNeg))), (wr σ 36 x1.toNatClampNeg ((σ 36 x1.toNatClampNeg) - 1)))
  else none)
  else none)
  else none) := (if_cg (if_cg (if_cg rfl rfl) rfl) rfl)
noncomputable def t_X6_undo : Tbl := [(0, s_al 1 0),
  (1, s_gf 4 layX 6 1),
  (4, s_al 5 0),
  (5, s_gf 8 layX 6 0),
  (11, s_zne 14 16),
  (14, s_ic 15 (-1)),
  (15, s_ir),
  (16, s_al 17 0),
  (17, s_cv0 true 20 1 f_X6_forgetResults),
  (20, s_al 21 0),
  (21, s_gf 24 layX 6 1),
  (24, s_gf 27 layX 1 2),
  (27, s_ir)]
def cs_X6_undo : Cs := [(8, [0])]
set_option maxRecDepth 20000 in
theorem ok_X6_undo (l : Launch) (hl : l.stackTraces = false) : Ok l RX6 cX6_undo 1 6 (some .int) layX t_X6_undo :=
  Ok.cons (so_aload_n dX6_undo_0 rfl rfl) <|
  Ok.cons (so_gf (C := RX6) (T := TX6) (N := 9) inGX6 rfl (by decide) wq_353 rfl dX6_undo_1 rfl) <|
  Ok.cons (so_aload_n dX6_undo_4 rfl rfl) <|
  Ok.cons (so_gf (C := RX6) (T := TX6) (N := 9) inGX6 rfl (by decide) wq_352 rfl dX6_undo_5 rfl) <|
  Ok.cons (so_zne dX6_undo_11 (by decide) rfl) <|
  Ok.cons (so_iconst dX6_undo_14 (by decide) rfl) <|
  Ok.cons (so_ir rfl dX6_undo_15) <|
  Ok.cons (so_aload_n dX6_undo_16 rfl rfl) <|
  Ok.cons (so_vv0 (ct_X6_forgetResults l hl) wq_505 wq_502 wq_504 wq_13 wq_87 (by decide +kernel) (by decide) rfl rfl dX6_undo_17 rfl) <|
  Ok.cons (so_aload_n dX6_undo_20 rfl rfl) <|
  Ok.cons (so_gf (C := RX6) (T := TX6) (N := 9) inGX6 rfl (by decide) wq_353 rfl dX6_undo_21 rfl) <|
  Ok.cons (so_gf (C := RX1) (T := TX1) (N := 3) inGX1 rfl (by decide) wq_201 rfl dX6_undo_24 rfl) <|
  Ok.cons (so_ir rfl dX6_undo_27) <| Ok.nil
noncomputable def f_X6_undo : List Vv → Mm → Option Ou := lock (sem t_X6_undo cs_X6_undo 1)
theorem ct_X6_undo (l : Launch) (hl : l.stackTraces = false) : Ct l yX6_undo cX6_undo 1 (some .int) 6 layX f_X6_undo := ofRunL (by decide) rfl (ok_X6_undo l hl)
set_option maxRecDepth 20000 in
theorem s_X6_undo (k : Kt) (σ : Mm) : rl cs_X6_undo k t_X6_undo 0 [(0, .inr (.inl 0))] [] σ =
  (k 8 [(0, .inr (.inl 0))] [.inr (.inl 32), .inr (.inl 1)] σ) := rfl
set_option maxRecDepth 20000 in
theorem e0_X6_undo (n : Nat) (σ : Mm) : sem0 t_X6_undo cs_X6_undo 1 n [.inr (.inl 0)] σ =
  (rn t_X6_undo cs_X6_undo n 8 [(0, .inr (.inl 0))] [.inr (.inl 32), .inr (.inl 1)] σ) := rfl
theorem e_X6_undo (σ : Mm) : f_X6_undo [.inr (.inl 0)] σ = (rn t_X6_undo cs_X6_undo bigM 8 [(0, .inr (.inl 0))] [.inr (.inl 32), .inr (.inl 1)] σ) := (lock_ap _ _).trans (e0_X6_undo bigM σ)
set_option maxRecDepth 20000 in
theorem u_X6_undo (r : Int32) (σ : Mm) : rn t_X6_undo cs_X6_undo 1 11 [(0, .inr (.inl 0))] [.inl r] σ =
  (if r = 0 then
    some (some (some (.inl (-1))), σ)
  else
    (onV (f_X6_forgetResults [.inr (.inl 0)] σ) (fun τ1 => some (none, τ1)) (fun τ1 =>
    some (some (some (.inl (τ1 1 2))), τ1)))) := (if_cg rfl (onV_cg (fun _ => rfl) (fun τ1 => rfl)))
