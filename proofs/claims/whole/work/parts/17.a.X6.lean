theorem dX6_feed_0 : decode cX6_feed 0 = .ok (.aload_n 0, 1) := by decide +kernel
theorem dX6_feed_1 : decode cX6_feed 1 = .ok (.getfield 26, 3) := by decide +kernel
theorem dX6_feed_4 : decode cX6_feed 4 = .ok (.invokevirtual 63, 3) := by decide +kernel
theorem dX6_feed_7 : decode cX6_feed 7 = .ok (.ifCond .ne 6, 3) := by decide +kernel
theorem dX6_feed_10 : decode cX6_feed 10 = .ok (.bipush (-3), 2) := by decide +kernel
theorem dX6_feed_12 : decode cX6_feed 12 = .ok (.ireturn, 1) := by decide +kernel
theorem dX6_feed_13 : decode cX6_feed 13 = .ok (.aload_n 0, 1) := by decide +kernel
theorem dX6_feed_14 : decode cX6_feed 14 = .ok (.getfield 26, 3) := by decide +kernel
theorem dX6_feed_17 : decode cX6_feed 17 = .ok (.iload_n 1, 1) := by decide +kernel
theorem dX6_feed_18 : decode cX6_feed 18 = .ok (.invokevirtual 67, 3) := by decide +kernel
theorem dX6_feed_21 : decode cX6_feed 21 = .ok (.aload_n 0, 1) := by decide +kernel
theorem dX6_feed_22 : decode cX6_feed 22 = .ok (.getfield 26, 3) := by decide +kernel
theorem dX6_feed_25 : decode cX6_feed 25 = .ok (.iload_n 2, 1) := by decide +kernel
theorem dX6_feed_26 : decode cX6_feed 26 = .ok (.invokevirtual 67, 3) := by decide +kernel
theorem dX6_feed_29 : decode cX6_feed 29 = .ok (.aload_n 0, 1) := by decide +kernel
theorem dX6_feed_30 : decode cX6_feed 30 = .ok (.getfield 26, 3) := by decide +kernel
theorem dX6_feed_33 : decode cX6_feed 33 = .ok (.iload_n 3, 1) := by decide +kernel
theorem dX6_feed_34 : decode cX6_feed 34 = .ok (.invokevirtual 67, 3) := by decide +kernel
theorem dX6_feed_37 : decode cX6_feed 37 = .ok (.aload_n 0, 1) := by decide +kernel
theorem dX6_feed_38 : decode cX6_feed 38 = .ok (.getfield 26, 3) := by decide +kernel
theorem dX6_feed_41 : decode cX6_feed 41 = .ok (.iload 4, 2) := by decide +kernel
theorem dX6_feed_43 : decode cX6_feed 43 = .ok (.invokevirtual 67, 3) := by decide +kernel
theorem dX6_feed_46 : decode cX6_feed 46 = .ok (.aload_n 0, 1) := by decide +kernel
theorem dX6_feed_47 : decode cX6_feed 47 = .ok (.getfield 26, 3) := by decide +kernel
theorem dX6_feed_50 : decode cX6_feed 50 = .ok (.iload 5, 2) := by decide +kernel
theorem dX6_feed_52 : decode cX6_feed 52 = .ok (.invokevirtual 67, 3) := by decide +kernel
theorem dX6_feed_55 : decode cX6_feed 55 = .ok (.aload_n 0, 1) := by decide +kernel
theorem dX6_feed_56 : decode cX6_feed 56 = .ok (.getfield 26, 3) := by decide +kernel
theorem dX6_feed_59 : decode cX6_feed 59 = .ok (.getfield 71, 3) := by decide +kernel
theorem dX6_feed_62 : decode cX6_feed 62 = .ok (.ireturn, 1) := by decide +kernel
theorem dX6_forgetResults_0 : decode cX6_forgetResults 0 = .ok (.aload_n 0, 1) := by decide +kernel
theorem dX6_forgetResults_1 : decode cX6_forgetResults 1 = .ok (.iconst 0, 1) := by decide +kernel
theorem dX6_forgetResults_2 : decode cX6_forgetResults 2 = .ok (.putfield 56, 3) := by decide +kernel
theorem dX6_forgetResults_5 : decode cX6_forgetResults 5 = .ok (.aload_n 0, 1) := by decide +kernel
theorem dX6_forgetResults_6 : decode cX6_forgetResults 6 = .ok (.iconst 0, 1) := by decide +kernel
theorem dX6_forgetResults_7 : decode cX6_forgetResults 7 = .ok (.putfield 60, 3) := by decide +kernel
theorem dX6_forgetResults_10 : decode cX6_forgetResults 10 = .ok (.return_, 1) := by decide +kernel
theorem dX6_load_0 : decode cX6_load 0 = .ok (.iload_n 1, 1) := by decide +kernel
theorem dX6_load_1 : decode cX6_load 1 = .ok (.iconst 0, 1) := by decide +kernel
theorem dX6_load_2 : decode cX6_load 2 = .ok (.aload_n 0, 1) := by decide +kernel
theorem dX6_load_3 : decode cX6_load 3 = .ok (.getfield 26, 3) := by decide +kernel
theorem dX6_load_6 : decode cX6_load 6 = .ok (.getfield 71, 3) := by decide +kernel
theorem dX6_load_9 : decode cX6_load 9 = .ok (.invokestatic 75, 3) := by decide +kernel
theorem dX6_load_12 : decode cX6_load 12 = .ok (.ifCond .ne 6, 3) := by decide +kernel
theorem dX6_load_15 : decode cX6_load 15 = .ok (.bipush (-2), 2) := by decide +kernel
theorem dX6_load_17 : decode cX6_load 17 = .ok (.ireturn, 1) := by decide +kernel
theorem dX6_load_18 : decode cX6_load 18 = .ok (.aload_n 0, 1) := by decide +kernel
theorem dX6_load_19 : decode cX6_load 19 = .ok (.getfield 26, 3) := by decide +kernel
theorem dX6_load_22 : decode cX6_load 22 = .ok (.iload_n 1, 1) := by decide +kernel
theorem dX6_load_23 : decode cX6_load 23 = .ok (.invokevirtual 79, 3) := by decide +kernel
theorem dX6_load_26 : decode cX6_load 26 = .ok (.istore_n 2, 1) := by decide +kernel
theorem dX6_load_27 : decode cX6_load 27 = .ok (.iload_n 2, 1) := by decide +kernel
theorem dX6_load_28 : decode cX6_load 28 = .ok (.ifCond .lt 28, 3) := by decide +kernel
theorem dX6_load_31 : decode cX6_load 31 = .ok (.aload_n 0, 1) := by decide +kernel
theorem dX6_load_32 : decode cX6_load 32 = .ok (.getfield 10, 3) := by decide +kernel
theorem dX6_load_35 : decode cX6_load 35 = .ok (.aload_n 0, 1) := by decide +kernel
theorem dX6_load_36 : decode cX6_load 36 = .ok (.getfield 26, 3) := by decide +kernel
theorem dX6_load_39 : decode cX6_load 39 = .ok (.getfield 83, 3) := by decide +kernel
theorem dX6_load_42 : decode cX6_load 42 = .ok (.invokevirtual 86, 3) := by decide +kernel
theorem dX6_load_45 : decode cX6_load 45 = .ok (.aload_n 0, 1) := by decide +kernel
theorem dX6_load_46 : decode cX6_load 46 = .ok (.getfield 19, 3) := by decide +kernel
theorem dX6_load_49 : decode cX6_load 49 = .ok (.invokevirtual 89, 3) := by decide +kernel
theorem dX6_load_52 : decode cX6_load 52 = .ok (.aload_n 0, 1) := by decide +kernel
theorem dX6_load_53 : decode cX6_load 53 = .ok (.invokevirtual 92, 3) := by decide +kernel
theorem dX6_load_56 : decode cX6_load 56 = .ok (.iload_n 2, 1) := by decide +kernel
theorem dX6_load_57 : decode cX6_load 57 = .ok (.ireturn, 1) := by decide +kernel
theorem dX6_errorPosition_0 : decode cX6_errorPosition 0 = .ok (.aload_n 0, 1) := by decide +kernel
theorem dX6_errorPosition_1 : decode cX6_errorPosition 1 = .ok (.getfield 26, 3) := by decide +kernel
theorem dX6_errorPosition_4 : decode cX6_errorPosition 4 = .ok (.getfield 95, 3) := by decide +kernel
theorem dX6_errorPosition_7 : decode cX6_errorPosition 7 = .ok (.ireturn, 1) := by decide +kernel
theorem dX6_ironCount_0 : decode cX6_ironCount 0 = .ok (.aload_n 0, 1) := by decide +kernel
theorem dX6_ironCount_1 : decode cX6_ironCount 1 = .ok (.getfield 10, 3) := by decide +kernel
theorem dX6_ironCount_4 : decode cX6_ironCount 4 = .ok (.getfield 98, 3) := by decide +kernel
theorem dX6_ironCount_7 : decode cX6_ironCount 7 = .ok (.ireturn, 1) := by decide +kernel
theorem dX6_placeCount_0 : decode cX6_placeCount 0 = .ok (.aload_n 0, 1) := by decide +kernel
theorem dX6_placeCount_1 : decode cX6_placeCount 1 = .ok (.getfield 10, 3) := by decide +kernel
theorem dX6_placeCount_4 : decode cX6_placeCount 4 = .ok (.getfield 101, 3) := by decide +kernel
theorem dX6_placeCount_7 : decode cX6_placeCount 7 = .ok (.ireturn, 1) := by decide +kernel
theorem dX6_undoCount_0 : decode cX6_undoCount 0 = .ok (.aload_n 0, 1) := by decide +kernel
theorem dX6_undoCount_1 : decode cX6_undoCount 1 = .ok (.getfield 19, 3) := by decide +kernel
theorem dX6_undoCount_4 : decode cX6_undoCount 4 = .ok (.getfield 104, 3) := by decide +kernel
theorem dX6_undoCount_7 : decode cX6_undoCount 7 = .ok (.ireturn, 1) := by decide +kernel
theorem dX6_ironNamed_0 : decode cX6_ironNamed 0 = .ok (.aload_n 0, 1) := by decide +kernel
theorem dX6_ironNamed_1 : decode cX6_ironNamed 1 = .ok (.getfield 10, 3) := by decide +kernel
theorem dX6_ironNamed_4 : decode cX6_ironNamed 4 = .ok (.iload_n 1, 1) := by decide +kernel
theorem dX6_ironNamed_5 : decode cX6_ironNamed 5 = .ok (.invokevirtual 107, 3) := by decide +kernel
theorem dX6_ironNamed_8 : decode cX6_ironNamed 8 = .ok (.ireturn, 1) := by decide +kernel
theorem dX6_isIron_0 : decode cX6_isIron 0 = .ok (.iload_n 1, 1) := by decide +kernel
theorem dX6_isIron_1 : decode cX6_isIron 1 = .ok (.iconst 0, 1) := by decide +kernel
theorem dX6_isIron_2 : decode cX6_isIron 2 = .ok (.aload_n 0, 1) := by decide +kernel
theorem dX6_isIron_3 : decode cX6_isIron 3 = .ok (.getfield 10, 3) := by decide +kernel
theorem dX6_isIron_6 : decode cX6_isIron 6 = .ok (.getfield 98, 3) := by decide +kernel
theorem dX6_isIron_9 : decode cX6_isIron 9 = .ok (.iconst 1, 1) := by decide +kernel
theorem dX6_isIron_10 : decode cX6_isIron 10 = .ok (.isub, 1) := by decide +kernel
theorem dX6_isIron_11 : decode cX6_isIron 11 = .ok (.invokestatic 75, 3) := by decide +kernel
theorem dX6_isIron_14 : decode cX6_isIron 14 = .ok (.ireturn, 1) := by decide +kernel
theorem dX6_requireIron_0 : decode cX6_requireIron 0 = .ok (.aload_n 0, 1) := by decide +kernel
theorem dX6_requireIron_1 : decode cX6_requireIron 1 = .ok (.iload_n 1, 1) := by decide +kernel
theorem dX6_requireIron_2 : decode cX6_requireIron 2 = .ok (.invokevirtual 239, 3) := by decide +kernel
theorem dX6_requireIron_5 : decode cX6_requireIron 5 = .ok (.ifCond .ne 14, 3) := by decide +kernel
theorem dX6_requireIron_8 : decode cX6_requireIron 8 = .ok (.new 283, 3) := by decide +kernel
theorem dX6_requireIron_11 : decode cX6_requireIron 11 = .ok (.dup, 1) := by decide +kernel
theorem dX6_requireIron_12 : decode cX6_requireIron 12 = .ok (.ldc_w 285, 3) := by decide +kernel
theorem dX6_requireIron_15 : decode cX6_requireIron 15 = .ok (.invokespecial 287, 3) := by decide +kernel
theorem dX6_requireIron_18 : decode cX6_requireIron 18 = .ok (.athrow, 1) := by decide +kernel
theorem dX6_requireIron_19 : decode cX6_requireIron 19 = .ok (.return_, 1) := by decide +kernel
theorem dX6_mass_0 : decode cX6_mass 0 = .ok (.aload_n 0, 1) := by decide +kernel
theorem dX6_mass_1 : decode cX6_mass 1 = .ok (.iload_n 1, 1) := by decide +kernel
theorem dX6_mass_2 : decode cX6_mass 2 = .ok (.invokevirtual 110, 3) := by decide +kernel
theorem dX6_mass_5 : decode cX6_mass 5 = .ok (.aload_n 0, 1) := by decide +kernel
theorem dX6_mass_6 : decode cX6_mass 6 = .ok (.getfield 10, 3) := by decide +kernel
theorem dX6_mass_9 : decode cX6_mass 9 = .ok (.getfield 113, 3) := by decide +kernel
theorem dX6_mass_12 : decode cX6_mass 12 = .ok (.iload_n 1, 1) := by decide +kernel
theorem dX6_mass_13 : decode cX6_mass 13 = .ok (.iaload, 1) := by decide +kernel
theorem dX6_mass_14 : decode cX6_mass 14 = .ok (.ireturn, 1) := by decide +kernel
theorem dX6_cooling_0 : decode cX6_cooling 0 = .ok (.aload_n 0, 1) := by decide +kernel
theorem dX6_cooling_1 : decode cX6_cooling 1 = .ok (.iload_n 1, 1) := by decide +kernel
theorem dX6_cooling_2 : decode cX6_cooling 2 = .ok (.invokevirtual 110, 3) := by decide +kernel
theorem dX6_cooling_5 : decode cX6_cooling 5 = .ok (.aload_n 0, 1) := by decide +kernel
theorem dX6_cooling_6 : decode cX6_cooling 6 = .ok (.getfield 10, 3) := by decide +kernel
theorem dX6_cooling_9 : decode cX6_cooling 9 = .ok (.getfield 117, 3) := by decide +kernel
theorem dX6_cooling_12 : decode cX6_cooling 12 = .ok (.iload_n 1, 1) := by decide +kernel
theorem dX6_cooling_13 : decode cX6_cooling 13 = .ok (.iaload, 1) := by decide +kernel
theorem dX6_cooling_14 : decode cX6_cooling 14 = .ok (.ireturn, 1) := by decide +kernel
theorem dX6_stepCount_0 : decode cX6_stepCount 0 = .ok (.aload_n 0, 1) := by decide +kernel
theorem dX6_stepCount_1 : decode cX6_stepCount 1 = .ok (.iload_n 1, 1) := by decide +kernel
theorem dX6_stepCount_2 : decode cX6_stepCount 2 = .ok (.invokevirtual 110, 3) := by decide +kernel
theorem dX6_stepCount_5 : decode cX6_stepCount 5 = .ok (.aload_n 0, 1) := by decide +kernel
theorem dX6_stepCount_6 : decode cX6_stepCount 6 = .ok (.getfield 10, 3) := by decide +kernel
theorem dX6_stepCount_9 : decode cX6_stepCount 9 = .ok (.getfield 120, 3) := by decide +kernel
theorem dX6_stepCount_12 : decode cX6_stepCount 12 = .ok (.iload_n 1, 1) := by decide +kernel
theorem dX6_stepCount_13 : decode cX6_stepCount 13 = .ok (.iaload, 1) := by decide +kernel
theorem dX6_stepCount_14 : decode cX6_stepCount 14 = .ok (.ireturn, 1) := by decide +kernel
theorem dX6_requireStep_0 : decode cX6_requireStep 0 = .ok (.aload_n 0, 1) := by decide +kernel
theorem dX6_requireStep_1 : decode cX6_requireStep 1 = .ok (.iload_n 1, 1) := by decide +kernel
theorem dX6_requireStep_2 : decode cX6_requireStep 2 = .ok (.invokevirtual 110, 3) := by decide +kernel
theorem dX6_requireStep_5 : decode cX6_requireStep 5 = .ok (.iload_n 2, 1) := by decide +kernel
theorem dX6_requireStep_6 : decode cX6_requireStep 6 = .ok (.iconst 0, 1) := by decide +kernel
theorem dX6_requireStep_7 : decode cX6_requireStep 7 = .ok (.aload_n 0, 1) := by decide +kernel
theorem dX6_requireStep_8 : decode cX6_requireStep 8 = .ok (.getfield 10, 3) := by decide +kernel
theorem dX6_requireStep_11 : decode cX6_requireStep 11 = .ok (.getfield 120, 3) := by decide +kernel
theorem dX6_requireStep_14 : decode cX6_requireStep 14 = .ok (.iload_n 1, 1) := by decide +kernel
theorem dX6_requireStep_15 : decode cX6_requireStep 15 = .ok (.iaload, 1) := by decide +kernel
theorem dX6_requireStep_16 : decode cX6_requireStep 16 = .ok (.iconst 1, 1) := by decide +kernel
theorem dX6_requireStep_17 : decode cX6_requireStep 17 = .ok (.isub, 1) := by decide +kernel
theorem dX6_requireStep_18 : decode cX6_requireStep 18 = .ok (.invokestatic 75, 3) := by decide +kernel
theorem dX6_requireStep_21 : decode cX6_requireStep 21 = .ok (.ifCond .ne 14, 3) := by decide +kernel
theorem dX6_requireStep_24 : decode cX6_requireStep 24 = .ok (.new 283, 3) := by decide +kernel
theorem dX6_requireStep_27 : decode cX6_requireStep 27 = .ok (.dup, 1) := by decide +kernel
theorem dX6_requireStep_28 : decode cX6_requireStep 28 = .ok (.ldc_w 290, 3) := by decide +kernel
theorem dX6_requireStep_31 : decode cX6_requireStep 31 = .ok (.invokespecial 287, 3) := by decide +kernel
theorem dX6_requireStep_34 : decode cX6_requireStep 34 = .ok (.athrow, 1) := by decide +kernel
theorem dX6_requireStep_35 : decode cX6_requireStep 35 = .ok (.return_, 1) := by decide +kernel
theorem dX6_stepHeat_0 : decode cX6_stepHeat 0 = .ok (.aload_n 0, 1) := by decide +kernel
theorem dX6_stepHeat_1 : decode cX6_stepHeat 1 = .ok (.iload_n 1, 1) := by decide +kernel
theorem dX6_stepHeat_2 : decode cX6_stepHeat 2 = .ok (.iload_n 2, 1) := by decide +kernel
theorem dX6_stepHeat_3 : decode cX6_stepHeat 3 = .ok (.invokevirtual 123, 3) := by decide +kernel
theorem dX6_stepHeat_6 : decode cX6_stepHeat 6 = .ok (.aload_n 0, 1) := by decide +kernel
theorem dX6_stepHeat_7 : decode cX6_stepHeat 7 = .ok (.getfield 10, 3) := by decide +kernel
theorem dX6_stepHeat_10 : decode cX6_stepHeat 10 = .ok (.iload_n 1, 1) := by decide +kernel
theorem dX6_stepHeat_11 : decode cX6_stepHeat 11 = .ok (.iload_n 2, 1) := by decide +kernel
theorem dX6_stepHeat_12 : decode cX6_stepHeat 12 = .ok (.invokevirtual 127, 3) := by decide +kernel
theorem dX6_stepHeat_15 : decode cX6_stepHeat 15 = .ok (.ireturn, 1) := by decide +kernel
theorem dX6_stepMinutes_0 : decode cX6_stepMinutes 0 = .ok (.aload_n 0, 1) := by decide +kernel
theorem dX6_stepMinutes_1 : decode cX6_stepMinutes 1 = .ok (.iload_n 1, 1) := by decide +kernel
theorem dX6_stepMinutes_2 : decode cX6_stepMinutes 2 = .ok (.iload_n 2, 1) := by decide +kernel
theorem dX6_stepMinutes_3 : decode cX6_stepMinutes 3 = .ok (.invokevirtual 123, 3) := by decide +kernel
theorem dX6_stepMinutes_6 : decode cX6_stepMinutes 6 = .ok (.aload_n 0, 1) := by decide +kernel
theorem dX6_stepMinutes_7 : decode cX6_stepMinutes 7 = .ok (.getfield 10, 3) := by decide +kernel
theorem dX6_stepMinutes_10 : decode cX6_stepMinutes 10 = .ok (.iload_n 1, 1) := by decide +kernel
theorem dX6_stepMinutes_11 : decode cX6_stepMinutes 11 = .ok (.iload_n 2, 1) := by decide +kernel
theorem dX6_stepMinutes_12 : decode cX6_stepMinutes 12 = .ok (.invokevirtual 131, 3) := by decide +kernel
theorem dX6_stepMinutes_15 : decode cX6_stepMinutes 15 = .ok (.ireturn, 1) := by decide +kernel
theorem dX6_isPlace_0 : decode cX6_isPlace 0 = .ok (.iload_n 1, 1) := by decide +kernel
theorem dX6_isPlace_1 : decode cX6_isPlace 1 = .ok (.iconst 0, 1) := by decide +kernel
theorem dX6_isPlace_2 : decode cX6_isPlace 2 = .ok (.aload_n 0, 1) := by decide +kernel
theorem dX6_isPlace_3 : decode cX6_isPlace 3 = .ok (.getfield 10, 3) := by decide +kernel
theorem dX6_isPlace_6 : decode cX6_isPlace 6 = .ok (.getfield 101, 3) := by decide +kernel
theorem dX6_isPlace_9 : decode cX6_isPlace 9 = .ok (.iconst 1, 1) := by decide +kernel
theorem dX6_isPlace_10 : decode cX6_isPlace 10 = .ok (.isub, 1) := by decide +kernel
theorem dX6_isPlace_11 : decode cX6_isPlace 11 = .ok (.invokestatic 75, 3) := by decide +kernel
theorem dX6_isPlace_14 : decode cX6_isPlace 14 = .ok (.ireturn, 1) := by decide +kernel
theorem dX6_requirePlace_0 : decode cX6_requirePlace 0 = .ok (.aload_n 0, 1) := by decide +kernel
theorem dX6_requirePlace_1 : decode cX6_requirePlace 1 = .ok (.iload_n 1, 1) := by decide +kernel
theorem dX6_requirePlace_2 : decode cX6_requirePlace 2 = .ok (.invokevirtual 248, 3) := by decide +kernel
theorem dX6_requirePlace_5 : decode cX6_requirePlace 5 = .ok (.ifCond .ne 14, 3) := by decide +kernel
theorem dX6_requirePlace_8 : decode cX6_requirePlace 8 = .ok (.new 283, 3) := by decide +kernel
theorem dX6_requirePlace_11 : decode cX6_requirePlace 11 = .ok (.dup, 1) := by decide +kernel
theorem dX6_requirePlace_12 : decode cX6_requirePlace 12 = .ok (.ldc_w 292, 3) := by decide +kernel
theorem dX6_requirePlace_15 : decode cX6_requirePlace 15 = .ok (.invokespecial 287, 3) := by decide +kernel
theorem dX6_requirePlace_18 : decode cX6_requirePlace 18 = .ok (.athrow, 1) := by decide +kernel
theorem dX6_requirePlace_19 : decode cX6_requirePlace 19 = .ok (.return_, 1) := by decide +kernel
theorem dX6_placeRate_0 : decode cX6_placeRate 0 = .ok (.aload_n 0, 1) := by decide +kernel
theorem dX6_placeRate_1 : decode cX6_placeRate 1 = .ok (.iload_n 1, 1) := by decide +kernel
theorem dX6_placeRate_2 : decode cX6_placeRate 2 = .ok (.invokevirtual 134, 3) := by decide +kernel
theorem dX6_placeRate_5 : decode cX6_placeRate 5 = .ok (.aload_n 0, 1) := by decide +kernel
theorem dX6_placeRate_6 : decode cX6_placeRate 6 = .ok (.getfield 10, 3) := by decide +kernel
theorem dX6_placeRate_9 : decode cX6_placeRate 9 = .ok (.getfield 137, 3) := by decide +kernel
theorem dX6_placeRate_12 : decode cX6_placeRate 12 = .ok (.iload_n 1, 1) := by decide +kernel
theorem dX6_placeRate_13 : decode cX6_placeRate 13 = .ok (.iaload, 1) := by decide +kernel
theorem dX6_placeRate_14 : decode cX6_placeRate 14 = .ok (.ireturn, 1) := by decide +kernel
theorem dX6_placeLimit_0 : decode cX6_placeLimit 0 = .ok (.aload_n 0, 1) := by decide +kernel
theorem dX6_placeLimit_1 : decode cX6_placeLimit 1 = .ok (.iload_n 1, 1) := by decide +kernel
theorem dX6_placeLimit_2 : decode cX6_placeLimit 2 = .ok (.invokevirtual 134, 3) := by decide +kernel
theorem dX6_placeLimit_5 : decode cX6_placeLimit 5 = .ok (.aload_n 0, 1) := by decide +kernel
theorem dX6_placeLimit_6 : decode cX6_placeLimit 6 = .ok (.getfield 10, 3) := by decide +kernel
theorem dX6_placeLimit_9 : decode cX6_placeLimit 9 = .ok (.getfield 140, 3) := by decide +kernel
theorem dX6_placeLimit_12 : decode cX6_placeLimit 12 = .ok (.iload_n 1, 1) := by decide +kernel
theorem dX6_placeLimit_13 : decode cX6_placeLimit 13 = .ok (.iaload, 1) := by decide +kernel
theorem dX6_placeLimit_14 : decode cX6_placeLimit 14 = .ok (.ireturn, 1) := by decide +kernel
theorem dX6_getSetting_0 : decode cX6_getSetting 0 = .ok (.iload_n 1, 1) := by decide +kernel
theorem dX6_getSetting_1 : decode cX6_getSetting 1 = .ok (.invokestatic 143, 3) := by decide +kernel
theorem dX6_getSetting_4 : decode cX6_getSetting 4 = .ok (.ifCond .eq 15, 3) := by decide +kernel
theorem dX6_getSetting_7 : decode cX6_getSetting 7 = .ok (.aload_n 0, 1) := by decide +kernel
theorem dX6_getSetting_8 : decode cX6_getSetting 8 = .ok (.getfield 10, 3) := by decide +kernel
theorem dX6_getSetting_11 : decode cX6_getSetting 11 = .ok (.getfield 147, 3) := by decide +kernel
theorem dX6_getSetting_14 : decode cX6_getSetting 14 = .ok (.iload_n 1, 1) := by decide +kernel
theorem dX6_getSetting_15 : decode cX6_getSetting 15 = .ok (.iaload, 1) := by decide +kernel
theorem dX6_getSetting_16 : decode cX6_getSetting 16 = .ok (.goto 5, 3) := by decide +kernel
theorem dX6_getSetting_19 : decode cX6_getSetting 19 = .ok (.bipush (-2), 2) := by decide +kernel
theorem dX6_getSetting_21 : decode cX6_getSetting 21 = .ok (.ireturn, 1) := by decide +kernel
theorem dX6_ironAt_0 : decode cX6_ironAt 0 = .ok (.aload_n 0, 1) := by decide +kernel
theorem dX6_ironAt_1 : decode cX6_ironAt 1 = .ok (.iload_n 1, 1) := by decide +kernel
theorem dX6_ironAt_2 : decode cX6_ironAt 2 = .ok (.invokevirtual 110, 3) := by decide +kernel
theorem dX6_ironAt_5 : decode cX6_ironAt 5 = .ok (.aload_n 0, 1) := by decide +kernel
theorem dX6_ironAt_6 : decode cX6_ironAt 6 = .ok (.getfield 10, 3) := by decide +kernel
theorem dX6_ironAt_9 : decode cX6_ironAt 9 = .ok (.getfield 150, 3) := by decide +kernel
theorem dX6_ironAt_12 : decode cX6_ironAt 12 = .ok (.iload_n 1, 1) := by decide +kernel
theorem dX6_ironAt_13 : decode cX6_ironAt 13 = .ok (.iaload, 1) := by decide +kernel
theorem dX6_ironAt_14 : decode cX6_ironAt 14 = .ok (.ireturn, 1) := by decide +kernel
theorem dX6_positionOf_0 : decode cX6_positionOf 0 = .ok (.aload_n 0, 1) := by decide +kernel
theorem dX6_positionOf_1 : decode cX6_positionOf 1 = .ok (.iload_n 1, 1) := by decide +kernel
theorem dX6_positionOf_2 : decode cX6_positionOf 2 = .ok (.invokevirtual 110, 3) := by decide +kernel
theorem dX6_positionOf_5 : decode cX6_positionOf 5 = .ok (.aload_n 0, 1) := by decide +kernel
theorem dX6_positionOf_6 : decode cX6_positionOf 6 = .ok (.getfield 10, 3) := by decide +kernel
theorem dX6_positionOf_9 : decode cX6_positionOf 9 = .ok (.iload_n 1, 1) := by decide +kernel
theorem dX6_positionOf_10 : decode cX6_positionOf 10 = .ok (.invokevirtual 153, 3) := by decide +kernel
theorem dX6_positionOf_13 : decode cX6_positionOf 13 = .ok (.ireturn, 1) := by decide +kernel
theorem dX6_presentLog_0 : decode cX6_presentLog 0 = .ok (.aload_n 0, 1) := by decide +kernel
theorem dX6_presentLog_1 : decode cX6_presentLog 1 = .ok (.getfield 56, 3) := by decide +kernel
theorem dX6_presentLog_4 : decode cX6_presentLog 4 = .ok (.ifCond .ne 15, 3) := by decide +kernel
theorem dX6_presentLog_7 : decode cX6_presentLog 7 = .ok (.aload_n 0, 1) := by decide +kernel
theorem dX6_presentLog_8 : decode cX6_presentLog 8 = .ok (.getfield 35, 3) := by decide +kernel
theorem dX6_presentLog_11 : decode cX6_presentLog 11 = .ok (.invokevirtual 299, 3) := by decide +kernel
theorem dX6_presentLog_14 : decode cX6_presentLog 14 = .ok (.aload_n 0, 1) := by decide +kernel
theorem dX6_presentLog_15 : decode cX6_presentLog 15 = .ok (.iconst 1, 1) := by decide +kernel
theorem dX6_presentLog_16 : decode cX6_presentLog 16 = .ok (.putfield 56, 3) := by decide +kernel
theorem dX6_presentLog_19 : decode cX6_presentLog 19 = .ok (.aload_n 0, 1) := by decide +kernel
theorem dX6_presentLog_20 : decode cX6_presentLog 20 = .ok (.getfield 35, 3) := by decide +kernel
theorem dX6_presentLog_23 : decode cX6_presentLog 23 = .ok (.areturn, 1) := by decide +kernel
theorem dX6_finish_0 : decode cX6_finish 0 = .ok (.aload_n 0, 1) := by decide +kernel
theorem dX6_finish_1 : decode cX6_finish 1 = .ok (.invokevirtual 156, 3) := by decide +kernel
theorem dX6_finish_4 : decode cX6_finish 4 = .ok (.getfield 160, 3) := by decide +kernel
theorem dX6_finish_7 : decode cX6_finish 7 = .ok (.invokevirtual 163, 3) := by decide +kernel
theorem dX6_finish_10 : decode cX6_finish 10 = .ok (.ireturn, 1) := by decide +kernel
theorem dX6_finishOf_0 : decode cX6_finishOf 0 = .ok (.aload_n 0, 1) := by decide +kernel
theorem dX6_finishOf_1 : decode cX6_finishOf 1 = .ok (.iload_n 1, 1) := by decide +kernel
theorem dX6_finishOf_2 : decode cX6_finishOf 2 = .ok (.invokevirtual 110, 3) := by decide +kernel
theorem dX6_finishOf_5 : decode cX6_finishOf 5 = .ok (.aload_n 0, 1) := by decide +kernel
theorem dX6_finishOf_6 : decode cX6_finishOf 6 = .ok (.invokevirtual 156, 3) := by decide +kernel
theorem dX6_finishOf_9 : decode cX6_finishOf 9 = .ok (.getfield 160, 3) := by decide +kernel
theorem dX6_finishOf_12 : decode cX6_finishOf 12 = .ok (.getfield 167, 3) := by decide +kernel
theorem dX6_finishOf_15 : decode cX6_finishOf 15 = .ok (.iload_n 1, 1) := by decide +kernel
theorem dX6_finishOf_16 : decode cX6_finishOf 16 = .ok (.iaload, 1) := by decide +kernel
theorem dX6_finishOf_17 : decode cX6_finishOf 17 = .ok (.ireturn, 1) := by decide +kernel
theorem dX6_heatAfter_0 : decode cX6_heatAfter 0 = .ok (.aload_n 0, 1) := by decide +kernel
theorem dX6_heatAfter_1 : decode cX6_heatAfter 1 = .ok (.iload_n 1, 1) := by decide +kernel
theorem dX6_heatAfter_2 : decode cX6_heatAfter 2 = .ok (.invokevirtual 110, 3) := by decide +kernel
theorem dX6_heatAfter_5 : decode cX6_heatAfter 5 = .ok (.iload_n 2, 1) := by decide +kernel
theorem dX6_heatAfter_6 : decode cX6_heatAfter 6 = .ok (.iconst 0, 1) := by decide +kernel
theorem dX6_heatAfter_7 : decode cX6_heatAfter 7 = .ok (.sipush 480, 3) := by decide +kernel
theorem dX6_heatAfter_10 : decode cX6_heatAfter 10 = .ok (.invokestatic 75, 3) := by decide +kernel
theorem dX6_heatAfter_13 : decode cX6_heatAfter 13 = .ok (.ifCond .eq 15, 3) := by decide +kernel
theorem dX6_heatAfter_16 : decode cX6_heatAfter 16 = .ok (.aload_n 0, 1) := by decide +kernel
theorem dX6_heatAfter_17 : decode cX6_heatAfter 17 = .ok (.invokevirtual 156, 3) := by decide +kernel
theorem dX6_heatAfter_20 : decode cX6_heatAfter 20 = .ok (.iload_n 1, 1) := by decide +kernel
theorem dX6_heatAfter_21 : decode cX6_heatAfter 21 = .ok (.iload_n 2, 1) := by decide +kernel
theorem dX6_heatAfter_22 : decode cX6_heatAfter 22 = .ok (.invokevirtual 170, 3) := by decide +kernel
theorem dX6_heatAfter_25 : decode cX6_heatAfter 25 = .ok (.goto 5, 3) := by decide +kernel
theorem dX6_heatAfter_28 : decode cX6_heatAfter 28 = .ok (.bipush (-2), 2) := by decide +kernel
theorem dX6_heatAfter_30 : decode cX6_heatAfter 30 = .ok (.ireturn, 1) := by decide +kernel
theorem dX6_whereIn_0 : decode cX6_whereIn 0 = .ok (.aload_n 0, 1) := by decide +kernel
theorem dX6_whereIn_1 : decode cX6_whereIn 1 = .ok (.iload_n 1, 1) := by decide +kernel
theorem dX6_whereIn_2 : decode cX6_whereIn 2 = .ok (.invokevirtual 110, 3) := by decide +kernel
theorem dX6_whereIn_5 : decode cX6_whereIn 5 = .ok (.iload_n 2, 1) := by decide +kernel
theorem dX6_whereIn_6 : decode cX6_whereIn 6 = .ok (.invokestatic 173, 3) := by decide +kernel
theorem dX6_whereIn_9 : decode cX6_whereIn 9 = .ok (.ifCond .eq 15, 3) := by decide +kernel
theorem dX6_whereIn_12 : decode cX6_whereIn 12 = .ok (.aload_n 0, 1) := by decide +kernel
theorem dX6_whereIn_13 : decode cX6_whereIn 13 = .ok (.invokevirtual 156, 3) := by decide +kernel
theorem dX6_whereIn_16 : decode cX6_whereIn 16 = .ok (.iload_n 1, 1) := by decide +kernel
theorem dX6_whereIn_17 : decode cX6_whereIn 17 = .ok (.iload_n 2, 1) := by decide +kernel
theorem dX6_whereIn_18 : decode cX6_whereIn 18 = .ok (.invokevirtual 176, 3) := by decide +kernel
theorem dX6_whereIn_21 : decode cX6_whereIn 21 = .ok (.goto 5, 3) := by decide +kernel
theorem dX6_whereIn_24 : decode cX6_whereIn 24 = .ok (.bipush (-2), 2) := by decide +kernel
theorem dX6_whereIn_26 : decode cX6_whereIn 26 = .ok (.ireturn, 1) := by decide +kernel
theorem dX6_stepsAfter_0 : decode cX6_stepsAfter 0 = .ok (.aload_n 0, 1) := by decide +kernel
theorem dX6_stepsAfter_1 : decode cX6_stepsAfter 1 = .ok (.iload_n 1, 1) := by decide +kernel
theorem dX6_stepsAfter_2 : decode cX6_stepsAfter 2 = .ok (.invokevirtual 110, 3) := by decide +kernel
theorem dX6_stepsAfter_5 : decode cX6_stepsAfter 5 = .ok (.iload_n 2, 1) := by decide +kernel
theorem dX6_stepsAfter_6 : decode cX6_stepsAfter 6 = .ok (.iconst 0, 1) := by decide +kernel
theorem dX6_stepsAfter_7 : decode cX6_stepsAfter 7 = .ok (.sipush 480, 3) := by decide +kernel
theorem dX6_stepsAfter_10 : decode cX6_stepsAfter 10 = .ok (.invokestatic 75, 3) := by decide +kernel
theorem dX6_stepsAfter_13 : decode cX6_stepsAfter 13 = .ok (.ifCond .eq 15, 3) := by decide +kernel
theorem dX6_stepsAfter_16 : decode cX6_stepsAfter 16 = .ok (.aload_n 0, 1) := by decide +kernel
theorem dX6_stepsAfter_17 : decode cX6_stepsAfter 17 = .ok (.invokevirtual 156, 3) := by decide +kernel
theorem dX6_stepsAfter_20 : decode cX6_stepsAfter 20 = .ok (.iload_n 1, 1) := by decide +kernel
theorem dX6_stepsAfter_21 : decode cX6_stepsAfter 21 = .ok (.iload_n 2, 1) := by decide +kernel
theorem dX6_stepsAfter_22 : decode cX6_stepsAfter 22 = .ok (.invokevirtual 179, 3) := by decide +kernel
theorem dX6_stepsAfter_25 : decode cX6_stepsAfter 25 = .ok (.goto 5, 3) := by decide +kernel
theorem dX6_stepsAfter_28 : decode cX6_stepsAfter 28 = .ok (.bipush (-2), 2) := by decide +kernel
theorem dX6_stepsAfter_30 : decode cX6_stepsAfter 30 = .ok (.ireturn, 1) := by decide +kernel
theorem dX6_coldStops_0 : decode cX6_coldStops 0 = .ok (.aload_n 0, 1) := by decide +kernel
theorem dX6_coldStops_1 : decode cX6_coldStops 1 = .ok (.iload_n 1, 1) := by decide +kernel
theorem dX6_coldStops_2 : decode cX6_coldStops 2 = .ok (.invokevirtual 110, 3) := by decide +kernel
theorem dX6_coldStops_5 : decode cX6_coldStops 5 = .ok (.aload_n 0, 1) := by decide +kernel
theorem dX6_coldStops_6 : decode cX6_coldStops 6 = .ok (.invokevirtual 156, 3) := by decide +kernel
theorem dX6_coldStops_9 : decode cX6_coldStops 9 = .ok (.getfield 160, 3) := by decide +kernel
theorem dX6_coldStops_12 : decode cX6_coldStops 12 = .ok (.getfield 182, 3) := by decide +kernel
theorem dX6_coldStops_15 : decode cX6_coldStops 15 = .ok (.iload_n 1, 1) := by decide +kernel
theorem dX6_coldStops_16 : decode cX6_coldStops 16 = .ok (.iaload, 1) := by decide +kernel
theorem dX6_coldStops_17 : decode cX6_coldStops 17 = .ok (.ireturn, 1) := by decide +kernel
theorem dX6_heats_0 : decode cX6_heats 0 = .ok (.aload_n 0, 1) := by decide +kernel
theorem dX6_heats_1 : decode cX6_heats 1 = .ok (.iload_n 1, 1) := by decide +kernel
theorem dX6_heats_2 : decode cX6_heats 2 = .ok (.invokevirtual 110, 3) := by decide +kernel
theorem dX6_heats_5 : decode cX6_heats 5 = .ok (.aload_n 0, 1) := by decide +kernel
theorem dX6_heats_6 : decode cX6_heats 6 = .ok (.invokevirtual 156, 3) := by decide +kernel
theorem dX6_heats_9 : decode cX6_heats 9 = .ok (.getfield 160, 3) := by decide +kernel
theorem dX6_heats_12 : decode cX6_heats 12 = .ok (.getfield 185, 3) := by decide +kernel
theorem dX6_heats_15 : decode cX6_heats 15 = .ok (.iload_n 1, 1) := by decide +kernel
theorem dX6_heats_16 : decode cX6_heats 16 = .ok (.iaload, 1) := by decide +kernel
theorem dX6_heats_17 : decode cX6_heats 17 = .ok (.ireturn, 1) := by decide +kernel
theorem dX6_fireMinutes_0 : decode cX6_fireMinutes 0 = .ok (.aload_n 0, 1) := by decide +kernel
theorem dX6_fireMinutes_1 : decode cX6_fireMinutes 1 = .ok (.iload_n 1, 1) := by decide +kernel
theorem dX6_fireMinutes_2 : decode cX6_fireMinutes 2 = .ok (.invokevirtual 110, 3) := by decide +kernel
theorem dX6_fireMinutes_5 : decode cX6_fireMinutes 5 = .ok (.aload_n 0, 1) := by decide +kernel
theorem dX6_fireMinutes_6 : decode cX6_fireMinutes 6 = .ok (.invokevirtual 156, 3) := by decide +kernel
theorem dX6_fireMinutes_9 : decode cX6_fireMinutes 9 = .ok (.iload_n 1, 1) := by decide +kernel
theorem dX6_fireMinutes_10 : decode cX6_fireMinutes 10 = .ok (.invokevirtual 188, 3) := by decide +kernel
theorem dX6_fireMinutes_13 : decode cX6_fireMinutes 13 = .ok (.ireturn, 1) := by decide +kernel
theorem dX6_requireAnvil_0 : decode cX6_requireAnvil 0 = .ok (.iload_n 1, 1) := by decide +kernel
theorem dX6_requireAnvil_1 : decode cX6_requireAnvil 1 = .ok (.iconst 0, 1) := by decide +kernel
theorem dX6_requireAnvil_2 : decode cX6_requireAnvil 2 = .ok (.aload_n 0, 1) := by decide +kernel
theorem dX6_requireAnvil_3 : decode cX6_requireAnvil 3 = .ok (.getfield 10, 3) := by decide +kernel
theorem dX6_requireAnvil_6 : decode cX6_requireAnvil 6 = .ok (.getfield 147, 3) := by decide +kernel
theorem dX6_requireAnvil_9 : decode cX6_requireAnvil 9 = .ok (.iconst 0, 1) := by decide +kernel
theorem dX6_requireAnvil_10 : decode cX6_requireAnvil 10 = .ok (.iaload, 1) := by decide +kernel
theorem dX6_requireAnvil_11 : decode cX6_requireAnvil 11 = .ok (.iconst 1, 1) := by decide +kernel
theorem dX6_requireAnvil_12 : decode cX6_requireAnvil 12 = .ok (.isub, 1) := by decide +kernel
theorem dX6_requireAnvil_13 : decode cX6_requireAnvil 13 = .ok (.invokestatic 75, 3) := by decide +kernel
theorem dX6_requireAnvil_16 : decode cX6_requireAnvil 16 = .ok (.ifCond .ne 14, 3) := by decide +kernel
theorem dX6_requireAnvil_19 : decode cX6_requireAnvil 19 = .ok (.new 283, 3) := by decide +kernel
theorem dX6_requireAnvil_22 : decode cX6_requireAnvil 22 = .ok (.dup, 1) := by decide +kernel
theorem dX6_requireAnvil_23 : decode cX6_requireAnvil 23 = .ok (.ldc_w 294, 3) := by decide +kernel
theorem dX6_requireAnvil_26 : decode cX6_requireAnvil 26 = .ok (.invokespecial 287, 3) := by decide +kernel
theorem dX6_requireAnvil_29 : decode cX6_requireAnvil 29 = .ok (.athrow, 1) := by decide +kernel
theorem dX6_requireAnvil_30 : decode cX6_requireAnvil 30 = .ok (.return_, 1) := by decide +kernel
theorem dX6_anvilMinutes_0 : decode cX6_anvilMinutes 0 = .ok (.aload_n 0, 1) := by decide +kernel
theorem dX6_anvilMinutes_1 : decode cX6_anvilMinutes 1 = .ok (.iload_n 1, 1) := by decide +kernel
theorem dX6_anvilMinutes_2 : decode cX6_anvilMinutes 2 = .ok (.invokevirtual 191, 3) := by decide +kernel
theorem dX6_anvilMinutes_5 : decode cX6_anvilMinutes 5 = .ok (.aload_n 0, 1) := by decide +kernel
theorem dX6_anvilMinutes_6 : decode cX6_anvilMinutes 6 = .ok (.invokevirtual 156, 3) := by decide +kernel
theorem dX6_anvilMinutes_9 : decode cX6_anvilMinutes 9 = .ok (.bipush 10, 2) := by decide +kernel
theorem dX6_anvilMinutes_11 : decode cX6_anvilMinutes 11 = .ok (.iload_n 1, 1) := by decide +kernel
theorem dX6_anvilMinutes_12 : decode cX6_anvilMinutes 12 = .ok (.iadd, 1) := by decide +kernel
theorem dX6_anvilMinutes_13 : decode cX6_anvilMinutes 13 = .ok (.invokevirtual 194, 3) := by decide +kernel
theorem dX6_anvilMinutes_16 : decode cX6_anvilMinutes 16 = .ok (.ireturn, 1) := by decide +kernel
theorem dX6_placeMinutes_0 : decode cX6_placeMinutes 0 = .ok (.aload_n 0, 1) := by decide +kernel
theorem dX6_placeMinutes_1 : decode cX6_placeMinutes 1 = .ok (.iload_n 1, 1) := by decide +kernel
theorem dX6_placeMinutes_2 : decode cX6_placeMinutes 2 = .ok (.invokevirtual 134, 3) := by decide +kernel
theorem dX6_placeMinutes_5 : decode cX6_placeMinutes 5 = .ok (.aload_n 0, 1) := by decide +kernel
theorem dX6_placeMinutes_6 : decode cX6_placeMinutes 6 = .ok (.invokevirtual 156, 3) := by decide +kernel
theorem dX6_placeMinutes_9 : decode cX6_placeMinutes 9 = .ok (.iconst 1, 1) := by decide +kernel
theorem dX6_placeMinutes_10 : decode cX6_placeMinutes 10 = .ok (.iload_n 1, 1) := by decide +kernel
theorem dX6_placeMinutes_11 : decode cX6_placeMinutes 11 = .ok (.iadd, 1) := by decide +kernel
theorem dX6_placeMinutes_12 : decode cX6_placeMinutes 12 = .ok (.invokevirtual 194, 3) := by decide +kernel
theorem dX6_placeMinutes_15 : decode cX6_placeMinutes 15 = .ok (.ireturn, 1) := by decide +kernel
theorem dX6_hottest_0 : decode cX6_hottest 0 = .ok (.aload_n 0, 1) := by decide +kernel
theorem dX6_hottest_1 : decode cX6_hottest 1 = .ok (.iload_n 1, 1) := by decide +kernel
theorem dX6_hottest_2 : decode cX6_hottest 2 = .ok (.invokevirtual 110, 3) := by decide +kernel
theorem dX6_hottest_5 : decode cX6_hottest 5 = .ok (.aload_n 0, 1) := by decide +kernel
theorem dX6_hottest_6 : decode cX6_hottest 6 = .ok (.invokevirtual 156, 3) := by decide +kernel
theorem dX6_hottest_9 : decode cX6_hottest 9 = .ok (.iload_n 1, 1) := by decide +kernel
theorem dX6_hottest_10 : decode cX6_hottest 10 = .ok (.invokevirtual 197, 3) := by decide +kernel
theorem dX6_hottest_13 : decode cX6_hottest 13 = .ok (.ireturn, 1) := by decide +kernel
theorem dX6_lastIron_0 : decode cX6_lastIron 0 = .ok (.aload_n 0, 1) := by decide +kernel
theorem dX6_lastIron_1 : decode cX6_lastIron 1 = .ok (.invokevirtual 156, 3) := by decide +kernel
theorem dX6_lastIron_4 : decode cX6_lastIron 4 = .ok (.getfield 160, 3) := by decide +kernel
theorem dX6_lastIron_7 : decode cX6_lastIron 7 = .ok (.invokevirtual 200, 3) := by decide +kernel
theorem dX6_lastIron_10 : decode cX6_lastIron 10 = .ok (.ireturn, 1) := by decide +kernel
theorem dX6_presentBest_0 : decode cX6_presentBest 0 = .ok (.aload_n 0, 1) := by decide +kernel
theorem dX6_presentBest_1 : decode cX6_presentBest 1 = .ok (.getfield 60, 3) := by decide +kernel
theorem dX6_presentBest_4 : decode cX6_presentBest 4 = .ok (.ifCond .ne 34, 3) := by decide +kernel
theorem dX6_presentBest_7 : decode cX6_presentBest 7 = .ok (.aload_n 0, 1) := by decide +kernel
theorem dX6_presentBest_8 : decode cX6_presentBest 8 = .ok (.getfield 46, 3) := by decide +kernel
theorem dX6_presentBest_11 : decode cX6_presentBest 11 = .ok (.aload_n 0, 1) := by decide +kernel
theorem dX6_presentBest_12 : decode cX6_presentBest 12 = .ok (.getfield 10, 3) := by decide +kernel
theorem dX6_presentBest_15 : decode cX6_presentBest 15 = .ok (.invokevirtual 86, 3) := by decide +kernel
theorem dX6_presentBest_18 : decode cX6_presentBest 18 = .ok (.aload_n 0, 1) := by decide +kernel
theorem dX6_presentBest_19 : decode cX6_presentBest 19 = .ok (.getfield 42, 3) := by decide +kernel
theorem dX6_presentBest_22 : decode cX6_presentBest 22 = .ok (.aload_n 0, 1) := by decide +kernel
theorem dX6_presentBest_23 : decode cX6_presentBest 23 = .ok (.getfield 46, 3) := by decide +kernel
theorem dX6_presentBest_26 : decode cX6_presentBest 26 = .ok (.aload_n 0, 1) := by decide +kernel
theorem dX6_presentBest_27 : decode cX6_presentBest 27 = .ok (.getfield 52, 3) := by decide +kernel
theorem dX6_presentBest_30 : decode cX6_presentBest 30 = .ok (.invokevirtual 302, 3) := by decide +kernel
theorem dX6_presentBest_33 : decode cX6_presentBest 33 = .ok (.aload_n 0, 1) := by decide +kernel
theorem dX6_presentBest_34 : decode cX6_presentBest 34 = .ok (.iconst 1, 1) := by decide +kernel
theorem dX6_presentBest_35 : decode cX6_presentBest 35 = .ok (.putfield 60, 3) := by decide +kernel
theorem dX6_presentBest_38 : decode cX6_presentBest 38 = .ok (.aload_n 0, 1) := by decide +kernel
theorem dX6_presentBest_39 : decode cX6_presentBest 39 = .ok (.getfield 42, 3) := by decide +kernel
theorem dX6_presentBest_42 : decode cX6_presentBest 42 = .ok (.areturn, 1) := by decide +kernel
theorem dX6_bestFinish_0 : decode cX6_bestFinish 0 = .ok (.aload_n 0, 1) := by decide +kernel
theorem dX6_bestFinish_1 : decode cX6_bestFinish 1 = .ok (.invokevirtual 203, 3) := by decide +kernel
theorem dX6_bestFinish_4 : decode cX6_bestFinish 4 = .ok (.getfield 207, 3) := by decide +kernel
theorem dX6_bestFinish_7 : decode cX6_bestFinish 7 = .ok (.ireturn, 1) := by decide +kernel
theorem dX6_bestIronAt_0 : decode cX6_bestIronAt 0 = .ok (.aload_n 0, 1) := by decide +kernel
theorem dX6_bestIronAt_1 : decode cX6_bestIronAt 1 = .ok (.iload_n 1, 1) := by decide +kernel
theorem dX6_bestIronAt_2 : decode cX6_bestIronAt 2 = .ok (.invokevirtual 110, 3) := by decide +kernel
theorem dX6_bestIronAt_5 : decode cX6_bestIronAt 5 = .ok (.aload_n 0, 1) := by decide +kernel
theorem dX6_bestIronAt_6 : decode cX6_bestIronAt 6 = .ok (.invokevirtual 203, 3) := by decide +kernel
theorem dX6_bestIronAt_9 : decode cX6_bestIronAt 9 = .ok (.astore_n 2, 1) := by decide +kernel
theorem dX6_bestIronAt_10 : decode cX6_bestIronAt 10 = .ok (.aload_n 2, 1) := by decide +kernel
theorem dX6_bestIronAt_11 : decode cX6_bestIronAt 11 = .ok (.getfield 207, 3) := by decide +kernel
theorem dX6_bestIronAt_14 : decode cX6_bestIronAt 14 = .ok (.iconst (-1), 1) := by decide +kernel
theorem dX6_bestIronAt_15 : decode cX6_bestIronAt 15 = .ok (.if_icmp .ne 7, 3) := by decide +kernel
theorem dX6_bestIronAt_18 : decode cX6_bestIronAt 18 = .ok (.iconst (-1), 1) := by decide +kernel
theorem dX6_bestIronAt_19 : decode cX6_bestIronAt 19 = .ok (.goto 9, 3) := by decide +kernel
theorem dX6_bestIronAt_22 : decode cX6_bestIronAt 22 = .ok (.aload_n 2, 1) := by decide +kernel
theorem dX6_bestIronAt_23 : decode cX6_bestIronAt 23 = .ok (.getfield 210, 3) := by decide +kernel
theorem dX6_bestIronAt_26 : decode cX6_bestIronAt 26 = .ok (.iload_n 1, 1) := by decide +kernel
theorem dX6_bestIronAt_27 : decode cX6_bestIronAt 27 = .ok (.iaload, 1) := by decide +kernel
theorem dX6_bestIronAt_28 : decode cX6_bestIronAt 28 = .ok (.ireturn, 1) := by decide +kernel
theorem dX6_bestOrders_0 : decode cX6_bestOrders 0 = .ok (.aload_n 0, 1) := by decide +kernel
theorem dX6_bestOrders_1 : decode cX6_bestOrders 1 = .ok (.invokevirtual 203, 3) := by decide +kernel
theorem dX6_bestOrders_4 : decode cX6_bestOrders 4 = .ok (.getfield 211, 3) := by decide +kernel
theorem dX6_bestOrders_7 : decode cX6_bestOrders 7 = .ok (.ireturn, 1) := by decide +kernel
theorem dX6_finishWithSwap_0 : decode cX6_finishWithSwap 0 = .ok (.aload_n 0, 1) := by decide +kernel
theorem dX6_finishWithSwap_1 : decode cX6_finishWithSwap 1 = .ok (.iload_n 1, 1) := by decide +kernel
theorem dX6_finishWithSwap_2 : decode cX6_finishWithSwap 2 = .ok (.invokevirtual 110, 3) := by decide +kernel
theorem dX6_finishWithSwap_5 : decode cX6_finishWithSwap 5 = .ok (.aload_n 0, 1) := by decide +kernel
theorem dX6_finishWithSwap_6 : decode cX6_finishWithSwap 6 = .ok (.iload_n 2, 1) := by decide +kernel
theorem dX6_finishWithSwap_7 : decode cX6_finishWithSwap 7 = .ok (.invokevirtual 110, 3) := by decide +kernel
theorem dX6_finishWithSwap_10 : decode cX6_finishWithSwap 10 = .ok (.aload_n 0, 1) := by decide +kernel
theorem dX6_finishWithSwap_11 : decode cX6_finishWithSwap 11 = .ok (.getfield 46, 3) := by decide +kernel
theorem dX6_finishWithSwap_14 : decode cX6_finishWithSwap 14 = .ok (.aload_n 0, 1) := by decide +kernel
theorem dX6_finishWithSwap_15 : decode cX6_finishWithSwap 15 = .ok (.getfield 10, 3) := by decide +kernel
theorem dX6_finishWithSwap_18 : decode cX6_finishWithSwap 18 = .ok (.invokevirtual 86, 3) := by decide +kernel
theorem dX6_finishWithSwap_21 : decode cX6_finishWithSwap 21 = .ok (.aload_n 0, 1) := by decide +kernel
theorem dX6_finishWithSwap_22 : decode cX6_finishWithSwap 22 = .ok (.getfield 46, 3) := by decide +kernel
theorem dX6_finishWithSwap_25 : decode cX6_finishWithSwap 25 = .ok (.iload_n 1, 1) := by decide +kernel
theorem dX6_finishWithSwap_26 : decode cX6_finishWithSwap 26 = .ok (.iload_n 2, 1) := by decide +kernel
theorem dX6_finishWithSwap_27 : decode cX6_finishWithSwap 27 = .ok (.invokevirtual 214, 3) := by decide +kernel
theorem dX6_finishWithSwap_30 : decode cX6_finishWithSwap 30 = .ok (.aload_n 0, 1) := by decide +kernel
theorem dX6_finishWithSwap_31 : decode cX6_finishWithSwap 31 = .ok (.getfield 52, 3) := by decide +kernel
theorem dX6_finishWithSwap_34 : decode cX6_finishWithSwap 34 = .ok (.sipush 480, 3) := by decide +kernel
theorem dX6_finishWithSwap_37 : decode cX6_finishWithSwap 37 = .ok (.invokevirtual 217, 3) := by decide +kernel
theorem dX6_finishWithSwap_40 : decode cX6_finishWithSwap 40 = .ok (.ireturn, 1) := by decide +kernel
theorem dX6_finishWithSetting_0 : decode cX6_finishWithSetting 0 = .ok (.iload_n 1, 1) := by decide +kernel
theorem dX6_finishWithSetting_1 : decode cX6_finishWithSetting 1 = .ok (.iload_n 2, 1) := by decide +kernel
theorem dX6_finishWithSetting_2 : decode cX6_finishWithSetting 2 = .ok (.invokestatic 232, 3) := by decide +kernel
theorem dX6_finishWithSetting_5 : decode cX6_finishWithSetting 5 = .ok (.ifCond .ne 6, 3) := by decide +kernel
theorem dX6_finishWithSetting_8 : decode cX6_finishWithSetting 8 = .ok (.bipush (-2), 2) := by decide +kernel
theorem dX6_finishWithSetting_10 : decode cX6_finishWithSetting 10 = .ok (.ireturn, 1) := by decide +kernel
theorem dX6_finishWithSetting_11 : decode cX6_finishWithSetting 11 = .ok (.aload_n 0, 1) := by decide +kernel
theorem dX6_finishWithSetting_12 : decode cX6_finishWithSetting 12 = .ok (.getfield 46, 3) := by decide +kernel
theorem dX6_finishWithSetting_15 : decode cX6_finishWithSetting 15 = .ok (.aload_n 0, 1) := by decide +kernel
theorem dX6_finishWithSetting_16 : decode cX6_finishWithSetting 16 = .ok (.getfield 10, 3) := by decide +kernel
theorem dX6_finishWithSetting_19 : decode cX6_finishWithSetting 19 = .ok (.invokevirtual 86, 3) := by decide +kernel
theorem dX6_finishWithSetting_22 : decode cX6_finishWithSetting 22 = .ok (.aload_n 0, 1) := by decide +kernel
theorem dX6_finishWithSetting_23 : decode cX6_finishWithSetting 23 = .ok (.getfield 46, 3) := by decide +kernel
theorem dX6_finishWithSetting_26 : decode cX6_finishWithSetting 26 = .ok (.getfield 147, 3) := by decide +kernel
theorem dX6_finishWithSetting_29 : decode cX6_finishWithSetting 29 = .ok (.iload_n 1, 1) := by decide +kernel
theorem dX6_finishWithSetting_30 : decode cX6_finishWithSetting 30 = .ok (.iload_n 2, 1) := by decide +kernel
theorem dX6_finishWithSetting_31 : decode cX6_finishWithSetting 31 = .ok (.iastore, 1) := by decide +kernel
theorem dX6_finishWithSetting_32 : decode cX6_finishWithSetting 32 = .ok (.aload_n 0, 1) := by decide +kernel
theorem dX6_finishWithSetting_33 : decode cX6_finishWithSetting 33 = .ok (.getfield 52, 3) := by decide +kernel
theorem dX6_finishWithSetting_36 : decode cX6_finishWithSetting 36 = .ok (.sipush 480, 3) := by decide +kernel
theorem dX6_finishWithSetting_39 : decode cX6_finishWithSetting 39 = .ok (.invokevirtual 217, 3) := by decide +kernel
theorem dX6_finishWithSetting_42 : decode cX6_finishWithSetting 42 = .ok (.ireturn, 1) := by decide +kernel
theorem dX6_finishWithMargin_0 : decode cX6_finishWithMargin 0 = .ok (.aload_n 0, 1) := by decide +kernel
theorem dX6_finishWithMargin_1 : decode cX6_finishWithMargin 1 = .ok (.iconst 1, 1) := by decide +kernel
theorem dX6_finishWithMargin_2 : decode cX6_finishWithMargin 2 = .ok (.iload_n 1, 1) := by decide +kernel
theorem dX6_finishWithMargin_3 : decode cX6_finishWithMargin 3 = .ok (.invokevirtual 220, 3) := by decide +kernel
theorem dX6_finishWithMargin_6 : decode cX6_finishWithMargin 6 = .ok (.ireturn, 1) := by decide +kernel
theorem dX6_bestValue_0 : decode cX6_bestValue 0 = .ok (.iconst (-1), 1) := by decide +kernel
theorem dX6_bestValue_1 : decode cX6_bestValue 1 = .ok (.istore_n 3, 1) := by decide +kernel
theorem dX6_bestValue_2 : decode cX6_bestValue 2 = .ok (.sipush 481, 3) := by decide +kernel
theorem dX6_bestValue_5 : decode cX6_bestValue 5 = .ok (.istore 4, 2) := by decide +kernel
theorem dX6_bestValue_7 : decode cX6_bestValue 7 = .ok (.aload_n 0, 1) := by decide +kernel
theorem dX6_bestValue_8 : decode cX6_bestValue 8 = .ok (.getfield 46, 3) := by decide +kernel
theorem dX6_bestValue_11 : decode cX6_bestValue 11 = .ok (.aload_n 0, 1) := by decide +kernel
theorem dX6_bestValue_12 : decode cX6_bestValue 12 = .ok (.getfield 10, 3) := by decide +kernel
theorem dX6_bestValue_15 : decode cX6_bestValue 15 = .ok (.invokevirtual 86, 3) := by decide +kernel
theorem dX6_bestValue_18 : decode cX6_bestValue 18 = .ok (.getstatic 277, 3) := by decide +kernel
theorem dX6_bestValue_21 : decode cX6_bestValue 21 = .ok (.iload_n 1, 1) := by decide +kernel
theorem dX6_bestValue_22 : decode cX6_bestValue 22 = .ok (.iaload, 1) := by decide +kernel
theorem dX6_bestValue_23 : decode cX6_bestValue 23 = .ok (.istore 5, 2) := by decide +kernel
theorem dX6_bestValue_25 : decode cX6_bestValue 25 = .ok (.iload 5, 2) := by decide +kernel
theorem dX6_bestValue_27 : decode cX6_bestValue 27 = .ok (.getstatic 280, 3) := by decide +kernel
theorem dX6_bestValue_30 : decode cX6_bestValue 30 = .ok (.iload_n 1, 1) := by decide +kernel
theorem dX6_bestValue_31 : decode cX6_bestValue 31 = .ok (.iaload, 1) := by decide +kernel
theorem dX6_bestValue_32 : decode cX6_bestValue 32 = .ok (.if_icmp .gt 60, 3) := by decide +kernel
theorem dX6_bestValue_35 : decode cX6_bestValue 35 = .ok (.aload_n 0, 1) := by decide +kernel
theorem dX6_bestValue_36 : decode cX6_bestValue 36 = .ok (.getfield 46, 3) := by decide +kernel
theorem dX6_bestValue_39 : decode cX6_bestValue 39 = .ok (.getfield 147, 3) := by decide +kernel
theorem dX6_bestValue_42 : decode cX6_bestValue 42 = .ok (.iload_n 1, 1) := by decide +kernel
theorem dX6_bestValue_43 : decode cX6_bestValue 43 = .ok (.iload 5, 2) := by decide +kernel
theorem dX6_bestValue_45 : decode cX6_bestValue 45 = .ok (.iastore, 1) := by decide +kernel
theorem dX6_bestValue_46 : decode cX6_bestValue 46 = .ok (.aload_n 0, 1) := by decide +kernel
theorem dX6_bestValue_47 : decode cX6_bestValue 47 = .ok (.getfield 52, 3) := by decide +kernel
theorem dX6_bestValue_50 : decode cX6_bestValue 50 = .ok (.iload 4, 2) := by decide +kernel
theorem dX6_bestValue_52 : decode cX6_bestValue 52 = .ok (.sipush 480, 3) := by decide +kernel
theorem dX6_bestValue_55 : decode cX6_bestValue 55 = .ok (.invokestatic 306, 3) := by decide +kernel
theorem dX6_bestValue_58 : decode cX6_bestValue 58 = .ok (.invokevirtual 217, 3) := by decide +kernel
theorem dX6_bestValue_61 : decode cX6_bestValue 61 = .ok (.istore 6, 2) := by decide +kernel
theorem dX6_bestValue_63 : decode cX6_bestValue 63 = .ok (.iload 6, 2) := by decide +kernel
theorem dX6_bestValue_65 : decode cX6_bestValue 65 = .ok (.iconst (-1), 1) := by decide +kernel
theorem dX6_bestValue_66 : decode cX6_bestValue 66 = .ok (.if_icmp .eq 17, 3) := by decide +kernel
theorem dX6_bestValue_69 : decode cX6_bestValue 69 = .ok (.iload 6, 2) := by decide +kernel
theorem dX6_bestValue_71 : decode cX6_bestValue 71 = .ok (.iload 4, 2) := by decide +kernel
theorem dX6_bestValue_73 : decode cX6_bestValue 73 = .ok (.if_icmp .ge 10, 3) := by decide +kernel
theorem dX6_bestValue_76 : decode cX6_bestValue 76 = .ok (.iload 6, 2) := by decide +kernel
theorem dX6_bestValue_78 : decode cX6_bestValue 78 = .ok (.istore 4, 2) := by decide +kernel
theorem dX6_bestValue_80 : decode cX6_bestValue 80 = .ok (.iload 5, 2) := by decide +kernel
theorem dX6_bestValue_82 : decode cX6_bestValue 82 = .ok (.istore_n 3, 1) := by decide +kernel
theorem dX6_bestValue_83 : decode cX6_bestValue 83 = .ok (.iload 5, 2) := by decide +kernel
theorem dX6_bestValue_85 : decode cX6_bestValue 85 = .ok (.iload_n 2, 1) := by decide +kernel
theorem dX6_bestValue_86 : decode cX6_bestValue 86 = .ok (.iadd, 1) := by decide +kernel
theorem dX6_bestValue_87 : decode cX6_bestValue 87 = .ok (.istore 5, 2) := by decide +kernel
theorem dX6_bestValue_89 : decode cX6_bestValue 89 = .ok (.goto (-64), 3) := by decide +kernel
theorem dX6_bestValue_92 : decode cX6_bestValue 92 = .ok (.iload_n 3, 1) := by decide +kernel
theorem dX6_bestValue_93 : decode cX6_bestValue 93 = .ok (.ireturn, 1) := by decide +kernel
theorem dX6_bestMargin_0 : decode cX6_bestMargin 0 = .ok (.aload_n 0, 1) := by decide +kernel
theorem dX6_bestMargin_1 : decode cX6_bestMargin 1 = .ok (.iconst 1, 1) := by decide +kernel
theorem dX6_bestMargin_2 : decode cX6_bestMargin 2 = .ok (.bipush 10, 2) := by decide +kernel
theorem dX6_bestMargin_4 : decode cX6_bestMargin 4 = .ok (.invokevirtual 223, 3) := by decide +kernel
theorem dX6_bestMargin_7 : decode cX6_bestMargin 7 = .ok (.ireturn, 1) := by decide +kernel
theorem dX6_finishWithoutPlace_0 : decode cX6_finishWithoutPlace 0 = .ok (.aload_n 0, 1) := by decide +kernel
theorem dX6_finishWithoutPlace_1 : decode cX6_finishWithoutPlace 1 = .ok (.iload_n 1, 1) := by decide +kernel
theorem dX6_finishWithoutPlace_2 : decode cX6_finishWithoutPlace 2 = .ok (.invokevirtual 134, 3) := by decide +kernel
theorem dX6_finishWithoutPlace_5 : decode cX6_finishWithoutPlace 5 = .ok (.aload_n 0, 1) := by decide +kernel
theorem dX6_finishWithoutPlace_6 : decode cX6_finishWithoutPlace 6 = .ok (.getfield 46, 3) := by decide +kernel
theorem dX6_finishWithoutPlace_9 : decode cX6_finishWithoutPlace 9 = .ok (.aload_n 0, 1) := by decide +kernel
theorem dX6_finishWithoutPlace_10 : decode cX6_finishWithoutPlace 10 = .ok (.getfield 10, 3) := by decide +kernel
theorem dX6_finishWithoutPlace_13 : decode cX6_finishWithoutPlace 13 = .ok (.invokevirtual 86, 3) := by decide +kernel
theorem dX6_finishWithoutPlace_16 : decode cX6_finishWithoutPlace 16 = .ok (.aload_n 0, 1) := by decide +kernel
theorem dX6_finishWithoutPlace_17 : decode cX6_finishWithoutPlace 17 = .ok (.getfield 46, 3) := by decide +kernel
theorem dX6_finishWithoutPlace_20 : decode cX6_finishWithoutPlace 20 = .ok (.iload_n 1, 1) := by decide +kernel
theorem dX6_finishWithoutPlace_21 : decode cX6_finishWithoutPlace 21 = .ok (.invokevirtual 226, 3) := by decide +kernel
theorem dX6_finishWithoutPlace_24 : decode cX6_finishWithoutPlace 24 = .ok (.aload_n 0, 1) := by decide +kernel
theorem dX6_finishWithoutPlace_25 : decode cX6_finishWithoutPlace 25 = .ok (.getfield 52, 3) := by decide +kernel
theorem dX6_finishWithoutPlace_28 : decode cX6_finishWithoutPlace 28 = .ok (.sipush 480, 3) := by decide +kernel
theorem dX6_finishWithoutPlace_31 : decode cX6_finishWithoutPlace 31 = .ok (.invokevirtual 217, 3) := by decide +kernel
theorem dX6_finishWithoutPlace_34 : decode cX6_finishWithoutPlace 34 = .ok (.ireturn, 1) := by decide +kernel
theorem dX6_finishOfOthers_0 : decode cX6_finishOfOthers 0 = .ok (.aload_n 0, 1) := by decide +kernel
theorem dX6_finishOfOthers_1 : decode cX6_finishOfOthers 1 = .ok (.getfield 46, 3) := by decide +kernel
theorem dX6_finishOfOthers_4 : decode cX6_finishOfOthers 4 = .ok (.aload_n 0, 1) := by decide +kernel
theorem dX6_finishOfOthers_5 : decode cX6_finishOfOthers 5 = .ok (.getfield 10, 3) := by decide +kernel
theorem dX6_finishOfOthers_8 : decode cX6_finishOfOthers 8 = .ok (.invokevirtual 86, 3) := by decide +kernel
theorem dX6_finishOfOthers_11 : decode cX6_finishOfOthers 11 = .ok (.aload_n 0, 1) := by decide +kernel
theorem dX6_finishOfOthers_12 : decode cX6_finishOfOthers 12 = .ok (.getfield 46, 3) := by decide +kernel
theorem dX6_finishOfOthers_15 : decode cX6_finishOfOthers 15 = .ok (.getfield 120, 3) := by decide +kernel
theorem dX6_finishOfOthers_18 : decode cX6_finishOfOthers 18 = .ok (.iload_n 1, 1) := by decide +kernel
theorem dX6_finishOfOthers_19 : decode cX6_finishOfOthers 19 = .ok (.iconst 0, 1) := by decide +kernel
theorem dX6_finishOfOthers_20 : decode cX6_finishOfOthers 20 = .ok (.iastore, 1) := by decide +kernel
theorem dX6_finishOfOthers_21 : decode cX6_finishOfOthers 21 = .ok (.aload_n 0, 1) := by decide +kernel
theorem dX6_finishOfOthers_22 : decode cX6_finishOfOthers 22 = .ok (.getfield 52, 3) := by decide +kernel
theorem dX6_finishOfOthers_25 : decode cX6_finishOfOthers 25 = .ok (.sipush 480, 3) := by decide +kernel
theorem dX6_finishOfOthers_28 : decode cX6_finishOfOthers 28 = .ok (.invokevirtual 217, 3) := by decide +kernel
theorem dX6_finishOfOthers_31 : decode cX6_finishOfOthers 31 = .ok (.ireturn, 1) := by decide +kernel
theorem dX6_finishWithoutIron_0 : decode cX6_finishWithoutIron 0 = .ok (.aload_n 0, 1) := by decide +kernel
theorem dX6_finishWithoutIron_1 : decode cX6_finishWithoutIron 1 = .ok (.iload_n 1, 1) := by decide +kernel
theorem dX6_finishWithoutIron_2 : decode cX6_finishWithoutIron 2 = .ok (.invokevirtual 110, 3) := by decide +kernel
theorem dX6_finishWithoutIron_5 : decode cX6_finishWithoutIron 5 = .ok (.aload_n 0, 1) := by decide +kernel
theorem dX6_finishWithoutIron_6 : decode cX6_finishWithoutIron 6 = .ok (.iload_n 1, 1) := by decide +kernel
theorem dX6_finishWithoutIron_7 : decode cX6_finishWithoutIron 7 = .ok (.invokevirtual 229, 3) := by decide +kernel
theorem dX6_finishWithoutIron_10 : decode cX6_finishWithoutIron 10 = .ok (.ireturn, 1) := by decide +kernel
theorem dX6_finishAlone_0 : decode cX6_finishAlone 0 = .ok (.aload_n 0, 1) := by decide +kernel
theorem dX6_finishAlone_1 : decode cX6_finishAlone 1 = .ok (.iload_n 1, 1) := by decide +kernel
theorem dX6_finishAlone_2 : decode cX6_finishAlone 2 = .ok (.invokevirtual 110, 3) := by decide +kernel
theorem dX6_finishAlone_5 : decode cX6_finishAlone 5 = .ok (.aload_n 0, 1) := by decide +kernel
theorem dX6_finishAlone_6 : decode cX6_finishAlone 6 = .ok (.getfield 46, 3) := by decide +kernel
theorem dX6_finishAlone_9 : decode cX6_finishAlone 9 = .ok (.aload_n 0, 1) := by decide +kernel
theorem dX6_finishAlone_10 : decode cX6_finishAlone 10 = .ok (.getfield 10, 3) := by decide +kernel
theorem dX6_finishAlone_13 : decode cX6_finishAlone 13 = .ok (.invokevirtual 86, 3) := by decide +kernel
theorem dX6_finishAlone_16 : decode cX6_finishAlone 16 = .ok (.iconst 0, 1) := by decide +kernel
theorem dX6_finishAlone_17 : decode cX6_finishAlone 17 = .ok (.istore_n 2, 1) := by decide +kernel
theorem dX6_finishAlone_18 : decode cX6_finishAlone 18 = .ok (.iload_n 2, 1) := by decide +kernel
theorem dX6_finishAlone_19 : decode cX6_finishAlone 19 = .ok (.aload_n 0, 1) := by decide +kernel
theorem dX6_finishAlone_20 : decode cX6_finishAlone 20 = .ok (.getfield 46, 3) := by decide +kernel
theorem dX6_finishAlone_23 : decode cX6_finishAlone 23 = .ok (.getfield 98, 3) := by decide +kernel
theorem dX6_finishAlone_26 : decode cX6_finishAlone 26 = .ok (.if_icmp .ge 24, 3) := by decide +kernel
theorem dX6_finishAlone_29 : decode cX6_finishAlone 29 = .ok (.iload_n 2, 1) := by decide +kernel
theorem dX6_finishAlone_30 : decode cX6_finishAlone 30 = .ok (.iload_n 1, 1) := by decide +kernel
theorem dX6_finishAlone_31 : decode cX6_finishAlone 31 = .ok (.if_icmp .eq 13, 3) := by decide +kernel
theorem dX6_finishAlone_34 : decode cX6_finishAlone 34 = .ok (.aload_n 0, 1) := by decide +kernel
theorem dX6_finishAlone_35 : decode cX6_finishAlone 35 = .ok (.getfield 46, 3) := by decide +kernel
theorem dX6_finishAlone_38 : decode cX6_finishAlone 38 = .ok (.getfield 120, 3) := by decide +kernel
theorem dX6_finishAlone_41 : decode cX6_finishAlone 41 = .ok (.iload_n 2, 1) := by decide +kernel
theorem dX6_finishAlone_42 : decode cX6_finishAlone 42 = .ok (.iconst 0, 1) := by decide +kernel
theorem dX6_finishAlone_43 : decode cX6_finishAlone 43 = .ok (.iastore, 1) := by decide +kernel
theorem dX6_finishAlone_44 : decode cX6_finishAlone 44 = .ok (.iinc 2 1, 3) := by decide +kernel
theorem dX6_finishAlone_47 : decode cX6_finishAlone 47 = .ok (.goto (-29), 3) := by decide +kernel
theorem dX6_finishAlone_50 : decode cX6_finishAlone 50 = .ok (.aload_n 0, 1) := by decide +kernel
theorem dX6_finishAlone_51 : decode cX6_finishAlone 51 = .ok (.getfield 52, 3) := by decide +kernel
theorem dX6_finishAlone_54 : decode cX6_finishAlone 54 = .ok (.sipush 480, 3) := by decide +kernel
theorem dX6_finishAlone_57 : decode cX6_finishAlone 57 = .ok (.invokevirtual 217, 3) := by decide +kernel
theorem dX6_finishAlone_60 : decode cX6_finishAlone 60 = .ok (.ireturn, 1) := by decide +kernel
theorem dX6_orderCode_0 : decode cX6_orderCode 0 = .ok (.iconst 0, 1) := by decide +kernel
theorem dX6_orderCode_1 : decode cX6_orderCode 1 = .ok (.istore_n 1, 1) := by decide +kernel
theorem dX6_orderCode_2 : decode cX6_orderCode 2 = .ok (.iconst 0, 1) := by decide +kernel
theorem dX6_orderCode_3 : decode cX6_orderCode 3 = .ok (.istore_n 2, 1) := by decide +kernel
theorem dX6_orderCode_4 : decode cX6_orderCode 4 = .ok (.iload_n 2, 1) := by decide +kernel
theorem dX6_orderCode_5 : decode cX6_orderCode 5 = .ok (.aload_n 0, 1) := by decide +kernel
theorem dX6_orderCode_6 : decode cX6_orderCode 6 = .ok (.getfield 10, 3) := by decide +kernel
theorem dX6_orderCode_9 : decode cX6_orderCode 9 = .ok (.getfield 98, 3) := by decide +kernel
theorem dX6_orderCode_12 : decode cX6_orderCode 12 = .ok (.if_icmp .ge 27, 3) := by decide +kernel
theorem dX6_orderCode_15 : decode cX6_orderCode 15 = .ok (.iload_n 1, 1) := by decide +kernel
theorem dX6_orderCode_16 : decode cX6_orderCode 16 = .ok (.aload_n 0, 1) := by decide +kernel
theorem dX6_orderCode_17 : decode cX6_orderCode 17 = .ok (.getfield 10, 3) := by decide +kernel
theorem dX6_orderCode_20 : decode cX6_orderCode 20 = .ok (.getfield 150, 3) := by decide +kernel
theorem dX6_orderCode_23 : decode cX6_orderCode 23 = .ok (.iload_n 2, 1) := by decide +kernel
theorem dX6_orderCode_24 : decode cX6_orderCode 24 = .ok (.iaload, 1) := by decide +kernel
theorem dX6_orderCode_25 : decode cX6_orderCode 25 = .ok (.iconst 1, 1) := by decide +kernel
theorem dX6_orderCode_26 : decode cX6_orderCode 26 = .ok (.iadd, 1) := by decide +kernel
theorem dX6_orderCode_27 : decode cX6_orderCode 27 = .ok (.iconst 3, 1) := by decide +kernel
theorem dX6_orderCode_28 : decode cX6_orderCode 28 = .ok (.iload_n 2, 1) := by decide +kernel
theorem dX6_orderCode_29 : decode cX6_orderCode 29 = .ok (.imul, 1) := by decide +kernel
theorem dX6_orderCode_30 : decode cX6_orderCode 30 = .ok (.ishl, 1) := by decide +kernel
theorem dX6_orderCode_31 : decode cX6_orderCode 31 = .ok (.ior, 1) := by decide +kernel
theorem dX6_orderCode_32 : decode cX6_orderCode 32 = .ok (.istore_n 1, 1) := by decide +kernel
theorem dX6_orderCode_33 : decode cX6_orderCode 33 = .ok (.iinc 2 1, 3) := by decide +kernel
theorem dX6_orderCode_36 : decode cX6_orderCode 36 = .ok (.goto (-32), 3) := by decide +kernel
theorem dX6_orderCode_39 : decode cX6_orderCode 39 = .ok (.iload_n 1, 1) := by decide +kernel
theorem dX6_orderCode_40 : decode cX6_orderCode 40 = .ok (.ireturn, 1) := by decide +kernel
theorem dX6_rackMinutes_0 : decode cX6_rackMinutes 0 = .ok (.aload_n 0, 1) := by decide +kernel
theorem dX6_rackMinutes_1 : decode cX6_rackMinutes 1 = .ok (.iload_n 1, 1) := by decide +kernel
theorem dX6_rackMinutes_2 : decode cX6_rackMinutes 2 = .ok (.invokevirtual 110, 3) := by decide +kernel
theorem dX6_rackMinutes_5 : decode cX6_rackMinutes 5 = .ok (.aload_n 0, 1) := by decide +kernel
theorem dX6_rackMinutes_6 : decode cX6_rackMinutes 6 = .ok (.invokevirtual 156, 3) := by decide +kernel
theorem dX6_rackMinutes_9 : decode cX6_rackMinutes 9 = .ok (.iload_n 1, 1) := by decide +kernel
theorem dX6_rackMinutes_10 : decode cX6_rackMinutes 10 = .ok (.aload_n 0, 1) := by decide +kernel
theorem dX6_rackMinutes_11 : decode cX6_rackMinutes 11 = .ok (.getfield 10, 3) := by decide +kernel
theorem dX6_rackMinutes_14 : decode cX6_rackMinutes 14 = .ok (.getfield 120, 3) := by decide +kernel
theorem dX6_rackMinutes_17 : decode cX6_rackMinutes 17 = .ok (.iload_n 1, 1) := by decide +kernel
theorem dX6_rackMinutes_18 : decode cX6_rackMinutes 18 = .ok (.iaload, 1) := by decide +kernel
theorem dX6_rackMinutes_19 : decode cX6_rackMinutes 19 = .ok (.invokevirtual 259, 3) := by decide +kernel
theorem dX6_rackMinutes_22 : decode cX6_rackMinutes 22 = .ok (.ireturn, 1) := by decide +kernel
theorem dX6_firstWork_0 : decode cX6_firstWork 0 = .ok (.aload_n 0, 1) := by decide +kernel
theorem dX6_firstWork_1 : decode cX6_firstWork 1 = .ok (.iload_n 1, 1) := by decide +kernel
theorem dX6_firstWork_2 : decode cX6_firstWork 2 = .ok (.invokevirtual 110, 3) := by decide +kernel
theorem dX6_firstWork_5 : decode cX6_firstWork 5 = .ok (.aload_n 0, 1) := by decide +kernel
theorem dX6_firstWork_6 : decode cX6_firstWork 6 = .ok (.invokevirtual 156, 3) := by decide +kernel
theorem dX6_firstWork_9 : decode cX6_firstWork 9 = .ok (.iload_n 1, 1) := by decide +kernel
theorem dX6_firstWork_10 : decode cX6_firstWork 10 = .ok (.invokevirtual 262, 3) := by decide +kernel
theorem dX6_firstWork_13 : decode cX6_firstWork 13 = .ok (.ireturn, 1) := by decide +kernel
theorem dX6_ironInPlace_0 : decode cX6_ironInPlace 0 = .ok (.aload_n 0, 1) := by decide +kernel
theorem dX6_ironInPlace_1 : decode cX6_ironInPlace 1 = .ok (.iload_n 1, 1) := by decide +kernel
theorem dX6_ironInPlace_2 : decode cX6_ironInPlace 2 = .ok (.invokevirtual 134, 3) := by decide +kernel
theorem dX6_ironInPlace_5 : decode cX6_ironInPlace 5 = .ok (.iload_n 2, 1) := by decide +kernel
theorem dX6_ironInPlace_6 : decode cX6_ironInPlace 6 = .ok (.invokestatic 173, 3) := by decide +kernel
theorem dX6_ironInPlace_9 : decode cX6_ironInPlace 9 = .ok (.ifCond .eq 17, 3) := by decide +kernel
theorem dX6_ironInPlace_12 : decode cX6_ironInPlace 12 = .ok (.aload_n 0, 1) := by decide +kernel
theorem dX6_ironInPlace_13 : decode cX6_ironInPlace 13 = .ok (.invokevirtual 156, 3) := by decide +kernel
theorem dX6_ironInPlace_16 : decode cX6_ironInPlace 16 = .ok (.iconst 1, 1) := by decide +kernel
theorem dX6_ironInPlace_17 : decode cX6_ironInPlace 17 = .ok (.iload_n 1, 1) := by decide +kernel
theorem dX6_ironInPlace_18 : decode cX6_ironInPlace 18 = .ok (.iadd, 1) := by decide +kernel
theorem dX6_ironInPlace_19 : decode cX6_ironInPlace 19 = .ok (.iload_n 2, 1) := by decide +kernel
theorem dX6_ironInPlace_20 : decode cX6_ironInPlace 20 = .ok (.invokevirtual 265, 3) := by decide +kernel
theorem dX6_ironInPlace_23 : decode cX6_ironInPlace 23 = .ok (.goto 5, 3) := by decide +kernel
theorem dX6_ironInPlace_26 : decode cX6_ironInPlace 26 = .ok (.bipush (-2), 2) := by decide +kernel
theorem dX6_ironInPlace_28 : decode cX6_ironInPlace 28 = .ok (.ireturn, 1) := by decide +kernel
theorem dX6_ironOnAnvil_0 : decode cX6_ironOnAnvil 0 = .ok (.aload_n 0, 1) := by decide +kernel
theorem dX6_ironOnAnvil_1 : decode cX6_ironOnAnvil 1 = .ok (.iload_n 1, 1) := by decide +kernel
theorem dX6_ironOnAnvil_2 : decode cX6_ironOnAnvil 2 = .ok (.invokevirtual 191, 3) := by decide +kernel
theorem dX6_ironOnAnvil_5 : decode cX6_ironOnAnvil 5 = .ok (.iload_n 2, 1) := by decide +kernel
theorem dX6_ironOnAnvil_6 : decode cX6_ironOnAnvil 6 = .ok (.invokestatic 173, 3) := by decide +kernel
theorem dX6_ironOnAnvil_9 : decode cX6_ironOnAnvil 9 = .ok (.ifCond .eq 18, 3) := by decide +kernel
theorem dX6_ironOnAnvil_12 : decode cX6_ironOnAnvil 12 = .ok (.aload_n 0, 1) := by decide +kernel
theorem dX6_ironOnAnvil_13 : decode cX6_ironOnAnvil 13 = .ok (.invokevirtual 156, 3) := by decide +kernel
theorem dX6_ironOnAnvil_16 : decode cX6_ironOnAnvil 16 = .ok (.bipush 10, 2) := by decide +kernel
theorem dX6_ironOnAnvil_18 : decode cX6_ironOnAnvil 18 = .ok (.iload_n 1, 1) := by decide +kernel
theorem dX6_ironOnAnvil_19 : decode cX6_ironOnAnvil 19 = .ok (.iadd, 1) := by decide +kernel
theorem dX6_ironOnAnvil_20 : decode cX6_ironOnAnvil 20 = .ok (.iload_n 2, 1) := by decide +kernel
theorem dX6_ironOnAnvil_21 : decode cX6_ironOnAnvil 21 = .ok (.invokevirtual 265, 3) := by decide +kernel
theorem dX6_ironOnAnvil_24 : decode cX6_ironOnAnvil 24 = .ok (.goto 5, 3) := by decide +kernel
theorem dX6_ironOnAnvil_27 : decode cX6_ironOnAnvil 27 = .ok (.bipush (-2), 2) := by decide +kernel
theorem dX6_ironOnAnvil_29 : decode cX6_ironOnAnvil 29 = .ok (.ireturn, 1) := by decide +kernel
theorem dX6_finishedBy_0 : decode cX6_finishedBy 0 = .ok (.iload_n 1, 1) := by decide +kernel
theorem dX6_finishedBy_1 : decode cX6_finishedBy 1 = .ok (.iconst 0, 1) := by decide +kernel
theorem dX6_finishedBy_2 : decode cX6_finishedBy 2 = .ok (.sipush 480, 3) := by decide +kernel
theorem dX6_finishedBy_5 : decode cX6_finishedBy 5 = .ok (.invokestatic 75, 3) := by decide +kernel
theorem dX6_finishedBy_8 : decode cX6_finishedBy 8 = .ok (.ifCond .eq 14, 3) := by decide +kernel
theorem dX6_finishedBy_11 : decode cX6_finishedBy 11 = .ok (.aload_n 0, 1) := by decide +kernel
theorem dX6_finishedBy_12 : decode cX6_finishedBy 12 = .ok (.invokevirtual 156, 3) := by decide +kernel
theorem dX6_finishedBy_15 : decode cX6_finishedBy 15 = .ok (.iload_n 1, 1) := by decide +kernel
theorem dX6_finishedBy_16 : decode cX6_finishedBy 16 = .ok (.invokevirtual 268, 3) := by decide +kernel
theorem dX6_finishedBy_19 : decode cX6_finishedBy 19 = .ok (.goto 5, 3) := by decide +kernel
theorem dX6_finishedBy_22 : decode cX6_finishedBy 22 = .ok (.bipush (-2), 2) := by decide +kernel
theorem dX6_finishedBy_24 : decode cX6_finishedBy 24 = .ok (.ireturn, 1) := by decide +kernel
theorem dX6_idleMinutes_0 : decode cX6_idleMinutes 0 = .ok (.aload_n 0, 1) := by decide +kernel
theorem dX6_idleMinutes_1 : decode cX6_idleMinutes 1 = .ok (.invokevirtual 156, 3) := by decide +kernel
theorem dX6_idleMinutes_4 : decode cX6_idleMinutes 4 = .ok (.invokevirtual 271, 3) := by decide +kernel
theorem dX6_idleMinutes_7 : decode cX6_idleMinutes 7 = .ok (.ireturn, 1) := by decide +kernel
theorem dX6_finishWithAnvils_0 : decode cX6_finishWithAnvils 0 = .ok (.aload_n 0, 1) := by decide +kernel
theorem dX6_finishWithAnvils_1 : decode cX6_finishWithAnvils 1 = .ok (.iconst 0, 1) := by decide +kernel
theorem dX6_finishWithAnvils_2 : decode cX6_finishWithAnvils 2 = .ok (.iload_n 1, 1) := by decide +kernel
theorem dX6_finishWithAnvils_3 : decode cX6_finishWithAnvils 3 = .ok (.invokevirtual 220, 3) := by decide +kernel
theorem dX6_finishWithAnvils_6 : decode cX6_finishWithAnvils 6 = .ok (.ireturn, 1) := by decide +kernel
theorem dX6_bestRule_0 : decode cX6_bestRule 0 = .ok (.aload_n 0, 1) := by decide +kernel
theorem dX6_bestRule_1 : decode cX6_bestRule 1 = .ok (.iconst 2, 1) := by decide +kernel
theorem dX6_bestRule_2 : decode cX6_bestRule 2 = .ok (.iconst 1, 1) := by decide +kernel
theorem dX6_bestRule_3 : decode cX6_bestRule 3 = .ok (.invokevirtual 223, 3) := by decide +kernel
theorem dX6_bestRule_6 : decode cX6_bestRule 6 = .ok (.ireturn, 1) := by decide +kernel
theorem dX6_finishWithRate_0 : decode cX6_finishWithRate 0 = .ok (.aload_n 0, 1) := by decide +kernel
theorem dX6_finishWithRate_1 : decode cX6_finishWithRate 1 = .ok (.iload_n 1, 1) := by decide +kernel
theorem dX6_finishWithRate_2 : decode cX6_finishWithRate 2 = .ok (.invokevirtual 134, 3) := by decide +kernel
theorem dX6_finishWithRate_5 : decode cX6_finishWithRate 5 = .ok (.iload_n 2, 1) := by decide +kernel
theorem dX6_finishWithRate_6 : decode cX6_finishWithRate 6 = .ok (.iconst 1, 1) := by decide +kernel
theorem dX6_finishWithRate_7 : decode cX6_finishWithRate 7 = .ok (.sipush 2000, 3) := by decide +kernel
theorem dX6_finishWithRate_10 : decode cX6_finishWithRate 10 = .ok (.invokestatic 75, 3) := by decide +kernel
theorem dX6_finishWithRate_13 : decode cX6_finishWithRate 13 = .ok (.ifCond .ne 6, 3) := by decide +kernel
theorem dX6_finishWithRate_16 : decode cX6_finishWithRate 16 = .ok (.bipush (-2), 2) := by decide +kernel
theorem dX6_finishWithRate_18 : decode cX6_finishWithRate 18 = .ok (.ireturn, 1) := by decide +kernel
theorem dX6_finishWithRate_19 : decode cX6_finishWithRate 19 = .ok (.aload_n 0, 1) := by decide +kernel
theorem dX6_finishWithRate_20 : decode cX6_finishWithRate 20 = .ok (.getfield 46, 3) := by decide +kernel
theorem dX6_finishWithRate_23 : decode cX6_finishWithRate 23 = .ok (.aload_n 0, 1) := by decide +kernel
theorem dX6_finishWithRate_24 : decode cX6_finishWithRate 24 = .ok (.getfield 10, 3) := by decide +kernel
theorem dX6_finishWithRate_27 : decode cX6_finishWithRate 27 = .ok (.invokevirtual 86, 3) := by decide +kernel
theorem dX6_finishWithRate_30 : decode cX6_finishWithRate 30 = .ok (.aload_n 0, 1) := by decide +kernel
theorem dX6_finishWithRate_31 : decode cX6_finishWithRate 31 = .ok (.getfield 46, 3) := by decide +kernel
theorem dX6_finishWithRate_34 : decode cX6_finishWithRate 34 = .ok (.getfield 137, 3) := by decide +kernel
theorem dX6_finishWithRate_37 : decode cX6_finishWithRate 37 = .ok (.iload_n 1, 1) := by decide +kernel
theorem dX6_finishWithRate_38 : decode cX6_finishWithRate 38 = .ok (.iload_n 2, 1) := by decide +kernel
theorem dX6_finishWithRate_39 : decode cX6_finishWithRate 39 = .ok (.iastore, 1) := by decide +kernel
theorem dX6_finishWithRate_40 : decode cX6_finishWithRate 40 = .ok (.aload_n 0, 1) := by decide +kernel
theorem dX6_finishWithRate_41 : decode cX6_finishWithRate 41 = .ok (.getfield 52, 3) := by decide +kernel
theorem dX6_finishWithRate_44 : decode cX6_finishWithRate 44 = .ok (.sipush 480, 3) := by decide +kernel
theorem dX6_finishWithRate_47 : decode cX6_finishWithRate 47 = .ok (.invokevirtual 217, 3) := by decide +kernel
theorem dX6_finishWithRate_50 : decode cX6_finishWithRate 50 = .ok (.ireturn, 1) := by decide +kernel
theorem dX6_leastRate_0 : decode cX6_leastRate 0 = .ok (.aload_n 0, 1) := by decide +kernel
theorem dX6_leastRate_1 : decode cX6_leastRate 1 = .ok (.iload_n 1, 1) := by decide +kernel
theorem dX6_leastRate_2 : decode cX6_leastRate 2 = .ok (.invokevirtual 134, 3) := by decide +kernel
theorem dX6_leastRate_5 : decode cX6_leastRate 5 = .ok (.aload_n 0, 1) := by decide +kernel
theorem dX6_leastRate_6 : decode cX6_leastRate 6 = .ok (.invokevirtual 274, 3) := by decide +kernel
theorem dX6_leastRate_9 : decode cX6_leastRate 9 = .ok (.istore_n 2, 1) := by decide +kernel
theorem dX6_leastRate_10 : decode cX6_leastRate 10 = .ok (.iload_n 2, 1) := by decide +kernel
theorem dX6_leastRate_11 : decode cX6_leastRate 11 = .ok (.iconst (-1), 1) := by decide +kernel
theorem dX6_leastRate_12 : decode cX6_leastRate 12 = .ok (.if_icmp .ne 5, 3) := by decide +kernel
theorem dX6_leastRate_15 : decode cX6_leastRate 15 = .ok (.iconst (-1), 1) := by decide +kernel
theorem dX6_leastRate_16 : decode cX6_leastRate 16 = .ok (.ireturn, 1) := by decide +kernel
theorem dX6_leastRate_17 : decode cX6_leastRate 17 = .ok (.aload_n 0, 1) := by decide +kernel
theorem dX6_leastRate_18 : decode cX6_leastRate 18 = .ok (.getfield 46, 3) := by decide +kernel
theorem dX6_leastRate_21 : decode cX6_leastRate 21 = .ok (.aload_n 0, 1) := by decide +kernel
theorem dX6_leastRate_22 : decode cX6_leastRate 22 = .ok (.getfield 10, 3) := by decide +kernel
theorem dX6_leastRate_25 : decode cX6_leastRate 25 = .ok (.invokevirtual 86, 3) := by decide +kernel
theorem dX6_leastRate_28 : decode cX6_leastRate 28 = .ok (.bipush 20, 2) := by decide +kernel
theorem dX6_leastRate_30 : decode cX6_leastRate 30 = .ok (.istore_n 3, 1) := by decide +kernel
theorem dX6_leastRate_31 : decode cX6_leastRate 31 = .ok (.iload_n 3, 1) := by decide +kernel
theorem dX6_leastRate_32 : decode cX6_leastRate 32 = .ok (.sipush 2000, 3) := by decide +kernel
theorem dX6_leastRate_35 : decode cX6_leastRate 35 = .ok (.if_icmp .gt 33, 3) := by decide +kernel
theorem dX6_leastRate_38 : decode cX6_leastRate 38 = .ok (.aload_n 0, 1) := by decide +kernel
theorem dX6_leastRate_39 : decode cX6_leastRate 39 = .ok (.getfield 46, 3) := by decide +kernel
theorem dX6_leastRate_42 : decode cX6_leastRate 42 = .ok (.getfield 137, 3) := by decide +kernel
theorem dX6_leastRate_45 : decode cX6_leastRate 45 = .ok (.iload_n 1, 1) := by decide +kernel
theorem dX6_leastRate_46 : decode cX6_leastRate 46 = .ok (.iload_n 3, 1) := by decide +kernel
theorem dX6_leastRate_47 : decode cX6_leastRate 47 = .ok (.iastore, 1) := by decide +kernel
theorem dX6_leastRate_48 : decode cX6_leastRate 48 = .ok (.aload_n 0, 1) := by decide +kernel
theorem dX6_leastRate_49 : decode cX6_leastRate 49 = .ok (.getfield 52, 3) := by decide +kernel
theorem dX6_leastRate_52 : decode cX6_leastRate 52 = .ok (.iload_n 2, 1) := by decide +kernel
theorem dX6_leastRate_53 : decode cX6_leastRate 53 = .ok (.invokevirtual 217, 3) := by decide +kernel
theorem dX6_leastRate_56 : decode cX6_leastRate 56 = .ok (.iconst (-1), 1) := by decide +kernel
theorem dX6_leastRate_57 : decode cX6_leastRate 57 = .ok (.if_icmp .eq 5, 3) := by decide +kernel
theorem dX6_leastRate_60 : decode cX6_leastRate 60 = .ok (.iload_n 3, 1) := by decide +kernel
theorem dX6_leastRate_61 : decode cX6_leastRate 61 = .ok (.ireturn, 1) := by decide +kernel
theorem dX6_leastRate_62 : decode cX6_leastRate 62 = .ok (.iinc 3 20, 3) := by decide +kernel
theorem dX6_leastRate_65 : decode cX6_leastRate 65 = .ok (.goto (-34), 3) := by decide +kernel
theorem dX6_leastRate_68 : decode cX6_leastRate 68 = .ok (.iconst (-1), 1) := by decide +kernel
theorem dX6_leastRate_69 : decode cX6_leastRate 69 = .ok (.ireturn, 1) := by decide +kernel
theorem dX6_criticalIrons_0 : decode cX6_criticalIrons 0 = .ok (.aload_n 0, 1) := by decide +kernel
theorem dX6_criticalIrons_1 : decode cX6_criticalIrons 1 = .ok (.invokevirtual 274, 3) := by decide +kernel
theorem dX6_criticalIrons_4 : decode cX6_criticalIrons 4 = .ok (.istore_n 1, 1) := by decide +kernel
theorem dX6_criticalIrons_5 : decode cX6_criticalIrons 5 = .ok (.iconst 0, 1) := by decide +kernel
theorem dX6_criticalIrons_6 : decode cX6_criticalIrons 6 = .ok (.istore_n 2, 1) := by decide +kernel
theorem dX6_criticalIrons_7 : decode cX6_criticalIrons 7 = .ok (.iconst 0, 1) := by decide +kernel
theorem dX6_criticalIrons_8 : decode cX6_criticalIrons 8 = .ok (.istore_n 3, 1) := by decide +kernel
theorem dX6_criticalIrons_9 : decode cX6_criticalIrons 9 = .ok (.iload_n 1, 1) := by decide +kernel
theorem dX6_criticalIrons_10 : decode cX6_criticalIrons 10 = .ok (.iconst (-1), 1) := by decide +kernel
theorem dX6_criticalIrons_11 : decode cX6_criticalIrons 11 = .ok (.if_icmp .eq 45, 3) := by decide +kernel
theorem dX6_criticalIrons_14 : decode cX6_criticalIrons 14 = .ok (.iload_n 3, 1) := by decide +kernel
theorem dX6_criticalIrons_15 : decode cX6_criticalIrons 15 = .ok (.aload_n 0, 1) := by decide +kernel
theorem dX6_criticalIrons_16 : decode cX6_criticalIrons 16 = .ok (.getfield 10, 3) := by decide +kernel
theorem dX6_criticalIrons_19 : decode cX6_criticalIrons 19 = .ok (.getfield 98, 3) := by decide +kernel
theorem dX6_criticalIrons_22 : decode cX6_criticalIrons 22 = .ok (.if_icmp .ge 34, 3) := by decide +kernel
theorem dX6_criticalIrons_25 : decode cX6_criticalIrons 25 = .ok (.aload_n 0, 1) := by decide +kernel
theorem dX6_criticalIrons_26 : decode cX6_criticalIrons 26 = .ok (.iload_n 3, 1) := by decide +kernel
theorem dX6_criticalIrons_27 : decode cX6_criticalIrons 27 = .ok (.invokevirtual 229, 3) := by decide +kernel
theorem dX6_criticalIrons_30 : decode cX6_criticalIrons 30 = .ok (.istore 4, 2) := by decide +kernel
theorem dX6_criticalIrons_32 : decode cX6_criticalIrons 32 = .ok (.iload 4, 2) := by decide +kernel
theorem dX6_criticalIrons_34 : decode cX6_criticalIrons 34 = .ok (.iconst (-1), 1) := by decide +kernel
theorem dX6_criticalIrons_35 : decode cX6_criticalIrons 35 = .ok (.if_icmp .eq 15, 3) := by decide +kernel
theorem dX6_criticalIrons_38 : decode cX6_criticalIrons 38 = .ok (.iload 4, 2) := by decide +kernel
theorem dX6_criticalIrons_40 : decode cX6_criticalIrons 40 = .ok (.iload_n 1, 1) := by decide +kernel
theorem dX6_criticalIrons_41 : decode cX6_criticalIrons 41 = .ok (.if_icmp .ge 9, 3) := by decide +kernel
theorem dX6_criticalIrons_44 : decode cX6_criticalIrons 44 = .ok (.iload_n 2, 1) := by decide +kernel
theorem dX6_criticalIrons_45 : decode cX6_criticalIrons 45 = .ok (.iconst 1, 1) := by decide +kernel
theorem dX6_criticalIrons_46 : decode cX6_criticalIrons 46 = .ok (.iload_n 3, 1) := by decide +kernel
theorem dX6_criticalIrons_47 : decode cX6_criticalIrons 47 = .ok (.ishl, 1) := by decide +kernel
theorem dX6_criticalIrons_48 : decode cX6_criticalIrons 48 = .ok (.ior, 1) := by decide +kernel
theorem dX6_criticalIrons_49 : decode cX6_criticalIrons 49 = .ok (.istore_n 2, 1) := by decide +kernel
theorem dX6_criticalIrons_50 : decode cX6_criticalIrons 50 = .ok (.iinc 3 1, 3) := by decide +kernel
theorem dX6_criticalIrons_53 : decode cX6_criticalIrons 53 = .ok (.goto (-44), 3) := by decide +kernel
theorem dX6_criticalIrons_56 : decode cX6_criticalIrons 56 = .ok (.iload_n 2, 1) := by decide +kernel
theorem dX6_criticalIrons_57 : decode cX6_criticalIrons 57 = .ok (.ireturn, 1) := by decide +kernel
