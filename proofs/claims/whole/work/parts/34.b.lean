theorem dL_mass_0 : decode cL_mass 0 = .ok (.aload_n 2, 1) := by decide +kernel
theorem dL_mass_1 : decode cL_mass 1 = .ok (.iconst 0, 1) := by decide +kernel
theorem dL_mass_2 : decode cL_mass 2 = .ok (.aload_n 0, 1) := by decide +kernel
theorem dL_mass_3 : decode cL_mass 3 = .ok (.iload_n 1, 1) := by decide +kernel
theorem dL_mass_4 : decode cL_mass 4 = .ok (.invokevirtual 7, 3) := by decide +kernel
theorem dL_mass_7 : decode cL_mass 7 = .ok (.i2l, 1) := by decide +kernel
theorem dL_mass_8 : decode cL_mass 8 = .ok (.lastore, 1) := by decide +kernel
theorem dL_mass_9 : decode cL_mass 9 = .ok (.goto 6, 3) := by decide +kernel
theorem dL_mass_12 : decode cL_mass 12 = .ok (.astore_n 3, 1) := by decide +kernel
theorem dL_mass_13 : decode cL_mass 13 = .ok (.iconst 1, 1) := by decide +kernel
theorem dL_mass_14 : decode cL_mass 14 = .ok (.ireturn, 1) := by decide +kernel
theorem dL_mass_15 : decode cL_mass 15 = .ok (.iconst 0, 1) := by decide +kernel
theorem dL_mass_16 : decode cL_mass 16 = .ok (.ireturn, 1) := by decide +kernel
theorem dL_cooling_0 : decode cL_cooling 0 = .ok (.aload_n 2, 1) := by decide +kernel
theorem dL_cooling_1 : decode cL_cooling 1 = .ok (.iconst 0, 1) := by decide +kernel
theorem dL_cooling_2 : decode cL_cooling 2 = .ok (.aload_n 0, 1) := by decide +kernel
theorem dL_cooling_3 : decode cL_cooling 3 = .ok (.iload_n 1, 1) := by decide +kernel
theorem dL_cooling_4 : decode cL_cooling 4 = .ok (.invokevirtual 15, 3) := by decide +kernel
theorem dL_cooling_7 : decode cL_cooling 7 = .ok (.i2l, 1) := by decide +kernel
theorem dL_cooling_8 : decode cL_cooling 8 = .ok (.lastore, 1) := by decide +kernel
theorem dL_cooling_9 : decode cL_cooling 9 = .ok (.goto 6, 3) := by decide +kernel
theorem dL_cooling_12 : decode cL_cooling 12 = .ok (.astore_n 3, 1) := by decide +kernel
theorem dL_cooling_13 : decode cL_cooling 13 = .ok (.iconst 1, 1) := by decide +kernel
theorem dL_cooling_14 : decode cL_cooling 14 = .ok (.ireturn, 1) := by decide +kernel
theorem dL_cooling_15 : decode cL_cooling 15 = .ok (.iconst 0, 1) := by decide +kernel
theorem dL_cooling_16 : decode cL_cooling 16 = .ok (.ireturn, 1) := by decide +kernel
theorem dL_stepCount_0 : decode cL_stepCount 0 = .ok (.aload_n 2, 1) := by decide +kernel
theorem dL_stepCount_1 : decode cL_stepCount 1 = .ok (.iconst 0, 1) := by decide +kernel
theorem dL_stepCount_2 : decode cL_stepCount 2 = .ok (.aload_n 0, 1) := by decide +kernel
theorem dL_stepCount_3 : decode cL_stepCount 3 = .ok (.iload_n 1, 1) := by decide +kernel
theorem dL_stepCount_4 : decode cL_stepCount 4 = .ok (.invokevirtual 18, 3) := by decide +kernel
theorem dL_stepCount_7 : decode cL_stepCount 7 = .ok (.i2l, 1) := by decide +kernel
theorem dL_stepCount_8 : decode cL_stepCount 8 = .ok (.lastore, 1) := by decide +kernel
theorem dL_stepCount_9 : decode cL_stepCount 9 = .ok (.goto 6, 3) := by decide +kernel
theorem dL_stepCount_12 : decode cL_stepCount 12 = .ok (.astore_n 3, 1) := by decide +kernel
theorem dL_stepCount_13 : decode cL_stepCount 13 = .ok (.iconst 1, 1) := by decide +kernel
theorem dL_stepCount_14 : decode cL_stepCount 14 = .ok (.ireturn, 1) := by decide +kernel
theorem dL_stepCount_15 : decode cL_stepCount 15 = .ok (.iconst 0, 1) := by decide +kernel
theorem dL_stepCount_16 : decode cL_stepCount 16 = .ok (.ireturn, 1) := by decide +kernel
theorem dL_stepHeat_0 : decode cL_stepHeat 0 = .ok (.aload_n 3, 1) := by decide +kernel
theorem dL_stepHeat_1 : decode cL_stepHeat 1 = .ok (.iconst 0, 1) := by decide +kernel
theorem dL_stepHeat_2 : decode cL_stepHeat 2 = .ok (.aload_n 0, 1) := by decide +kernel
theorem dL_stepHeat_3 : decode cL_stepHeat 3 = .ok (.iload_n 1, 1) := by decide +kernel
theorem dL_stepHeat_4 : decode cL_stepHeat 4 = .ok (.iload_n 2, 1) := by decide +kernel
theorem dL_stepHeat_5 : decode cL_stepHeat 5 = .ok (.invokevirtual 21, 3) := by decide +kernel
theorem dL_stepHeat_8 : decode cL_stepHeat 8 = .ok (.i2l, 1) := by decide +kernel
theorem dL_stepHeat_9 : decode cL_stepHeat 9 = .ok (.lastore, 1) := by decide +kernel
theorem dL_stepHeat_10 : decode cL_stepHeat 10 = .ok (.goto 7, 3) := by decide +kernel
theorem dL_stepHeat_13 : decode cL_stepHeat 13 = .ok (.astore 4, 2) := by decide +kernel
theorem dL_stepHeat_15 : decode cL_stepHeat 15 = .ok (.iconst 1, 1) := by decide +kernel
theorem dL_stepHeat_16 : decode cL_stepHeat 16 = .ok (.ireturn, 1) := by decide +kernel
theorem dL_stepHeat_17 : decode cL_stepHeat 17 = .ok (.iconst 0, 1) := by decide +kernel
theorem dL_stepHeat_18 : decode cL_stepHeat 18 = .ok (.ireturn, 1) := by decide +kernel
theorem dL_stepMinutes_0 : decode cL_stepMinutes 0 = .ok (.aload_n 3, 1) := by decide +kernel
theorem dL_stepMinutes_1 : decode cL_stepMinutes 1 = .ok (.iconst 0, 1) := by decide +kernel
theorem dL_stepMinutes_2 : decode cL_stepMinutes 2 = .ok (.aload_n 0, 1) := by decide +kernel
theorem dL_stepMinutes_3 : decode cL_stepMinutes 3 = .ok (.iload_n 1, 1) := by decide +kernel
theorem dL_stepMinutes_4 : decode cL_stepMinutes 4 = .ok (.iload_n 2, 1) := by decide +kernel
theorem dL_stepMinutes_5 : decode cL_stepMinutes 5 = .ok (.invokevirtual 25, 3) := by decide +kernel
theorem dL_stepMinutes_8 : decode cL_stepMinutes 8 = .ok (.i2l, 1) := by decide +kernel
theorem dL_stepMinutes_9 : decode cL_stepMinutes 9 = .ok (.lastore, 1) := by decide +kernel
theorem dL_stepMinutes_10 : decode cL_stepMinutes 10 = .ok (.goto 7, 3) := by decide +kernel
theorem dL_stepMinutes_13 : decode cL_stepMinutes 13 = .ok (.astore 4, 2) := by decide +kernel
theorem dL_stepMinutes_15 : decode cL_stepMinutes 15 = .ok (.iconst 1, 1) := by decide +kernel
theorem dL_stepMinutes_16 : decode cL_stepMinutes 16 = .ok (.ireturn, 1) := by decide +kernel
theorem dL_stepMinutes_17 : decode cL_stepMinutes 17 = .ok (.iconst 0, 1) := by decide +kernel
theorem dL_stepMinutes_18 : decode cL_stepMinutes 18 = .ok (.ireturn, 1) := by decide +kernel
theorem dL_placeRate_0 : decode cL_placeRate 0 = .ok (.aload_n 2, 1) := by decide +kernel
theorem dL_placeRate_1 : decode cL_placeRate 1 = .ok (.iconst 0, 1) := by decide +kernel
theorem dL_placeRate_2 : decode cL_placeRate 2 = .ok (.aload_n 0, 1) := by decide +kernel
theorem dL_placeRate_3 : decode cL_placeRate 3 = .ok (.iload_n 1, 1) := by decide +kernel
theorem dL_placeRate_4 : decode cL_placeRate 4 = .ok (.invokevirtual 28, 3) := by decide +kernel
theorem dL_placeRate_7 : decode cL_placeRate 7 = .ok (.i2l, 1) := by decide +kernel
theorem dL_placeRate_8 : decode cL_placeRate 8 = .ok (.lastore, 1) := by decide +kernel
theorem dL_placeRate_9 : decode cL_placeRate 9 = .ok (.goto 6, 3) := by decide +kernel
theorem dL_placeRate_12 : decode cL_placeRate 12 = .ok (.astore_n 3, 1) := by decide +kernel
theorem dL_placeRate_13 : decode cL_placeRate 13 = .ok (.iconst 1, 1) := by decide +kernel
theorem dL_placeRate_14 : decode cL_placeRate 14 = .ok (.ireturn, 1) := by decide +kernel
theorem dL_placeRate_15 : decode cL_placeRate 15 = .ok (.iconst 0, 1) := by decide +kernel
theorem dL_placeRate_16 : decode cL_placeRate 16 = .ok (.ireturn, 1) := by decide +kernel
theorem dL_placeLimit_0 : decode cL_placeLimit 0 = .ok (.aload_n 2, 1) := by decide +kernel
theorem dL_placeLimit_1 : decode cL_placeLimit 1 = .ok (.iconst 0, 1) := by decide +kernel
theorem dL_placeLimit_2 : decode cL_placeLimit 2 = .ok (.aload_n 0, 1) := by decide +kernel
theorem dL_placeLimit_3 : decode cL_placeLimit 3 = .ok (.iload_n 1, 1) := by decide +kernel
theorem dL_placeLimit_4 : decode cL_placeLimit 4 = .ok (.invokevirtual 31, 3) := by decide +kernel
theorem dL_placeLimit_7 : decode cL_placeLimit 7 = .ok (.i2l, 1) := by decide +kernel
theorem dL_placeLimit_8 : decode cL_placeLimit 8 = .ok (.lastore, 1) := by decide +kernel
theorem dL_placeLimit_9 : decode cL_placeLimit 9 = .ok (.goto 6, 3) := by decide +kernel
theorem dL_placeLimit_12 : decode cL_placeLimit 12 = .ok (.astore_n 3, 1) := by decide +kernel
theorem dL_placeLimit_13 : decode cL_placeLimit 13 = .ok (.iconst 1, 1) := by decide +kernel
theorem dL_placeLimit_14 : decode cL_placeLimit 14 = .ok (.ireturn, 1) := by decide +kernel
theorem dL_placeLimit_15 : decode cL_placeLimit 15 = .ok (.iconst 0, 1) := by decide +kernel
theorem dL_placeLimit_16 : decode cL_placeLimit 16 = .ok (.ireturn, 1) := by decide +kernel
theorem dL_ironAt_0 : decode cL_ironAt 0 = .ok (.aload_n 2, 1) := by decide +kernel
theorem dL_ironAt_1 : decode cL_ironAt 1 = .ok (.iconst 0, 1) := by decide +kernel
theorem dL_ironAt_2 : decode cL_ironAt 2 = .ok (.aload_n 0, 1) := by decide +kernel
theorem dL_ironAt_3 : decode cL_ironAt 3 = .ok (.iload_n 1, 1) := by decide +kernel
theorem dL_ironAt_4 : decode cL_ironAt 4 = .ok (.invokevirtual 34, 3) := by decide +kernel
theorem dL_ironAt_7 : decode cL_ironAt 7 = .ok (.i2l, 1) := by decide +kernel
theorem dL_ironAt_8 : decode cL_ironAt 8 = .ok (.lastore, 1) := by decide +kernel
theorem dL_ironAt_9 : decode cL_ironAt 9 = .ok (.goto 6, 3) := by decide +kernel
theorem dL_ironAt_12 : decode cL_ironAt 12 = .ok (.astore_n 3, 1) := by decide +kernel
theorem dL_ironAt_13 : decode cL_ironAt 13 = .ok (.iconst 1, 1) := by decide +kernel
theorem dL_ironAt_14 : decode cL_ironAt 14 = .ok (.ireturn, 1) := by decide +kernel
theorem dL_ironAt_15 : decode cL_ironAt 15 = .ok (.iconst 0, 1) := by decide +kernel
theorem dL_ironAt_16 : decode cL_ironAt 16 = .ok (.ireturn, 1) := by decide +kernel
theorem dL_positionOf_0 : decode cL_positionOf 0 = .ok (.aload_n 2, 1) := by decide +kernel
theorem dL_positionOf_1 : decode cL_positionOf 1 = .ok (.iconst 0, 1) := by decide +kernel
theorem dL_positionOf_2 : decode cL_positionOf 2 = .ok (.aload_n 0, 1) := by decide +kernel
theorem dL_positionOf_3 : decode cL_positionOf 3 = .ok (.iload_n 1, 1) := by decide +kernel
theorem dL_positionOf_4 : decode cL_positionOf 4 = .ok (.invokevirtual 37, 3) := by decide +kernel
theorem dL_positionOf_7 : decode cL_positionOf 7 = .ok (.i2l, 1) := by decide +kernel
theorem dL_positionOf_8 : decode cL_positionOf 8 = .ok (.lastore, 1) := by decide +kernel
theorem dL_positionOf_9 : decode cL_positionOf 9 = .ok (.goto 6, 3) := by decide +kernel
theorem dL_positionOf_12 : decode cL_positionOf 12 = .ok (.astore_n 3, 1) := by decide +kernel
theorem dL_positionOf_13 : decode cL_positionOf 13 = .ok (.iconst 1, 1) := by decide +kernel
theorem dL_positionOf_14 : decode cL_positionOf 14 = .ok (.ireturn, 1) := by decide +kernel
theorem dL_positionOf_15 : decode cL_positionOf 15 = .ok (.iconst 0, 1) := by decide +kernel
theorem dL_positionOf_16 : decode cL_positionOf 16 = .ok (.ireturn, 1) := by decide +kernel
theorem dL_finishOf_0 : decode cL_finishOf 0 = .ok (.aload_n 2, 1) := by decide +kernel
theorem dL_finishOf_1 : decode cL_finishOf 1 = .ok (.iconst 0, 1) := by decide +kernel
theorem dL_finishOf_2 : decode cL_finishOf 2 = .ok (.aload_n 0, 1) := by decide +kernel
theorem dL_finishOf_3 : decode cL_finishOf 3 = .ok (.iload_n 1, 1) := by decide +kernel
theorem dL_finishOf_4 : decode cL_finishOf 4 = .ok (.invokevirtual 40, 3) := by decide +kernel
theorem dL_finishOf_7 : decode cL_finishOf 7 = .ok (.i2l, 1) := by decide +kernel
theorem dL_finishOf_8 : decode cL_finishOf 8 = .ok (.lastore, 1) := by decide +kernel
theorem dL_finishOf_9 : decode cL_finishOf 9 = .ok (.goto 6, 3) := by decide +kernel
theorem dL_finishOf_12 : decode cL_finishOf 12 = .ok (.astore_n 3, 1) := by decide +kernel
theorem dL_finishOf_13 : decode cL_finishOf 13 = .ok (.iconst 1, 1) := by decide +kernel
theorem dL_finishOf_14 : decode cL_finishOf 14 = .ok (.ireturn, 1) := by decide +kernel
theorem dL_finishOf_15 : decode cL_finishOf 15 = .ok (.iconst 0, 1) := by decide +kernel
theorem dL_finishOf_16 : decode cL_finishOf 16 = .ok (.ireturn, 1) := by decide +kernel
theorem dL_heatAfter_0 : decode cL_heatAfter 0 = .ok (.aload_n 3, 1) := by decide +kernel
theorem dL_heatAfter_1 : decode cL_heatAfter 1 = .ok (.iconst 0, 1) := by decide +kernel
theorem dL_heatAfter_2 : decode cL_heatAfter 2 = .ok (.aload_n 0, 1) := by decide +kernel
theorem dL_heatAfter_3 : decode cL_heatAfter 3 = .ok (.iload_n 1, 1) := by decide +kernel
theorem dL_heatAfter_4 : decode cL_heatAfter 4 = .ok (.iload_n 2, 1) := by decide +kernel
theorem dL_heatAfter_5 : decode cL_heatAfter 5 = .ok (.invokevirtual 43, 3) := by decide +kernel
theorem dL_heatAfter_8 : decode cL_heatAfter 8 = .ok (.i2l, 1) := by decide +kernel
theorem dL_heatAfter_9 : decode cL_heatAfter 9 = .ok (.lastore, 1) := by decide +kernel
theorem dL_heatAfter_10 : decode cL_heatAfter 10 = .ok (.goto 7, 3) := by decide +kernel
theorem dL_heatAfter_13 : decode cL_heatAfter 13 = .ok (.astore 4, 2) := by decide +kernel
theorem dL_heatAfter_15 : decode cL_heatAfter 15 = .ok (.iconst 1, 1) := by decide +kernel
theorem dL_heatAfter_16 : decode cL_heatAfter 16 = .ok (.ireturn, 1) := by decide +kernel
theorem dL_heatAfter_17 : decode cL_heatAfter 17 = .ok (.iconst 0, 1) := by decide +kernel
theorem dL_heatAfter_18 : decode cL_heatAfter 18 = .ok (.ireturn, 1) := by decide +kernel
theorem dL_whereIn_0 : decode cL_whereIn 0 = .ok (.aload_n 3, 1) := by decide +kernel
theorem dL_whereIn_1 : decode cL_whereIn 1 = .ok (.iconst 0, 1) := by decide +kernel
theorem dL_whereIn_2 : decode cL_whereIn 2 = .ok (.aload_n 0, 1) := by decide +kernel
theorem dL_whereIn_3 : decode cL_whereIn 3 = .ok (.iload_n 1, 1) := by decide +kernel
theorem dL_whereIn_4 : decode cL_whereIn 4 = .ok (.iload_n 2, 1) := by decide +kernel
theorem dL_whereIn_5 : decode cL_whereIn 5 = .ok (.invokevirtual 46, 3) := by decide +kernel
theorem dL_whereIn_8 : decode cL_whereIn 8 = .ok (.i2l, 1) := by decide +kernel
theorem dL_whereIn_9 : decode cL_whereIn 9 = .ok (.lastore, 1) := by decide +kernel
theorem dL_whereIn_10 : decode cL_whereIn 10 = .ok (.goto 7, 3) := by decide +kernel
theorem dL_whereIn_13 : decode cL_whereIn 13 = .ok (.astore 4, 2) := by decide +kernel
theorem dL_whereIn_15 : decode cL_whereIn 15 = .ok (.iconst 1, 1) := by decide +kernel
theorem dL_whereIn_16 : decode cL_whereIn 16 = .ok (.ireturn, 1) := by decide +kernel
theorem dL_whereIn_17 : decode cL_whereIn 17 = .ok (.iconst 0, 1) := by decide +kernel
theorem dL_whereIn_18 : decode cL_whereIn 18 = .ok (.ireturn, 1) := by decide +kernel
theorem dL_stepsAfter_0 : decode cL_stepsAfter 0 = .ok (.aload_n 3, 1) := by decide +kernel
theorem dL_stepsAfter_1 : decode cL_stepsAfter 1 = .ok (.iconst 0, 1) := by decide +kernel
theorem dL_stepsAfter_2 : decode cL_stepsAfter 2 = .ok (.aload_n 0, 1) := by decide +kernel
theorem dL_stepsAfter_3 : decode cL_stepsAfter 3 = .ok (.iload_n 1, 1) := by decide +kernel
theorem dL_stepsAfter_4 : decode cL_stepsAfter 4 = .ok (.iload_n 2, 1) := by decide +kernel
theorem dL_stepsAfter_5 : decode cL_stepsAfter 5 = .ok (.invokevirtual 49, 3) := by decide +kernel
theorem dL_stepsAfter_8 : decode cL_stepsAfter 8 = .ok (.i2l, 1) := by decide +kernel
theorem dL_stepsAfter_9 : decode cL_stepsAfter 9 = .ok (.lastore, 1) := by decide +kernel
theorem dL_stepsAfter_10 : decode cL_stepsAfter 10 = .ok (.goto 7, 3) := by decide +kernel
theorem dL_stepsAfter_13 : decode cL_stepsAfter 13 = .ok (.astore 4, 2) := by decide +kernel
theorem dL_stepsAfter_15 : decode cL_stepsAfter 15 = .ok (.iconst 1, 1) := by decide +kernel
theorem dL_stepsAfter_16 : decode cL_stepsAfter 16 = .ok (.ireturn, 1) := by decide +kernel
theorem dL_stepsAfter_17 : decode cL_stepsAfter 17 = .ok (.iconst 0, 1) := by decide +kernel
theorem dL_stepsAfter_18 : decode cL_stepsAfter 18 = .ok (.ireturn, 1) := by decide +kernel
theorem dL_coldStops_0 : decode cL_coldStops 0 = .ok (.aload_n 2, 1) := by decide +kernel
theorem dL_coldStops_1 : decode cL_coldStops 1 = .ok (.iconst 0, 1) := by decide +kernel
theorem dL_coldStops_2 : decode cL_coldStops 2 = .ok (.aload_n 0, 1) := by decide +kernel
theorem dL_coldStops_3 : decode cL_coldStops 3 = .ok (.iload_n 1, 1) := by decide +kernel
theorem dL_coldStops_4 : decode cL_coldStops 4 = .ok (.invokevirtual 52, 3) := by decide +kernel
theorem dL_coldStops_7 : decode cL_coldStops 7 = .ok (.i2l, 1) := by decide +kernel
theorem dL_coldStops_8 : decode cL_coldStops 8 = .ok (.lastore, 1) := by decide +kernel
theorem dL_coldStops_9 : decode cL_coldStops 9 = .ok (.goto 6, 3) := by decide +kernel
theorem dL_coldStops_12 : decode cL_coldStops 12 = .ok (.astore_n 3, 1) := by decide +kernel
theorem dL_coldStops_13 : decode cL_coldStops 13 = .ok (.iconst 1, 1) := by decide +kernel
theorem dL_coldStops_14 : decode cL_coldStops 14 = .ok (.ireturn, 1) := by decide +kernel
theorem dL_coldStops_15 : decode cL_coldStops 15 = .ok (.iconst 0, 1) := by decide +kernel
theorem dL_coldStops_16 : decode cL_coldStops 16 = .ok (.ireturn, 1) := by decide +kernel
theorem dL_heats_0 : decode cL_heats 0 = .ok (.aload_n 2, 1) := by decide +kernel
theorem dL_heats_1 : decode cL_heats 1 = .ok (.iconst 0, 1) := by decide +kernel
theorem dL_heats_2 : decode cL_heats 2 = .ok (.aload_n 0, 1) := by decide +kernel
theorem dL_heats_3 : decode cL_heats 3 = .ok (.iload_n 1, 1) := by decide +kernel
theorem dL_heats_4 : decode cL_heats 4 = .ok (.invokevirtual 55, 3) := by decide +kernel
theorem dL_heats_7 : decode cL_heats 7 = .ok (.i2l, 1) := by decide +kernel
theorem dL_heats_8 : decode cL_heats 8 = .ok (.lastore, 1) := by decide +kernel
theorem dL_heats_9 : decode cL_heats 9 = .ok (.goto 6, 3) := by decide +kernel
theorem dL_heats_12 : decode cL_heats 12 = .ok (.astore_n 3, 1) := by decide +kernel
theorem dL_heats_13 : decode cL_heats 13 = .ok (.iconst 1, 1) := by decide +kernel
theorem dL_heats_14 : decode cL_heats 14 = .ok (.ireturn, 1) := by decide +kernel
theorem dL_heats_15 : decode cL_heats 15 = .ok (.iconst 0, 1) := by decide +kernel
theorem dL_heats_16 : decode cL_heats 16 = .ok (.ireturn, 1) := by decide +kernel
theorem dL_fireMinutes_0 : decode cL_fireMinutes 0 = .ok (.aload_n 2, 1) := by decide +kernel
theorem dL_fireMinutes_1 : decode cL_fireMinutes 1 = .ok (.iconst 0, 1) := by decide +kernel
theorem dL_fireMinutes_2 : decode cL_fireMinutes 2 = .ok (.aload_n 0, 1) := by decide +kernel
theorem dL_fireMinutes_3 : decode cL_fireMinutes 3 = .ok (.iload_n 1, 1) := by decide +kernel
theorem dL_fireMinutes_4 : decode cL_fireMinutes 4 = .ok (.invokevirtual 58, 3) := by decide +kernel
theorem dL_fireMinutes_7 : decode cL_fireMinutes 7 = .ok (.i2l, 1) := by decide +kernel
theorem dL_fireMinutes_8 : decode cL_fireMinutes 8 = .ok (.lastore, 1) := by decide +kernel
theorem dL_fireMinutes_9 : decode cL_fireMinutes 9 = .ok (.goto 6, 3) := by decide +kernel
theorem dL_fireMinutes_12 : decode cL_fireMinutes 12 = .ok (.astore_n 3, 1) := by decide +kernel
theorem dL_fireMinutes_13 : decode cL_fireMinutes 13 = .ok (.iconst 1, 1) := by decide +kernel
theorem dL_fireMinutes_14 : decode cL_fireMinutes 14 = .ok (.ireturn, 1) := by decide +kernel
theorem dL_fireMinutes_15 : decode cL_fireMinutes 15 = .ok (.iconst 0, 1) := by decide +kernel
theorem dL_fireMinutes_16 : decode cL_fireMinutes 16 = .ok (.ireturn, 1) := by decide +kernel
theorem dL_anvilMinutes_0 : decode cL_anvilMinutes 0 = .ok (.aload_n 2, 1) := by decide +kernel
theorem dL_anvilMinutes_1 : decode cL_anvilMinutes 1 = .ok (.iconst 0, 1) := by decide +kernel
theorem dL_anvilMinutes_2 : decode cL_anvilMinutes 2 = .ok (.aload_n 0, 1) := by decide +kernel
theorem dL_anvilMinutes_3 : decode cL_anvilMinutes 3 = .ok (.iload_n 1, 1) := by decide +kernel
theorem dL_anvilMinutes_4 : decode cL_anvilMinutes 4 = .ok (.invokevirtual 61, 3) := by decide +kernel
theorem dL_anvilMinutes_7 : decode cL_anvilMinutes 7 = .ok (.i2l, 1) := by decide +kernel
theorem dL_anvilMinutes_8 : decode cL_anvilMinutes 8 = .ok (.lastore, 1) := by decide +kernel
theorem dL_anvilMinutes_9 : decode cL_anvilMinutes 9 = .ok (.goto 6, 3) := by decide +kernel
theorem dL_anvilMinutes_12 : decode cL_anvilMinutes 12 = .ok (.astore_n 3, 1) := by decide +kernel
theorem dL_anvilMinutes_13 : decode cL_anvilMinutes 13 = .ok (.iconst 1, 1) := by decide +kernel
theorem dL_anvilMinutes_14 : decode cL_anvilMinutes 14 = .ok (.ireturn, 1) := by decide +kernel
theorem dL_anvilMinutes_15 : decode cL_anvilMinutes 15 = .ok (.iconst 0, 1) := by decide +kernel
theorem dL_anvilMinutes_16 : decode cL_anvilMinutes 16 = .ok (.ireturn, 1) := by decide +kernel
theorem dL_placeMinutes_0 : decode cL_placeMinutes 0 = .ok (.aload_n 2, 1) := by decide +kernel
theorem dL_placeMinutes_1 : decode cL_placeMinutes 1 = .ok (.iconst 0, 1) := by decide +kernel
theorem dL_placeMinutes_2 : decode cL_placeMinutes 2 = .ok (.aload_n 0, 1) := by decide +kernel
theorem dL_placeMinutes_3 : decode cL_placeMinutes 3 = .ok (.iload_n 1, 1) := by decide +kernel
theorem dL_placeMinutes_4 : decode cL_placeMinutes 4 = .ok (.invokevirtual 64, 3) := by decide +kernel
theorem dL_placeMinutes_7 : decode cL_placeMinutes 7 = .ok (.i2l, 1) := by decide +kernel
theorem dL_placeMinutes_8 : decode cL_placeMinutes 8 = .ok (.lastore, 1) := by decide +kernel
theorem dL_placeMinutes_9 : decode cL_placeMinutes 9 = .ok (.goto 6, 3) := by decide +kernel
theorem dL_placeMinutes_12 : decode cL_placeMinutes 12 = .ok (.astore_n 3, 1) := by decide +kernel
theorem dL_placeMinutes_13 : decode cL_placeMinutes 13 = .ok (.iconst 1, 1) := by decide +kernel
theorem dL_placeMinutes_14 : decode cL_placeMinutes 14 = .ok (.ireturn, 1) := by decide +kernel
theorem dL_placeMinutes_15 : decode cL_placeMinutes 15 = .ok (.iconst 0, 1) := by decide +kernel
theorem dL_placeMinutes_16 : decode cL_placeMinutes 16 = .ok (.ireturn, 1) := by decide +kernel
theorem dL_hottest_0 : decode cL_hottest 0 = .ok (.aload_n 2, 1) := by decide +kernel
theorem dL_hottest_1 : decode cL_hottest 1 = .ok (.iconst 0, 1) := by decide +kernel
theorem dL_hottest_2 : decode cL_hottest 2 = .ok (.aload_n 0, 1) := by decide +kernel
theorem dL_hottest_3 : decode cL_hottest 3 = .ok (.iload_n 1, 1) := by decide +kernel
theorem dL_hottest_4 : decode cL_hottest 4 = .ok (.invokevirtual 67, 3) := by decide +kernel
theorem dL_hottest_7 : decode cL_hottest 7 = .ok (.i2l, 1) := by decide +kernel
theorem dL_hottest_8 : decode cL_hottest 8 = .ok (.lastore, 1) := by decide +kernel
theorem dL_hottest_9 : decode cL_hottest 9 = .ok (.goto 6, 3) := by decide +kernel
theorem dL_hottest_12 : decode cL_hottest 12 = .ok (.astore_n 3, 1) := by decide +kernel
theorem dL_hottest_13 : decode cL_hottest 13 = .ok (.iconst 1, 1) := by decide +kernel
theorem dL_hottest_14 : decode cL_hottest 14 = .ok (.ireturn, 1) := by decide +kernel
theorem dL_hottest_15 : decode cL_hottest 15 = .ok (.iconst 0, 1) := by decide +kernel
theorem dL_hottest_16 : decode cL_hottest 16 = .ok (.ireturn, 1) := by decide +kernel
theorem dL_bestIronAt_0 : decode cL_bestIronAt 0 = .ok (.aload_n 2, 1) := by decide +kernel
theorem dL_bestIronAt_1 : decode cL_bestIronAt 1 = .ok (.iconst 0, 1) := by decide +kernel
theorem dL_bestIronAt_2 : decode cL_bestIronAt 2 = .ok (.aload_n 0, 1) := by decide +kernel
theorem dL_bestIronAt_3 : decode cL_bestIronAt 3 = .ok (.iload_n 1, 1) := by decide +kernel
theorem dL_bestIronAt_4 : decode cL_bestIronAt 4 = .ok (.invokevirtual 70, 3) := by decide +kernel
theorem dL_bestIronAt_7 : decode cL_bestIronAt 7 = .ok (.i2l, 1) := by decide +kernel
theorem dL_bestIronAt_8 : decode cL_bestIronAt 8 = .ok (.lastore, 1) := by decide +kernel
theorem dL_bestIronAt_9 : decode cL_bestIronAt 9 = .ok (.goto 6, 3) := by decide +kernel
theorem dL_bestIronAt_12 : decode cL_bestIronAt 12 = .ok (.astore_n 3, 1) := by decide +kernel
theorem dL_bestIronAt_13 : decode cL_bestIronAt 13 = .ok (.iconst 1, 1) := by decide +kernel
theorem dL_bestIronAt_14 : decode cL_bestIronAt 14 = .ok (.ireturn, 1) := by decide +kernel
theorem dL_bestIronAt_15 : decode cL_bestIronAt 15 = .ok (.iconst 0, 1) := by decide +kernel
theorem dL_bestIronAt_16 : decode cL_bestIronAt 16 = .ok (.ireturn, 1) := by decide +kernel
theorem dL_finishWithSwap_0 : decode cL_finishWithSwap 0 = .ok (.aload_n 3, 1) := by decide +kernel
theorem dL_finishWithSwap_1 : decode cL_finishWithSwap 1 = .ok (.iconst 0, 1) := by decide +kernel
theorem dL_finishWithSwap_2 : decode cL_finishWithSwap 2 = .ok (.aload_n 0, 1) := by decide +kernel
theorem dL_finishWithSwap_3 : decode cL_finishWithSwap 3 = .ok (.iload_n 1, 1) := by decide +kernel
theorem dL_finishWithSwap_4 : decode cL_finishWithSwap 4 = .ok (.iload_n 2, 1) := by decide +kernel
theorem dL_finishWithSwap_5 : decode cL_finishWithSwap 5 = .ok (.invokevirtual 73, 3) := by decide +kernel
theorem dL_finishWithSwap_8 : decode cL_finishWithSwap 8 = .ok (.i2l, 1) := by decide +kernel
theorem dL_finishWithSwap_9 : decode cL_finishWithSwap 9 = .ok (.lastore, 1) := by decide +kernel
theorem dL_finishWithSwap_10 : decode cL_finishWithSwap 10 = .ok (.goto 7, 3) := by decide +kernel
theorem dL_finishWithSwap_13 : decode cL_finishWithSwap 13 = .ok (.astore 4, 2) := by decide +kernel
theorem dL_finishWithSwap_15 : decode cL_finishWithSwap 15 = .ok (.iconst 1, 1) := by decide +kernel
theorem dL_finishWithSwap_16 : decode cL_finishWithSwap 16 = .ok (.ireturn, 1) := by decide +kernel
theorem dL_finishWithSwap_17 : decode cL_finishWithSwap 17 = .ok (.iconst 0, 1) := by decide +kernel
theorem dL_finishWithSwap_18 : decode cL_finishWithSwap 18 = .ok (.ireturn, 1) := by decide +kernel
theorem dL_finishWithoutPlace_0 : decode cL_finishWithoutPlace 0 = .ok (.aload_n 2, 1) := by decide +kernel
theorem dL_finishWithoutPlace_1 : decode cL_finishWithoutPlace 1 = .ok (.iconst 0, 1) := by decide +kernel
theorem dL_finishWithoutPlace_2 : decode cL_finishWithoutPlace 2 = .ok (.aload_n 0, 1) := by decide +kernel
theorem dL_finishWithoutPlace_3 : decode cL_finishWithoutPlace 3 = .ok (.iload_n 1, 1) := by decide +kernel
theorem dL_finishWithoutPlace_4 : decode cL_finishWithoutPlace 4 = .ok (.invokevirtual 76, 3) := by decide +kernel
theorem dL_finishWithoutPlace_7 : decode cL_finishWithoutPlace 7 = .ok (.i2l, 1) := by decide +kernel
theorem dL_finishWithoutPlace_8 : decode cL_finishWithoutPlace 8 = .ok (.lastore, 1) := by decide +kernel
theorem dL_finishWithoutPlace_9 : decode cL_finishWithoutPlace 9 = .ok (.goto 6, 3) := by decide +kernel
theorem dL_finishWithoutPlace_12 : decode cL_finishWithoutPlace 12 = .ok (.astore_n 3, 1) := by decide +kernel
theorem dL_finishWithoutPlace_13 : decode cL_finishWithoutPlace 13 = .ok (.iconst 1, 1) := by decide +kernel
theorem dL_finishWithoutPlace_14 : decode cL_finishWithoutPlace 14 = .ok (.ireturn, 1) := by decide +kernel
theorem dL_finishWithoutPlace_15 : decode cL_finishWithoutPlace 15 = .ok (.iconst 0, 1) := by decide +kernel
theorem dL_finishWithoutPlace_16 : decode cL_finishWithoutPlace 16 = .ok (.ireturn, 1) := by decide +kernel
theorem dL_finishWithoutIron_0 : decode cL_finishWithoutIron 0 = .ok (.aload_n 2, 1) := by decide +kernel
theorem dL_finishWithoutIron_1 : decode cL_finishWithoutIron 1 = .ok (.iconst 0, 1) := by decide +kernel
theorem dL_finishWithoutIron_2 : decode cL_finishWithoutIron 2 = .ok (.aload_n 0, 1) := by decide +kernel
theorem dL_finishWithoutIron_3 : decode cL_finishWithoutIron 3 = .ok (.iload_n 1, 1) := by decide +kernel
theorem dL_finishWithoutIron_4 : decode cL_finishWithoutIron 4 = .ok (.invokevirtual 79, 3) := by decide +kernel
theorem dL_finishWithoutIron_7 : decode cL_finishWithoutIron 7 = .ok (.i2l, 1) := by decide +kernel
theorem dL_finishWithoutIron_8 : decode cL_finishWithoutIron 8 = .ok (.lastore, 1) := by decide +kernel
theorem dL_finishWithoutIron_9 : decode cL_finishWithoutIron 9 = .ok (.goto 6, 3) := by decide +kernel
theorem dL_finishWithoutIron_12 : decode cL_finishWithoutIron 12 = .ok (.astore_n 3, 1) := by decide +kernel
theorem dL_finishWithoutIron_13 : decode cL_finishWithoutIron 13 = .ok (.iconst 1, 1) := by decide +kernel
theorem dL_finishWithoutIron_14 : decode cL_finishWithoutIron 14 = .ok (.ireturn, 1) := by decide +kernel
theorem dL_finishWithoutIron_15 : decode cL_finishWithoutIron 15 = .ok (.iconst 0, 1) := by decide +kernel
theorem dL_finishWithoutIron_16 : decode cL_finishWithoutIron 16 = .ok (.ireturn, 1) := by decide +kernel
theorem dL_finishAlone_0 : decode cL_finishAlone 0 = .ok (.aload_n 2, 1) := by decide +kernel
theorem dL_finishAlone_1 : decode cL_finishAlone 1 = .ok (.iconst 0, 1) := by decide +kernel
theorem dL_finishAlone_2 : decode cL_finishAlone 2 = .ok (.aload_n 0, 1) := by decide +kernel
theorem dL_finishAlone_3 : decode cL_finishAlone 3 = .ok (.iload_n 1, 1) := by decide +kernel
theorem dL_finishAlone_4 : decode cL_finishAlone 4 = .ok (.invokevirtual 82, 3) := by decide +kernel
theorem dL_finishAlone_7 : decode cL_finishAlone 7 = .ok (.i2l, 1) := by decide +kernel
theorem dL_finishAlone_8 : decode cL_finishAlone 8 = .ok (.lastore, 1) := by decide +kernel
theorem dL_finishAlone_9 : decode cL_finishAlone 9 = .ok (.goto 6, 3) := by decide +kernel
theorem dL_finishAlone_12 : decode cL_finishAlone 12 = .ok (.astore_n 3, 1) := by decide +kernel
theorem dL_finishAlone_13 : decode cL_finishAlone 13 = .ok (.iconst 1, 1) := by decide +kernel
theorem dL_finishAlone_14 : decode cL_finishAlone 14 = .ok (.ireturn, 1) := by decide +kernel
theorem dL_finishAlone_15 : decode cL_finishAlone 15 = .ok (.iconst 0, 1) := by decide +kernel
theorem dL_finishAlone_16 : decode cL_finishAlone 16 = .ok (.ireturn, 1) := by decide +kernel
theorem dL_rackMinutes_0 : decode cL_rackMinutes 0 = .ok (.aload_n 2, 1) := by decide +kernel
theorem dL_rackMinutes_1 : decode cL_rackMinutes 1 = .ok (.iconst 0, 1) := by decide +kernel
theorem dL_rackMinutes_2 : decode cL_rackMinutes 2 = .ok (.aload_n 0, 1) := by decide +kernel
theorem dL_rackMinutes_3 : decode cL_rackMinutes 3 = .ok (.iload_n 1, 1) := by decide +kernel
theorem dL_rackMinutes_4 : decode cL_rackMinutes 4 = .ok (.invokevirtual 85, 3) := by decide +kernel
theorem dL_rackMinutes_7 : decode cL_rackMinutes 7 = .ok (.i2l, 1) := by decide +kernel
theorem dL_rackMinutes_8 : decode cL_rackMinutes 8 = .ok (.lastore, 1) := by decide +kernel
theorem dL_rackMinutes_9 : decode cL_rackMinutes 9 = .ok (.goto 6, 3) := by decide +kernel
theorem dL_rackMinutes_12 : decode cL_rackMinutes 12 = .ok (.astore_n 3, 1) := by decide +kernel
theorem dL_rackMinutes_13 : decode cL_rackMinutes 13 = .ok (.iconst 1, 1) := by decide +kernel
theorem dL_rackMinutes_14 : decode cL_rackMinutes 14 = .ok (.ireturn, 1) := by decide +kernel
theorem dL_rackMinutes_15 : decode cL_rackMinutes 15 = .ok (.iconst 0, 1) := by decide +kernel
theorem dL_rackMinutes_16 : decode cL_rackMinutes 16 = .ok (.ireturn, 1) := by decide +kernel
theorem dL_firstWork_0 : decode cL_firstWork 0 = .ok (.aload_n 2, 1) := by decide +kernel
theorem dL_firstWork_1 : decode cL_firstWork 1 = .ok (.iconst 0, 1) := by decide +kernel
theorem dL_firstWork_2 : decode cL_firstWork 2 = .ok (.aload_n 0, 1) := by decide +kernel
theorem dL_firstWork_3 : decode cL_firstWork 3 = .ok (.iload_n 1, 1) := by decide +kernel
theorem dL_firstWork_4 : decode cL_firstWork 4 = .ok (.invokevirtual 88, 3) := by decide +kernel
theorem dL_firstWork_7 : decode cL_firstWork 7 = .ok (.i2l, 1) := by decide +kernel
theorem dL_firstWork_8 : decode cL_firstWork 8 = .ok (.lastore, 1) := by decide +kernel
theorem dL_firstWork_9 : decode cL_firstWork 9 = .ok (.goto 6, 3) := by decide +kernel
theorem dL_firstWork_12 : decode cL_firstWork 12 = .ok (.astore_n 3, 1) := by decide +kernel
theorem dL_firstWork_13 : decode cL_firstWork 13 = .ok (.iconst 1, 1) := by decide +kernel
theorem dL_firstWork_14 : decode cL_firstWork 14 = .ok (.ireturn, 1) := by decide +kernel
theorem dL_firstWork_15 : decode cL_firstWork 15 = .ok (.iconst 0, 1) := by decide +kernel
theorem dL_firstWork_16 : decode cL_firstWork 16 = .ok (.ireturn, 1) := by decide +kernel
theorem dL_ironInPlace_0 : decode cL_ironInPlace 0 = .ok (.aload_n 3, 1) := by decide +kernel
theorem dL_ironInPlace_1 : decode cL_ironInPlace 1 = .ok (.iconst 0, 1) := by decide +kernel
theorem dL_ironInPlace_2 : decode cL_ironInPlace 2 = .ok (.aload_n 0, 1) := by decide +kernel
theorem dL_ironInPlace_3 : decode cL_ironInPlace 3 = .ok (.iload_n 1, 1) := by decide +kernel
theorem dL_ironInPlace_4 : decode cL_ironInPlace 4 = .ok (.iload_n 2, 1) := by decide +kernel
theorem dL_ironInPlace_5 : decode cL_ironInPlace 5 = .ok (.invokevirtual 91, 3) := by decide +kernel
theorem dL_ironInPlace_8 : decode cL_ironInPlace 8 = .ok (.i2l, 1) := by decide +kernel
theorem dL_ironInPlace_9 : decode cL_ironInPlace 9 = .ok (.lastore, 1) := by decide +kernel
theorem dL_ironInPlace_10 : decode cL_ironInPlace 10 = .ok (.goto 7, 3) := by decide +kernel
theorem dL_ironInPlace_13 : decode cL_ironInPlace 13 = .ok (.astore 4, 2) := by decide +kernel
theorem dL_ironInPlace_15 : decode cL_ironInPlace 15 = .ok (.iconst 1, 1) := by decide +kernel
theorem dL_ironInPlace_16 : decode cL_ironInPlace 16 = .ok (.ireturn, 1) := by decide +kernel
theorem dL_ironInPlace_17 : decode cL_ironInPlace 17 = .ok (.iconst 0, 1) := by decide +kernel
theorem dL_ironInPlace_18 : decode cL_ironInPlace 18 = .ok (.ireturn, 1) := by decide +kernel
theorem dL_ironOnAnvil_0 : decode cL_ironOnAnvil 0 = .ok (.aload_n 3, 1) := by decide +kernel
theorem dL_ironOnAnvil_1 : decode cL_ironOnAnvil 1 = .ok (.iconst 0, 1) := by decide +kernel
theorem dL_ironOnAnvil_2 : decode cL_ironOnAnvil 2 = .ok (.aload_n 0, 1) := by decide +kernel
theorem dL_ironOnAnvil_3 : decode cL_ironOnAnvil 3 = .ok (.iload_n 1, 1) := by decide +kernel
theorem dL_ironOnAnvil_4 : decode cL_ironOnAnvil 4 = .ok (.iload_n 2, 1) := by decide +kernel
theorem dL_ironOnAnvil_5 : decode cL_ironOnAnvil 5 = .ok (.invokevirtual 94, 3) := by decide +kernel
theorem dL_ironOnAnvil_8 : decode cL_ironOnAnvil 8 = .ok (.i2l, 1) := by decide +kernel
theorem dL_ironOnAnvil_9 : decode cL_ironOnAnvil 9 = .ok (.lastore, 1) := by decide +kernel
theorem dL_ironOnAnvil_10 : decode cL_ironOnAnvil 10 = .ok (.goto 7, 3) := by decide +kernel
theorem dL_ironOnAnvil_13 : decode cL_ironOnAnvil 13 = .ok (.astore 4, 2) := by decide +kernel
theorem dL_ironOnAnvil_15 : decode cL_ironOnAnvil 15 = .ok (.iconst 1, 1) := by decide +kernel
theorem dL_ironOnAnvil_16 : decode cL_ironOnAnvil 16 = .ok (.ireturn, 1) := by decide +kernel
theorem dL_ironOnAnvil_17 : decode cL_ironOnAnvil 17 = .ok (.iconst 0, 1) := by decide +kernel
theorem dL_ironOnAnvil_18 : decode cL_ironOnAnvil 18 = .ok (.ireturn, 1) := by decide +kernel
theorem dL_finishWithRate_0 : decode cL_finishWithRate 0 = .ok (.aload_n 3, 1) := by decide +kernel
theorem dL_finishWithRate_1 : decode cL_finishWithRate 1 = .ok (.iconst 0, 1) := by decide +kernel
theorem dL_finishWithRate_2 : decode cL_finishWithRate 2 = .ok (.aload_n 0, 1) := by decide +kernel
theorem dL_finishWithRate_3 : decode cL_finishWithRate 3 = .ok (.iload_n 1, 1) := by decide +kernel
theorem dL_finishWithRate_4 : decode cL_finishWithRate 4 = .ok (.iload_n 2, 1) := by decide +kernel
theorem dL_finishWithRate_5 : decode cL_finishWithRate 5 = .ok (.invokevirtual 97, 3) := by decide +kernel
theorem dL_finishWithRate_8 : decode cL_finishWithRate 8 = .ok (.i2l, 1) := by decide +kernel
theorem dL_finishWithRate_9 : decode cL_finishWithRate 9 = .ok (.lastore, 1) := by decide +kernel
theorem dL_finishWithRate_10 : decode cL_finishWithRate 10 = .ok (.goto 7, 3) := by decide +kernel
theorem dL_finishWithRate_13 : decode cL_finishWithRate 13 = .ok (.astore 4, 2) := by decide +kernel
theorem dL_finishWithRate_15 : decode cL_finishWithRate 15 = .ok (.iconst 1, 1) := by decide +kernel
theorem dL_finishWithRate_16 : decode cL_finishWithRate 16 = .ok (.ireturn, 1) := by decide +kernel
theorem dL_finishWithRate_17 : decode cL_finishWithRate 17 = .ok (.iconst 0, 1) := by decide +kernel
theorem dL_finishWithRate_18 : decode cL_finishWithRate 18 = .ok (.ireturn, 1) := by decide +kernel
theorem dL_leastRate_0 : decode cL_leastRate 0 = .ok (.aload_n 2, 1) := by decide +kernel
theorem dL_leastRate_1 : decode cL_leastRate 1 = .ok (.iconst 0, 1) := by decide +kernel
theorem dL_leastRate_2 : decode cL_leastRate 2 = .ok (.aload_n 0, 1) := by decide +kernel
theorem dL_leastRate_3 : decode cL_leastRate 3 = .ok (.iload_n 1, 1) := by decide +kernel
theorem dL_leastRate_4 : decode cL_leastRate 4 = .ok (.invokevirtual 100, 3) := by decide +kernel
theorem dL_leastRate_7 : decode cL_leastRate 7 = .ok (.i2l, 1) := by decide +kernel
theorem dL_leastRate_8 : decode cL_leastRate 8 = .ok (.lastore, 1) := by decide +kernel
theorem dL_leastRate_9 : decode cL_leastRate 9 = .ok (.goto 6, 3) := by decide +kernel
theorem dL_leastRate_12 : decode cL_leastRate 12 = .ok (.astore_n 3, 1) := by decide +kernel
theorem dL_leastRate_13 : decode cL_leastRate 13 = .ok (.iconst 1, 1) := by decide +kernel
theorem dL_leastRate_14 : decode cL_leastRate 14 = .ok (.ireturn, 1) := by decide +kernel
theorem dL_leastRate_15 : decode cL_leastRate 15 = .ok (.iconst 0, 1) := by decide +kernel
theorem dL_leastRate_16 : decode cL_leastRate 16 = .ok (.ireturn, 1) := by decide +kernel
theorem hhr_mass (l : Launch) (hl : l.stackTraces = false) (D : va_G) (z : Nat → ClassId) (ts : Nat → Nat) (z0 sz : Nat) (a : Nat → Nat) (tl : va_W) (σ σ' : Mm) (o : Nat) (g : Nat → Int64) (p0 : Int32) (r : Int32) (h : f_X6_mass [.inr (.inl 0), .inl p0] σ = some (some (some (.inl r)), σ')) : vx_Met l yL_mass (.codeWith yL_mass cL_mass 4 (some .int) [(0, 9, 12, 13)] :: gtb) (rmD 13 0 0) (va_Pc [.ref (a 0), .int p0, .ref o] (Pr D z ts z0 (wO z o g ++ wT z layX a tl σ) sz)) (Qx D (wO z o (vp_updL g 0 r.toInt64) ++ wT z layX a tl σ') (some (.int 0)) (va_A (wO z o g ++ wT z layX a tl σ) sz)) (fun _ _ _ => False) 0 0 (va_A (wO z o g ++ wT z layX a tl σ) sz) :=
  hp1r (by decide) rfl (ct_X6_mass l hl) wq_820 wq_817 wq_818 wq_819 wq_87 (by decide +kernel) (by decide) rfl dL_mass_0 dL_mass_1 dL_mass_2 dL_mass_3 dL_mass_4 dL_mass_7 dL_mass_8 dL_mass_9 dL_mass_15 dL_mass_16 h
theorem hht_mass (l : Launch) (hl : l.stackTraces = false) (D : va_G) (z : Nat → ClassId) (ts : Nat → Nat) (z0 sz : Nat) (a : Nat → Nat) (tl : va_W) (σ σ' : Mm) (o : Nat) (g : Nat → Int64) (p0 : Int32) (h : f_X6_mass [.inr (.inl 0), .inl p0] σ = some (none, σ')) : vx_Met l yL_mass (.codeWith yL_mass cL_mass 4 (some .int) [(0, 9, 12, 13)] :: gtb) (rmD 13 1 6) (va_Pc [.ref (a 0), .int p0, .ref o] (Pr D z ts z0 (wO z o g ++ wT z layX a tl σ) sz)) (Qx D (wO z o g ++ wT z layX a tl σ') (some (.int 1)) (va_A (wO z o g ++ wT z layX a tl σ) sz)) (fun _ _ _ => False) 1 6 (va_A (wO z o g ++ wT z layX a tl σ) sz) :=
  hp1t (by decide) rfl (ct_X6_mass l hl) wq_820 wq_817 wq_818 wq_819 wq_87 (by decide +kernel) (by decide) rfl dL_mass_0 dL_mass_1 dL_mass_2 dL_mass_3 dL_mass_4 dL_mass_12 dL_mass_13 dL_mass_14 (by decide) wq_816 h
theorem hhr_cooling (l : Launch) (hl : l.stackTraces = false) (D : va_G) (z : Nat → ClassId) (ts : Nat → Nat) (z0 sz : Nat) (a : Nat → Nat) (tl : va_W) (σ σ' : Mm) (o : Nat) (g : Nat → Int64) (p0 : Int32) (r : Int32) (h : f_X6_cooling [.inr (.inl 0), .inl p0] σ = some (some (some (.inl r)), σ')) : vx_Met l yL_cooling (.codeWith yL_cooling cL_cooling 4 (some .int) [(0, 9, 12, 13)] :: gtb) (rmD 13 0 0) (va_Pc [.ref (a 0), .int p0, .ref o] (Pr D z ts z0 (wO z o g ++ wT z layX a tl σ) sz)) (Qx D (wO z o (vp_updL g 0 r.toInt64) ++ wT z layX a tl σ') (some (.int 0)) (va_A (wO z o g ++ wT z layX a tl σ) sz)) (fun _ _ _ => False) 0 0 (va_A (wO z o g ++ wT z layX a tl σ) sz) :=
  hp1r (by decide) rfl (ct_X6_cooling l hl) wq_896 wq_893 wq_894 wq_895 wq_87 (by decide +kernel) (by decide) rfl dL_cooling_0 dL_cooling_1 dL_cooling_2 dL_cooling_3 dL_cooling_4 dL_cooling_7 dL_cooling_8 dL_cooling_9 dL_cooling_15 dL_cooling_16 h
theorem hht_cooling (l : Launch) (hl : l.stackTraces = false) (D : va_G) (z : Nat → ClassId) (ts : Nat → Nat) (z0 sz : Nat) (a : Nat → Nat) (tl : va_W) (σ σ' : Mm) (o : Nat) (g : Nat → Int64) (p0 : Int32) (h : f_X6_cooling [.inr (.inl 0), .inl p0] σ = some (none, σ')) : vx_Met l yL_cooling (.codeWith yL_cooling cL_cooling 4 (some .int) [(0, 9, 12, 13)] :: gtb) (rmD 13 1 6) (va_Pc [.ref (a 0), .int p0, .ref o] (Pr D z ts z0 (wO z o g ++ wT z layX a tl σ) sz)) (Qx D (wO z o g ++ wT z layX a tl σ') (some (.int 1)) (va_A (wO z o g ++ wT z layX a tl σ) sz)) (fun _ _ _ => False) 1 6 (va_A (wO z o g ++ wT z layX a tl σ) sz) :=
  hp1t (by decide) rfl (ct_X6_cooling l hl) wq_896 wq_893 wq_894 wq_895 wq_87 (by decide +kernel) (by decide) rfl dL_cooling_0 dL_cooling_1 dL_cooling_2 dL_cooling_3 dL_cooling_4 dL_cooling_12 dL_cooling_13 dL_cooling_14 (by decide) wq_816 h
theorem hhr_stepCount (l : Launch) (hl : l.stackTraces = false) (D : va_G) (z : Nat → ClassId) (ts : Nat → Nat) (z0 sz : Nat) (a : Nat → Nat) (tl : va_W) (σ σ' : Mm) (o : Nat) (g : Nat → Int64) (p0 : Int32) (r : Int32) (h : f_X6_stepCount [.inr (.inl 0), .inl p0] σ = some (some (some (.inl r)), σ')) : vx_Met l yL_stepCount (.codeWith yL_stepCount cL_stepCount 4 (some .int) [(0, 9, 12, 13)] :: gtb) (rmD 13 0 0) (va_Pc [.ref (a 0), .int p0, .ref o] (Pr D z ts z0 (wO z o g ++ wT z layX a tl σ) sz)) (Qx D (wO z o (vp_updL g 0 r.toInt64) ++ wT z layX a tl σ') (some (.int 0)) (va_A (wO z o g ++ wT z layX a tl σ) sz)) (fun _ _ _ => False) 0 0 (va_A (wO z o g ++ wT z layX a tl σ) sz) :=
  hp1r (by decide) rfl (ct_X6_stepCount l hl) wq_903 wq_900 wq_901 wq_902 wq_87 (by decide +kernel) (by decide) rfl dL_stepCount_0 dL_stepCount_1 dL_stepCount_2 dL_stepCount_3 dL_stepCount_4 dL_stepCount_7 dL_stepCount_8 dL_stepCount_9 dL_stepCount_15 dL_stepCount_16 h
theorem hht_stepCount (l : Launch) (hl : l.stackTraces = false) (D : va_G) (z : Nat → ClassId) (ts : Nat → Nat) (z0 sz : Nat) (a : Nat → Nat) (tl : va_W) (σ σ' : Mm) (o : Nat) (g : Nat → Int64) (p0 : Int32) (h : f_X6_stepCount [.inr (.inl 0), .inl p0] σ = some (none, σ')) : vx_Met l yL_stepCount (.codeWith yL_stepCount cL_stepCount 4 (some .int) [(0, 9, 12, 13)] :: gtb) (rmD 13 1 6) (va_Pc [.ref (a 0), .int p0, .ref o] (Pr D z ts z0 (wO z o g ++ wT z layX a tl σ) sz)) (Qx D (wO z o g ++ wT z layX a tl σ') (some (.int 1)) (va_A (wO z o g ++ wT z layX a tl σ) sz)) (fun _ _ _ => False) 1 6 (va_A (wO z o g ++ wT z layX a tl σ) sz) :=
  hp1t (by decide) rfl (ct_X6_stepCount l hl) wq_903 wq_900 wq_901 wq_902 wq_87 (by decide +kernel) (by decide) rfl dL_stepCount_0 dL_stepCount_1 dL_stepCount_2 dL_stepCount_3 dL_stepCount_4 dL_stepCount_12 dL_stepCount_13 dL_stepCount_14 (by decide) wq_816 h
theorem hhr_stepHeat (l : Launch) (hl : l.stackTraces = false) (D : va_G) (z : Nat → ClassId) (ts : Nat → Nat) (z0 sz : Nat) (a : Nat → Nat) (tl : va_W) (σ σ' : Mm) (o : Nat) (g : Nat → Int64) (p0 p1 : Int32) (r : Int32) (h : f_X6_stepHeat [.inr (.inl 0), .inl p0, .inl p1] σ = some (some (some (.inl r)), σ')) : vx_Met l yL_stepHeat (.codeWith yL_stepHeat cL_stepHeat 5 (some .int) [(0, 10, 13, 13)] :: gtb) (rmD 13 0 0) (va_Pc [.ref (a 0), .int p0, .int p1, .ref o] (Pr D z ts z0 (wO z o g ++ wT z layX a tl σ) sz)) (Qx D (wO z o (vp_updL g 0 r.toInt64) ++ wT z layX a tl σ') (some (.int 0)) (va_A (wO z o g ++ wT z layX a tl σ) sz)) (fun _ _ _ => False) 0 0 (va_A (wO z o g ++ wT z layX a tl σ) sz) :=
  hp2r (by decide) rfl (ct_X6_stepHeat l hl) wq_910 wq_907 wq_908 wq_909 wq_87 (by decide +kernel) (by decide) rfl dL_stepHeat_0 dL_stepHeat_1 dL_stepHeat_2 dL_stepHeat_3 dL_stepHeat_4 dL_stepHeat_5 dL_stepHeat_8 dL_stepHeat_9 dL_stepHeat_10 dL_stepHeat_17 dL_stepHeat_18 h
theorem hht_stepHeat (l : Launch) (hl : l.stackTraces = false) (D : va_G) (z : Nat → ClassId) (ts : Nat → Nat) (z0 sz : Nat) (a : Nat → Nat) (tl : va_W) (σ σ' : Mm) (o : Nat) (g : Nat → Int64) (p0 p1 : Int32) (h : f_X6_stepHeat [.inr (.inl 0), .inl p0, .inl p1] σ = some (none, σ')) : vx_Met l yL_stepHeat (.codeWith yL_stepHeat cL_stepHeat 5 (some .int) [(0, 10, 13, 13)] :: gtb) (rmD 13 1 6) (va_Pc [.ref (a 0), .int p0, .int p1, .ref o] (Pr D z ts z0 (wO z o g ++ wT z layX a tl σ) sz)) (Qx D (wO z o g ++ wT z layX a tl σ') (some (.int 1)) (va_A (wO z o g ++ wT z layX a tl σ) sz)) (fun _ _ _ => False) 1 6 (va_A (wO z o g ++ wT z layX a tl σ) sz) :=
  hp2t (by decide) rfl (ct_X6_stepHeat l hl) wq_910 wq_907 wq_908 wq_909 wq_87 (by decide +kernel) (by decide) rfl dL_stepHeat_0 dL_stepHeat_1 dL_stepHeat_2 dL_stepHeat_3 dL_stepHeat_4 dL_stepHeat_5 dL_stepHeat_13 dL_stepHeat_15 dL_stepHeat_16 (by decide) wq_816 h
theorem hhr_stepMinutes (l : Launch) (hl : l.stackTraces = false) (D : va_G) (z : Nat → ClassId) (ts : Nat → Nat) (z0 sz : Nat) (a : Nat → Nat) (tl : va_W) (σ σ' : Mm) (o : Nat) (g : Nat → Int64) (p0 p1 : Int32) (r : Int32) (h : f_X6_stepMinutes [.inr (.inl 0), .inl p0, .inl p1] σ = some (some (some (.inl r)), σ')) : vx_Met l yL_stepMinutes (.codeWith yL_stepMinutes cL_stepMinutes 5 (some .int) [(0, 10, 13, 13)] :: gtb) (rmD 13 0 0) (va_Pc [.ref (a 0), .int p0, .int p1, .ref o] (Pr D z ts z0 (wO z o g ++ wT z layX a tl σ) sz)) (Qx D (wO z o (vp_updL g 0 r.toInt64) ++ wT z layX a tl σ') (some (.int 0)) (va_A (wO z o g ++ wT z layX a tl σ) sz)) (fun _ _ _ => False) 0 0 (va_A (wO z o g ++ wT z layX a tl σ) sz) :=
  hp2r (by decide) rfl (ct_X6_stepMinutes l hl) wq_926 wq_923 wq_924 wq_925 wq_87 (by decide +kernel) (by decide) rfl dL_stepMinutes_0 dL_stepMinutes_1 dL_stepMinutes_2 dL_stepMinutes_3 dL_stepMinutes_4 dL_stepMinutes_5 dL_stepMinutes_8 dL_stepMinutes_9 dL_stepMinutes_10 dL_stepMinutes_17 dL_stepMinutes_18 h
theorem hht_stepMinutes (l : Launch) (hl : l.stackTraces = false) (D : va_G) (z : Nat → ClassId) (ts : Nat → Nat) (z0 sz : Nat) (a : Nat → Nat) (tl : va_W) (σ σ' : Mm) (o : Nat) (g : Nat → Int64) (p0 p1 : Int32) (h : f_X6_stepMinutes [.inr (.inl 0), .inl p0, .inl p1] σ = some (none, σ')) : vx_Met l yL_stepMinutes (.codeWith yL_stepMinutes cL_stepMinutes 5 (some .int) [(0, 10, 13, 13)] :: gtb) (rmD 13 1 6) (va_Pc [.ref (a 0), .int p0, .int p1, .ref o] (Pr D z ts z0 (wO z o g ++ wT z layX a tl σ) sz)) (Qx D (wO z o g ++ wT z layX a tl σ') (some (.int 1)) (va_A (wO z o g ++ wT z layX a tl σ) sz)) (fun _ _ _ => False) 1 6 (va_A (wO z o g ++ wT z layX a tl σ) sz) :=
  hp2t (by decide) rfl (ct_X6_stepMinutes l hl) wq_926 wq_923 wq_924 wq_925 wq_87 (by decide +kernel) (by decide) rfl dL_stepMinutes_0 dL_stepMinutes_1 dL_stepMinutes_2 dL_stepMinutes_3 dL_stepMinutes_4 dL_stepMinutes_5 dL_stepMinutes_13 dL_stepMinutes_15 dL_stepMinutes_16 (by decide) wq_816 h
theorem hhr_placeRate (l : Launch) (hl : l.stackTraces = false) (D : va_G) (z : Nat → ClassId) (ts : Nat → Nat) (z0 sz : Nat) (a : Nat → Nat) (tl : va_W) (σ σ' : Mm) (o : Nat) (g : Nat → Int64) (p0 : Int32) (r : Int32) (h : f_X6_placeRate [.inr (.inl 0), .inl p0] σ = some (some (some (.inl r)), σ')) : vx_Met l yL_placeRate (.codeWith yL_placeRate cL_placeRate 4 (some .int) [(0, 9, 12, 13)] :: gtb) (rmD 13 0 0) (va_Pc [.ref (a 0), .int p0, .ref o] (Pr D z ts z0 (wO z o g ++ wT z layX a tl σ) sz)) (Qx D (wO z o (vp_updL g 0 r.toInt64) ++ wT z layX a tl σ') (some (.int 0)) (va_A (wO z o g ++ wT z layX a tl σ) sz)) (fun _ _ _ => False) 0 0 (va_A (wO z o g ++ wT z layX a tl σ) sz) :=
  hp1r (by decide) rfl (ct_X6_placeRate l hl) wq_937 wq_934 wq_935 wq_936 wq_87 (by decide +kernel) (by decide) rfl dL_placeRate_0 dL_placeRate_1 dL_placeRate_2 dL_placeRate_3 dL_placeRate_4 dL_placeRate_7 dL_placeRate_8 dL_placeRate_9 dL_placeRate_15 dL_placeRate_16 h
theorem hht_placeRate (l : Launch) (hl : l.stackTraces = false) (D : va_G) (z : Nat → ClassId) (ts : Nat → Nat) (z0 sz : Nat) (a : Nat → Nat) (tl : va_W) (σ σ' : Mm) (o : Nat) (g : Nat → Int64) (p0 : Int32) (h : f_X6_placeRate [.inr (.inl 0), .inl p0] σ = some (none, σ')) : vx_Met l yL_placeRate (.codeWith yL_placeRate cL_placeRate 4 (some .int) [(0, 9, 12, 13)] :: gtb) (rmD 13 1 6) (va_Pc [.ref (a 0), .int p0, .ref o] (Pr D z ts z0 (wO z o g ++ wT z layX a tl σ) sz)) (Qx D (wO z o g ++ wT z layX a tl σ') (some (.int 1)) (va_A (wO z o g ++ wT z layX a tl σ) sz)) (fun _ _ _ => False) 1 6 (va_A (wO z o g ++ wT z layX a tl σ) sz) :=
  hp1t (by decide) rfl (ct_X6_placeRate l hl) wq_937 wq_934 wq_935 wq_936 wq_87 (by decide +kernel) (by decide) rfl dL_placeRate_0 dL_placeRate_1 dL_placeRate_2 dL_placeRate_3 dL_placeRate_4 dL_placeRate_12 dL_placeRate_13 dL_placeRate_14 (by decide) wq_816 h
theorem hhr_placeLimit (l : Launch) (hl : l.stackTraces = false) (D : va_G) (z : Nat → ClassId) (ts : Nat → Nat) (z0 sz : Nat) (a : Nat → Nat) (tl : va_W) (σ σ' : Mm) (o : Nat) (g : Nat → Int64) (p0 : Int32) (r : Int32) (h : f_X6_placeLimit [.inr (.inl 0), .inl p0] σ = some (some (some (.inl r)), σ')) : vx_Met l yL_placeLimit (.codeWith yL_placeLimit cL_placeLimit 4 (some .int) [(0, 9, 12, 13)] :: gtb) (rmD 13 0 0) (va_Pc [.ref (a 0), .int p0, .ref o] (Pr D z ts z0 (wO z o g ++ wT z layX a tl σ) sz)) (Qx D (wO z o (vp_updL g 0 r.toInt64) ++ wT z layX a tl σ') (some (.int 0)) (va_A (wO z o g ++ wT z layX a tl σ) sz)) (fun _ _ _ => False) 0 0 (va_A (wO z o g ++ wT z layX a tl σ) sz) :=
  hp1r (by decide) rfl (ct_X6_placeLimit l hl) wq_949 wq_946 wq_947 wq_948 wq_87 (by decide +kernel) (by decide) rfl dL_placeLimit_0 dL_placeLimit_1 dL_placeLimit_2 dL_placeLimit_3 dL_placeLimit_4 dL_placeLimit_7 dL_placeLimit_8 dL_placeLimit_9 dL_placeLimit_15 dL_placeLimit_16 h
theorem hht_placeLimit (l : Launch) (hl : l.stackTraces = false) (D : va_G) (z : Nat → ClassId) (ts : Nat → Nat) (z0 sz : Nat) (a : Nat → Nat) (tl : va_W) (σ σ' : Mm) (o : Nat) (g : Nat → Int64) (p0 : Int32) (h : f_X6_placeLimit [.inr (.inl 0), .inl p0] σ = some (none, σ')) : vx_Met l yL_placeLimit (.codeWith yL_placeLimit cL_placeLimit 4 (some .int) [(0, 9, 12, 13)] :: gtb) (rmD 13 1 6) (va_Pc [.ref (a 0), .int p0, .ref o] (Pr D z ts z0 (wO z o g ++ wT z layX a tl σ) sz)) (Qx D (wO z o g ++ wT z layX a tl σ') (some (.int 1)) (va_A (wO z o g ++ wT z layX a tl σ) sz)) (fun _ _ _ => False) 1 6 (va_A (wO z o g ++ wT z layX a tl σ) sz) :=
  hp1t (by decide) rfl (ct_X6_placeLimit l hl) wq_949 wq_946 wq_947 wq_948 wq_87 (by decide +kernel) (by decide) rfl dL_placeLimit_0 dL_placeLimit_1 dL_placeLimit_2 dL_placeLimit_3 dL_placeLimit_4 dL_placeLimit_12 dL_placeLimit_13 dL_placeLimit_14 (by decide) wq_816 h
theorem hhr_ironAt (l : Launch) (hl : l.stackTraces = false) (D : va_G) (z : Nat → ClassId) (ts : Nat → Nat) (z0 sz : Nat) (a : Nat → Nat) (tl : va_W) (σ σ' : Mm) (o : Nat) (g : Nat → Int64) (p0 : Int32) (r : Int32) (h : f_X6_ironAt [.inr (.inl 0), .inl p0] σ = some (some (some (.inl r)), σ')) : vx_Met l yL_ironAt (.codeWith yL_ironAt cL_ironAt 4 (some .int) [(0, 9, 12, 13)] :: gtb) (rmD 13 0 0) (va_Pc [.ref (a 0), .int p0, .ref o] (Pr D z ts z0 (wO z o g ++ wT z layX a tl σ) sz)) (Qx D (wO z o (vp_updL g 0 r.toInt64) ++ wT z layX a tl σ') (some (.int 0)) (va_A (wO z o g ++ wT z layX a tl σ) sz)) (fun _ _ _ => False) 0 0 (va_A (wO z o g ++ wT z layX a tl σ) sz) :=
  hp1r (by decide) rfl (ct_X6_ironAt l hl) wq_956 wq_953 wq_954 wq_955 wq_87 (by decide +kernel) (by decide) rfl dL_ironAt_0 dL_ironAt_1 dL_ironAt_2 dL_ironAt_3 dL_ironAt_4 dL_ironAt_7 dL_ironAt_8 dL_ironAt_9 dL_ironAt_15 dL_ironAt_16 h
theorem hht_ironAt (l : Launch) (hl : l.stackTraces = false) (D : va_G) (z : Nat → ClassId) (ts : Nat → Nat) (z0 sz : Nat) (a : Nat → Nat) (tl : va_W) (σ σ' : Mm) (o : Nat) (g : Nat → Int64) (p0 : Int32) (h : f_X6_ironAt [.inr (.inl 0), .inl p0] σ = some (none, σ')) : vx_Met l yL_ironAt (.codeWith yL_ironAt cL_ironAt 4 (some .int) [(0, 9, 12, 13)] :: gtb) (rmD 13 1 6) (va_Pc [.ref (a 0), .int p0, .ref o] (Pr D z ts z0 (wO z o g ++ wT z layX a tl σ) sz)) (Qx D (wO z o g ++ wT z layX a tl σ') (some (.int 1)) (va_A (wO z o g ++ wT z layX a tl σ) sz)) (fun _ _ _ => False) 1 6 (va_A (wO z o g ++ wT z layX a tl σ) sz) :=
  hp1t (by decide) rfl (ct_X6_ironAt l hl) wq_956 wq_953 wq_954 wq_955 wq_87 (by decide +kernel) (by decide) rfl dL_ironAt_0 dL_ironAt_1 dL_ironAt_2 dL_ironAt_3 dL_ironAt_4 dL_ironAt_12 dL_ironAt_13 dL_ironAt_14 (by decide) wq_816 h
theorem hhr_positionOf (l : Launch) (hl : l.stackTraces = false) (D : va_G) (z : Nat → ClassId) (ts : Nat → Nat) (z0 sz : Nat) (a : Nat → Nat) (tl : va_W) (σ σ' : Mm) (o : Nat) (g : Nat → Int64) (p0 : Int32) (r : Int32) (h : f_X6_positionOf [.inr (.inl 0), .inl p0] σ = some (some (some (.inl r)), σ')) : vx_Met l yL_positionOf (.codeWith yL_positionOf cL_positionOf 4 (some .int) [(0, 9, 12, 13)] :: gtb) (rmD 13 0 0) (va_Pc [.ref (a 0), .int p0, .ref o] (Pr D z ts z0 (wO z o g ++ wT z layX a tl σ) sz)) (Qx D (wO z o (vp_updL g 0 r.toInt64) ++ wT z layX a tl σ') (some (.int 0)) (va_A (wO z o g ++ wT z layX a tl σ) sz)) (fun _ _ _ => False) 0 0 (va_A (wO z o g ++ wT z layX a tl σ) sz) :=
  hp1r (by decide) rfl (ct_X6_positionOf l hl) wq_963 wq_960 wq_961 wq_962 wq_87 (by decide +kernel) (by decide) rfl dL_positionOf_0 dL_positionOf_1 dL_positionOf_2 dL_positionOf_3 dL_positionOf_4 dL_positionOf_7 dL_positionOf_8 dL_positionOf_9 dL_positionOf_15 dL_positionOf_16 h
theorem hht_positionOf (l : Launch) (hl : l.stackTraces = false) (D : va_G) (z : Nat → ClassId) (ts : Nat → Nat) (z0 sz : Nat) (a : Nat → Nat) (tl : va_W) (σ σ' : Mm) (o : Nat) (g : Nat → Int64) (p0 : Int32) (h : f_X6_positionOf [.inr (.inl 0), .inl p0] σ = some (none, σ')) : vx_Met l yL_positionOf (.codeWith yL_positionOf cL_positionOf 4 (some .int) [(0, 9, 12, 13)] :: gtb) (rmD 13 1 6) (va_Pc [.ref (a 0), .int p0, .ref o] (Pr D z ts z0 (wO z o g ++ wT z layX a tl σ) sz)) (Qx D (wO z o g ++ wT z layX a tl σ') (some (.int 1)) (va_A (wO z o g ++ wT z layX a tl σ) sz)) (fun _ _ _ => False) 1 6 (va_A (wO z o g ++ wT z layX a tl σ) sz) :=
  hp1t (by decide) rfl (ct_X6_positionOf l hl) wq_963 wq_960 wq_961 wq_962 wq_87 (by decide +kernel) (by decide) rfl dL_positionOf_0 dL_positionOf_1 dL_positionOf_2 dL_positionOf_3 dL_positionOf_4 dL_positionOf_12 dL_positionOf_13 dL_positionOf_14 (by decide) wq_816 h
theorem hhr_finishOf (l : Launch) (hl : l.stackTraces = false) (D : va_G) (z : Nat → ClassId) (ts : Nat → Nat) (z0 sz : Nat) (a : Nat → Nat) (tl : va_W) (σ σ' : Mm) (o : Nat) (g : Nat → Int64) (p0 : Int32) (r : Int32) (h : f_X6_finishOf [.inr (.inl 0), .inl p0] σ = some (some (some (.inl r)), σ')) : vx_Met l yL_finishOf (.codeWith yL_finishOf cL_finishOf 4 (some .int) [(0, 9, 12, 13)] :: gtb) (rmD 13 0 0) (va_Pc [.ref (a 0), .int p0, .ref o] (Pr D z ts z0 (wO z o g ++ wT z layX a tl σ) sz)) (Qx D (wO z o (vp_updL g 0 r.toInt64) ++ wT z layX a tl σ') (some (.int 0)) (va_A (wO z o g ++ wT z layX a tl σ) sz)) (fun _ _ _ => False) 0 0 (va_A (wO z o g ++ wT z layX a tl σ) sz) :=
  hp1r (by decide) rfl (ct_X6_finishOf l hl) wq_974 wq_971 wq_972 wq_973 wq_87 (by decide +kernel) (by decide) rfl dL_finishOf_0 dL_finishOf_1 dL_finishOf_2 dL_finishOf_3 dL_finishOf_4 dL_finishOf_7 dL_finishOf_8 dL_finishOf_9 dL_finishOf_15 dL_finishOf_16 h
theorem hht_finishOf (l : Launch) (hl : l.stackTraces = false) (D : va_G) (z : Nat → ClassId) (ts : Nat → Nat) (z0 sz : Nat) (a : Nat → Nat) (tl : va_W) (σ σ' : Mm) (o : Nat) (g : Nat → Int64) (p0 : Int32) (h : f_X6_finishOf [.inr (.inl 0), .inl p0] σ = some (none, σ')) : vx_Met l yL_finishOf (.codeWith yL_finishOf cL_finishOf 4 (some .int) [(0, 9, 12, 13)] :: gtb) (rmD 13 1 6) (va_Pc [.ref (a 0), .int p0, .ref o] (Pr D z ts z0 (wO z o g ++ wT z layX a tl σ) sz)) (Qx D (wO z o g ++ wT z layX a tl σ') (some (.int 1)) (va_A (wO z o g ++ wT z layX a tl σ) sz)) (fun _ _ _ => False) 1 6 (va_A (wO z o g ++ wT z layX a tl σ) sz) :=
  hp1t (by decide) rfl (ct_X6_finishOf l hl) wq_974 wq_971 wq_972 wq_973 wq_87 (by decide +kernel) (by decide) rfl dL_finishOf_0 dL_finishOf_1 dL_finishOf_2 dL_finishOf_3 dL_finishOf_4 dL_finishOf_12 dL_finishOf_13 dL_finishOf_14 (by decide) wq_816 h
theorem hhr_heatAfter (l : Launch) (hl : l.stackTraces = false) (D : va_G) (z : Nat → ClassId) (ts : Nat → Nat) (z0 sz : Nat) (a : Nat → Nat) (tl : va_W) (σ σ' : Mm) (o : Nat) (g : Nat → Int64) (p0 p1 : Int32) (r : Int32) (h : f_X6_heatAfter [.inr (.inl 0), .inl p0, .inl p1] σ = some (some (some (.inl r)), σ')) : vx_Met l yL_heatAfter (.codeWith yL_heatAfter cL_heatAfter 5 (some .int) [(0, 10, 13, 13)] :: gtb) (rmD 13 0 0) (va_Pc [.ref (a 0), .int p0, .int p1, .ref o] (Pr D z ts z0 (wO z o g ++ wT z layX a tl σ) sz)) (Qx D (wO z o (vp_updL g 0 r.toInt64) ++ wT z layX a tl σ') (some (.int 0)) (va_A (wO z o g ++ wT z layX a tl σ) sz)) (fun _ _ _ => False) 0 0 (va_A (wO z o g ++ wT z layX a tl σ) sz) :=
  hp2r (by decide) rfl (ct_X6_heatAfter l hl) wq_981 wq_978 wq_979 wq_980 wq_87 (by decide +kernel) (by decide) rfl dL_heatAfter_0 dL_heatAfter_1 dL_heatAfter_2 dL_heatAfter_3 dL_heatAfter_4 dL_heatAfter_5 dL_heatAfter_8 dL_heatAfter_9 dL_heatAfter_10 dL_heatAfter_17 dL_heatAfter_18 h
theorem hht_heatAfter (l : Launch) (hl : l.stackTraces = false) (D : va_G) (z : Nat → ClassId) (ts : Nat → Nat) (z0 sz : Nat) (a : Nat → Nat) (tl : va_W) (σ σ' : Mm) (o : Nat) (g : Nat → Int64) (p0 p1 : Int32) (h : f_X6_heatAfter [.inr (.inl 0), .inl p0, .inl p1] σ = some (none, σ')) : vx_Met l yL_heatAfter (.codeWith yL_heatAfter cL_heatAfter 5 (some .int) [(0, 10, 13, 13)] :: gtb) (rmD 13 1 6) (va_Pc [.ref (a 0), .int p0, .int p1, .ref o] (Pr D z ts z0 (wO z o g ++ wT z layX a tl σ) sz)) (Qx D (wO z o g ++ wT z layX a tl σ') (some (.int 1)) (va_A (wO z o g ++ wT z layX a tl σ) sz)) (fun _ _ _ => False) 1 6 (va_A (wO z o g ++ wT z layX a tl σ) sz) :=
  hp2t (by decide) rfl (ct_X6_heatAfter l hl) wq_981 wq_978 wq_979 wq_980 wq_87 (by decide +kernel) (by decide) rfl dL_heatAfter_0 dL_heatAfter_1 dL_heatAfter_2 dL_heatAfter_3 dL_heatAfter_4 dL_heatAfter_5 dL_heatAfter_13 dL_heatAfter_15 dL_heatAfter_16 (by decide) wq_816 h
theorem hhr_whereIn (l : Launch) (hl : l.stackTraces = false) (D : va_G) (z : Nat → ClassId) (ts : Nat → Nat) (z0 sz : Nat) (a : Nat → Nat) (tl : va_W) (σ σ' : Mm) (o : Nat) (g : Nat → Int64) (p0 p1 : Int32) (r : Int32) (h : f_X6_whereIn [.inr (.inl 0), .inl p0, .inl p1] σ = some (some (some (.inl r)), σ')) : vx_Met l yL_whereIn (.codeWith yL_whereIn cL_whereIn 5 (some .int) [(0, 10, 13, 13)] :: gtb) (rmD 13 0 0) (va_Pc [.ref (a 0), .int p0, .int p1, .ref o] (Pr D z ts z0 (wO z o g ++ wT z layX a tl σ) sz)) (Qx D (wO z o (vp_updL g 0 r.toInt64) ++ wT z layX a tl σ') (some (.int 0)) (va_A (wO z o g ++ wT z layX a tl σ) sz)) (fun _ _ _ => False) 0 0 (va_A (wO z o g ++ wT z layX a tl σ) sz) :=
  hp2r (by decide) rfl (ct_X6_whereIn l hl) wq_992 wq_989 wq_990 wq_991 wq_87 (by decide +kernel) (by decide) rfl dL_whereIn_0 dL_whereIn_1 dL_whereIn_2 dL_whereIn_3 dL_whereIn_4 dL_whereIn_5 dL_whereIn_8 dL_whereIn_9 dL_whereIn_10 dL_whereIn_17 dL_whereIn_18 h
theorem hht_whereIn (l : Launch) (hl : l.stackTraces = false) (D : va_G) (z : Nat → ClassId) (ts : Nat → Nat) (z0 sz : Nat) (a : Nat → Nat) (tl : va_W) (σ σ' : Mm) (o : Nat) (g : Nat → Int64) (p0 p1 : Int32) (h : f_X6_whereIn [.inr (.inl 0), .inl p0, .inl p1] σ = some (none, σ')) : vx_Met l yL_whereIn (.codeWith yL_whereIn cL_whereIn 5 (some .int) [(0, 10, 13, 13)] :: gtb) (rmD 13 1 6) (va_Pc [.ref (a 0), .int p0, .int p1, .ref o] (Pr D z ts z0 (wO z o g ++ wT z layX a tl σ) sz)) (Qx D (wO z o g ++ wT z layX a tl σ') (some (.int 1)) (va_A (wO z o g ++ wT z layX a tl σ) sz)) (fun _ _ _ => False) 1 6 (va_A (wO z o g ++ wT z layX a tl σ) sz) :=
  hp2t (by decide) rfl (ct_X6_whereIn l hl) wq_992 wq_989 wq_990 wq_991 wq_87 (by decide +kernel) (by decide) rfl dL_whereIn_0 dL_whereIn_1 dL_whereIn_2 dL_whereIn_3 dL_whereIn_4 dL_whereIn_5 dL_whereIn_13 dL_whereIn_15 dL_whereIn_16 (by decide) wq_816 h
theorem hhr_stepsAfter (l : Launch) (hl : l.stackTraces = false) (D : va_G) (z : Nat → ClassId) (ts : Nat → Nat) (z0 sz : Nat) (a : Nat → Nat) (tl : va_W) (σ σ' : Mm) (o : Nat) (g : Nat → Int64) (p0 p1 : Int32) (r : Int32) (h : f_X6_stepsAfter [.inr (.inl 0), .inl p0, .inl p1] σ = some (some (some (.inl r)), σ')) : vx_Met l yL_stepsAfter (.codeWith yL_stepsAfter cL_stepsAfter 5 (some .int) [(0, 10, 13, 13)] :: gtb) (rmD 13 0 0) (va_Pc [.ref (a 0), .int p0, .int p1, .ref o] (Pr D z ts z0 (wO z o g ++ wT z layX a tl σ) sz)) (Qx D (wO z o (vp_updL g 0 r.toInt64) ++ wT z layX a tl σ') (some (.int 0)) (va_A (wO z o g ++ wT z layX a tl σ) sz)) (fun _ _ _ => False) 0 0 (va_A (wO z o g ++ wT z layX a tl σ) sz) :=
  hp2r (by decide) rfl (ct_X6_stepsAfter l hl) wq_1003 wq_1000 wq_1001 wq_1002 wq_87 (by decide +kernel) (by decide) rfl dL_stepsAfter_0 dL_stepsAfter_1 dL_stepsAfter_2 dL_stepsAfter_3 dL_stepsAfter_4 dL_stepsAfter_5 dL_stepsAfter_8 dL_stepsAfter_9 dL_stepsAfter_10 dL_stepsAfter_17 dL_stepsAfter_18 h
theorem hht_stepsAfter (l : Launch) (hl : l.stackTraces = false) (D : va_G) (z : Nat → ClassId) (ts : Nat → Nat) (z0 sz : Nat) (a : Nat → Nat) (tl : va_W) (σ σ' : Mm) (o : Nat) (g : Nat → Int64) (p0 p1 : Int32) (h : f_X6_stepsAfter [.inr (.inl 0), .inl p0, .inl p1] σ = some (none, σ')) : vx_Met l yL_stepsAfter (.codeWith yL_stepsAfter cL_stepsAfter 5 (some .int) [(0, 10, 13, 13)] :: gtb) (rmD 13 1 6) (va_Pc [.ref (a 0), .int p0, .int p1, .ref o] (Pr D z ts z0 (wO z o g ++ wT z layX a tl σ) sz)) (Qx D (wO z o g ++ wT z layX a tl σ') (some (.int 1)) (va_A (wO z o g ++ wT z layX a tl σ) sz)) (fun _ _ _ => False) 1 6 (va_A (wO z o g ++ wT z layX a tl σ) sz) :=
  hp2t (by decide) rfl (ct_X6_stepsAfter l hl) wq_1003 wq_1000 wq_1001 wq_1002 wq_87 (by decide +kernel) (by decide) rfl dL_stepsAfter_0 dL_stepsAfter_1 dL_stepsAfter_2 dL_stepsAfter_3 dL_stepsAfter_4 dL_stepsAfter_5 dL_stepsAfter_13 dL_stepsAfter_15 dL_stepsAfter_16 (by decide) wq_816 h
theorem hhr_coldStops (l : Launch) (hl : l.stackTraces = false) (D : va_G) (z : Nat → ClassId) (ts : Nat → Nat) (z0 sz : Nat) (a : Nat → Nat) (tl : va_W) (σ σ' : Mm) (o : Nat) (g : Nat → Int64) (p0 : Int32) (r : Int32) (h : f_X6_coldStops [.inr (.inl 0), .inl p0] σ = some (some (some (.inl r)), σ')) : vx_Met l yL_coldStops (.codeWith yL_coldStops cL_coldStops 4 (some .int) [(0, 9, 12, 13)] :: gtb) (rmD 13 0 0) (va_Pc [.ref (a 0), .int p0, .ref o] (Pr D z ts z0 (wO z o g ++ wT z layX a tl σ) sz)) (Qx D (wO z o (vp_updL g 0 r.toInt64) ++ wT z layX a tl σ') (some (.int 0)) (va_A (wO z o g ++ wT z layX a tl σ) sz)) (fun _ _ _ => False) 0 0 (va_A (wO z o g ++ wT z layX a tl σ) sz) :=
  hp1r (by decide) rfl (ct_X6_coldStops l hl) wq_1011 wq_1008 wq_1009 wq_1010 wq_87 (by decide +kernel) (by decide) rfl dL_coldStops_0 dL_coldStops_1 dL_coldStops_2 dL_coldStops_3 dL_coldStops_4 dL_coldStops_7 dL_coldStops_8 dL_coldStops_9 dL_coldStops_15 dL_coldStops_16 h
theorem hht_coldStops (l : Launch) (hl : l.stackTraces = false) (D : va_G) (z : Nat → ClassId) (ts : Nat → Nat) (z0 sz : Nat) (a : Nat → Nat) (tl : va_W) (σ σ' : Mm) (o : Nat) (g : Nat → Int64) (p0 : Int32) (h : f_X6_coldStops [.inr (.inl 0), .inl p0] σ = some (none, σ')) : vx_Met l yL_coldStops (.codeWith yL_coldStops cL_coldStops 4 (some .int) [(0, 9, 12, 13)] :: gtb) (rmD 13 1 6) (va_Pc [.ref (a 0), .int p0, .ref o] (Pr D z ts z0 (wO z o g ++ wT z layX a tl σ) sz)) (Qx D (wO z o g ++ wT z layX a tl σ') (some (.int 1)) (va_A (wO z o g ++ wT z layX a tl σ) sz)) (fun _ _ _ => False) 1 6 (va_A (wO z o g ++ wT z layX a tl σ) sz) :=
  hp1t (by decide) rfl (ct_X6_coldStops l hl) wq_1011 wq_1008 wq_1009 wq_1010 wq_87 (by decide +kernel) (by decide) rfl dL_coldStops_0 dL_coldStops_1 dL_coldStops_2 dL_coldStops_3 dL_coldStops_4 dL_coldStops_12 dL_coldStops_13 dL_coldStops_14 (by decide) wq_816 h
theorem hhr_heats (l : Launch) (hl : l.stackTraces = false) (D : va_G) (z : Nat → ClassId) (ts : Nat → Nat) (z0 sz : Nat) (a : Nat → Nat) (tl : va_W) (σ σ' : Mm) (o : Nat) (g : Nat → Int64) (p0 : Int32) (r : Int32) (h : f_X6_heats [.inr (.inl 0), .inl p0] σ = some (some (some (.inl r)), σ')) : vx_Met l yL_heats (.codeWith yL_heats cL_heats 4 (some .int) [(0, 9, 12, 13)] :: gtb) (rmD 13 0 0) (va_Pc [.ref (a 0), .int p0, .ref o] (Pr D z ts z0 (wO z o g ++ wT z layX a tl σ) sz)) (Qx D (wO z o (vp_updL g 0 r.toInt64) ++ wT z layX a tl σ') (some (.int 0)) (va_A (wO z o g ++ wT z layX a tl σ) sz)) (fun _ _ _ => False) 0 0 (va_A (wO z o g ++ wT z layX a tl σ) sz) :=
  hp1r (by decide) rfl (ct_X6_heats l hl) wq_1018 wq_1015 wq_1016 wq_1017 wq_87 (by decide +kernel) (by decide) rfl dL_heats_0 dL_heats_1 dL_heats_2 dL_heats_3 dL_heats_4 dL_heats_7 dL_heats_8 dL_heats_9 dL_heats_15 dL_heats_16 h
theorem hht_heats (l : Launch) (hl : l.stackTraces = false) (D : va_G) (z : Nat → ClassId) (ts : Nat → Nat) (z0 sz : Nat) (a : Nat → Nat) (tl : va_W) (σ σ' : Mm) (o : Nat) (g : Nat → Int64) (p0 : Int32) (h : f_X6_heats [.inr (.inl 0), .inl p0] σ = some (none, σ')) : vx_Met l yL_heats (.codeWith yL_heats cL_heats 4 (some .int) [(0, 9, 12, 13)] :: gtb) (rmD 13 1 6) (va_Pc [.ref (a 0), .int p0, .ref o] (Pr D z ts z0 (wO z o g ++ wT z layX a tl σ) sz)) (Qx D (wO z o g ++ wT z layX a tl σ') (some (.int 1)) (va_A (wO z o g ++ wT z layX a tl σ) sz)) (fun _ _ _ => False) 1 6 (va_A (wO z o g ++ wT z layX a tl σ) sz) :=
  hp1t (by decide) rfl (ct_X6_heats l hl) wq_1018 wq_1015 wq_1016 wq_1017 wq_87 (by decide +kernel) (by decide) rfl dL_heats_0 dL_heats_1 dL_heats_2 dL_heats_3 dL_heats_4 dL_heats_12 dL_heats_13 dL_heats_14 (by decide) wq_816 h
theorem hhr_fireMinutes (l : Launch) (hl : l.stackTraces = false) (D : va_G) (z : Nat → ClassId) (ts : Nat → Nat) (z0 sz : Nat) (a : Nat → Nat) (tl : va_W) (σ σ' : Mm) (o : Nat) (g : Nat → Int64) (p0 : Int32) (r : Int32) (h : f_X6_fireMinutes [.inr (.inl 0), .inl p0] σ = some (some (some (.inl r)), σ')) : vx_Met l yL_fireMinutes (.codeWith yL_fireMinutes cL_fireMinutes 4 (some .int) [(0, 9, 12, 13)] :: gtb) (rmD 13 0 0) (va_Pc [.ref (a 0), .int p0, .ref o] (Pr D z ts z0 (wO z o g ++ wT z layX a tl σ) sz)) (Qx D (wO z o (vp_updL g 0 r.toInt64) ++ wT z layX a tl σ') (some (.int 0)) (va_A (wO z o g ++ wT z layX a tl σ) sz)) (fun _ _ _ => False) 0 0 (va_A (wO z o g ++ wT z layX a tl σ) sz) :=
  hp1r (by decide) rfl (ct_X6_fireMinutes l hl) wq_1025 wq_1022 wq_1023 wq_1024 wq_87 (by decide +kernel) (by decide) rfl dL_fireMinutes_0 dL_fireMinutes_1 dL_fireMinutes_2 dL_fireMinutes_3 dL_fireMinutes_4 dL_fireMinutes_7 dL_fireMinutes_8 dL_fireMinutes_9 dL_fireMinutes_15 dL_fireMinutes_16 h
theorem hht_fireMinutes (l : Launch) (hl : l.stackTraces = false) (D : va_G) (z : Nat → ClassId) (ts : Nat → Nat) (z0 sz : Nat) (a : Nat → Nat) (tl : va_W) (σ σ' : Mm) (o : Nat) (g : Nat → Int64) (p0 : Int32) (h : f_X6_fireMinutes [.inr (.inl 0), .inl p0] σ = some (none, σ')) : vx_Met l yL_fireMinutes (.codeWith yL_fireMinutes cL_fireMinutes 4 (some .int) [(0, 9, 12, 13)] :: gtb) (rmD 13 1 6) (va_Pc [.ref (a 0), .int p0, .ref o] (Pr D z ts z0 (wO z o g ++ wT z layX a tl σ) sz)) (Qx D (wO z o g ++ wT z layX a tl σ') (some (.int 1)) (va_A (wO z o g ++ wT z layX a tl σ) sz)) (fun _ _ _ => False) 1 6 (va_A (wO z o g ++ wT z layX a tl σ) sz) :=
  hp1t (by decide) rfl (ct_X6_fireMinutes l hl) wq_1025 wq_1022 wq_1023 wq_1024 wq_87 (by decide +kernel) (by decide) rfl dL_fireMinutes_0 dL_fireMinutes_1 dL_fireMinutes_2 dL_fireMinutes_3 dL_fireMinutes_4 dL_fireMinutes_12 dL_fireMinutes_13 dL_fireMinutes_14 (by decide) wq_816 h
theorem hhr_anvilMinutes (l : Launch) (hl : l.stackTraces = false) (D : va_G) (z : Nat → ClassId) (ts : Nat → Nat) (z0 sz : Nat) (a : Nat → Nat) (tl : va_W) (σ σ' : Mm) (o : Nat) (g : Nat → Int64) (p0 : Int32) (r : Int32) (h : f_X6_anvilMinutes [.inr (.inl 0), .inl p0] σ = some (some (some (.inl r)), σ')) : vx_Met l yL_anvilMinutes (.codeWith yL_anvilMinutes cL_anvilMinutes 4 (some .int) [(0, 9, 12, 13)] :: gtb) (rmD 13 0 0) (va_Pc [.ref (a 0), .int p0, .ref o] (Pr D z ts z0 (wO z o g ++ wT z layX a tl σ) sz)) (Qx D (wO z o (vp_updL g 0 r.toInt64) ++ wT z layX a tl σ') (some (.int 0)) (va_A (wO z o g ++ wT z layX a tl σ) sz)) (fun _ _ _ => False) 0 0 (va_A (wO z o g ++ wT z layX a tl σ) sz) :=
  hp1r (by decide) rfl (ct_X6_anvilMinutes l hl) wq_1036 wq_1033 wq_1034 wq_1035 wq_87 (by decide +kernel) (by decide) rfl dL_anvilMinutes_0 dL_anvilMinutes_1 dL_anvilMinutes_2 dL_anvilMinutes_3 dL_anvilMinutes_4 dL_anvilMinutes_7 dL_anvilMinutes_8 dL_anvilMinutes_9 dL_anvilMinutes_15 dL_anvilMinutes_16 h
theorem hht_anvilMinutes (l : Launch) (hl : l.stackTraces = false) (D : va_G) (z : Nat → ClassId) (ts : Nat → Nat) (z0 sz : Nat) (a : Nat → Nat) (tl : va_W) (σ σ' : Mm) (o : Nat) (g : Nat → Int64) (p0 : Int32) (h : f_X6_anvilMinutes [.inr (.inl 0), .inl p0] σ = some (none, σ')) : vx_Met l yL_anvilMinutes (.codeWith yL_anvilMinutes cL_anvilMinutes 4 (some .int) [(0, 9, 12, 13)] :: gtb) (rmD 13 1 6) (va_Pc [.ref (a 0), .int p0, .ref o] (Pr D z ts z0 (wO z o g ++ wT z layX a tl σ) sz)) (Qx D (wO z o g ++ wT z layX a tl σ') (some (.int 1)) (va_A (wO z o g ++ wT z layX a tl σ) sz)) (fun _ _ _ => False) 1 6 (va_A (wO z o g ++ wT z layX a tl σ) sz) :=
  hp1t (by decide) rfl (ct_X6_anvilMinutes l hl) wq_1036 wq_1033 wq_1034 wq_1035 wq_87 (by decide +kernel) (by decide) rfl dL_anvilMinutes_0 dL_anvilMinutes_1 dL_anvilMinutes_2 dL_anvilMinutes_3 dL_anvilMinutes_4 dL_anvilMinutes_12 dL_anvilMinutes_13 dL_anvilMinutes_14 (by decide) wq_816 h
theorem hhr_placeMinutes (l : Launch) (hl : l.stackTraces = false) (D : va_G) (z : Nat → ClassId) (ts : Nat → Nat) (z0 sz : Nat) (a : Nat → Nat) (tl : va_W) (σ σ' : Mm) (o : Nat) (g : Nat → Int64) (p0 : Int32) (r : Int32) (h : f_X6_placeMinutes [.inr (.inl 0), .inl p0] σ = some (some (some (.inl r)), σ')) : vx_Met l yL_placeMinutes (.codeWith yL_placeMinutes cL_placeMinutes 4 (some .int) [(0, 9, 12, 13)] :: gtb) (rmD 13 0 0) (va_Pc [.ref (a 0), .int p0, .ref o] (Pr D z ts z0 (wO z o g ++ wT z layX a tl σ) sz)) (Qx D (wO z o (vp_updL g 0 r.toInt64) ++ wT z layX a tl σ') (some (.int 0)) (va_A (wO z o g ++ wT z layX a tl σ) sz)) (fun _ _ _ => False) 0 0 (va_A (wO z o g ++ wT z layX a tl σ) sz) :=
  hp1r (by decide) rfl (ct_X6_placeMinutes l hl) wq_1056 wq_1053 wq_1054 wq_1055 wq_87 (by decide +kernel) (by decide) rfl dL_placeMinutes_0 dL_placeMinutes_1 dL_placeMinutes_2 dL_placeMinutes_3 dL_placeMinutes_4 dL_placeMinutes_7 dL_placeMinutes_8 dL_placeMinutes_9 dL_placeMinutes_15 dL_placeMinutes_16 h
theorem hht_placeMinutes (l : Launch) (hl : l.stackTraces = false) (D : va_G) (z : Nat → ClassId) (ts : Nat → Nat) (z0 sz : Nat) (a : Nat → Nat) (tl : va_W) (σ σ' : Mm) (o : Nat) (g : Nat → Int64) (p0 : Int32) (h : f_X6_placeMinutes [.inr (.inl 0), .inl p0] σ = some (none, σ')) : vx_Met l yL_placeMinutes (.codeWith yL_placeMinutes cL_placeMinutes 4 (some .int) [(0, 9, 12, 13)] :: gtb) (rmD 13 1 6) (va_Pc [.ref (a 0), .int p0, .ref o] (Pr D z ts z0 (wO z o g ++ wT z layX a tl σ) sz)) (Qx D (wO z o g ++ wT z layX a tl σ') (some (.int 1)) (va_A (wO z o g ++ wT z layX a tl σ) sz)) (fun _ _ _ => False) 1 6 (va_A (wO z o g ++ wT z layX a tl σ) sz) :=
  hp1t (by decide) rfl (ct_X6_placeMinutes l hl) wq_1056 wq_1053 wq_1054 wq_1055 wq_87 (by decide +kernel) (by decide) rfl dL_placeMinutes_0 dL_placeMinutes_1 dL_placeMinutes_2 dL_placeMinutes_3 dL_placeMinutes_4 dL_placeMinutes_12 dL_placeMinutes_13 dL_placeMinutes_14 (by decide) wq_816 h
theorem hhr_hottest (l : Launch) (hl : l.stackTraces = false) (D : va_G) (z : Nat → ClassId) (ts : Nat → Nat) (z0 sz : Nat) (a : Nat → Nat) (tl : va_W) (σ σ' : Mm) (o : Nat) (g : Nat → Int64) (p0 : Int32) (r : Int32) (h : f_X6_hottest [.inr (.inl 0), .inl p0] σ = some (some (some (.inl r)), σ')) : vx_Met l yL_hottest (.codeWith yL_hottest cL_hottest 4 (some .int) [(0, 9, 12, 13)] :: gtb) (rmD 13 0 0) (va_Pc [.ref (a 0), .int p0, .ref o] (Pr D z ts z0 (wO z o g ++ wT z layX a tl σ) sz)) (Qx D (wO z o (vp_updL g 0 r.toInt64) ++ wT z layX a tl σ') (some (.int 0)) (va_A (wO z o g ++ wT z layX a tl σ) sz)) (fun _ _ _ => False) 0 0 (va_A (wO z o g ++ wT z layX a tl σ) sz) :=
  hp1r (by decide) rfl (ct_X6_hottest l hl) wq_1063 wq_1060 wq_1061 wq_1062 wq_87 (by decide +kernel) (by decide) rfl dL_hottest_0 dL_hottest_1 dL_hottest_2 dL_hottest_3 dL_hottest_4 dL_hottest_7 dL_hottest_8 dL_hottest_9 dL_hottest_15 dL_hottest_16 h
theorem hht_hottest (l : Launch) (hl : l.stackTraces = false) (D : va_G) (z : Nat → ClassId) (ts : Nat → Nat) (z0 sz : Nat) (a : Nat → Nat) (tl : va_W) (σ σ' : Mm) (o : Nat) (g : Nat → Int64) (p0 : Int32) (h : f_X6_hottest [.inr (.inl 0), .inl p0] σ = some (none, σ')) : vx_Met l yL_hottest (.codeWith yL_hottest cL_hottest 4 (some .int) [(0, 9, 12, 13)] :: gtb) (rmD 13 1 6) (va_Pc [.ref (a 0), .int p0, .ref o] (Pr D z ts z0 (wO z o g ++ wT z layX a tl σ) sz)) (Qx D (wO z o g ++ wT z layX a tl σ') (some (.int 1)) (va_A (wO z o g ++ wT z layX a tl σ) sz)) (fun _ _ _ => False) 1 6 (va_A (wO z o g ++ wT z layX a tl σ) sz) :=
  hp1t (by decide) rfl (ct_X6_hottest l hl) wq_1063 wq_1060 wq_1061 wq_1062 wq_87 (by decide +kernel) (by decide) rfl dL_hottest_0 dL_hottest_1 dL_hottest_2 dL_hottest_3 dL_hottest_4 dL_hottest_12 dL_hottest_13 dL_hottest_14 (by decide) wq_816 h
theorem hhr_bestIronAt (l : Launch) (hl : l.stackTraces = false) (D : va_G) (z : Nat → ClassId) (ts : Nat → Nat) (z0 sz : Nat) (a : Nat → Nat) (tl : va_W) (σ σ' : Mm) (o : Nat) (g : Nat → Int64) (p0 : Int32) (r : Int32) (h : f_X6_bestIronAt [.inr (.inl 0), .inl p0] σ = some (some (some (.inl r)), σ')) : vx_Met l yL_bestIronAt (.codeWith yL_bestIronAt cL_bestIronAt 4 (some .int) [(0, 9, 12, 13)] :: gtb) (rmD 13 0 0) (va_Pc [.ref (a 0), .int p0, .ref o] (Pr D z ts z0 (wO z o g ++ wT z layX a tl σ) sz)) (Qx D (wO z o (vp_updL g 0 r.toInt64) ++ wT z layX a tl σ') (some (.int 0)) (va_A (wO z o g ++ wT z layX a tl σ) sz)) (fun _ _ _ => False) 0 0 (va_A (wO z o g ++ wT z layX a tl σ) sz) :=
  hp1r (by decide) rfl (ct_X6_bestIronAt l hl) wq_1076 wq_1073 wq_1074 wq_1075 wq_87 (by decide +kernel) (by decide) rfl dL_bestIronAt_0 dL_bestIronAt_1 dL_bestIronAt_2 dL_bestIronAt_3 dL_bestIronAt_4 dL_bestIronAt_7 dL_bestIronAt_8 dL_bestIronAt_9 dL_bestIronAt_15 dL_bestIronAt_16 h
theorem hht_bestIronAt (l : Launch) (hl : l.stackTraces = false) (D : va_G) (z : Nat → ClassId) (ts : Nat → Nat) (z0 sz : Nat) (a : Nat → Nat) (tl : va_W) (σ σ' : Mm) (o : Nat) (g : Nat → Int64) (p0 : Int32) (h : f_X6_bestIronAt [.inr (.inl 0), .inl p0] σ = some (none, σ')) : vx_Met l yL_bestIronAt (.codeWith yL_bestIronAt cL_bestIronAt 4 (some .int) [(0, 9, 12, 13)] :: gtb) (rmD 13 1 6) (va_Pc [.ref (a 0), .int p0, .ref o] (Pr D z ts z0 (wO z o g ++ wT z layX a tl σ) sz)) (Qx D (wO z o g ++ wT z layX a tl σ') (some (.int 1)) (va_A (wO z o g ++ wT z layX a tl σ) sz)) (fun _ _ _ => False) 1 6 (va_A (wO z o g ++ wT z layX a tl σ) sz) :=
  hp1t (by decide) rfl (ct_X6_bestIronAt l hl) wq_1076 wq_1073 wq_1074 wq_1075 wq_87 (by decide +kernel) (by decide) rfl dL_bestIronAt_0 dL_bestIronAt_1 dL_bestIronAt_2 dL_bestIronAt_3 dL_bestIronAt_4 dL_bestIronAt_12 dL_bestIronAt_13 dL_bestIronAt_14 (by decide) wq_816 h
theorem hhr_finishWithSwap (l : Launch) (hl : l.stackTraces = false) (D : va_G) (z : Nat → ClassId) (ts : Nat → Nat) (z0 sz : Nat) (a : Nat → Nat) (tl : va_W) (σ σ' : Mm) (o : Nat) (g : Nat → Int64) (p0 p1 : Int32) (r : Int32) (h : f_X6_finishWithSwap [.inr (.inl 0), .inl p0, .inl p1] σ = some (some (some (.inl r)), σ')) : vx_Met l yL_finishWithSwap (.codeWith yL_finishWithSwap cL_finishWithSwap 5 (some .int) [(0, 10, 13, 13)] :: gtb) (rmD 13 0 0) (va_Pc [.ref (a 0), .int p0, .int p1, .ref o] (Pr D z ts z0 (wO z o g ++ wT z layX a tl σ) sz)) (Qx D (wO z o (vp_updL g 0 r.toInt64) ++ wT z layX a tl σ') (some (.int 0)) (va_A (wO z o g ++ wT z layX a tl σ) sz)) (fun _ _ _ => False) 0 0 (va_A (wO z o g ++ wT z layX a tl σ) sz) :=
  hp2r (by decide) rfl (ct_X6_finishWithSwap l hl) wq_1083 wq_1080 wq_1081 wq_1082 wq_87 (by decide +kernel) (by decide) rfl dL_finishWithSwap_0 dL_finishWithSwap_1 dL_finishWithSwap_2 dL_finishWithSwap_3 dL_finishWithSwap_4 dL_finishWithSwap_5 dL_finishWithSwap_8 dL_finishWithSwap_9 dL_finishWithSwap_10 dL_finishWithSwap_17 dL_finishWithSwap_18 h
theorem hht_finishWithSwap (l : Launch) (hl : l.stackTraces = false) (D : va_G) (z : Nat → ClassId) (ts : Nat → Nat) (z0 sz : Nat) (a : Nat → Nat) (tl : va_W) (σ σ' : Mm) (o : Nat) (g : Nat → Int64) (p0 p1 : Int32) (h : f_X6_finishWithSwap [.inr (.inl 0), .inl p0, .inl p1] σ = some (none, σ')) : vx_Met l yL_finishWithSwap (.codeWith yL_finishWithSwap cL_finishWithSwap 5 (some .int) [(0, 10, 13, 13)] :: gtb) (rmD 13 1 6) (va_Pc [.ref (a 0), .int p0, .int p1, .ref o] (Pr D z ts z0 (wO z o g ++ wT z layX a tl σ) sz)) (Qx D (wO z o g ++ wT z layX a tl σ') (some (.int 1)) (va_A (wO z o g ++ wT z layX a tl σ) sz)) (fun _ _ _ => False) 1 6 (va_A (wO z o g ++ wT z layX a tl σ) sz) :=
  hp2t (by decide) rfl (ct_X6_finishWithSwap l hl) wq_1083 wq_1080 wq_1081 wq_1082 wq_87 (by decide +kernel) (by decide) rfl dL_finishWithSwap_0 dL_finishWithSwap_1 dL_finishWithSwap_2 dL_finishWithSwap_3 dL_finishWithSwap_4 dL_finishWithSwap_5 dL_finishWithSwap_13 dL_finishWithSwap_15 dL_finishWithSwap_16 (by decide) wq_816 h
theorem hhr_finishWithoutPlace (l : Launch) (hl : l.stackTraces = false) (D : va_G) (z : Nat → ClassId) (ts : Nat → Nat) (z0 sz : Nat) (a : Nat → Nat) (tl : va_W) (σ σ' : Mm) (o : Nat) (g : Nat → Int64) (p0 : Int32) (r : Int32) (h : f_X6_finishWithoutPlace [.inr (.inl 0), .inl p0] σ = some (some (some (.inl r)), σ')) : vx_Met l yL_finishWithoutPlace (.codeWith yL_finishWithoutPlace cL_finishWithoutPlace 4 (some .int) [(0, 9, 12, 13)] :: gtb) (rmD 13 0 0) (va_Pc [.ref (a 0), .int p0, .ref o] (Pr D z ts z0 (wO z o g ++ wT z layX a tl σ) sz)) (Qx D (wO z o (vp_updL g 0 r.toInt64) ++ wT z layX a tl σ') (some (.int 0)) (va_A (wO z o g ++ wT z layX a tl σ) sz)) (fun _ _ _ => False) 0 0 (va_A (wO z o g ++ wT z layX a tl σ) sz) :=
  hp1r (by decide) rfl (ct_X6_finishWithoutPlace l hl) wq_1090 wq_1087 wq_1088 wq_1089 wq_87 (by decide +kernel) (by decide) rfl dL_finishWithoutPlace_0 dL_finishWithoutPlace_1 dL_finishWithoutPlace_2 dL_finishWithoutPlace_3 dL_finishWithoutPlace_4 dL_finishWithoutPlace_7 dL_finishWithoutPlace_8 dL_finishWithoutPlace_9 dL_finishWithoutPlace_15 dL_finishWithoutPlace_16 h
theorem hht_finishWithoutPlace (l : Launch) (hl : l.stackTraces = false) (D : va_G) (z : Nat → ClassId) (ts : Nat → Nat) (z0 sz : Nat) (a : Nat → Nat) (tl : va_W) (σ σ' : Mm) (o : Nat) (g : Nat → Int64) (p0 : Int32) (h : f_X6_finishWithoutPlace [.inr (.inl 0), .inl p0] σ = some (none, σ')) : vx_Met l yL_finishWithoutPlace (.codeWith yL_finishWithoutPlace cL_finishWithoutPlace 4 (some .int) [(0, 9, 12, 13)] :: gtb) (rmD 13 1 6) (va_Pc [.ref (a 0), .int p0, .ref o] (Pr D z ts z0 (wO z o g ++ wT z layX a tl σ) sz)) (Qx D (wO z o g ++ wT z layX a tl σ') (some (.int 1)) (va_A (wO z o g ++ wT z layX a tl σ) sz)) (fun _ _ _ => False) 1 6 (va_A (wO z o g ++ wT z layX a tl σ) sz) :=
  hp1t (by decide) rfl (ct_X6_finishWithoutPlace l hl) wq_1090 wq_1087 wq_1088 wq_1089 wq_87 (by decide +kernel) (by decide) rfl dL_finishWithoutPlace_0 dL_finishWithoutPlace_1 dL_finishWithoutPlace_2 dL_finishWithoutPlace_3 dL_finishWithoutPlace_4 dL_finishWithoutPlace_12 dL_finishWithoutPlace_13 dL_finishWithoutPlace_14 (by decide) wq_816 h
theorem hhr_finishWithoutIron (l : Launch) (hl : l.stackTraces = false) (D : va_G) (z : Nat → ClassId) (ts : Nat → Nat) (z0 sz : Nat) (a : Nat → Nat) (tl : va_W) (σ σ' : Mm) (o : Nat) (g : Nat → Int64) (p0 : Int32) (r : Int32) (h : f_X6_finishWithoutIron [.inr (.inl 0), .inl p0] σ = some (some (some (.inl r)), σ')) : vx_Met l yL_finishWithoutIron (.codeWith yL_finishWithoutIron cL_finishWithoutIron 4 (some .int) [(0, 9, 12, 13)] :: gtb) (rmD 13 0 0) (va_Pc [.ref (a 0), .int p0, .ref o] (Pr D z ts z0 (wO z o g ++ wT z layX a tl σ) sz)) (Qx D (wO z o (vp_updL g 0 r.toInt64) ++ wT z layX a tl σ') (some (.int 0)) (va_A (wO z o g ++ wT z layX a tl σ) sz)) (fun _ _ _ => False) 0 0 (va_A (wO z o g ++ wT z layX a tl σ) sz) :=
  hp1r (by decide) rfl (ct_X6_finishWithoutIron l hl) wq_1101 wq_1098 wq_1099 wq_1100 wq_87 (by decide +kernel) (by decide) rfl dL_finishWithoutIron_0 dL_finishWithoutIron_1 dL_finishWithoutIron_2 dL_finishWithoutIron_3 dL_finishWithoutIron_4 dL_finishWithoutIron_7 dL_finishWithoutIron_8 dL_finishWithoutIron_9 dL_finishWithoutIron_15 dL_finishWithoutIron_16 h
theorem hht_finishWithoutIron (l : Launch) (hl : l.stackTraces = false) (D : va_G) (z : Nat → ClassId) (ts : Nat → Nat) (z0 sz : Nat) (a : Nat → Nat) (tl : va_W) (σ σ' : Mm) (o : Nat) (g : Nat → Int64) (p0 : Int32) (h : f_X6_finishWithoutIron [.inr (.inl 0), .inl p0] σ = some (none, σ')) : vx_Met l yL_finishWithoutIron (.codeWith yL_finishWithoutIron cL_finishWithoutIron 4 (some .int) [(0, 9, 12, 13)] :: gtb) (rmD 13 1 6) (va_Pc [.ref (a 0), .int p0, .ref o] (Pr D z ts z0 (wO z o g ++ wT z layX a tl σ) sz)) (Qx D (wO z o g ++ wT z layX a tl σ') (some (.int 1)) (va_A (wO z o g ++ wT z layX a tl σ) sz)) (fun _ _ _ => False) 1 6 (va_A (wO z o g ++ wT z layX a tl σ) sz) :=
  hp1t (by decide) rfl (ct_X6_finishWithoutIron l hl) wq_1101 wq_1098 wq_1099 wq_1100 wq_87 (by decide +kernel) (by decide) rfl dL_finishWithoutIron_0 dL_finishWithoutIron_1 dL_finishWithoutIron_2 dL_finishWithoutIron_3 dL_finishWithoutIron_4 dL_finishWithoutIron_12 dL_finishWithoutIron_13 dL_finishWithoutIron_14 (by decide) wq_816 h
theorem hhr_finishAlone (l : Launch) (hl : l.stackTraces = false) (D : va_G) (z : Nat → ClassId) (ts : Nat → Nat) (z0 sz : Nat) (a : Nat → Nat) (tl : va_W) (σ σ' : Mm) (o : Nat) (g : Nat → Int64) (p0 : Int32) (r : Int32) (h : f_X6_finishAlone [.inr (.inl 0), .inl p0] σ = some (some (some (.inl r)), σ')) : vx_Met l yL_finishAlone (.codeWith yL_finishAlone cL_finishAlone 4 (some .int) [(0, 9, 12, 13)] :: gtb) (rmD 13 0 0) (va_Pc [.ref (a 0), .int p0, .ref o] (Pr D z ts z0 (wO z o g ++ wT z layX a tl σ) sz)) (Qx D (wO z o (vp_updL g 0 r.toInt64) ++ wT z layX a tl σ') (some (.int 0)) (va_A (wO z o g ++ wT z layX a tl σ) sz)) (fun _ _ _ => False) 0 0 (va_A (wO z o g ++ wT z layX a tl σ) sz) :=
  hp1r (by decide) rfl (ct_X6_finishAlone l hl) wq_1108 wq_1105 wq_1106 wq_1107 wq_87 (by decide +kernel) (by decide) rfl dL_finishAlone_0 dL_finishAlone_1 dL_finishAlone_2 dL_finishAlone_3 dL_finishAlone_4 dL_finishAlone_7 dL_finishAlone_8 dL_finishAlone_9 dL_finishAlone_15 dL_finishAlone_16 h
theorem hht_finishAlone (l : Launch) (hl : l.stackTraces = false) (D : va_G) (z : Nat → ClassId) (ts : Nat → Nat) (z0 sz : Nat) (a : Nat → Nat) (tl : va_W) (σ σ' : Mm) (o : Nat) (g : Nat → Int64) (p0 : Int32) (h : f_X6_finishAlone [.inr (.inl 0), .inl p0] σ = some (none, σ')) : vx_Met l yL_finishAlone (.codeWith yL_finishAlone cL_finishAlone 4 (some .int) [(0, 9, 12, 13)] :: gtb) (rmD 13 1 6) (va_Pc [.ref (a 0), .int p0, .ref o] (Pr D z ts z0 (wO z o g ++ wT z layX a tl σ) sz)) (Qx D (wO z o g ++ wT z layX a tl σ') (some (.int 1)) (va_A (wO z o g ++ wT z layX a tl σ) sz)) (fun _ _ _ => False) 1 6 (va_A (wO z o g ++ wT z layX a tl σ) sz) :=
  hp1t (by decide) rfl (ct_X6_finishAlone l hl) wq_1108 wq_1105 wq_1106 wq_1107 wq_87 (by decide +kernel) (by decide) rfl dL_finishAlone_0 dL_finishAlone_1 dL_finishAlone_2 dL_finishAlone_3 dL_finishAlone_4 dL_finishAlone_12 dL_finishAlone_13 dL_finishAlone_14 (by decide) wq_816 h
theorem hhr_rackMinutes (l : Launch) (hl : l.stackTraces = false) (D : va_G) (z : Nat → ClassId) (ts : Nat → Nat) (z0 sz : Nat) (a : Nat → Nat) (tl : va_W) (σ σ' : Mm) (o : Nat) (g : Nat → Int64) (p0 : Int32) (r : Int32) (h : f_X6_rackMinutes [.inr (.inl 0), .inl p0] σ = some (some (some (.inl r)), σ')) : vx_Met l yL_rackMinutes (.codeWith yL_rackMinutes cL_rackMinutes 4 (some .int) [(0, 9, 12, 13)] :: gtb) (rmD 13 0 0) (va_Pc [.ref (a 0), .int p0, .ref o] (Pr D z ts z0 (wO z o g ++ wT z layX a tl σ) sz)) (Qx D (wO z o (vp_updL g 0 r.toInt64) ++ wT z layX a tl σ') (some (.int 0)) (va_A (wO z o g ++ wT z layX a tl σ) sz)) (fun _ _ _ => False) 0 0 (va_A (wO z o g ++ wT z layX a tl σ) sz) :=
  hp1r (by decide) rfl (ct_X6_rackMinutes l hl) wq_1115 wq_1112 wq_1113 wq_1114 wq_87 (by decide +kernel) (by decide) rfl dL_rackMinutes_0 dL_rackMinutes_1 dL_rackMinutes_2 dL_rackMinutes_3 dL_rackMinutes_4 dL_rackMinutes_7 dL_rackMinutes_8 dL_rackMinutes_9 dL_rackMinutes_15 dL_rackMinutes_16 h
theorem hht_rackMinutes (l : Launch) (hl : l.stackTraces = false) (D : va_G) (z : Nat → ClassId) (ts : Nat → Nat) (z0 sz : Nat) (a : Nat → Nat) (tl : va_W) (σ σ' : Mm) (o : Nat) (g : Nat → Int64) (p0 : Int32) (h : f_X6_rackMinutes [.inr (.inl 0), .inl p0] σ = some (none, σ')) : vx_Met l yL_rackMinutes (.codeWith yL_rackMinutes cL_rackMinutes 4 (some .int) [(0, 9, 12, 13)] :: gtb) (rmD 13 1 6) (va_Pc [.ref (a 0), .int p0, .ref o] (Pr D z ts z0 (wO z o g ++ wT z layX a tl σ) sz)) (Qx D (wO z o g ++ wT z layX a tl σ') (some (.int 1)) (va_A (wO z o g ++ wT z layX a tl σ) sz)) (fun _ _ _ => False) 1 6 (va_A (wO z o g ++ wT z layX a tl σ) sz) :=
  hp1t (by decide) rfl (ct_X6_rackMinutes l hl) wq_1115 wq_1112 wq_1113 wq_1114 wq_87 (by decide +kernel) (by decide) rfl dL_rackMinutes_0 dL_rackMinutes_1 dL_rackMinutes_2 dL_rackMinutes_3 dL_rackMinutes_4 dL_rackMinutes_12 dL_rackMinutes_13 dL_rackMinutes_14 (by decide) wq_816 h
theorem hhr_firstWork (l : Launch) (hl : l.stackTraces = false) (D : va_G) (z : Nat → ClassId) (ts : Nat → Nat) (z0 sz : Nat) (a : Nat → Nat) (tl : va_W) (σ σ' : Mm) (o : Nat) (g : Nat → Int64) (p0 : Int32) (r : Int32) (h : f_X6_firstWork [.inr (.inl 0), .inl p0] σ = some (some (some (.inl r)), σ')) : vx_Met l yL_firstWork (.codeWith yL_firstWork cL_firstWork 4 (some .int) [(0, 9, 12, 13)] :: gtb) (rmD 13 0 0) (va_Pc [.ref (a 0), .int p0, .ref o] (Pr D z ts z0 (wO z o g ++ wT z layX a tl σ) sz)) (Qx D (wO z o (vp_updL g 0 r.toInt64) ++ wT z layX a tl σ') (some (.int 0)) (va_A (wO z o g ++ wT z layX a tl σ) sz)) (fun _ _ _ => False) 0 0 (va_A (wO z o g ++ wT z layX a tl σ) sz) :=
  hp1r (by decide) rfl (ct_X6_firstWork l hl) wq_1126 wq_1123 wq_1124 wq_1125 wq_87 (by decide +kernel) (by decide) rfl dL_firstWork_0 dL_firstWork_1 dL_firstWork_2 dL_firstWork_3 dL_firstWork_4 dL_firstWork_7 dL_firstWork_8 dL_firstWork_9 dL_firstWork_15 dL_firstWork_16 h
theorem hht_firstWork (l : Launch) (hl : l.stackTraces = false) (D : va_G) (z : Nat → ClassId) (ts : Nat → Nat) (z0 sz : Nat) (a : Nat → Nat) (tl : va_W) (σ σ' : Mm) (o : Nat) (g : Nat → Int64) (p0 : Int32) (h : f_X6_firstWork [.inr (.inl 0), .inl p0] σ = some (none, σ')) : vx_Met l yL_firstWork (.codeWith yL_firstWork cL_firstWork 4 (some .int) [(0, 9, 12, 13)] :: gtb) (rmD 13 1 6) (va_Pc [.ref (a 0), .int p0, .ref o] (Pr D z ts z0 (wO z o g ++ wT z layX a tl σ) sz)) (Qx D (wO z o g ++ wT z layX a tl σ') (some (.int 1)) (va_A (wO z o g ++ wT z layX a tl σ) sz)) (fun _ _ _ => False) 1 6 (va_A (wO z o g ++ wT z layX a tl σ) sz) :=
  hp1t (by decide) rfl (ct_X6_firstWork l hl) wq_1126 wq_1123 wq_1124 wq_1125 wq_87 (by decide +kernel) (by decide) rfl dL_firstWork_0 dL_firstWork_1 dL_firstWork_2 dL_firstWork_3 dL_firstWork_4 dL_firstWork_12 dL_firstWork_13 dL_firstWork_14 (by decide) wq_816 h
theorem hhr_ironInPlace (l : Launch) (hl : l.stackTraces = false) (D : va_G) (z : Nat → ClassId) (ts : Nat → Nat) (z0 sz : Nat) (a : Nat → Nat) (tl : va_W) (σ σ' : Mm) (o : Nat) (g : Nat → Int64) (p0 p1 : Int32) (r : Int32) (h : f_X6_ironInPlace [.inr (.inl 0), .inl p0, .inl p1] σ = some (some (some (.inl r)), σ')) : vx_Met l yL_ironInPlace (.codeWith yL_ironInPlace cL_ironInPlace 5 (some .int) [(0, 10, 13, 13)] :: gtb) (rmD 13 0 0) (va_Pc [.ref (a 0), .int p0, .int p1, .ref o] (Pr D z ts z0 (wO z o g ++ wT z layX a tl σ) sz)) (Qx D (wO z o (vp_updL g 0 r.toInt64) ++ wT z layX a tl σ') (some (.int 0)) (va_A (wO z o g ++ wT z layX a tl σ) sz)) (fun _ _ _ => False) 0 0 (va_A (wO z o g ++ wT z layX a tl σ) sz) :=
  hp2r (by decide) rfl (ct_X6_ironInPlace l hl) wq_1137 wq_1134 wq_1135 wq_1136 wq_87 (by decide +kernel) (by decide) rfl dL_ironInPlace_0 dL_ironInPlace_1 dL_ironInPlace_2 dL_ironInPlace_3 dL_ironInPlace_4 dL_ironInPlace_5 dL_ironInPlace_8 dL_ironInPlace_9 dL_ironInPlace_10 dL_ironInPlace_17 dL_ironInPlace_18 h
theorem hht_ironInPlace (l : Launch) (hl : l.stackTraces = false) (D : va_G) (z : Nat → ClassId) (ts : Nat → Nat) (z0 sz : Nat) (a : Nat → Nat) (tl : va_W) (σ σ' : Mm) (o : Nat) (g : Nat → Int64) (p0 p1 : Int32) (h : f_X6_ironInPlace [.inr (.inl 0), .inl p0, .inl p1] σ = some (none, σ')) : vx_Met l yL_ironInPlace (.codeWith yL_ironInPlace cL_ironInPlace 5 (some .int) [(0, 10, 13, 13)] :: gtb) (rmD 13 1 6) (va_Pc [.ref (a 0), .int p0, .int p1, .ref o] (Pr D z ts z0 (wO z o g ++ wT z layX a tl σ) sz)) (Qx D (wO z o g ++ wT z layX a tl σ') (some (.int 1)) (va_A (wO z o g ++ wT z layX a tl σ) sz)) (fun _ _ _ => False) 1 6 (va_A (wO z o g ++ wT z layX a tl σ) sz) :=
  hp2t (by decide) rfl (ct_X6_ironInPlace l hl) wq_1137 wq_1134 wq_1135 wq_1136 wq_87 (by decide +kernel) (by decide) rfl dL_ironInPlace_0 dL_ironInPlace_1 dL_ironInPlace_2 dL_ironInPlace_3 dL_ironInPlace_4 dL_ironInPlace_5 dL_ironInPlace_13 dL_ironInPlace_15 dL_ironInPlace_16 (by decide) wq_816 h
theorem hhr_ironOnAnvil (l : Launch) (hl : l.stackTraces = false) (D : va_G) (z : Nat → ClassId) (ts : Nat → Nat) (z0 sz : Nat) (a : Nat → Nat) (tl : va_W) (σ σ' : Mm) (o : Nat) (g : Nat → Int64) (p0 p1 : Int32) (r : Int32) (h : f_X6_ironOnAnvil [.inr (.inl 0), .inl p0, .inl p1] σ = some (some (some (.inl r)), σ')) : vx_Met l yL_ironOnAnvil (.codeWith yL_ironOnAnvil cL_ironOnAnvil 5 (some .int) [(0, 10, 13, 13)] :: gtb) (rmD 13 0 0) (va_Pc [.ref (a 0), .int p0, .int p1, .ref o] (Pr D z ts z0 (wO z o g ++ wT z layX a tl σ) sz)) (Qx D (wO z o (vp_updL g 0 r.toInt64) ++ wT z layX a tl σ') (some (.int 0)) (va_A (wO z o g ++ wT z layX a tl σ) sz)) (fun _ _ _ => False) 0 0 (va_A (wO z o g ++ wT z layX a tl σ) sz) :=
  hp2r (by decide) rfl (ct_X6_ironOnAnvil l hl) wq_1145 wq_1142 wq_1143 wq_1144 wq_87 (by decide +kernel) (by decide) rfl dL_ironOnAnvil_0 dL_ironOnAnvil_1 dL_ironOnAnvil_2 dL_ironOnAnvil_3 dL_ironOnAnvil_4 dL_ironOnAnvil_5 dL_ironOnAnvil_8 dL_ironOnAnvil_9 dL_ironOnAnvil_10 dL_ironOnAnvil_17 dL_ironOnAnvil_18 h
theorem hht_ironOnAnvil (l : Launch) (hl : l.stackTraces = false) (D : va_G) (z : Nat → ClassId) (ts : Nat → Nat) (z0 sz : Nat) (a : Nat → Nat) (tl : va_W) (σ σ' : Mm) (o : Nat) (g : Nat → Int64) (p0 p1 : Int32) (h : f_X6_ironOnAnvil [.inr (.inl 0), .inl p0, .inl p1] σ = some (none, σ')) : vx_Met l yL_ironOnAnvil (.codeWith yL_ironOnAnvil cL_ironOnAnvil 5 (some .int) [(0, 10, 13, 13)] :: gtb) (rmD 13 1 6) (va_Pc [.ref (a 0), .int p0, .int p1, .ref o] (Pr D z ts z0 (wO z o g ++ wT z layX a tl σ) sz)) (Qx D (wO z o g ++ wT z layX a tl σ') (some (.int 1)) (va_A (wO z o g ++ wT z layX a tl σ) sz)) (fun _ _ _ => False) 1 6 (va_A (wO z o g ++ wT z layX a tl σ) sz) :=
  hp2t (by decide) rfl (ct_X6_ironOnAnvil l hl) wq_1145 wq_1142 wq_1143 wq_1144 wq_87 (by decide +kernel) (by decide) rfl dL_ironOnAnvil_0 dL_ironOnAnvil_1 dL_ironOnAnvil_2 dL_ironOnAnvil_3 dL_ironOnAnvil_4 dL_ironOnAnvil_5 dL_ironOnAnvil_13 dL_ironOnAnvil_15 dL_ironOnAnvil_16 (by decide) wq_816 h
theorem hhr_finishWithRate (l : Launch) (hl : l.stackTraces = false) (D : va_G) (z : Nat → ClassId) (ts : Nat → Nat) (z0 sz : Nat) (a : Nat → Nat) (tl : va_W) (σ σ' : Mm) (o : Nat) (g : Nat → Int64) (p0 p1 : Int32) (r : Int32) (h : f_X6_finishWithRate [.inr (.inl 0), .inl p0, .inl p1] σ = some (some (some (.inl r)), σ')) : vx_Met l yL_finishWithRate (.codeWith yL_finishWithRate cL_finishWithRate 5 (some .int) [(0, 10, 13, 13)] :: gtb) (rmD 13 0 0) (va_Pc [.ref (a 0), .int p0, .int p1, .ref o] (Pr D z ts z0 (wO z o g ++ wT z layX a tl σ) sz)) (Qx D (wO z o (vp_updL g 0 r.toInt64) ++ wT z layX a tl σ') (some (.int 0)) (va_A (wO z o g ++ wT z layX a tl σ) sz)) (fun _ _ _ => False) 0 0 (va_A (wO z o g ++ wT z layX a tl σ) sz) :=
  hp2r (by decide) rfl (ct_X6_finishWithRate l hl) wq_1152 wq_1149 wq_1150 wq_1151 wq_87 (by decide +kernel) (by decide) rfl dL_finishWithRate_0 dL_finishWithRate_1 dL_finishWithRate_2 dL_finishWithRate_3 dL_finishWithRate_4 dL_finishWithRate_5 dL_finishWithRate_8 dL_finishWithRate_9 dL_finishWithRate_10 dL_finishWithRate_17 dL_finishWithRate_18 h
theorem hht_finishWithRate (l : Launch) (hl : l.stackTraces = false) (D : va_G) (z : Nat → ClassId) (ts : Nat → Nat) (z0 sz : Nat) (a : Nat → Nat) (tl : va_W) (σ σ' : Mm) (o : Nat) (g : Nat → Int64) (p0 p1 : Int32) (h : f_X6_finishWithRate [.inr (.inl 0), .inl p0, .inl p1] σ = some (none, σ')) : vx_Met l yL_finishWithRate (.codeWith yL_finishWithRate cL_finishWithRate 5 (some .int) [(0, 10, 13, 13)] :: gtb) (rmD 13 1 6) (va_Pc [.ref (a 0), .int p0, .int p1, .ref o] (Pr D z ts z0 (wO z o g ++ wT z layX a tl σ) sz)) (Qx D (wO z o g ++ wT z layX a tl σ') (some (.int 1)) (va_A (wO z o g ++ wT z layX a tl σ) sz)) (fun _ _ _ => False) 1 6 (va_A (wO z o g ++ wT z layX a tl σ) sz) :=
  hp2t (by decide) rfl (ct_X6_finishWithRate l hl) wq_1152 wq_1149 wq_1150 wq_1151 wq_87 (by decide +kernel) (by decide) rfl dL_finishWithRate_0 dL_finishWithRate_1 dL_finishWithRate_2 dL_finishWithRate_3 dL_finishWithRate_4 dL_finishWithRate_5 dL_finishWithRate_13 dL_finishWithRate_15 dL_finishWithRate_16 (by decide) wq_816 h
theorem hhr_leastRate (l : Launch) (hl : l.stackTraces = false) (D : va_G) (z : Nat → ClassId) (ts : Nat → Nat) (z0 sz : Nat) (a : Nat → Nat) (tl : va_W) (σ σ' : Mm) (o : Nat) (g : Nat → Int64) (p0 : Int32) (r : Int32) (h : f_X6_leastRate [.inr (.inl 0), .inl p0] σ = some (some (some (.inl r)), σ')) : vx_Met l yL_leastRate (.codeWith yL_leastRate cL_leastRate 4 (some .int) [(0, 9, 12, 13)] :: gtb) (rmD 13 0 0) (va_Pc [.ref (a 0), .int p0, .ref o] (Pr D z ts z0 (wO z o g ++ wT z layX a tl σ) sz)) (Qx D (wO z o (vp_updL g 0 r.toInt64) ++ wT z layX a tl σ') (some (.int 0)) (va_A (wO z o g ++ wT z layX a tl σ) sz)) (fun _ _ _ => False) 0 0 (va_A (wO z o g ++ wT z layX a tl σ) sz) :=
  hp1r (by decide) rfl (ct_X6_leastRate l hl) wq_1159 wq_1156 wq_1157 wq_1158 wq_87 (by decide +kernel) (by decide) rfl dL_leastRate_0 dL_leastRate_1 dL_leastRate_2 dL_leastRate_3 dL_leastRate_4 dL_leastRate_7 dL_leastRate_8 dL_leastRate_9 dL_leastRate_15 dL_leastRate_16 h
theorem hht_leastRate (l : Launch) (hl : l.stackTraces = false) (D : va_G) (z : Nat → ClassId) (ts : Nat → Nat) (z0 sz : Nat) (a : Nat → Nat) (tl : va_W) (σ σ' : Mm) (o : Nat) (g : Nat → Int64) (p0 : Int32) (h : f_X6_leastRate [.inr (.inl 0), .inl p0] σ = some (none, σ')) : vx_Met l yL_leastRate (.codeWith yL_leastRate cL_leastRate 4 (some .int) [(0, 9, 12, 13)] :: gtb) (rmD 13 1 6) (va_Pc [.ref (a 0), .int p0, .ref o] (Pr D z ts z0 (wO z o g ++ wT z layX a tl σ) sz)) (Qx D (wO z o g ++ wT z layX a tl σ') (some (.int 1)) (va_A (wO z o g ++ wT z layX a tl σ) sz)) (fun _ _ _ => False) 1 6 (va_A (wO z o g ++ wT z layX a tl σ) sz) :=
  hp1t (by decide) rfl (ct_X6_leastRate l hl) wq_1159 wq_1156 wq_1157 wq_1158 wq_87 (by decide +kernel) (by decide) rfl dL_leastRate_0 dL_leastRate_1 dL_leastRate_2 dL_leastRate_3 dL_leastRate_4 dL_leastRate_12 dL_leastRate_13 dL_leastRate_14 (by decide) wq_816 h
