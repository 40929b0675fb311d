theorem dX3_writeState_0 : decode cX3_writeState 0 = .ok (.iconst 0, 1) := by decide +kernel
theorem dX3_writeState_1 : decode cX3_writeState 1 = .ok (.istore_n 2, 1) := by decide +kernel
theorem dX3_writeState_2 : decode cX3_writeState 2 = .ok (.iload_n 2, 1) := by decide +kernel
theorem dX3_writeState_3 : decode cX3_writeState 3 = .ok (.aload_n 0, 1) := by decide +kernel
theorem dX3_writeState_4 : decode cX3_writeState 4 = .ok (.getfield 21, 3) := by decide +kernel
theorem dX3_writeState_7 : decode cX3_writeState 7 = .ok (.getfield 57, 3) := by decide +kernel
theorem dX3_writeState_10 : decode cX3_writeState 10 = .ok (.if_icmp .ge 51, 3) := by decide +kernel
theorem dX3_writeState_13 : decode cX3_writeState 13 = .ok (.aload_n 0, 1) := by decide +kernel
theorem dX3_writeState_14 : decode cX3_writeState 14 = .ok (.getfield 9, 3) := by decide +kernel
theorem dX3_writeState_17 : decode cX3_writeState 17 = .ok (.iload_n 2, 1) := by decide +kernel
theorem dX3_writeState_18 : decode cX3_writeState 18 = .ok (.sipush 481, 3) := by decide +kernel
theorem dX3_writeState_21 : decode cX3_writeState 21 = .ok (.imul, 1) := by decide +kernel
theorem dX3_writeState_22 : decode cX3_writeState 22 = .ok (.iload_n 1, 1) := by decide +kernel
theorem dX3_writeState_23 : decode cX3_writeState 23 = .ok (.iadd, 1) := by decide +kernel
theorem dX3_writeState_24 : decode cX3_writeState 24 = .ok (.aload_n 0, 1) := by decide +kernel
theorem dX3_writeState_25 : decode cX3_writeState 25 = .ok (.getfield 30, 3) := by decide +kernel
theorem dX3_writeState_28 : decode cX3_writeState 28 = .ok (.getfield 63, 3) := by decide +kernel
theorem dX3_writeState_31 : decode cX3_writeState 31 = .ok (.iload_n 2, 1) := by decide +kernel
theorem dX3_writeState_32 : decode cX3_writeState 32 = .ok (.iaload, 1) := by decide +kernel
theorem dX3_writeState_33 : decode cX3_writeState 33 = .ok (.iastore, 1) := by decide +kernel
theorem dX3_writeState_34 : decode cX3_writeState 34 = .ok (.aload_n 0, 1) := by decide +kernel
theorem dX3_writeState_35 : decode cX3_writeState 35 = .ok (.getfield 15, 3) := by decide +kernel
theorem dX3_writeState_38 : decode cX3_writeState 38 = .ok (.iload_n 2, 1) := by decide +kernel
theorem dX3_writeState_39 : decode cX3_writeState 39 = .ok (.sipush 481, 3) := by decide +kernel
theorem dX3_writeState_42 : decode cX3_writeState 42 = .ok (.imul, 1) := by decide +kernel
theorem dX3_writeState_43 : decode cX3_writeState 43 = .ok (.iload_n 1, 1) := by decide +kernel
theorem dX3_writeState_44 : decode cX3_writeState 44 = .ok (.iadd, 1) := by decide +kernel
theorem dX3_writeState_45 : decode cX3_writeState 45 = .ok (.aload_n 0, 1) := by decide +kernel
theorem dX3_writeState_46 : decode cX3_writeState 46 = .ok (.getfield 30, 3) := by decide +kernel
theorem dX3_writeState_49 : decode cX3_writeState 49 = .ok (.getfield 66, 3) := by decide +kernel
theorem dX3_writeState_52 : decode cX3_writeState 52 = .ok (.iload_n 2, 1) := by decide +kernel
theorem dX3_writeState_53 : decode cX3_writeState 53 = .ok (.iaload, 1) := by decide +kernel
theorem dX3_writeState_54 : decode cX3_writeState 54 = .ok (.iastore, 1) := by decide +kernel
theorem dX3_writeState_55 : decode cX3_writeState 55 = .ok (.iinc 2 1, 3) := by decide +kernel
theorem dX3_writeState_58 : decode cX3_writeState 58 = .ok (.goto (-56), 3) := by decide +kernel
theorem dX3_writeState_61 : decode cX3_writeState 61 = .ok (.return_, 1) := by decide +kernel
theorem dX3_writeSpots_0 : decode cX3_writeSpots 0 = .ok (.iconst 0, 1) := by decide +kernel
theorem dX3_writeSpots_1 : decode cX3_writeSpots 1 = .ok (.istore_n 2, 1) := by decide +kernel
theorem dX3_writeSpots_2 : decode cX3_writeSpots 2 = .ok (.iload_n 2, 1) := by decide +kernel
theorem dX3_writeSpots_3 : decode cX3_writeSpots 3 = .ok (.aload_n 0, 1) := by decide +kernel
theorem dX3_writeSpots_4 : decode cX3_writeSpots 4 = .ok (.getfield 21, 3) := by decide +kernel
theorem dX3_writeSpots_7 : decode cX3_writeSpots 7 = .ok (.getfield 57, 3) := by decide +kernel
theorem dX3_writeSpots_10 : decode cX3_writeSpots 10 = .ok (.if_icmp .ge 30, 3) := by decide +kernel
theorem dX3_writeSpots_13 : decode cX3_writeSpots 13 = .ok (.aload_n 0, 1) := by decide +kernel
theorem dX3_writeSpots_14 : decode cX3_writeSpots 14 = .ok (.getfield 18, 3) := by decide +kernel
theorem dX3_writeSpots_17 : decode cX3_writeSpots 17 = .ok (.iload_n 2, 1) := by decide +kernel
theorem dX3_writeSpots_18 : decode cX3_writeSpots 18 = .ok (.sipush 480, 3) := by decide +kernel
theorem dX3_writeSpots_21 : decode cX3_writeSpots 21 = .ok (.imul, 1) := by decide +kernel
theorem dX3_writeSpots_22 : decode cX3_writeSpots 22 = .ok (.iload_n 1, 1) := by decide +kernel
theorem dX3_writeSpots_23 : decode cX3_writeSpots 23 = .ok (.iadd, 1) := by decide +kernel
theorem dX3_writeSpots_24 : decode cX3_writeSpots 24 = .ok (.aload_n 0, 1) := by decide +kernel
theorem dX3_writeSpots_25 : decode cX3_writeSpots 25 = .ok (.getfield 30, 3) := by decide +kernel
theorem dX3_writeSpots_28 : decode cX3_writeSpots 28 = .ok (.getfield 69, 3) := by decide +kernel
theorem dX3_writeSpots_31 : decode cX3_writeSpots 31 = .ok (.iload_n 2, 1) := by decide +kernel
theorem dX3_writeSpots_32 : decode cX3_writeSpots 32 = .ok (.iaload, 1) := by decide +kernel
theorem dX3_writeSpots_33 : decode cX3_writeSpots 33 = .ok (.iastore, 1) := by decide +kernel
theorem dX3_writeSpots_34 : decode cX3_writeSpots 34 = .ok (.iinc 2 1, 3) := by decide +kernel
theorem dX3_writeSpots_37 : decode cX3_writeSpots 37 = .ok (.goto (-35), 3) := by decide +kernel
theorem dX3_writeSpots_40 : decode cX3_writeSpots 40 = .ok (.return_, 1) := by decide +kernel
theorem dX3_write_0 : decode cX3_write 0 = .ok (.aload_n 0, 1) := by decide +kernel
theorem dX3_write_1 : decode cX3_write 1 = .ok (.getfield 30, 3) := by decide +kernel
theorem dX3_write_4 : decode cX3_write 4 = .ok (.invokevirtual 34, 3) := by decide +kernel
theorem dX3_write_7 : decode cX3_write 7 = .ok (.aload_n 0, 1) := by decide +kernel
theorem dX3_write_8 : decode cX3_write 8 = .ok (.iconst 0, 1) := by decide +kernel
theorem dX3_write_9 : decode cX3_write 9 = .ok (.invokevirtual 37, 3) := by decide +kernel
theorem dX3_write_12 : decode cX3_write 12 = .ok (.iconst 0, 1) := by decide +kernel
theorem dX3_write_13 : decode cX3_write 13 = .ok (.istore_n 1, 1) := by decide +kernel
theorem dX3_write_14 : decode cX3_write 14 = .ok (.iload_n 1, 1) := by decide +kernel
theorem dX3_write_15 : decode cX3_write 15 = .ok (.sipush 480, 3) := by decide +kernel
theorem dX3_write_18 : decode cX3_write 18 = .ok (.if_icmp .ge 51, 3) := by decide +kernel
theorem dX3_write_21 : decode cX3_write 21 = .ok (.aload_n 0, 1) := by decide +kernel
theorem dX3_write_22 : decode cX3_write 22 = .ok (.getfield 30, 3) := by decide +kernel
theorem dX3_write_25 : decode cX3_write 25 = .ok (.invokevirtual 41, 3) := by decide +kernel
theorem dX3_write_28 : decode cX3_write 28 = .ok (.aload_n 0, 1) := by decide +kernel
theorem dX3_write_29 : decode cX3_write 29 = .ok (.getfield 30, 3) := by decide +kernel
theorem dX3_write_32 : decode cX3_write 32 = .ok (.invokevirtual 44, 3) := by decide +kernel
theorem dX3_write_35 : decode cX3_write 35 = .ok (.aload_n 0, 1) := by decide +kernel
theorem dX3_write_36 : decode cX3_write 36 = .ok (.getfield 30, 3) := by decide +kernel
theorem dX3_write_39 : decode cX3_write 39 = .ok (.invokevirtual 47, 3) := by decide +kernel
theorem dX3_write_42 : decode cX3_write 42 = .ok (.aload_n 0, 1) := by decide +kernel
theorem dX3_write_43 : decode cX3_write 43 = .ok (.iload_n 1, 1) := by decide +kernel
theorem dX3_write_44 : decode cX3_write 44 = .ok (.invokevirtual 50, 3) := by decide +kernel
theorem dX3_write_47 : decode cX3_write 47 = .ok (.aload_n 0, 1) := by decide +kernel
theorem dX3_write_48 : decode cX3_write 48 = .ok (.getfield 30, 3) := by decide +kernel
theorem dX3_write_51 : decode cX3_write 51 = .ok (.iload_n 1, 1) := by decide +kernel
theorem dX3_write_52 : decode cX3_write 52 = .ok (.invokevirtual 53, 3) := by decide +kernel
theorem dX3_write_55 : decode cX3_write 55 = .ok (.pop, 1) := by decide +kernel
theorem dX3_write_56 : decode cX3_write 56 = .ok (.aload_n 0, 1) := by decide +kernel
theorem dX3_write_57 : decode cX3_write 57 = .ok (.iload_n 1, 1) := by decide +kernel
theorem dX3_write_58 : decode cX3_write 58 = .ok (.iconst 1, 1) := by decide +kernel
theorem dX3_write_59 : decode cX3_write 59 = .ok (.iadd, 1) := by decide +kernel
theorem dX3_write_60 : decode cX3_write 60 = .ok (.invokevirtual 37, 3) := by decide +kernel
theorem dX3_write_63 : decode cX3_write 63 = .ok (.iinc 1 1, 3) := by decide +kernel
theorem dX3_write_66 : decode cX3_write 66 = .ok (.goto (-52), 3) := by decide +kernel
theorem dX3_write_69 : decode cX3_write 69 = .ok (.return_, 1) := by decide +kernel
theorem dX3_heatOf_0 : decode cX3_heatOf 0 = .ok (.aload_n 0, 1) := by decide +kernel
theorem dX3_heatOf_1 : decode cX3_heatOf 1 = .ok (.getfield 9, 3) := by decide +kernel
theorem dX3_heatOf_4 : decode cX3_heatOf 4 = .ok (.iload_n 1, 1) := by decide +kernel
theorem dX3_heatOf_5 : decode cX3_heatOf 5 = .ok (.sipush 481, 3) := by decide +kernel
theorem dX3_heatOf_8 : decode cX3_heatOf 8 = .ok (.imul, 1) := by decide +kernel
theorem dX3_heatOf_9 : decode cX3_heatOf 9 = .ok (.iload_n 2, 1) := by decide +kernel
theorem dX3_heatOf_10 : decode cX3_heatOf 10 = .ok (.iadd, 1) := by decide +kernel
theorem dX3_heatOf_11 : decode cX3_heatOf 11 = .ok (.iaload, 1) := by decide +kernel
theorem dX3_heatOf_12 : decode cX3_heatOf 12 = .ok (.ireturn, 1) := by decide +kernel
theorem dX3_stepsOf_0 : decode cX3_stepsOf 0 = .ok (.aload_n 0, 1) := by decide +kernel
theorem dX3_stepsOf_1 : decode cX3_stepsOf 1 = .ok (.getfield 15, 3) := by decide +kernel
theorem dX3_stepsOf_4 : decode cX3_stepsOf 4 = .ok (.iload_n 1, 1) := by decide +kernel
theorem dX3_stepsOf_5 : decode cX3_stepsOf 5 = .ok (.sipush 481, 3) := by decide +kernel
theorem dX3_stepsOf_8 : decode cX3_stepsOf 8 = .ok (.imul, 1) := by decide +kernel
theorem dX3_stepsOf_9 : decode cX3_stepsOf 9 = .ok (.iload_n 2, 1) := by decide +kernel
theorem dX3_stepsOf_10 : decode cX3_stepsOf 10 = .ok (.iadd, 1) := by decide +kernel
theorem dX3_stepsOf_11 : decode cX3_stepsOf 11 = .ok (.iaload, 1) := by decide +kernel
theorem dX3_stepsOf_12 : decode cX3_stepsOf 12 = .ok (.ireturn, 1) := by decide +kernel
theorem dX3_spotOf_0 : decode cX3_spotOf 0 = .ok (.aload_n 0, 1) := by decide +kernel
theorem dX3_spotOf_1 : decode cX3_spotOf 1 = .ok (.getfield 18, 3) := by decide +kernel
theorem dX3_spotOf_4 : decode cX3_spotOf 4 = .ok (.iload_n 1, 1) := by decide +kernel
theorem dX3_spotOf_5 : decode cX3_spotOf 5 = .ok (.sipush 480, 3) := by decide +kernel
theorem dX3_spotOf_8 : decode cX3_spotOf 8 = .ok (.imul, 1) := by decide +kernel
theorem dX3_spotOf_9 : decode cX3_spotOf 9 = .ok (.iload_n 2, 1) := by decide +kernel
theorem dX3_spotOf_10 : decode cX3_spotOf 10 = .ok (.iadd, 1) := by decide +kernel
theorem dX3_spotOf_11 : decode cX3_spotOf 11 = .ok (.iaload, 1) := by decide +kernel
theorem dX3_spotOf_12 : decode cX3_spotOf 12 = .ok (.ireturn, 1) := by decide +kernel
theorem dX3_greatestHeat_0 : decode cX3_greatestHeat 0 = .ok (.bipush 20, 2) := by decide +kernel
theorem dX3_greatestHeat_2 : decode cX3_greatestHeat 2 = .ok (.istore_n 2, 1) := by decide +kernel
theorem dX3_greatestHeat_3 : decode cX3_greatestHeat 3 = .ok (.iconst 0, 1) := by decide +kernel
theorem dX3_greatestHeat_4 : decode cX3_greatestHeat 4 = .ok (.istore_n 3, 1) := by decide +kernel
theorem dX3_greatestHeat_5 : decode cX3_greatestHeat 5 = .ok (.iload_n 3, 1) := by decide +kernel
theorem dX3_greatestHeat_6 : decode cX3_greatestHeat 6 = .ok (.sipush 480, 3) := by decide +kernel
theorem dX3_greatestHeat_9 : decode cX3_greatestHeat 9 = .ok (.if_icmp .gt 20, 3) := by decide +kernel
theorem dX3_greatestHeat_12 : decode cX3_greatestHeat 12 = .ok (.iload_n 2, 1) := by decide +kernel
theorem dX3_greatestHeat_13 : decode cX3_greatestHeat 13 = .ok (.aload_n 0, 1) := by decide +kernel
theorem dX3_greatestHeat_14 : decode cX3_greatestHeat 14 = .ok (.iload_n 1, 1) := by decide +kernel
theorem dX3_greatestHeat_15 : decode cX3_greatestHeat 15 = .ok (.iload_n 3, 1) := by decide +kernel
theorem dX3_greatestHeat_16 : decode cX3_greatestHeat 16 = .ok (.invokevirtual 72, 3) := by decide +kernel
theorem dX3_greatestHeat_19 : decode cX3_greatestHeat 19 = .ok (.invokestatic 76, 3) := by decide +kernel
theorem dX3_greatestHeat_22 : decode cX3_greatestHeat 22 = .ok (.istore_n 2, 1) := by decide +kernel
theorem dX3_greatestHeat_23 : decode cX3_greatestHeat 23 = .ok (.iinc 3 1, 3) := by decide +kernel
theorem dX3_greatestHeat_26 : decode cX3_greatestHeat 26 = .ok (.goto (-21), 3) := by decide +kernel
theorem dX3_greatestHeat_29 : decode cX3_greatestHeat 29 = .ok (.iload_n 2, 1) := by decide +kernel
theorem dX3_greatestHeat_30 : decode cX3_greatestHeat 30 = .ok (.ireturn, 1) := by decide +kernel
theorem dX3_minutesInFire_0 : decode cX3_minutesInFire 0 = .ok (.iconst 0, 1) := by decide +kernel
theorem dX3_minutesInFire_1 : decode cX3_minutesInFire 1 = .ok (.istore_n 2, 1) := by decide +kernel
theorem dX3_minutesInFire_2 : decode cX3_minutesInFire 2 = .ok (.iconst 0, 1) := by decide +kernel
theorem dX3_minutesInFire_3 : decode cX3_minutesInFire 3 = .ok (.istore_n 3, 1) := by decide +kernel
theorem dX3_minutesInFire_4 : decode cX3_minutesInFire 4 = .ok (.iload_n 3, 1) := by decide +kernel
theorem dX3_minutesInFire_5 : decode cX3_minutesInFire 5 = .ok (.sipush 480, 3) := by decide +kernel
theorem dX3_minutesInFire_8 : decode cX3_minutesInFire 8 = .ok (.if_icmp .ge 33, 3) := by decide +kernel
theorem dX3_minutesInFire_11 : decode cX3_minutesInFire 11 = .ok (.aload_n 0, 1) := by decide +kernel
theorem dX3_minutesInFire_12 : decode cX3_minutesInFire 12 = .ok (.iload_n 1, 1) := by decide +kernel
theorem dX3_minutesInFire_13 : decode cX3_minutesInFire 13 = .ok (.iload_n 3, 1) := by decide +kernel
theorem dX3_minutesInFire_14 : decode cX3_minutesInFire 14 = .ok (.invokevirtual 81, 3) := by decide +kernel
theorem dX3_minutesInFire_17 : decode cX3_minutesInFire 17 = .ok (.istore 4, 2) := by decide +kernel
theorem dX3_minutesInFire_19 : decode cX3_minutesInFire 19 = .ok (.iload 4, 2) := by decide +kernel
theorem dX3_minutesInFire_21 : decode cX3_minutesInFire 21 = .ok (.iconst 1, 1) := by decide +kernel
theorem dX3_minutesInFire_22 : decode cX3_minutesInFire 22 = .ok (.if_icmp .lt 13, 3) := by decide +kernel
theorem dX3_minutesInFire_25 : decode cX3_minutesInFire 25 = .ok (.iload 4, 2) := by decide +kernel
theorem dX3_minutesInFire_27 : decode cX3_minutesInFire 27 = .ok (.bipush 10, 2) := by decide +kernel
theorem dX3_minutesInFire_29 : decode cX3_minutesInFire 29 = .ok (.if_icmp .ge 6, 3) := by decide +kernel
theorem dX3_minutesInFire_32 : decode cX3_minutesInFire 32 = .ok (.iinc 2 1, 3) := by decide +kernel
theorem dX3_minutesInFire_35 : decode cX3_minutesInFire 35 = .ok (.iinc 3 1, 3) := by decide +kernel
theorem dX3_minutesInFire_38 : decode cX3_minutesInFire 38 = .ok (.goto (-34), 3) := by decide +kernel
theorem dX3_minutesInFire_41 : decode cX3_minutesInFire 41 = .ok (.iload_n 2, 1) := by decide +kernel
theorem dX3_minutesInFire_42 : decode cX3_minutesInFire 42 = .ok (.ireturn, 1) := by decide +kernel
theorem dX3_minutesOnRack_0 : decode cX3_minutesOnRack 0 = .ok (.iconst 0, 1) := by decide +kernel
theorem dX3_minutesOnRack_1 : decode cX3_minutesOnRack 1 = .ok (.istore_n 3, 1) := by decide +kernel
theorem dX3_minutesOnRack_2 : decode cX3_minutesOnRack 2 = .ok (.iconst 0, 1) := by decide +kernel
theorem dX3_minutesOnRack_3 : decode cX3_minutesOnRack 3 = .ok (.istore 4, 2) := by decide +kernel
theorem dX3_minutesOnRack_5 : decode cX3_minutesOnRack 5 = .ok (.iload 4, 2) := by decide +kernel
theorem dX3_minutesOnRack_7 : decode cX3_minutesOnRack 7 = .ok (.sipush 480, 3) := by decide +kernel
theorem dX3_minutesOnRack_10 : decode cX3_minutesOnRack 10 = .ok (.if_icmp .ge 33, 3) := by decide +kernel
theorem dX3_minutesOnRack_13 : decode cX3_minutesOnRack 13 = .ok (.aload_n 0, 1) := by decide +kernel
theorem dX3_minutesOnRack_14 : decode cX3_minutesOnRack 14 = .ok (.iload_n 1, 1) := by decide +kernel
theorem dX3_minutesOnRack_15 : decode cX3_minutesOnRack 15 = .ok (.iload 4, 2) := by decide +kernel
theorem dX3_minutesOnRack_17 : decode cX3_minutesOnRack 17 = .ok (.invokevirtual 81, 3) := by decide +kernel
theorem dX3_minutesOnRack_20 : decode cX3_minutesOnRack 20 = .ok (.ifCond .ne 17, 3) := by decide +kernel
theorem dX3_minutesOnRack_23 : decode cX3_minutesOnRack 23 = .ok (.aload_n 0, 1) := by decide +kernel
theorem dX3_minutesOnRack_24 : decode cX3_minutesOnRack 24 = .ok (.iload_n 1, 1) := by decide +kernel
theorem dX3_minutesOnRack_25 : decode cX3_minutesOnRack 25 = .ok (.iload 4, 2) := by decide +kernel
theorem dX3_minutesOnRack_27 : decode cX3_minutesOnRack 27 = .ok (.invokevirtual 84, 3) := by decide +kernel
theorem dX3_minutesOnRack_30 : decode cX3_minutesOnRack 30 = .ok (.iload_n 2, 1) := by decide +kernel
theorem dX3_minutesOnRack_31 : decode cX3_minutesOnRack 31 = .ok (.if_icmp .ge 6, 3) := by decide +kernel
theorem dX3_minutesOnRack_34 : decode cX3_minutesOnRack 34 = .ok (.iinc 3 1, 3) := by decide +kernel
theorem dX3_minutesOnRack_37 : decode cX3_minutesOnRack 37 = .ok (.iinc 4 1, 3) := by decide +kernel
theorem dX3_minutesOnRack_40 : decode cX3_minutesOnRack 40 = .ok (.goto (-35), 3) := by decide +kernel
theorem dX3_minutesOnRack_43 : decode cX3_minutesOnRack 43 = .ok (.iload_n 3, 1) := by decide +kernel
theorem dX3_minutesOnRack_44 : decode cX3_minutesOnRack 44 = .ok (.ireturn, 1) := by decide +kernel
theorem dX3_firstOnAnvil_0 : decode cX3_firstOnAnvil 0 = .ok (.iconst 0, 1) := by decide +kernel
theorem dX3_firstOnAnvil_1 : decode cX3_firstOnAnvil 1 = .ok (.istore_n 2, 1) := by decide +kernel
theorem dX3_firstOnAnvil_2 : decode cX3_firstOnAnvil 2 = .ok (.iload_n 2, 1) := by decide +kernel
theorem dX3_firstOnAnvil_3 : decode cX3_firstOnAnvil 3 = .ok (.sipush 480, 3) := by decide +kernel
theorem dX3_firstOnAnvil_6 : decode cX3_firstOnAnvil 6 = .ok (.if_icmp .ge 22, 3) := by decide +kernel
theorem dX3_firstOnAnvil_9 : decode cX3_firstOnAnvil 9 = .ok (.aload_n 0, 1) := by decide +kernel
theorem dX3_firstOnAnvil_10 : decode cX3_firstOnAnvil 10 = .ok (.iload_n 1, 1) := by decide +kernel
theorem dX3_firstOnAnvil_11 : decode cX3_firstOnAnvil 11 = .ok (.iload_n 2, 1) := by decide +kernel
theorem dX3_firstOnAnvil_12 : decode cX3_firstOnAnvil 12 = .ok (.invokevirtual 81, 3) := by decide +kernel
theorem dX3_firstOnAnvil_15 : decode cX3_firstOnAnvil 15 = .ok (.bipush 10, 2) := by decide +kernel
theorem dX3_firstOnAnvil_17 : decode cX3_firstOnAnvil 17 = .ok (.if_icmp .lt 5, 3) := by decide +kernel
theorem dX3_firstOnAnvil_20 : decode cX3_firstOnAnvil 20 = .ok (.iload_n 2, 1) := by decide +kernel
theorem dX3_firstOnAnvil_21 : decode cX3_firstOnAnvil 21 = .ok (.ireturn, 1) := by decide +kernel
theorem dX3_firstOnAnvil_22 : decode cX3_firstOnAnvil 22 = .ok (.iinc 2 1, 3) := by decide +kernel
theorem dX3_firstOnAnvil_25 : decode cX3_firstOnAnvil 25 = .ok (.goto (-23), 3) := by decide +kernel
theorem dX3_firstOnAnvil_28 : decode cX3_firstOnAnvil 28 = .ok (.iconst (-1), 1) := by decide +kernel
theorem dX3_firstOnAnvil_29 : decode cX3_firstOnAnvil 29 = .ok (.ireturn, 1) := by decide +kernel
theorem dX3_ironOnSpot_0 : decode cX3_ironOnSpot 0 = .ok (.iconst 0, 1) := by decide +kernel
theorem dX3_ironOnSpot_1 : decode cX3_ironOnSpot 1 = .ok (.istore_n 3, 1) := by decide +kernel
theorem dX3_ironOnSpot_2 : decode cX3_ironOnSpot 2 = .ok (.iload_n 3, 1) := by decide +kernel
theorem dX3_ironOnSpot_3 : decode cX3_ironOnSpot 3 = .ok (.aload_n 0, 1) := by decide +kernel
theorem dX3_ironOnSpot_4 : decode cX3_ironOnSpot 4 = .ok (.getfield 21, 3) := by decide +kernel
theorem dX3_ironOnSpot_7 : decode cX3_ironOnSpot 7 = .ok (.getfield 57, 3) := by decide +kernel
theorem dX3_ironOnSpot_10 : decode cX3_ironOnSpot 10 = .ok (.if_icmp .ge 21, 3) := by decide +kernel
theorem dX3_ironOnSpot_13 : decode cX3_ironOnSpot 13 = .ok (.aload_n 0, 1) := by decide +kernel
theorem dX3_ironOnSpot_14 : decode cX3_ironOnSpot 14 = .ok (.iload_n 3, 1) := by decide +kernel
theorem dX3_ironOnSpot_15 : decode cX3_ironOnSpot 15 = .ok (.iload_n 2, 1) := by decide +kernel
theorem dX3_ironOnSpot_16 : decode cX3_ironOnSpot 16 = .ok (.invokevirtual 81, 3) := by decide +kernel
theorem dX3_ironOnSpot_19 : decode cX3_ironOnSpot 19 = .ok (.iload_n 1, 1) := by decide +kernel
theorem dX3_ironOnSpot_20 : decode cX3_ironOnSpot 20 = .ok (.if_icmp .ne 5, 3) := by decide +kernel
theorem dX3_ironOnSpot_23 : decode cX3_ironOnSpot 23 = .ok (.iload_n 3, 1) := by decide +kernel
theorem dX3_ironOnSpot_24 : decode cX3_ironOnSpot 24 = .ok (.ireturn, 1) := by decide +kernel
theorem dX3_ironOnSpot_25 : decode cX3_ironOnSpot 25 = .ok (.iinc 3 1, 3) := by decide +kernel
theorem dX3_ironOnSpot_28 : decode cX3_ironOnSpot 28 = .ok (.goto (-26), 3) := by decide +kernel
theorem dX3_ironOnSpot_31 : decode cX3_ironOnSpot 31 = .ok (.iconst (-1), 1) := by decide +kernel
theorem dX3_ironOnSpot_32 : decode cX3_ironOnSpot 32 = .ok (.ireturn, 1) := by decide +kernel
theorem dX3_minutesUsed_0 : decode cX3_minutesUsed 0 = .ok (.iconst 0, 1) := by decide +kernel
theorem dX3_minutesUsed_1 : decode cX3_minutesUsed 1 = .ok (.istore_n 2, 1) := by decide +kernel
theorem dX3_minutesUsed_2 : decode cX3_minutesUsed 2 = .ok (.iconst 0, 1) := by decide +kernel
theorem dX3_minutesUsed_3 : decode cX3_minutesUsed 3 = .ok (.istore_n 3, 1) := by decide +kernel
theorem dX3_minutesUsed_4 : decode cX3_minutesUsed 4 = .ok (.iload_n 3, 1) := by decide +kernel
theorem dX3_minutesUsed_5 : decode cX3_minutesUsed 5 = .ok (.sipush 480, 3) := by decide +kernel
theorem dX3_minutesUsed_8 : decode cX3_minutesUsed 8 = .ok (.if_icmp .ge 22, 3) := by decide +kernel
theorem dX3_minutesUsed_11 : decode cX3_minutesUsed 11 = .ok (.aload_n 0, 1) := by decide +kernel
theorem dX3_minutesUsed_12 : decode cX3_minutesUsed 12 = .ok (.iload_n 1, 1) := by decide +kernel
theorem dX3_minutesUsed_13 : decode cX3_minutesUsed 13 = .ok (.iload_n 3, 1) := by decide +kernel
theorem dX3_minutesUsed_14 : decode cX3_minutesUsed 14 = .ok (.invokevirtual 87, 3) := by decide +kernel
theorem dX3_minutesUsed_17 : decode cX3_minutesUsed 17 = .ok (.iconst (-1), 1) := by decide +kernel
theorem dX3_minutesUsed_18 : decode cX3_minutesUsed 18 = .ok (.if_icmp .eq 6, 3) := by decide +kernel
theorem dX3_minutesUsed_21 : decode cX3_minutesUsed 21 = .ok (.iinc 2 1, 3) := by decide +kernel
theorem dX3_minutesUsed_24 : decode cX3_minutesUsed 24 = .ok (.iinc 3 1, 3) := by decide +kernel
theorem dX3_minutesUsed_27 : decode cX3_minutesUsed 27 = .ok (.goto (-23), 3) := by decide +kernel
theorem dX3_minutesUsed_30 : decode cX3_minutesUsed 30 = .ok (.iload_n 2, 1) := by decide +kernel
theorem dX3_minutesUsed_31 : decode cX3_minutesUsed 31 = .ok (.ireturn, 1) := by decide +kernel
theorem dX3_finishedAfter_0 : decode cX3_finishedAfter 0 = .ok (.iconst 0, 1) := by decide +kernel
theorem dX3_finishedAfter_1 : decode cX3_finishedAfter 1 = .ok (.istore_n 2, 1) := by decide +kernel
theorem dX3_finishedAfter_2 : decode cX3_finishedAfter 2 = .ok (.iconst 0, 1) := by decide +kernel
theorem dX3_finishedAfter_3 : decode cX3_finishedAfter 3 = .ok (.istore_n 3, 1) := by decide +kernel
theorem dX3_finishedAfter_4 : decode cX3_finishedAfter 4 = .ok (.iload_n 3, 1) := by decide +kernel
theorem dX3_finishedAfter_5 : decode cX3_finishedAfter 5 = .ok (.aload_n 0, 1) := by decide +kernel
theorem dX3_finishedAfter_6 : decode cX3_finishedAfter 6 = .ok (.getfield 21, 3) := by decide +kernel
theorem dX3_finishedAfter_9 : decode cX3_finishedAfter 9 = .ok (.getfield 57, 3) := by decide +kernel
theorem dX3_finishedAfter_12 : decode cX3_finishedAfter 12 = .ok (.if_icmp .ge 30, 3) := by decide +kernel
theorem dX3_finishedAfter_15 : decode cX3_finishedAfter 15 = .ok (.aload_n 0, 1) := by decide +kernel
theorem dX3_finishedAfter_16 : decode cX3_finishedAfter 16 = .ok (.iload_n 3, 1) := by decide +kernel
theorem dX3_finishedAfter_17 : decode cX3_finishedAfter 17 = .ok (.iload_n 1, 1) := by decide +kernel
theorem dX3_finishedAfter_18 : decode cX3_finishedAfter 18 = .ok (.invokevirtual 84, 3) := by decide +kernel
theorem dX3_finishedAfter_21 : decode cX3_finishedAfter 21 = .ok (.aload_n 0, 1) := by decide +kernel
theorem dX3_finishedAfter_22 : decode cX3_finishedAfter 22 = .ok (.getfield 21, 3) := by decide +kernel
theorem dX3_finishedAfter_25 : decode cX3_finishedAfter 25 = .ok (.getfield 90, 3) := by decide +kernel
theorem dX3_finishedAfter_28 : decode cX3_finishedAfter 28 = .ok (.iload_n 3, 1) := by decide +kernel
theorem dX3_finishedAfter_29 : decode cX3_finishedAfter 29 = .ok (.iaload, 1) := by decide +kernel
theorem dX3_finishedAfter_30 : decode cX3_finishedAfter 30 = .ok (.if_icmp .lt 6, 3) := by decide +kernel
theorem dX3_finishedAfter_33 : decode cX3_finishedAfter 33 = .ok (.iinc 2 1, 3) := by decide +kernel
theorem dX3_finishedAfter_36 : decode cX3_finishedAfter 36 = .ok (.iinc 3 1, 3) := by decide +kernel
theorem dX3_finishedAfter_39 : decode cX3_finishedAfter 39 = .ok (.goto (-35), 3) := by decide +kernel
theorem dX3_finishedAfter_42 : decode cX3_finishedAfter 42 = .ok (.iload_n 2, 1) := by decide +kernel
theorem dX3_finishedAfter_43 : decode cX3_finishedAfter 43 = .ok (.ireturn, 1) := by decide +kernel
theorem dX3_anvilsUsed_0 : decode cX3_anvilsUsed 0 = .ok (.iconst 0, 1) := by decide +kernel
theorem dX3_anvilsUsed_1 : decode cX3_anvilsUsed 1 = .ok (.istore_n 2, 1) := by decide +kernel
theorem dX3_anvilsUsed_2 : decode cX3_anvilsUsed 2 = .ok (.iconst 0, 1) := by decide +kernel
theorem dX3_anvilsUsed_3 : decode cX3_anvilsUsed 3 = .ok (.istore_n 3, 1) := by decide +kernel
theorem dX3_anvilsUsed_4 : decode cX3_anvilsUsed 4 = .ok (.iload_n 3, 1) := by decide +kernel
theorem dX3_anvilsUsed_5 : decode cX3_anvilsUsed 5 = .ok (.aload_n 0, 1) := by decide +kernel
theorem dX3_anvilsUsed_6 : decode cX3_anvilsUsed 6 = .ok (.getfield 21, 3) := by decide +kernel
theorem dX3_anvilsUsed_9 : decode cX3_anvilsUsed 9 = .ok (.getfield 57, 3) := by decide +kernel
theorem dX3_anvilsUsed_12 : decode cX3_anvilsUsed 12 = .ok (.if_icmp .ge 23, 3) := by decide +kernel
theorem dX3_anvilsUsed_15 : decode cX3_anvilsUsed 15 = .ok (.aload_n 0, 1) := by decide +kernel
theorem dX3_anvilsUsed_16 : decode cX3_anvilsUsed 16 = .ok (.iload_n 3, 1) := by decide +kernel
theorem dX3_anvilsUsed_17 : decode cX3_anvilsUsed 17 = .ok (.iload_n 1, 1) := by decide +kernel
theorem dX3_anvilsUsed_18 : decode cX3_anvilsUsed 18 = .ok (.invokevirtual 81, 3) := by decide +kernel
theorem dX3_anvilsUsed_21 : decode cX3_anvilsUsed 21 = .ok (.bipush 10, 2) := by decide +kernel
theorem dX3_anvilsUsed_23 : decode cX3_anvilsUsed 23 = .ok (.if_icmp .lt 6, 3) := by decide +kernel
theorem dX3_anvilsUsed_26 : decode cX3_anvilsUsed 26 = .ok (.iinc 2 1, 3) := by decide +kernel
theorem dX3_anvilsUsed_29 : decode cX3_anvilsUsed 29 = .ok (.iinc 3 1, 3) := by decide +kernel
theorem dX3_anvilsUsed_32 : decode cX3_anvilsUsed 32 = .ok (.goto (-28), 3) := by decide +kernel
theorem dX3_anvilsUsed_35 : decode cX3_anvilsUsed 35 = .ok (.iload_n 2, 1) := by decide +kernel
theorem dX3_anvilsUsed_36 : decode cX3_anvilsUsed 36 = .ok (.ireturn, 1) := by decide +kernel
theorem dX3_minutesIdle_0 : decode cX3_minutesIdle 0 = .ok (.iconst 0, 1) := by decide +kernel
theorem dX3_minutesIdle_1 : decode cX3_minutesIdle 1 = .ok (.istore_n 1, 1) := by decide +kernel
theorem dX3_minutesIdle_2 : decode cX3_minutesIdle 2 = .ok (.iconst 0, 1) := by decide +kernel
theorem dX3_minutesIdle_3 : decode cX3_minutesIdle 3 = .ok (.istore_n 2, 1) := by decide +kernel
theorem dX3_minutesIdle_4 : decode cX3_minutesIdle 4 = .ok (.iload_n 2, 1) := by decide +kernel
theorem dX3_minutesIdle_5 : decode cX3_minutesIdle 5 = .ok (.sipush 480, 3) := by decide +kernel
theorem dX3_minutesIdle_8 : decode cX3_minutesIdle 8 = .ok (.if_icmp .ge 44, 3) := by decide +kernel
theorem dX3_minutesIdle_11 : decode cX3_minutesIdle 11 = .ok (.aload_n 0, 1) := by decide +kernel
theorem dX3_minutesIdle_12 : decode cX3_minutesIdle 12 = .ok (.iload_n 2, 1) := by decide +kernel
theorem dX3_minutesIdle_13 : decode cX3_minutesIdle 13 = .ok (.invokevirtual 91, 3) := by decide +kernel
theorem dX3_minutesIdle_16 : decode cX3_minutesIdle 16 = .ok (.aload_n 0, 1) := by decide +kernel
theorem dX3_minutesIdle_17 : decode cX3_minutesIdle 17 = .ok (.getfield 21, 3) := by decide +kernel
theorem dX3_minutesIdle_20 : decode cX3_minutesIdle 20 = .ok (.getfield 57, 3) := by decide +kernel
theorem dX3_minutesIdle_23 : decode cX3_minutesIdle 23 = .ok (.if_icmp .ge 23, 3) := by decide +kernel
theorem dX3_minutesIdle_26 : decode cX3_minutesIdle 26 = .ok (.aload_n 0, 1) := by decide +kernel
theorem dX3_minutesIdle_27 : decode cX3_minutesIdle 27 = .ok (.iload_n 2, 1) := by decide +kernel
theorem dX3_minutesIdle_28 : decode cX3_minutesIdle 28 = .ok (.invokevirtual 95, 3) := by decide +kernel
theorem dX3_minutesIdle_31 : decode cX3_minutesIdle 31 = .ok (.aload_n 0, 1) := by decide +kernel
theorem dX3_minutesIdle_32 : decode cX3_minutesIdle 32 = .ok (.getfield 21, 3) := by decide +kernel
theorem dX3_minutesIdle_35 : decode cX3_minutesIdle 35 = .ok (.getfield 98, 3) := by decide +kernel
theorem dX3_minutesIdle_38 : decode cX3_minutesIdle 38 = .ok (.iconst 0, 1) := by decide +kernel
theorem dX3_minutesIdle_39 : decode cX3_minutesIdle 39 = .ok (.iaload, 1) := by decide +kernel
theorem dX3_minutesIdle_40 : decode cX3_minutesIdle 40 = .ok (.if_icmp .ge 6, 3) := by decide +kernel
theorem dX3_minutesIdle_43 : decode cX3_minutesIdle 43 = .ok (.iinc 1 1, 3) := by decide +kernel
theorem dX3_minutesIdle_46 : decode cX3_minutesIdle 46 = .ok (.iinc 2 1, 3) := by decide +kernel
theorem dX3_minutesIdle_49 : decode cX3_minutesIdle 49 = .ok (.goto (-45), 3) := by decide +kernel
theorem dX3_minutesIdle_52 : decode cX3_minutesIdle 52 = .ok (.iload_n 1, 1) := by decide +kernel
theorem dX3_minutesIdle_53 : decode cX3_minutesIdle 53 = .ok (.ireturn, 1) := by decide +kernel
