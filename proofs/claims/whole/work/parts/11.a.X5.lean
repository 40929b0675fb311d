theorem dX5_isFinished_0 : decode cX5_isFinished 0 = .ok (.aload_n 0, 1) := by decide +kernel
theorem dX5_isFinished_1 : decode cX5_isFinished 1 = .ok (.getfield 27, 3) := by decide +kernel
theorem dX5_isFinished_4 : decode cX5_isFinished 4 = .ok (.iload_n 1, 1) := by decide +kernel
theorem dX5_isFinished_5 : decode cX5_isFinished 5 = .ok (.iaload, 1) := by decide +kernel
theorem dX5_isFinished_6 : decode cX5_isFinished 6 = .ok (.ifCond .ne 7, 3) := by decide +kernel
theorem dX5_isFinished_9 : decode cX5_isFinished 9 = .ok (.iconst 1, 1) := by decide +kernel
theorem dX5_isFinished_10 : decode cX5_isFinished 10 = .ok (.goto 4, 3) := by decide +kernel
theorem dX5_isFinished_13 : decode cX5_isFinished 13 = .ok (.iconst 0, 1) := by decide +kernel
theorem dX5_isFinished_14 : decode cX5_isFinished 14 = .ok (.ireturn, 1) := by decide +kernel
theorem dX5_beginStep_0 : decode cX5_beginStep 0 = .ok (.iload_n 1, 1) := by decide +kernel
theorem dX5_beginStep_1 : decode cX5_beginStep 1 = .ok (.iconst 5, 1) := by decide +kernel
theorem dX5_beginStep_2 : decode cX5_beginStep 2 = .ok (.imul, 1) := by decide +kernel
theorem dX5_beginStep_3 : decode cX5_beginStep 3 = .ok (.aload_n 0, 1) := by decide +kernel
theorem dX5_beginStep_4 : decode cX5_beginStep 4 = .ok (.getfield 18, 3) := by decide +kernel
theorem dX5_beginStep_7 : decode cX5_beginStep 7 = .ok (.iload_n 1, 1) := by decide +kernel
theorem dX5_beginStep_8 : decode cX5_beginStep 8 = .ok (.iaload, 1) := by decide +kernel
theorem dX5_beginStep_9 : decode cX5_beginStep 9 = .ok (.iadd, 1) := by decide +kernel
theorem dX5_beginStep_10 : decode cX5_beginStep 10 = .ok (.istore_n 2, 1) := by decide +kernel
theorem dX5_beginStep_11 : decode cX5_beginStep 11 = .ok (.aload_n 0, 1) := by decide +kernel
theorem dX5_beginStep_12 : decode cX5_beginStep 12 = .ok (.getfield 21, 3) := by decide +kernel
theorem dX5_beginStep_15 : decode cX5_beginStep 15 = .ok (.iload_n 1, 1) := by decide +kernel
theorem dX5_beginStep_16 : decode cX5_beginStep 16 = .ok (.aload_n 0, 1) := by decide +kernel
theorem dX5_beginStep_17 : decode cX5_beginStep 17 = .ok (.getfield 45, 3) := by decide +kernel
theorem dX5_beginStep_20 : decode cX5_beginStep 20 = .ok (.getfield 92, 3) := by decide +kernel
theorem dX5_beginStep_23 : decode cX5_beginStep 23 = .ok (.iload_n 2, 1) := by decide +kernel
theorem dX5_beginStep_24 : decode cX5_beginStep 24 = .ok (.iaload, 1) := by decide +kernel
theorem dX5_beginStep_25 : decode cX5_beginStep 25 = .ok (.iastore, 1) := by decide +kernel
theorem dX5_beginStep_26 : decode cX5_beginStep 26 = .ok (.aload_n 0, 1) := by decide +kernel
theorem dX5_beginStep_27 : decode cX5_beginStep 27 = .ok (.getfield 24, 3) := by decide +kernel
theorem dX5_beginStep_30 : decode cX5_beginStep 30 = .ok (.iload_n 1, 1) := by decide +kernel
theorem dX5_beginStep_31 : decode cX5_beginStep 31 = .ok (.aload_n 0, 1) := by decide +kernel
theorem dX5_beginStep_32 : decode cX5_beginStep 32 = .ok (.getfield 45, 3) := by decide +kernel
theorem dX5_beginStep_35 : decode cX5_beginStep 35 = .ok (.getfield 95, 3) := by decide +kernel
theorem dX5_beginStep_38 : decode cX5_beginStep 38 = .ok (.iload_n 2, 1) := by decide +kernel
theorem dX5_beginStep_39 : decode cX5_beginStep 39 = .ok (.iaload, 1) := by decide +kernel
theorem dX5_beginStep_40 : decode cX5_beginStep 40 = .ok (.iastore, 1) := by decide +kernel
theorem dX5_beginStep_41 : decode cX5_beginStep 41 = .ok (.return_, 1) := by decide +kernel
theorem dX5_beginIron_0 : decode cX5_beginIron 0 = .ok (.aload_n 0, 1) := by decide +kernel
theorem dX5_beginIron_1 : decode cX5_beginIron 1 = .ok (.getfield 9, 3) := by decide +kernel
theorem dX5_beginIron_4 : decode cX5_beginIron 4 = .ok (.iload_n 1, 1) := by decide +kernel
theorem dX5_beginIron_5 : decode cX5_beginIron 5 = .ok (.bipush 20, 2) := by decide +kernel
theorem dX5_beginIron_7 : decode cX5_beginIron 7 = .ok (.iastore, 1) := by decide +kernel
theorem dX5_beginIron_8 : decode cX5_beginIron 8 = .ok (.aload_n 0, 1) := by decide +kernel
theorem dX5_beginIron_9 : decode cX5_beginIron 9 = .ok (.getfield 15, 3) := by decide +kernel
theorem dX5_beginIron_12 : decode cX5_beginIron 12 = .ok (.iload_n 1, 1) := by decide +kernel
theorem dX5_beginIron_13 : decode cX5_beginIron 13 = .ok (.iconst 0, 1) := by decide +kernel
theorem dX5_beginIron_14 : decode cX5_beginIron 14 = .ok (.iastore, 1) := by decide +kernel
theorem dX5_beginIron_15 : decode cX5_beginIron 15 = .ok (.aload_n 0, 1) := by decide +kernel
theorem dX5_beginIron_16 : decode cX5_beginIron 16 = .ok (.getfield 18, 3) := by decide +kernel
theorem dX5_beginIron_19 : decode cX5_beginIron 19 = .ok (.iload_n 1, 1) := by decide +kernel
theorem dX5_beginIron_20 : decode cX5_beginIron 20 = .ok (.iconst 0, 1) := by decide +kernel
theorem dX5_beginIron_21 : decode cX5_beginIron 21 = .ok (.iastore, 1) := by decide +kernel
theorem dX5_beginIron_22 : decode cX5_beginIron 22 = .ok (.aload_n 0, 1) := by decide +kernel
theorem dX5_beginIron_23 : decode cX5_beginIron 23 = .ok (.getfield 33, 3) := by decide +kernel
theorem dX5_beginIron_26 : decode cX5_beginIron 26 = .ok (.iload_n 1, 1) := by decide +kernel
theorem dX5_beginIron_27 : decode cX5_beginIron 27 = .ok (.iconst 0, 1) := by decide +kernel
theorem dX5_beginIron_28 : decode cX5_beginIron 28 = .ok (.iastore, 1) := by decide +kernel
theorem dX5_beginIron_29 : decode cX5_beginIron 29 = .ok (.aload_n 0, 1) := by decide +kernel
theorem dX5_beginIron_30 : decode cX5_beginIron 30 = .ok (.getfield 36, 3) := by decide +kernel
theorem dX5_beginIron_33 : decode cX5_beginIron 33 = .ok (.iload_n 1, 1) := by decide +kernel
theorem dX5_beginIron_34 : decode cX5_beginIron 34 = .ok (.iconst 0, 1) := by decide +kernel
theorem dX5_beginIron_35 : decode cX5_beginIron 35 = .ok (.iastore, 1) := by decide +kernel
theorem dX5_beginIron_36 : decode cX5_beginIron 36 = .ok (.aload_n 0, 1) := by decide +kernel
theorem dX5_beginIron_37 : decode cX5_beginIron 37 = .ok (.getfield 27, 3) := by decide +kernel
theorem dX5_beginIron_40 : decode cX5_beginIron 40 = .ok (.iload_n 1, 1) := by decide +kernel
theorem dX5_beginIron_41 : decode cX5_beginIron 41 = .ok (.aload_n 0, 1) := by decide +kernel
theorem dX5_beginIron_42 : decode cX5_beginIron 42 = .ok (.getfield 45, 3) := by decide +kernel
theorem dX5_beginIron_45 : decode cX5_beginIron 45 = .ok (.iload_n 1, 1) := by decide +kernel
theorem dX5_beginIron_46 : decode cX5_beginIron 46 = .ok (.invokevirtual 82, 3) := by decide +kernel
theorem dX5_beginIron_49 : decode cX5_beginIron 49 = .ok (.iastore, 1) := by decide +kernel
theorem dX5_beginIron_50 : decode cX5_beginIron 50 = .ok (.aload_n 0, 1) := by decide +kernel
theorem dX5_beginIron_51 : decode cX5_beginIron 51 = .ok (.iload_n 1, 1) := by decide +kernel
theorem dX5_beginIron_52 : decode cX5_beginIron 52 = .ok (.invokevirtual 86, 3) := by decide +kernel
theorem dX5_beginIron_55 : decode cX5_beginIron 55 = .ok (.ifCond .eq 13, 3) := by decide +kernel
theorem dX5_beginIron_58 : decode cX5_beginIron 58 = .ok (.aload_n 0, 1) := by decide +kernel
theorem dX5_beginIron_59 : decode cX5_beginIron 59 = .ok (.getfield 30, 3) := by decide +kernel
theorem dX5_beginIron_62 : decode cX5_beginIron 62 = .ok (.iload_n 1, 1) := by decide +kernel
theorem dX5_beginIron_63 : decode cX5_beginIron 63 = .ok (.iconst 0, 1) := by decide +kernel
theorem dX5_beginIron_64 : decode cX5_beginIron 64 = .ok (.iastore, 1) := by decide +kernel
theorem dX5_beginIron_65 : decode cX5_beginIron 65 = .ok (.goto 25, 3) := by decide +kernel
theorem dX5_beginIron_68 : decode cX5_beginIron 68 = .ok (.aload_n 0, 1) := by decide +kernel
theorem dX5_beginIron_69 : decode cX5_beginIron 69 = .ok (.getfield 30, 3) := by decide +kernel
theorem dX5_beginIron_72 : decode cX5_beginIron 72 = .ok (.iload_n 1, 1) := by decide +kernel
theorem dX5_beginIron_73 : decode cX5_beginIron 73 = .ok (.iconst (-1), 1) := by decide +kernel
theorem dX5_beginIron_74 : decode cX5_beginIron 74 = .ok (.iastore, 1) := by decide +kernel
theorem dX5_beginIron_75 : decode cX5_beginIron 75 = .ok (.aload_n 0, 1) := by decide +kernel
theorem dX5_beginIron_76 : decode cX5_beginIron 76 = .ok (.dup, 1) := by decide +kernel
theorem dX5_beginIron_77 : decode cX5_beginIron 77 = .ok (.getfield 52, 3) := by decide +kernel
theorem dX5_beginIron_80 : decode cX5_beginIron 80 = .ok (.iconst 1, 1) := by decide +kernel
theorem dX5_beginIron_81 : decode cX5_beginIron 81 = .ok (.iadd, 1) := by decide +kernel
theorem dX5_beginIron_82 : decode cX5_beginIron 82 = .ok (.putfield 52, 3) := by decide +kernel
theorem dX5_beginIron_85 : decode cX5_beginIron 85 = .ok (.aload_n 0, 1) := by decide +kernel
theorem dX5_beginIron_86 : decode cX5_beginIron 86 = .ok (.iload_n 1, 1) := by decide +kernel
theorem dX5_beginIron_87 : decode cX5_beginIron 87 = .ok (.invokevirtual 89, 3) := by decide +kernel
theorem dX5_beginIron_90 : decode cX5_beginIron 90 = .ok (.return_, 1) := by decide +kernel
theorem dX5_begin_0 : decode cX5_begin 0 = .ok (.aload_n 0, 1) := by decide +kernel
theorem dX5_begin_1 : decode cX5_begin 1 = .ok (.iconst 0, 1) := by decide +kernel
theorem dX5_begin_2 : decode cX5_begin 2 = .ok (.putfield 52, 3) := by decide +kernel
theorem dX5_begin_5 : decode cX5_begin 5 = .ok (.iconst 0, 1) := by decide +kernel
theorem dX5_begin_6 : decode cX5_begin 6 = .ok (.istore_n 1, 1) := by decide +kernel
theorem dX5_begin_7 : decode cX5_begin 7 = .ok (.iload_n 1, 1) := by decide +kernel
theorem dX5_begin_8 : decode cX5_begin 8 = .ok (.iconst 3, 1) := by decide +kernel
theorem dX5_begin_9 : decode cX5_begin 9 = .ok (.if_icmp .ge 16, 3) := by decide +kernel
theorem dX5_begin_12 : decode cX5_begin 12 = .ok (.aload_n 0, 1) := by decide +kernel
theorem dX5_begin_13 : decode cX5_begin 13 = .ok (.getfield 39, 3) := by decide +kernel
theorem dX5_begin_16 : decode cX5_begin 16 = .ok (.iload_n 1, 1) := by decide +kernel
theorem dX5_begin_17 : decode cX5_begin 17 = .ok (.iconst (-1), 1) := by decide +kernel
theorem dX5_begin_18 : decode cX5_begin 18 = .ok (.iastore, 1) := by decide +kernel
theorem dX5_begin_19 : decode cX5_begin 19 = .ok (.iinc 1 1, 3) := by decide +kernel
theorem dX5_begin_22 : decode cX5_begin 22 = .ok (.goto (-15), 3) := by decide +kernel
theorem dX5_begin_25 : decode cX5_begin 25 = .ok (.iconst 0, 1) := by decide +kernel
theorem dX5_begin_26 : decode cX5_begin 26 = .ok (.istore_n 1, 1) := by decide +kernel
theorem dX5_begin_27 : decode cX5_begin 27 = .ok (.iload_n 1, 1) := by decide +kernel
theorem dX5_begin_28 : decode cX5_begin 28 = .ok (.iconst 3, 1) := by decide +kernel
theorem dX5_begin_29 : decode cX5_begin 29 = .ok (.if_icmp .ge 16, 3) := by decide +kernel
theorem dX5_begin_32 : decode cX5_begin 32 = .ok (.aload_n 0, 1) := by decide +kernel
theorem dX5_begin_33 : decode cX5_begin 33 = .ok (.getfield 42, 3) := by decide +kernel
theorem dX5_begin_36 : decode cX5_begin 36 = .ok (.iload_n 1, 1) := by decide +kernel
theorem dX5_begin_37 : decode cX5_begin 37 = .ok (.iconst (-1), 1) := by decide +kernel
theorem dX5_begin_38 : decode cX5_begin 38 = .ok (.iastore, 1) := by decide +kernel
theorem dX5_begin_39 : decode cX5_begin 39 = .ok (.iinc 1 1, 3) := by decide +kernel
theorem dX5_begin_42 : decode cX5_begin 42 = .ok (.goto (-15), 3) := by decide +kernel
theorem dX5_begin_45 : decode cX5_begin 45 = .ok (.iconst 0, 1) := by decide +kernel
theorem dX5_begin_46 : decode cX5_begin 46 = .ok (.istore_n 1, 1) := by decide +kernel
theorem dX5_begin_47 : decode cX5_begin 47 = .ok (.iload_n 1, 1) := by decide +kernel
theorem dX5_begin_48 : decode cX5_begin 48 = .ok (.aload_n 0, 1) := by decide +kernel
theorem dX5_begin_49 : decode cX5_begin 49 = .ok (.getfield 45, 3) := by decide +kernel
theorem dX5_begin_52 : decode cX5_begin 52 = .ok (.getfield 73, 3) := by decide +kernel
theorem dX5_begin_55 : decode cX5_begin 55 = .ok (.if_icmp .ge 14, 3) := by decide +kernel
theorem dX5_begin_58 : decode cX5_begin 58 = .ok (.aload_n 0, 1) := by decide +kernel
theorem dX5_begin_59 : decode cX5_begin 59 = .ok (.iload_n 1, 1) := by decide +kernel
theorem dX5_begin_60 : decode cX5_begin 60 = .ok (.invokevirtual 78, 3) := by decide +kernel
theorem dX5_begin_63 : decode cX5_begin 63 = .ok (.iinc 1 1, 3) := by decide +kernel
theorem dX5_begin_66 : decode cX5_begin 66 = .ok (.goto (-19), 3) := by decide +kernel
theorem dX5_begin_69 : decode cX5_begin 69 = .ok (.return_, 1) := by decide +kernel
theorem dX5_putOnRack_0 : decode cX5_putOnRack 0 = .ok (.aload_n 0, 1) := by decide +kernel
theorem dX5_putOnRack_1 : decode cX5_putOnRack 1 = .ok (.getfield 39, 3) := by decide +kernel
theorem dX5_putOnRack_4 : decode cX5_putOnRack 4 = .ok (.iload_n 2, 1) := by decide +kernel
theorem dX5_putOnRack_5 : decode cX5_putOnRack 5 = .ok (.iconst (-1), 1) := by decide +kernel
theorem dX5_putOnRack_6 : decode cX5_putOnRack 6 = .ok (.iastore, 1) := by decide +kernel
theorem dX5_putOnRack_7 : decode cX5_putOnRack 7 = .ok (.aload_n 0, 1) := by decide +kernel
theorem dX5_putOnRack_8 : decode cX5_putOnRack 8 = .ok (.getfield 15, 3) := by decide +kernel
theorem dX5_putOnRack_11 : decode cX5_putOnRack 11 = .ok (.iload_n 1, 1) := by decide +kernel
theorem dX5_putOnRack_12 : decode cX5_putOnRack 12 = .ok (.iconst 0, 1) := by decide +kernel
theorem dX5_putOnRack_13 : decode cX5_putOnRack 13 = .ok (.iastore, 1) := by decide +kernel
theorem dX5_putOnRack_14 : decode cX5_putOnRack 14 = .ok (.return_, 1) := by decide +kernel
theorem dX5_clearAnvils_0 : decode cX5_clearAnvils 0 = .ok (.iconst 0, 1) := by decide +kernel
theorem dX5_clearAnvils_1 : decode cX5_clearAnvils 1 = .ok (.istore_n 1, 1) := by decide +kernel
theorem dX5_clearAnvils_2 : decode cX5_clearAnvils 2 = .ok (.iload_n 1, 1) := by decide +kernel
theorem dX5_clearAnvils_3 : decode cX5_clearAnvils 3 = .ok (.aload_n 0, 1) := by decide +kernel
theorem dX5_clearAnvils_4 : decode cX5_clearAnvils 4 = .ok (.getfield 45, 3) := by decide +kernel
theorem dX5_clearAnvils_7 : decode cX5_clearAnvils 7 = .ok (.getfield 98, 3) := by decide +kernel
theorem dX5_clearAnvils_10 : decode cX5_clearAnvils 10 = .ok (.iconst 0, 1) := by decide +kernel
theorem dX5_clearAnvils_11 : decode cX5_clearAnvils 11 = .ok (.iaload, 1) := by decide +kernel
theorem dX5_clearAnvils_12 : decode cX5_clearAnvils 12 = .ok (.if_icmp .ge 72, 3) := by decide +kernel
theorem dX5_clearAnvils_15 : decode cX5_clearAnvils 15 = .ok (.aload_n 0, 1) := by decide +kernel
theorem dX5_clearAnvils_16 : decode cX5_clearAnvils 16 = .ok (.getfield 39, 3) := by decide +kernel
theorem dX5_clearAnvils_19 : decode cX5_clearAnvils 19 = .ok (.iload_n 1, 1) := by decide +kernel
theorem dX5_clearAnvils_20 : decode cX5_clearAnvils 20 = .ok (.iaload, 1) := by decide +kernel
theorem dX5_clearAnvils_21 : decode cX5_clearAnvils 21 = .ok (.istore_n 2, 1) := by decide +kernel
theorem dX5_clearAnvils_22 : decode cX5_clearAnvils 22 = .ok (.iload_n 2, 1) := by decide +kernel
theorem dX5_clearAnvils_23 : decode cX5_clearAnvils 23 = .ok (.iconst (-1), 1) := by decide +kernel
theorem dX5_clearAnvils_24 : decode cX5_clearAnvils 24 = .ok (.if_icmp .ne 6, 3) := by decide +kernel
theorem dX5_clearAnvils_27 : decode cX5_clearAnvils 27 = .ok (.goto 51, 3) := by decide +kernel
theorem dX5_clearAnvils_30 : decode cX5_clearAnvils 30 = .ok (.aload_n 0, 1) := by decide +kernel
theorem dX5_clearAnvils_31 : decode cX5_clearAnvils 31 = .ok (.iload_n 2, 1) := by decide +kernel
theorem dX5_clearAnvils_32 : decode cX5_clearAnvils 32 = .ok (.invokevirtual 86, 3) := by decide +kernel
theorem dX5_clearAnvils_35 : decode cX5_clearAnvils 35 = .ok (.ifCond .eq 12, 3) := by decide +kernel
theorem dX5_clearAnvils_38 : decode cX5_clearAnvils 38 = .ok (.aload_n 0, 1) := by decide +kernel
theorem dX5_clearAnvils_39 : decode cX5_clearAnvils 39 = .ok (.iload_n 2, 1) := by decide +kernel
theorem dX5_clearAnvils_40 : decode cX5_clearAnvils 40 = .ok (.iload_n 1, 1) := by decide +kernel
theorem dX5_clearAnvils_41 : decode cX5_clearAnvils 41 = .ok (.invokevirtual 101, 3) := by decide +kernel
theorem dX5_clearAnvils_44 : decode cX5_clearAnvils 44 = .ok (.goto 34, 3) := by decide +kernel
theorem dX5_clearAnvils_47 : decode cX5_clearAnvils 47 = .ok (.aload_n 0, 1) := by decide +kernel
theorem dX5_clearAnvils_48 : decode cX5_clearAnvils 48 = .ok (.getfield 9, 3) := by decide +kernel
theorem dX5_clearAnvils_51 : decode cX5_clearAnvils 51 = .ok (.iload_n 2, 1) := by decide +kernel
theorem dX5_clearAnvils_52 : decode cX5_clearAnvils 52 = .ok (.iaload, 1) := by decide +kernel
theorem dX5_clearAnvils_53 : decode cX5_clearAnvils 53 = .ok (.aload_n 0, 1) := by decide +kernel
theorem dX5_clearAnvils_54 : decode cX5_clearAnvils 54 = .ok (.getfield 24, 3) := by decide +kernel
theorem dX5_clearAnvils_57 : decode cX5_clearAnvils 57 = .ok (.iload_n 2, 1) := by decide +kernel
theorem dX5_clearAnvils_58 : decode cX5_clearAnvils 58 = .ok (.iaload, 1) := by decide +kernel
theorem dX5_clearAnvils_59 : decode cX5_clearAnvils 59 = .ok (.if_icmp .ge 19, 3) := by decide +kernel
theorem dX5_clearAnvils_62 : decode cX5_clearAnvils 62 = .ok (.aload_n 0, 1) := by decide +kernel
theorem dX5_clearAnvils_63 : decode cX5_clearAnvils 63 = .ok (.iload_n 2, 1) := by decide +kernel
theorem dX5_clearAnvils_64 : decode cX5_clearAnvils 64 = .ok (.iload_n 1, 1) := by decide +kernel
theorem dX5_clearAnvils_65 : decode cX5_clearAnvils 65 = .ok (.invokevirtual 101, 3) := by decide +kernel
theorem dX5_clearAnvils_68 : decode cX5_clearAnvils 68 = .ok (.aload_n 0, 1) := by decide +kernel
theorem dX5_clearAnvils_69 : decode cX5_clearAnvils 69 = .ok (.getfield 33, 3) := by decide +kernel
theorem dX5_clearAnvils_72 : decode cX5_clearAnvils 72 = .ok (.iload_n 2, 1) := by decide +kernel
theorem dX5_clearAnvils_73 : decode cX5_clearAnvils 73 = .ok (.dup2, 1) := by decide +kernel
theorem dX5_clearAnvils_74 : decode cX5_clearAnvils 74 = .ok (.iaload, 1) := by decide +kernel
theorem dX5_clearAnvils_75 : decode cX5_clearAnvils 75 = .ok (.iconst 1, 1) := by decide +kernel
theorem dX5_clearAnvils_76 : decode cX5_clearAnvils 76 = .ok (.iadd, 1) := by decide +kernel
theorem dX5_clearAnvils_77 : decode cX5_clearAnvils 77 = .ok (.iastore, 1) := by decide +kernel
theorem dX5_clearAnvils_78 : decode cX5_clearAnvils 78 = .ok (.iinc 1 1, 3) := by decide +kernel
theorem dX5_clearAnvils_81 : decode cX5_clearAnvils 81 = .ok (.goto (-79), 3) := by decide +kernel
theorem dX5_clearAnvils_84 : decode cX5_clearAnvils 84 = .ok (.return_, 1) := by decide +kernel
theorem dX5_isReady_0 : decode cX5_isReady 0 = .ok (.aload_n 0, 1) := by decide +kernel
theorem dX5_isReady_1 : decode cX5_isReady 1 = .ok (.getfield 27, 3) := by decide +kernel
theorem dX5_isReady_4 : decode cX5_isReady 4 = .ok (.iload_n 1, 1) := by decide +kernel
theorem dX5_isReady_5 : decode cX5_isReady 5 = .ok (.iaload, 1) := by decide +kernel
theorem dX5_isReady_6 : decode cX5_isReady 6 = .ok (.ifCond .le 43, 3) := by decide +kernel
theorem dX5_isReady_9 : decode cX5_isReady 9 = .ok (.aload_n 0, 1) := by decide +kernel
theorem dX5_isReady_10 : decode cX5_isReady 10 = .ok (.getfield 15, 3) := by decide +kernel
theorem dX5_isReady_13 : decode cX5_isReady 13 = .ok (.iload_n 1, 1) := by decide +kernel
theorem dX5_isReady_14 : decode cX5_isReady 14 = .ok (.iaload, 1) := by decide +kernel
theorem dX5_isReady_15 : decode cX5_isReady 15 = .ok (.bipush 10, 2) := by decide +kernel
theorem dX5_isReady_17 : decode cX5_isReady 17 = .ok (.if_icmp .ge 32, 3) := by decide +kernel
theorem dX5_isReady_20 : decode cX5_isReady 20 = .ok (.aload_n 0, 1) := by decide +kernel
theorem dX5_isReady_21 : decode cX5_isReady 21 = .ok (.getfield 9, 3) := by decide +kernel
theorem dX5_isReady_24 : decode cX5_isReady 24 = .ok (.iload_n 1, 1) := by decide +kernel
theorem dX5_isReady_25 : decode cX5_isReady 25 = .ok (.iaload, 1) := by decide +kernel
theorem dX5_isReady_26 : decode cX5_isReady 26 = .ok (.aload_n 0, 1) := by decide +kernel
theorem dX5_isReady_27 : decode cX5_isReady 27 = .ok (.getfield 24, 3) := by decide +kernel
theorem dX5_isReady_30 : decode cX5_isReady 30 = .ok (.iload_n 1, 1) := by decide +kernel
theorem dX5_isReady_31 : decode cX5_isReady 31 = .ok (.iaload, 1) := by decide +kernel
theorem dX5_isReady_32 : decode cX5_isReady 32 = .ok (.aload_n 0, 1) := by decide +kernel
theorem dX5_isReady_33 : decode cX5_isReady 33 = .ok (.getfield 45, 3) := by decide +kernel
theorem dX5_isReady_36 : decode cX5_isReady 36 = .ok (.getfield 98, 3) := by decide +kernel
theorem dX5_isReady_39 : decode cX5_isReady 39 = .ok (.iconst 1, 1) := by decide +kernel
theorem dX5_isReady_40 : decode cX5_isReady 40 = .ok (.iaload, 1) := by decide +kernel
theorem dX5_isReady_41 : decode cX5_isReady 41 = .ok (.iadd, 1) := by decide +kernel
theorem dX5_isReady_42 : decode cX5_isReady 42 = .ok (.if_icmp .lt 7, 3) := by decide +kernel
theorem dX5_isReady_45 : decode cX5_isReady 45 = .ok (.iconst 1, 1) := by decide +kernel
theorem dX5_isReady_46 : decode cX5_isReady 46 = .ok (.goto 4, 3) := by decide +kernel
theorem dX5_isReady_49 : decode cX5_isReady 49 = .ok (.iconst 0, 1) := by decide +kernel
theorem dX5_isReady_50 : decode cX5_isReady 50 = .ok (.ireturn, 1) := by decide +kernel
theorem dX5_goesBefore_0 : decode cX5_goesBefore 0 = .ok (.aload_n 0, 1) := by decide +kernel
theorem dX5_goesBefore_1 : decode cX5_goesBefore 1 = .ok (.getfield 45, 3) := by decide +kernel
theorem dX5_goesBefore_4 : decode cX5_goesBefore 4 = .ok (.getfield 98, 3) := by decide +kernel
theorem dX5_goesBefore_7 : decode cX5_goesBefore 7 = .ok (.iconst 2, 1) := by decide +kernel
theorem dX5_goesBefore_8 : decode cX5_goesBefore 8 = .ok (.iaload, 1) := by decide +kernel
theorem dX5_goesBefore_9 : decode cX5_goesBefore 9 = .ok (.lookupswitch 69 #[(1, 27), (2, 48)], 27) := by decide +kernel
theorem dX5_goesBefore_36 : decode cX5_goesBefore 36 = .ok (.aload_n 0, 1) := by decide +kernel
theorem dX5_goesBefore_37 : decode cX5_goesBefore 37 = .ok (.getfield 9, 3) := by decide +kernel
theorem dX5_goesBefore_40 : decode cX5_goesBefore 40 = .ok (.iload_n 1, 1) := by decide +kernel
theorem dX5_goesBefore_41 : decode cX5_goesBefore 41 = .ok (.iaload, 1) := by decide +kernel
theorem dX5_goesBefore_42 : decode cX5_goesBefore 42 = .ok (.aload_n 0, 1) := by decide +kernel
theorem dX5_goesBefore_43 : decode cX5_goesBefore 43 = .ok (.getfield 9, 3) := by decide +kernel
theorem dX5_goesBefore_46 : decode cX5_goesBefore 46 = .ok (.iload_n 2, 1) := by decide +kernel
theorem dX5_goesBefore_47 : decode cX5_goesBefore 47 = .ok (.iaload, 1) := by decide +kernel
theorem dX5_goesBefore_48 : decode cX5_goesBefore 48 = .ok (.if_icmp .le 7, 3) := by decide +kernel
theorem dX5_goesBefore_51 : decode cX5_goesBefore 51 = .ok (.iconst 1, 1) := by decide +kernel
theorem dX5_goesBefore_52 : decode cX5_goesBefore 52 = .ok (.goto 4, 3) := by decide +kernel
theorem dX5_goesBefore_55 : decode cX5_goesBefore 55 = .ok (.iconst 0, 1) := by decide +kernel
theorem dX5_goesBefore_56 : decode cX5_goesBefore 56 = .ok (.ireturn, 1) := by decide +kernel
theorem dX5_goesBefore_57 : decode cX5_goesBefore 57 = .ok (.aload_n 0, 1) := by decide +kernel
theorem dX5_goesBefore_58 : decode cX5_goesBefore 58 = .ok (.getfield 27, 3) := by decide +kernel
theorem dX5_goesBefore_61 : decode cX5_goesBefore 61 = .ok (.iload_n 1, 1) := by decide +kernel
theorem dX5_goesBefore_62 : decode cX5_goesBefore 62 = .ok (.iaload, 1) := by decide +kernel
theorem dX5_goesBefore_63 : decode cX5_goesBefore 63 = .ok (.aload_n 0, 1) := by decide +kernel
theorem dX5_goesBefore_64 : decode cX5_goesBefore 64 = .ok (.getfield 27, 3) := by decide +kernel
theorem dX5_goesBefore_67 : decode cX5_goesBefore 67 = .ok (.iload_n 2, 1) := by decide +kernel
theorem dX5_goesBefore_68 : decode cX5_goesBefore 68 = .ok (.iaload, 1) := by decide +kernel
theorem dX5_goesBefore_69 : decode cX5_goesBefore 69 = .ok (.if_icmp .ge 7, 3) := by decide +kernel
theorem dX5_goesBefore_72 : decode cX5_goesBefore 72 = .ok (.iconst 1, 1) := by decide +kernel
theorem dX5_goesBefore_73 : decode cX5_goesBefore 73 = .ok (.goto 4, 3) := by decide +kernel
theorem dX5_goesBefore_76 : decode cX5_goesBefore 76 = .ok (.iconst 0, 1) := by decide +kernel
theorem dX5_goesBefore_77 : decode cX5_goesBefore 77 = .ok (.ireturn, 1) := by decide +kernel
theorem dX5_goesBefore_78 : decode cX5_goesBefore 78 = .ok (.iconst 0, 1) := by decide +kernel
theorem dX5_goesBefore_79 : decode cX5_goesBefore 79 = .ok (.ireturn, 1) := by decide +kernel
theorem dX5_chooseReady_0 : decode cX5_chooseReady 0 = .ok (.iconst (-1), 1) := by decide +kernel
theorem dX5_chooseReady_1 : decode cX5_chooseReady 1 = .ok (.istore_n 1, 1) := by decide +kernel
theorem dX5_chooseReady_2 : decode cX5_chooseReady 2 = .ok (.iconst 0, 1) := by decide +kernel
theorem dX5_chooseReady_3 : decode cX5_chooseReady 3 = .ok (.istore_n 2, 1) := by decide +kernel
theorem dX5_chooseReady_4 : decode cX5_chooseReady 4 = .ok (.iload_n 2, 1) := by decide +kernel
theorem dX5_chooseReady_5 : decode cX5_chooseReady 5 = .ok (.aload_n 0, 1) := by decide +kernel
theorem dX5_chooseReady_6 : decode cX5_chooseReady 6 = .ok (.getfield 45, 3) := by decide +kernel
theorem dX5_chooseReady_9 : decode cX5_chooseReady 9 = .ok (.getfield 73, 3) := by decide +kernel
theorem dX5_chooseReady_12 : decode cX5_chooseReady 12 = .ok (.if_icmp .ge 43, 3) := by decide +kernel
theorem dX5_chooseReady_15 : decode cX5_chooseReady 15 = .ok (.aload_n 0, 1) := by decide +kernel
theorem dX5_chooseReady_16 : decode cX5_chooseReady 16 = .ok (.getfield 45, 3) := by decide +kernel
theorem dX5_chooseReady_19 : decode cX5_chooseReady 19 = .ok (.getfield 111, 3) := by decide +kernel
theorem dX5_chooseReady_22 : decode cX5_chooseReady 22 = .ok (.iload_n 2, 1) := by decide +kernel
theorem dX5_chooseReady_23 : decode cX5_chooseReady 23 = .ok (.iaload, 1) := by decide +kernel
theorem dX5_chooseReady_24 : decode cX5_chooseReady 24 = .ok (.istore_n 3, 1) := by decide +kernel
theorem dX5_chooseReady_25 : decode cX5_chooseReady 25 = .ok (.aload_n 0, 1) := by decide +kernel
theorem dX5_chooseReady_26 : decode cX5_chooseReady 26 = .ok (.iload_n 3, 1) := by decide +kernel
theorem dX5_chooseReady_27 : decode cX5_chooseReady 27 = .ok (.invokevirtual 114, 3) := by decide +kernel
theorem dX5_chooseReady_30 : decode cX5_chooseReady 30 = .ok (.ifCond .eq 19, 3) := by decide +kernel
theorem dX5_chooseReady_33 : decode cX5_chooseReady 33 = .ok (.iload_n 1, 1) := by decide +kernel
theorem dX5_chooseReady_34 : decode cX5_chooseReady 34 = .ok (.iconst (-1), 1) := by decide +kernel
theorem dX5_chooseReady_35 : decode cX5_chooseReady 35 = .ok (.if_icmp .eq 12, 3) := by decide +kernel
theorem dX5_chooseReady_38 : decode cX5_chooseReady 38 = .ok (.aload_n 0, 1) := by decide +kernel
theorem dX5_chooseReady_39 : decode cX5_chooseReady 39 = .ok (.iload_n 3, 1) := by decide +kernel
theorem dX5_chooseReady_40 : decode cX5_chooseReady 40 = .ok (.iload_n 1, 1) := by decide +kernel
theorem dX5_chooseReady_41 : decode cX5_chooseReady 41 = .ok (.invokevirtual 117, 3) := by decide +kernel
theorem dX5_chooseReady_44 : decode cX5_chooseReady 44 = .ok (.ifCond .eq 5, 3) := by decide +kernel
theorem dX5_chooseReady_47 : decode cX5_chooseReady 47 = .ok (.iload_n 3, 1) := by decide +kernel
theorem dX5_chooseReady_48 : decode cX5_chooseReady 48 = .ok (.istore_n 1, 1) := by decide +kernel
theorem dX5_chooseReady_49 : decode cX5_chooseReady 49 = .ok (.iinc 2 1, 3) := by decide +kernel
theorem dX5_chooseReady_52 : decode cX5_chooseReady 52 = .ok (.goto (-48), 3) := by decide +kernel
theorem dX5_chooseReady_55 : decode cX5_chooseReady 55 = .ok (.iload_n 1, 1) := by decide +kernel
theorem dX5_chooseReady_56 : decode cX5_chooseReady 56 = .ok (.ireturn, 1) := by decide +kernel
theorem dX5_isInFire_0 : decode cX5_isInFire 0 = .ok (.aload_n 0, 1) := by decide +kernel
theorem dX5_isInFire_1 : decode cX5_isInFire 1 = .ok (.getfield 15, 3) := by decide +kernel
theorem dX5_isInFire_4 : decode cX5_isInFire 4 = .ok (.iload_n 1, 1) := by decide +kernel
theorem dX5_isInFire_5 : decode cX5_isInFire 5 = .ok (.iaload, 1) := by decide +kernel
theorem dX5_isInFire_6 : decode cX5_isInFire 6 = .ok (.iconst 1, 1) := by decide +kernel
theorem dX5_isInFire_7 : decode cX5_isInFire 7 = .ok (.if_icmp .lt 18, 3) := by decide +kernel
theorem dX5_isInFire_10 : decode cX5_isInFire 10 = .ok (.aload_n 0, 1) := by decide +kernel
theorem dX5_isInFire_11 : decode cX5_isInFire 11 = .ok (.getfield 15, 3) := by decide +kernel
theorem dX5_isInFire_14 : decode cX5_isInFire 14 = .ok (.iload_n 1, 1) := by decide +kernel
theorem dX5_isInFire_15 : decode cX5_isInFire 15 = .ok (.iaload, 1) := by decide +kernel
theorem dX5_isInFire_16 : decode cX5_isInFire 16 = .ok (.bipush 10, 2) := by decide +kernel
theorem dX5_isInFire_18 : decode cX5_isInFire 18 = .ok (.if_icmp .ge 7, 3) := by decide +kernel
theorem dX5_isInFire_21 : decode cX5_isInFire 21 = .ok (.iconst 1, 1) := by decide +kernel
theorem dX5_isInFire_22 : decode cX5_isInFire 22 = .ok (.goto 4, 3) := by decide +kernel
theorem dX5_isInFire_25 : decode cX5_isInFire 25 = .ok (.iconst 0, 1) := by decide +kernel
theorem dX5_isInFire_26 : decode cX5_isInFire 26 = .ok (.ireturn, 1) := by decide +kernel
theorem dX5_fillAnvils_0 : decode cX5_fillAnvils 0 = .ok (.iconst 0, 1) := by decide +kernel
theorem dX5_fillAnvils_1 : decode cX5_fillAnvils 1 = .ok (.istore_n 1, 1) := by decide +kernel
theorem dX5_fillAnvils_2 : decode cX5_fillAnvils 2 = .ok (.iload_n 1, 1) := by decide +kernel
theorem dX5_fillAnvils_3 : decode cX5_fillAnvils 3 = .ok (.aload_n 0, 1) := by decide +kernel
theorem dX5_fillAnvils_4 : decode cX5_fillAnvils 4 = .ok (.getfield 45, 3) := by decide +kernel
theorem dX5_fillAnvils_7 : decode cX5_fillAnvils 7 = .ok (.getfield 98, 3) := by decide +kernel
theorem dX5_fillAnvils_10 : decode cX5_fillAnvils 10 = .ok (.iconst 0, 1) := by decide +kernel
theorem dX5_fillAnvils_11 : decode cX5_fillAnvils 11 = .ok (.iaload, 1) := by decide +kernel
theorem dX5_fillAnvils_12 : decode cX5_fillAnvils 12 = .ok (.if_icmp .ge 72, 3) := by decide +kernel
theorem dX5_fillAnvils_15 : decode cX5_fillAnvils 15 = .ok (.aload_n 0, 1) := by decide +kernel
theorem dX5_fillAnvils_16 : decode cX5_fillAnvils 16 = .ok (.getfield 39, 3) := by decide +kernel
theorem dX5_fillAnvils_19 : decode cX5_fillAnvils 19 = .ok (.iload_n 1, 1) := by decide +kernel
theorem dX5_fillAnvils_20 : decode cX5_fillAnvils 20 = .ok (.iaload, 1) := by decide +kernel
theorem dX5_fillAnvils_21 : decode cX5_fillAnvils 21 = .ok (.iconst (-1), 1) := by decide +kernel
theorem dX5_fillAnvils_22 : decode cX5_fillAnvils 22 = .ok (.if_icmp .eq 6, 3) := by decide +kernel
theorem dX5_fillAnvils_25 : decode cX5_fillAnvils 25 = .ok (.goto 53, 3) := by decide +kernel
theorem dX5_fillAnvils_28 : decode cX5_fillAnvils 28 = .ok (.aload_n 0, 1) := by decide +kernel
theorem dX5_fillAnvils_29 : decode cX5_fillAnvils 29 = .ok (.invokevirtual 105, 3) := by decide +kernel
theorem dX5_fillAnvils_32 : decode cX5_fillAnvils 32 = .ok (.istore_n 2, 1) := by decide +kernel
theorem dX5_fillAnvils_33 : decode cX5_fillAnvils 33 = .ok (.iload_n 2, 1) := by decide +kernel
theorem dX5_fillAnvils_34 : decode cX5_fillAnvils 34 = .ok (.iconst (-1), 1) := by decide +kernel
theorem dX5_fillAnvils_35 : decode cX5_fillAnvils 35 = .ok (.if_icmp .ne 4, 3) := by decide +kernel
theorem dX5_fillAnvils_38 : decode cX5_fillAnvils 38 = .ok (.return_, 1) := by decide +kernel
theorem dX5_fillAnvils_39 : decode cX5_fillAnvils 39 = .ok (.aload_n 0, 1) := by decide +kernel
theorem dX5_fillAnvils_40 : decode cX5_fillAnvils 40 = .ok (.iload_n 2, 1) := by decide +kernel
theorem dX5_fillAnvils_41 : decode cX5_fillAnvils 41 = .ok (.invokevirtual 108, 3) := by decide +kernel
theorem dX5_fillAnvils_44 : decode cX5_fillAnvils 44 = .ok (.ifCond .eq 17, 3) := by decide +kernel
theorem dX5_fillAnvils_47 : decode cX5_fillAnvils 47 = .ok (.aload_n 0, 1) := by decide +kernel
theorem dX5_fillAnvils_48 : decode cX5_fillAnvils 48 = .ok (.getfield 42, 3) := by decide +kernel
theorem dX5_fillAnvils_51 : decode cX5_fillAnvils 51 = .ok (.aload_n 0, 1) := by decide +kernel
theorem dX5_fillAnvils_52 : decode cX5_fillAnvils 52 = .ok (.getfield 15, 3) := by decide +kernel
theorem dX5_fillAnvils_55 : decode cX5_fillAnvils 55 = .ok (.iload_n 2, 1) := by decide +kernel
theorem dX5_fillAnvils_56 : decode cX5_fillAnvils 56 = .ok (.iaload, 1) := by decide +kernel
theorem dX5_fillAnvils_57 : decode cX5_fillAnvils 57 = .ok (.iconst 1, 1) := by decide +kernel
theorem dX5_fillAnvils_58 : decode cX5_fillAnvils 58 = .ok (.isub, 1) := by decide +kernel
theorem dX5_fillAnvils_59 : decode cX5_fillAnvils 59 = .ok (.iconst (-1), 1) := by decide +kernel
theorem dX5_fillAnvils_60 : decode cX5_fillAnvils 60 = .ok (.iastore, 1) := by decide +kernel
theorem dX5_fillAnvils_61 : decode cX5_fillAnvils 61 = .ok (.aload_n 0, 1) := by decide +kernel
theorem dX5_fillAnvils_62 : decode cX5_fillAnvils 62 = .ok (.getfield 39, 3) := by decide +kernel
theorem dX5_fillAnvils_65 : decode cX5_fillAnvils 65 = .ok (.iload_n 1, 1) := by decide +kernel
theorem dX5_fillAnvils_66 : decode cX5_fillAnvils 66 = .ok (.iload_n 2, 1) := by decide +kernel
theorem dX5_fillAnvils_67 : decode cX5_fillAnvils 67 = .ok (.iastore, 1) := by decide +kernel
theorem dX5_fillAnvils_68 : decode cX5_fillAnvils 68 = .ok (.aload_n 0, 1) := by decide +kernel
theorem dX5_fillAnvils_69 : decode cX5_fillAnvils 69 = .ok (.getfield 15, 3) := by decide +kernel
theorem dX5_fillAnvils_72 : decode cX5_fillAnvils 72 = .ok (.iload_n 2, 1) := by decide +kernel
theorem dX5_fillAnvils_73 : decode cX5_fillAnvils 73 = .ok (.bipush 10, 2) := by decide +kernel
theorem dX5_fillAnvils_75 : decode cX5_fillAnvils 75 = .ok (.iload_n 1, 1) := by decide +kernel
theorem dX5_fillAnvils_76 : decode cX5_fillAnvils 76 = .ok (.iadd, 1) := by decide +kernel
theorem dX5_fillAnvils_77 : decode cX5_fillAnvils 77 = .ok (.iastore, 1) := by decide +kernel
theorem dX5_fillAnvils_78 : decode cX5_fillAnvils 78 = .ok (.iinc 1 1, 3) := by decide +kernel
theorem dX5_fillAnvils_81 : decode cX5_fillAnvils 81 = .ok (.goto (-79), 3) := by decide +kernel
theorem dX5_fillAnvils_84 : decode cX5_fillAnvils 84 = .ok (.return_, 1) := by decide +kernel
theorem dX5_firstWaiting_0 : decode cX5_firstWaiting 0 = .ok (.iconst 0, 1) := by decide +kernel
theorem dX5_firstWaiting_1 : decode cX5_firstWaiting 1 = .ok (.istore_n 1, 1) := by decide +kernel
theorem dX5_firstWaiting_2 : decode cX5_firstWaiting 2 = .ok (.iload_n 1, 1) := by decide +kernel
theorem dX5_firstWaiting_3 : decode cX5_firstWaiting 3 = .ok (.aload_n 0, 1) := by decide +kernel
theorem dX5_firstWaiting_4 : decode cX5_firstWaiting 4 = .ok (.getfield 45, 3) := by decide +kernel
theorem dX5_firstWaiting_7 : decode cX5_firstWaiting 7 = .ok (.getfield 73, 3) := by decide +kernel
theorem dX5_firstWaiting_10 : decode cX5_firstWaiting 10 = .ok (.if_icmp .ge 46, 3) := by decide +kernel
theorem dX5_firstWaiting_13 : decode cX5_firstWaiting 13 = .ok (.aload_n 0, 1) := by decide +kernel
theorem dX5_firstWaiting_14 : decode cX5_firstWaiting 14 = .ok (.getfield 45, 3) := by decide +kernel
theorem dX5_firstWaiting_17 : decode cX5_firstWaiting 17 = .ok (.getfield 111, 3) := by decide +kernel
theorem dX5_firstWaiting_20 : decode cX5_firstWaiting 20 = .ok (.iload_n 1, 1) := by decide +kernel
theorem dX5_firstWaiting_21 : decode cX5_firstWaiting 21 = .ok (.iaload, 1) := by decide +kernel
theorem dX5_firstWaiting_22 : decode cX5_firstWaiting 22 = .ok (.istore_n 2, 1) := by decide +kernel
theorem dX5_firstWaiting_23 : decode cX5_firstWaiting 23 = .ok (.aload_n 0, 1) := by decide +kernel
theorem dX5_firstWaiting_24 : decode cX5_firstWaiting 24 = .ok (.getfield 15, 3) := by decide +kernel
theorem dX5_firstWaiting_27 : decode cX5_firstWaiting 27 = .ok (.iload_n 2, 1) := by decide +kernel
theorem dX5_firstWaiting_28 : decode cX5_firstWaiting 28 = .ok (.iaload, 1) := by decide +kernel
theorem dX5_firstWaiting_29 : decode cX5_firstWaiting 29 = .ok (.ifCond .ne 21, 3) := by decide +kernel
theorem dX5_firstWaiting_32 : decode cX5_firstWaiting 32 = .ok (.aload_n 0, 1) := by decide +kernel
theorem dX5_firstWaiting_33 : decode cX5_firstWaiting 33 = .ok (.iload_n 2, 1) := by decide +kernel
theorem dX5_firstWaiting_34 : decode cX5_firstWaiting 34 = .ok (.invokevirtual 86, 3) := by decide +kernel
theorem dX5_firstWaiting_37 : decode cX5_firstWaiting 37 = .ok (.ifCond .ne 13, 3) := by decide +kernel
theorem dX5_firstWaiting_40 : decode cX5_firstWaiting 40 = .ok (.aload_n 0, 1) := by decide +kernel
theorem dX5_firstWaiting_41 : decode cX5_firstWaiting 41 = .ok (.iload_n 2, 1) := by decide +kernel
theorem dX5_firstWaiting_42 : decode cX5_firstWaiting 42 = .ok (.invokevirtual 114, 3) := by decide +kernel
theorem dX5_firstWaiting_45 : decode cX5_firstWaiting 45 = .ok (.ifCond .ne 5, 3) := by decide +kernel
theorem dX5_firstWaiting_48 : decode cX5_firstWaiting 48 = .ok (.iload_n 2, 1) := by decide +kernel
theorem dX5_firstWaiting_49 : decode cX5_firstWaiting 49 = .ok (.ireturn, 1) := by decide +kernel
theorem dX5_firstWaiting_50 : decode cX5_firstWaiting 50 = .ok (.iinc 1 1, 3) := by decide +kernel
theorem dX5_firstWaiting_53 : decode cX5_firstWaiting 53 = .ok (.goto (-51), 3) := by decide +kernel
theorem dX5_firstWaiting_56 : decode cX5_firstWaiting 56 = .ok (.iconst (-1), 1) := by decide +kernel
theorem dX5_firstWaiting_57 : decode cX5_firstWaiting 57 = .ok (.ireturn, 1) := by decide +kernel
theorem dX5_fillPlaces_0 : decode cX5_fillPlaces 0 = .ok (.iconst 0, 1) := by decide +kernel
theorem dX5_fillPlaces_1 : decode cX5_fillPlaces 1 = .ok (.istore_n 1, 1) := by decide +kernel
theorem dX5_fillPlaces_2 : decode cX5_fillPlaces 2 = .ok (.iload_n 1, 1) := by decide +kernel
theorem dX5_fillPlaces_3 : decode cX5_fillPlaces 3 = .ok (.aload_n 0, 1) := by decide +kernel
theorem dX5_fillPlaces_4 : decode cX5_fillPlaces 4 = .ok (.getfield 45, 3) := by decide +kernel
theorem dX5_fillPlaces_7 : decode cX5_fillPlaces 7 = .ok (.getfield 121, 3) := by decide +kernel
theorem dX5_fillPlaces_10 : decode cX5_fillPlaces 10 = .ok (.if_icmp .ge 59, 3) := by decide +kernel
theorem dX5_fillPlaces_13 : decode cX5_fillPlaces 13 = .ok (.aload_n 0, 1) := by decide +kernel
theorem dX5_fillPlaces_14 : decode cX5_fillPlaces 14 = .ok (.getfield 42, 3) := by decide +kernel
theorem dX5_fillPlaces_17 : decode cX5_fillPlaces 17 = .ok (.iload_n 1, 1) := by decide +kernel
theorem dX5_fillPlaces_18 : decode cX5_fillPlaces 18 = .ok (.iaload, 1) := by decide +kernel
theorem dX5_fillPlaces_19 : decode cX5_fillPlaces 19 = .ok (.iconst (-1), 1) := by decide +kernel
theorem dX5_fillPlaces_20 : decode cX5_fillPlaces 20 = .ok (.if_icmp .eq 6, 3) := by decide +kernel
theorem dX5_fillPlaces_23 : decode cX5_fillPlaces 23 = .ok (.goto 40, 3) := by decide +kernel
theorem dX5_fillPlaces_26 : decode cX5_fillPlaces 26 = .ok (.aload_n 0, 1) := by decide +kernel
theorem dX5_fillPlaces_27 : decode cX5_fillPlaces 27 = .ok (.invokevirtual 124, 3) := by decide +kernel
theorem dX5_fillPlaces_30 : decode cX5_fillPlaces 30 = .ok (.istore_n 2, 1) := by decide +kernel
theorem dX5_fillPlaces_31 : decode cX5_fillPlaces 31 = .ok (.iload_n 2, 1) := by decide +kernel
theorem dX5_fillPlaces_32 : decode cX5_fillPlaces 32 = .ok (.iconst (-1), 1) := by decide +kernel
theorem dX5_fillPlaces_33 : decode cX5_fillPlaces 33 = .ok (.if_icmp .ne 4, 3) := by decide +kernel
theorem dX5_fillPlaces_36 : decode cX5_fillPlaces 36 = .ok (.return_, 1) := by decide +kernel
theorem dX5_fillPlaces_37 : decode cX5_fillPlaces 37 = .ok (.aload_n 0, 1) := by decide +kernel
theorem dX5_fillPlaces_38 : decode cX5_fillPlaces 38 = .ok (.getfield 42, 3) := by decide +kernel
theorem dX5_fillPlaces_41 : decode cX5_fillPlaces 41 = .ok (.iload_n 1, 1) := by decide +kernel
theorem dX5_fillPlaces_42 : decode cX5_fillPlaces 42 = .ok (.iload_n 2, 1) := by decide +kernel
theorem dX5_fillPlaces_43 : decode cX5_fillPlaces 43 = .ok (.iastore, 1) := by decide +kernel
theorem dX5_fillPlaces_44 : decode cX5_fillPlaces 44 = .ok (.aload_n 0, 1) := by decide +kernel
theorem dX5_fillPlaces_45 : decode cX5_fillPlaces 45 = .ok (.getfield 15, 3) := by decide +kernel
theorem dX5_fillPlaces_48 : decode cX5_fillPlaces 48 = .ok (.iload_n 2, 1) := by decide +kernel
theorem dX5_fillPlaces_49 : decode cX5_fillPlaces 49 = .ok (.iconst 1, 1) := by decide +kernel
theorem dX5_fillPlaces_50 : decode cX5_fillPlaces 50 = .ok (.iload_n 1, 1) := by decide +kernel
theorem dX5_fillPlaces_51 : decode cX5_fillPlaces 51 = .ok (.iadd, 1) := by decide +kernel
theorem dX5_fillPlaces_52 : decode cX5_fillPlaces 52 = .ok (.iastore, 1) := by decide +kernel
theorem dX5_fillPlaces_53 : decode cX5_fillPlaces 53 = .ok (.aload_n 0, 1) := by decide +kernel
theorem dX5_fillPlaces_54 : decode cX5_fillPlaces 54 = .ok (.getfield 36, 3) := by decide +kernel
theorem dX5_fillPlaces_57 : decode cX5_fillPlaces 57 = .ok (.iload_n 2, 1) := by decide +kernel
theorem dX5_fillPlaces_58 : decode cX5_fillPlaces 58 = .ok (.dup2, 1) := by decide +kernel
theorem dX5_fillPlaces_59 : decode cX5_fillPlaces 59 = .ok (.iaload, 1) := by decide +kernel
theorem dX5_fillPlaces_60 : decode cX5_fillPlaces 60 = .ok (.iconst 1, 1) := by decide +kernel
theorem dX5_fillPlaces_61 : decode cX5_fillPlaces 61 = .ok (.iadd, 1) := by decide +kernel
theorem dX5_fillPlaces_62 : decode cX5_fillPlaces 62 = .ok (.iastore, 1) := by decide +kernel
theorem dX5_fillPlaces_63 : decode cX5_fillPlaces 63 = .ok (.iinc 1 1, 3) := by decide +kernel
theorem dX5_fillPlaces_66 : decode cX5_fillPlaces 66 = .ok (.goto (-64), 3) := by decide +kernel
theorem dX5_fillPlaces_69 : decode cX5_fillPlaces 69 = .ok (.return_, 1) := by decide +kernel
theorem dX5_warmed_0 : decode cX5_warmed 0 = .ok (.aload_n 0, 1) := by decide +kernel
theorem dX5_warmed_1 : decode cX5_warmed 1 = .ok (.getfield 45, 3) := by decide +kernel
theorem dX5_warmed_4 : decode cX5_warmed 4 = .ok (.getfield 145, 3) := by decide +kernel
theorem dX5_warmed_7 : decode cX5_warmed 7 = .ok (.iload_n 2, 1) := by decide +kernel
theorem dX5_warmed_8 : decode cX5_warmed 8 = .ok (.iaload, 1) := by decide +kernel
theorem dX5_warmed_9 : decode cX5_warmed 9 = .ok (.istore_n 3, 1) := by decide +kernel
theorem dX5_warmed_10 : decode cX5_warmed 10 = .ok (.aload_n 0, 1) := by decide +kernel
theorem dX5_warmed_11 : decode cX5_warmed 11 = .ok (.getfield 45, 3) := by decide +kernel
theorem dX5_warmed_14 : decode cX5_warmed 14 = .ok (.getfield 148, 3) := by decide +kernel
theorem dX5_warmed_17 : decode cX5_warmed 17 = .ok (.iload_n 1, 1) := by decide +kernel
theorem dX5_warmed_18 : decode cX5_warmed 18 = .ok (.iaload, 1) := by decide +kernel
theorem dX5_warmed_19 : decode cX5_warmed 19 = .ok (.istore 4, 2) := by decide +kernel
theorem dX5_warmed_21 : decode cX5_warmed 21 = .ok (.aload_n 0, 1) := by decide +kernel
theorem dX5_warmed_22 : decode cX5_warmed 22 = .ok (.getfield 9, 3) := by decide +kernel
theorem dX5_warmed_25 : decode cX5_warmed 25 = .ok (.iload_n 1, 1) := by decide +kernel
theorem dX5_warmed_26 : decode cX5_warmed 26 = .ok (.iaload, 1) := by decide +kernel
theorem dX5_warmed_27 : decode cX5_warmed 27 = .ok (.iload_n 3, 1) := by decide +kernel
theorem dX5_warmed_28 : decode cX5_warmed 28 = .ok (.if_icmp .ge 8, 3) := by decide +kernel
theorem dX5_warmed_31 : decode cX5_warmed 31 = .ok (.iload 4, 2) := by decide +kernel
theorem dX5_warmed_33 : decode cX5_warmed 33 = .ok (.ifCond .gt 10, 3) := by decide +kernel
theorem dX5_warmed_36 : decode cX5_warmed 36 = .ok (.aload_n 0, 1) := by decide +kernel
theorem dX5_warmed_37 : decode cX5_warmed 37 = .ok (.getfield 9, 3) := by decide +kernel
theorem dX5_warmed_40 : decode cX5_warmed 40 = .ok (.iload_n 1, 1) := by decide +kernel
theorem dX5_warmed_41 : decode cX5_warmed 41 = .ok (.iaload, 1) := by decide +kernel
theorem dX5_warmed_42 : decode cX5_warmed 42 = .ok (.ireturn, 1) := by decide +kernel
theorem dX5_warmed_43 : decode cX5_warmed 43 = .ok (.aload_n 0, 1) := by decide +kernel
theorem dX5_warmed_44 : decode cX5_warmed 44 = .ok (.getfield 9, 3) := by decide +kernel
theorem dX5_warmed_47 : decode cX5_warmed 47 = .ok (.iload_n 1, 1) := by decide +kernel
theorem dX5_warmed_48 : decode cX5_warmed 48 = .ok (.iaload, 1) := by decide +kernel
theorem dX5_warmed_49 : decode cX5_warmed 49 = .ok (.aload_n 0, 1) := by decide +kernel
theorem dX5_warmed_50 : decode cX5_warmed 50 = .ok (.getfield 45, 3) := by decide +kernel
theorem dX5_warmed_53 : decode cX5_warmed 53 = .ok (.getfield 151, 3) := by decide +kernel
theorem dX5_warmed_56 : decode cX5_warmed 56 = .ok (.iload_n 2, 1) := by decide +kernel
theorem dX5_warmed_57 : decode cX5_warmed 57 = .ok (.iaload, 1) := by decide +kernel
theorem dX5_warmed_58 : decode cX5_warmed 58 = .ok (.iload 4, 2) := by decide +kernel
theorem dX5_warmed_60 : decode cX5_warmed 60 = .ok (.idiv, 1) := by decide +kernel
theorem dX5_warmed_61 : decode cX5_warmed 61 = .ok (.iadd, 1) := by decide +kernel
theorem dX5_warmed_62 : decode cX5_warmed 62 = .ok (.iload_n 3, 1) := by decide +kernel
theorem dX5_warmed_63 : decode cX5_warmed 63 = .ok (.invokestatic 154, 3) := by decide +kernel
theorem dX5_warmed_66 : decode cX5_warmed 66 = .ok (.ireturn, 1) := by decide +kernel
theorem dX5_cooled_0 : decode cX5_cooled 0 = .ok (.aload_n 0, 1) := by decide +kernel
theorem dX5_cooled_1 : decode cX5_cooled 1 = .ok (.getfield 9, 3) := by decide +kernel
theorem dX5_cooled_4 : decode cX5_cooled 4 = .ok (.iload_n 1, 1) := by decide +kernel
theorem dX5_cooled_5 : decode cX5_cooled 5 = .ok (.iaload, 1) := by decide +kernel
theorem dX5_cooled_6 : decode cX5_cooled 6 = .ok (.aload_n 0, 1) := by decide +kernel
theorem dX5_cooled_7 : decode cX5_cooled 7 = .ok (.getfield 45, 3) := by decide +kernel
theorem dX5_cooled_10 : decode cX5_cooled 10 = .ok (.getfield 137, 3) := by decide +kernel
theorem dX5_cooled_13 : decode cX5_cooled 13 = .ok (.iload_n 1, 1) := by decide +kernel
theorem dX5_cooled_14 : decode cX5_cooled 14 = .ok (.iaload, 1) := by decide +kernel
theorem dX5_cooled_15 : decode cX5_cooled 15 = .ok (.isub, 1) := by decide +kernel
theorem dX5_cooled_16 : decode cX5_cooled 16 = .ok (.bipush 20, 2) := by decide +kernel
theorem dX5_cooled_18 : decode cX5_cooled 18 = .ok (.invokestatic 140, 3) := by decide +kernel
theorem dX5_cooled_21 : decode cX5_cooled 21 = .ok (.ireturn, 1) := by decide +kernel
theorem dX5_work_0 : decode cX5_work 0 = .ok (.aload_n 0, 1) := by decide +kernel
theorem dX5_work_1 : decode cX5_work 1 = .ok (.getfield 27, 3) := by decide +kernel
theorem dX5_work_4 : decode cX5_work 4 = .ok (.iload_n 1, 1) := by decide +kernel
theorem dX5_work_5 : decode cX5_work 5 = .ok (.dup2, 1) := by decide +kernel
theorem dX5_work_6 : decode cX5_work 6 = .ok (.iaload, 1) := by decide +kernel
theorem dX5_work_7 : decode cX5_work 7 = .ok (.iconst 1, 1) := by decide +kernel
theorem dX5_work_8 : decode cX5_work 8 = .ok (.isub, 1) := by decide +kernel
theorem dX5_work_9 : decode cX5_work 9 = .ok (.iastore, 1) := by decide +kernel
theorem dX5_work_10 : decode cX5_work 10 = .ok (.aload_n 0, 1) := by decide +kernel
theorem dX5_work_11 : decode cX5_work 11 = .ok (.getfield 21, 3) := by decide +kernel
theorem dX5_work_14 : decode cX5_work 14 = .ok (.iload_n 1, 1) := by decide +kernel
theorem dX5_work_15 : decode cX5_work 15 = .ok (.dup2, 1) := by decide +kernel
theorem dX5_work_16 : decode cX5_work 16 = .ok (.iaload, 1) := by decide +kernel
theorem dX5_work_17 : decode cX5_work 17 = .ok (.iconst 1, 1) := by decide +kernel
theorem dX5_work_18 : decode cX5_work 18 = .ok (.isub, 1) := by decide +kernel
theorem dX5_work_19 : decode cX5_work 19 = .ok (.iastore, 1) := by decide +kernel
theorem dX5_work_20 : decode cX5_work 20 = .ok (.aload_n 0, 1) := by decide +kernel
theorem dX5_work_21 : decode cX5_work 21 = .ok (.getfield 21, 3) := by decide +kernel
theorem dX5_work_24 : decode cX5_work 24 = .ok (.iload_n 1, 1) := by decide +kernel
theorem dX5_work_25 : decode cX5_work 25 = .ok (.iaload, 1) := by decide +kernel
theorem dX5_work_26 : decode cX5_work 26 = .ok (.ifCond .le 4, 3) := by decide +kernel
theorem dX5_work_29 : decode cX5_work 29 = .ok (.return_, 1) := by decide +kernel
theorem dX5_work_30 : decode cX5_work 30 = .ok (.aload_n 0, 1) := by decide +kernel
theorem dX5_work_31 : decode cX5_work 31 = .ok (.getfield 18, 3) := by decide +kernel
theorem dX5_work_34 : decode cX5_work 34 = .ok (.iload_n 1, 1) := by decide +kernel
theorem dX5_work_35 : decode cX5_work 35 = .ok (.dup2, 1) := by decide +kernel
theorem dX5_work_36 : decode cX5_work 36 = .ok (.iaload, 1) := by decide +kernel
theorem dX5_work_37 : decode cX5_work 37 = .ok (.iconst 1, 1) := by decide +kernel
theorem dX5_work_38 : decode cX5_work 38 = .ok (.iadd, 1) := by decide +kernel
theorem dX5_work_39 : decode cX5_work 39 = .ok (.iastore, 1) := by decide +kernel
theorem dX5_work_40 : decode cX5_work 40 = .ok (.aload_n 0, 1) := by decide +kernel
theorem dX5_work_41 : decode cX5_work 41 = .ok (.iload_n 1, 1) := by decide +kernel
theorem dX5_work_42 : decode cX5_work 42 = .ok (.invokevirtual 86, 3) := by decide +kernel
theorem dX5_work_45 : decode cX5_work 45 = .ok (.ifCond .eq 25, 3) := by decide +kernel
theorem dX5_work_48 : decode cX5_work 48 = .ok (.aload_n 0, 1) := by decide +kernel
theorem dX5_work_49 : decode cX5_work 49 = .ok (.getfield 30, 3) := by decide +kernel
theorem dX5_work_52 : decode cX5_work 52 = .ok (.iload_n 1, 1) := by decide +kernel
theorem dX5_work_53 : decode cX5_work 53 = .ok (.iload_n 2, 1) := by decide +kernel
theorem dX5_work_54 : decode cX5_work 54 = .ok (.iconst 1, 1) := by decide +kernel
theorem dX5_work_55 : decode cX5_work 55 = .ok (.iadd, 1) := by decide +kernel
theorem dX5_work_56 : decode cX5_work 56 = .ok (.iastore, 1) := by decide +kernel
theorem dX5_work_57 : decode cX5_work 57 = .ok (.aload_n 0, 1) := by decide +kernel
theorem dX5_work_58 : decode cX5_work 58 = .ok (.dup, 1) := by decide +kernel
theorem dX5_work_59 : decode cX5_work 59 = .ok (.getfield 52, 3) := by decide +kernel
theorem dX5_work_62 : decode cX5_work 62 = .ok (.iconst 1, 1) := by decide +kernel
theorem dX5_work_63 : decode cX5_work 63 = .ok (.isub, 1) := by decide +kernel
theorem dX5_work_64 : decode cX5_work 64 = .ok (.putfield 52, 3) := by decide +kernel
theorem dX5_work_67 : decode cX5_work 67 = .ok (.goto 8, 3) := by decide +kernel
theorem dX5_work_70 : decode cX5_work 70 = .ok (.aload_n 0, 1) := by decide +kernel
theorem dX5_work_71 : decode cX5_work 71 = .ok (.iload_n 1, 1) := by decide +kernel
theorem dX5_work_72 : decode cX5_work 72 = .ok (.invokevirtual 89, 3) := by decide +kernel
theorem dX5_work_75 : decode cX5_work 75 = .ok (.return_, 1) := by decide +kernel
theorem dX5_pass_0 : decode cX5_pass 0 = .ok (.iconst 0, 1) := by decide +kernel
theorem dX5_pass_1 : decode cX5_pass 1 = .ok (.istore_n 2, 1) := by decide +kernel
theorem dX5_pass_2 : decode cX5_pass 2 = .ok (.iconst 0, 1) := by decide +kernel
theorem dX5_pass_3 : decode cX5_pass 3 = .ok (.istore_n 3, 1) := by decide +kernel
theorem dX5_pass_4 : decode cX5_pass 4 = .ok (.iload_n 3, 1) := by decide +kernel
theorem dX5_pass_5 : decode cX5_pass 5 = .ok (.aload_n 0, 1) := by decide +kernel
theorem dX5_pass_6 : decode cX5_pass 6 = .ok (.getfield 45, 3) := by decide +kernel
theorem dX5_pass_9 : decode cX5_pass 9 = .ok (.getfield 73, 3) := by decide +kernel
theorem dX5_pass_12 : decode cX5_pass 12 = .ok (.if_icmp .ge 98, 3) := by decide +kernel
theorem dX5_pass_15 : decode cX5_pass 15 = .ok (.aload_n 0, 1) := by decide +kernel
theorem dX5_pass_16 : decode cX5_pass 16 = .ok (.getfield 9, 3) := by decide +kernel
theorem dX5_pass_19 : decode cX5_pass 19 = .ok (.iload_n 3, 1) := by decide +kernel
theorem dX5_pass_20 : decode cX5_pass 20 = .ok (.iaload, 1) := by decide +kernel
theorem dX5_pass_21 : decode cX5_pass 21 = .ok (.istore 4, 2) := by decide +kernel
theorem dX5_pass_23 : decode cX5_pass 23 = .ok (.aload_n 0, 1) := by decide +kernel
theorem dX5_pass_24 : decode cX5_pass 24 = .ok (.getfield 9, 3) := by decide +kernel
theorem dX5_pass_27 : decode cX5_pass 27 = .ok (.iload_n 3, 1) := by decide +kernel
theorem dX5_pass_28 : decode cX5_pass 28 = .ok (.aload_n 0, 1) := by decide +kernel
theorem dX5_pass_29 : decode cX5_pass 29 = .ok (.iload_n 3, 1) := by decide +kernel
theorem dX5_pass_30 : decode cX5_pass 30 = .ok (.invokevirtual 108, 3) := by decide +kernel
theorem dX5_pass_33 : decode cX5_pass 33 = .ok (.ifCond .eq 19, 3) := by decide +kernel
theorem dX5_pass_36 : decode cX5_pass 36 = .ok (.aload_n 0, 1) := by decide +kernel
theorem dX5_pass_37 : decode cX5_pass 37 = .ok (.iload_n 3, 1) := by decide +kernel
theorem dX5_pass_38 : decode cX5_pass 38 = .ok (.aload_n 0, 1) := by decide +kernel
theorem dX5_pass_39 : decode cX5_pass 39 = .ok (.getfield 15, 3) := by decide +kernel
theorem dX5_pass_42 : decode cX5_pass 42 = .ok (.iload_n 3, 1) := by decide +kernel
theorem dX5_pass_43 : decode cX5_pass 43 = .ok (.iaload, 1) := by decide +kernel
theorem dX5_pass_44 : decode cX5_pass 44 = .ok (.iconst 1, 1) := by decide +kernel
theorem dX5_pass_45 : decode cX5_pass 45 = .ok (.isub, 1) := by decide +kernel
theorem dX5_pass_46 : decode cX5_pass 46 = .ok (.invokevirtual 127, 3) := by decide +kernel
theorem dX5_pass_49 : decode cX5_pass 49 = .ok (.goto 8, 3) := by decide +kernel
theorem dX5_pass_52 : decode cX5_pass 52 = .ok (.aload_n 0, 1) := by decide +kernel
theorem dX5_pass_53 : decode cX5_pass 53 = .ok (.iload_n 3, 1) := by decide +kernel
theorem dX5_pass_54 : decode cX5_pass 54 = .ok (.invokevirtual 131, 3) := by decide +kernel
theorem dX5_pass_57 : decode cX5_pass 57 = .ok (.iastore, 1) := by decide +kernel
theorem dX5_pass_58 : decode cX5_pass 58 = .ok (.iload_n 2, 1) := by decide +kernel
theorem dX5_pass_59 : decode cX5_pass 59 = .ok (.aload_n 0, 1) := by decide +kernel
theorem dX5_pass_60 : decode cX5_pass 60 = .ok (.getfield 9, 3) := by decide +kernel
theorem dX5_pass_63 : decode cX5_pass 63 = .ok (.iload_n 3, 1) := by decide +kernel
theorem dX5_pass_64 : decode cX5_pass 64 = .ok (.iaload, 1) := by decide +kernel
theorem dX5_pass_65 : decode cX5_pass 65 = .ok (.iload 4, 2) := by decide +kernel
theorem dX5_pass_67 : decode cX5_pass 67 = .ok (.if_icmp .eq 15, 3) := by decide +kernel
theorem dX5_pass_70 : decode cX5_pass 70 = .ok (.aload_n 0, 1) := by decide +kernel
theorem dX5_pass_71 : decode cX5_pass 71 = .ok (.iload_n 3, 1) := by decide +kernel
theorem dX5_pass_72 : decode cX5_pass 72 = .ok (.invokevirtual 86, 3) := by decide +kernel
theorem dX5_pass_75 : decode cX5_pass 75 = .ok (.ifCond .ne 7, 3) := by decide +kernel
theorem dX5_pass_78 : decode cX5_pass 78 = .ok (.iconst 1, 1) := by decide +kernel
theorem dX5_pass_79 : decode cX5_pass 79 = .ok (.goto 4, 3) := by decide +kernel
theorem dX5_pass_82 : decode cX5_pass 82 = .ok (.iconst 0, 1) := by decide +kernel
theorem dX5_pass_83 : decode cX5_pass 83 = .ok (.ior, 1) := by decide +kernel
theorem dX5_pass_84 : decode cX5_pass 84 = .ok (.istore_n 2, 1) := by decide +kernel
theorem dX5_pass_85 : decode cX5_pass 85 = .ok (.aload_n 0, 1) := by decide +kernel
theorem dX5_pass_86 : decode cX5_pass 86 = .ok (.getfield 15, 3) := by decide +kernel
theorem dX5_pass_89 : decode cX5_pass 89 = .ok (.iload_n 3, 1) := by decide +kernel
theorem dX5_pass_90 : decode cX5_pass 90 = .ok (.iaload, 1) := by decide +kernel
theorem dX5_pass_91 : decode cX5_pass 91 = .ok (.bipush 10, 2) := by decide +kernel
theorem dX5_pass_93 : decode cX5_pass 93 = .ok (.if_icmp .lt 11, 3) := by decide +kernel
theorem dX5_pass_96 : decode cX5_pass 96 = .ok (.aload_n 0, 1) := by decide +kernel
theorem dX5_pass_97 : decode cX5_pass 97 = .ok (.iload_n 3, 1) := by decide +kernel
theorem dX5_pass_98 : decode cX5_pass 98 = .ok (.iload_n 1, 1) := by decide +kernel
theorem dX5_pass_99 : decode cX5_pass 99 = .ok (.invokevirtual 134, 3) := by decide +kernel
theorem dX5_pass_102 : decode cX5_pass 102 = .ok (.iconst 1, 1) := by decide +kernel
theorem dX5_pass_103 : decode cX5_pass 103 = .ok (.istore_n 2, 1) := by decide +kernel
theorem dX5_pass_104 : decode cX5_pass 104 = .ok (.iinc 3 1, 3) := by decide +kernel
theorem dX5_pass_107 : decode cX5_pass 107 = .ok (.goto (-103), 3) := by decide +kernel
theorem dX5_pass_110 : decode cX5_pass 110 = .ok (.iload_n 2, 1) := by decide +kernel
theorem dX5_pass_111 : decode cX5_pass 111 = .ok (.ireturn, 1) := by decide +kernel
theorem dX5_lastFinished_0 : decode cX5_lastFinished 0 = .ok (.iconst (-1), 1) := by decide +kernel
theorem dX5_lastFinished_1 : decode cX5_lastFinished 1 = .ok (.istore_n 1, 1) := by decide +kernel
theorem dX5_lastFinished_2 : decode cX5_lastFinished 2 = .ok (.iconst 0, 1) := by decide +kernel
theorem dX5_lastFinished_3 : decode cX5_lastFinished 3 = .ok (.istore_n 2, 1) := by decide +kernel
theorem dX5_lastFinished_4 : decode cX5_lastFinished 4 = .ok (.aload_n 0, 1) := by decide +kernel
theorem dX5_lastFinished_5 : decode cX5_lastFinished 5 = .ok (.getfield 52, 3) := by decide +kernel
theorem dX5_lastFinished_8 : decode cX5_lastFinished 8 = .ok (.ifCond .ne 42, 3) := by decide +kernel
theorem dX5_lastFinished_11 : decode cX5_lastFinished 11 = .ok (.iload_n 2, 1) := by decide +kernel
theorem dX5_lastFinished_12 : decode cX5_lastFinished 12 = .ok (.aload_n 0, 1) := by decide +kernel
theorem dX5_lastFinished_13 : decode cX5_lastFinished 13 = .ok (.getfield 45, 3) := by decide +kernel
theorem dX5_lastFinished_16 : decode cX5_lastFinished 16 = .ok (.getfield 73, 3) := by decide +kernel
theorem dX5_lastFinished_19 : decode cX5_lastFinished 19 = .ok (.if_icmp .ge 31, 3) := by decide +kernel
theorem dX5_lastFinished_22 : decode cX5_lastFinished 22 = .ok (.iload_n 1, 1) := by decide +kernel
theorem dX5_lastFinished_23 : decode cX5_lastFinished 23 = .ok (.iconst (-1), 1) := by decide +kernel
theorem dX5_lastFinished_24 : decode cX5_lastFinished 24 = .ok (.if_icmp .eq 18, 3) := by decide +kernel
theorem dX5_lastFinished_27 : decode cX5_lastFinished 27 = .ok (.aload_n 0, 1) := by decide +kernel
theorem dX5_lastFinished_28 : decode cX5_lastFinished 28 = .ok (.getfield 30, 3) := by decide +kernel
theorem dX5_lastFinished_31 : decode cX5_lastFinished 31 = .ok (.iload_n 2, 1) := by decide +kernel
theorem dX5_lastFinished_32 : decode cX5_lastFinished 32 = .ok (.iaload, 1) := by decide +kernel
theorem dX5_lastFinished_33 : decode cX5_lastFinished 33 = .ok (.aload_n 0, 1) := by decide +kernel
theorem dX5_lastFinished_34 : decode cX5_lastFinished 34 = .ok (.getfield 30, 3) := by decide +kernel
theorem dX5_lastFinished_37 : decode cX5_lastFinished 37 = .ok (.iload_n 1, 1) := by decide +kernel
theorem dX5_lastFinished_38 : decode cX5_lastFinished 38 = .ok (.iaload, 1) := by decide +kernel
theorem dX5_lastFinished_39 : decode cX5_lastFinished 39 = .ok (.if_icmp .le 5, 3) := by decide +kernel
theorem dX5_lastFinished_42 : decode cX5_lastFinished 42 = .ok (.iload_n 2, 1) := by decide +kernel
theorem dX5_lastFinished_43 : decode cX5_lastFinished 43 = .ok (.istore_n 1, 1) := by decide +kernel
theorem dX5_lastFinished_44 : decode cX5_lastFinished 44 = .ok (.iinc 2 1, 3) := by decide +kernel
theorem dX5_lastFinished_47 : decode cX5_lastFinished 47 = .ok (.goto (-43), 3) := by decide +kernel
theorem dX5_lastFinished_50 : decode cX5_lastFinished 50 = .ok (.iload_n 1, 1) := by decide +kernel
theorem dX5_lastFinished_51 : decode cX5_lastFinished 51 = .ok (.ireturn, 1) := by decide +kernel
theorem dX5_endMinute_0 : decode cX5_endMinute 0 = .ok (.aload_n 0, 1) := by decide +kernel
theorem dX5_endMinute_1 : decode cX5_endMinute 1 = .ok (.invokevirtual 157, 3) := by decide +kernel
theorem dX5_endMinute_4 : decode cX5_endMinute 4 = .ok (.istore_n 1, 1) := by decide +kernel
theorem dX5_endMinute_5 : decode cX5_endMinute 5 = .ok (.iload_n 1, 1) := by decide +kernel
theorem dX5_endMinute_6 : decode cX5_endMinute 6 = .ok (.iconst (-1), 1) := by decide +kernel
theorem dX5_endMinute_7 : decode cX5_endMinute 7 = .ok (.if_icmp .eq 10, 3) := by decide +kernel
theorem dX5_endMinute_10 : decode cX5_endMinute 10 = .ok (.aload_n 0, 1) := by decide +kernel
theorem dX5_endMinute_11 : decode cX5_endMinute 11 = .ok (.getfield 30, 3) := by decide +kernel
theorem dX5_endMinute_14 : decode cX5_endMinute 14 = .ok (.iload_n 1, 1) := by decide +kernel
theorem dX5_endMinute_15 : decode cX5_endMinute 15 = .ok (.iaload, 1) := by decide +kernel
theorem dX5_endMinute_16 : decode cX5_endMinute 16 = .ok (.ireturn, 1) := by decide +kernel
theorem dX5_endMinute_17 : decode cX5_endMinute 17 = .ok (.aload_n 0, 1) := by decide +kernel
theorem dX5_endMinute_18 : decode cX5_endMinute 18 = .ok (.getfield 52, 3) := by decide +kernel
theorem dX5_endMinute_21 : decode cX5_endMinute 21 = .ok (.ifCond .le 7, 3) := by decide +kernel
theorem dX5_endMinute_24 : decode cX5_endMinute 24 = .ok (.iconst (-1), 1) := by decide +kernel
theorem dX5_endMinute_25 : decode cX5_endMinute 25 = .ok (.goto 4, 3) := by decide +kernel
theorem dX5_endMinute_28 : decode cX5_endMinute 28 = .ok (.iconst 0, 1) := by decide +kernel
theorem dX5_endMinute_29 : decode cX5_endMinute 29 = .ok (.ireturn, 1) := by decide +kernel
theorem dX5_endWithin_0 : decode cX5_endWithin 0 = .ok (.aload_n 0, 1) := by decide +kernel
theorem dX5_endWithin_1 : decode cX5_endWithin 1 = .ok (.invokevirtual 49, 3) := by decide +kernel
theorem dX5_endWithin_4 : decode cX5_endWithin 4 = .ok (.iconst 1, 1) := by decide +kernel
theorem dX5_endWithin_5 : decode cX5_endWithin 5 = .ok (.istore_n 2, 1) := by decide +kernel
theorem dX5_endWithin_6 : decode cX5_endWithin 6 = .ok (.iconst 0, 1) := by decide +kernel
theorem dX5_endWithin_7 : decode cX5_endWithin 7 = .ok (.istore_n 3, 1) := by decide +kernel
theorem dX5_endWithin_8 : decode cX5_endWithin 8 = .ok (.iload_n 3, 1) := by decide +kernel
theorem dX5_endWithin_9 : decode cX5_endWithin 9 = .ok (.iload_n 1, 1) := by decide +kernel
theorem dX5_endWithin_10 : decode cX5_endWithin 10 = .ok (.if_icmp .ge 38, 3) := by decide +kernel
theorem dX5_endWithin_13 : decode cX5_endWithin 13 = .ok (.aload_n 0, 1) := by decide +kernel
theorem dX5_endWithin_14 : decode cX5_endWithin 14 = .ok (.getfield 52, 3) := by decide +kernel
theorem dX5_endWithin_17 : decode cX5_endWithin 17 = .ok (.ifCond .le 31, 3) := by decide +kernel
theorem dX5_endWithin_20 : decode cX5_endWithin 20 = .ok (.iload_n 2, 1) := by decide +kernel
theorem dX5_endWithin_21 : decode cX5_endWithin 21 = .ok (.ifCond .eq 27, 3) := by decide +kernel
theorem dX5_endWithin_24 : decode cX5_endWithin 24 = .ok (.aload_n 0, 1) := by decide +kernel
theorem dX5_endWithin_25 : decode cX5_endWithin 25 = .ok (.invokevirtual 56, 3) := by decide +kernel
theorem dX5_endWithin_28 : decode cX5_endWithin 28 = .ok (.aload_n 0, 1) := by decide +kernel
theorem dX5_endWithin_29 : decode cX5_endWithin 29 = .ok (.invokevirtual 59, 3) := by decide +kernel
theorem dX5_endWithin_32 : decode cX5_endWithin 32 = .ok (.aload_n 0, 1) := by decide +kernel
theorem dX5_endWithin_33 : decode cX5_endWithin 33 = .ok (.invokevirtual 62, 3) := by decide +kernel
theorem dX5_endWithin_36 : decode cX5_endWithin 36 = .ok (.aload_n 0, 1) := by decide +kernel
theorem dX5_endWithin_37 : decode cX5_endWithin 37 = .ok (.iload_n 3, 1) := by decide +kernel
theorem dX5_endWithin_38 : decode cX5_endWithin 38 = .ok (.invokevirtual 65, 3) := by decide +kernel
theorem dX5_endWithin_41 : decode cX5_endWithin 41 = .ok (.istore_n 2, 1) := by decide +kernel
theorem dX5_endWithin_42 : decode cX5_endWithin 42 = .ok (.iinc 3 1, 3) := by decide +kernel
theorem dX5_endWithin_45 : decode cX5_endWithin 45 = .ok (.goto (-37), 3) := by decide +kernel
theorem dX5_endWithin_48 : decode cX5_endWithin 48 = .ok (.aload_n 0, 1) := by decide +kernel
theorem dX5_endWithin_49 : decode cX5_endWithin 49 = .ok (.invokevirtual 69, 3) := by decide +kernel
theorem dX5_endWithin_52 : decode cX5_endWithin 52 = .ok (.ireturn, 1) := by decide +kernel
