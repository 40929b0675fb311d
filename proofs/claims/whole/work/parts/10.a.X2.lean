theorem dX2_clear_0 : decode cX2_clear 0 = .ok (.aload_n 0, 1) := by decide +kernel
theorem dX2_clear_1 : decode cX2_clear 1 = .ok (.iconst 0, 1) := by decide +kernel
theorem dX2_clear_2 : decode cX2_clear 2 = .ok (.putfield 51, 3) := by decide +kernel
theorem dX2_clear_5 : decode cX2_clear 5 = .ok (.aload_n 0, 1) := by decide +kernel
theorem dX2_clear_6 : decode cX2_clear 6 = .ok (.iconst 0, 1) := by decide +kernel
theorem dX2_clear_7 : decode cX2_clear 7 = .ok (.putfield 55, 3) := by decide +kernel
theorem dX2_clear_10 : decode cX2_clear 10 = .ok (.getstatic 42, 3) := by decide +kernel
theorem dX2_clear_13 : decode cX2_clear 13 = .ok (.iconst 0, 1) := by decide +kernel
theorem dX2_clear_14 : decode cX2_clear 14 = .ok (.aload_n 0, 1) := by decide +kernel
theorem dX2_clear_15 : decode cX2_clear 15 = .ok (.getfield 36, 3) := by decide +kernel
theorem dX2_clear_18 : decode cX2_clear 18 = .ok (.iconst 0, 1) := by decide +kernel
theorem dX2_clear_19 : decode cX2_clear 19 = .ok (.iconst 3, 1) := by decide +kernel
theorem dX2_clear_20 : decode cX2_clear 20 = .ok (.invokestatic 45, 3) := by decide +kernel
theorem dX2_clear_23 : decode cX2_clear 23 = .ok (.return_, 1) := by decide +kernel
theorem dX2_copyFrom_0 : decode cX2_copyFrom 0 = .ok (.aload_n 0, 1) := by decide +kernel
theorem dX2_copyFrom_1 : decode cX2_copyFrom 1 = .ok (.aload_n 1, 1) := by decide +kernel
theorem dX2_copyFrom_2 : decode cX2_copyFrom 2 = .ok (.getfield 51, 3) := by decide +kernel
theorem dX2_copyFrom_5 : decode cX2_copyFrom 5 = .ok (.putfield 51, 3) := by decide +kernel
theorem dX2_copyFrom_8 : decode cX2_copyFrom 8 = .ok (.aload_n 0, 1) := by decide +kernel
theorem dX2_copyFrom_9 : decode cX2_copyFrom 9 = .ok (.aload_n 1, 1) := by decide +kernel
theorem dX2_copyFrom_10 : decode cX2_copyFrom 10 = .ok (.getfield 55, 3) := by decide +kernel
theorem dX2_copyFrom_13 : decode cX2_copyFrom 13 = .ok (.putfield 55, 3) := by decide +kernel
theorem dX2_copyFrom_16 : decode cX2_copyFrom 16 = .ok (.aload_n 1, 1) := by decide +kernel
theorem dX2_copyFrom_17 : decode cX2_copyFrom 17 = .ok (.getfield 9, 3) := by decide +kernel
theorem dX2_copyFrom_20 : decode cX2_copyFrom 20 = .ok (.iconst 0, 1) := by decide +kernel
theorem dX2_copyFrom_21 : decode cX2_copyFrom 21 = .ok (.aload_n 0, 1) := by decide +kernel
theorem dX2_copyFrom_22 : decode cX2_copyFrom 22 = .ok (.getfield 9, 3) := by decide +kernel
theorem dX2_copyFrom_25 : decode cX2_copyFrom 25 = .ok (.iconst 0, 1) := by decide +kernel
theorem dX2_copyFrom_26 : decode cX2_copyFrom 26 = .ok (.bipush 6, 2) := by decide +kernel
theorem dX2_copyFrom_28 : decode cX2_copyFrom 28 = .ok (.invokestatic 45, 3) := by decide +kernel
theorem dX2_copyFrom_31 : decode cX2_copyFrom 31 = .ok (.aload_n 1, 1) := by decide +kernel
theorem dX2_copyFrom_32 : decode cX2_copyFrom 32 = .ok (.getfield 15, 3) := by decide +kernel
theorem dX2_copyFrom_35 : decode cX2_copyFrom 35 = .ok (.iconst 0, 1) := by decide +kernel
theorem dX2_copyFrom_36 : decode cX2_copyFrom 36 = .ok (.aload_n 0, 1) := by decide +kernel
theorem dX2_copyFrom_37 : decode cX2_copyFrom 37 = .ok (.getfield 15, 3) := by decide +kernel
theorem dX2_copyFrom_40 : decode cX2_copyFrom 40 = .ok (.iconst 0, 1) := by decide +kernel
theorem dX2_copyFrom_41 : decode cX2_copyFrom 41 = .ok (.bipush 6, 2) := by decide +kernel
theorem dX2_copyFrom_43 : decode cX2_copyFrom 43 = .ok (.invokestatic 45, 3) := by decide +kernel
theorem dX2_copyFrom_46 : decode cX2_copyFrom 46 = .ok (.aload_n 1, 1) := by decide +kernel
theorem dX2_copyFrom_47 : decode cX2_copyFrom 47 = .ok (.getfield 18, 3) := by decide +kernel
theorem dX2_copyFrom_50 : decode cX2_copyFrom 50 = .ok (.iconst 0, 1) := by decide +kernel
theorem dX2_copyFrom_51 : decode cX2_copyFrom 51 = .ok (.aload_n 0, 1) := by decide +kernel
theorem dX2_copyFrom_52 : decode cX2_copyFrom 52 = .ok (.getfield 18, 3) := by decide +kernel
theorem dX2_copyFrom_55 : decode cX2_copyFrom 55 = .ok (.iconst 0, 1) := by decide +kernel
theorem dX2_copyFrom_56 : decode cX2_copyFrom 56 = .ok (.bipush 6, 2) := by decide +kernel
theorem dX2_copyFrom_58 : decode cX2_copyFrom 58 = .ok (.invokestatic 45, 3) := by decide +kernel
theorem dX2_copyFrom_61 : decode cX2_copyFrom 61 = .ok (.aload_n 1, 1) := by decide +kernel
theorem dX2_copyFrom_62 : decode cX2_copyFrom 62 = .ok (.getfield 21, 3) := by decide +kernel
theorem dX2_copyFrom_65 : decode cX2_copyFrom 65 = .ok (.iconst 0, 1) := by decide +kernel
theorem dX2_copyFrom_66 : decode cX2_copyFrom 66 = .ok (.aload_n 0, 1) := by decide +kernel
theorem dX2_copyFrom_67 : decode cX2_copyFrom 67 = .ok (.getfield 21, 3) := by decide +kernel
theorem dX2_copyFrom_70 : decode cX2_copyFrom 70 = .ok (.iconst 0, 1) := by decide +kernel
theorem dX2_copyFrom_71 : decode cX2_copyFrom 71 = .ok (.bipush 6, 2) := by decide +kernel
theorem dX2_copyFrom_73 : decode cX2_copyFrom 73 = .ok (.invokestatic 45, 3) := by decide +kernel
theorem dX2_copyFrom_76 : decode cX2_copyFrom 76 = .ok (.aload_n 1, 1) := by decide +kernel
theorem dX2_copyFrom_77 : decode cX2_copyFrom 77 = .ok (.getfield 24, 3) := by decide +kernel
theorem dX2_copyFrom_80 : decode cX2_copyFrom 80 = .ok (.iconst 0, 1) := by decide +kernel
theorem dX2_copyFrom_81 : decode cX2_copyFrom 81 = .ok (.aload_n 0, 1) := by decide +kernel
theorem dX2_copyFrom_82 : decode cX2_copyFrom 82 = .ok (.getfield 24, 3) := by decide +kernel
theorem dX2_copyFrom_85 : decode cX2_copyFrom 85 = .ok (.iconst 0, 1) := by decide +kernel
theorem dX2_copyFrom_86 : decode cX2_copyFrom 86 = .ok (.bipush 30, 2) := by decide +kernel
theorem dX2_copyFrom_88 : decode cX2_copyFrom 88 = .ok (.invokestatic 45, 3) := by decide +kernel
theorem dX2_copyFrom_91 : decode cX2_copyFrom 91 = .ok (.aload_n 1, 1) := by decide +kernel
theorem dX2_copyFrom_92 : decode cX2_copyFrom 92 = .ok (.getfield 27, 3) := by decide +kernel
theorem dX2_copyFrom_95 : decode cX2_copyFrom 95 = .ok (.iconst 0, 1) := by decide +kernel
theorem dX2_copyFrom_96 : decode cX2_copyFrom 96 = .ok (.aload_n 0, 1) := by decide +kernel
theorem dX2_copyFrom_97 : decode cX2_copyFrom 97 = .ok (.getfield 27, 3) := by decide +kernel
theorem dX2_copyFrom_100 : decode cX2_copyFrom 100 = .ok (.iconst 0, 1) := by decide +kernel
theorem dX2_copyFrom_101 : decode cX2_copyFrom 101 = .ok (.bipush 30, 2) := by decide +kernel
theorem dX2_copyFrom_103 : decode cX2_copyFrom 103 = .ok (.invokestatic 45, 3) := by decide +kernel
theorem dX2_copyFrom_106 : decode cX2_copyFrom 106 = .ok (.aload_n 1, 1) := by decide +kernel
theorem dX2_copyFrom_107 : decode cX2_copyFrom 107 = .ok (.getfield 30, 3) := by decide +kernel
theorem dX2_copyFrom_110 : decode cX2_copyFrom 110 = .ok (.iconst 0, 1) := by decide +kernel
theorem dX2_copyFrom_111 : decode cX2_copyFrom 111 = .ok (.aload_n 0, 1) := by decide +kernel
theorem dX2_copyFrom_112 : decode cX2_copyFrom 112 = .ok (.getfield 30, 3) := by decide +kernel
theorem dX2_copyFrom_115 : decode cX2_copyFrom 115 = .ok (.iconst 0, 1) := by decide +kernel
theorem dX2_copyFrom_116 : decode cX2_copyFrom 116 = .ok (.iconst 3, 1) := by decide +kernel
theorem dX2_copyFrom_117 : decode cX2_copyFrom 117 = .ok (.invokestatic 45, 3) := by decide +kernel
theorem dX2_copyFrom_120 : decode cX2_copyFrom 120 = .ok (.aload_n 1, 1) := by decide +kernel
theorem dX2_copyFrom_121 : decode cX2_copyFrom 121 = .ok (.getfield 33, 3) := by decide +kernel
theorem dX2_copyFrom_124 : decode cX2_copyFrom 124 = .ok (.iconst 0, 1) := by decide +kernel
theorem dX2_copyFrom_125 : decode cX2_copyFrom 125 = .ok (.aload_n 0, 1) := by decide +kernel
theorem dX2_copyFrom_126 : decode cX2_copyFrom 126 = .ok (.getfield 33, 3) := by decide +kernel
theorem dX2_copyFrom_129 : decode cX2_copyFrom 129 = .ok (.iconst 0, 1) := by decide +kernel
theorem dX2_copyFrom_130 : decode cX2_copyFrom 130 = .ok (.iconst 3, 1) := by decide +kernel
theorem dX2_copyFrom_131 : decode cX2_copyFrom 131 = .ok (.invokestatic 45, 3) := by decide +kernel
theorem dX2_copyFrom_134 : decode cX2_copyFrom 134 = .ok (.aload_n 1, 1) := by decide +kernel
theorem dX2_copyFrom_135 : decode cX2_copyFrom 135 = .ok (.getfield 36, 3) := by decide +kernel
theorem dX2_copyFrom_138 : decode cX2_copyFrom 138 = .ok (.iconst 0, 1) := by decide +kernel
theorem dX2_copyFrom_139 : decode cX2_copyFrom 139 = .ok (.aload_n 0, 1) := by decide +kernel
theorem dX2_copyFrom_140 : decode cX2_copyFrom 140 = .ok (.getfield 36, 3) := by decide +kernel
theorem dX2_copyFrom_143 : decode cX2_copyFrom 143 = .ok (.iconst 0, 1) := by decide +kernel
theorem dX2_copyFrom_144 : decode cX2_copyFrom 144 = .ok (.iconst 3, 1) := by decide +kernel
theorem dX2_copyFrom_145 : decode cX2_copyFrom 145 = .ok (.invokestatic 45, 3) := by decide +kernel
theorem dX2_copyFrom_148 : decode cX2_copyFrom 148 = .ok (.aload_n 1, 1) := by decide +kernel
theorem dX2_copyFrom_149 : decode cX2_copyFrom 149 = .ok (.getfield 39, 3) := by decide +kernel
theorem dX2_copyFrom_152 : decode cX2_copyFrom 152 = .ok (.iconst 0, 1) := by decide +kernel
theorem dX2_copyFrom_153 : decode cX2_copyFrom 153 = .ok (.aload_n 0, 1) := by decide +kernel
theorem dX2_copyFrom_154 : decode cX2_copyFrom 154 = .ok (.getfield 39, 3) := by decide +kernel
theorem dX2_copyFrom_157 : decode cX2_copyFrom 157 = .ok (.iconst 0, 1) := by decide +kernel
theorem dX2_copyFrom_158 : decode cX2_copyFrom 158 = .ok (.bipush 6, 2) := by decide +kernel
theorem dX2_copyFrom_160 : decode cX2_copyFrom 160 = .ok (.invokestatic 45, 3) := by decide +kernel
theorem dX2_copyFrom_163 : decode cX2_copyFrom 163 = .ok (.return_, 1) := by decide +kernel
theorem dX2_heatOfStep_0 : decode cX2_heatOfStep 0 = .ok (.aload_n 0, 1) := by decide +kernel
theorem dX2_heatOfStep_1 : decode cX2_heatOfStep 1 = .ok (.getfield 24, 3) := by decide +kernel
theorem dX2_heatOfStep_4 : decode cX2_heatOfStep 4 = .ok (.iload_n 1, 1) := by decide +kernel
theorem dX2_heatOfStep_5 : decode cX2_heatOfStep 5 = .ok (.iconst 5, 1) := by decide +kernel
theorem dX2_heatOfStep_6 : decode cX2_heatOfStep 6 = .ok (.imul, 1) := by decide +kernel
theorem dX2_heatOfStep_7 : decode cX2_heatOfStep 7 = .ok (.iload_n 2, 1) := by decide +kernel
theorem dX2_heatOfStep_8 : decode cX2_heatOfStep 8 = .ok (.iadd, 1) := by decide +kernel
theorem dX2_heatOfStep_9 : decode cX2_heatOfStep 9 = .ok (.iaload, 1) := by decide +kernel
theorem dX2_heatOfStep_10 : decode cX2_heatOfStep 10 = .ok (.ireturn, 1) := by decide +kernel
theorem dX2_minutesOfStep_0 : decode cX2_minutesOfStep 0 = .ok (.aload_n 0, 1) := by decide +kernel
theorem dX2_minutesOfStep_1 : decode cX2_minutesOfStep 1 = .ok (.getfield 27, 3) := by decide +kernel
theorem dX2_minutesOfStep_4 : decode cX2_minutesOfStep 4 = .ok (.iload_n 1, 1) := by decide +kernel
theorem dX2_minutesOfStep_5 : decode cX2_minutesOfStep 5 = .ok (.iconst 5, 1) := by decide +kernel
theorem dX2_minutesOfStep_6 : decode cX2_minutesOfStep 6 = .ok (.imul, 1) := by decide +kernel
theorem dX2_minutesOfStep_7 : decode cX2_minutesOfStep 7 = .ok (.iload_n 2, 1) := by decide +kernel
theorem dX2_minutesOfStep_8 : decode cX2_minutesOfStep 8 = .ok (.iadd, 1) := by decide +kernel
theorem dX2_minutesOfStep_9 : decode cX2_minutesOfStep 9 = .ok (.iaload, 1) := by decide +kernel
theorem dX2_minutesOfStep_10 : decode cX2_minutesOfStep 10 = .ok (.ireturn, 1) := by decide +kernel
theorem dX2_minutesOfWork_0 : decode cX2_minutesOfWork 0 = .ok (.iconst 0, 1) := by decide +kernel
theorem dX2_minutesOfWork_1 : decode cX2_minutesOfWork 1 = .ok (.istore_n 2, 1) := by decide +kernel
theorem dX2_minutesOfWork_2 : decode cX2_minutesOfWork 2 = .ok (.iconst 0, 1) := by decide +kernel
theorem dX2_minutesOfWork_3 : decode cX2_minutesOfWork 3 = .ok (.istore_n 3, 1) := by decide +kernel
theorem dX2_minutesOfWork_4 : decode cX2_minutesOfWork 4 = .ok (.iload_n 3, 1) := by decide +kernel
theorem dX2_minutesOfWork_5 : decode cX2_minutesOfWork 5 = .ok (.aload_n 0, 1) := by decide +kernel
theorem dX2_minutesOfWork_6 : decode cX2_minutesOfWork 6 = .ok (.getfield 21, 3) := by decide +kernel
theorem dX2_minutesOfWork_9 : decode cX2_minutesOfWork 9 = .ok (.iload_n 1, 1) := by decide +kernel
theorem dX2_minutesOfWork_10 : decode cX2_minutesOfWork 10 = .ok (.iaload, 1) := by decide +kernel
theorem dX2_minutesOfWork_11 : decode cX2_minutesOfWork 11 = .ok (.if_icmp .ge 22, 3) := by decide +kernel
theorem dX2_minutesOfWork_14 : decode cX2_minutesOfWork 14 = .ok (.iload_n 2, 1) := by decide +kernel
theorem dX2_minutesOfWork_15 : decode cX2_minutesOfWork 15 = .ok (.aload_n 0, 1) := by decide +kernel
theorem dX2_minutesOfWork_16 : decode cX2_minutesOfWork 16 = .ok (.getfield 27, 3) := by decide +kernel
theorem dX2_minutesOfWork_19 : decode cX2_minutesOfWork 19 = .ok (.iload_n 1, 1) := by decide +kernel
theorem dX2_minutesOfWork_20 : decode cX2_minutesOfWork 20 = .ok (.iconst 5, 1) := by decide +kernel
theorem dX2_minutesOfWork_21 : decode cX2_minutesOfWork 21 = .ok (.imul, 1) := by decide +kernel
theorem dX2_minutesOfWork_22 : decode cX2_minutesOfWork 22 = .ok (.iload_n 3, 1) := by decide +kernel
theorem dX2_minutesOfWork_23 : decode cX2_minutesOfWork 23 = .ok (.iadd, 1) := by decide +kernel
theorem dX2_minutesOfWork_24 : decode cX2_minutesOfWork 24 = .ok (.iaload, 1) := by decide +kernel
theorem dX2_minutesOfWork_25 : decode cX2_minutesOfWork 25 = .ok (.iadd, 1) := by decide +kernel
theorem dX2_minutesOfWork_26 : decode cX2_minutesOfWork 26 = .ok (.istore_n 2, 1) := by decide +kernel
theorem dX2_minutesOfWork_27 : decode cX2_minutesOfWork 27 = .ok (.iinc 3 1, 3) := by decide +kernel
theorem dX2_minutesOfWork_30 : decode cX2_minutesOfWork 30 = .ok (.goto (-26), 3) := by decide +kernel
theorem dX2_minutesOfWork_33 : decode cX2_minutesOfWork 33 = .ok (.iload_n 2, 1) := by decide +kernel
theorem dX2_minutesOfWork_34 : decode cX2_minutesOfWork 34 = .ok (.ireturn, 1) := by decide +kernel
theorem dX2_findName_0 : decode cX2_findName 0 = .ok (.iconst 0, 1) := by decide +kernel
theorem dX2_findName_1 : decode cX2_findName 1 = .ok (.istore_n 2, 1) := by decide +kernel
theorem dX2_findName_2 : decode cX2_findName 2 = .ok (.iload_n 2, 1) := by decide +kernel
theorem dX2_findName_3 : decode cX2_findName 3 = .ok (.aload_n 0, 1) := by decide +kernel
theorem dX2_findName_4 : decode cX2_findName 4 = .ok (.getfield 51, 3) := by decide +kernel
theorem dX2_findName_7 : decode cX2_findName 7 = .ok (.if_icmp .ge 21, 3) := by decide +kernel
theorem dX2_findName_10 : decode cX2_findName 10 = .ok (.aload_n 0, 1) := by decide +kernel
theorem dX2_findName_11 : decode cX2_findName 11 = .ok (.getfield 9, 3) := by decide +kernel
theorem dX2_findName_14 : decode cX2_findName 14 = .ok (.iload_n 2, 1) := by decide +kernel
theorem dX2_findName_15 : decode cX2_findName 15 = .ok (.iaload, 1) := by decide +kernel
theorem dX2_findName_16 : decode cX2_findName 16 = .ok (.iload_n 1, 1) := by decide +kernel
theorem dX2_findName_17 : decode cX2_findName 17 = .ok (.if_icmp .ne 5, 3) := by decide +kernel
theorem dX2_findName_20 : decode cX2_findName 20 = .ok (.iload_n 2, 1) := by decide +kernel
theorem dX2_findName_21 : decode cX2_findName 21 = .ok (.ireturn, 1) := by decide +kernel
theorem dX2_findName_22 : decode cX2_findName 22 = .ok (.iinc 2 1, 3) := by decide +kernel
theorem dX2_findName_25 : decode cX2_findName 25 = .ok (.goto (-23), 3) := by decide +kernel
theorem dX2_findName_28 : decode cX2_findName 28 = .ok (.iconst (-1), 1) := by decide +kernel
theorem dX2_findName_29 : decode cX2_findName 29 = .ok (.ireturn, 1) := by decide +kernel
theorem dX2_findPosition_0 : decode cX2_findPosition 0 = .ok (.iconst 0, 1) := by decide +kernel
theorem dX2_findPosition_1 : decode cX2_findPosition 1 = .ok (.istore_n 2, 1) := by decide +kernel
theorem dX2_findPosition_2 : decode cX2_findPosition 2 = .ok (.iload_n 2, 1) := by decide +kernel
theorem dX2_findPosition_3 : decode cX2_findPosition 3 = .ok (.aload_n 0, 1) := by decide +kernel
theorem dX2_findPosition_4 : decode cX2_findPosition 4 = .ok (.getfield 51, 3) := by decide +kernel
theorem dX2_findPosition_7 : decode cX2_findPosition 7 = .ok (.if_icmp .ge 21, 3) := by decide +kernel
theorem dX2_findPosition_10 : decode cX2_findPosition 10 = .ok (.aload_n 0, 1) := by decide +kernel
theorem dX2_findPosition_11 : decode cX2_findPosition 11 = .ok (.getfield 39, 3) := by decide +kernel
theorem dX2_findPosition_14 : decode cX2_findPosition 14 = .ok (.iload_n 2, 1) := by decide +kernel
theorem dX2_findPosition_15 : decode cX2_findPosition 15 = .ok (.iaload, 1) := by decide +kernel
theorem dX2_findPosition_16 : decode cX2_findPosition 16 = .ok (.iload_n 1, 1) := by decide +kernel
theorem dX2_findPosition_17 : decode cX2_findPosition 17 = .ok (.if_icmp .ne 5, 3) := by decide +kernel
theorem dX2_findPosition_20 : decode cX2_findPosition 20 = .ok (.iload_n 2, 1) := by decide +kernel
theorem dX2_findPosition_21 : decode cX2_findPosition 21 = .ok (.ireturn, 1) := by decide +kernel
theorem dX2_findPosition_22 : decode cX2_findPosition 22 = .ok (.iinc 2 1, 3) := by decide +kernel
theorem dX2_findPosition_25 : decode cX2_findPosition 25 = .ok (.goto (-23), 3) := by decide +kernel
theorem dX2_findPosition_28 : decode cX2_findPosition 28 = .ok (.iconst (-1), 1) := by decide +kernel
theorem dX2_findPosition_29 : decode cX2_findPosition 29 = .ok (.ireturn, 1) := by decide +kernel
theorem dX2_orderByIndex_0 : decode cX2_orderByIndex 0 = .ok (.iconst 0, 1) := by decide +kernel
theorem dX2_orderByIndex_1 : decode cX2_orderByIndex 1 = .ok (.istore_n 1, 1) := by decide +kernel
theorem dX2_orderByIndex_2 : decode cX2_orderByIndex 2 = .ok (.iload_n 1, 1) := by decide +kernel
theorem dX2_orderByIndex_3 : decode cX2_orderByIndex 3 = .ok (.aload_n 0, 1) := by decide +kernel
theorem dX2_orderByIndex_4 : decode cX2_orderByIndex 4 = .ok (.getfield 51, 3) := by decide +kernel
theorem dX2_orderByIndex_7 : decode cX2_orderByIndex 7 = .ok (.if_icmp .ge 16, 3) := by decide +kernel
theorem dX2_orderByIndex_10 : decode cX2_orderByIndex 10 = .ok (.aload_n 0, 1) := by decide +kernel
theorem dX2_orderByIndex_11 : decode cX2_orderByIndex 11 = .ok (.getfield 39, 3) := by decide +kernel
theorem dX2_orderByIndex_14 : decode cX2_orderByIndex 14 = .ok (.iload_n 1, 1) := by decide +kernel
theorem dX2_orderByIndex_15 : decode cX2_orderByIndex 15 = .ok (.iload_n 1, 1) := by decide +kernel
theorem dX2_orderByIndex_16 : decode cX2_orderByIndex 16 = .ok (.iastore, 1) := by decide +kernel
theorem dX2_orderByIndex_17 : decode cX2_orderByIndex 17 = .ok (.iinc 1 1, 3) := by decide +kernel
theorem dX2_orderByIndex_20 : decode cX2_orderByIndex 20 = .ok (.goto (-18), 3) := by decide +kernel
theorem dX2_orderByIndex_23 : decode cX2_orderByIndex 23 = .ok (.return_, 1) := by decide +kernel
theorem dX2_exchange_0 : decode cX2_exchange 0 = .ok (.aload_n 0, 1) := by decide +kernel
theorem dX2_exchange_1 : decode cX2_exchange 1 = .ok (.getfield 39, 3) := by decide +kernel
theorem dX2_exchange_4 : decode cX2_exchange 4 = .ok (.iload_n 1, 1) := by decide +kernel
theorem dX2_exchange_5 : decode cX2_exchange 5 = .ok (.iaload, 1) := by decide +kernel
theorem dX2_exchange_6 : decode cX2_exchange 6 = .ok (.istore_n 3, 1) := by decide +kernel
theorem dX2_exchange_7 : decode cX2_exchange 7 = .ok (.aload_n 0, 1) := by decide +kernel
theorem dX2_exchange_8 : decode cX2_exchange 8 = .ok (.getfield 39, 3) := by decide +kernel
theorem dX2_exchange_11 : decode cX2_exchange 11 = .ok (.iload_n 1, 1) := by decide +kernel
theorem dX2_exchange_12 : decode cX2_exchange 12 = .ok (.aload_n 0, 1) := by decide +kernel
theorem dX2_exchange_13 : decode cX2_exchange 13 = .ok (.getfield 39, 3) := by decide +kernel
theorem dX2_exchange_16 : decode cX2_exchange 16 = .ok (.iload_n 2, 1) := by decide +kernel
theorem dX2_exchange_17 : decode cX2_exchange 17 = .ok (.iaload, 1) := by decide +kernel
theorem dX2_exchange_18 : decode cX2_exchange 18 = .ok (.iastore, 1) := by decide +kernel
theorem dX2_exchange_19 : decode cX2_exchange 19 = .ok (.aload_n 0, 1) := by decide +kernel
theorem dX2_exchange_20 : decode cX2_exchange 20 = .ok (.getfield 39, 3) := by decide +kernel
theorem dX2_exchange_23 : decode cX2_exchange 23 = .ok (.iload_n 2, 1) := by decide +kernel
theorem dX2_exchange_24 : decode cX2_exchange 24 = .ok (.iload_n 3, 1) := by decide +kernel
theorem dX2_exchange_25 : decode cX2_exchange 25 = .ok (.iastore, 1) := by decide +kernel
theorem dX2_exchange_26 : decode cX2_exchange 26 = .ok (.return_, 1) := by decide +kernel
theorem dX2_appendIron_0 : decode cX2_appendIron 0 = .ok (.aload_n 0, 1) := by decide +kernel
theorem dX2_appendIron_1 : decode cX2_appendIron 1 = .ok (.getfield 9, 3) := by decide +kernel
theorem dX2_appendIron_4 : decode cX2_appendIron 4 = .ok (.aload_n 0, 1) := by decide +kernel
theorem dX2_appendIron_5 : decode cX2_appendIron 5 = .ok (.getfield 51, 3) := by decide +kernel
theorem dX2_appendIron_8 : decode cX2_appendIron 8 = .ok (.iload_n 1, 1) := by decide +kernel
theorem dX2_appendIron_9 : decode cX2_appendIron 9 = .ok (.iastore, 1) := by decide +kernel
theorem dX2_appendIron_10 : decode cX2_appendIron 10 = .ok (.aload_n 0, 1) := by decide +kernel
theorem dX2_appendIron_11 : decode cX2_appendIron 11 = .ok (.getfield 15, 3) := by decide +kernel
theorem dX2_appendIron_14 : decode cX2_appendIron 14 = .ok (.aload_n 0, 1) := by decide +kernel
theorem dX2_appendIron_15 : decode cX2_appendIron 15 = .ok (.getfield 51, 3) := by decide +kernel
theorem dX2_appendIron_18 : decode cX2_appendIron 18 = .ok (.iload_n 2, 1) := by decide +kernel
theorem dX2_appendIron_19 : decode cX2_appendIron 19 = .ok (.iastore, 1) := by decide +kernel
theorem dX2_appendIron_20 : decode cX2_appendIron 20 = .ok (.aload_n 0, 1) := by decide +kernel
theorem dX2_appendIron_21 : decode cX2_appendIron 21 = .ok (.getfield 18, 3) := by decide +kernel
theorem dX2_appendIron_24 : decode cX2_appendIron 24 = .ok (.aload_n 0, 1) := by decide +kernel
theorem dX2_appendIron_25 : decode cX2_appendIron 25 = .ok (.getfield 51, 3) := by decide +kernel
theorem dX2_appendIron_28 : decode cX2_appendIron 28 = .ok (.iload_n 3, 1) := by decide +kernel
theorem dX2_appendIron_29 : decode cX2_appendIron 29 = .ok (.iastore, 1) := by decide +kernel
theorem dX2_appendIron_30 : decode cX2_appendIron 30 = .ok (.aload_n 0, 1) := by decide +kernel
theorem dX2_appendIron_31 : decode cX2_appendIron 31 = .ok (.getfield 21, 3) := by decide +kernel
theorem dX2_appendIron_34 : decode cX2_appendIron 34 = .ok (.aload_n 0, 1) := by decide +kernel
theorem dX2_appendIron_35 : decode cX2_appendIron 35 = .ok (.getfield 51, 3) := by decide +kernel
theorem dX2_appendIron_38 : decode cX2_appendIron 38 = .ok (.iconst 0, 1) := by decide +kernel
theorem dX2_appendIron_39 : decode cX2_appendIron 39 = .ok (.iastore, 1) := by decide +kernel
theorem dX2_appendIron_40 : decode cX2_appendIron 40 = .ok (.aload_n 0, 1) := by decide +kernel
theorem dX2_appendIron_41 : decode cX2_appendIron 41 = .ok (.getfield 39, 3) := by decide +kernel
theorem dX2_appendIron_44 : decode cX2_appendIron 44 = .ok (.aload_n 0, 1) := by decide +kernel
theorem dX2_appendIron_45 : decode cX2_appendIron 45 = .ok (.getfield 51, 3) := by decide +kernel
theorem dX2_appendIron_48 : decode cX2_appendIron 48 = .ok (.aload_n 0, 1) := by decide +kernel
theorem dX2_appendIron_49 : decode cX2_appendIron 49 = .ok (.getfield 51, 3) := by decide +kernel
theorem dX2_appendIron_52 : decode cX2_appendIron 52 = .ok (.iastore, 1) := by decide +kernel
theorem dX2_appendIron_53 : decode cX2_appendIron 53 = .ok (.aload_n 0, 1) := by decide +kernel
theorem dX2_appendIron_54 : decode cX2_appendIron 54 = .ok (.dup, 1) := by decide +kernel
theorem dX2_appendIron_55 : decode cX2_appendIron 55 = .ok (.getfield 51, 3) := by decide +kernel
theorem dX2_appendIron_58 : decode cX2_appendIron 58 = .ok (.iconst 1, 1) := by decide +kernel
theorem dX2_appendIron_59 : decode cX2_appendIron 59 = .ok (.iadd, 1) := by decide +kernel
theorem dX2_appendIron_60 : decode cX2_appendIron 60 = .ok (.putfield 51, 3) := by decide +kernel
theorem dX2_appendIron_63 : decode cX2_appendIron 63 = .ok (.return_, 1) := by decide +kernel
theorem dX2_appendStep_0 : decode cX2_appendStep 0 = .ok (.iload_n 1, 1) := by decide +kernel
theorem dX2_appendStep_1 : decode cX2_appendStep 1 = .ok (.iconst 5, 1) := by decide +kernel
theorem dX2_appendStep_2 : decode cX2_appendStep 2 = .ok (.imul, 1) := by decide +kernel
theorem dX2_appendStep_3 : decode cX2_appendStep 3 = .ok (.aload_n 0, 1) := by decide +kernel
theorem dX2_appendStep_4 : decode cX2_appendStep 4 = .ok (.getfield 21, 3) := by decide +kernel
theorem dX2_appendStep_7 : decode cX2_appendStep 7 = .ok (.iload_n 1, 1) := by decide +kernel
theorem dX2_appendStep_8 : decode cX2_appendStep 8 = .ok (.iaload, 1) := by decide +kernel
theorem dX2_appendStep_9 : decode cX2_appendStep 9 = .ok (.iadd, 1) := by decide +kernel
theorem dX2_appendStep_10 : decode cX2_appendStep 10 = .ok (.istore 4, 2) := by decide +kernel
theorem dX2_appendStep_12 : decode cX2_appendStep 12 = .ok (.aload_n 0, 1) := by decide +kernel
theorem dX2_appendStep_13 : decode cX2_appendStep 13 = .ok (.getfield 24, 3) := by decide +kernel
theorem dX2_appendStep_16 : decode cX2_appendStep 16 = .ok (.iload 4, 2) := by decide +kernel
theorem dX2_appendStep_18 : decode cX2_appendStep 18 = .ok (.iload_n 2, 1) := by decide +kernel
theorem dX2_appendStep_19 : decode cX2_appendStep 19 = .ok (.iastore, 1) := by decide +kernel
theorem dX2_appendStep_20 : decode cX2_appendStep 20 = .ok (.aload_n 0, 1) := by decide +kernel
theorem dX2_appendStep_21 : decode cX2_appendStep 21 = .ok (.getfield 27, 3) := by decide +kernel
theorem dX2_appendStep_24 : decode cX2_appendStep 24 = .ok (.iload 4, 2) := by decide +kernel
theorem dX2_appendStep_26 : decode cX2_appendStep 26 = .ok (.iload_n 3, 1) := by decide +kernel
theorem dX2_appendStep_27 : decode cX2_appendStep 27 = .ok (.iastore, 1) := by decide +kernel
theorem dX2_appendStep_28 : decode cX2_appendStep 28 = .ok (.aload_n 0, 1) := by decide +kernel
theorem dX2_appendStep_29 : decode cX2_appendStep 29 = .ok (.getfield 21, 3) := by decide +kernel
theorem dX2_appendStep_32 : decode cX2_appendStep 32 = .ok (.iload_n 1, 1) := by decide +kernel
theorem dX2_appendStep_33 : decode cX2_appendStep 33 = .ok (.dup2, 1) := by decide +kernel
theorem dX2_appendStep_34 : decode cX2_appendStep 34 = .ok (.iaload, 1) := by decide +kernel
theorem dX2_appendStep_35 : decode cX2_appendStep 35 = .ok (.iconst 1, 1) := by decide +kernel
theorem dX2_appendStep_36 : decode cX2_appendStep 36 = .ok (.iadd, 1) := by decide +kernel
theorem dX2_appendStep_37 : decode cX2_appendStep 37 = .ok (.iastore, 1) := by decide +kernel
theorem dX2_appendStep_38 : decode cX2_appendStep 38 = .ok (.return_, 1) := by decide +kernel
theorem dX2_appendPlace_0 : decode cX2_appendPlace 0 = .ok (.aload_n 0, 1) := by decide +kernel
theorem dX2_appendPlace_1 : decode cX2_appendPlace 1 = .ok (.getfield 30, 3) := by decide +kernel
theorem dX2_appendPlace_4 : decode cX2_appendPlace 4 = .ok (.aload_n 0, 1) := by decide +kernel
theorem dX2_appendPlace_5 : decode cX2_appendPlace 5 = .ok (.getfield 55, 3) := by decide +kernel
theorem dX2_appendPlace_8 : decode cX2_appendPlace 8 = .ok (.iload_n 1, 1) := by decide +kernel
theorem dX2_appendPlace_9 : decode cX2_appendPlace 9 = .ok (.iastore, 1) := by decide +kernel
theorem dX2_appendPlace_10 : decode cX2_appendPlace 10 = .ok (.aload_n 0, 1) := by decide +kernel
theorem dX2_appendPlace_11 : decode cX2_appendPlace 11 = .ok (.getfield 33, 3) := by decide +kernel
theorem dX2_appendPlace_14 : decode cX2_appendPlace 14 = .ok (.aload_n 0, 1) := by decide +kernel
theorem dX2_appendPlace_15 : decode cX2_appendPlace 15 = .ok (.getfield 55, 3) := by decide +kernel
theorem dX2_appendPlace_18 : decode cX2_appendPlace 18 = .ok (.iload_n 2, 1) := by decide +kernel
theorem dX2_appendPlace_19 : decode cX2_appendPlace 19 = .ok (.iastore, 1) := by decide +kernel
theorem dX2_appendPlace_20 : decode cX2_appendPlace 20 = .ok (.aload_n 0, 1) := by decide +kernel
theorem dX2_appendPlace_21 : decode cX2_appendPlace 21 = .ok (.dup, 1) := by decide +kernel
theorem dX2_appendPlace_22 : decode cX2_appendPlace 22 = .ok (.getfield 55, 3) := by decide +kernel
theorem dX2_appendPlace_25 : decode cX2_appendPlace 25 = .ok (.iconst 1, 1) := by decide +kernel
theorem dX2_appendPlace_26 : decode cX2_appendPlace 26 = .ok (.iadd, 1) := by decide +kernel
theorem dX2_appendPlace_27 : decode cX2_appendPlace 27 = .ok (.putfield 55, 3) := by decide +kernel
theorem dX2_appendPlace_30 : decode cX2_appendPlace 30 = .ok (.return_, 1) := by decide +kernel
theorem dX2_dropPlace_0 : decode cX2_dropPlace 0 = .ok (.iload_n 1, 1) := by decide +kernel
theorem dX2_dropPlace_1 : decode cX2_dropPlace 1 = .ok (.iconst 1, 1) := by decide +kernel
theorem dX2_dropPlace_2 : decode cX2_dropPlace 2 = .ok (.iadd, 1) := by decide +kernel
theorem dX2_dropPlace_3 : decode cX2_dropPlace 3 = .ok (.istore_n 2, 1) := by decide +kernel
theorem dX2_dropPlace_4 : decode cX2_dropPlace 4 = .ok (.iload_n 2, 1) := by decide +kernel
theorem dX2_dropPlace_5 : decode cX2_dropPlace 5 = .ok (.aload_n 0, 1) := by decide +kernel
theorem dX2_dropPlace_6 : decode cX2_dropPlace 6 = .ok (.getfield 55, 3) := by decide +kernel
theorem dX2_dropPlace_9 : decode cX2_dropPlace 9 = .ok (.if_icmp .ge 37, 3) := by decide +kernel
theorem dX2_dropPlace_12 : decode cX2_dropPlace 12 = .ok (.aload_n 0, 1) := by decide +kernel
theorem dX2_dropPlace_13 : decode cX2_dropPlace 13 = .ok (.getfield 30, 3) := by decide +kernel
theorem dX2_dropPlace_16 : decode cX2_dropPlace 16 = .ok (.iload_n 2, 1) := by decide +kernel
theorem dX2_dropPlace_17 : decode cX2_dropPlace 17 = .ok (.iconst 1, 1) := by decide +kernel
theorem dX2_dropPlace_18 : decode cX2_dropPlace 18 = .ok (.isub, 1) := by decide +kernel
theorem dX2_dropPlace_19 : decode cX2_dropPlace 19 = .ok (.aload_n 0, 1) := by decide +kernel
theorem dX2_dropPlace_20 : decode cX2_dropPlace 20 = .ok (.getfield 30, 3) := by decide +kernel
theorem dX2_dropPlace_23 : decode cX2_dropPlace 23 = .ok (.iload_n 2, 1) := by decide +kernel
theorem dX2_dropPlace_24 : decode cX2_dropPlace 24 = .ok (.iaload, 1) := by decide +kernel
theorem dX2_dropPlace_25 : decode cX2_dropPlace 25 = .ok (.iastore, 1) := by decide +kernel
theorem dX2_dropPlace_26 : decode cX2_dropPlace 26 = .ok (.aload_n 0, 1) := by decide +kernel
theorem dX2_dropPlace_27 : decode cX2_dropPlace 27 = .ok (.getfield 33, 3) := by decide +kernel
theorem dX2_dropPlace_30 : decode cX2_dropPlace 30 = .ok (.iload_n 2, 1) := by decide +kernel
theorem dX2_dropPlace_31 : decode cX2_dropPlace 31 = .ok (.iconst 1, 1) := by decide +kernel
theorem dX2_dropPlace_32 : decode cX2_dropPlace 32 = .ok (.isub, 1) := by decide +kernel
theorem dX2_dropPlace_33 : decode cX2_dropPlace 33 = .ok (.aload_n 0, 1) := by decide +kernel
theorem dX2_dropPlace_34 : decode cX2_dropPlace 34 = .ok (.getfield 33, 3) := by decide +kernel
theorem dX2_dropPlace_37 : decode cX2_dropPlace 37 = .ok (.iload_n 2, 1) := by decide +kernel
theorem dX2_dropPlace_38 : decode cX2_dropPlace 38 = .ok (.iaload, 1) := by decide +kernel
theorem dX2_dropPlace_39 : decode cX2_dropPlace 39 = .ok (.iastore, 1) := by decide +kernel
theorem dX2_dropPlace_40 : decode cX2_dropPlace 40 = .ok (.iinc 2 1, 3) := by decide +kernel
theorem dX2_dropPlace_43 : decode cX2_dropPlace 43 = .ok (.goto (-39), 3) := by decide +kernel
theorem dX2_dropPlace_46 : decode cX2_dropPlace 46 = .ok (.aload_n 0, 1) := by decide +kernel
theorem dX2_dropPlace_47 : decode cX2_dropPlace 47 = .ok (.dup, 1) := by decide +kernel
theorem dX2_dropPlace_48 : decode cX2_dropPlace 48 = .ok (.getfield 55, 3) := by decide +kernel
theorem dX2_dropPlace_51 : decode cX2_dropPlace 51 = .ok (.iconst 1, 1) := by decide +kernel
theorem dX2_dropPlace_52 : decode cX2_dropPlace 52 = .ok (.isub, 1) := by decide +kernel
theorem dX2_dropPlace_53 : decode cX2_dropPlace 53 = .ok (.putfield 55, 3) := by decide +kernel
theorem dX2_dropPlace_56 : decode cX2_dropPlace 56 = .ok (.return_, 1) := by decide +kernel
