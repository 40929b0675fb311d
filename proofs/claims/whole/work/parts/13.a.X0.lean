theorem dX0_take_0 : decode cX0_take 0 = .ok (.iload_n 2, 1) := by decide +kernel
theorem dX0_take_1 : decode cX0_take 1 = .ok (.aload_n 0, 1) := by decide +kernel
theorem dX0_take_2 : decode cX0_take 2 = .ok (.getfield 15, 3) := by decide +kernel
theorem dX0_take_5 : decode cX0_take 5 = .ok (.if_icmp .ne 14, 3) := by decide +kernel
theorem dX0_take_8 : decode cX0_take 8 = .ok (.aload_n 0, 1) := by decide +kernel
theorem dX0_take_9 : decode cX0_take 9 = .ok (.dup, 1) := by decide +kernel
theorem dX0_take_10 : decode cX0_take 10 = .ok (.getfield 19, 3) := by decide +kernel
theorem dX0_take_13 : decode cX0_take 13 = .ok (.iconst 1, 1) := by decide +kernel
theorem dX0_take_14 : decode cX0_take 14 = .ok (.iadd, 1) := by decide +kernel
theorem dX0_take_15 : decode cX0_take 15 = .ok (.putfield 19, 3) := by decide +kernel
theorem dX0_take_18 : decode cX0_take 18 = .ok (.return_, 1) := by decide +kernel
theorem dX0_take_19 : decode cX0_take 19 = .ok (.aload_n 0, 1) := by decide +kernel
theorem dX0_take_20 : decode cX0_take 20 = .ok (.iload_n 2, 1) := by decide +kernel
theorem dX0_take_21 : decode cX0_take 21 = .ok (.putfield 15, 3) := by decide +kernel
theorem dX0_take_24 : decode cX0_take 24 = .ok (.aload_n 0, 1) := by decide +kernel
theorem dX0_take_25 : decode cX0_take 25 = .ok (.iconst 1, 1) := by decide +kernel
theorem dX0_take_26 : decode cX0_take 26 = .ok (.putfield 19, 3) := by decide +kernel
theorem dX0_take_29 : decode cX0_take 29 = .ok (.aload_n 1, 1) := by decide +kernel
theorem dX0_take_30 : decode cX0_take 30 = .ok (.getfield 41, 3) := by decide +kernel
theorem dX0_take_33 : decode cX0_take 33 = .ok (.iconst 0, 1) := by decide +kernel
theorem dX0_take_34 : decode cX0_take 34 = .ok (.aload_n 0, 1) := by decide +kernel
theorem dX0_take_35 : decode cX0_take 35 = .ok (.getfield 9, 3) := by decide +kernel
theorem dX0_take_38 : decode cX0_take 38 = .ok (.iconst 0, 1) := by decide +kernel
theorem dX0_take_39 : decode cX0_take 39 = .ok (.bipush 6, 2) := by decide +kernel
theorem dX0_take_41 : decode cX0_take 41 = .ok (.invokestatic 42, 3) := by decide +kernel
theorem dX0_take_44 : decode cX0_take 44 = .ok (.return_, 1) := by decide +kernel
theorem dX0_advance_0 : decode cX0_advance 0 = .ok (.aload_n 1, 1) := by decide +kernel
theorem dX0_advance_1 : decode cX0_advance 1 = .ok (.getfield 41, 3) := by decide +kernel
theorem dX0_advance_4 : decode cX0_advance 4 = .ok (.astore_n 2, 1) := by decide +kernel
theorem dX0_advance_5 : decode cX0_advance 5 = .ok (.aload_n 1, 1) := by decide +kernel
theorem dX0_advance_6 : decode cX0_advance 6 = .ok (.getfield 48, 3) := by decide +kernel
theorem dX0_advance_9 : decode cX0_advance 9 = .ok (.iconst 2, 1) := by decide +kernel
theorem dX0_advance_10 : decode cX0_advance 10 = .ok (.isub, 1) := by decide +kernel
theorem dX0_advance_11 : decode cX0_advance 11 = .ok (.istore_n 3, 1) := by decide +kernel
theorem dX0_advance_12 : decode cX0_advance 12 = .ok (.iload_n 3, 1) := by decide +kernel
theorem dX0_advance_13 : decode cX0_advance 13 = .ok (.ifCond .lt 20, 3) := by decide +kernel
theorem dX0_advance_16 : decode cX0_advance 16 = .ok (.aload_n 2, 1) := by decide +kernel
theorem dX0_advance_17 : decode cX0_advance 17 = .ok (.iload_n 3, 1) := by decide +kernel
theorem dX0_advance_18 : decode cX0_advance 18 = .ok (.iaload, 1) := by decide +kernel
theorem dX0_advance_19 : decode cX0_advance 19 = .ok (.aload_n 2, 1) := by decide +kernel
theorem dX0_advance_20 : decode cX0_advance 20 = .ok (.iload_n 3, 1) := by decide +kernel
theorem dX0_advance_21 : decode cX0_advance 21 = .ok (.iconst 1, 1) := by decide +kernel
theorem dX0_advance_22 : decode cX0_advance 22 = .ok (.iadd, 1) := by decide +kernel
theorem dX0_advance_23 : decode cX0_advance 23 = .ok (.iaload, 1) := by decide +kernel
theorem dX0_advance_24 : decode cX0_advance 24 = .ok (.if_icmp .le 9, 3) := by decide +kernel
theorem dX0_advance_27 : decode cX0_advance 27 = .ok (.iinc 3 (-1), 3) := by decide +kernel
theorem dX0_advance_30 : decode cX0_advance 30 = .ok (.goto (-18), 3) := by decide +kernel
theorem dX0_advance_33 : decode cX0_advance 33 = .ok (.iload_n 3, 1) := by decide +kernel
theorem dX0_advance_34 : decode cX0_advance 34 = .ok (.ifCond .ge 5, 3) := by decide +kernel
theorem dX0_advance_37 : decode cX0_advance 37 = .ok (.iconst 0, 1) := by decide +kernel
theorem dX0_advance_38 : decode cX0_advance 38 = .ok (.ireturn, 1) := by decide +kernel
theorem dX0_advance_39 : decode cX0_advance 39 = .ok (.aload_n 1, 1) := by decide +kernel
theorem dX0_advance_40 : decode cX0_advance 40 = .ok (.getfield 48, 3) := by decide +kernel
theorem dX0_advance_43 : decode cX0_advance 43 = .ok (.iconst 1, 1) := by decide +kernel
theorem dX0_advance_44 : decode cX0_advance 44 = .ok (.isub, 1) := by decide +kernel
theorem dX0_advance_45 : decode cX0_advance 45 = .ok (.istore 4, 2) := by decide +kernel
theorem dX0_advance_47 : decode cX0_advance 47 = .ok (.iload 4, 2) := by decide +kernel
theorem dX0_advance_49 : decode cX0_advance 49 = .ok (.iload_n 3, 1) := by decide +kernel
theorem dX0_advance_50 : decode cX0_advance 50 = .ok (.if_icmp .le 19, 3) := by decide +kernel
theorem dX0_advance_53 : decode cX0_advance 53 = .ok (.aload_n 2, 1) := by decide +kernel
theorem dX0_advance_54 : decode cX0_advance 54 = .ok (.iload 4, 2) := by decide +kernel
theorem dX0_advance_56 : decode cX0_advance 56 = .ok (.iaload, 1) := by decide +kernel
theorem dX0_advance_57 : decode cX0_advance 57 = .ok (.aload_n 2, 1) := by decide +kernel
theorem dX0_advance_58 : decode cX0_advance 58 = .ok (.iload_n 3, 1) := by decide +kernel
theorem dX0_advance_59 : decode cX0_advance 59 = .ok (.iaload, 1) := by decide +kernel
theorem dX0_advance_60 : decode cX0_advance 60 = .ok (.if_icmp .ge 9, 3) := by decide +kernel
theorem dX0_advance_63 : decode cX0_advance 63 = .ok (.iinc 4 (-1), 3) := by decide +kernel
theorem dX0_advance_66 : decode cX0_advance 66 = .ok (.goto (-19), 3) := by decide +kernel
theorem dX0_advance_69 : decode cX0_advance 69 = .ok (.aload_n 1, 1) := by decide +kernel
theorem dX0_advance_70 : decode cX0_advance 70 = .ok (.iload_n 3, 1) := by decide +kernel
theorem dX0_advance_71 : decode cX0_advance 71 = .ok (.iload 4, 2) := by decide +kernel
theorem dX0_advance_73 : decode cX0_advance 73 = .ok (.invokevirtual 51, 3) := by decide +kernel
theorem dX0_advance_76 : decode cX0_advance 76 = .ok (.iload_n 3, 1) := by decide +kernel
theorem dX0_advance_77 : decode cX0_advance 77 = .ok (.iconst 1, 1) := by decide +kernel
theorem dX0_advance_78 : decode cX0_advance 78 = .ok (.iadd, 1) := by decide +kernel
theorem dX0_advance_79 : decode cX0_advance 79 = .ok (.istore 5, 2) := by decide +kernel
theorem dX0_advance_81 : decode cX0_advance 81 = .ok (.aload_n 1, 1) := by decide +kernel
theorem dX0_advance_82 : decode cX0_advance 82 = .ok (.getfield 48, 3) := by decide +kernel
theorem dX0_advance_85 : decode cX0_advance 85 = .ok (.iconst 1, 1) := by decide +kernel
theorem dX0_advance_86 : decode cX0_advance 86 = .ok (.isub, 1) := by decide +kernel
theorem dX0_advance_87 : decode cX0_advance 87 = .ok (.istore 6, 2) := by decide +kernel
theorem dX0_advance_89 : decode cX0_advance 89 = .ok (.iload 5, 2) := by decide +kernel
theorem dX0_advance_91 : decode cX0_advance 91 = .ok (.iload 6, 2) := by decide +kernel
theorem dX0_advance_93 : decode cX0_advance 93 = .ok (.if_icmp .ge 20, 3) := by decide +kernel
theorem dX0_advance_96 : decode cX0_advance 96 = .ok (.aload_n 1, 1) := by decide +kernel
theorem dX0_advance_97 : decode cX0_advance 97 = .ok (.iload 5, 2) := by decide +kernel
theorem dX0_advance_99 : decode cX0_advance 99 = .ok (.iload 6, 2) := by decide +kernel
theorem dX0_advance_101 : decode cX0_advance 101 = .ok (.invokevirtual 51, 3) := by decide +kernel
theorem dX0_advance_104 : decode cX0_advance 104 = .ok (.iinc 5 1, 3) := by decide +kernel
theorem dX0_advance_107 : decode cX0_advance 107 = .ok (.iinc 6 (-1), 3) := by decide +kernel
theorem dX0_advance_110 : decode cX0_advance 110 = .ok (.goto (-21), 3) := by decide +kernel
theorem dX0_advance_113 : decode cX0_advance 113 = .ok (.iconst 1, 1) := by decide +kernel
theorem dX0_advance_114 : decode cX0_advance 114 = .ok (.ireturn, 1) := by decide +kernel
theorem dX0_search_0 : decode cX0_search 0 = .ok (.aload_n 0, 1) := by decide +kernel
theorem dX0_search_1 : decode cX0_search 1 = .ok (.iconst (-1), 1) := by decide +kernel
theorem dX0_search_2 : decode cX0_search 2 = .ok (.putfield 15, 3) := by decide +kernel
theorem dX0_search_5 : decode cX0_search 5 = .ok (.aload_n 0, 1) := by decide +kernel
theorem dX0_search_6 : decode cX0_search 6 = .ok (.iconst 0, 1) := by decide +kernel
theorem dX0_search_7 : decode cX0_search 7 = .ok (.putfield 19, 3) := by decide +kernel
theorem dX0_search_10 : decode cX0_search 10 = .ok (.aload_n 1, 1) := by decide +kernel
theorem dX0_search_11 : decode cX0_search 11 = .ok (.invokevirtual 22, 3) := by decide +kernel
theorem dX0_search_14 : decode cX0_search 14 = .ok (.iconst 1, 1) := by decide +kernel
theorem dX0_search_15 : decode cX0_search 15 = .ok (.istore_n 3, 1) := by decide +kernel
theorem dX0_search_16 : decode cX0_search 16 = .ok (.iconst 0, 1) := by decide +kernel
theorem dX0_search_17 : decode cX0_search 17 = .ok (.istore 4, 2) := by decide +kernel
theorem dX0_search_19 : decode cX0_search 19 = .ok (.iload 4, 2) := by decide +kernel
theorem dX0_search_21 : decode cX0_search 21 = .ok (.sipush 720, 3) := by decide +kernel
theorem dX0_search_24 : decode cX0_search 24 = .ok (.if_icmp .ge 56, 3) := by decide +kernel
theorem dX0_search_27 : decode cX0_search 27 = .ok (.iload_n 3, 1) := by decide +kernel
theorem dX0_search_28 : decode cX0_search 28 = .ok (.ifCond .eq 52, 3) := by decide +kernel
theorem dX0_search_31 : decode cX0_search 31 = .ok (.aload_n 2, 1) := by decide +kernel
theorem dX0_search_32 : decode cX0_search 32 = .ok (.aload_n 0, 1) := by decide +kernel
theorem dX0_search_33 : decode cX0_search 33 = .ok (.getfield 15, 3) := by decide +kernel
theorem dX0_search_36 : decode cX0_search 36 = .ok (.iconst (-1), 1) := by decide +kernel
theorem dX0_search_37 : decode cX0_search 37 = .ok (.if_icmp .ne 9, 3) := by decide +kernel
theorem dX0_search_40 : decode cX0_search 40 = .ok (.sipush 480, 3) := by decide +kernel
theorem dX0_search_43 : decode cX0_search 43 = .ok (.goto 7, 3) := by decide +kernel
theorem dX0_search_46 : decode cX0_search 46 = .ok (.aload_n 0, 1) := by decide +kernel
theorem dX0_search_47 : decode cX0_search 47 = .ok (.getfield 15, 3) := by decide +kernel
theorem dX0_search_50 : decode cX0_search 50 = .ok (.invokevirtual 27, 3) := by decide +kernel
theorem dX0_search_53 : decode cX0_search 53 = .ok (.istore 5, 2) := by decide +kernel
theorem dX0_search_55 : decode cX0_search 55 = .ok (.iload 5, 2) := by decide +kernel
theorem dX0_search_57 : decode cX0_search 57 = .ok (.iconst (-1), 1) := by decide +kernel
theorem dX0_search_58 : decode cX0_search 58 = .ok (.if_icmp .eq 10, 3) := by decide +kernel
theorem dX0_search_61 : decode cX0_search 61 = .ok (.aload_n 0, 1) := by decide +kernel
theorem dX0_search_62 : decode cX0_search 62 = .ok (.aload_n 1, 1) := by decide +kernel
theorem dX0_search_63 : decode cX0_search 63 = .ok (.iload 5, 2) := by decide +kernel
theorem dX0_search_65 : decode cX0_search 65 = .ok (.invokevirtual 33, 3) := by decide +kernel
theorem dX0_search_68 : decode cX0_search 68 = .ok (.aload_n 0, 1) := by decide +kernel
theorem dX0_search_69 : decode cX0_search 69 = .ok (.aload_n 1, 1) := by decide +kernel
theorem dX0_search_70 : decode cX0_search 70 = .ok (.invokevirtual 37, 3) := by decide +kernel
theorem dX0_search_73 : decode cX0_search 73 = .ok (.istore_n 3, 1) := by decide +kernel
theorem dX0_search_74 : decode cX0_search 74 = .ok (.iinc 4 1, 3) := by decide +kernel
theorem dX0_search_77 : decode cX0_search 77 = .ok (.goto (-58), 3) := by decide +kernel
theorem dX0_search_80 : decode cX0_search 80 = .ok (.return_, 1) := by decide +kernel
