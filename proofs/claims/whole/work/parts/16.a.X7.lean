theorem dX7_thrown_0 : decode cX7_thrown 0 = .ok (.aload_n 0, 1) := by decide +kernel
theorem dX7_thrown_1 : decode cX7_thrown 1 = .ok (.getfield 83, 3) := by decide +kernel
theorem dX7_thrown_4 : decode cX7_thrown 4 = .ok (.ireturn, 1) := by decide +kernel
theorem dX7_feed_0 : decode cX7_feed 0 = .ok (.aload_n 0, 1) := by decide +kernel
theorem dX7_feed_1 : decode cX7_feed 1 = .ok (.iconst 0, 1) := by decide +kernel
theorem dX7_feed_2 : decode cX7_feed 2 = .ok (.putfield 83, 3) := by decide +kernel
theorem dX7_feed_5 : decode cX7_feed 5 = .ok (.aload_n 0, 1) := by decide +kernel
theorem dX7_feed_6 : decode cX7_feed 6 = .ok (.getfield 86, 3) := by decide +kernel
theorem dX7_feed_9 : decode cX7_feed 9 = .ok (.bipush 20, 2) := by decide +kernel
theorem dX7_feed_11 : decode cX7_feed 11 = .ok (.iadd, 1) := by decide +kernel
theorem dX7_feed_12 : decode cX7_feed 12 = .ok (.sipush 900, 3) := by decide +kernel
theorem dX7_feed_15 : decode cX7_feed 15 = .ok (.if_icmp .le 6, 3) := by decide +kernel
theorem dX7_feed_18 : decode cX7_feed 18 = .ok (.bipush (-3), 2) := by decide +kernel
theorem dX7_feed_20 : decode cX7_feed 20 = .ok (.ireturn, 1) := by decide +kernel
theorem dX7_feed_21 : decode cX7_feed 21 = .ok (.iconst 0, 1) := by decide +kernel
theorem dX7_feed_22 : decode cX7_feed 22 = .ok (.istore 6, 2) := by decide +kernel
theorem dX7_feed_24 : decode cX7_feed 24 = .ok (.iload 6, 2) := by decide +kernel
theorem dX7_feed_26 : decode cX7_feed 26 = .ok (.bipush 20, 2) := by decide +kernel
theorem dX7_feed_28 : decode cX7_feed 28 = .ok (.if_icmp .ge 86, 3) := by decide +kernel
theorem dX7_feed_31 : decode cX7_feed 31 = .ok (.iload 6, 2) := by decide +kernel
theorem dX7_feed_33 : decode cX7_feed 33 = .ok (.iconst 4, 1) := by decide +kernel
theorem dX7_feed_34 : decode cX7_feed 34 = .ok (.if_icmp .ge 7, 3) := by decide +kernel
theorem dX7_feed_37 : decode cX7_feed 37 = .ok (.iload_n 1, 1) := by decide +kernel
theorem dX7_feed_38 : decode cX7_feed 38 = .ok (.goto 39, 3) := by decide +kernel
theorem dX7_feed_41 : decode cX7_feed 41 = .ok (.iload 6, 2) := by decide +kernel
theorem dX7_feed_43 : decode cX7_feed 43 = .ok (.bipush 8, 2) := by decide +kernel
theorem dX7_feed_45 : decode cX7_feed 45 = .ok (.if_icmp .ge 7, 3) := by decide +kernel
theorem dX7_feed_48 : decode cX7_feed 48 = .ok (.iload_n 2, 1) := by decide +kernel
theorem dX7_feed_49 : decode cX7_feed 49 = .ok (.goto 28, 3) := by decide +kernel
theorem dX7_feed_52 : decode cX7_feed 52 = .ok (.iload 6, 2) := by decide +kernel
theorem dX7_feed_54 : decode cX7_feed 54 = .ok (.bipush 12, 2) := by decide +kernel
theorem dX7_feed_56 : decode cX7_feed 56 = .ok (.if_icmp .ge 7, 3) := by decide +kernel
theorem dX7_feed_59 : decode cX7_feed 59 = .ok (.iload_n 3, 1) := by decide +kernel
theorem dX7_feed_60 : decode cX7_feed 60 = .ok (.goto 17, 3) := by decide +kernel
theorem dX7_feed_63 : decode cX7_feed 63 = .ok (.iload 6, 2) := by decide +kernel
theorem dX7_feed_65 : decode cX7_feed 65 = .ok (.bipush 16, 2) := by decide +kernel
theorem dX7_feed_67 : decode cX7_feed 67 = .ok (.if_icmp .ge 8, 3) := by decide +kernel
theorem dX7_feed_70 : decode cX7_feed 70 = .ok (.iload 4, 2) := by decide +kernel
theorem dX7_feed_72 : decode cX7_feed 72 = .ok (.goto 5, 3) := by decide +kernel
theorem dX7_feed_75 : decode cX7_feed 75 = .ok (.iload 5, 2) := by decide +kernel
theorem dX7_feed_77 : decode cX7_feed 77 = .ok (.istore 7, 2) := by decide +kernel
theorem dX7_feed_79 : decode cX7_feed 79 = .ok (.aload_n 0, 1) := by decide +kernel
theorem dX7_feed_80 : decode cX7_feed 80 = .ok (.getfield 7, 3) := by decide +kernel
theorem dX7_feed_83 : decode cX7_feed 83 = .ok (.aload_n 0, 1) := by decide +kernel
theorem dX7_feed_84 : decode cX7_feed 84 = .ok (.getfield 86, 3) := by decide +kernel
theorem dX7_feed_87 : decode cX7_feed 87 = .ok (.iload 6, 2) := by decide +kernel
theorem dX7_feed_89 : decode cX7_feed 89 = .ok (.iadd, 1) := by decide +kernel
theorem dX7_feed_90 : decode cX7_feed 90 = .ok (.iload 7, 2) := by decide +kernel
theorem dX7_feed_92 : decode cX7_feed 92 = .ok (.bipush 24, 2) := by decide +kernel
theorem dX7_feed_94 : decode cX7_feed 94 = .ok (.bipush 8, 2) := by decide +kernel
theorem dX7_feed_96 : decode cX7_feed 96 = .ok (.iload 6, 2) := by decide +kernel
theorem dX7_feed_98 : decode cX7_feed 98 = .ok (.iconst 4, 1) := by decide +kernel
theorem dX7_feed_99 : decode cX7_feed 99 = .ok (.irem, 1) := by decide +kernel
theorem dX7_feed_100 : decode cX7_feed 100 = .ok (.imul, 1) := by decide +kernel
theorem dX7_feed_101 : decode cX7_feed 101 = .ok (.isub, 1) := by decide +kernel
theorem dX7_feed_102 : decode cX7_feed 102 = .ok (.ishr, 1) := by decide +kernel
theorem dX7_feed_103 : decode cX7_feed 103 = .ok (.sipush 255, 3) := by decide +kernel
theorem dX7_feed_106 : decode cX7_feed 106 = .ok (.iand, 1) := by decide +kernel
theorem dX7_feed_107 : decode cX7_feed 107 = .ok (.iastore, 1) := by decide +kernel
theorem dX7_feed_108 : decode cX7_feed 108 = .ok (.iinc 6 1, 3) := by decide +kernel
theorem dX7_feed_111 : decode cX7_feed 111 = .ok (.goto (-87), 3) := by decide +kernel
theorem dX7_feed_114 : decode cX7_feed 114 = .ok (.aload_n 0, 1) := by decide +kernel
theorem dX7_feed_115 : decode cX7_feed 115 = .ok (.dup, 1) := by decide +kernel
theorem dX7_feed_116 : decode cX7_feed 116 = .ok (.getfield 86, 3) := by decide +kernel
theorem dX7_feed_119 : decode cX7_feed 119 = .ok (.bipush 20, 2) := by decide +kernel
theorem dX7_feed_121 : decode cX7_feed 121 = .ok (.iadd, 1) := by decide +kernel
theorem dX7_feed_122 : decode cX7_feed 122 = .ok (.putfield 86, 3) := by decide +kernel
theorem dX7_feed_125 : decode cX7_feed 125 = .ok (.aload_n 0, 1) := by decide +kernel
theorem dX7_feed_126 : decode cX7_feed 126 = .ok (.getfield 86, 3) := by decide +kernel
theorem dX7_feed_129 : decode cX7_feed 129 = .ok (.ireturn, 1) := by decide +kernel
theorem dX7_newForge_0 : decode cX7_newForge 0 = .ok (.iconst 0, 1) := by decide +kernel
theorem dX7_newForge_1 : decode cX7_newForge 1 = .ok (.istore_n 1, 1) := by decide +kernel
theorem dX7_newForge_2 : decode cX7_newForge 2 = .ok (.iload_n 1, 1) := by decide +kernel
theorem dX7_newForge_3 : decode cX7_newForge 3 = .ok (.bipush 20, 2) := by decide +kernel
theorem dX7_newForge_5 : decode cX7_newForge 5 = .ok (.if_icmp .ge 16, 3) := by decide +kernel
theorem dX7_newForge_8 : decode cX7_newForge 8 = .ok (.aload_n 0, 1) := by decide +kernel
theorem dX7_newForge_9 : decode cX7_newForge 9 = .ok (.getfield 16, 3) := by decide +kernel
theorem dX7_newForge_12 : decode cX7_newForge 12 = .ok (.iload_n 1, 1) := by decide +kernel
theorem dX7_newForge_13 : decode cX7_newForge 13 = .ok (.iconst 0, 1) := by decide +kernel
theorem dX7_newForge_14 : decode cX7_newForge 14 = .ok (.iastore, 1) := by decide +kernel
theorem dX7_newForge_15 : decode cX7_newForge 15 = .ok (.iinc 1 1, 3) := by decide +kernel
theorem dX7_newForge_18 : decode cX7_newForge 18 = .ok (.goto (-16), 3) := by decide +kernel
theorem dX7_newForge_21 : decode cX7_newForge 21 = .ok (.iconst 0, 1) := by decide +kernel
theorem dX7_newForge_22 : decode cX7_newForge 22 = .ok (.istore_n 1, 1) := by decide +kernel
theorem dX7_newForge_23 : decode cX7_newForge 23 = .ok (.iload_n 1, 1) := by decide +kernel
theorem dX7_newForge_24 : decode cX7_newForge 24 = .ok (.bipush 81, 2) := by decide +kernel
theorem dX7_newForge_26 : decode cX7_newForge 26 = .ok (.if_icmp .ge 16, 3) := by decide +kernel
theorem dX7_newForge_29 : decode cX7_newForge 29 = .ok (.aload_n 0, 1) := by decide +kernel
theorem dX7_newForge_30 : decode cX7_newForge 30 = .ok (.getfield 22, 3) := by decide +kernel
theorem dX7_newForge_33 : decode cX7_newForge 33 = .ok (.iload_n 1, 1) := by decide +kernel
theorem dX7_newForge_34 : decode cX7_newForge 34 = .ok (.iconst 0, 1) := by decide +kernel
theorem dX7_newForge_35 : decode cX7_newForge 35 = .ok (.iastore, 1) := by decide +kernel
theorem dX7_newForge_36 : decode cX7_newForge 36 = .ok (.iinc 1 1, 3) := by decide +kernel
theorem dX7_newForge_39 : decode cX7_newForge 39 = .ok (.goto (-16), 3) := by decide +kernel
theorem dX7_newForge_42 : decode cX7_newForge 42 = .ok (.iconst 0, 1) := by decide +kernel
theorem dX7_newForge_43 : decode cX7_newForge 43 = .ok (.istore_n 1, 1) := by decide +kernel
theorem dX7_newForge_44 : decode cX7_newForge 44 = .ok (.iload_n 1, 1) := by decide +kernel
theorem dX7_newForge_45 : decode cX7_newForge 45 = .ok (.bipush 6, 2) := by decide +kernel
theorem dX7_newForge_47 : decode cX7_newForge 47 = .ok (.if_icmp .ge 19, 3) := by decide +kernel
theorem dX7_newForge_50 : decode cX7_newForge 50 = .ok (.aload_n 0, 1) := by decide +kernel
theorem dX7_newForge_51 : decode cX7_newForge 51 = .ok (.getfield 22, 3) := by decide +kernel
theorem dX7_newForge_54 : decode cX7_newForge 54 = .ok (.bipush 72, 2) := by decide +kernel
theorem dX7_newForge_56 : decode cX7_newForge 56 = .ok (.iload_n 1, 1) := by decide +kernel
theorem dX7_newForge_57 : decode cX7_newForge 57 = .ok (.iadd, 1) := by decide +kernel
theorem dX7_newForge_58 : decode cX7_newForge 58 = .ok (.iload_n 1, 1) := by decide +kernel
theorem dX7_newForge_59 : decode cX7_newForge 59 = .ok (.iastore, 1) := by decide +kernel
theorem dX7_newForge_60 : decode cX7_newForge 60 = .ok (.iinc 1 1, 3) := by decide +kernel
theorem dX7_newForge_63 : decode cX7_newForge 63 = .ok (.goto (-19), 3) := by decide +kernel
theorem dX7_newForge_66 : decode cX7_newForge 66 = .ok (.aload_n 0, 1) := by decide +kernel
theorem dX7_newForge_67 : decode cX7_newForge 67 = .ok (.getfield 22, 3) := by decide +kernel
theorem dX7_newForge_70 : decode cX7_newForge 70 = .ok (.bipush 78, 2) := by decide +kernel
theorem dX7_newForge_72 : decode cX7_newForge 72 = .ok (.iconst 1, 1) := by decide +kernel
theorem dX7_newForge_73 : decode cX7_newForge 73 = .ok (.iastore, 1) := by decide +kernel
theorem dX7_newForge_74 : decode cX7_newForge 74 = .ok (.aload_n 0, 1) := by decide +kernel
theorem dX7_newForge_75 : decode cX7_newForge 75 = .ok (.getfield 22, 3) := by decide +kernel
theorem dX7_newForge_78 : decode cX7_newForge 78 = .ok (.bipush 79, 2) := by decide +kernel
theorem dX7_newForge_80 : decode cX7_newForge 80 = .ok (.bipush 50, 2) := by decide +kernel
theorem dX7_newForge_82 : decode cX7_newForge 82 = .ok (.iastore, 1) := by decide +kernel
theorem dX7_newForge_83 : decode cX7_newForge 83 = .ok (.aload_n 0, 1) := by decide +kernel
theorem dX7_newForge_84 : decode cX7_newForge 84 = .ok (.iconst 0, 1) := by decide +kernel
theorem dX7_newForge_85 : decode cX7_newForge 85 = .ok (.putfield 89, 3) := by decide +kernel
theorem dX7_newForge_88 : decode cX7_newForge 88 = .ok (.aload_n 0, 1) := by decide +kernel
theorem dX7_newForge_89 : decode cX7_newForge 89 = .ok (.iconst 0, 1) := by decide +kernel
theorem dX7_newForge_90 : decode cX7_newForge 90 = .ok (.putfield 92, 3) := by decide +kernel
theorem dX7_newForge_93 : decode cX7_newForge 93 = .ok (.return_, 1) := by decide +kernel
theorem dX7_takes_0 : decode cX7_takes 0 = .ok (.iconst 0, 1) := by decide +kernel
theorem dX7_takes_1 : decode cX7_takes 1 = .ok (.istore_n 1, 1) := by decide +kernel
theorem dX7_takes_2 : decode cX7_takes 2 = .ok (.iload_n 1, 1) := by decide +kernel
theorem dX7_takes_3 : decode cX7_takes 3 = .ok (.bipush 20, 2) := by decide +kernel
theorem dX7_takes_5 : decode cX7_takes 5 = .ok (.if_icmp .ge 21, 3) := by decide +kernel
theorem dX7_takes_8 : decode cX7_takes 8 = .ok (.aload_n 0, 1) := by decide +kernel
theorem dX7_takes_9 : decode cX7_takes 9 = .ok (.getfield 13, 3) := by decide +kernel
theorem dX7_takes_12 : decode cX7_takes 12 = .ok (.iload_n 1, 1) := by decide +kernel
theorem dX7_takes_13 : decode cX7_takes 13 = .ok (.aload_n 0, 1) := by decide +kernel
theorem dX7_takes_14 : decode cX7_takes 14 = .ok (.getfield 16, 3) := by decide +kernel
theorem dX7_takes_17 : decode cX7_takes 17 = .ok (.iload_n 1, 1) := by decide +kernel
theorem dX7_takes_18 : decode cX7_takes 18 = .ok (.iaload, 1) := by decide +kernel
theorem dX7_takes_19 : decode cX7_takes 19 = .ok (.iastore, 1) := by decide +kernel
theorem dX7_takes_20 : decode cX7_takes 20 = .ok (.iinc 1 1, 3) := by decide +kernel
theorem dX7_takes_23 : decode cX7_takes 23 = .ok (.goto (-21), 3) := by decide +kernel
theorem dX7_takes_26 : decode cX7_takes 26 = .ok (.iconst 0, 1) := by decide +kernel
theorem dX7_takes_27 : decode cX7_takes 27 = .ok (.istore_n 1, 1) := by decide +kernel
theorem dX7_takes_28 : decode cX7_takes 28 = .ok (.iload_n 1, 1) := by decide +kernel
theorem dX7_takes_29 : decode cX7_takes 29 = .ok (.bipush 81, 2) := by decide +kernel
theorem dX7_takes_31 : decode cX7_takes 31 = .ok (.if_icmp .ge 21, 3) := by decide +kernel
theorem dX7_takes_34 : decode cX7_takes 34 = .ok (.aload_n 0, 1) := by decide +kernel
theorem dX7_takes_35 : decode cX7_takes 35 = .ok (.getfield 19, 3) := by decide +kernel
theorem dX7_takes_38 : decode cX7_takes 38 = .ok (.iload_n 1, 1) := by decide +kernel
theorem dX7_takes_39 : decode cX7_takes 39 = .ok (.aload_n 0, 1) := by decide +kernel
theorem dX7_takes_40 : decode cX7_takes 40 = .ok (.getfield 22, 3) := by decide +kernel
theorem dX7_takes_43 : decode cX7_takes 43 = .ok (.iload_n 1, 1) := by decide +kernel
theorem dX7_takes_44 : decode cX7_takes 44 = .ok (.iaload, 1) := by decide +kernel
theorem dX7_takes_45 : decode cX7_takes 45 = .ok (.iastore, 1) := by decide +kernel
theorem dX7_takes_46 : decode cX7_takes 46 = .ok (.iinc 1 1, 3) := by decide +kernel
theorem dX7_takes_49 : decode cX7_takes 49 = .ok (.goto (-21), 3) := by decide +kernel
theorem dX7_takes_52 : decode cX7_takes 52 = .ok (.aload_n 0, 1) := by decide +kernel
theorem dX7_takes_53 : decode cX7_takes 53 = .ok (.iconst 0, 1) := by decide +kernel
theorem dX7_takes_54 : decode cX7_takes 54 = .ok (.putfield 95, 3) := by decide +kernel
theorem dX7_takes_57 : decode cX7_takes 57 = .ok (.aload_n 0, 1) := by decide +kernel
theorem dX7_takes_58 : decode cX7_takes 58 = .ok (.iconst 0, 1) := by decide +kernel
theorem dX7_takes_59 : decode cX7_takes 59 = .ok (.putfield 98, 3) := by decide +kernel
theorem dX7_takes_62 : decode cX7_takes 62 = .ok (.aload_n 0, 1) := by decide +kernel
theorem dX7_takes_63 : decode cX7_takes 63 = .ok (.iconst 0, 1) := by decide +kernel
theorem dX7_takes_64 : decode cX7_takes 64 = .ok (.putfield 102, 3) := by decide +kernel
theorem dX7_takes_67 : decode cX7_takes 67 = .ok (.return_, 1) := by decide +kernel
theorem dX7_here_0 : decode cX7_here 0 = .ok (.aload_n 0, 1) := by decide +kernel
theorem dX7_here_1 : decode cX7_here 1 = .ok (.getfield 105, 3) := by decide +kernel
theorem dX7_here_4 : decode cX7_here 4 = .ok (.aload_n 0, 1) := by decide +kernel
theorem dX7_here_5 : decode cX7_here 5 = .ok (.getfield 108, 3) := by decide +kernel
theorem dX7_here_8 : decode cX7_here 8 = .ok (.if_icmp .ge 15, 3) := by decide +kernel
theorem dX7_here_11 : decode cX7_here 11 = .ok (.aload_n 0, 1) := by decide +kernel
theorem dX7_here_12 : decode cX7_here 12 = .ok (.getfield 7, 3) := by decide +kernel
theorem dX7_here_15 : decode cX7_here 15 = .ok (.aload_n 0, 1) := by decide +kernel
theorem dX7_here_16 : decode cX7_here 16 = .ok (.getfield 105, 3) := by decide +kernel
theorem dX7_here_19 : decode cX7_here 19 = .ok (.iaload, 1) := by decide +kernel
theorem dX7_here_20 : decode cX7_here 20 = .ok (.goto 4, 3) := by decide +kernel
theorem dX7_here_23 : decode cX7_here 23 = .ok (.iconst (-1), 1) := by decide +kernel
theorem dX7_here_24 : decode cX7_here 24 = .ok (.ireturn, 1) := by decide +kernel
theorem dX7_isSmall_0 : decode cX7_isSmall 0 = .ok (.iload_n 0, 1) := by decide +kernel
theorem dX7_isSmall_1 : decode cX7_isSmall 1 = .ok (.bipush 97, 2) := by decide +kernel
theorem dX7_isSmall_3 : decode cX7_isSmall 3 = .ok (.if_icmp .lt 13, 3) := by decide +kernel
theorem dX7_isSmall_6 : decode cX7_isSmall 6 = .ok (.iload_n 0, 1) := by decide +kernel
theorem dX7_isSmall_7 : decode cX7_isSmall 7 = .ok (.bipush 122, 2) := by decide +kernel
theorem dX7_isSmall_9 : decode cX7_isSmall 9 = .ok (.if_icmp .gt 7, 3) := by decide +kernel
theorem dX7_isSmall_12 : decode cX7_isSmall 12 = .ok (.iconst 1, 1) := by decide +kernel
theorem dX7_isSmall_13 : decode cX7_isSmall 13 = .ok (.goto 4, 3) := by decide +kernel
theorem dX7_isSmall_16 : decode cX7_isSmall 16 = .ok (.iconst 0, 1) := by decide +kernel
theorem dX7_isSmall_17 : decode cX7_isSmall 17 = .ok (.ireturn, 1) := by decide +kernel
theorem dX7_isDigit_0 : decode cX7_isDigit 0 = .ok (.iload_n 0, 1) := by decide +kernel
theorem dX7_isDigit_1 : decode cX7_isDigit 1 = .ok (.bipush 48, 2) := by decide +kernel
theorem dX7_isDigit_3 : decode cX7_isDigit 3 = .ok (.if_icmp .lt 13, 3) := by decide +kernel
theorem dX7_isDigit_6 : decode cX7_isDigit 6 = .ok (.iload_n 0, 1) := by decide +kernel
theorem dX7_isDigit_7 : decode cX7_isDigit 7 = .ok (.bipush 57, 2) := by decide +kernel
theorem dX7_isDigit_9 : decode cX7_isDigit 9 = .ok (.if_icmp .gt 7, 3) := by decide +kernel
theorem dX7_isDigit_12 : decode cX7_isDigit 12 = .ok (.iconst 1, 1) := by decide +kernel
theorem dX7_isDigit_13 : decode cX7_isDigit 13 = .ok (.goto 4, 3) := by decide +kernel
theorem dX7_isDigit_16 : decode cX7_isDigit 16 = .ok (.iconst 0, 1) := by decide +kernel
theorem dX7_isDigit_17 : decode cX7_isDigit 17 = .ok (.ireturn, 1) := by decide +kernel
theorem dX7_wordHere_0 : decode cX7_wordHere 0 = .ok (.iconst 0, 1) := by decide +kernel
theorem dX7_wordHere_1 : decode cX7_wordHere 1 = .ok (.istore_n 1, 1) := by decide +kernel
theorem dX7_wordHere_2 : decode cX7_wordHere 2 = .ok (.iconst 0, 1) := by decide +kernel
theorem dX7_wordHere_3 : decode cX7_wordHere 3 = .ok (.istore_n 2, 1) := by decide +kernel
theorem dX7_wordHere_4 : decode cX7_wordHere 4 = .ok (.iload_n 2, 1) := by decide +kernel
theorem dX7_wordHere_5 : decode cX7_wordHere 5 = .ok (.ldc 135, 2) := by decide +kernel
theorem dX7_wordHere_7 : decode cX7_wordHere 7 = .ok (.invokevirtual 137, 3) := by decide +kernel
theorem dX7_wordHere_10 : decode cX7_wordHere 10 = .ok (.if_icmp .ge 113, 3) := by decide +kernel
theorem dX7_wordHere_13 : decode cX7_wordHere 13 = .ok (.iconst 0, 1) := by decide +kernel
theorem dX7_wordHere_14 : decode cX7_wordHere 14 = .ok (.istore_n 3, 1) := by decide +kernel
theorem dX7_wordHere_15 : decode cX7_wordHere 15 = .ok (.ldc 135, 2) := by decide +kernel
theorem dX7_wordHere_17 : decode cX7_wordHere 17 = .ok (.iload_n 2, 1) := by decide +kernel
theorem dX7_wordHere_18 : decode cX7_wordHere 18 = .ok (.iload_n 3, 1) := by decide +kernel
theorem dX7_wordHere_19 : decode cX7_wordHere 19 = .ok (.iadd, 1) := by decide +kernel
theorem dX7_wordHere_20 : decode cX7_wordHere 20 = .ok (.invokevirtual 142, 3) := by decide +kernel
theorem dX7_wordHere_23 : decode cX7_wordHere 23 = .ok (.bipush 32, 2) := by decide +kernel
theorem dX7_wordHere_25 : decode cX7_wordHere 25 = .ok (.if_icmp .eq 44, 3) := by decide +kernel
theorem dX7_wordHere_28 : decode cX7_wordHere 28 = .ok (.aload_n 0, 1) := by decide +kernel
theorem dX7_wordHere_29 : decode cX7_wordHere 29 = .ok (.getfield 115, 3) := by decide +kernel
theorem dX7_wordHere_32 : decode cX7_wordHere 32 = .ok (.iload_n 3, 1) := by decide +kernel
theorem dX7_wordHere_33 : decode cX7_wordHere 33 = .ok (.iadd, 1) := by decide +kernel
theorem dX7_wordHere_34 : decode cX7_wordHere 34 = .ok (.aload_n 0, 1) := by decide +kernel
theorem dX7_wordHere_35 : decode cX7_wordHere 35 = .ok (.getfield 105, 3) := by decide +kernel
theorem dX7_wordHere_38 : decode cX7_wordHere 38 = .ok (.if_icmp .ge 31, 3) := by decide +kernel
theorem dX7_wordHere_41 : decode cX7_wordHere 41 = .ok (.aload_n 0, 1) := by decide +kernel
theorem dX7_wordHere_42 : decode cX7_wordHere 42 = .ok (.getfield 7, 3) := by decide +kernel
theorem dX7_wordHere_45 : decode cX7_wordHere 45 = .ok (.aload_n 0, 1) := by decide +kernel
theorem dX7_wordHere_46 : decode cX7_wordHere 46 = .ok (.getfield 115, 3) := by decide +kernel
theorem dX7_wordHere_49 : decode cX7_wordHere 49 = .ok (.iload_n 3, 1) := by decide +kernel
theorem dX7_wordHere_50 : decode cX7_wordHere 50 = .ok (.iadd, 1) := by decide +kernel
theorem dX7_wordHere_51 : decode cX7_wordHere 51 = .ok (.iaload, 1) := by decide +kernel
theorem dX7_wordHere_52 : decode cX7_wordHere 52 = .ok (.ldc 135, 2) := by decide +kernel
theorem dX7_wordHere_54 : decode cX7_wordHere 54 = .ok (.iload_n 2, 1) := by decide +kernel
theorem dX7_wordHere_55 : decode cX7_wordHere 55 = .ok (.iload_n 3, 1) := by decide +kernel
theorem dX7_wordHere_56 : decode cX7_wordHere 56 = .ok (.iadd, 1) := by decide +kernel
theorem dX7_wordHere_57 : decode cX7_wordHere 57 = .ok (.invokevirtual 142, 3) := by decide +kernel
theorem dX7_wordHere_60 : decode cX7_wordHere 60 = .ok (.if_icmp .ne 9, 3) := by decide +kernel
theorem dX7_wordHere_63 : decode cX7_wordHere 63 = .ok (.iinc 3 1, 3) := by decide +kernel
theorem dX7_wordHere_66 : decode cX7_wordHere 66 = .ok (.goto (-51), 3) := by decide +kernel
theorem dX7_wordHere_69 : decode cX7_wordHere 69 = .ok (.ldc 135, 2) := by decide +kernel
theorem dX7_wordHere_71 : decode cX7_wordHere 71 = .ok (.iload_n 2, 1) := by decide +kernel
theorem dX7_wordHere_72 : decode cX7_wordHere 72 = .ok (.iload_n 3, 1) := by decide +kernel
theorem dX7_wordHere_73 : decode cX7_wordHere 73 = .ok (.iadd, 1) := by decide +kernel
theorem dX7_wordHere_74 : decode cX7_wordHere 74 = .ok (.invokevirtual 142, 3) := by decide +kernel
theorem dX7_wordHere_77 : decode cX7_wordHere 77 = .ok (.bipush 32, 2) := by decide +kernel
theorem dX7_wordHere_79 : decode cX7_wordHere 79 = .ok (.if_icmp .ne 18, 3) := by decide +kernel
theorem dX7_wordHere_82 : decode cX7_wordHere 82 = .ok (.aload_n 0, 1) := by decide +kernel
theorem dX7_wordHere_83 : decode cX7_wordHere 83 = .ok (.getfield 115, 3) := by decide +kernel
theorem dX7_wordHere_86 : decode cX7_wordHere 86 = .ok (.iload_n 3, 1) := by decide +kernel
theorem dX7_wordHere_87 : decode cX7_wordHere 87 = .ok (.iadd, 1) := by decide +kernel
theorem dX7_wordHere_88 : decode cX7_wordHere 88 = .ok (.aload_n 0, 1) := by decide +kernel
theorem dX7_wordHere_89 : decode cX7_wordHere 89 = .ok (.getfield 105, 3) := by decide +kernel
theorem dX7_wordHere_92 : decode cX7_wordHere 92 = .ok (.if_icmp .ne 5, 3) := by decide +kernel
theorem dX7_wordHere_95 : decode cX7_wordHere 95 = .ok (.iload_n 1, 1) := by decide +kernel
theorem dX7_wordHere_96 : decode cX7_wordHere 96 = .ok (.ireturn, 1) := by decide +kernel
theorem dX7_wordHere_97 : decode cX7_wordHere 97 = .ok (.ldc 135, 2) := by decide +kernel
theorem dX7_wordHere_99 : decode cX7_wordHere 99 = .ok (.iload_n 2, 1) := by decide +kernel
theorem dX7_wordHere_100 : decode cX7_wordHere 100 = .ok (.invokevirtual 142, 3) := by decide +kernel
theorem dX7_wordHere_103 : decode cX7_wordHere 103 = .ok (.bipush 32, 2) := by decide +kernel
theorem dX7_wordHere_105 : decode cX7_wordHere 105 = .ok (.if_icmp .eq 9, 3) := by decide +kernel
theorem dX7_wordHere_108 : decode cX7_wordHere 108 = .ok (.iinc 2 1, 3) := by decide +kernel
theorem dX7_wordHere_111 : decode cX7_wordHere 111 = .ok (.goto (-14), 3) := by decide +kernel
theorem dX7_wordHere_114 : decode cX7_wordHere 114 = .ok (.iinc 2 1, 3) := by decide +kernel
theorem dX7_wordHere_117 : decode cX7_wordHere 117 = .ok (.iinc 1 1, 3) := by decide +kernel
theorem dX7_wordHere_120 : decode cX7_wordHere 120 = .ok (.goto (-116), 3) := by decide +kernel
theorem dX7_wordHere_123 : decode cX7_wordHere 123 = .ok (.iconst (-1), 1) := by decide +kernel
theorem dX7_wordHere_124 : decode cX7_wordHere 124 = .ok (.ireturn, 1) := by decide +kernel
theorem dX7_next_0 : decode cX7_next 0 = .ok (.aload_n 0, 1) := by decide +kernel
theorem dX7_next_1 : decode cX7_next 1 = .ok (.invokevirtual 111, 3) := by decide +kernel
theorem dX7_next_4 : decode cX7_next 4 = .ok (.bipush 10, 2) := by decide +kernel
theorem dX7_next_6 : decode cX7_next 6 = .ok (.if_icmp .eq 12, 3) := by decide +kernel
theorem dX7_next_9 : decode cX7_next 9 = .ok (.aload_n 0, 1) := by decide +kernel
theorem dX7_next_10 : decode cX7_next 10 = .ok (.invokevirtual 111, 3) := by decide +kernel
theorem dX7_next_13 : decode cX7_next 13 = .ok (.bipush 32, 2) := by decide +kernel
theorem dX7_next_15 : decode cX7_next 15 = .ok (.if_icmp .ne 16, 3) := by decide +kernel
theorem dX7_next_18 : decode cX7_next 18 = .ok (.aload_n 0, 1) := by decide +kernel
theorem dX7_next_19 : decode cX7_next 19 = .ok (.dup, 1) := by decide +kernel
theorem dX7_next_20 : decode cX7_next 20 = .ok (.getfield 105, 3) := by decide +kernel
theorem dX7_next_23 : decode cX7_next 23 = .ok (.iconst 1, 1) := by decide +kernel
theorem dX7_next_24 : decode cX7_next 24 = .ok (.iadd, 1) := by decide +kernel
theorem dX7_next_25 : decode cX7_next 25 = .ok (.putfield 105, 3) := by decide +kernel
theorem dX7_next_28 : decode cX7_next 28 = .ok (.goto (-28), 3) := by decide +kernel
theorem dX7_next_31 : decode cX7_next 31 = .ok (.aload_n 0, 1) := by decide +kernel
theorem dX7_next_32 : decode cX7_next 32 = .ok (.aload_n 0, 1) := by decide +kernel
theorem dX7_next_33 : decode cX7_next 33 = .ok (.getfield 105, 3) := by decide +kernel
theorem dX7_next_36 : decode cX7_next 36 = .ok (.putfield 115, 3) := by decide +kernel
theorem dX7_next_39 : decode cX7_next 39 = .ok (.aload_n 0, 1) := by decide +kernel
theorem dX7_next_40 : decode cX7_next 40 = .ok (.invokevirtual 111, 3) := by decide +kernel
theorem dX7_next_43 : decode cX7_next 43 = .ok (.istore_n 1, 1) := by decide +kernel
theorem dX7_next_44 : decode cX7_next 44 = .ok (.iload_n 1, 1) := by decide +kernel
theorem dX7_next_45 : decode cX7_next 45 = .ok (.iconst (-1), 1) := by decide +kernel
theorem dX7_next_46 : decode cX7_next 46 = .ok (.if_icmp .ne 11, 3) := by decide +kernel
theorem dX7_next_49 : decode cX7_next 49 = .ok (.aload_n 0, 1) := by decide +kernel
theorem dX7_next_50 : decode cX7_next 50 = .ok (.iconst 3, 1) := by decide +kernel
theorem dX7_next_51 : decode cX7_next 51 = .ok (.putfield 118, 3) := by decide +kernel
theorem dX7_next_54 : decode cX7_next 54 = .ok (.goto 149, 3) := by decide +kernel
theorem dX7_next_57 : decode cX7_next 57 = .ok (.iload_n 1, 1) := by decide +kernel
theorem dX7_next_58 : decode cX7_next 58 = .ok (.invokestatic 121, 3) := by decide +kernel
theorem dX7_next_61 : decode cX7_next 61 = .ok (.ifCond .eq 42, 3) := by decide +kernel
theorem dX7_next_64 : decode cX7_next 64 = .ok (.aload_n 0, 1) := by decide +kernel
theorem dX7_next_65 : decode cX7_next 65 = .ok (.invokevirtual 111, 3) := by decide +kernel
theorem dX7_next_68 : decode cX7_next 68 = .ok (.invokestatic 121, 3) := by decide +kernel
theorem dX7_next_71 : decode cX7_next 71 = .ok (.ifCond .eq 16, 3) := by decide +kernel
theorem dX7_next_74 : decode cX7_next 74 = .ok (.aload_n 0, 1) := by decide +kernel
theorem dX7_next_75 : decode cX7_next 75 = .ok (.dup, 1) := by decide +kernel
theorem dX7_next_76 : decode cX7_next 76 = .ok (.getfield 105, 3) := by decide +kernel
theorem dX7_next_79 : decode cX7_next 79 = .ok (.iconst 1, 1) := by decide +kernel
theorem dX7_next_80 : decode cX7_next 80 = .ok (.iadd, 1) := by decide +kernel
theorem dX7_next_81 : decode cX7_next 81 = .ok (.putfield 105, 3) := by decide +kernel
theorem dX7_next_84 : decode cX7_next 84 = .ok (.goto (-20), 3) := by decide +kernel
theorem dX7_next_87 : decode cX7_next 87 = .ok (.aload_n 0, 1) := by decide +kernel
theorem dX7_next_88 : decode cX7_next 88 = .ok (.iconst 0, 1) := by decide +kernel
theorem dX7_next_89 : decode cX7_next 89 = .ok (.putfield 118, 3) := by decide +kernel
theorem dX7_next_92 : decode cX7_next 92 = .ok (.aload_n 0, 1) := by decide +kernel
theorem dX7_next_93 : decode cX7_next 93 = .ok (.aload_n 0, 1) := by decide +kernel
theorem dX7_next_94 : decode cX7_next 94 = .ok (.invokevirtual 125, 3) := by decide +kernel
theorem dX7_next_97 : decode cX7_next 97 = .ok (.putfield 128, 3) := by decide +kernel
theorem dX7_next_100 : decode cX7_next 100 = .ok (.goto 103, 3) := by decide +kernel
theorem dX7_next_103 : decode cX7_next 103 = .ok (.iload_n 1, 1) := by decide +kernel
theorem dX7_next_104 : decode cX7_next 104 = .ok (.invokestatic 131, 3) := by decide +kernel
theorem dX7_next_107 : decode cX7_next 107 = .ok (.ifCond .eq 71, 3) := by decide +kernel
theorem dX7_next_110 : decode cX7_next 110 = .ok (.aload_n 0, 1) := by decide +kernel
theorem dX7_next_111 : decode cX7_next 111 = .ok (.iconst 1, 1) := by decide +kernel
theorem dX7_next_112 : decode cX7_next 112 = .ok (.putfield 118, 3) := by decide +kernel
theorem dX7_next_115 : decode cX7_next 115 = .ok (.aload_n 0, 1) := by decide +kernel
theorem dX7_next_116 : decode cX7_next 116 = .ok (.iconst 0, 1) := by decide +kernel
theorem dX7_next_117 : decode cX7_next 117 = .ok (.putfield 128, 3) := by decide +kernel
theorem dX7_next_120 : decode cX7_next 120 = .ok (.aload_n 0, 1) := by decide +kernel
theorem dX7_next_121 : decode cX7_next 121 = .ok (.invokevirtual 111, 3) := by decide +kernel
theorem dX7_next_124 : decode cX7_next 124 = .ok (.invokestatic 131, 3) := by decide +kernel
theorem dX7_next_127 : decode cX7_next 127 = .ok (.ifCond .eq 76, 3) := by decide +kernel
theorem dX7_next_130 : decode cX7_next 130 = .ok (.aload_n 0, 1) := by decide +kernel
theorem dX7_next_131 : decode cX7_next 131 = .ok (.aload_n 0, 1) := by decide +kernel
theorem dX7_next_132 : decode cX7_next 132 = .ok (.getfield 128, 3) := by decide +kernel
theorem dX7_next_135 : decode cX7_next 135 = .ok (.ldc 134, 2) := by decide +kernel
theorem dX7_next_137 : decode cX7_next 137 = .ok (.if_icmp .le 10, 3) := by decide +kernel
theorem dX7_next_140 : decode cX7_next 140 = .ok (.aload_n 0, 1) := by decide +kernel
theorem dX7_next_141 : decode cX7_next 141 = .ok (.getfield 128, 3) := by decide +kernel
theorem dX7_next_144 : decode cX7_next 144 = .ok (.goto 18, 3) := by decide +kernel
theorem dX7_next_147 : decode cX7_next 147 = .ok (.bipush 10, 2) := by decide +kernel
theorem dX7_next_149 : decode cX7_next 149 = .ok (.aload_n 0, 1) := by decide +kernel
theorem dX7_next_150 : decode cX7_next 150 = .ok (.getfield 128, 3) := by decide +kernel
theorem dX7_next_153 : decode cX7_next 153 = .ok (.imul, 1) := by decide +kernel
theorem dX7_next_154 : decode cX7_next 154 = .ok (.aload_n 0, 1) := by decide +kernel
theorem dX7_next_155 : decode cX7_next 155 = .ok (.invokevirtual 111, 3) := by decide +kernel
theorem dX7_next_158 : decode cX7_next 158 = .ok (.iadd, 1) := by decide +kernel
theorem dX7_next_159 : decode cX7_next 159 = .ok (.bipush 48, 2) := by decide +kernel
theorem dX7_next_161 : decode cX7_next 161 = .ok (.isub, 1) := by decide +kernel
theorem dX7_next_162 : decode cX7_next 162 = .ok (.putfield 128, 3) := by decide +kernel
theorem dX7_next_165 : decode cX7_next 165 = .ok (.aload_n 0, 1) := by decide +kernel
theorem dX7_next_166 : decode cX7_next 166 = .ok (.dup, 1) := by decide +kernel
theorem dX7_next_167 : decode cX7_next 167 = .ok (.getfield 105, 3) := by decide +kernel
theorem dX7_next_170 : decode cX7_next 170 = .ok (.iconst 1, 1) := by decide +kernel
theorem dX7_next_171 : decode cX7_next 171 = .ok (.iadd, 1) := by decide +kernel
theorem dX7_next_172 : decode cX7_next 172 = .ok (.putfield 105, 3) := by decide +kernel
theorem dX7_next_175 : decode cX7_next 175 = .ok (.goto (-55), 3) := by decide +kernel
theorem dX7_next_178 : decode cX7_next 178 = .ok (.aload_n 0, 1) := by decide +kernel
theorem dX7_next_179 : decode cX7_next 179 = .ok (.iload_n 1, 1) := by decide +kernel
theorem dX7_next_180 : decode cX7_next 180 = .ok (.bipush 59, 2) := by decide +kernel
theorem dX7_next_182 : decode cX7_next 182 = .ok (.if_icmp .ne 7, 3) := by decide +kernel
theorem dX7_next_185 : decode cX7_next 185 = .ok (.iconst 2, 1) := by decide +kernel
theorem dX7_next_186 : decode cX7_next 186 = .ok (.goto 4, 3) := by decide +kernel
theorem dX7_next_189 : decode cX7_next 189 = .ok (.iconst 4, 1) := by decide +kernel
theorem dX7_next_190 : decode cX7_next 190 = .ok (.putfield 118, 3) := by decide +kernel
theorem dX7_next_193 : decode cX7_next 193 = .ok (.aload_n 0, 1) := by decide +kernel
theorem dX7_next_194 : decode cX7_next 194 = .ok (.dup, 1) := by decide +kernel
theorem dX7_next_195 : decode cX7_next 195 = .ok (.getfield 105, 3) := by decide +kernel
theorem dX7_next_198 : decode cX7_next 198 = .ok (.iconst 1, 1) := by decide +kernel
theorem dX7_next_199 : decode cX7_next 199 = .ok (.iadd, 1) := by decide +kernel
theorem dX7_next_200 : decode cX7_next 200 = .ok (.putfield 105, 3) := by decide +kernel
theorem dX7_next_203 : decode cX7_next 203 = .ok (.return_, 1) := by decide +kernel
theorem dX7_failsIf_0 : decode cX7_failsIf 0 = .ok (.aload_n 0, 1) := by decide +kernel
theorem dX7_failsIf_1 : decode cX7_failsIf 1 = .ok (.getfield 146, 3) := by decide +kernel
theorem dX7_failsIf_4 : decode cX7_failsIf 4 = .ok (.ifCond .ne 7, 3) := by decide +kernel
theorem dX7_failsIf_7 : decode cX7_failsIf 7 = .ok (.iload_n 1, 1) := by decide +kernel
theorem dX7_failsIf_8 : decode cX7_failsIf 8 = .ok (.ifCond .ne 4, 3) := by decide +kernel
theorem dX7_failsIf_11 : decode cX7_failsIf 11 = .ok (.return_, 1) := by decide +kernel
theorem dX7_failsIf_12 : decode cX7_failsIf 12 = .ok (.aload_n 0, 1) := by decide +kernel
theorem dX7_failsIf_13 : decode cX7_failsIf 13 = .ok (.iload_n 2, 1) := by decide +kernel
theorem dX7_failsIf_14 : decode cX7_failsIf 14 = .ok (.putfield 146, 3) := by decide +kernel
theorem dX7_failsIf_17 : decode cX7_failsIf 17 = .ok (.aload_n 0, 1) := by decide +kernel
theorem dX7_failsIf_18 : decode cX7_failsIf 18 = .ok (.aload_n 0, 1) := by decide +kernel
theorem dX7_failsIf_19 : decode cX7_failsIf 19 = .ok (.getfield 115, 3) := by decide +kernel
theorem dX7_failsIf_22 : decode cX7_failsIf 22 = .ok (.putfield 149, 3) := by decide +kernel
theorem dX7_failsIf_25 : decode cX7_failsIf 25 = .ok (.return_, 1) := by decide +kernel
theorem dX7_goOn_0 : decode cX7_goOn 0 = .ok (.aload_n 0, 1) := by decide +kernel
theorem dX7_goOn_1 : decode cX7_goOn 1 = .ok (.getfield 146, 3) := by decide +kernel
theorem dX7_goOn_4 : decode cX7_goOn 4 = .ok (.ifCond .ne 7, 3) := by decide +kernel
theorem dX7_goOn_7 : decode cX7_goOn 7 = .ok (.aload_n 0, 1) := by decide +kernel
theorem dX7_goOn_8 : decode cX7_goOn 8 = .ok (.invokevirtual 152, 3) := by decide +kernel
theorem dX7_goOn_11 : decode cX7_goOn 11 = .ok (.return_, 1) := by decide +kernel
theorem dX7_integer_0 : decode cX7_integer 0 = .ok (.aload_n 0, 1) := by decide +kernel
theorem dX7_integer_1 : decode cX7_integer 1 = .ok (.aload_n 0, 1) := by decide +kernel
theorem dX7_integer_2 : decode cX7_integer 2 = .ok (.getfield 118, 3) := by decide +kernel
theorem dX7_integer_5 : decode cX7_integer 5 = .ok (.iconst 1, 1) := by decide +kernel
theorem dX7_integer_6 : decode cX7_integer 6 = .ok (.if_icmp .eq 7, 3) := by decide +kernel
theorem dX7_integer_9 : decode cX7_integer 9 = .ok (.iconst 1, 1) := by decide +kernel
theorem dX7_integer_10 : decode cX7_integer 10 = .ok (.goto 4, 3) := by decide +kernel
theorem dX7_integer_13 : decode cX7_integer 13 = .ok (.iconst 0, 1) := by decide +kernel
theorem dX7_integer_14 : decode cX7_integer 14 = .ok (.bipush (-11), 2) := by decide +kernel
theorem dX7_integer_16 : decode cX7_integer 16 = .ok (.invokevirtual 155, 3) := by decide +kernel
theorem dX7_integer_19 : decode cX7_integer 19 = .ok (.aload_n 0, 1) := by decide +kernel
theorem dX7_integer_20 : decode cX7_integer 20 = .ok (.aload_n 0, 1) := by decide +kernel
theorem dX7_integer_21 : decode cX7_integer 21 = .ok (.getfield 128, 3) := by decide +kernel
theorem dX7_integer_24 : decode cX7_integer 24 = .ok (.iload_n 1, 1) := by decide +kernel
theorem dX7_integer_25 : decode cX7_integer 25 = .ok (.if_icmp .lt 11, 3) := by decide +kernel
theorem dX7_integer_28 : decode cX7_integer 28 = .ok (.aload_n 0, 1) := by decide +kernel
theorem dX7_integer_29 : decode cX7_integer 29 = .ok (.getfield 128, 3) := by decide +kernel
theorem dX7_integer_32 : decode cX7_integer 32 = .ok (.iload_n 2, 1) := by decide +kernel
theorem dX7_integer_33 : decode cX7_integer 33 = .ok (.if_icmp .le 7, 3) := by decide +kernel
theorem dX7_integer_36 : decode cX7_integer 36 = .ok (.iconst 1, 1) := by decide +kernel
theorem dX7_integer_37 : decode cX7_integer 37 = .ok (.goto 4, 3) := by decide +kernel
theorem dX7_integer_40 : decode cX7_integer 40 = .ok (.iconst 0, 1) := by decide +kernel
theorem dX7_integer_41 : decode cX7_integer 41 = .ok (.bipush (-12), 2) := by decide +kernel
theorem dX7_integer_43 : decode cX7_integer 43 = .ok (.invokevirtual 155, 3) := by decide +kernel
theorem dX7_integer_46 : decode cX7_integer 46 = .ok (.aload_n 0, 1) := by decide +kernel
theorem dX7_integer_47 : decode cX7_integer 47 = .ok (.getfield 146, 3) := by decide +kernel
theorem dX7_integer_50 : decode cX7_integer 50 = .ok (.ifCond .ne 10, 3) := by decide +kernel
theorem dX7_integer_53 : decode cX7_integer 53 = .ok (.aload_n 0, 1) := by decide +kernel
theorem dX7_integer_54 : decode cX7_integer 54 = .ok (.getfield 128, 3) := by decide +kernel
theorem dX7_integer_57 : decode cX7_integer 57 = .ok (.goto 4, 3) := by decide +kernel
theorem dX7_integer_60 : decode cX7_integer 60 = .ok (.iload_n 1, 1) := by decide +kernel
theorem dX7_integer_61 : decode cX7_integer 61 = .ok (.istore_n 3, 1) := by decide +kernel
theorem dX7_integer_62 : decode cX7_integer 62 = .ok (.aload_n 0, 1) := by decide +kernel
theorem dX7_integer_63 : decode cX7_integer 63 = .ok (.invokevirtual 159, 3) := by decide +kernel
theorem dX7_integer_66 : decode cX7_integer 66 = .ok (.iload_n 3, 1) := by decide +kernel
theorem dX7_integer_67 : decode cX7_integer 67 = .ok (.ireturn, 1) := by decide +kernel
theorem dX7_seesName_0 : decode cX7_seesName 0 = .ok (.aload_n 0, 1) := by decide +kernel
theorem dX7_seesName_1 : decode cX7_seesName 1 = .ok (.aload_n 0, 1) := by decide +kernel
theorem dX7_seesName_2 : decode cX7_seesName 2 = .ok (.getfield 118, 3) := by decide +kernel
theorem dX7_seesName_5 : decode cX7_seesName 5 = .ok (.ifCond .ne 25, 3) := by decide +kernel
theorem dX7_seesName_8 : decode cX7_seesName 8 = .ok (.aload_n 0, 1) := by decide +kernel
theorem dX7_seesName_9 : decode cX7_seesName 9 = .ok (.getfield 128, 3) := by decide +kernel
theorem dX7_seesName_12 : decode cX7_seesName 12 = .ok (.iconst (-1), 1) := by decide +kernel
theorem dX7_seesName_13 : decode cX7_seesName 13 = .ok (.if_icmp .ne 17, 3) := by decide +kernel
theorem dX7_seesName_16 : decode cX7_seesName 16 = .ok (.aload_n 0, 1) := by decide +kernel
theorem dX7_seesName_17 : decode cX7_seesName 17 = .ok (.getfield 105, 3) := by decide +kernel
theorem dX7_seesName_20 : decode cX7_seesName 20 = .ok (.aload_n 0, 1) := by decide +kernel
theorem dX7_seesName_21 : decode cX7_seesName 21 = .ok (.getfield 115, 3) := by decide +kernel
theorem dX7_seesName_24 : decode cX7_seesName 24 = .ok (.isub, 1) := by decide +kernel
theorem dX7_seesName_25 : decode cX7_seesName 25 = .ok (.bipush 6, 2) := by decide +kernel
theorem dX7_seesName_27 : decode cX7_seesName 27 = .ok (.if_icmp .le 7, 3) := by decide +kernel
theorem dX7_seesName_30 : decode cX7_seesName 30 = .ok (.iconst 1, 1) := by decide +kernel
theorem dX7_seesName_31 : decode cX7_seesName 31 = .ok (.goto 4, 3) := by decide +kernel
theorem dX7_seesName_34 : decode cX7_seesName 34 = .ok (.iconst 0, 1) := by decide +kernel
theorem dX7_seesName_35 : decode cX7_seesName 35 = .ok (.bipush (-11), 2) := by decide +kernel
theorem dX7_seesName_37 : decode cX7_seesName 37 = .ok (.invokevirtual 155, 3) := by decide +kernel
theorem dX7_seesName_40 : decode cX7_seesName 40 = .ok (.aload_n 0, 1) := by decide +kernel
theorem dX7_seesName_41 : decode cX7_seesName 41 = .ok (.iconst 0, 1) := by decide +kernel
theorem dX7_seesName_42 : decode cX7_seesName 42 = .ok (.putfield 162, 3) := by decide +kernel
theorem dX7_seesName_45 : decode cX7_seesName 45 = .ok (.iconst 0, 1) := by decide +kernel
theorem dX7_seesName_46 : decode cX7_seesName 46 = .ok (.istore_n 1, 1) := by decide +kernel
theorem dX7_seesName_47 : decode cX7_seesName 47 = .ok (.iload_n 1, 1) := by decide +kernel
theorem dX7_seesName_48 : decode cX7_seesName 48 = .ok (.bipush 6, 2) := by decide +kernel
theorem dX7_seesName_50 : decode cX7_seesName 50 = .ok (.if_icmp .ge 60, 3) := by decide +kernel
theorem dX7_seesName_53 : decode cX7_seesName 53 = .ok (.aload_n 0, 1) := by decide +kernel
theorem dX7_seesName_54 : decode cX7_seesName 54 = .ok (.getfield 146, 3) := by decide +kernel
theorem dX7_seesName_57 : decode cX7_seesName 57 = .ok (.ifCond .ne 53, 3) := by decide +kernel
theorem dX7_seesName_60 : decode cX7_seesName 60 = .ok (.aload_n 0, 1) := by decide +kernel
theorem dX7_seesName_61 : decode cX7_seesName 61 = .ok (.aload_n 0, 1) := by decide +kernel
theorem dX7_seesName_62 : decode cX7_seesName 62 = .ok (.getfield 162, 3) := by decide +kernel
theorem dX7_seesName_65 : decode cX7_seesName 65 = .ok (.iconst 5, 1) := by decide +kernel
theorem dX7_seesName_66 : decode cX7_seesName 66 = .ok (.ishl, 1) := by decide +kernel
theorem dX7_seesName_67 : decode cX7_seesName 67 = .ok (.aload_n 0, 1) := by decide +kernel
theorem dX7_seesName_68 : decode cX7_seesName 68 = .ok (.getfield 115, 3) := by decide +kernel
theorem dX7_seesName_71 : decode cX7_seesName 71 = .ok (.iload_n 1, 1) := by decide +kernel
theorem dX7_seesName_72 : decode cX7_seesName 72 = .ok (.iadd, 1) := by decide +kernel
theorem dX7_seesName_73 : decode cX7_seesName 73 = .ok (.aload_n 0, 1) := by decide +kernel
theorem dX7_seesName_74 : decode cX7_seesName 74 = .ok (.getfield 105, 3) := by decide +kernel
theorem dX7_seesName_77 : decode cX7_seesName 77 = .ok (.if_icmp .ge 22, 3) := by decide +kernel
theorem dX7_seesName_80 : decode cX7_seesName 80 = .ok (.aload_n 0, 1) := by decide +kernel
theorem dX7_seesName_81 : decode cX7_seesName 81 = .ok (.getfield 7, 3) := by decide +kernel
theorem dX7_seesName_84 : decode cX7_seesName 84 = .ok (.aload_n 0, 1) := by decide +kernel
theorem dX7_seesName_85 : decode cX7_seesName 85 = .ok (.getfield 115, 3) := by decide +kernel
theorem dX7_seesName_88 : decode cX7_seesName 88 = .ok (.iload_n 1, 1) := by decide +kernel
theorem dX7_seesName_89 : decode cX7_seesName 89 = .ok (.iadd, 1) := by decide +kernel
theorem dX7_seesName_90 : decode cX7_seesName 90 = .ok (.iaload, 1) := by decide +kernel
theorem dX7_seesName_91 : decode cX7_seesName 91 = .ok (.bipush 97, 2) := by decide +kernel
theorem dX7_seesName_93 : decode cX7_seesName 93 = .ok (.isub, 1) := by decide +kernel
theorem dX7_seesName_94 : decode cX7_seesName 94 = .ok (.iconst 1, 1) := by decide +kernel
theorem dX7_seesName_95 : decode cX7_seesName 95 = .ok (.iadd, 1) := by decide +kernel
theorem dX7_seesName_96 : decode cX7_seesName 96 = .ok (.goto 4, 3) := by decide +kernel
theorem dX7_seesName_99 : decode cX7_seesName 99 = .ok (.iconst 0, 1) := by decide +kernel
theorem dX7_seesName_100 : decode cX7_seesName 100 = .ok (.ior, 1) := by decide +kernel
theorem dX7_seesName_101 : decode cX7_seesName 101 = .ok (.putfield 162, 3) := by decide +kernel
theorem dX7_seesName_104 : decode cX7_seesName 104 = .ok (.iinc 1 1, 3) := by decide +kernel
theorem dX7_seesName_107 : decode cX7_seesName 107 = .ok (.goto (-60), 3) := by decide +kernel
theorem dX7_seesName_110 : decode cX7_seesName 110 = .ok (.return_, 1) := by decide +kernel
theorem dX7_found_0 : decode cX7_found 0 = .ok (.iconst 0, 1) := by decide +kernel
theorem dX7_found_1 : decode cX7_found 1 = .ok (.istore_n 2, 1) := by decide +kernel
theorem dX7_found_2 : decode cX7_found 2 = .ok (.iload_n 2, 1) := by decide +kernel
theorem dX7_found_3 : decode cX7_found 3 = .ok (.aload_n 0, 1) := by decide +kernel
theorem dX7_found_4 : decode cX7_found 4 = .ok (.bipush 18, 2) := by decide +kernel
theorem dX7_found_6 : decode cX7_found 6 = .ok (.iaload, 1) := by decide +kernel
theorem dX7_found_7 : decode cX7_found 7 = .ok (.if_icmp .ge 20, 3) := by decide +kernel
theorem dX7_found_10 : decode cX7_found 10 = .ok (.aload_n 0, 1) := by decide +kernel
theorem dX7_found_11 : decode cX7_found 11 = .ok (.iconst 0, 1) := by decide +kernel
theorem dX7_found_12 : decode cX7_found 12 = .ok (.iload_n 2, 1) := by decide +kernel
theorem dX7_found_13 : decode cX7_found 13 = .ok (.iadd, 1) := by decide +kernel
theorem dX7_found_14 : decode cX7_found 14 = .ok (.iaload, 1) := by decide +kernel
theorem dX7_found_15 : decode cX7_found 15 = .ok (.iload_n 1, 1) := by decide +kernel
theorem dX7_found_16 : decode cX7_found 16 = .ok (.if_icmp .ne 5, 3) := by decide +kernel
theorem dX7_found_19 : decode cX7_found 19 = .ok (.iload_n 2, 1) := by decide +kernel
theorem dX7_found_20 : decode cX7_found 20 = .ok (.ireturn, 1) := by decide +kernel
theorem dX7_found_21 : decode cX7_found 21 = .ok (.iinc 2 1, 3) := by decide +kernel
theorem dX7_found_24 : decode cX7_found 24 = .ok (.goto (-22), 3) := by decide +kernel
theorem dX7_found_27 : decode cX7_found 27 = .ok (.iconst (-1), 1) := by decide +kernel
theorem dX7_found_28 : decode cX7_found 28 = .ok (.ireturn, 1) := by decide +kernel
theorem dX7_readIron_0 : decode cX7_readIron 0 = .ok (.aload_n 0, 1) := by decide +kernel
theorem dX7_readIron_1 : decode cX7_readIron 1 = .ok (.aload_n 0, 1) := by decide +kernel
theorem dX7_readIron_2 : decode cX7_readIron 2 = .ok (.getfield 16, 3) := by decide +kernel
theorem dX7_readIron_5 : decode cX7_readIron 5 = .ok (.bipush 18, 2) := by decide +kernel
theorem dX7_readIron_7 : decode cX7_readIron 7 = .ok (.iaload, 1) := by decide +kernel
theorem dX7_readIron_8 : decode cX7_readIron 8 = .ok (.bipush 6, 2) := by decide +kernel
theorem dX7_readIron_10 : decode cX7_readIron 10 = .ok (.if_icmp .ne 7, 3) := by decide +kernel
theorem dX7_readIron_13 : decode cX7_readIron 13 = .ok (.iconst 1, 1) := by decide +kernel
theorem dX7_readIron_14 : decode cX7_readIron 14 = .ok (.goto 4, 3) := by decide +kernel
theorem dX7_readIron_17 : decode cX7_readIron 17 = .ok (.iconst 0, 1) := by decide +kernel
theorem dX7_readIron_18 : decode cX7_readIron 18 = .ok (.bipush (-15), 2) := by decide +kernel
theorem dX7_readIron_20 : decode cX7_readIron 20 = .ok (.invokevirtual 155, 3) := by decide +kernel
theorem dX7_readIron_23 : decode cX7_readIron 23 = .ok (.aload_n 0, 1) := by decide +kernel
theorem dX7_readIron_24 : decode cX7_readIron 24 = .ok (.invokevirtual 159, 3) := by decide +kernel
theorem dX7_readIron_27 : decode cX7_readIron 27 = .ok (.aload_n 0, 1) := by decide +kernel
theorem dX7_readIron_28 : decode cX7_readIron 28 = .ok (.invokevirtual 165, 3) := by decide +kernel
theorem dX7_readIron_31 : decode cX7_readIron 31 = .ok (.aload_n 0, 1) := by decide +kernel
theorem dX7_readIron_32 : decode cX7_readIron 32 = .ok (.aload_n 0, 1) := by decide +kernel
theorem dX7_readIron_33 : decode cX7_readIron 33 = .ok (.getfield 146, 3) := by decide +kernel
theorem dX7_readIron_36 : decode cX7_readIron 36 = .ok (.ifCond .ne 22, 3) := by decide +kernel
theorem dX7_readIron_39 : decode cX7_readIron 39 = .ok (.aload_n 0, 1) := by decide +kernel
theorem dX7_readIron_40 : decode cX7_readIron 40 = .ok (.getfield 16, 3) := by decide +kernel
theorem dX7_readIron_43 : decode cX7_readIron 43 = .ok (.aload_n 0, 1) := by decide +kernel
theorem dX7_readIron_44 : decode cX7_readIron 44 = .ok (.getfield 162, 3) := by decide +kernel
theorem dX7_readIron_47 : decode cX7_readIron 47 = .ok (.invokestatic 168, 3) := by decide +kernel
theorem dX7_readIron_50 : decode cX7_readIron 50 = .ok (.iconst (-1), 1) := by decide +kernel
theorem dX7_readIron_51 : decode cX7_readIron 51 = .ok (.if_icmp .eq 7, 3) := by decide +kernel
theorem dX7_readIron_54 : decode cX7_readIron 54 = .ok (.iconst 1, 1) := by decide +kernel
theorem dX7_readIron_55 : decode cX7_readIron 55 = .ok (.goto 4, 3) := by decide +kernel
theorem dX7_readIron_58 : decode cX7_readIron 58 = .ok (.iconst 0, 1) := by decide +kernel
theorem dX7_readIron_59 : decode cX7_readIron 59 = .ok (.bipush (-14), 2) := by decide +kernel
theorem dX7_readIron_61 : decode cX7_readIron 61 = .ok (.invokevirtual 155, 3) := by decide +kernel
theorem dX7_readIron_64 : decode cX7_readIron 64 = .ok (.aload_n 0, 1) := by decide +kernel
theorem dX7_readIron_65 : decode cX7_readIron 65 = .ok (.invokevirtual 159, 3) := by decide +kernel
theorem dX7_readIron_68 : decode cX7_readIron 68 = .ok (.aload_n 0, 1) := by decide +kernel
theorem dX7_readIron_69 : decode cX7_readIron 69 = .ok (.iconst 1, 1) := by decide +kernel
theorem dX7_readIron_70 : decode cX7_readIron 70 = .ok (.bipush 9, 2) := by decide +kernel
theorem dX7_readIron_72 : decode cX7_readIron 72 = .ok (.invokevirtual 172, 3) := by decide +kernel
theorem dX7_readIron_75 : decode cX7_readIron 75 = .ok (.istore_n 1, 1) := by decide +kernel
theorem dX7_readIron_76 : decode cX7_readIron 76 = .ok (.aload_n 0, 1) := by decide +kernel
theorem dX7_readIron_77 : decode cX7_readIron 77 = .ok (.iconst 1, 1) := by decide +kernel
theorem dX7_readIron_78 : decode cX7_readIron 78 = .ok (.bipush 99, 2) := by decide +kernel
theorem dX7_readIron_80 : decode cX7_readIron 80 = .ok (.invokevirtual 172, 3) := by decide +kernel
theorem dX7_readIron_83 : decode cX7_readIron 83 = .ok (.istore_n 2, 1) := by decide +kernel
theorem dX7_readIron_84 : decode cX7_readIron 84 = .ok (.aload_n 0, 1) := by decide +kernel
theorem dX7_readIron_85 : decode cX7_readIron 85 = .ok (.getfield 146, 3) := by decide +kernel
theorem dX7_readIron_88 : decode cX7_readIron 88 = .ok (.ifCond .eq 4, 3) := by decide +kernel
theorem dX7_readIron_91 : decode cX7_readIron 91 = .ok (.return_, 1) := by decide +kernel
theorem dX7_readIron_92 : decode cX7_readIron 92 = .ok (.aload_n 0, 1) := by decide +kernel
theorem dX7_readIron_93 : decode cX7_readIron 93 = .ok (.getfield 16, 3) := by decide +kernel
theorem dX7_readIron_96 : decode cX7_readIron 96 = .ok (.bipush 18, 2) := by decide +kernel
theorem dX7_readIron_98 : decode cX7_readIron 98 = .ok (.iaload, 1) := by decide +kernel
theorem dX7_readIron_99 : decode cX7_readIron 99 = .ok (.istore_n 3, 1) := by decide +kernel
theorem dX7_readIron_100 : decode cX7_readIron 100 = .ok (.aload_n 0, 1) := by decide +kernel
theorem dX7_readIron_101 : decode cX7_readIron 101 = .ok (.getfield 16, 3) := by decide +kernel
theorem dX7_readIron_104 : decode cX7_readIron 104 = .ok (.iconst 0, 1) := by decide +kernel
theorem dX7_readIron_105 : decode cX7_readIron 105 = .ok (.iload_n 3, 1) := by decide +kernel
theorem dX7_readIron_106 : decode cX7_readIron 106 = .ok (.iadd, 1) := by decide +kernel
theorem dX7_readIron_107 : decode cX7_readIron 107 = .ok (.aload_n 0, 1) := by decide +kernel
theorem dX7_readIron_108 : decode cX7_readIron 108 = .ok (.getfield 162, 3) := by decide +kernel
theorem dX7_readIron_111 : decode cX7_readIron 111 = .ok (.iastore, 1) := by decide +kernel
theorem dX7_readIron_112 : decode cX7_readIron 112 = .ok (.aload_n 0, 1) := by decide +kernel
theorem dX7_readIron_113 : decode cX7_readIron 113 = .ok (.getfield 16, 3) := by decide +kernel
theorem dX7_readIron_116 : decode cX7_readIron 116 = .ok (.bipush 6, 2) := by decide +kernel
theorem dX7_readIron_118 : decode cX7_readIron 118 = .ok (.iload_n 3, 1) := by decide +kernel
theorem dX7_readIron_119 : decode cX7_readIron 119 = .ok (.iadd, 1) := by decide +kernel
theorem dX7_readIron_120 : decode cX7_readIron 120 = .ok (.iload_n 1, 1) := by decide +kernel
theorem dX7_readIron_121 : decode cX7_readIron 121 = .ok (.iastore, 1) := by decide +kernel
theorem dX7_readIron_122 : decode cX7_readIron 122 = .ok (.aload_n 0, 1) := by decide +kernel
theorem dX7_readIron_123 : decode cX7_readIron 123 = .ok (.getfield 16, 3) := by decide +kernel
theorem dX7_readIron_126 : decode cX7_readIron 126 = .ok (.bipush 12, 2) := by decide +kernel
theorem dX7_readIron_128 : decode cX7_readIron 128 = .ok (.iload_n 3, 1) := by decide +kernel
theorem dX7_readIron_129 : decode cX7_readIron 129 = .ok (.iadd, 1) := by decide +kernel
theorem dX7_readIron_130 : decode cX7_readIron 130 = .ok (.iload_n 2, 1) := by decide +kernel
theorem dX7_readIron_131 : decode cX7_readIron 131 = .ok (.iastore, 1) := by decide +kernel
theorem dX7_readIron_132 : decode cX7_readIron 132 = .ok (.aload_n 0, 1) := by decide +kernel
theorem dX7_readIron_133 : decode cX7_readIron 133 = .ok (.getfield 16, 3) := by decide +kernel
theorem dX7_readIron_136 : decode cX7_readIron 136 = .ok (.bipush 18, 2) := by decide +kernel
theorem dX7_readIron_138 : decode cX7_readIron 138 = .ok (.dup2, 1) := by decide +kernel
theorem dX7_readIron_139 : decode cX7_readIron 139 = .ok (.iaload, 1) := by decide +kernel
theorem dX7_readIron_140 : decode cX7_readIron 140 = .ok (.iconst 1, 1) := by decide +kernel
theorem dX7_readIron_141 : decode cX7_readIron 141 = .ok (.iadd, 1) := by decide +kernel
theorem dX7_readIron_142 : decode cX7_readIron 142 = .ok (.iastore, 1) := by decide +kernel
theorem dX7_readIron_143 : decode cX7_readIron 143 = .ok (.return_, 1) := by decide +kernel
theorem dX7_adds_0 : decode cX7_adds 0 = .ok (.aload_n 0, 1) := by decide +kernel
theorem dX7_adds_1 : decode cX7_adds 1 = .ok (.bipush 6, 2) := by decide +kernel
theorem dX7_adds_3 : decode cX7_adds 3 = .ok (.iconst 5, 1) := by decide +kernel
theorem dX7_adds_4 : decode cX7_adds 4 = .ok (.iload_n 1, 1) := by decide +kernel
theorem dX7_adds_5 : decode cX7_adds 5 = .ok (.imul, 1) := by decide +kernel
theorem dX7_adds_6 : decode cX7_adds 6 = .ok (.iadd, 1) := by decide +kernel
theorem dX7_adds_7 : decode cX7_adds 7 = .ok (.aload_n 0, 1) := by decide +kernel
theorem dX7_adds_8 : decode cX7_adds 8 = .ok (.iconst 0, 1) := by decide +kernel
theorem dX7_adds_9 : decode cX7_adds 9 = .ok (.iload_n 1, 1) := by decide +kernel
theorem dX7_adds_10 : decode cX7_adds 10 = .ok (.iadd, 1) := by decide +kernel
theorem dX7_adds_11 : decode cX7_adds 11 = .ok (.iaload, 1) := by decide +kernel
theorem dX7_adds_12 : decode cX7_adds 12 = .ok (.iadd, 1) := by decide +kernel
theorem dX7_adds_13 : decode cX7_adds 13 = .ok (.iload_n 2, 1) := by decide +kernel
theorem dX7_adds_14 : decode cX7_adds 14 = .ok (.iastore, 1) := by decide +kernel
theorem dX7_adds_15 : decode cX7_adds 15 = .ok (.aload_n 0, 1) := by decide +kernel
theorem dX7_adds_16 : decode cX7_adds 16 = .ok (.bipush 36, 2) := by decide +kernel
theorem dX7_adds_18 : decode cX7_adds 18 = .ok (.iconst 5, 1) := by decide +kernel
theorem dX7_adds_19 : decode cX7_adds 19 = .ok (.iload_n 1, 1) := by decide +kernel
theorem dX7_adds_20 : decode cX7_adds 20 = .ok (.imul, 1) := by decide +kernel
theorem dX7_adds_21 : decode cX7_adds 21 = .ok (.iadd, 1) := by decide +kernel
theorem dX7_adds_22 : decode cX7_adds 22 = .ok (.aload_n 0, 1) := by decide +kernel
theorem dX7_adds_23 : decode cX7_adds 23 = .ok (.iconst 0, 1) := by decide +kernel
theorem dX7_adds_24 : decode cX7_adds 24 = .ok (.iload_n 1, 1) := by decide +kernel
theorem dX7_adds_25 : decode cX7_adds 25 = .ok (.iadd, 1) := by decide +kernel
theorem dX7_adds_26 : decode cX7_adds 26 = .ok (.iaload, 1) := by decide +kernel
theorem dX7_adds_27 : decode cX7_adds 27 = .ok (.iadd, 1) := by decide +kernel
theorem dX7_adds_28 : decode cX7_adds 28 = .ok (.iload_n 3, 1) := by decide +kernel
theorem dX7_adds_29 : decode cX7_adds 29 = .ok (.iastore, 1) := by decide +kernel
theorem dX7_adds_30 : decode cX7_adds 30 = .ok (.aload_n 0, 1) := by decide +kernel
theorem dX7_adds_31 : decode cX7_adds 31 = .ok (.iconst 0, 1) := by decide +kernel
theorem dX7_adds_32 : decode cX7_adds 32 = .ok (.iload_n 1, 1) := by decide +kernel
theorem dX7_adds_33 : decode cX7_adds 33 = .ok (.iadd, 1) := by decide +kernel
theorem dX7_adds_34 : decode cX7_adds 34 = .ok (.dup2, 1) := by decide +kernel
theorem dX7_adds_35 : decode cX7_adds 35 = .ok (.iaload, 1) := by decide +kernel
theorem dX7_adds_36 : decode cX7_adds 36 = .ok (.iconst 1, 1) := by decide +kernel
theorem dX7_adds_37 : decode cX7_adds 37 = .ok (.iadd, 1) := by decide +kernel
theorem dX7_adds_38 : decode cX7_adds 38 = .ok (.iastore, 1) := by decide +kernel
theorem dX7_adds_39 : decode cX7_adds 39 = .ok (.return_, 1) := by decide +kernel
theorem dX7_readStep_0 : decode cX7_readStep 0 = .ok (.aload_n 0, 1) := by decide +kernel
theorem dX7_readStep_1 : decode cX7_readStep 1 = .ok (.invokevirtual 159, 3) := by decide +kernel
theorem dX7_readStep_4 : decode cX7_readStep 4 = .ok (.aload_n 0, 1) := by decide +kernel
theorem dX7_readStep_5 : decode cX7_readStep 5 = .ok (.invokevirtual 165, 3) := by decide +kernel
theorem dX7_readStep_8 : decode cX7_readStep 8 = .ok (.aload_n 0, 1) := by decide +kernel
theorem dX7_readStep_9 : decode cX7_readStep 9 = .ok (.getfield 146, 3) := by decide +kernel
theorem dX7_readStep_12 : decode cX7_readStep 12 = .ok (.ifCond .ne 17, 3) := by decide +kernel
theorem dX7_readStep_15 : decode cX7_readStep 15 = .ok (.aload_n 0, 1) := by decide +kernel
theorem dX7_readStep_16 : decode cX7_readStep 16 = .ok (.getfield 16, 3) := by decide +kernel
theorem dX7_readStep_19 : decode cX7_readStep 19 = .ok (.aload_n 0, 1) := by decide +kernel
theorem dX7_readStep_20 : decode cX7_readStep 20 = .ok (.getfield 162, 3) := by decide +kernel
theorem dX7_readStep_23 : decode cX7_readStep 23 = .ok (.invokestatic 168, 3) := by decide +kernel
theorem dX7_readStep_26 : decode cX7_readStep 26 = .ok (.goto 4, 3) := by decide +kernel
theorem dX7_readStep_29 : decode cX7_readStep 29 = .ok (.iconst 0, 1) := by decide +kernel
theorem dX7_readStep_30 : decode cX7_readStep 30 = .ok (.istore_n 1, 1) := by decide +kernel
theorem dX7_readStep_31 : decode cX7_readStep 31 = .ok (.aload_n 0, 1) := by decide +kernel
theorem dX7_readStep_32 : decode cX7_readStep 32 = .ok (.iload_n 1, 1) := by decide +kernel
theorem dX7_readStep_33 : decode cX7_readStep 33 = .ok (.iconst (-1), 1) := by decide +kernel
theorem dX7_readStep_34 : decode cX7_readStep 34 = .ok (.if_icmp .ne 7, 3) := by decide +kernel
theorem dX7_readStep_37 : decode cX7_readStep 37 = .ok (.iconst 1, 1) := by decide +kernel
theorem dX7_readStep_38 : decode cX7_readStep 38 = .ok (.goto 4, 3) := by decide +kernel
theorem dX7_readStep_41 : decode cX7_readStep 41 = .ok (.iconst 0, 1) := by decide +kernel
theorem dX7_readStep_42 : decode cX7_readStep 42 = .ok (.bipush (-13), 2) := by decide +kernel
theorem dX7_readStep_44 : decode cX7_readStep 44 = .ok (.invokevirtual 155, 3) := by decide +kernel
theorem dX7_readStep_47 : decode cX7_readStep 47 = .ok (.aload_n 0, 1) := by decide +kernel
theorem dX7_readStep_48 : decode cX7_readStep 48 = .ok (.getfield 146, 3) := by decide +kernel
theorem dX7_readStep_51 : decode cX7_readStep 51 = .ok (.ifCond .eq 4, 3) := by decide +kernel
theorem dX7_readStep_54 : decode cX7_readStep 54 = .ok (.return_, 1) := by decide +kernel
theorem dX7_readStep_55 : decode cX7_readStep 55 = .ok (.aload_n 0, 1) := by decide +kernel
theorem dX7_readStep_56 : decode cX7_readStep 56 = .ok (.aload_n 0, 1) := by decide +kernel
theorem dX7_readStep_57 : decode cX7_readStep 57 = .ok (.getfield 22, 3) := by decide +kernel
theorem dX7_readStep_60 : decode cX7_readStep 60 = .ok (.iconst 0, 1) := by decide +kernel
theorem dX7_readStep_61 : decode cX7_readStep 61 = .ok (.iload_n 1, 1) := by decide +kernel
theorem dX7_readStep_62 : decode cX7_readStep 62 = .ok (.iadd, 1) := by decide +kernel
theorem dX7_readStep_63 : decode cX7_readStep 63 = .ok (.iaload, 1) := by decide +kernel
theorem dX7_readStep_64 : decode cX7_readStep 64 = .ok (.iconst 5, 1) := by decide +kernel
theorem dX7_readStep_65 : decode cX7_readStep 65 = .ok (.if_icmp .ne 7, 3) := by decide +kernel
theorem dX7_readStep_68 : decode cX7_readStep 68 = .ok (.iconst 1, 1) := by decide +kernel
theorem dX7_readStep_69 : decode cX7_readStep 69 = .ok (.goto 4, 3) := by decide +kernel
theorem dX7_readStep_72 : decode cX7_readStep 72 = .ok (.iconst 0, 1) := by decide +kernel
theorem dX7_readStep_73 : decode cX7_readStep 73 = .ok (.bipush (-15), 2) := by decide +kernel
theorem dX7_readStep_75 : decode cX7_readStep 75 = .ok (.invokevirtual 155, 3) := by decide +kernel
theorem dX7_readStep_78 : decode cX7_readStep 78 = .ok (.aload_n 0, 1) := by decide +kernel
theorem dX7_readStep_79 : decode cX7_readStep 79 = .ok (.invokevirtual 159, 3) := by decide +kernel
theorem dX7_readStep_82 : decode cX7_readStep 82 = .ok (.aload_n 0, 1) := by decide +kernel
theorem dX7_readStep_83 : decode cX7_readStep 83 = .ok (.bipush 100, 2) := by decide +kernel
theorem dX7_readStep_85 : decode cX7_readStep 85 = .ok (.sipush 1400, 3) := by decide +kernel
theorem dX7_readStep_88 : decode cX7_readStep 88 = .ok (.invokevirtual 172, 3) := by decide +kernel
theorem dX7_readStep_91 : decode cX7_readStep 91 = .ok (.istore_n 2, 1) := by decide +kernel
theorem dX7_readStep_92 : decode cX7_readStep 92 = .ok (.aload_n 0, 1) := by decide +kernel
theorem dX7_readStep_93 : decode cX7_readStep 93 = .ok (.iconst 1, 1) := by decide +kernel
theorem dX7_readStep_94 : decode cX7_readStep 94 = .ok (.bipush 30, 2) := by decide +kernel
theorem dX7_readStep_96 : decode cX7_readStep 96 = .ok (.invokevirtual 172, 3) := by decide +kernel
theorem dX7_readStep_99 : decode cX7_readStep 99 = .ok (.istore_n 3, 1) := by decide +kernel
theorem dX7_readStep_100 : decode cX7_readStep 100 = .ok (.aload_n 0, 1) := by decide +kernel
theorem dX7_readStep_101 : decode cX7_readStep 101 = .ok (.getfield 146, 3) := by decide +kernel
theorem dX7_readStep_104 : decode cX7_readStep 104 = .ok (.ifCond .ne 13, 3) := by decide +kernel
theorem dX7_readStep_107 : decode cX7_readStep 107 = .ok (.aload_n 0, 1) := by decide +kernel
theorem dX7_readStep_108 : decode cX7_readStep 108 = .ok (.getfield 22, 3) := by decide +kernel
theorem dX7_readStep_111 : decode cX7_readStep 111 = .ok (.iload_n 1, 1) := by decide +kernel
theorem dX7_readStep_112 : decode cX7_readStep 112 = .ok (.iload_n 2, 1) := by decide +kernel
theorem dX7_readStep_113 : decode cX7_readStep 113 = .ok (.iload_n 3, 1) := by decide +kernel
theorem dX7_readStep_114 : decode cX7_readStep 114 = .ok (.invokestatic 176, 3) := by decide +kernel
theorem dX7_readStep_117 : decode cX7_readStep 117 = .ok (.return_, 1) := by decide +kernel
theorem dX7_readPlace_0 : decode cX7_readPlace 0 = .ok (.aload_n 0, 1) := by decide +kernel
theorem dX7_readPlace_1 : decode cX7_readPlace 1 = .ok (.aload_n 0, 1) := by decide +kernel
theorem dX7_readPlace_2 : decode cX7_readPlace 2 = .ok (.getfield 16, 3) := by decide +kernel
theorem dX7_readPlace_5 : decode cX7_readPlace 5 = .ok (.bipush 19, 2) := by decide +kernel
theorem dX7_readPlace_7 : decode cX7_readPlace 7 = .ok (.iaload, 1) := by decide +kernel
theorem dX7_readPlace_8 : decode cX7_readPlace 8 = .ok (.iconst 3, 1) := by decide +kernel
theorem dX7_readPlace_9 : decode cX7_readPlace 9 = .ok (.if_icmp .ne 7, 3) := by decide +kernel
theorem dX7_readPlace_12 : decode cX7_readPlace 12 = .ok (.iconst 1, 1) := by decide +kernel
theorem dX7_readPlace_13 : decode cX7_readPlace 13 = .ok (.goto 4, 3) := by decide +kernel
theorem dX7_readPlace_16 : decode cX7_readPlace 16 = .ok (.iconst 0, 1) := by decide +kernel
theorem dX7_readPlace_17 : decode cX7_readPlace 17 = .ok (.bipush (-15), 2) := by decide +kernel
theorem dX7_readPlace_19 : decode cX7_readPlace 19 = .ok (.invokevirtual 155, 3) := by decide +kernel
theorem dX7_readPlace_22 : decode cX7_readPlace 22 = .ok (.aload_n 0, 1) := by decide +kernel
theorem dX7_readPlace_23 : decode cX7_readPlace 23 = .ok (.invokevirtual 159, 3) := by decide +kernel
theorem dX7_readPlace_26 : decode cX7_readPlace 26 = .ok (.aload_n 0, 1) := by decide +kernel
theorem dX7_readPlace_27 : decode cX7_readPlace 27 = .ok (.iconst 1, 1) := by decide +kernel
theorem dX7_readPlace_28 : decode cX7_readPlace 28 = .ok (.sipush 2000, 3) := by decide +kernel
theorem dX7_readPlace_31 : decode cX7_readPlace 31 = .ok (.invokevirtual 172, 3) := by decide +kernel
theorem dX7_readPlace_34 : decode cX7_readPlace 34 = .ok (.istore_n 1, 1) := by decide +kernel
theorem dX7_readPlace_35 : decode cX7_readPlace 35 = .ok (.aload_n 0, 1) := by decide +kernel
theorem dX7_readPlace_36 : decode cX7_readPlace 36 = .ok (.bipush 100, 2) := by decide +kernel
theorem dX7_readPlace_38 : decode cX7_readPlace 38 = .ok (.sipush 1500, 3) := by decide +kernel
theorem dX7_readPlace_41 : decode cX7_readPlace 41 = .ok (.invokevirtual 172, 3) := by decide +kernel
theorem dX7_readPlace_44 : decode cX7_readPlace 44 = .ok (.istore_n 2, 1) := by decide +kernel
theorem dX7_readPlace_45 : decode cX7_readPlace 45 = .ok (.aload_n 0, 1) := by decide +kernel
theorem dX7_readPlace_46 : decode cX7_readPlace 46 = .ok (.getfield 146, 3) := by decide +kernel
theorem dX7_readPlace_49 : decode cX7_readPlace 49 = .ok (.ifCond .eq 4, 3) := by decide +kernel
theorem dX7_readPlace_52 : decode cX7_readPlace 52 = .ok (.return_, 1) := by decide +kernel
theorem dX7_readPlace_53 : decode cX7_readPlace 53 = .ok (.aload_n 0, 1) := by decide +kernel
theorem dX7_readPlace_54 : decode cX7_readPlace 54 = .ok (.getfield 22, 3) := by decide +kernel
theorem dX7_readPlace_57 : decode cX7_readPlace 57 = .ok (.bipush 66, 2) := by decide +kernel
theorem dX7_readPlace_59 : decode cX7_readPlace 59 = .ok (.aload_n 0, 1) := by decide +kernel
theorem dX7_readPlace_60 : decode cX7_readPlace 60 = .ok (.getfield 16, 3) := by decide +kernel
theorem dX7_readPlace_63 : decode cX7_readPlace 63 = .ok (.bipush 19, 2) := by decide +kernel
theorem dX7_readPlace_65 : decode cX7_readPlace 65 = .ok (.iaload, 1) := by decide +kernel
theorem dX7_readPlace_66 : decode cX7_readPlace 66 = .ok (.iadd, 1) := by decide +kernel
theorem dX7_readPlace_67 : decode cX7_readPlace 67 = .ok (.iload_n 1, 1) := by decide +kernel
theorem dX7_readPlace_68 : decode cX7_readPlace 68 = .ok (.iastore, 1) := by decide +kernel
theorem dX7_readPlace_69 : decode cX7_readPlace 69 = .ok (.aload_n 0, 1) := by decide +kernel
theorem dX7_readPlace_70 : decode cX7_readPlace 70 = .ok (.getfield 22, 3) := by decide +kernel
theorem dX7_readPlace_73 : decode cX7_readPlace 73 = .ok (.bipush 69, 2) := by decide +kernel
theorem dX7_readPlace_75 : decode cX7_readPlace 75 = .ok (.aload_n 0, 1) := by decide +kernel
theorem dX7_readPlace_76 : decode cX7_readPlace 76 = .ok (.getfield 16, 3) := by decide +kernel
theorem dX7_readPlace_79 : decode cX7_readPlace 79 = .ok (.bipush 19, 2) := by decide +kernel
theorem dX7_readPlace_81 : decode cX7_readPlace 81 = .ok (.iaload, 1) := by decide +kernel
theorem dX7_readPlace_82 : decode cX7_readPlace 82 = .ok (.iadd, 1) := by decide +kernel
theorem dX7_readPlace_83 : decode cX7_readPlace 83 = .ok (.iload_n 2, 1) := by decide +kernel
theorem dX7_readPlace_84 : decode cX7_readPlace 84 = .ok (.iastore, 1) := by decide +kernel
theorem dX7_readPlace_85 : decode cX7_readPlace 85 = .ok (.aload_n 0, 1) := by decide +kernel
theorem dX7_readPlace_86 : decode cX7_readPlace 86 = .ok (.getfield 16, 3) := by decide +kernel
theorem dX7_readPlace_89 : decode cX7_readPlace 89 = .ok (.bipush 19, 2) := by decide +kernel
theorem dX7_readPlace_91 : decode cX7_readPlace 91 = .ok (.dup2, 1) := by decide +kernel
theorem dX7_readPlace_92 : decode cX7_readPlace 92 = .ok (.iaload, 1) := by decide +kernel
theorem dX7_readPlace_93 : decode cX7_readPlace 93 = .ok (.iconst 1, 1) := by decide +kernel
theorem dX7_readPlace_94 : decode cX7_readPlace 94 = .ok (.iadd, 1) := by decide +kernel
theorem dX7_readPlace_95 : decode cX7_readPlace 95 = .ok (.iastore, 1) := by decide +kernel
theorem dX7_readPlace_96 : decode cX7_readPlace 96 = .ok (.return_, 1) := by decide +kernel
theorem dX7_leastOf_0 : decode cX7_leastOf 0 = .ok (.iload_n 0, 1) := by decide +kernel
theorem dX7_leastOf_1 : decode cX7_leastOf 1 = .ok (.ifCond .ne 7, 3) := by decide +kernel
theorem dX7_leastOf_4 : decode cX7_leastOf 4 = .ok (.iconst 1, 1) := by decide +kernel
theorem dX7_leastOf_5 : decode cX7_leastOf 5 = .ok (.goto 4, 3) := by decide +kernel
theorem dX7_leastOf_8 : decode cX7_leastOf 8 = .ok (.iconst 0, 1) := by decide +kernel
theorem dX7_leastOf_9 : decode cX7_leastOf 9 = .ok (.ireturn, 1) := by decide +kernel
theorem dX7_mostOf_0 : decode cX7_mostOf 0 = .ok (.iload_n 0, 1) := by decide +kernel
theorem dX7_mostOf_1 : decode cX7_mostOf 1 = .ok (.ifCond .ne 7, 3) := by decide +kernel
theorem dX7_mostOf_4 : decode cX7_mostOf 4 = .ok (.iconst 3, 1) := by decide +kernel
theorem dX7_mostOf_5 : decode cX7_mostOf 5 = .ok (.goto 15, 3) := by decide +kernel
theorem dX7_mostOf_8 : decode cX7_mostOf 8 = .ok (.iload_n 0, 1) := by decide +kernel
theorem dX7_mostOf_9 : decode cX7_mostOf 9 = .ok (.iconst 1, 1) := by decide +kernel
theorem dX7_mostOf_10 : decode cX7_mostOf 10 = .ok (.if_icmp .ne 9, 3) := by decide +kernel
theorem dX7_mostOf_13 : decode cX7_mostOf 13 = .ok (.sipush 500, 3) := by decide +kernel
theorem dX7_mostOf_16 : decode cX7_mostOf 16 = .ok (.goto 4, 3) := by decide +kernel
theorem dX7_mostOf_19 : decode cX7_mostOf 19 = .ok (.iconst 2, 1) := by decide +kernel
theorem dX7_mostOf_20 : decode cX7_mostOf 20 = .ok (.ireturn, 1) := by decide +kernel
theorem dX7_readSet_0 : decode cX7_readSet 0 = .ok (.aload_n 0, 1) := by decide +kernel
theorem dX7_readSet_1 : decode cX7_readSet 1 = .ok (.invokevirtual 159, 3) := by decide +kernel
theorem dX7_readSet_4 : decode cX7_readSet 4 = .ok (.aload_n 0, 1) := by decide +kernel
theorem dX7_readSet_5 : decode cX7_readSet 5 = .ok (.getfield 146, 3) := by decide +kernel
theorem dX7_readSet_8 : decode cX7_readSet 8 = .ok (.ifCond .ne 22, 3) := by decide +kernel
theorem dX7_readSet_11 : decode cX7_readSet 11 = .ok (.aload_n 0, 1) := by decide +kernel
theorem dX7_readSet_12 : decode cX7_readSet 12 = .ok (.getfield 118, 3) := by decide +kernel
theorem dX7_readSet_15 : decode cX7_readSet 15 = .ok (.ifCond .ne 15, 3) := by decide +kernel
theorem dX7_readSet_18 : decode cX7_readSet 18 = .ok (.aload_n 0, 1) := by decide +kernel
theorem dX7_readSet_19 : decode cX7_readSet 19 = .ok (.getfield 128, 3) := by decide +kernel
theorem dX7_readSet_22 : decode cX7_readSet 22 = .ok (.iconst 4, 1) := by decide +kernel
theorem dX7_readSet_23 : decode cX7_readSet 23 = .ok (.if_icmp .lt 7, 3) := by decide +kernel
theorem dX7_readSet_26 : decode cX7_readSet 26 = .ok (.iconst 1, 1) := by decide +kernel
theorem dX7_readSet_27 : decode cX7_readSet 27 = .ok (.goto 4, 3) := by decide +kernel
theorem dX7_readSet_30 : decode cX7_readSet 30 = .ok (.iconst 0, 1) := by decide +kernel
theorem dX7_readSet_31 : decode cX7_readSet 31 = .ok (.istore_n 1, 1) := by decide +kernel
theorem dX7_readSet_32 : decode cX7_readSet 32 = .ok (.aload_n 0, 1) := by decide +kernel
theorem dX7_readSet_33 : decode cX7_readSet 33 = .ok (.iload_n 1, 1) := by decide +kernel
theorem dX7_readSet_34 : decode cX7_readSet 34 = .ok (.ifCond .ne 7, 3) := by decide +kernel
theorem dX7_readSet_37 : decode cX7_readSet 37 = .ok (.iconst 1, 1) := by decide +kernel
theorem dX7_readSet_38 : decode cX7_readSet 38 = .ok (.goto 4, 3) := by decide +kernel
theorem dX7_readSet_41 : decode cX7_readSet 41 = .ok (.iconst 0, 1) := by decide +kernel
theorem dX7_readSet_42 : decode cX7_readSet 42 = .ok (.bipush (-11), 2) := by decide +kernel
theorem dX7_readSet_44 : decode cX7_readSet 44 = .ok (.invokevirtual 155, 3) := by decide +kernel
theorem dX7_readSet_47 : decode cX7_readSet 47 = .ok (.iload_n 1, 1) := by decide +kernel
theorem dX7_readSet_48 : decode cX7_readSet 48 = .ok (.ifCond .eq 12, 3) := by decide +kernel
theorem dX7_readSet_51 : decode cX7_readSet 51 = .ok (.aload_n 0, 1) := by decide +kernel
theorem dX7_readSet_52 : decode cX7_readSet 52 = .ok (.getfield 128, 3) := by decide +kernel
theorem dX7_readSet_55 : decode cX7_readSet 55 = .ok (.iconst 4, 1) := by decide +kernel
theorem dX7_readSet_56 : decode cX7_readSet 56 = .ok (.isub, 1) := by decide +kernel
theorem dX7_readSet_57 : decode cX7_readSet 57 = .ok (.goto 4, 3) := by decide +kernel
theorem dX7_readSet_60 : decode cX7_readSet 60 = .ok (.iconst 0, 1) := by decide +kernel
theorem dX7_readSet_61 : decode cX7_readSet 61 = .ok (.istore_n 2, 1) := by decide +kernel
theorem dX7_readSet_62 : decode cX7_readSet 62 = .ok (.aload_n 0, 1) := by decide +kernel
theorem dX7_readSet_63 : decode cX7_readSet 63 = .ok (.aload_n 0, 1) := by decide +kernel
theorem dX7_readSet_64 : decode cX7_readSet 64 = .ok (.getfield 89, 3) := by decide +kernel
theorem dX7_readSet_67 : decode cX7_readSet 67 = .ok (.iload_n 2, 1) := by decide +kernel
theorem dX7_readSet_68 : decode cX7_readSet 68 = .ok (.ishr, 1) := by decide +kernel
theorem dX7_readSet_69 : decode cX7_readSet 69 = .ok (.iconst 1, 1) := by decide +kernel
theorem dX7_readSet_70 : decode cX7_readSet 70 = .ok (.iand, 1) := by decide +kernel
theorem dX7_readSet_71 : decode cX7_readSet 71 = .ok (.iconst 1, 1) := by decide +kernel
theorem dX7_readSet_72 : decode cX7_readSet 72 = .ok (.if_icmp .ne 7, 3) := by decide +kernel
theorem dX7_readSet_75 : decode cX7_readSet 75 = .ok (.iconst 1, 1) := by decide +kernel
theorem dX7_readSet_76 : decode cX7_readSet 76 = .ok (.goto 4, 3) := by decide +kernel
theorem dX7_readSet_79 : decode cX7_readSet 79 = .ok (.iconst 0, 1) := by decide +kernel
theorem dX7_readSet_80 : decode cX7_readSet 80 = .ok (.bipush (-14), 2) := by decide +kernel
theorem dX7_readSet_82 : decode cX7_readSet 82 = .ok (.invokevirtual 155, 3) := by decide +kernel
theorem dX7_readSet_85 : decode cX7_readSet 85 = .ok (.aload_n 0, 1) := by decide +kernel
theorem dX7_readSet_86 : decode cX7_readSet 86 = .ok (.dup, 1) := by decide +kernel
theorem dX7_readSet_87 : decode cX7_readSet 87 = .ok (.getfield 89, 3) := by decide +kernel
theorem dX7_readSet_90 : decode cX7_readSet 90 = .ok (.iconst 1, 1) := by decide +kernel
theorem dX7_readSet_91 : decode cX7_readSet 91 = .ok (.iload_n 2, 1) := by decide +kernel
theorem dX7_readSet_92 : decode cX7_readSet 92 = .ok (.ishl, 1) := by decide +kernel
theorem dX7_readSet_93 : decode cX7_readSet 93 = .ok (.ior, 1) := by decide +kernel
theorem dX7_readSet_94 : decode cX7_readSet 94 = .ok (.putfield 89, 3) := by decide +kernel
theorem dX7_readSet_97 : decode cX7_readSet 97 = .ok (.aload_n 0, 1) := by decide +kernel
theorem dX7_readSet_98 : decode cX7_readSet 98 = .ok (.invokevirtual 159, 3) := by decide +kernel
theorem dX7_readSet_101 : decode cX7_readSet 101 = .ok (.aload_n 0, 1) := by decide +kernel
theorem dX7_readSet_102 : decode cX7_readSet 102 = .ok (.getfield 22, 3) := by decide +kernel
theorem dX7_readSet_105 : decode cX7_readSet 105 = .ok (.bipush 78, 2) := by decide +kernel
theorem dX7_readSet_107 : decode cX7_readSet 107 = .ok (.iload_n 2, 1) := by decide +kernel
theorem dX7_readSet_108 : decode cX7_readSet 108 = .ok (.iadd, 1) := by decide +kernel
theorem dX7_readSet_109 : decode cX7_readSet 109 = .ok (.aload_n 0, 1) := by decide +kernel
theorem dX7_readSet_110 : decode cX7_readSet 110 = .ok (.iload_n 2, 1) := by decide +kernel
theorem dX7_readSet_111 : decode cX7_readSet 111 = .ok (.invokestatic 180, 3) := by decide +kernel
theorem dX7_readSet_114 : decode cX7_readSet 114 = .ok (.iload_n 2, 1) := by decide +kernel
theorem dX7_readSet_115 : decode cX7_readSet 115 = .ok (.invokestatic 184, 3) := by decide +kernel
theorem dX7_readSet_118 : decode cX7_readSet 118 = .ok (.invokevirtual 172, 3) := by decide +kernel
theorem dX7_readSet_121 : decode cX7_readSet 121 = .ok (.iastore, 1) := by decide +kernel
theorem dX7_readSet_122 : decode cX7_readSet 122 = .ok (.return_, 1) := by decide +kernel
theorem dX7_readStatement_0 : decode cX7_readStatement 0 = .ok (.aload_n 0, 1) := by decide +kernel
theorem dX7_readStatement_1 : decode cX7_readStatement 1 = .ok (.getfield 118, 3) := by decide +kernel
theorem dX7_readStatement_4 : decode cX7_readStatement 4 = .ok (.ifCond .ne 10, 3) := by decide +kernel
theorem dX7_readStatement_7 : decode cX7_readStatement 7 = .ok (.aload_n 0, 1) := by decide +kernel
theorem dX7_readStatement_8 : decode cX7_readStatement 8 = .ok (.getfield 128, 3) := by decide +kernel
theorem dX7_readStatement_11 : decode cX7_readStatement 11 = .ok (.goto 4, 3) := by decide +kernel
theorem dX7_readStatement_14 : decode cX7_readStatement 14 = .ok (.iconst (-1), 1) := by decide +kernel
theorem dX7_readStatement_15 : decode cX7_readStatement 15 = .ok (.istore_n 1, 1) := by decide +kernel
theorem dX7_readStatement_16 : decode cX7_readStatement 16 = .ok (.iload_n 1, 1) := by decide +kernel
theorem dX7_readStatement_17 : decode cX7_readStatement 17 = .ok (.tableswitch 59 0 3 #[31, 38, 45, 52], 31) := by decide +kernel
theorem dX7_readStatement_48 : decode cX7_readStatement 48 = .ok (.aload_n 0, 1) := by decide +kernel
theorem dX7_readStatement_49 : decode cX7_readStatement 49 = .ok (.invokevirtual 187, 3) := by decide +kernel
theorem dX7_readStatement_52 : decode cX7_readStatement 52 = .ok (.goto 31, 3) := by decide +kernel
theorem dX7_readStatement_55 : decode cX7_readStatement 55 = .ok (.aload_n 0, 1) := by decide +kernel
theorem dX7_readStatement_56 : decode cX7_readStatement 56 = .ok (.invokevirtual 190, 3) := by decide +kernel
theorem dX7_readStatement_59 : decode cX7_readStatement 59 = .ok (.goto 24, 3) := by decide +kernel
theorem dX7_readStatement_62 : decode cX7_readStatement 62 = .ok (.aload_n 0, 1) := by decide +kernel
theorem dX7_readStatement_63 : decode cX7_readStatement 63 = .ok (.invokevirtual 193, 3) := by decide +kernel
theorem dX7_readStatement_66 : decode cX7_readStatement 66 = .ok (.goto 17, 3) := by decide +kernel
theorem dX7_readStatement_69 : decode cX7_readStatement 69 = .ok (.aload_n 0, 1) := by decide +kernel
theorem dX7_readStatement_70 : decode cX7_readStatement 70 = .ok (.invokevirtual 196, 3) := by decide +kernel
theorem dX7_readStatement_73 : decode cX7_readStatement 73 = .ok (.goto 10, 3) := by decide +kernel
theorem dX7_readStatement_76 : decode cX7_readStatement 76 = .ok (.aload_n 0, 1) := by decide +kernel
theorem dX7_readStatement_77 : decode cX7_readStatement 77 = .ok (.iconst 1, 1) := by decide +kernel
theorem dX7_readStatement_78 : decode cX7_readStatement 78 = .ok (.bipush (-11), 2) := by decide +kernel
theorem dX7_readStatement_80 : decode cX7_readStatement 80 = .ok (.invokevirtual 155, 3) := by decide +kernel
theorem dX7_readStatement_83 : decode cX7_readStatement 83 = .ok (.aload_n 0, 1) := by decide +kernel
theorem dX7_readStatement_84 : decode cX7_readStatement 84 = .ok (.aload_n 0, 1) := by decide +kernel
theorem dX7_readStatement_85 : decode cX7_readStatement 85 = .ok (.getfield 118, 3) := by decide +kernel
theorem dX7_readStatement_88 : decode cX7_readStatement 88 = .ok (.iconst 2, 1) := by decide +kernel
theorem dX7_readStatement_89 : decode cX7_readStatement 89 = .ok (.if_icmp .eq 7, 3) := by decide +kernel
theorem dX7_readStatement_92 : decode cX7_readStatement 92 = .ok (.iconst 1, 1) := by decide +kernel
theorem dX7_readStatement_93 : decode cX7_readStatement 93 = .ok (.goto 4, 3) := by decide +kernel
theorem dX7_readStatement_96 : decode cX7_readStatement 96 = .ok (.iconst 0, 1) := by decide +kernel
theorem dX7_readStatement_97 : decode cX7_readStatement 97 = .ok (.bipush (-11), 2) := by decide +kernel
theorem dX7_readStatement_99 : decode cX7_readStatement 99 = .ok (.invokevirtual 155, 3) := by decide +kernel
theorem dX7_readStatement_102 : decode cX7_readStatement 102 = .ok (.aload_n 0, 1) := by decide +kernel
theorem dX7_readStatement_103 : decode cX7_readStatement 103 = .ok (.invokevirtual 159, 3) := by decide +kernel
theorem dX7_readStatement_106 : decode cX7_readStatement 106 = .ok (.aload_n 0, 1) := by decide +kernel
theorem dX7_readStatement_107 : decode cX7_readStatement 107 = .ok (.dup, 1) := by decide +kernel
theorem dX7_readStatement_108 : decode cX7_readStatement 108 = .ok (.getfield 92, 3) := by decide +kernel
theorem dX7_readStatement_111 : decode cX7_readStatement 111 = .ok (.iconst 1, 1) := by decide +kernel
theorem dX7_readStatement_112 : decode cX7_readStatement 112 = .ok (.iadd, 1) := by decide +kernel
theorem dX7_readStatement_113 : decode cX7_readStatement 113 = .ok (.putfield 92, 3) := by decide +kernel
theorem dX7_readStatement_116 : decode cX7_readStatement 116 = .ok (.return_, 1) := by decide +kernel
theorem dX7_load_0 : decode cX7_load 0 = .ok (.aload_n 0, 1) := by decide +kernel
theorem dX7_load_1 : decode cX7_load 1 = .ok (.iconst 0, 1) := by decide +kernel
theorem dX7_load_2 : decode cX7_load 2 = .ok (.putfield 83, 3) := by decide +kernel
theorem dX7_load_5 : decode cX7_load 5 = .ok (.iload_n 1, 1) := by decide +kernel
theorem dX7_load_6 : decode cX7_load 6 = .ok (.ifCond .lt 11, 3) := by decide +kernel
theorem dX7_load_9 : decode cX7_load 9 = .ok (.iload_n 1, 1) := by decide +kernel
theorem dX7_load_10 : decode cX7_load 10 = .ok (.aload_n 0, 1) := by decide +kernel
theorem dX7_load_11 : decode cX7_load 11 = .ok (.getfield 86, 3) := by decide +kernel
theorem dX7_load_14 : decode cX7_load 14 = .ok (.if_icmp .le 6, 3) := by decide +kernel
theorem dX7_load_17 : decode cX7_load 17 = .ok (.bipush (-2), 2) := by decide +kernel
theorem dX7_load_19 : decode cX7_load 19 = .ok (.ireturn, 1) := by decide +kernel
theorem dX7_load_20 : decode cX7_load 20 = .ok (.aload_n 0, 1) := by decide +kernel
theorem dX7_load_21 : decode cX7_load 21 = .ok (.invokevirtual 77, 3) := by decide +kernel
theorem dX7_load_24 : decode cX7_load 24 = .ok (.aload_n 0, 1) := by decide +kernel
theorem dX7_load_25 : decode cX7_load 25 = .ok (.iload_n 1, 1) := by decide +kernel
theorem dX7_load_26 : decode cX7_load 26 = .ok (.putfield 108, 3) := by decide +kernel
theorem dX7_load_29 : decode cX7_load 29 = .ok (.aload_n 0, 1) := by decide +kernel
theorem dX7_load_30 : decode cX7_load 30 = .ok (.iconst 0, 1) := by decide +kernel
theorem dX7_load_31 : decode cX7_load 31 = .ok (.putfield 105, 3) := by decide +kernel
theorem dX7_load_34 : decode cX7_load 34 = .ok (.aload_n 0, 1) := by decide +kernel
theorem dX7_load_35 : decode cX7_load 35 = .ok (.iconst 0, 1) := by decide +kernel
theorem dX7_load_36 : decode cX7_load 36 = .ok (.putfield 146, 3) := by decide +kernel
theorem dX7_load_39 : decode cX7_load 39 = .ok (.aload_n 0, 1) := by decide +kernel
theorem dX7_load_40 : decode cX7_load 40 = .ok (.invokevirtual 152, 3) := by decide +kernel
theorem dX7_load_43 : decode cX7_load 43 = .ok (.aload_n 0, 1) := by decide +kernel
theorem dX7_load_44 : decode cX7_load 44 = .ok (.getfield 146, 3) := by decide +kernel
theorem dX7_load_47 : decode cX7_load 47 = .ok (.ifCond .ne 18, 3) := by decide +kernel
theorem dX7_load_50 : decode cX7_load 50 = .ok (.aload_n 0, 1) := by decide +kernel
theorem dX7_load_51 : decode cX7_load 51 = .ok (.getfield 118, 3) := by decide +kernel
theorem dX7_load_54 : decode cX7_load 54 = .ok (.iconst 3, 1) := by decide +kernel
theorem dX7_load_55 : decode cX7_load 55 = .ok (.if_icmp .eq 10, 3) := by decide +kernel
theorem dX7_load_58 : decode cX7_load 58 = .ok (.aload_n 0, 1) := by decide +kernel
theorem dX7_load_59 : decode cX7_load 59 = .ok (.invokevirtual 199, 3) := by decide +kernel
theorem dX7_load_62 : decode cX7_load 62 = .ok (.goto (-19), 3) := by decide +kernel
theorem dX7_load_65 : decode cX7_load 65 = .ok (.aload_n 0, 1) := by decide +kernel
theorem dX7_load_66 : decode cX7_load 66 = .ok (.iconst 0, 1) := by decide +kernel
theorem dX7_load_67 : decode cX7_load 67 = .ok (.putfield 86, 3) := by decide +kernel
theorem dX7_load_70 : decode cX7_load 70 = .ok (.aload_n 0, 1) := by decide +kernel
theorem dX7_load_71 : decode cX7_load 71 = .ok (.aload_n 0, 1) := by decide +kernel
theorem dX7_load_72 : decode cX7_load 72 = .ok (.getfield 146, 3) := by decide +kernel
theorem dX7_load_75 : decode cX7_load 75 = .ok (.ifCond .ne 7, 3) := by decide +kernel
theorem dX7_load_78 : decode cX7_load 78 = .ok (.iconst (-1), 1) := by decide +kernel
theorem dX7_load_79 : decode cX7_load 79 = .ok (.goto 7, 3) := by decide +kernel
theorem dX7_load_82 : decode cX7_load 82 = .ok (.aload_n 0, 1) := by decide +kernel
theorem dX7_load_83 : decode cX7_load 83 = .ok (.getfield 149, 3) := by decide +kernel
theorem dX7_load_86 : decode cX7_load 86 = .ok (.putfield 28, 3) := by decide +kernel
theorem dX7_load_89 : decode cX7_load 89 = .ok (.aload_n 0, 1) := by decide +kernel
theorem dX7_load_90 : decode cX7_load 90 = .ok (.getfield 146, 3) := by decide +kernel
theorem dX7_load_93 : decode cX7_load 93 = .ok (.ifCond .eq 8, 3) := by decide +kernel
theorem dX7_load_96 : decode cX7_load 96 = .ok (.aload_n 0, 1) := by decide +kernel
theorem dX7_load_97 : decode cX7_load 97 = .ok (.getfield 146, 3) := by decide +kernel
theorem dX7_load_100 : decode cX7_load 100 = .ok (.ireturn, 1) := by decide +kernel
theorem dX7_load_101 : decode cX7_load 101 = .ok (.aload_n 0, 1) := by decide +kernel
theorem dX7_load_102 : decode cX7_load 102 = .ok (.invokevirtual 80, 3) := by decide +kernel
theorem dX7_load_105 : decode cX7_load 105 = .ok (.aload_n 0, 1) := by decide +kernel
theorem dX7_load_106 : decode cX7_load 106 = .ok (.getfield 92, 3) := by decide +kernel
theorem dX7_load_109 : decode cX7_load 109 = .ok (.ireturn, 1) := by decide +kernel
theorem dX7_errorPosition_0 : decode cX7_errorPosition 0 = .ok (.aload_n 0, 1) := by decide +kernel
theorem dX7_errorPosition_1 : decode cX7_errorPosition 1 = .ok (.iconst 0, 1) := by decide +kernel
theorem dX7_errorPosition_2 : decode cX7_errorPosition 2 = .ok (.putfield 83, 3) := by decide +kernel
theorem dX7_errorPosition_5 : decode cX7_errorPosition 5 = .ok (.aload_n 0, 1) := by decide +kernel
theorem dX7_errorPosition_6 : decode cX7_errorPosition 6 = .ok (.getfield 28, 3) := by decide +kernel
theorem dX7_errorPosition_9 : decode cX7_errorPosition 9 = .ok (.ireturn, 1) := by decide +kernel
theorem dX7_isIron_0 : decode cX7_isIron 0 = .ok (.iload_n 1, 1) := by decide +kernel
theorem dX7_isIron_1 : decode cX7_isIron 1 = .ok (.ifCond .lt 18, 3) := by decide +kernel
theorem dX7_isIron_4 : decode cX7_isIron 4 = .ok (.iload_n 1, 1) := by decide +kernel
theorem dX7_isIron_5 : decode cX7_isIron 5 = .ok (.aload_n 0, 1) := by decide +kernel
theorem dX7_isIron_6 : decode cX7_isIron 6 = .ok (.getfield 13, 3) := by decide +kernel
theorem dX7_isIron_9 : decode cX7_isIron 9 = .ok (.bipush 18, 2) := by decide +kernel
theorem dX7_isIron_11 : decode cX7_isIron 11 = .ok (.iaload, 1) := by decide +kernel
theorem dX7_isIron_12 : decode cX7_isIron 12 = .ok (.if_icmp .ge 7, 3) := by decide +kernel
theorem dX7_isIron_15 : decode cX7_isIron 15 = .ok (.iconst 1, 1) := by decide +kernel
theorem dX7_isIron_16 : decode cX7_isIron 16 = .ok (.goto 4, 3) := by decide +kernel
theorem dX7_isIron_19 : decode cX7_isIron 19 = .ok (.iconst 0, 1) := by decide +kernel
theorem dX7_isIron_20 : decode cX7_isIron 20 = .ok (.ireturn, 1) := by decide +kernel
theorem dX7_isPlace_0 : decode cX7_isPlace 0 = .ok (.iload_n 1, 1) := by decide +kernel
theorem dX7_isPlace_1 : decode cX7_isPlace 1 = .ok (.ifCond .lt 18, 3) := by decide +kernel
theorem dX7_isPlace_4 : decode cX7_isPlace 4 = .ok (.iload_n 1, 1) := by decide +kernel
theorem dX7_isPlace_5 : decode cX7_isPlace 5 = .ok (.aload_n 0, 1) := by decide +kernel
theorem dX7_isPlace_6 : decode cX7_isPlace 6 = .ok (.getfield 13, 3) := by decide +kernel
theorem dX7_isPlace_9 : decode cX7_isPlace 9 = .ok (.bipush 19, 2) := by decide +kernel
theorem dX7_isPlace_11 : decode cX7_isPlace 11 = .ok (.iaload, 1) := by decide +kernel
theorem dX7_isPlace_12 : decode cX7_isPlace 12 = .ok (.if_icmp .ge 7, 3) := by decide +kernel
theorem dX7_isPlace_15 : decode cX7_isPlace 15 = .ok (.iconst 1, 1) := by decide +kernel
theorem dX7_isPlace_16 : decode cX7_isPlace 16 = .ok (.goto 4, 3) := by decide +kernel
theorem dX7_isPlace_19 : decode cX7_isPlace 19 = .ok (.iconst 0, 1) := by decide +kernel
theorem dX7_isPlace_20 : decode cX7_isPlace 20 = .ok (.ireturn, 1) := by decide +kernel
theorem dX7_isStep_0 : decode cX7_isStep 0 = .ok (.aload_n 0, 1) := by decide +kernel
theorem dX7_isStep_1 : decode cX7_isStep 1 = .ok (.iload_n 1, 1) := by decide +kernel
theorem dX7_isStep_2 : decode cX7_isStep 2 = .ok (.invokevirtual 202, 3) := by decide +kernel
theorem dX7_isStep_5 : decode cX7_isStep 5 = .ok (.ifCond .eq 23, 3) := by decide +kernel
theorem dX7_isStep_8 : decode cX7_isStep 8 = .ok (.iload_n 2, 1) := by decide +kernel
theorem dX7_isStep_9 : decode cX7_isStep 9 = .ok (.ifCond .lt 19, 3) := by decide +kernel
theorem dX7_isStep_12 : decode cX7_isStep 12 = .ok (.iload_n 2, 1) := by decide +kernel
theorem dX7_isStep_13 : decode cX7_isStep 13 = .ok (.aload_n 0, 1) := by decide +kernel
theorem dX7_isStep_14 : decode cX7_isStep 14 = .ok (.getfield 19, 3) := by decide +kernel
theorem dX7_isStep_17 : decode cX7_isStep 17 = .ok (.iconst 0, 1) := by decide +kernel
theorem dX7_isStep_18 : decode cX7_isStep 18 = .ok (.iload_n 1, 1) := by decide +kernel
theorem dX7_isStep_19 : decode cX7_isStep 19 = .ok (.iadd, 1) := by decide +kernel
theorem dX7_isStep_20 : decode cX7_isStep 20 = .ok (.iaload, 1) := by decide +kernel
theorem dX7_isStep_21 : decode cX7_isStep 21 = .ok (.if_icmp .ge 7, 3) := by decide +kernel
theorem dX7_isStep_24 : decode cX7_isStep 24 = .ok (.iconst 1, 1) := by decide +kernel
theorem dX7_isStep_25 : decode cX7_isStep 25 = .ok (.goto 4, 3) := by decide +kernel
theorem dX7_isStep_28 : decode cX7_isStep 28 = .ok (.iconst 0, 1) := by decide +kernel
theorem dX7_isStep_29 : decode cX7_isStep 29 = .ok (.ireturn, 1) := by decide +kernel
theorem dX7_checks_0 : decode cX7_checks 0 = .ok (.aload_n 0, 1) := by decide +kernel
theorem dX7_checks_1 : decode cX7_checks 1 = .ok (.iload_n 1, 1) := by decide +kernel
theorem dX7_checks_2 : decode cX7_checks 2 = .ok (.ifCond .eq 7, 3) := by decide +kernel
theorem dX7_checks_5 : decode cX7_checks 5 = .ok (.iconst 0, 1) := by decide +kernel
theorem dX7_checks_6 : decode cX7_checks 6 = .ok (.goto 4, 3) := by decide +kernel
theorem dX7_checks_9 : decode cX7_checks 9 = .ok (.iconst 1, 1) := by decide +kernel
theorem dX7_checks_10 : decode cX7_checks 10 = .ok (.putfield 83, 3) := by decide +kernel
theorem dX7_checks_13 : decode cX7_checks 13 = .ok (.iload_n 1, 1) := by decide +kernel
theorem dX7_checks_14 : decode cX7_checks 14 = .ok (.ireturn, 1) := by decide +kernel
theorem dX7_ironCount_0 : decode cX7_ironCount 0 = .ok (.aload_n 0, 1) := by decide +kernel
theorem dX7_ironCount_1 : decode cX7_ironCount 1 = .ok (.iconst 0, 1) := by decide +kernel
theorem dX7_ironCount_2 : decode cX7_ironCount 2 = .ok (.putfield 83, 3) := by decide +kernel
theorem dX7_ironCount_5 : decode cX7_ironCount 5 = .ok (.aload_n 0, 1) := by decide +kernel
theorem dX7_ironCount_6 : decode cX7_ironCount 6 = .ok (.getfield 13, 3) := by decide +kernel
theorem dX7_ironCount_9 : decode cX7_ironCount 9 = .ok (.bipush 18, 2) := by decide +kernel
theorem dX7_ironCount_11 : decode cX7_ironCount 11 = .ok (.iaload, 1) := by decide +kernel
theorem dX7_ironCount_12 : decode cX7_ironCount 12 = .ok (.ireturn, 1) := by decide +kernel
theorem dX7_placeCount_0 : decode cX7_placeCount 0 = .ok (.aload_n 0, 1) := by decide +kernel
theorem dX7_placeCount_1 : decode cX7_placeCount 1 = .ok (.iconst 0, 1) := by decide +kernel
theorem dX7_placeCount_2 : decode cX7_placeCount 2 = .ok (.putfield 83, 3) := by decide +kernel
theorem dX7_placeCount_5 : decode cX7_placeCount 5 = .ok (.aload_n 0, 1) := by decide +kernel
theorem dX7_placeCount_6 : decode cX7_placeCount 6 = .ok (.getfield 13, 3) := by decide +kernel
theorem dX7_placeCount_9 : decode cX7_placeCount 9 = .ok (.bipush 19, 2) := by decide +kernel
theorem dX7_placeCount_11 : decode cX7_placeCount 11 = .ok (.iaload, 1) := by decide +kernel
theorem dX7_placeCount_12 : decode cX7_placeCount 12 = .ok (.ireturn, 1) := by decide +kernel
theorem dX7_undoCount_0 : decode cX7_undoCount 0 = .ok (.aload_n 0, 1) := by decide +kernel
theorem dX7_undoCount_1 : decode cX7_undoCount 1 = .ok (.iconst 0, 1) := by decide +kernel
theorem dX7_undoCount_2 : decode cX7_undoCount 2 = .ok (.putfield 83, 3) := by decide +kernel
theorem dX7_undoCount_5 : decode cX7_undoCount 5 = .ok (.aload_n 0, 1) := by decide +kernel
theorem dX7_undoCount_6 : decode cX7_undoCount 6 = .ok (.getfield 95, 3) := by decide +kernel
theorem dX7_undoCount_9 : decode cX7_undoCount 9 = .ok (.ireturn, 1) := by decide +kernel
theorem dX7_ironNamed_0 : decode cX7_ironNamed 0 = .ok (.aload_n 0, 1) := by decide +kernel
theorem dX7_ironNamed_1 : decode cX7_ironNamed 1 = .ok (.iconst 0, 1) := by decide +kernel
theorem dX7_ironNamed_2 : decode cX7_ironNamed 2 = .ok (.putfield 83, 3) := by decide +kernel
theorem dX7_ironNamed_5 : decode cX7_ironNamed 5 = .ok (.aload_n 0, 1) := by decide +kernel
theorem dX7_ironNamed_6 : decode cX7_ironNamed 6 = .ok (.getfield 13, 3) := by decide +kernel
theorem dX7_ironNamed_9 : decode cX7_ironNamed 9 = .ok (.iload_n 1, 1) := by decide +kernel
theorem dX7_ironNamed_10 : decode cX7_ironNamed 10 = .ok (.invokestatic 168, 3) := by decide +kernel
theorem dX7_ironNamed_13 : decode cX7_ironNamed 13 = .ok (.ireturn, 1) := by decide +kernel
theorem dX7_mass_0 : decode cX7_mass 0 = .ok (.aload_n 0, 1) := by decide +kernel
theorem dX7_mass_1 : decode cX7_mass 1 = .ok (.aload_n 0, 1) := by decide +kernel
theorem dX7_mass_2 : decode cX7_mass 2 = .ok (.iload_n 1, 1) := by decide +kernel
theorem dX7_mass_3 : decode cX7_mass 3 = .ok (.invokevirtual 202, 3) := by decide +kernel
theorem dX7_mass_6 : decode cX7_mass 6 = .ok (.invokevirtual 205, 3) := by decide +kernel
theorem dX7_mass_9 : decode cX7_mass 9 = .ok (.ifCond .eq 15, 3) := by decide +kernel
theorem dX7_mass_12 : decode cX7_mass 12 = .ok (.aload_n 0, 1) := by decide +kernel
theorem dX7_mass_13 : decode cX7_mass 13 = .ok (.getfield 13, 3) := by decide +kernel
theorem dX7_mass_16 : decode cX7_mass 16 = .ok (.bipush 6, 2) := by decide +kernel
theorem dX7_mass_18 : decode cX7_mass 18 = .ok (.iload_n 1, 1) := by decide +kernel
theorem dX7_mass_19 : decode cX7_mass 19 = .ok (.iadd, 1) := by decide +kernel
theorem dX7_mass_20 : decode cX7_mass 20 = .ok (.iaload, 1) := by decide +kernel
theorem dX7_mass_21 : decode cX7_mass 21 = .ok (.goto 4, 3) := by decide +kernel
theorem dX7_mass_24 : decode cX7_mass 24 = .ok (.iconst 0, 1) := by decide +kernel
theorem dX7_mass_25 : decode cX7_mass 25 = .ok (.ireturn, 1) := by decide +kernel
theorem dX7_cooling_0 : decode cX7_cooling 0 = .ok (.aload_n 0, 1) := by decide +kernel
theorem dX7_cooling_1 : decode cX7_cooling 1 = .ok (.aload_n 0, 1) := by decide +kernel
theorem dX7_cooling_2 : decode cX7_cooling 2 = .ok (.iload_n 1, 1) := by decide +kernel
theorem dX7_cooling_3 : decode cX7_cooling 3 = .ok (.invokevirtual 202, 3) := by decide +kernel
theorem dX7_cooling_6 : decode cX7_cooling 6 = .ok (.invokevirtual 205, 3) := by decide +kernel
theorem dX7_cooling_9 : decode cX7_cooling 9 = .ok (.ifCond .eq 15, 3) := by decide +kernel
theorem dX7_cooling_12 : decode cX7_cooling 12 = .ok (.aload_n 0, 1) := by decide +kernel
theorem dX7_cooling_13 : decode cX7_cooling 13 = .ok (.getfield 13, 3) := by decide +kernel
theorem dX7_cooling_16 : decode cX7_cooling 16 = .ok (.bipush 12, 2) := by decide +kernel
theorem dX7_cooling_18 : decode cX7_cooling 18 = .ok (.iload_n 1, 1) := by decide +kernel
theorem dX7_cooling_19 : decode cX7_cooling 19 = .ok (.iadd, 1) := by decide +kernel
theorem dX7_cooling_20 : decode cX7_cooling 20 = .ok (.iaload, 1) := by decide +kernel
theorem dX7_cooling_21 : decode cX7_cooling 21 = .ok (.goto 4, 3) := by decide +kernel
theorem dX7_cooling_24 : decode cX7_cooling 24 = .ok (.iconst 0, 1) := by decide +kernel
theorem dX7_cooling_25 : decode cX7_cooling 25 = .ok (.ireturn, 1) := by decide +kernel
theorem dX7_stepCount_0 : decode cX7_stepCount 0 = .ok (.aload_n 0, 1) := by decide +kernel
theorem dX7_stepCount_1 : decode cX7_stepCount 1 = .ok (.aload_n 0, 1) := by decide +kernel
theorem dX7_stepCount_2 : decode cX7_stepCount 2 = .ok (.iload_n 1, 1) := by decide +kernel
theorem dX7_stepCount_3 : decode cX7_stepCount 3 = .ok (.invokevirtual 202, 3) := by decide +kernel
theorem dX7_stepCount_6 : decode cX7_stepCount 6 = .ok (.invokevirtual 205, 3) := by decide +kernel
theorem dX7_stepCount_9 : decode cX7_stepCount 9 = .ok (.ifCond .eq 14, 3) := by decide +kernel
theorem dX7_stepCount_12 : decode cX7_stepCount 12 = .ok (.aload_n 0, 1) := by decide +kernel
theorem dX7_stepCount_13 : decode cX7_stepCount 13 = .ok (.getfield 19, 3) := by decide +kernel
theorem dX7_stepCount_16 : decode cX7_stepCount 16 = .ok (.iconst 0, 1) := by decide +kernel
theorem dX7_stepCount_17 : decode cX7_stepCount 17 = .ok (.iload_n 1, 1) := by decide +kernel
theorem dX7_stepCount_18 : decode cX7_stepCount 18 = .ok (.iadd, 1) := by decide +kernel
theorem dX7_stepCount_19 : decode cX7_stepCount 19 = .ok (.iaload, 1) := by decide +kernel
theorem dX7_stepCount_20 : decode cX7_stepCount 20 = .ok (.goto 4, 3) := by decide +kernel
theorem dX7_stepCount_23 : decode cX7_stepCount 23 = .ok (.iconst 0, 1) := by decide +kernel
theorem dX7_stepCount_24 : decode cX7_stepCount 24 = .ok (.ireturn, 1) := by decide +kernel
theorem dX7_stepHeat_0 : decode cX7_stepHeat 0 = .ok (.aload_n 0, 1) := by decide +kernel
theorem dX7_stepHeat_1 : decode cX7_stepHeat 1 = .ok (.aload_n 0, 1) := by decide +kernel
theorem dX7_stepHeat_2 : decode cX7_stepHeat 2 = .ok (.iload_n 1, 1) := by decide +kernel
theorem dX7_stepHeat_3 : decode cX7_stepHeat 3 = .ok (.iload_n 2, 1) := by decide +kernel
theorem dX7_stepHeat_4 : decode cX7_stepHeat 4 = .ok (.invokevirtual 209, 3) := by decide +kernel
theorem dX7_stepHeat_7 : decode cX7_stepHeat 7 = .ok (.invokevirtual 205, 3) := by decide +kernel
theorem dX7_stepHeat_10 : decode cX7_stepHeat 10 = .ok (.ifCond .eq 19, 3) := by decide +kernel
theorem dX7_stepHeat_13 : decode cX7_stepHeat 13 = .ok (.aload_n 0, 1) := by decide +kernel
theorem dX7_stepHeat_14 : decode cX7_stepHeat 14 = .ok (.getfield 19, 3) := by decide +kernel
theorem dX7_stepHeat_17 : decode cX7_stepHeat 17 = .ok (.bipush 6, 2) := by decide +kernel
theorem dX7_stepHeat_19 : decode cX7_stepHeat 19 = .ok (.iconst 5, 1) := by decide +kernel
theorem dX7_stepHeat_20 : decode cX7_stepHeat 20 = .ok (.iload_n 1, 1) := by decide +kernel
theorem dX7_stepHeat_21 : decode cX7_stepHeat 21 = .ok (.imul, 1) := by decide +kernel
theorem dX7_stepHeat_22 : decode cX7_stepHeat 22 = .ok (.iadd, 1) := by decide +kernel
theorem dX7_stepHeat_23 : decode cX7_stepHeat 23 = .ok (.iload_n 2, 1) := by decide +kernel
theorem dX7_stepHeat_24 : decode cX7_stepHeat 24 = .ok (.iadd, 1) := by decide +kernel
theorem dX7_stepHeat_25 : decode cX7_stepHeat 25 = .ok (.iaload, 1) := by decide +kernel
theorem dX7_stepHeat_26 : decode cX7_stepHeat 26 = .ok (.goto 4, 3) := by decide +kernel
theorem dX7_stepHeat_29 : decode cX7_stepHeat 29 = .ok (.iconst 0, 1) := by decide +kernel
theorem dX7_stepHeat_30 : decode cX7_stepHeat 30 = .ok (.ireturn, 1) := by decide +kernel
theorem dX7_stepMinutes_0 : decode cX7_stepMinutes 0 = .ok (.aload_n 0, 1) := by decide +kernel
theorem dX7_stepMinutes_1 : decode cX7_stepMinutes 1 = .ok (.aload_n 0, 1) := by decide +kernel
theorem dX7_stepMinutes_2 : decode cX7_stepMinutes 2 = .ok (.iload_n 1, 1) := by decide +kernel
theorem dX7_stepMinutes_3 : decode cX7_stepMinutes 3 = .ok (.iload_n 2, 1) := by decide +kernel
theorem dX7_stepMinutes_4 : decode cX7_stepMinutes 4 = .ok (.invokevirtual 209, 3) := by decide +kernel
theorem dX7_stepMinutes_7 : decode cX7_stepMinutes 7 = .ok (.invokevirtual 205, 3) := by decide +kernel
theorem dX7_stepMinutes_10 : decode cX7_stepMinutes 10 = .ok (.ifCond .eq 19, 3) := by decide +kernel
theorem dX7_stepMinutes_13 : decode cX7_stepMinutes 13 = .ok (.aload_n 0, 1) := by decide +kernel
theorem dX7_stepMinutes_14 : decode cX7_stepMinutes 14 = .ok (.getfield 19, 3) := by decide +kernel
theorem dX7_stepMinutes_17 : decode cX7_stepMinutes 17 = .ok (.bipush 36, 2) := by decide +kernel
theorem dX7_stepMinutes_19 : decode cX7_stepMinutes 19 = .ok (.iconst 5, 1) := by decide +kernel
theorem dX7_stepMinutes_20 : decode cX7_stepMinutes 20 = .ok (.iload_n 1, 1) := by decide +kernel
theorem dX7_stepMinutes_21 : decode cX7_stepMinutes 21 = .ok (.imul, 1) := by decide +kernel
theorem dX7_stepMinutes_22 : decode cX7_stepMinutes 22 = .ok (.iadd, 1) := by decide +kernel
theorem dX7_stepMinutes_23 : decode cX7_stepMinutes 23 = .ok (.iload_n 2, 1) := by decide +kernel
theorem dX7_stepMinutes_24 : decode cX7_stepMinutes 24 = .ok (.iadd, 1) := by decide +kernel
theorem dX7_stepMinutes_25 : decode cX7_stepMinutes 25 = .ok (.iaload, 1) := by decide +kernel
theorem dX7_stepMinutes_26 : decode cX7_stepMinutes 26 = .ok (.goto 4, 3) := by decide +kernel
theorem dX7_stepMinutes_29 : decode cX7_stepMinutes 29 = .ok (.iconst 0, 1) := by decide +kernel
theorem dX7_stepMinutes_30 : decode cX7_stepMinutes 30 = .ok (.ireturn, 1) := by decide +kernel
theorem dX7_placeRate_0 : decode cX7_placeRate 0 = .ok (.aload_n 0, 1) := by decide +kernel
theorem dX7_placeRate_1 : decode cX7_placeRate 1 = .ok (.aload_n 0, 1) := by decide +kernel
theorem dX7_placeRate_2 : decode cX7_placeRate 2 = .ok (.iload_n 1, 1) := by decide +kernel
theorem dX7_placeRate_3 : decode cX7_placeRate 3 = .ok (.invokevirtual 213, 3) := by decide +kernel
theorem dX7_placeRate_6 : decode cX7_placeRate 6 = .ok (.invokevirtual 205, 3) := by decide +kernel
theorem dX7_placeRate_9 : decode cX7_placeRate 9 = .ok (.ifCond .eq 15, 3) := by decide +kernel
theorem dX7_placeRate_12 : decode cX7_placeRate 12 = .ok (.aload_n 0, 1) := by decide +kernel
theorem dX7_placeRate_13 : decode cX7_placeRate 13 = .ok (.getfield 19, 3) := by decide +kernel
theorem dX7_placeRate_16 : decode cX7_placeRate 16 = .ok (.bipush 66, 2) := by decide +kernel
theorem dX7_placeRate_18 : decode cX7_placeRate 18 = .ok (.iload_n 1, 1) := by decide +kernel
theorem dX7_placeRate_19 : decode cX7_placeRate 19 = .ok (.iadd, 1) := by decide +kernel
theorem dX7_placeRate_20 : decode cX7_placeRate 20 = .ok (.iaload, 1) := by decide +kernel
theorem dX7_placeRate_21 : decode cX7_placeRate 21 = .ok (.goto 4, 3) := by decide +kernel
theorem dX7_placeRate_24 : decode cX7_placeRate 24 = .ok (.iconst 0, 1) := by decide +kernel
theorem dX7_placeRate_25 : decode cX7_placeRate 25 = .ok (.ireturn, 1) := by decide +kernel
theorem dX7_placeLimit_0 : decode cX7_placeLimit 0 = .ok (.aload_n 0, 1) := by decide +kernel
theorem dX7_placeLimit_1 : decode cX7_placeLimit 1 = .ok (.aload_n 0, 1) := by decide +kernel
theorem dX7_placeLimit_2 : decode cX7_placeLimit 2 = .ok (.iload_n 1, 1) := by decide +kernel
theorem dX7_placeLimit_3 : decode cX7_placeLimit 3 = .ok (.invokevirtual 213, 3) := by decide +kernel
theorem dX7_placeLimit_6 : decode cX7_placeLimit 6 = .ok (.invokevirtual 205, 3) := by decide +kernel
theorem dX7_placeLimit_9 : decode cX7_placeLimit 9 = .ok (.ifCond .eq 15, 3) := by decide +kernel
theorem dX7_placeLimit_12 : decode cX7_placeLimit 12 = .ok (.aload_n 0, 1) := by decide +kernel
theorem dX7_placeLimit_13 : decode cX7_placeLimit 13 = .ok (.getfield 19, 3) := by decide +kernel
theorem dX7_placeLimit_16 : decode cX7_placeLimit 16 = .ok (.bipush 69, 2) := by decide +kernel
theorem dX7_placeLimit_18 : decode cX7_placeLimit 18 = .ok (.iload_n 1, 1) := by decide +kernel
theorem dX7_placeLimit_19 : decode cX7_placeLimit 19 = .ok (.iadd, 1) := by decide +kernel
theorem dX7_placeLimit_20 : decode cX7_placeLimit 20 = .ok (.iaload, 1) := by decide +kernel
theorem dX7_placeLimit_21 : decode cX7_placeLimit 21 = .ok (.goto 4, 3) := by decide +kernel
theorem dX7_placeLimit_24 : decode cX7_placeLimit 24 = .ok (.iconst 0, 1) := by decide +kernel
theorem dX7_placeLimit_25 : decode cX7_placeLimit 25 = .ok (.ireturn, 1) := by decide +kernel
theorem dX7_isSetting_0 : decode cX7_isSetting 0 = .ok (.iload_n 0, 1) := by decide +kernel
theorem dX7_isSetting_1 : decode cX7_isSetting 1 = .ok (.ifCond .lt 12, 3) := by decide +kernel
theorem dX7_isSetting_4 : decode cX7_isSetting 4 = .ok (.iload_n 0, 1) := by decide +kernel
theorem dX7_isSetting_5 : decode cX7_isSetting 5 = .ok (.iconst 2, 1) := by decide +kernel
theorem dX7_isSetting_6 : decode cX7_isSetting 6 = .ok (.if_icmp .gt 7, 3) := by decide +kernel
theorem dX7_isSetting_9 : decode cX7_isSetting 9 = .ok (.iconst 1, 1) := by decide +kernel
theorem dX7_isSetting_10 : decode cX7_isSetting 10 = .ok (.goto 4, 3) := by decide +kernel
theorem dX7_isSetting_13 : decode cX7_isSetting 13 = .ok (.iconst 0, 1) := by decide +kernel
theorem dX7_isSetting_14 : decode cX7_isSetting 14 = .ok (.ireturn, 1) := by decide +kernel
theorem dX7_getSetting_0 : decode cX7_getSetting 0 = .ok (.aload_n 0, 1) := by decide +kernel
theorem dX7_getSetting_1 : decode cX7_getSetting 1 = .ok (.iconst 0, 1) := by decide +kernel
theorem dX7_getSetting_2 : decode cX7_getSetting 2 = .ok (.putfield 83, 3) := by decide +kernel
theorem dX7_getSetting_5 : decode cX7_getSetting 5 = .ok (.iload_n 1, 1) := by decide +kernel
theorem dX7_getSetting_6 : decode cX7_getSetting 6 = .ok (.invokestatic 216, 3) := by decide +kernel
theorem dX7_getSetting_9 : decode cX7_getSetting 9 = .ok (.ifCond .eq 15, 3) := by decide +kernel
theorem dX7_getSetting_12 : decode cX7_getSetting 12 = .ok (.aload_n 0, 1) := by decide +kernel
theorem dX7_getSetting_13 : decode cX7_getSetting 13 = .ok (.getfield 19, 3) := by decide +kernel
theorem dX7_getSetting_16 : decode cX7_getSetting 16 = .ok (.bipush 78, 2) := by decide +kernel
theorem dX7_getSetting_18 : decode cX7_getSetting 18 = .ok (.iload_n 1, 1) := by decide +kernel
theorem dX7_getSetting_19 : decode cX7_getSetting 19 = .ok (.iadd, 1) := by decide +kernel
theorem dX7_getSetting_20 : decode cX7_getSetting 20 = .ok (.iaload, 1) := by decide +kernel
theorem dX7_getSetting_21 : decode cX7_getSetting 21 = .ok (.goto 5, 3) := by decide +kernel
theorem dX7_getSetting_24 : decode cX7_getSetting 24 = .ok (.bipush (-2), 2) := by decide +kernel
theorem dX7_getSetting_26 : decode cX7_getSetting 26 = .ok (.ireturn, 1) := by decide +kernel
theorem dX7_ironAt_0 : decode cX7_ironAt 0 = .ok (.aload_n 0, 1) := by decide +kernel
theorem dX7_ironAt_1 : decode cX7_ironAt 1 = .ok (.aload_n 0, 1) := by decide +kernel
theorem dX7_ironAt_2 : decode cX7_ironAt 2 = .ok (.iload_n 1, 1) := by decide +kernel
theorem dX7_ironAt_3 : decode cX7_ironAt 3 = .ok (.invokevirtual 202, 3) := by decide +kernel
theorem dX7_ironAt_6 : decode cX7_ironAt 6 = .ok (.invokevirtual 205, 3) := by decide +kernel
theorem dX7_ironAt_9 : decode cX7_ironAt 9 = .ok (.ifCond .eq 15, 3) := by decide +kernel
theorem dX7_ironAt_12 : decode cX7_ironAt 12 = .ok (.aload_n 0, 1) := by decide +kernel
theorem dX7_ironAt_13 : decode cX7_ironAt 13 = .ok (.getfield 19, 3) := by decide +kernel
theorem dX7_ironAt_16 : decode cX7_ironAt 16 = .ok (.bipush 72, 2) := by decide +kernel
theorem dX7_ironAt_18 : decode cX7_ironAt 18 = .ok (.iload_n 1, 1) := by decide +kernel
theorem dX7_ironAt_19 : decode cX7_ironAt 19 = .ok (.iadd, 1) := by decide +kernel
theorem dX7_ironAt_20 : decode cX7_ironAt 20 = .ok (.iaload, 1) := by decide +kernel
theorem dX7_ironAt_21 : decode cX7_ironAt 21 = .ok (.goto 4, 3) := by decide +kernel
theorem dX7_ironAt_24 : decode cX7_ironAt 24 = .ok (.iconst 0, 1) := by decide +kernel
theorem dX7_ironAt_25 : decode cX7_ironAt 25 = .ok (.ireturn, 1) := by decide +kernel
theorem dX7_positionOf_0 : decode cX7_positionOf 0 = .ok (.aload_n 0, 1) := by decide +kernel
theorem dX7_positionOf_1 : decode cX7_positionOf 1 = .ok (.aload_n 0, 1) := by decide +kernel
theorem dX7_positionOf_2 : decode cX7_positionOf 2 = .ok (.iload_n 1, 1) := by decide +kernel
theorem dX7_positionOf_3 : decode cX7_positionOf 3 = .ok (.invokevirtual 202, 3) := by decide +kernel
theorem dX7_positionOf_6 : decode cX7_positionOf 6 = .ok (.invokevirtual 205, 3) := by decide +kernel
theorem dX7_positionOf_9 : decode cX7_positionOf 9 = .ok (.ifCond .ne 5, 3) := by decide +kernel
theorem dX7_positionOf_12 : decode cX7_positionOf 12 = .ok (.iconst 0, 1) := by decide +kernel
theorem dX7_positionOf_13 : decode cX7_positionOf 13 = .ok (.ireturn, 1) := by decide +kernel
theorem dX7_positionOf_14 : decode cX7_positionOf 14 = .ok (.iconst 0, 1) := by decide +kernel
theorem dX7_positionOf_15 : decode cX7_positionOf 15 = .ok (.istore_n 2, 1) := by decide +kernel
theorem dX7_positionOf_16 : decode cX7_positionOf 16 = .ok (.aload_n 0, 1) := by decide +kernel
theorem dX7_positionOf_17 : decode cX7_positionOf 17 = .ok (.getfield 19, 3) := by decide +kernel
theorem dX7_positionOf_20 : decode cX7_positionOf 20 = .ok (.bipush 72, 2) := by decide +kernel
theorem dX7_positionOf_22 : decode cX7_positionOf 22 = .ok (.iload_n 2, 1) := by decide +kernel
theorem dX7_positionOf_23 : decode cX7_positionOf 23 = .ok (.iadd, 1) := by decide +kernel
theorem dX7_positionOf_24 : decode cX7_positionOf 24 = .ok (.iaload, 1) := by decide +kernel
theorem dX7_positionOf_25 : decode cX7_positionOf 25 = .ok (.iload_n 1, 1) := by decide +kernel
theorem dX7_positionOf_26 : decode cX7_positionOf 26 = .ok (.if_icmp .eq 9, 3) := by decide +kernel
theorem dX7_positionOf_29 : decode cX7_positionOf 29 = .ok (.iinc 2 1, 3) := by decide +kernel
theorem dX7_positionOf_32 : decode cX7_positionOf 32 = .ok (.goto (-16), 3) := by decide +kernel
theorem dX7_positionOf_35 : decode cX7_positionOf 35 = .ok (.iload_n 2, 1) := by decide +kernel
theorem dX7_positionOf_36 : decode cX7_positionOf 36 = .ok (.ireturn, 1) := by decide +kernel
theorem dX7_isDone_0 : decode cX7_isDone 0 = .ok (.aload_n 0, 1) := by decide +kernel
theorem dX7_isDone_1 : decode cX7_isDone 1 = .ok (.getfield 41, 3) := by decide +kernel
theorem dX7_isDone_4 : decode cX7_isDone 4 = .ok (.iload_n 1, 1) := by decide +kernel
theorem dX7_isDone_5 : decode cX7_isDone 5 = .ok (.iaload, 1) := by decide +kernel
theorem dX7_isDone_6 : decode cX7_isDone 6 = .ok (.aload_n 0, 1) := by decide +kernel
theorem dX7_isDone_7 : decode cX7_isDone 7 = .ok (.getfield 19, 3) := by decide +kernel
theorem dX7_isDone_10 : decode cX7_isDone 10 = .ok (.iconst 0, 1) := by decide +kernel
theorem dX7_isDone_11 : decode cX7_isDone 11 = .ok (.iload_n 1, 1) := by decide +kernel
theorem dX7_isDone_12 : decode cX7_isDone 12 = .ok (.iadd, 1) := by decide +kernel
theorem dX7_isDone_13 : decode cX7_isDone 13 = .ok (.iaload, 1) := by decide +kernel
theorem dX7_isDone_14 : decode cX7_isDone 14 = .ok (.if_icmp .ne 7, 3) := by decide +kernel
theorem dX7_isDone_17 : decode cX7_isDone 17 = .ok (.iconst 1, 1) := by decide +kernel
theorem dX7_isDone_18 : decode cX7_isDone 18 = .ok (.goto 4, 3) := by decide +kernel
theorem dX7_isDone_21 : decode cX7_isDone 21 = .ok (.iconst 0, 1) := by decide +kernel
theorem dX7_isDone_22 : decode cX7_isDone 22 = .ok (.ireturn, 1) := by decide +kernel
theorem dX7_needs_0 : decode cX7_needs 0 = .ok (.aload_n 0, 1) := by decide +kernel
theorem dX7_needs_1 : decode cX7_needs 1 = .ok (.getfield 19, 3) := by decide +kernel
theorem dX7_needs_4 : decode cX7_needs 4 = .ok (.bipush 6, 2) := by decide +kernel
theorem dX7_needs_6 : decode cX7_needs 6 = .ok (.iconst 5, 1) := by decide +kernel
theorem dX7_needs_7 : decode cX7_needs 7 = .ok (.iload_n 1, 1) := by decide +kernel
theorem dX7_needs_8 : decode cX7_needs 8 = .ok (.imul, 1) := by decide +kernel
theorem dX7_needs_9 : decode cX7_needs 9 = .ok (.iadd, 1) := by decide +kernel
theorem dX7_needs_10 : decode cX7_needs 10 = .ok (.aload_n 0, 1) := by decide +kernel
theorem dX7_needs_11 : decode cX7_needs 11 = .ok (.getfield 41, 3) := by decide +kernel
theorem dX7_needs_14 : decode cX7_needs 14 = .ok (.iload_n 1, 1) := by decide +kernel
theorem dX7_needs_15 : decode cX7_needs 15 = .ok (.iaload, 1) := by decide +kernel
theorem dX7_needs_16 : decode cX7_needs 16 = .ok (.iadd, 1) := by decide +kernel
theorem dX7_needs_17 : decode cX7_needs 17 = .ok (.iaload, 1) := by decide +kernel
theorem dX7_needs_18 : decode cX7_needs 18 = .ok (.ireturn, 1) := by decide +kernel
theorem dX7_isReady_0 : decode cX7_isReady 0 = .ok (.aload_n 0, 1) := by decide +kernel
theorem dX7_isReady_1 : decode cX7_isReady 1 = .ok (.iload_n 1, 1) := by decide +kernel
theorem dX7_isReady_2 : decode cX7_isReady 2 = .ok (.invokevirtual 219, 3) := by decide +kernel
theorem dX7_isReady_5 : decode cX7_isReady 5 = .ok (.ifCond .ne 37, 3) := by decide +kernel
theorem dX7_isReady_8 : decode cX7_isReady 8 = .ok (.aload_n 0, 1) := by decide +kernel
theorem dX7_isReady_9 : decode cX7_isReady 9 = .ok (.getfield 38, 3) := by decide +kernel
theorem dX7_isReady_12 : decode cX7_isReady 12 = .ok (.iload_n 1, 1) := by decide +kernel
theorem dX7_isReady_13 : decode cX7_isReady 13 = .ok (.iaload, 1) := by decide +kernel
theorem dX7_isReady_14 : decode cX7_isReady 14 = .ok (.bipush 10, 2) := by decide +kernel
theorem dX7_isReady_16 : decode cX7_isReady 16 = .ok (.if_icmp .ge 26, 3) := by decide +kernel
theorem dX7_isReady_19 : decode cX7_isReady 19 = .ok (.aload_n 0, 1) := by decide +kernel
theorem dX7_isReady_20 : decode cX7_isReady 20 = .ok (.getfield 35, 3) := by decide +kernel
theorem dX7_isReady_23 : decode cX7_isReady 23 = .ok (.iload_n 1, 1) := by decide +kernel
theorem dX7_isReady_24 : decode cX7_isReady 24 = .ok (.iaload, 1) := by decide +kernel
theorem dX7_isReady_25 : decode cX7_isReady 25 = .ok (.aload_n 0, 1) := by decide +kernel
theorem dX7_isReady_26 : decode cX7_isReady 26 = .ok (.iload_n 1, 1) := by decide +kernel
theorem dX7_isReady_27 : decode cX7_isReady 27 = .ok (.invokevirtual 222, 3) := by decide +kernel
theorem dX7_isReady_30 : decode cX7_isReady 30 = .ok (.aload_n 0, 1) := by decide +kernel
theorem dX7_isReady_31 : decode cX7_isReady 31 = .ok (.getfield 225, 3) := by decide +kernel
theorem dX7_isReady_34 : decode cX7_isReady 34 = .ok (.iadd, 1) := by decide +kernel
theorem dX7_isReady_35 : decode cX7_isReady 35 = .ok (.if_icmp .lt 7, 3) := by decide +kernel
theorem dX7_isReady_38 : decode cX7_isReady 38 = .ok (.iconst 1, 1) := by decide +kernel
theorem dX7_isReady_39 : decode cX7_isReady 39 = .ok (.goto 4, 3) := by decide +kernel
theorem dX7_isReady_42 : decode cX7_isReady 42 = .ok (.iconst 0, 1) := by decide +kernel
theorem dX7_isReady_43 : decode cX7_isReady 43 = .ok (.ireturn, 1) := by decide +kernel
theorem dX7_left_0 : decode cX7_left 0 = .ok (.aload_n 0, 1) := by decide +kernel
theorem dX7_left_1 : decode cX7_left 1 = .ok (.getfield 44, 3) := by decide +kernel
theorem dX7_left_4 : decode cX7_left 4 = .ok (.iload_n 1, 1) := by decide +kernel
theorem dX7_left_5 : decode cX7_left 5 = .ok (.iaload, 1) := by decide +kernel
theorem dX7_left_6 : decode cX7_left 6 = .ok (.ineg, 1) := by decide +kernel
theorem dX7_left_7 : decode cX7_left 7 = .ok (.istore_n 2, 1) := by decide +kernel
theorem dX7_left_8 : decode cX7_left 8 = .ok (.aload_n 0, 1) := by decide +kernel
theorem dX7_left_9 : decode cX7_left 9 = .ok (.getfield 41, 3) := by decide +kernel
theorem dX7_left_12 : decode cX7_left 12 = .ok (.iload_n 1, 1) := by decide +kernel
theorem dX7_left_13 : decode cX7_left 13 = .ok (.iaload, 1) := by decide +kernel
theorem dX7_left_14 : decode cX7_left 14 = .ok (.istore_n 3, 1) := by decide +kernel
theorem dX7_left_15 : decode cX7_left 15 = .ok (.iload_n 3, 1) := by decide +kernel
theorem dX7_left_16 : decode cX7_left 16 = .ok (.aload_n 0, 1) := by decide +kernel
theorem dX7_left_17 : decode cX7_left 17 = .ok (.getfield 19, 3) := by decide +kernel
theorem dX7_left_20 : decode cX7_left 20 = .ok (.iconst 0, 1) := by decide +kernel
theorem dX7_left_21 : decode cX7_left 21 = .ok (.iload_n 1, 1) := by decide +kernel
theorem dX7_left_22 : decode cX7_left 22 = .ok (.iadd, 1) := by decide +kernel
theorem dX7_left_23 : decode cX7_left 23 = .ok (.iaload, 1) := by decide +kernel
theorem dX7_left_24 : decode cX7_left 24 = .ok (.if_icmp .ge 25, 3) := by decide +kernel
theorem dX7_left_27 : decode cX7_left 27 = .ok (.iload_n 2, 1) := by decide +kernel
theorem dX7_left_28 : decode cX7_left 28 = .ok (.aload_n 0, 1) := by decide +kernel
theorem dX7_left_29 : decode cX7_left 29 = .ok (.getfield 19, 3) := by decide +kernel
theorem dX7_left_32 : decode cX7_left 32 = .ok (.bipush 36, 2) := by decide +kernel
theorem dX7_left_34 : decode cX7_left 34 = .ok (.iconst 5, 1) := by decide +kernel
theorem dX7_left_35 : decode cX7_left 35 = .ok (.iload_n 1, 1) := by decide +kernel
theorem dX7_left_36 : decode cX7_left 36 = .ok (.imul, 1) := by decide +kernel
theorem dX7_left_37 : decode cX7_left 37 = .ok (.iadd, 1) := by decide +kernel
theorem dX7_left_38 : decode cX7_left 38 = .ok (.iload_n 3, 1) := by decide +kernel
theorem dX7_left_39 : decode cX7_left 39 = .ok (.iadd, 1) := by decide +kernel
theorem dX7_left_40 : decode cX7_left 40 = .ok (.iaload, 1) := by decide +kernel
theorem dX7_left_41 : decode cX7_left 41 = .ok (.iadd, 1) := by decide +kernel
theorem dX7_left_42 : decode cX7_left 42 = .ok (.istore_n 2, 1) := by decide +kernel
theorem dX7_left_43 : decode cX7_left 43 = .ok (.iinc 3 1, 3) := by decide +kernel
theorem dX7_left_46 : decode cX7_left 46 = .ok (.goto (-31), 3) := by decide +kernel
theorem dX7_left_49 : decode cX7_left 49 = .ok (.iload_n 2, 1) := by decide +kernel
theorem dX7_left_50 : decode cX7_left 50 = .ok (.ireturn, 1) := by decide +kernel
theorem dX7_isTaken_0 : decode cX7_isTaken 0 = .ok (.iconst 0, 1) := by decide +kernel
theorem dX7_isTaken_1 : decode cX7_isTaken 1 = .ok (.istore_n 2, 1) := by decide +kernel
theorem dX7_isTaken_2 : decode cX7_isTaken 2 = .ok (.iconst 0, 1) := by decide +kernel
theorem dX7_isTaken_3 : decode cX7_isTaken 3 = .ok (.istore_n 3, 1) := by decide +kernel
theorem dX7_isTaken_4 : decode cX7_isTaken 4 = .ok (.iload_n 3, 1) := by decide +kernel
theorem dX7_isTaken_5 : decode cX7_isTaken 5 = .ok (.aload_n 0, 1) := by decide +kernel
theorem dX7_isTaken_6 : decode cX7_isTaken 6 = .ok (.getfield 228, 3) := by decide +kernel
theorem dX7_isTaken_9 : decode cX7_isTaken 9 = .ok (.if_icmp .ge 32, 3) := by decide +kernel
theorem dX7_isTaken_12 : decode cX7_isTaken 12 = .ok (.iload_n 2, 1) := by decide +kernel
theorem dX7_isTaken_13 : decode cX7_isTaken 13 = .ok (.aload_n 0, 1) := by decide +kernel
theorem dX7_isTaken_14 : decode cX7_isTaken 14 = .ok (.getfield 38, 3) := by decide +kernel
theorem dX7_isTaken_17 : decode cX7_isTaken 17 = .ok (.aload_n 0, 1) := by decide +kernel
theorem dX7_isTaken_18 : decode cX7_isTaken 18 = .ok (.getfield 32, 3) := by decide +kernel
theorem dX7_isTaken_21 : decode cX7_isTaken 21 = .ok (.iload_n 3, 1) := by decide +kernel
theorem dX7_isTaken_22 : decode cX7_isTaken 22 = .ok (.iaload, 1) := by decide +kernel
theorem dX7_isTaken_23 : decode cX7_isTaken 23 = .ok (.iaload, 1) := by decide +kernel
theorem dX7_isTaken_24 : decode cX7_isTaken 24 = .ok (.iload_n 1, 1) := by decide +kernel
theorem dX7_isTaken_25 : decode cX7_isTaken 25 = .ok (.if_icmp .ne 7, 3) := by decide +kernel
theorem dX7_isTaken_28 : decode cX7_isTaken 28 = .ok (.iconst 1, 1) := by decide +kernel
theorem dX7_isTaken_29 : decode cX7_isTaken 29 = .ok (.goto 4, 3) := by decide +kernel
theorem dX7_isTaken_32 : decode cX7_isTaken 32 = .ok (.iconst 0, 1) := by decide +kernel
theorem dX7_isTaken_33 : decode cX7_isTaken 33 = .ok (.ior, 1) := by decide +kernel
theorem dX7_isTaken_34 : decode cX7_isTaken 34 = .ok (.istore_n 2, 1) := by decide +kernel
theorem dX7_isTaken_35 : decode cX7_isTaken 35 = .ok (.iinc 3 1, 3) := by decide +kernel
theorem dX7_isTaken_38 : decode cX7_isTaken 38 = .ok (.goto (-34), 3) := by decide +kernel
theorem dX7_isTaken_41 : decode cX7_isTaken 41 = .ok (.iload_n 2, 1) := by decide +kernel
theorem dX7_isTaken_42 : decode cX7_isTaken 42 = .ok (.ireturn, 1) := by decide +kernel
theorem dX7_rank_0 : decode cX7_rank 0 = .ok (.aload_n 0, 1) := by decide +kernel
theorem dX7_rank_1 : decode cX7_rank 1 = .ok (.getfield 19, 3) := by decide +kernel
theorem dX7_rank_4 : decode cX7_rank 4 = .ok (.bipush 80, 2) := by decide +kernel
theorem dX7_rank_6 : decode cX7_rank 6 = .ok (.iaload, 1) := by decide +kernel
theorem dX7_rank_7 : decode cX7_rank 7 = .ok (.istore_n 2, 1) := by decide +kernel
theorem dX7_rank_8 : decode cX7_rank 8 = .ok (.iload_n 2, 1) := by decide +kernel
theorem dX7_rank_9 : decode cX7_rank 9 = .ok (.iconst 1, 1) := by decide +kernel
theorem dX7_rank_10 : decode cX7_rank 10 = .ok (.if_icmp .ne 12, 3) := by decide +kernel
theorem dX7_rank_13 : decode cX7_rank 13 = .ok (.aload_n 0, 1) := by decide +kernel
theorem dX7_rank_14 : decode cX7_rank 14 = .ok (.getfield 35, 3) := by decide +kernel
theorem dX7_rank_17 : decode cX7_rank 17 = .ok (.iload_n 1, 1) := by decide +kernel
theorem dX7_rank_18 : decode cX7_rank 18 = .ok (.iaload, 1) := by decide +kernel
theorem dX7_rank_19 : decode cX7_rank 19 = .ok (.goto 18, 3) := by decide +kernel
theorem dX7_rank_22 : decode cX7_rank 22 = .ok (.iload_n 2, 1) := by decide +kernel
theorem dX7_rank_23 : decode cX7_rank 23 = .ok (.iconst 2, 1) := by decide +kernel
theorem dX7_rank_24 : decode cX7_rank 24 = .ok (.if_icmp .ne 12, 3) := by decide +kernel
theorem dX7_rank_27 : decode cX7_rank 27 = .ok (.aload_n 0, 1) := by decide +kernel
theorem dX7_rank_28 : decode cX7_rank 28 = .ok (.iload_n 1, 1) := by decide +kernel
theorem dX7_rank_29 : decode cX7_rank 29 = .ok (.invokevirtual 231, 3) := by decide +kernel
theorem dX7_rank_32 : decode cX7_rank 32 = .ok (.ineg, 1) := by decide +kernel
theorem dX7_rank_33 : decode cX7_rank 33 = .ok (.goto 4, 3) := by decide +kernel
theorem dX7_rank_36 : decode cX7_rank 36 = .ok (.iconst 0, 1) := by decide +kernel
theorem dX7_rank_37 : decode cX7_rank 37 = .ok (.ireturn, 1) := by decide +kernel
theorem dX7_readyOne_0 : decode cX7_readyOne 0 = .ok (.iconst (-1), 1) := by decide +kernel
theorem dX7_readyOne_1 : decode cX7_readyOne 1 = .ok (.istore_n 1, 1) := by decide +kernel
theorem dX7_readyOne_2 : decode cX7_readyOne 2 = .ok (.iconst 0, 1) := by decide +kernel
theorem dX7_readyOne_3 : decode cX7_readyOne 3 = .ok (.istore_n 2, 1) := by decide +kernel
theorem dX7_readyOne_4 : decode cX7_readyOne 4 = .ok (.iload_n 2, 1) := by decide +kernel
theorem dX7_readyOne_5 : decode cX7_readyOne 5 = .ok (.aload_n 0, 1) := by decide +kernel
theorem dX7_readyOne_6 : decode cX7_readyOne 6 = .ok (.getfield 228, 3) := by decide +kernel
theorem dX7_readyOne_9 : decode cX7_readyOne 9 = .ok (.if_icmp .ge 44, 3) := by decide +kernel
theorem dX7_readyOne_12 : decode cX7_readyOne 12 = .ok (.aload_n 0, 1) := by decide +kernel
theorem dX7_readyOne_13 : decode cX7_readyOne 13 = .ok (.getfield 32, 3) := by decide +kernel
theorem dX7_readyOne_16 : decode cX7_readyOne 16 = .ok (.iload_n 2, 1) := by decide +kernel
theorem dX7_readyOne_17 : decode cX7_readyOne 17 = .ok (.iaload, 1) := by decide +kernel
theorem dX7_readyOne_18 : decode cX7_readyOne 18 = .ok (.istore_n 3, 1) := by decide +kernel
theorem dX7_readyOne_19 : decode cX7_readyOne 19 = .ok (.aload_n 0, 1) := by decide +kernel
theorem dX7_readyOne_20 : decode cX7_readyOne 20 = .ok (.iload_n 3, 1) := by decide +kernel
theorem dX7_readyOne_21 : decode cX7_readyOne 21 = .ok (.invokevirtual 234, 3) := by decide +kernel
theorem dX7_readyOne_24 : decode cX7_readyOne 24 = .ok (.ifCond .eq 23, 3) := by decide +kernel
theorem dX7_readyOne_27 : decode cX7_readyOne 27 = .ok (.iload_n 1, 1) := by decide +kernel
theorem dX7_readyOne_28 : decode cX7_readyOne 28 = .ok (.iconst (-1), 1) := by decide +kernel
theorem dX7_readyOne_29 : decode cX7_readyOne 29 = .ok (.if_icmp .eq 16, 3) := by decide +kernel
theorem dX7_readyOne_32 : decode cX7_readyOne 32 = .ok (.aload_n 0, 1) := by decide +kernel
theorem dX7_readyOne_33 : decode cX7_readyOne 33 = .ok (.iload_n 3, 1) := by decide +kernel
theorem dX7_readyOne_34 : decode cX7_readyOne 34 = .ok (.invokevirtual 237, 3) := by decide +kernel
theorem dX7_readyOne_37 : decode cX7_readyOne 37 = .ok (.aload_n 0, 1) := by decide +kernel
theorem dX7_readyOne_38 : decode cX7_readyOne 38 = .ok (.iload_n 1, 1) := by decide +kernel
theorem dX7_readyOne_39 : decode cX7_readyOne 39 = .ok (.invokevirtual 237, 3) := by decide +kernel
theorem dX7_readyOne_42 : decode cX7_readyOne 42 = .ok (.if_icmp .le 5, 3) := by decide +kernel
theorem dX7_readyOne_45 : decode cX7_readyOne 45 = .ok (.iload_n 3, 1) := by decide +kernel
theorem dX7_readyOne_46 : decode cX7_readyOne 46 = .ok (.istore_n 1, 1) := by decide +kernel
theorem dX7_readyOne_47 : decode cX7_readyOne 47 = .ok (.iinc 2 1, 3) := by decide +kernel
theorem dX7_readyOne_50 : decode cX7_readyOne 50 = .ok (.goto (-46), 3) := by decide +kernel
theorem dX7_readyOne_53 : decode cX7_readyOne 53 = .ok (.iload_n 1, 1) := by decide +kernel
theorem dX7_readyOne_54 : decode cX7_readyOne 54 = .ok (.ireturn, 1) := by decide +kernel
theorem dX7_waitingOne_0 : decode cX7_waitingOne 0 = .ok (.iconst 0, 1) := by decide +kernel
theorem dX7_waitingOne_1 : decode cX7_waitingOne 1 = .ok (.istore_n 1, 1) := by decide +kernel
theorem dX7_waitingOne_2 : decode cX7_waitingOne 2 = .ok (.iload_n 1, 1) := by decide +kernel
theorem dX7_waitingOne_3 : decode cX7_waitingOne 3 = .ok (.aload_n 0, 1) := by decide +kernel
theorem dX7_waitingOne_4 : decode cX7_waitingOne 4 = .ok (.getfield 228, 3) := by decide +kernel
theorem dX7_waitingOne_7 : decode cX7_waitingOne 7 = .ok (.if_icmp .ge 43, 3) := by decide +kernel
theorem dX7_waitingOne_10 : decode cX7_waitingOne 10 = .ok (.aload_n 0, 1) := by decide +kernel
theorem dX7_waitingOne_11 : decode cX7_waitingOne 11 = .ok (.getfield 32, 3) := by decide +kernel
theorem dX7_waitingOne_14 : decode cX7_waitingOne 14 = .ok (.iload_n 1, 1) := by decide +kernel
theorem dX7_waitingOne_15 : decode cX7_waitingOne 15 = .ok (.iaload, 1) := by decide +kernel
theorem dX7_waitingOne_16 : decode cX7_waitingOne 16 = .ok (.istore_n 2, 1) := by decide +kernel
theorem dX7_waitingOne_17 : decode cX7_waitingOne 17 = .ok (.aload_n 0, 1) := by decide +kernel
theorem dX7_waitingOne_18 : decode cX7_waitingOne 18 = .ok (.iload_n 2, 1) := by decide +kernel
theorem dX7_waitingOne_19 : decode cX7_waitingOne 19 = .ok (.invokevirtual 219, 3) := by decide +kernel
theorem dX7_waitingOne_22 : decode cX7_waitingOne 22 = .ok (.ifCond .ne 22, 3) := by decide +kernel
theorem dX7_waitingOne_25 : decode cX7_waitingOne 25 = .ok (.aload_n 0, 1) := by decide +kernel
theorem dX7_waitingOne_26 : decode cX7_waitingOne 26 = .ok (.getfield 38, 3) := by decide +kernel
theorem dX7_waitingOne_29 : decode cX7_waitingOne 29 = .ok (.iload_n 2, 1) := by decide +kernel
theorem dX7_waitingOne_30 : decode cX7_waitingOne 30 = .ok (.iaload, 1) := by decide +kernel
theorem dX7_waitingOne_31 : decode cX7_waitingOne 31 = .ok (.ifCond .ne 13, 3) := by decide +kernel
theorem dX7_waitingOne_34 : decode cX7_waitingOne 34 = .ok (.aload_n 0, 1) := by decide +kernel
theorem dX7_waitingOne_35 : decode cX7_waitingOne 35 = .ok (.iload_n 2, 1) := by decide +kernel
theorem dX7_waitingOne_36 : decode cX7_waitingOne 36 = .ok (.invokevirtual 234, 3) := by decide +kernel
theorem dX7_waitingOne_39 : decode cX7_waitingOne 39 = .ok (.ifCond .ne 5, 3) := by decide +kernel
theorem dX7_waitingOne_42 : decode cX7_waitingOne 42 = .ok (.iload_n 2, 1) := by decide +kernel
theorem dX7_waitingOne_43 : decode cX7_waitingOne 43 = .ok (.ireturn, 1) := by decide +kernel
theorem dX7_waitingOne_44 : decode cX7_waitingOne 44 = .ok (.iinc 1 1, 3) := by decide +kernel
theorem dX7_waitingOne_47 : decode cX7_waitingOne 47 = .ok (.goto (-45), 3) := by decide +kernel
theorem dX7_waitingOne_50 : decode cX7_waitingOne 50 = .ok (.iconst (-1), 1) := by decide +kernel
theorem dX7_waitingOne_51 : decode cX7_waitingOne 51 = .ok (.ireturn, 1) := by decide +kernel
theorem dX7_begins_0 : decode cX7_begins 0 = .ok (.iconst 0, 1) := by decide +kernel
theorem dX7_begins_1 : decode cX7_begins 1 = .ok (.istore_n 1, 1) := by decide +kernel
theorem dX7_begins_2 : decode cX7_begins 2 = .ok (.iload_n 1, 1) := by decide +kernel
theorem dX7_begins_3 : decode cX7_begins 3 = .ok (.bipush 6, 2) := by decide +kernel
theorem dX7_begins_5 : decode cX7_begins 5 = .ok (.if_icmp .ge 74, 3) := by decide +kernel
theorem dX7_begins_8 : decode cX7_begins 8 = .ok (.aload_n 0, 1) := by decide +kernel
theorem dX7_begins_9 : decode cX7_begins 9 = .ok (.getfield 35, 3) := by decide +kernel
theorem dX7_begins_12 : decode cX7_begins 12 = .ok (.iload_n 1, 1) := by decide +kernel
theorem dX7_begins_13 : decode cX7_begins 13 = .ok (.bipush 20, 2) := by decide +kernel
theorem dX7_begins_15 : decode cX7_begins 15 = .ok (.iastore, 1) := by decide +kernel
theorem dX7_begins_16 : decode cX7_begins 16 = .ok (.aload_n 0, 1) := by decide +kernel
theorem dX7_begins_17 : decode cX7_begins 17 = .ok (.getfield 38, 3) := by decide +kernel
theorem dX7_begins_20 : decode cX7_begins 20 = .ok (.iload_n 1, 1) := by decide +kernel
theorem dX7_begins_21 : decode cX7_begins 21 = .ok (.iconst 0, 1) := by decide +kernel
theorem dX7_begins_22 : decode cX7_begins 22 = .ok (.iastore, 1) := by decide +kernel
theorem dX7_begins_23 : decode cX7_begins 23 = .ok (.aload_n 0, 1) := by decide +kernel
theorem dX7_begins_24 : decode cX7_begins 24 = .ok (.getfield 41, 3) := by decide +kernel
theorem dX7_begins_27 : decode cX7_begins 27 = .ok (.iload_n 1, 1) := by decide +kernel
theorem dX7_begins_28 : decode cX7_begins 28 = .ok (.iconst 0, 1) := by decide +kernel
theorem dX7_begins_29 : decode cX7_begins 29 = .ok (.iastore, 1) := by decide +kernel
theorem dX7_begins_30 : decode cX7_begins 30 = .ok (.aload_n 0, 1) := by decide +kernel
theorem dX7_begins_31 : decode cX7_begins 31 = .ok (.getfield 44, 3) := by decide +kernel
theorem dX7_begins_34 : decode cX7_begins 34 = .ok (.iload_n 1, 1) := by decide +kernel
theorem dX7_begins_35 : decode cX7_begins 35 = .ok (.iconst 0, 1) := by decide +kernel
theorem dX7_begins_36 : decode cX7_begins 36 = .ok (.iastore, 1) := by decide +kernel
theorem dX7_begins_37 : decode cX7_begins 37 = .ok (.aload_n 0, 1) := by decide +kernel
theorem dX7_begins_38 : decode cX7_begins 38 = .ok (.getfield 47, 3) := by decide +kernel
theorem dX7_begins_41 : decode cX7_begins 41 = .ok (.iload_n 1, 1) := by decide +kernel
theorem dX7_begins_42 : decode cX7_begins 42 = .ok (.aload_n 0, 1) := by decide +kernel
theorem dX7_begins_43 : decode cX7_begins 43 = .ok (.getfield 19, 3) := by decide +kernel
theorem dX7_begins_46 : decode cX7_begins 46 = .ok (.iconst 0, 1) := by decide +kernel
theorem dX7_begins_47 : decode cX7_begins 47 = .ok (.iload_n 1, 1) := by decide +kernel
theorem dX7_begins_48 : decode cX7_begins 48 = .ok (.iadd, 1) := by decide +kernel
theorem dX7_begins_49 : decode cX7_begins 49 = .ok (.iaload, 1) := by decide +kernel
theorem dX7_begins_50 : decode cX7_begins 50 = .ok (.ifCond .ne 7, 3) := by decide +kernel
theorem dX7_begins_53 : decode cX7_begins 53 = .ok (.iconst 0, 1) := by decide +kernel
theorem dX7_begins_54 : decode cX7_begins 54 = .ok (.goto 4, 3) := by decide +kernel
theorem dX7_begins_57 : decode cX7_begins 57 = .ok (.iconst (-1), 1) := by decide +kernel
theorem dX7_begins_58 : decode cX7_begins 58 = .ok (.iastore, 1) := by decide +kernel
theorem dX7_begins_59 : decode cX7_begins 59 = .ok (.aload_n 0, 1) := by decide +kernel
theorem dX7_begins_60 : decode cX7_begins 60 = .ok (.getfield 50, 3) := by decide +kernel
theorem dX7_begins_63 : decode cX7_begins 63 = .ok (.iload_n 1, 1) := by decide +kernel
theorem dX7_begins_64 : decode cX7_begins 64 = .ok (.iconst 0, 1) := by decide +kernel
theorem dX7_begins_65 : decode cX7_begins 65 = .ok (.iastore, 1) := by decide +kernel
theorem dX7_begins_66 : decode cX7_begins 66 = .ok (.aload_n 0, 1) := by decide +kernel
theorem dX7_begins_67 : decode cX7_begins 67 = .ok (.getfield 53, 3) := by decide +kernel
theorem dX7_begins_70 : decode cX7_begins 70 = .ok (.iload_n 1, 1) := by decide +kernel
theorem dX7_begins_71 : decode cX7_begins 71 = .ok (.iconst 0, 1) := by decide +kernel
theorem dX7_begins_72 : decode cX7_begins 72 = .ok (.iastore, 1) := by decide +kernel
theorem dX7_begins_73 : decode cX7_begins 73 = .ok (.iinc 1 1, 3) := by decide +kernel
theorem dX7_begins_76 : decode cX7_begins 76 = .ok (.goto (-74), 3) := by decide +kernel
theorem dX7_begins_79 : decode cX7_begins 79 = .ok (.return_, 1) := by decide +kernel
theorem dX7_moves_0 : decode cX7_moves 0 = .ok (.iconst 0, 1) := by decide +kernel
theorem dX7_moves_1 : decode cX7_moves 1 = .ok (.istore_n 1, 1) := by decide +kernel
theorem dX7_moves_2 : decode cX7_moves 2 = .ok (.iload_n 1, 1) := by decide +kernel
theorem dX7_moves_3 : decode cX7_moves 3 = .ok (.aload_n 0, 1) := by decide +kernel
theorem dX7_moves_4 : decode cX7_moves 4 = .ok (.getfield 228, 3) := by decide +kernel
theorem dX7_moves_7 : decode cX7_moves 7 = .ok (.if_icmp .ge 84, 3) := by decide +kernel
theorem dX7_moves_10 : decode cX7_moves 10 = .ok (.aload_n 0, 1) := by decide +kernel
theorem dX7_moves_11 : decode cX7_moves 11 = .ok (.getfield 32, 3) := by decide +kernel
theorem dX7_moves_14 : decode cX7_moves 14 = .ok (.iload_n 1, 1) := by decide +kernel
theorem dX7_moves_15 : decode cX7_moves 15 = .ok (.iaload, 1) := by decide +kernel
theorem dX7_moves_16 : decode cX7_moves 16 = .ok (.istore_n 2, 1) := by decide +kernel
theorem dX7_moves_17 : decode cX7_moves 17 = .ok (.aload_n 0, 1) := by decide +kernel
theorem dX7_moves_18 : decode cX7_moves 18 = .ok (.getfield 38, 3) := by decide +kernel
theorem dX7_moves_21 : decode cX7_moves 21 = .ok (.iload_n 2, 1) := by decide +kernel
theorem dX7_moves_22 : decode cX7_moves 22 = .ok (.iaload, 1) := by decide +kernel
theorem dX7_moves_23 : decode cX7_moves 23 = .ok (.bipush 10, 2) := by decide +kernel
theorem dX7_moves_25 : decode cX7_moves 25 = .ok (.if_icmp .ge 6, 3) := by decide +kernel
theorem dX7_moves_28 : decode cX7_moves 28 = .ok (.goto 57, 3) := by decide +kernel
theorem dX7_moves_31 : decode cX7_moves 31 = .ok (.aload_n 0, 1) := by decide +kernel
theorem dX7_moves_32 : decode cX7_moves 32 = .ok (.iload_n 2, 1) := by decide +kernel
theorem dX7_moves_33 : decode cX7_moves 33 = .ok (.invokevirtual 219, 3) := by decide +kernel
theorem dX7_moves_36 : decode cX7_moves 36 = .ok (.ifCond .ne 20, 3) := by decide +kernel
theorem dX7_moves_39 : decode cX7_moves 39 = .ok (.aload_n 0, 1) := by decide +kernel
theorem dX7_moves_40 : decode cX7_moves 40 = .ok (.getfield 35, 3) := by decide +kernel
theorem dX7_moves_43 : decode cX7_moves 43 = .ok (.iload_n 2, 1) := by decide +kernel
theorem dX7_moves_44 : decode cX7_moves 44 = .ok (.iaload, 1) := by decide +kernel
theorem dX7_moves_45 : decode cX7_moves 45 = .ok (.aload_n 0, 1) := by decide +kernel
theorem dX7_moves_46 : decode cX7_moves 46 = .ok (.iload_n 2, 1) := by decide +kernel
theorem dX7_moves_47 : decode cX7_moves 47 = .ok (.invokevirtual 222, 3) := by decide +kernel
theorem dX7_moves_50 : decode cX7_moves 50 = .ok (.if_icmp .lt 6, 3) := by decide +kernel
theorem dX7_moves_53 : decode cX7_moves 53 = .ok (.goto 32, 3) := by decide +kernel
theorem dX7_moves_56 : decode cX7_moves 56 = .ok (.aload_n 0, 1) := by decide +kernel
theorem dX7_moves_57 : decode cX7_moves 57 = .ok (.getfield 38, 3) := by decide +kernel
theorem dX7_moves_60 : decode cX7_moves 60 = .ok (.iload_n 2, 1) := by decide +kernel
theorem dX7_moves_61 : decode cX7_moves 61 = .ok (.iconst 0, 1) := by decide +kernel
theorem dX7_moves_62 : decode cX7_moves 62 = .ok (.iastore, 1) := by decide +kernel
theorem dX7_moves_63 : decode cX7_moves 63 = .ok (.aload_n 0, 1) := by decide +kernel
theorem dX7_moves_64 : decode cX7_moves 64 = .ok (.getfield 50, 3) := by decide +kernel
theorem dX7_moves_67 : decode cX7_moves 67 = .ok (.iload_n 2, 1) := by decide +kernel
theorem dX7_moves_68 : decode cX7_moves 68 = .ok (.dup2, 1) := by decide +kernel
theorem dX7_moves_69 : decode cX7_moves 69 = .ok (.iaload, 1) := by decide +kernel
theorem dX7_moves_70 : decode cX7_moves 70 = .ok (.aload_n 0, 1) := by decide +kernel
theorem dX7_moves_71 : decode cX7_moves 71 = .ok (.iload_n 2, 1) := by decide +kernel
theorem dX7_moves_72 : decode cX7_moves 72 = .ok (.invokevirtual 219, 3) := by decide +kernel
theorem dX7_moves_75 : decode cX7_moves 75 = .ok (.ifCond .eq 7, 3) := by decide +kernel
theorem dX7_moves_78 : decode cX7_moves 78 = .ok (.iconst 0, 1) := by decide +kernel
theorem dX7_moves_79 : decode cX7_moves 79 = .ok (.goto 4, 3) := by decide +kernel
theorem dX7_moves_82 : decode cX7_moves 82 = .ok (.iconst 1, 1) := by decide +kernel
theorem dX7_moves_83 : decode cX7_moves 83 = .ok (.iadd, 1) := by decide +kernel
theorem dX7_moves_84 : decode cX7_moves 84 = .ok (.iastore, 1) := by decide +kernel
theorem dX7_moves_85 : decode cX7_moves 85 = .ok (.iinc 1 1, 3) := by decide +kernel
theorem dX7_moves_88 : decode cX7_moves 88 = .ok (.goto (-86), 3) := by decide +kernel
theorem dX7_moves_91 : decode cX7_moves 91 = .ok (.iconst 0, 1) := by decide +kernel
theorem dX7_moves_92 : decode cX7_moves 92 = .ok (.istore_n 1, 1) := by decide +kernel
theorem dX7_moves_93 : decode cX7_moves 93 = .ok (.iload_n 1, 1) := by decide +kernel
theorem dX7_moves_94 : decode cX7_moves 94 = .ok (.aload_n 0, 1) := by decide +kernel
theorem dX7_moves_95 : decode cX7_moves 95 = .ok (.getfield 19, 3) := by decide +kernel
theorem dX7_moves_98 : decode cX7_moves 98 = .ok (.bipush 78, 2) := by decide +kernel
theorem dX7_moves_100 : decode cX7_moves 100 = .ok (.iaload, 1) := by decide +kernel
theorem dX7_moves_101 : decode cX7_moves 101 = .ok (.if_icmp .ge 44, 3) := by decide +kernel
theorem dX7_moves_104 : decode cX7_moves 104 = .ok (.aload_n 0, 1) := by decide +kernel
theorem dX7_moves_105 : decode cX7_moves 105 = .ok (.bipush 10, 2) := by decide +kernel
theorem dX7_moves_107 : decode cX7_moves 107 = .ok (.iload_n 1, 1) := by decide +kernel
theorem dX7_moves_108 : decode cX7_moves 108 = .ok (.iadd, 1) := by decide +kernel
theorem dX7_moves_109 : decode cX7_moves 109 = .ok (.invokevirtual 240, 3) := by decide +kernel
theorem dX7_moves_112 : decode cX7_moves 112 = .ok (.ifCond .eq 7, 3) := by decide +kernel
theorem dX7_moves_115 : decode cX7_moves 115 = .ok (.iconst (-1), 1) := by decide +kernel
theorem dX7_moves_116 : decode cX7_moves 116 = .ok (.goto 7, 3) := by decide +kernel
theorem dX7_moves_119 : decode cX7_moves 119 = .ok (.aload_n 0, 1) := by decide +kernel
theorem dX7_moves_120 : decode cX7_moves 120 = .ok (.invokevirtual 243, 3) := by decide +kernel
theorem dX7_moves_123 : decode cX7_moves 123 = .ok (.istore_n 2, 1) := by decide +kernel
theorem dX7_moves_124 : decode cX7_moves 124 = .ok (.iload_n 2, 1) := by decide +kernel
theorem dX7_moves_125 : decode cX7_moves 125 = .ok (.iconst (-1), 1) := by decide +kernel
theorem dX7_moves_126 : decode cX7_moves 126 = .ok (.if_icmp .eq 13, 3) := by decide +kernel
theorem dX7_moves_129 : decode cX7_moves 129 = .ok (.aload_n 0, 1) := by decide +kernel
theorem dX7_moves_130 : decode cX7_moves 130 = .ok (.getfield 38, 3) := by decide +kernel
theorem dX7_moves_133 : decode cX7_moves 133 = .ok (.iload_n 2, 1) := by decide +kernel
theorem dX7_moves_134 : decode cX7_moves 134 = .ok (.bipush 10, 2) := by decide +kernel
theorem dX7_moves_136 : decode cX7_moves 136 = .ok (.iload_n 1, 1) := by decide +kernel
theorem dX7_moves_137 : decode cX7_moves 137 = .ok (.iadd, 1) := by decide +kernel
theorem dX7_moves_138 : decode cX7_moves 138 = .ok (.iastore, 1) := by decide +kernel
theorem dX7_moves_139 : decode cX7_moves 139 = .ok (.iinc 1 1, 3) := by decide +kernel
theorem dX7_moves_142 : decode cX7_moves 142 = .ok (.goto (-49), 3) := by decide +kernel
theorem dX7_moves_145 : decode cX7_moves 145 = .ok (.iconst 0, 1) := by decide +kernel
theorem dX7_moves_146 : decode cX7_moves 146 = .ok (.istore_n 1, 1) := by decide +kernel
theorem dX7_moves_147 : decode cX7_moves 147 = .ok (.iload_n 1, 1) := by decide +kernel
theorem dX7_moves_148 : decode cX7_moves 148 = .ok (.aload_n 0, 1) := by decide +kernel
theorem dX7_moves_149 : decode cX7_moves 149 = .ok (.getfield 13, 3) := by decide +kernel
theorem dX7_moves_152 : decode cX7_moves 152 = .ok (.bipush 19, 2) := by decide +kernel
theorem dX7_moves_154 : decode cX7_moves 154 = .ok (.iaload, 1) := by decide +kernel
theorem dX7_moves_155 : decode cX7_moves 155 = .ok (.if_icmp .ge 63, 3) := by decide +kernel
theorem dX7_moves_158 : decode cX7_moves 158 = .ok (.iload_n 1, 1) := by decide +kernel
theorem dX7_moves_159 : decode cX7_moves 159 = .ok (.aload_n 0, 1) := by decide +kernel
theorem dX7_moves_160 : decode cX7_moves 160 = .ok (.getfield 246, 3) := by decide +kernel
theorem dX7_moves_163 : decode cX7_moves 163 = .ok (.if_icmp .eq 13, 3) := by decide +kernel
theorem dX7_moves_166 : decode cX7_moves 166 = .ok (.aload_n 0, 1) := by decide +kernel
theorem dX7_moves_167 : decode cX7_moves 167 = .ok (.iconst 1, 1) := by decide +kernel
theorem dX7_moves_168 : decode cX7_moves 168 = .ok (.iload_n 1, 1) := by decide +kernel
theorem dX7_moves_169 : decode cX7_moves 169 = .ok (.iadd, 1) := by decide +kernel
theorem dX7_moves_170 : decode cX7_moves 170 = .ok (.invokevirtual 240, 3) := by decide +kernel
theorem dX7_moves_173 : decode cX7_moves 173 = .ok (.ifCond .eq 7, 3) := by decide +kernel
theorem dX7_moves_176 : decode cX7_moves 176 = .ok (.iconst (-1), 1) := by decide +kernel
theorem dX7_moves_177 : decode cX7_moves 177 = .ok (.goto 7, 3) := by decide +kernel
theorem dX7_moves_180 : decode cX7_moves 180 = .ok (.aload_n 0, 1) := by decide +kernel
theorem dX7_moves_181 : decode cX7_moves 181 = .ok (.invokevirtual 249, 3) := by decide +kernel
theorem dX7_moves_184 : decode cX7_moves 184 = .ok (.istore_n 2, 1) := by decide +kernel
theorem dX7_moves_185 : decode cX7_moves 185 = .ok (.iload_n 2, 1) := by decide +kernel
theorem dX7_moves_186 : decode cX7_moves 186 = .ok (.iconst (-1), 1) := by decide +kernel
theorem dX7_moves_187 : decode cX7_moves 187 = .ok (.if_icmp .ne 6, 3) := by decide +kernel
theorem dX7_moves_190 : decode cX7_moves 190 = .ok (.goto 22, 3) := by decide +kernel
theorem dX7_moves_193 : decode cX7_moves 193 = .ok (.aload_n 0, 1) := by decide +kernel
theorem dX7_moves_194 : decode cX7_moves 194 = .ok (.getfield 38, 3) := by decide +kernel
theorem dX7_moves_197 : decode cX7_moves 197 = .ok (.iload_n 2, 1) := by decide +kernel
theorem dX7_moves_198 : decode cX7_moves 198 = .ok (.iconst 1, 1) := by decide +kernel
theorem dX7_moves_199 : decode cX7_moves 199 = .ok (.iload_n 1, 1) := by decide +kernel
theorem dX7_moves_200 : decode cX7_moves 200 = .ok (.iadd, 1) := by decide +kernel
theorem dX7_moves_201 : decode cX7_moves 201 = .ok (.iastore, 1) := by decide +kernel
theorem dX7_moves_202 : decode cX7_moves 202 = .ok (.aload_n 0, 1) := by decide +kernel
theorem dX7_moves_203 : decode cX7_moves 203 = .ok (.getfield 53, 3) := by decide +kernel
theorem dX7_moves_206 : decode cX7_moves 206 = .ok (.iload_n 2, 1) := by decide +kernel
theorem dX7_moves_207 : decode cX7_moves 207 = .ok (.dup2, 1) := by decide +kernel
theorem dX7_moves_208 : decode cX7_moves 208 = .ok (.iaload, 1) := by decide +kernel
theorem dX7_moves_209 : decode cX7_moves 209 = .ok (.iconst 1, 1) := by decide +kernel
theorem dX7_moves_210 : decode cX7_moves 210 = .ok (.iadd, 1) := by decide +kernel
theorem dX7_moves_211 : decode cX7_moves 211 = .ok (.iastore, 1) := by decide +kernel
theorem dX7_moves_212 : decode cX7_moves 212 = .ok (.iinc 1 1, 3) := by decide +kernel
theorem dX7_moves_215 : decode cX7_moves 215 = .ok (.goto (-68), 3) := by decide +kernel
theorem dX7_moves_218 : decode cX7_moves 218 = .ok (.return_, 1) := by decide +kernel
theorem dX7_works_0 : decode cX7_works 0 = .ok (.aload_n 0, 1) := by decide +kernel
theorem dX7_works_1 : decode cX7_works 1 = .ok (.getfield 38, 3) := by decide +kernel
theorem dX7_works_4 : decode cX7_works 4 = .ok (.iload_n 1, 1) := by decide +kernel
theorem dX7_works_5 : decode cX7_works 5 = .ok (.iaload, 1) := by decide +kernel
theorem dX7_works_6 : decode cX7_works 6 = .ok (.bipush 10, 2) := by decide +kernel
theorem dX7_works_8 : decode cX7_works 8 = .ok (.if_icmp .lt 74, 3) := by decide +kernel
theorem dX7_works_11 : decode cX7_works 11 = .ok (.aload_n 0, 1) := by decide +kernel
theorem dX7_works_12 : decode cX7_works 12 = .ok (.getfield 44, 3) := by decide +kernel
theorem dX7_works_15 : decode cX7_works 15 = .ok (.iload_n 1, 1) := by decide +kernel
theorem dX7_works_16 : decode cX7_works 16 = .ok (.dup2, 1) := by decide +kernel
theorem dX7_works_17 : decode cX7_works 17 = .ok (.iaload, 1) := by decide +kernel
theorem dX7_works_18 : decode cX7_works 18 = .ok (.iconst 1, 1) := by decide +kernel
theorem dX7_works_19 : decode cX7_works 19 = .ok (.iadd, 1) := by decide +kernel
theorem dX7_works_20 : decode cX7_works 20 = .ok (.iastore, 1) := by decide +kernel
theorem dX7_works_21 : decode cX7_works 21 = .ok (.aload_n 0, 1) := by decide +kernel
theorem dX7_works_22 : decode cX7_works 22 = .ok (.getfield 44, 3) := by decide +kernel
theorem dX7_works_25 : decode cX7_works 25 = .ok (.iload_n 1, 1) := by decide +kernel
theorem dX7_works_26 : decode cX7_works 26 = .ok (.iaload, 1) := by decide +kernel
theorem dX7_works_27 : decode cX7_works 27 = .ok (.aload_n 0, 1) := by decide +kernel
theorem dX7_works_28 : decode cX7_works 28 = .ok (.getfield 19, 3) := by decide +kernel
theorem dX7_works_31 : decode cX7_works 31 = .ok (.bipush 36, 2) := by decide +kernel
theorem dX7_works_33 : decode cX7_works 33 = .ok (.iconst 5, 1) := by decide +kernel
theorem dX7_works_34 : decode cX7_works 34 = .ok (.iload_n 1, 1) := by decide +kernel
theorem dX7_works_35 : decode cX7_works 35 = .ok (.imul, 1) := by decide +kernel
theorem dX7_works_36 : decode cX7_works 36 = .ok (.iadd, 1) := by decide +kernel
theorem dX7_works_37 : decode cX7_works 37 = .ok (.aload_n 0, 1) := by decide +kernel
theorem dX7_works_38 : decode cX7_works 38 = .ok (.getfield 41, 3) := by decide +kernel
theorem dX7_works_41 : decode cX7_works 41 = .ok (.iload_n 1, 1) := by decide +kernel
theorem dX7_works_42 : decode cX7_works 42 = .ok (.iaload, 1) := by decide +kernel
theorem dX7_works_43 : decode cX7_works 43 = .ok (.iadd, 1) := by decide +kernel
theorem dX7_works_44 : decode cX7_works 44 = .ok (.iaload, 1) := by decide +kernel
theorem dX7_works_45 : decode cX7_works 45 = .ok (.if_icmp .ne 37, 3) := by decide +kernel
theorem dX7_works_48 : decode cX7_works 48 = .ok (.aload_n 0, 1) := by decide +kernel
theorem dX7_works_49 : decode cX7_works 49 = .ok (.getfield 41, 3) := by decide +kernel
theorem dX7_works_52 : decode cX7_works 52 = .ok (.iload_n 1, 1) := by decide +kernel
theorem dX7_works_53 : decode cX7_works 53 = .ok (.dup2, 1) := by decide +kernel
theorem dX7_works_54 : decode cX7_works 54 = .ok (.iaload, 1) := by decide +kernel
theorem dX7_works_55 : decode cX7_works 55 = .ok (.iconst 1, 1) := by decide +kernel
theorem dX7_works_56 : decode cX7_works 56 = .ok (.iadd, 1) := by decide +kernel
theorem dX7_works_57 : decode cX7_works 57 = .ok (.iastore, 1) := by decide +kernel
theorem dX7_works_58 : decode cX7_works 58 = .ok (.aload_n 0, 1) := by decide +kernel
theorem dX7_works_59 : decode cX7_works 59 = .ok (.getfield 44, 3) := by decide +kernel
theorem dX7_works_62 : decode cX7_works 62 = .ok (.iload_n 1, 1) := by decide +kernel
theorem dX7_works_63 : decode cX7_works 63 = .ok (.iconst 0, 1) := by decide +kernel
theorem dX7_works_64 : decode cX7_works 64 = .ok (.iastore, 1) := by decide +kernel
theorem dX7_works_65 : decode cX7_works 65 = .ok (.aload_n 0, 1) := by decide +kernel
theorem dX7_works_66 : decode cX7_works 66 = .ok (.iload_n 1, 1) := by decide +kernel
theorem dX7_works_67 : decode cX7_works 67 = .ok (.invokevirtual 219, 3) := by decide +kernel
theorem dX7_works_70 : decode cX7_works 70 = .ok (.ifCond .eq 12, 3) := by decide +kernel
theorem dX7_works_73 : decode cX7_works 73 = .ok (.aload_n 0, 1) := by decide +kernel
theorem dX7_works_74 : decode cX7_works 74 = .ok (.getfield 47, 3) := by decide +kernel
theorem dX7_works_77 : decode cX7_works 77 = .ok (.iload_n 1, 1) := by decide +kernel
theorem dX7_works_78 : decode cX7_works 78 = .ok (.iload_n 2, 1) := by decide +kernel
theorem dX7_works_79 : decode cX7_works 79 = .ok (.iconst 1, 1) := by decide +kernel
theorem dX7_works_80 : decode cX7_works 80 = .ok (.iadd, 1) := by decide +kernel
theorem dX7_works_81 : decode cX7_works 81 = .ok (.iastore, 1) := by decide +kernel
theorem dX7_works_82 : decode cX7_works 82 = .ok (.aload_n 0, 1) := by decide +kernel
theorem dX7_works_83 : decode cX7_works 83 = .ok (.getfield 38, 3) := by decide +kernel
theorem dX7_works_86 : decode cX7_works 86 = .ok (.iload_n 1, 1) := by decide +kernel
theorem dX7_works_87 : decode cX7_works 87 = .ok (.iaload, 1) := by decide +kernel
theorem dX7_works_88 : decode cX7_works 88 = .ok (.ifCond .le 87, 3) := by decide +kernel
theorem dX7_works_91 : decode cX7_works 91 = .ok (.aload_n 0, 1) := by decide +kernel
theorem dX7_works_92 : decode cX7_works 92 = .ok (.getfield 38, 3) := by decide +kernel
theorem dX7_works_95 : decode cX7_works 95 = .ok (.iload_n 1, 1) := by decide +kernel
theorem dX7_works_96 : decode cX7_works 96 = .ok (.iaload, 1) := by decide +kernel
theorem dX7_works_97 : decode cX7_works 97 = .ok (.bipush 10, 2) := by decide +kernel
theorem dX7_works_99 : decode cX7_works 99 = .ok (.if_icmp .ge 76, 3) := by decide +kernel
theorem dX7_works_102 : decode cX7_works 102 = .ok (.aload_n 0, 1) := by decide +kernel
theorem dX7_works_103 : decode cX7_works 103 = .ok (.getfield 19, 3) := by decide +kernel
theorem dX7_works_106 : decode cX7_works 106 = .ok (.bipush 69, 2) := by decide +kernel
theorem dX7_works_108 : decode cX7_works 108 = .ok (.aload_n 0, 1) := by decide +kernel
theorem dX7_works_109 : decode cX7_works 109 = .ok (.getfield 38, 3) := by decide +kernel
theorem dX7_works_112 : decode cX7_works 112 = .ok (.iload_n 1, 1) := by decide +kernel
theorem dX7_works_113 : decode cX7_works 113 = .ok (.iaload, 1) := by decide +kernel
theorem dX7_works_114 : decode cX7_works 114 = .ok (.iadd, 1) := by decide +kernel
theorem dX7_works_115 : decode cX7_works 115 = .ok (.iconst 1, 1) := by decide +kernel
theorem dX7_works_116 : decode cX7_works 116 = .ok (.isub, 1) := by decide +kernel
theorem dX7_works_117 : decode cX7_works 117 = .ok (.iaload, 1) := by decide +kernel
theorem dX7_works_118 : decode cX7_works 118 = .ok (.istore_n 3, 1) := by decide +kernel
theorem dX7_works_119 : decode cX7_works 119 = .ok (.aload_n 0, 1) := by decide +kernel
theorem dX7_works_120 : decode cX7_works 120 = .ok (.getfield 35, 3) := by decide +kernel
theorem dX7_works_123 : decode cX7_works 123 = .ok (.iload_n 1, 1) := by decide +kernel
theorem dX7_works_124 : decode cX7_works 124 = .ok (.iaload, 1) := by decide +kernel
theorem dX7_works_125 : decode cX7_works 125 = .ok (.iload_n 3, 1) := by decide +kernel
theorem dX7_works_126 : decode cX7_works 126 = .ok (.if_icmp .ge 46, 3) := by decide +kernel
theorem dX7_works_129 : decode cX7_works 129 = .ok (.aload_n 0, 1) := by decide +kernel
theorem dX7_works_130 : decode cX7_works 130 = .ok (.getfield 35, 3) := by decide +kernel
theorem dX7_works_133 : decode cX7_works 133 = .ok (.iload_n 1, 1) := by decide +kernel
theorem dX7_works_134 : decode cX7_works 134 = .ok (.iload_n 3, 1) := by decide +kernel
theorem dX7_works_135 : decode cX7_works 135 = .ok (.aload_n 0, 1) := by decide +kernel
theorem dX7_works_136 : decode cX7_works 136 = .ok (.getfield 35, 3) := by decide +kernel
theorem dX7_works_139 : decode cX7_works 139 = .ok (.iload_n 1, 1) := by decide +kernel
theorem dX7_works_140 : decode cX7_works 140 = .ok (.iaload, 1) := by decide +kernel
theorem dX7_works_141 : decode cX7_works 141 = .ok (.aload_n 0, 1) := by decide +kernel
theorem dX7_works_142 : decode cX7_works 142 = .ok (.getfield 19, 3) := by decide +kernel
theorem dX7_works_145 : decode cX7_works 145 = .ok (.bipush 66, 2) := by decide +kernel
theorem dX7_works_147 : decode cX7_works 147 = .ok (.aload_n 0, 1) := by decide +kernel
theorem dX7_works_148 : decode cX7_works 148 = .ok (.getfield 38, 3) := by decide +kernel
theorem dX7_works_151 : decode cX7_works 151 = .ok (.iload_n 1, 1) := by decide +kernel
theorem dX7_works_152 : decode cX7_works 152 = .ok (.iaload, 1) := by decide +kernel
theorem dX7_works_153 : decode cX7_works 153 = .ok (.iadd, 1) := by decide +kernel
theorem dX7_works_154 : decode cX7_works 154 = .ok (.iconst 1, 1) := by decide +kernel
theorem dX7_works_155 : decode cX7_works 155 = .ok (.isub, 1) := by decide +kernel
theorem dX7_works_156 : decode cX7_works 156 = .ok (.iaload, 1) := by decide +kernel
theorem dX7_works_157 : decode cX7_works 157 = .ok (.aload_n 0, 1) := by decide +kernel
theorem dX7_works_158 : decode cX7_works 158 = .ok (.getfield 13, 3) := by decide +kernel
theorem dX7_works_161 : decode cX7_works 161 = .ok (.bipush 6, 2) := by decide +kernel
theorem dX7_works_163 : decode cX7_works 163 = .ok (.iload_n 1, 1) := by decide +kernel
theorem dX7_works_164 : decode cX7_works 164 = .ok (.iadd, 1) := by decide +kernel
theorem dX7_works_165 : decode cX7_works 165 = .ok (.iaload, 1) := by decide +kernel
theorem dX7_works_166 : decode cX7_works 166 = .ok (.idiv, 1) := by decide +kernel
theorem dX7_works_167 : decode cX7_works 167 = .ok (.iadd, 1) := by decide +kernel
theorem dX7_works_168 : decode cX7_works 168 = .ok (.invokestatic 252, 3) := by decide +kernel
theorem dX7_works_171 : decode cX7_works 171 = .ok (.iastore, 1) := by decide +kernel
theorem dX7_works_172 : decode cX7_works 172 = .ok (.goto 30, 3) := by decide +kernel
theorem dX7_works_175 : decode cX7_works 175 = .ok (.aload_n 0, 1) := by decide +kernel
theorem dX7_works_176 : decode cX7_works 176 = .ok (.getfield 35, 3) := by decide +kernel
theorem dX7_works_179 : decode cX7_works 179 = .ok (.iload_n 1, 1) := by decide +kernel
theorem dX7_works_180 : decode cX7_works 180 = .ok (.bipush 20, 2) := by decide +kernel
theorem dX7_works_182 : decode cX7_works 182 = .ok (.aload_n 0, 1) := by decide +kernel
theorem dX7_works_183 : decode cX7_works 183 = .ok (.getfield 35, 3) := by decide +kernel
theorem dX7_works_186 : decode cX7_works 186 = .ok (.iload_n 1, 1) := by decide +kernel
theorem dX7_works_187 : decode cX7_works 187 = .ok (.iaload, 1) := by decide +kernel
theorem dX7_works_188 : decode cX7_works 188 = .ok (.aload_n 0, 1) := by decide +kernel
theorem dX7_works_189 : decode cX7_works 189 = .ok (.getfield 13, 3) := by decide +kernel
theorem dX7_works_192 : decode cX7_works 192 = .ok (.bipush 12, 2) := by decide +kernel
theorem dX7_works_194 : decode cX7_works 194 = .ok (.iload_n 1, 1) := by decide +kernel
theorem dX7_works_195 : decode cX7_works 195 = .ok (.iadd, 1) := by decide +kernel
theorem dX7_works_196 : decode cX7_works 196 = .ok (.iaload, 1) := by decide +kernel
theorem dX7_works_197 : decode cX7_works 197 = .ok (.isub, 1) := by decide +kernel
theorem dX7_works_198 : decode cX7_works 198 = .ok (.invokestatic 257, 3) := by decide +kernel
theorem dX7_works_201 : decode cX7_works 201 = .ok (.iastore, 1) := by decide +kernel
theorem dX7_works_202 : decode cX7_works 202 = .ok (.return_, 1) := by decide +kernel
theorem dX7_lastOf_0 : decode cX7_lastOf 0 = .ok (.iconst 0, 1) := by decide +kernel
theorem dX7_lastOf_1 : decode cX7_lastOf 1 = .ok (.istore_n 1, 1) := by decide +kernel
theorem dX7_lastOf_2 : decode cX7_lastOf 2 = .ok (.iconst 0, 1) := by decide +kernel
theorem dX7_lastOf_3 : decode cX7_lastOf 3 = .ok (.istore_n 2, 1) := by decide +kernel
theorem dX7_lastOf_4 : decode cX7_lastOf 4 = .ok (.iload_n 2, 1) := by decide +kernel
theorem dX7_lastOf_5 : decode cX7_lastOf 5 = .ok (.aload_n 0, 1) := by decide +kernel
theorem dX7_lastOf_6 : decode cX7_lastOf 6 = .ok (.getfield 228, 3) := by decide +kernel
theorem dX7_lastOf_9 : decode cX7_lastOf 9 = .ok (.if_icmp .ge 42, 3) := by decide +kernel
theorem dX7_lastOf_12 : decode cX7_lastOf 12 = .ok (.aload_n 0, 1) := by decide +kernel
theorem dX7_lastOf_13 : decode cX7_lastOf 13 = .ok (.getfield 47, 3) := by decide +kernel
theorem dX7_lastOf_16 : decode cX7_lastOf 16 = .ok (.aload_n 0, 1) := by decide +kernel
theorem dX7_lastOf_17 : decode cX7_lastOf 17 = .ok (.getfield 32, 3) := by decide +kernel
theorem dX7_lastOf_20 : decode cX7_lastOf 20 = .ok (.iload_n 2, 1) := by decide +kernel
theorem dX7_lastOf_21 : decode cX7_lastOf 21 = .ok (.iaload, 1) := by decide +kernel
theorem dX7_lastOf_22 : decode cX7_lastOf 22 = .ok (.iaload, 1) := by decide +kernel
theorem dX7_lastOf_23 : decode cX7_lastOf 23 = .ok (.iconst (-1), 1) := by decide +kernel
theorem dX7_lastOf_24 : decode cX7_lastOf 24 = .ok (.if_icmp .ne 5, 3) := by decide +kernel
theorem dX7_lastOf_27 : decode cX7_lastOf 27 = .ok (.iconst (-1), 1) := by decide +kernel
theorem dX7_lastOf_28 : decode cX7_lastOf 28 = .ok (.ireturn, 1) := by decide +kernel
theorem dX7_lastOf_29 : decode cX7_lastOf 29 = .ok (.iload_n 1, 1) := by decide +kernel
theorem dX7_lastOf_30 : decode cX7_lastOf 30 = .ok (.aload_n 0, 1) := by decide +kernel
theorem dX7_lastOf_31 : decode cX7_lastOf 31 = .ok (.getfield 47, 3) := by decide +kernel
theorem dX7_lastOf_34 : decode cX7_lastOf 34 = .ok (.aload_n 0, 1) := by decide +kernel
theorem dX7_lastOf_35 : decode cX7_lastOf 35 = .ok (.getfield 32, 3) := by decide +kernel
theorem dX7_lastOf_38 : decode cX7_lastOf 38 = .ok (.iload_n 2, 1) := by decide +kernel
theorem dX7_lastOf_39 : decode cX7_lastOf 39 = .ok (.iaload, 1) := by decide +kernel
theorem dX7_lastOf_40 : decode cX7_lastOf 40 = .ok (.iaload, 1) := by decide +kernel
theorem dX7_lastOf_41 : decode cX7_lastOf 41 = .ok (.invokestatic 257, 3) := by decide +kernel
theorem dX7_lastOf_44 : decode cX7_lastOf 44 = .ok (.istore_n 1, 1) := by decide +kernel
theorem dX7_lastOf_45 : decode cX7_lastOf 45 = .ok (.iinc 2 1, 3) := by decide +kernel
theorem dX7_lastOf_48 : decode cX7_lastOf 48 = .ok (.goto (-44), 3) := by decide +kernel
theorem dX7_lastOf_51 : decode cX7_lastOf 51 = .ok (.iload_n 1, 1) := by decide +kernel
theorem dX7_lastOf_52 : decode cX7_lastOf 52 = .ok (.ireturn, 1) := by decide +kernel
theorem dX7_ends_0 : decode cX7_ends 0 = .ok (.aload_n 0, 1) := by decide +kernel
theorem dX7_ends_1 : decode cX7_ends 1 = .ok (.invokevirtual 260, 3) := by decide +kernel
theorem dX7_ends_4 : decode cX7_ends 4 = .ok (.iconst 0, 1) := by decide +kernel
theorem dX7_ends_5 : decode cX7_ends 5 = .ok (.istore_n 1, 1) := by decide +kernel
theorem dX7_ends_6 : decode cX7_ends 6 = .ok (.iload_n 1, 1) := by decide +kernel
theorem dX7_ends_7 : decode cX7_ends 7 = .ok (.sipush 480, 3) := by decide +kernel
theorem dX7_ends_10 : decode cX7_ends 10 = .ok (.if_icmp .ge 48, 3) := by decide +kernel
theorem dX7_ends_13 : decode cX7_ends 13 = .ok (.aload_n 0, 1) := by decide +kernel
theorem dX7_ends_14 : decode cX7_ends 14 = .ok (.invokevirtual 263, 3) := by decide +kernel
theorem dX7_ends_17 : decode cX7_ends 17 = .ok (.iconst (-1), 1) := by decide +kernel
theorem dX7_ends_18 : decode cX7_ends 18 = .ok (.if_icmp .ne 40, 3) := by decide +kernel
theorem dX7_ends_21 : decode cX7_ends 21 = .ok (.aload_n 0, 1) := by decide +kernel
theorem dX7_ends_22 : decode cX7_ends 22 = .ok (.invokevirtual 266, 3) := by decide +kernel
theorem dX7_ends_25 : decode cX7_ends 25 = .ok (.iconst 0, 1) := by decide +kernel
theorem dX7_ends_26 : decode cX7_ends 26 = .ok (.istore_n 2, 1) := by decide +kernel
theorem dX7_ends_27 : decode cX7_ends 27 = .ok (.iload_n 2, 1) := by decide +kernel
theorem dX7_ends_28 : decode cX7_ends 28 = .ok (.aload_n 0, 1) := by decide +kernel
theorem dX7_ends_29 : decode cX7_ends 29 = .ok (.getfield 228, 3) := by decide +kernel
theorem dX7_ends_32 : decode cX7_ends 32 = .ok (.if_icmp .ge 20, 3) := by decide +kernel
theorem dX7_ends_35 : decode cX7_ends 35 = .ok (.aload_n 0, 1) := by decide +kernel
theorem dX7_ends_36 : decode cX7_ends 36 = .ok (.aload_n 0, 1) := by decide +kernel
theorem dX7_ends_37 : decode cX7_ends 37 = .ok (.getfield 32, 3) := by decide +kernel
theorem dX7_ends_40 : decode cX7_ends 40 = .ok (.iload_n 2, 1) := by decide +kernel
theorem dX7_ends_41 : decode cX7_ends 41 = .ok (.iaload, 1) := by decide +kernel
theorem dX7_ends_42 : decode cX7_ends 42 = .ok (.iload_n 1, 1) := by decide +kernel
theorem dX7_ends_43 : decode cX7_ends 43 = .ok (.invokevirtual 269, 3) := by decide +kernel
theorem dX7_ends_46 : decode cX7_ends 46 = .ok (.iinc 2 1, 3) := by decide +kernel
theorem dX7_ends_49 : decode cX7_ends 49 = .ok (.goto (-22), 3) := by decide +kernel
theorem dX7_ends_52 : decode cX7_ends 52 = .ok (.iinc 1 1, 3) := by decide +kernel
theorem dX7_ends_55 : decode cX7_ends 55 = .ok (.goto (-49), 3) := by decide +kernel
theorem dX7_ends_58 : decode cX7_ends 58 = .ok (.aload_n 0, 1) := by decide +kernel
theorem dX7_ends_59 : decode cX7_ends 59 = .ok (.invokevirtual 263, 3) := by decide +kernel
theorem dX7_ends_62 : decode cX7_ends 62 = .ok (.ireturn, 1) := by decide +kernel
theorem dX7_orders_0 : decode cX7_orders 0 = .ok (.aload_n 0, 1) := by decide +kernel
theorem dX7_orders_1 : decode cX7_orders 1 = .ok (.aload_n 0, 1) := by decide +kernel
theorem dX7_orders_2 : decode cX7_orders 2 = .ok (.getfield 13, 3) := by decide +kernel
theorem dX7_orders_5 : decode cX7_orders 5 = .ok (.bipush 18, 2) := by decide +kernel
theorem dX7_orders_7 : decode cX7_orders 7 = .ok (.iaload, 1) := by decide +kernel
theorem dX7_orders_8 : decode cX7_orders 8 = .ok (.putfield 228, 3) := by decide +kernel
theorem dX7_orders_11 : decode cX7_orders 11 = .ok (.iconst 0, 1) := by decide +kernel
theorem dX7_orders_12 : decode cX7_orders 12 = .ok (.istore_n 1, 1) := by decide +kernel
theorem dX7_orders_13 : decode cX7_orders 13 = .ok (.iload_n 1, 1) := by decide +kernel
theorem dX7_orders_14 : decode cX7_orders 14 = .ok (.aload_n 0, 1) := by decide +kernel
theorem dX7_orders_15 : decode cX7_orders 15 = .ok (.getfield 228, 3) := by decide +kernel
theorem dX7_orders_18 : decode cX7_orders 18 = .ok (.if_icmp .ge 24, 3) := by decide +kernel
theorem dX7_orders_21 : decode cX7_orders 21 = .ok (.aload_n 0, 1) := by decide +kernel
theorem dX7_orders_22 : decode cX7_orders 22 = .ok (.getfield 32, 3) := by decide +kernel
theorem dX7_orders_25 : decode cX7_orders 25 = .ok (.iload_n 1, 1) := by decide +kernel
theorem dX7_orders_26 : decode cX7_orders 26 = .ok (.aload_n 0, 1) := by decide +kernel
theorem dX7_orders_27 : decode cX7_orders 27 = .ok (.getfield 19, 3) := by decide +kernel
theorem dX7_orders_30 : decode cX7_orders 30 = .ok (.bipush 72, 2) := by decide +kernel
theorem dX7_orders_32 : decode cX7_orders 32 = .ok (.iload_n 1, 1) := by decide +kernel
theorem dX7_orders_33 : decode cX7_orders 33 = .ok (.iadd, 1) := by decide +kernel
theorem dX7_orders_34 : decode cX7_orders 34 = .ok (.iaload, 1) := by decide +kernel
theorem dX7_orders_35 : decode cX7_orders 35 = .ok (.iastore, 1) := by decide +kernel
theorem dX7_orders_36 : decode cX7_orders 36 = .ok (.iinc 1 1, 3) := by decide +kernel
theorem dX7_orders_39 : decode cX7_orders 39 = .ok (.goto (-26), 3) := by decide +kernel
theorem dX7_orders_42 : decode cX7_orders 42 = .ok (.aload_n 0, 1) := by decide +kernel
theorem dX7_orders_43 : decode cX7_orders 43 = .ok (.aload_n 0, 1) := by decide +kernel
theorem dX7_orders_44 : decode cX7_orders 44 = .ok (.getfield 19, 3) := by decide +kernel
theorem dX7_orders_47 : decode cX7_orders 47 = .ok (.bipush 79, 2) := by decide +kernel
theorem dX7_orders_49 : decode cX7_orders 49 = .ok (.iaload, 1) := by decide +kernel
theorem dX7_orders_50 : decode cX7_orders 50 = .ok (.putfield 225, 3) := by decide +kernel
theorem dX7_orders_53 : decode cX7_orders 53 = .ok (.aload_n 0, 1) := by decide +kernel
theorem dX7_orders_54 : decode cX7_orders 54 = .ok (.iconst (-1), 1) := by decide +kernel
theorem dX7_orders_55 : decode cX7_orders 55 = .ok (.putfield 246, 3) := by decide +kernel
theorem dX7_orders_58 : decode cX7_orders 58 = .ok (.return_, 1) := by decide +kernel
theorem dX7_runs_0 : decode cX7_runs 0 = .ok (.aload_n 0, 1) := by decide +kernel
theorem dX7_runs_1 : decode cX7_runs 1 = .ok (.getfield 98, 3) := by decide +kernel
theorem dX7_runs_4 : decode cX7_runs 4 = .ok (.ifCond .eq 4, 3) := by decide +kernel
theorem dX7_runs_7 : decode cX7_runs 7 = .ok (.return_, 1) := by decide +kernel
theorem dX7_runs_8 : decode cX7_runs 8 = .ok (.aload_n 0, 1) := by decide +kernel
theorem dX7_runs_9 : decode cX7_runs 9 = .ok (.iconst 1, 1) := by decide +kernel
theorem dX7_runs_10 : decode cX7_runs 10 = .ok (.putfield 98, 3) := by decide +kernel
theorem dX7_runs_13 : decode cX7_runs 13 = .ok (.aload_n 0, 1) := by decide +kernel
theorem dX7_runs_14 : decode cX7_runs 14 = .ok (.invokevirtual 273, 3) := by decide +kernel
theorem dX7_runs_17 : decode cX7_runs 17 = .ok (.aload_n 0, 1) := by decide +kernel
theorem dX7_runs_18 : decode cX7_runs 18 = .ok (.invokevirtual 260, 3) := by decide +kernel
theorem dX7_runs_21 : decode cX7_runs 21 = .ok (.iconst 0, 1) := by decide +kernel
theorem dX7_runs_22 : decode cX7_runs 22 = .ok (.istore_n 1, 1) := by decide +kernel
theorem dX7_runs_23 : decode cX7_runs 23 = .ok (.iload_n 1, 1) := by decide +kernel
theorem dX7_runs_24 : decode cX7_runs 24 = .ok (.sipush 480, 3) := by decide +kernel
theorem dX7_runs_27 : decode cX7_runs 27 = .ok (.if_icmp .gt 125, 3) := by decide +kernel
theorem dX7_runs_30 : decode cX7_runs 30 = .ok (.iconst 0, 1) := by decide +kernel
theorem dX7_runs_31 : decode cX7_runs 31 = .ok (.istore_n 2, 1) := by decide +kernel
theorem dX7_runs_32 : decode cX7_runs 32 = .ok (.iload_n 2, 1) := by decide +kernel
theorem dX7_runs_33 : decode cX7_runs 33 = .ok (.bipush 6, 2) := by decide +kernel
theorem dX7_runs_35 : decode cX7_runs 35 = .ok (.if_icmp .ge 43, 3) := by decide +kernel
theorem dX7_runs_38 : decode cX7_runs 38 = .ok (.aload_n 0, 1) := by decide +kernel
theorem dX7_runs_39 : decode cX7_runs 39 = .ok (.getfield 56, 3) := by decide +kernel
theorem dX7_runs_42 : decode cX7_runs 42 = .ok (.bipush 6, 2) := by decide +kernel
theorem dX7_runs_44 : decode cX7_runs 44 = .ok (.iload_n 1, 1) := by decide +kernel
theorem dX7_runs_45 : decode cX7_runs 45 = .ok (.imul, 1) := by decide +kernel
theorem dX7_runs_46 : decode cX7_runs 46 = .ok (.iload_n 2, 1) := by decide +kernel
theorem dX7_runs_47 : decode cX7_runs 47 = .ok (.iadd, 1) := by decide +kernel
theorem dX7_runs_48 : decode cX7_runs 48 = .ok (.aload_n 0, 1) := by decide +kernel
theorem dX7_runs_49 : decode cX7_runs 49 = .ok (.getfield 35, 3) := by decide +kernel
theorem dX7_runs_52 : decode cX7_runs 52 = .ok (.iload_n 2, 1) := by decide +kernel
theorem dX7_runs_53 : decode cX7_runs 53 = .ok (.iaload, 1) := by decide +kernel
theorem dX7_runs_54 : decode cX7_runs 54 = .ok (.iastore, 1) := by decide +kernel
theorem dX7_runs_55 : decode cX7_runs 55 = .ok (.aload_n 0, 1) := by decide +kernel
theorem dX7_runs_56 : decode cX7_runs 56 = .ok (.getfield 62, 3) := by decide +kernel
theorem dX7_runs_59 : decode cX7_runs 59 = .ok (.bipush 6, 2) := by decide +kernel
theorem dX7_runs_61 : decode cX7_runs 61 = .ok (.iload_n 1, 1) := by decide +kernel
theorem dX7_runs_62 : decode cX7_runs 62 = .ok (.imul, 1) := by decide +kernel
theorem dX7_runs_63 : decode cX7_runs 63 = .ok (.iload_n 2, 1) := by decide +kernel
theorem dX7_runs_64 : decode cX7_runs 64 = .ok (.iadd, 1) := by decide +kernel
theorem dX7_runs_65 : decode cX7_runs 65 = .ok (.aload_n 0, 1) := by decide +kernel
theorem dX7_runs_66 : decode cX7_runs 66 = .ok (.getfield 41, 3) := by decide +kernel
theorem dX7_runs_69 : decode cX7_runs 69 = .ok (.iload_n 2, 1) := by decide +kernel
theorem dX7_runs_70 : decode cX7_runs 70 = .ok (.iaload, 1) := by decide +kernel
theorem dX7_runs_71 : decode cX7_runs 71 = .ok (.iastore, 1) := by decide +kernel
theorem dX7_runs_72 : decode cX7_runs 72 = .ok (.iinc 2 1, 3) := by decide +kernel
theorem dX7_runs_75 : decode cX7_runs 75 = .ok (.goto (-43), 3) := by decide +kernel
theorem dX7_runs_78 : decode cX7_runs 78 = .ok (.iload_n 1, 1) := by decide +kernel
theorem dX7_runs_79 : decode cX7_runs 79 = .ok (.sipush 480, 3) := by decide +kernel
theorem dX7_runs_82 : decode cX7_runs 82 = .ok (.if_icmp .ne 6, 3) := by decide +kernel
theorem dX7_runs_85 : decode cX7_runs 85 = .ok (.goto 61, 3) := by decide +kernel
theorem dX7_runs_88 : decode cX7_runs 88 = .ok (.aload_n 0, 1) := by decide +kernel
theorem dX7_runs_89 : decode cX7_runs 89 = .ok (.invokevirtual 266, 3) := by decide +kernel
theorem dX7_runs_92 : decode cX7_runs 92 = .ok (.iconst 0, 1) := by decide +kernel
theorem dX7_runs_93 : decode cX7_runs 93 = .ok (.istore_n 2, 1) := by decide +kernel
theorem dX7_runs_94 : decode cX7_runs 94 = .ok (.iload_n 2, 1) := by decide +kernel
theorem dX7_runs_95 : decode cX7_runs 95 = .ok (.aload_n 0, 1) := by decide +kernel
theorem dX7_runs_96 : decode cX7_runs 96 = .ok (.getfield 228, 3) := by decide +kernel
theorem dX7_runs_99 : decode cX7_runs 99 = .ok (.if_icmp .ge 47, 3) := by decide +kernel
theorem dX7_runs_102 : decode cX7_runs 102 = .ok (.aload_n 0, 1) := by decide +kernel
theorem dX7_runs_103 : decode cX7_runs 103 = .ok (.getfield 59, 3) := by decide +kernel
theorem dX7_runs_106 : decode cX7_runs 106 = .ok (.bipush 6, 2) := by decide +kernel
theorem dX7_runs_108 : decode cX7_runs 108 = .ok (.iload_n 1, 1) := by decide +kernel
theorem dX7_runs_109 : decode cX7_runs 109 = .ok (.imul, 1) := by decide +kernel
theorem dX7_runs_110 : decode cX7_runs 110 = .ok (.aload_n 0, 1) := by decide +kernel
theorem dX7_runs_111 : decode cX7_runs 111 = .ok (.getfield 32, 3) := by decide +kernel
theorem dX7_runs_114 : decode cX7_runs 114 = .ok (.iload_n 2, 1) := by decide +kernel
theorem dX7_runs_115 : decode cX7_runs 115 = .ok (.iaload, 1) := by decide +kernel
theorem dX7_runs_116 : decode cX7_runs 116 = .ok (.iadd, 1) := by decide +kernel
theorem dX7_runs_117 : decode cX7_runs 117 = .ok (.aload_n 0, 1) := by decide +kernel
theorem dX7_runs_118 : decode cX7_runs 118 = .ok (.getfield 38, 3) := by decide +kernel
theorem dX7_runs_121 : decode cX7_runs 121 = .ok (.aload_n 0, 1) := by decide +kernel
theorem dX7_runs_122 : decode cX7_runs 122 = .ok (.getfield 32, 3) := by decide +kernel
theorem dX7_runs_125 : decode cX7_runs 125 = .ok (.iload_n 2, 1) := by decide +kernel
theorem dX7_runs_126 : decode cX7_runs 126 = .ok (.iaload, 1) := by decide +kernel
theorem dX7_runs_127 : decode cX7_runs 127 = .ok (.iaload, 1) := by decide +kernel
theorem dX7_runs_128 : decode cX7_runs 128 = .ok (.iastore, 1) := by decide +kernel
theorem dX7_runs_129 : decode cX7_runs 129 = .ok (.aload_n 0, 1) := by decide +kernel
theorem dX7_runs_130 : decode cX7_runs 130 = .ok (.aload_n 0, 1) := by decide +kernel
theorem dX7_runs_131 : decode cX7_runs 131 = .ok (.getfield 32, 3) := by decide +kernel
theorem dX7_runs_134 : decode cX7_runs 134 = .ok (.iload_n 2, 1) := by decide +kernel
theorem dX7_runs_135 : decode cX7_runs 135 = .ok (.iaload, 1) := by decide +kernel
theorem dX7_runs_136 : decode cX7_runs 136 = .ok (.iload_n 1, 1) := by decide +kernel
theorem dX7_runs_137 : decode cX7_runs 137 = .ok (.invokevirtual 269, 3) := by decide +kernel
theorem dX7_runs_140 : decode cX7_runs 140 = .ok (.iinc 2 1, 3) := by decide +kernel
theorem dX7_runs_143 : decode cX7_runs 143 = .ok (.goto (-49), 3) := by decide +kernel
theorem dX7_runs_146 : decode cX7_runs 146 = .ok (.iinc 1 1, 3) := by decide +kernel
theorem dX7_runs_149 : decode cX7_runs 149 = .ok (.goto (-126), 3) := by decide +kernel
theorem dX7_runs_152 : decode cX7_runs 152 = .ok (.iconst 0, 1) := by decide +kernel
theorem dX7_runs_153 : decode cX7_runs 153 = .ok (.istore_n 1, 1) := by decide +kernel
theorem dX7_runs_154 : decode cX7_runs 154 = .ok (.iload_n 1, 1) := by decide +kernel
theorem dX7_runs_155 : decode cX7_runs 155 = .ok (.bipush 6, 2) := by decide +kernel
theorem dX7_runs_157 : decode cX7_runs 157 = .ok (.if_icmp .ge 45, 3) := by decide +kernel
theorem dX7_runs_160 : decode cX7_runs 160 = .ok (.aload_n 0, 1) := by decide +kernel
theorem dX7_runs_161 : decode cX7_runs 161 = .ok (.getfield 65, 3) := by decide +kernel
theorem dX7_runs_164 : decode cX7_runs 164 = .ok (.iload_n 1, 1) := by decide +kernel
theorem dX7_runs_165 : decode cX7_runs 165 = .ok (.aload_n 0, 1) := by decide +kernel
theorem dX7_runs_166 : decode cX7_runs 166 = .ok (.getfield 47, 3) := by decide +kernel
theorem dX7_runs_169 : decode cX7_runs 169 = .ok (.iload_n 1, 1) := by decide +kernel
theorem dX7_runs_170 : decode cX7_runs 170 = .ok (.iaload, 1) := by decide +kernel
theorem dX7_runs_171 : decode cX7_runs 171 = .ok (.iastore, 1) := by decide +kernel
theorem dX7_runs_172 : decode cX7_runs 172 = .ok (.aload_n 0, 1) := by decide +kernel
theorem dX7_runs_173 : decode cX7_runs 173 = .ok (.getfield 68, 3) := by decide +kernel
theorem dX7_runs_176 : decode cX7_runs 176 = .ok (.iload_n 1, 1) := by decide +kernel
theorem dX7_runs_177 : decode cX7_runs 177 = .ok (.aload_n 0, 1) := by decide +kernel
theorem dX7_runs_178 : decode cX7_runs 178 = .ok (.getfield 50, 3) := by decide +kernel
theorem dX7_runs_181 : decode cX7_runs 181 = .ok (.iload_n 1, 1) := by decide +kernel
theorem dX7_runs_182 : decode cX7_runs 182 = .ok (.iaload, 1) := by decide +kernel
theorem dX7_runs_183 : decode cX7_runs 183 = .ok (.iastore, 1) := by decide +kernel
theorem dX7_runs_184 : decode cX7_runs 184 = .ok (.aload_n 0, 1) := by decide +kernel
theorem dX7_runs_185 : decode cX7_runs 185 = .ok (.getfield 71, 3) := by decide +kernel
theorem dX7_runs_188 : decode cX7_runs 188 = .ok (.iload_n 1, 1) := by decide +kernel
theorem dX7_runs_189 : decode cX7_runs 189 = .ok (.aload_n 0, 1) := by decide +kernel
theorem dX7_runs_190 : decode cX7_runs 190 = .ok (.getfield 53, 3) := by decide +kernel
theorem dX7_runs_193 : decode cX7_runs 193 = .ok (.iload_n 1, 1) := by decide +kernel
theorem dX7_runs_194 : decode cX7_runs 194 = .ok (.iaload, 1) := by decide +kernel
theorem dX7_runs_195 : decode cX7_runs 195 = .ok (.iastore, 1) := by decide +kernel
theorem dX7_runs_196 : decode cX7_runs 196 = .ok (.iinc 1 1, 3) := by decide +kernel
theorem dX7_runs_199 : decode cX7_runs 199 = .ok (.goto (-45), 3) := by decide +kernel
theorem dX7_runs_202 : decode cX7_runs 202 = .ok (.return_, 1) := by decide +kernel
theorem dX7_finish_0 : decode cX7_finish 0 = .ok (.aload_n 0, 1) := by decide +kernel
theorem dX7_finish_1 : decode cX7_finish 1 = .ok (.iconst 0, 1) := by decide +kernel
theorem dX7_finish_2 : decode cX7_finish 2 = .ok (.putfield 83, 3) := by decide +kernel
theorem dX7_finish_5 : decode cX7_finish 5 = .ok (.aload_n 0, 1) := by decide +kernel
theorem dX7_finish_6 : decode cX7_finish 6 = .ok (.invokevirtual 273, 3) := by decide +kernel
theorem dX7_finish_9 : decode cX7_finish 9 = .ok (.aload_n 0, 1) := by decide +kernel
theorem dX7_finish_10 : decode cX7_finish 10 = .ok (.invokevirtual 276, 3) := by decide +kernel
theorem dX7_finish_13 : decode cX7_finish 13 = .ok (.ireturn, 1) := by decide +kernel
theorem dX7_finishOf_0 : decode cX7_finishOf 0 = .ok (.aload_n 0, 1) := by decide +kernel
theorem dX7_finishOf_1 : decode cX7_finishOf 1 = .ok (.aload_n 0, 1) := by decide +kernel
theorem dX7_finishOf_2 : decode cX7_finishOf 2 = .ok (.iload_n 1, 1) := by decide +kernel
theorem dX7_finishOf_3 : decode cX7_finishOf 3 = .ok (.invokevirtual 202, 3) := by decide +kernel
theorem dX7_finishOf_6 : decode cX7_finishOf 6 = .ok (.invokevirtual 205, 3) := by decide +kernel
theorem dX7_finishOf_9 : decode cX7_finishOf 9 = .ok (.ifCond .ne 5, 3) := by decide +kernel
theorem dX7_finishOf_12 : decode cX7_finishOf 12 = .ok (.iconst 0, 1) := by decide +kernel
theorem dX7_finishOf_13 : decode cX7_finishOf 13 = .ok (.ireturn, 1) := by decide +kernel
theorem dX7_finishOf_14 : decode cX7_finishOf 14 = .ok (.aload_n 0, 1) := by decide +kernel
theorem dX7_finishOf_15 : decode cX7_finishOf 15 = .ok (.invokevirtual 279, 3) := by decide +kernel
theorem dX7_finishOf_18 : decode cX7_finishOf 18 = .ok (.aload_n 0, 1) := by decide +kernel
theorem dX7_finishOf_19 : decode cX7_finishOf 19 = .ok (.getfield 65, 3) := by decide +kernel
theorem dX7_finishOf_22 : decode cX7_finishOf 22 = .ok (.iload_n 1, 1) := by decide +kernel
theorem dX7_finishOf_23 : decode cX7_finishOf 23 = .ok (.iaload, 1) := by decide +kernel
theorem dX7_finishOf_24 : decode cX7_finishOf 24 = .ok (.ireturn, 1) := by decide +kernel
theorem dX7_heatAfter_0 : decode cX7_heatAfter 0 = .ok (.aload_n 0, 1) := by decide +kernel
theorem dX7_heatAfter_1 : decode cX7_heatAfter 1 = .ok (.aload_n 0, 1) := by decide +kernel
theorem dX7_heatAfter_2 : decode cX7_heatAfter 2 = .ok (.iload_n 1, 1) := by decide +kernel
theorem dX7_heatAfter_3 : decode cX7_heatAfter 3 = .ok (.invokevirtual 202, 3) := by decide +kernel
theorem dX7_heatAfter_6 : decode cX7_heatAfter 6 = .ok (.invokevirtual 205, 3) := by decide +kernel
theorem dX7_heatAfter_9 : decode cX7_heatAfter 9 = .ok (.ifCond .ne 5, 3) := by decide +kernel
theorem dX7_heatAfter_12 : decode cX7_heatAfter 12 = .ok (.iconst 0, 1) := by decide +kernel
theorem dX7_heatAfter_13 : decode cX7_heatAfter 13 = .ok (.ireturn, 1) := by decide +kernel
theorem dX7_heatAfter_14 : decode cX7_heatAfter 14 = .ok (.iload_n 2, 1) := by decide +kernel
theorem dX7_heatAfter_15 : decode cX7_heatAfter 15 = .ok (.ifCond .lt 10, 3) := by decide +kernel
theorem dX7_heatAfter_18 : decode cX7_heatAfter 18 = .ok (.iload_n 2, 1) := by decide +kernel
theorem dX7_heatAfter_19 : decode cX7_heatAfter 19 = .ok (.sipush 480, 3) := by decide +kernel
theorem dX7_heatAfter_22 : decode cX7_heatAfter 22 = .ok (.if_icmp .le 6, 3) := by decide +kernel
theorem dX7_heatAfter_25 : decode cX7_heatAfter 25 = .ok (.bipush (-2), 2) := by decide +kernel
theorem dX7_heatAfter_27 : decode cX7_heatAfter 27 = .ok (.ireturn, 1) := by decide +kernel
theorem dX7_heatAfter_28 : decode cX7_heatAfter 28 = .ok (.aload_n 0, 1) := by decide +kernel
theorem dX7_heatAfter_29 : decode cX7_heatAfter 29 = .ok (.invokevirtual 279, 3) := by decide +kernel
theorem dX7_heatAfter_32 : decode cX7_heatAfter 32 = .ok (.aload_n 0, 1) := by decide +kernel
theorem dX7_heatAfter_33 : decode cX7_heatAfter 33 = .ok (.getfield 56, 3) := by decide +kernel
theorem dX7_heatAfter_36 : decode cX7_heatAfter 36 = .ok (.bipush 6, 2) := by decide +kernel
theorem dX7_heatAfter_38 : decode cX7_heatAfter 38 = .ok (.iload_n 2, 1) := by decide +kernel
theorem dX7_heatAfter_39 : decode cX7_heatAfter 39 = .ok (.imul, 1) := by decide +kernel
theorem dX7_heatAfter_40 : decode cX7_heatAfter 40 = .ok (.iload_n 1, 1) := by decide +kernel
theorem dX7_heatAfter_41 : decode cX7_heatAfter 41 = .ok (.iadd, 1) := by decide +kernel
theorem dX7_heatAfter_42 : decode cX7_heatAfter 42 = .ok (.iaload, 1) := by decide +kernel
theorem dX7_heatAfter_43 : decode cX7_heatAfter 43 = .ok (.ireturn, 1) := by decide +kernel
theorem dX7_whereIn_0 : decode cX7_whereIn 0 = .ok (.aload_n 0, 1) := by decide +kernel
theorem dX7_whereIn_1 : decode cX7_whereIn 1 = .ok (.aload_n 0, 1) := by decide +kernel
theorem dX7_whereIn_2 : decode cX7_whereIn 2 = .ok (.iload_n 1, 1) := by decide +kernel
theorem dX7_whereIn_3 : decode cX7_whereIn 3 = .ok (.invokevirtual 202, 3) := by decide +kernel
theorem dX7_whereIn_6 : decode cX7_whereIn 6 = .ok (.invokevirtual 205, 3) := by decide +kernel
theorem dX7_whereIn_9 : decode cX7_whereIn 9 = .ok (.ifCond .ne 5, 3) := by decide +kernel
theorem dX7_whereIn_12 : decode cX7_whereIn 12 = .ok (.iconst 0, 1) := by decide +kernel
theorem dX7_whereIn_13 : decode cX7_whereIn 13 = .ok (.ireturn, 1) := by decide +kernel
theorem dX7_whereIn_14 : decode cX7_whereIn 14 = .ok (.iload_n 2, 1) := by decide +kernel
theorem dX7_whereIn_15 : decode cX7_whereIn 15 = .ok (.ifCond .lt 10, 3) := by decide +kernel
theorem dX7_whereIn_18 : decode cX7_whereIn 18 = .ok (.iload_n 2, 1) := by decide +kernel
theorem dX7_whereIn_19 : decode cX7_whereIn 19 = .ok (.sipush 480, 3) := by decide +kernel
theorem dX7_whereIn_22 : decode cX7_whereIn 22 = .ok (.if_icmp .lt 6, 3) := by decide +kernel
theorem dX7_whereIn_25 : decode cX7_whereIn 25 = .ok (.bipush (-2), 2) := by decide +kernel
theorem dX7_whereIn_27 : decode cX7_whereIn 27 = .ok (.ireturn, 1) := by decide +kernel
theorem dX7_whereIn_28 : decode cX7_whereIn 28 = .ok (.aload_n 0, 1) := by decide +kernel
theorem dX7_whereIn_29 : decode cX7_whereIn 29 = .ok (.invokevirtual 279, 3) := by decide +kernel
theorem dX7_whereIn_32 : decode cX7_whereIn 32 = .ok (.aload_n 0, 1) := by decide +kernel
theorem dX7_whereIn_33 : decode cX7_whereIn 33 = .ok (.getfield 59, 3) := by decide +kernel
theorem dX7_whereIn_36 : decode cX7_whereIn 36 = .ok (.bipush 6, 2) := by decide +kernel
theorem dX7_whereIn_38 : decode cX7_whereIn 38 = .ok (.iload_n 2, 1) := by decide +kernel
theorem dX7_whereIn_39 : decode cX7_whereIn 39 = .ok (.imul, 1) := by decide +kernel
theorem dX7_whereIn_40 : decode cX7_whereIn 40 = .ok (.iload_n 1, 1) := by decide +kernel
theorem dX7_whereIn_41 : decode cX7_whereIn 41 = .ok (.iadd, 1) := by decide +kernel
theorem dX7_whereIn_42 : decode cX7_whereIn 42 = .ok (.iaload, 1) := by decide +kernel
theorem dX7_whereIn_43 : decode cX7_whereIn 43 = .ok (.ireturn, 1) := by decide +kernel
theorem dX7_stepsAfter_0 : decode cX7_stepsAfter 0 = .ok (.aload_n 0, 1) := by decide +kernel
theorem dX7_stepsAfter_1 : decode cX7_stepsAfter 1 = .ok (.aload_n 0, 1) := by decide +kernel
theorem dX7_stepsAfter_2 : decode cX7_stepsAfter 2 = .ok (.iload_n 1, 1) := by decide +kernel
theorem dX7_stepsAfter_3 : decode cX7_stepsAfter 3 = .ok (.invokevirtual 202, 3) := by decide +kernel
theorem dX7_stepsAfter_6 : decode cX7_stepsAfter 6 = .ok (.invokevirtual 205, 3) := by decide +kernel
theorem dX7_stepsAfter_9 : decode cX7_stepsAfter 9 = .ok (.ifCond .ne 5, 3) := by decide +kernel
theorem dX7_stepsAfter_12 : decode cX7_stepsAfter 12 = .ok (.iconst 0, 1) := by decide +kernel
theorem dX7_stepsAfter_13 : decode cX7_stepsAfter 13 = .ok (.ireturn, 1) := by decide +kernel
theorem dX7_stepsAfter_14 : decode cX7_stepsAfter 14 = .ok (.iload_n 2, 1) := by decide +kernel
theorem dX7_stepsAfter_15 : decode cX7_stepsAfter 15 = .ok (.ifCond .lt 10, 3) := by decide +kernel
theorem dX7_stepsAfter_18 : decode cX7_stepsAfter 18 = .ok (.iload_n 2, 1) := by decide +kernel
theorem dX7_stepsAfter_19 : decode cX7_stepsAfter 19 = .ok (.sipush 480, 3) := by decide +kernel
theorem dX7_stepsAfter_22 : decode cX7_stepsAfter 22 = .ok (.if_icmp .le 6, 3) := by decide +kernel
theorem dX7_stepsAfter_25 : decode cX7_stepsAfter 25 = .ok (.bipush (-2), 2) := by decide +kernel
theorem dX7_stepsAfter_27 : decode cX7_stepsAfter 27 = .ok (.ireturn, 1) := by decide +kernel
theorem dX7_stepsAfter_28 : decode cX7_stepsAfter 28 = .ok (.aload_n 0, 1) := by decide +kernel
theorem dX7_stepsAfter_29 : decode cX7_stepsAfter 29 = .ok (.invokevirtual 279, 3) := by decide +kernel
theorem dX7_stepsAfter_32 : decode cX7_stepsAfter 32 = .ok (.aload_n 0, 1) := by decide +kernel
theorem dX7_stepsAfter_33 : decode cX7_stepsAfter 33 = .ok (.getfield 62, 3) := by decide +kernel
theorem dX7_stepsAfter_36 : decode cX7_stepsAfter 36 = .ok (.bipush 6, 2) := by decide +kernel
theorem dX7_stepsAfter_38 : decode cX7_stepsAfter 38 = .ok (.iload_n 2, 1) := by decide +kernel
theorem dX7_stepsAfter_39 : decode cX7_stepsAfter 39 = .ok (.imul, 1) := by decide +kernel
theorem dX7_stepsAfter_40 : decode cX7_stepsAfter 40 = .ok (.iload_n 1, 1) := by decide +kernel
theorem dX7_stepsAfter_41 : decode cX7_stepsAfter 41 = .ok (.iadd, 1) := by decide +kernel
theorem dX7_stepsAfter_42 : decode cX7_stepsAfter 42 = .ok (.iaload, 1) := by decide +kernel
theorem dX7_stepsAfter_43 : decode cX7_stepsAfter 43 = .ok (.ireturn, 1) := by decide +kernel
theorem dX7_coldStops_0 : decode cX7_coldStops 0 = .ok (.aload_n 0, 1) := by decide +kernel
theorem dX7_coldStops_1 : decode cX7_coldStops 1 = .ok (.aload_n 0, 1) := by decide +kernel
theorem dX7_coldStops_2 : decode cX7_coldStops 2 = .ok (.iload_n 1, 1) := by decide +kernel
theorem dX7_coldStops_3 : decode cX7_coldStops 3 = .ok (.invokevirtual 202, 3) := by decide +kernel
theorem dX7_coldStops_6 : decode cX7_coldStops 6 = .ok (.invokevirtual 205, 3) := by decide +kernel
theorem dX7_coldStops_9 : decode cX7_coldStops 9 = .ok (.ifCond .ne 5, 3) := by decide +kernel
theorem dX7_coldStops_12 : decode cX7_coldStops 12 = .ok (.iconst 0, 1) := by decide +kernel
theorem dX7_coldStops_13 : decode cX7_coldStops 13 = .ok (.ireturn, 1) := by decide +kernel
theorem dX7_coldStops_14 : decode cX7_coldStops 14 = .ok (.aload_n 0, 1) := by decide +kernel
theorem dX7_coldStops_15 : decode cX7_coldStops 15 = .ok (.invokevirtual 279, 3) := by decide +kernel
theorem dX7_coldStops_18 : decode cX7_coldStops 18 = .ok (.aload_n 0, 1) := by decide +kernel
theorem dX7_coldStops_19 : decode cX7_coldStops 19 = .ok (.getfield 68, 3) := by decide +kernel
theorem dX7_coldStops_22 : decode cX7_coldStops 22 = .ok (.iload_n 1, 1) := by decide +kernel
theorem dX7_coldStops_23 : decode cX7_coldStops 23 = .ok (.iaload, 1) := by decide +kernel
theorem dX7_coldStops_24 : decode cX7_coldStops 24 = .ok (.ireturn, 1) := by decide +kernel
theorem dX7_heats_0 : decode cX7_heats 0 = .ok (.aload_n 0, 1) := by decide +kernel
theorem dX7_heats_1 : decode cX7_heats 1 = .ok (.aload_n 0, 1) := by decide +kernel
theorem dX7_heats_2 : decode cX7_heats 2 = .ok (.iload_n 1, 1) := by decide +kernel
theorem dX7_heats_3 : decode cX7_heats 3 = .ok (.invokevirtual 202, 3) := by decide +kernel
theorem dX7_heats_6 : decode cX7_heats 6 = .ok (.invokevirtual 205, 3) := by decide +kernel
theorem dX7_heats_9 : decode cX7_heats 9 = .ok (.ifCond .ne 5, 3) := by decide +kernel
theorem dX7_heats_12 : decode cX7_heats 12 = .ok (.iconst 0, 1) := by decide +kernel
theorem dX7_heats_13 : decode cX7_heats 13 = .ok (.ireturn, 1) := by decide +kernel
theorem dX7_heats_14 : decode cX7_heats 14 = .ok (.aload_n 0, 1) := by decide +kernel
theorem dX7_heats_15 : decode cX7_heats 15 = .ok (.invokevirtual 279, 3) := by decide +kernel
theorem dX7_heats_18 : decode cX7_heats 18 = .ok (.aload_n 0, 1) := by decide +kernel
theorem dX7_heats_19 : decode cX7_heats 19 = .ok (.getfield 71, 3) := by decide +kernel
theorem dX7_heats_22 : decode cX7_heats 22 = .ok (.iload_n 1, 1) := by decide +kernel
theorem dX7_heats_23 : decode cX7_heats 23 = .ok (.iaload, 1) := by decide +kernel
theorem dX7_heats_24 : decode cX7_heats 24 = .ok (.ireturn, 1) := by decide +kernel
theorem dX7_minutesAt_0 : decode cX7_minutesAt 0 = .ok (.aload_n 0, 1) := by decide +kernel
theorem dX7_minutesAt_1 : decode cX7_minutesAt 1 = .ok (.invokevirtual 279, 3) := by decide +kernel
theorem dX7_minutesAt_4 : decode cX7_minutesAt 4 = .ok (.iconst 0, 1) := by decide +kernel
theorem dX7_minutesAt_5 : decode cX7_minutesAt 5 = .ok (.istore 4, 2) := by decide +kernel
theorem dX7_minutesAt_7 : decode cX7_minutesAt 7 = .ok (.iconst 0, 1) := by decide +kernel
theorem dX7_minutesAt_8 : decode cX7_minutesAt 8 = .ok (.istore 5, 2) := by decide +kernel
theorem dX7_minutesAt_10 : decode cX7_minutesAt 10 = .ok (.iload 5, 2) := by decide +kernel
theorem dX7_minutesAt_12 : decode cX7_minutesAt 12 = .ok (.aload_n 0, 1) := by decide +kernel
theorem dX7_minutesAt_13 : decode cX7_minutesAt 13 = .ok (.getfield 13, 3) := by decide +kernel
theorem dX7_minutesAt_16 : decode cX7_minutesAt 16 = .ok (.bipush 18, 2) := by decide +kernel
theorem dX7_minutesAt_18 : decode cX7_minutesAt 18 = .ok (.iaload, 1) := by decide +kernel
theorem dX7_minutesAt_19 : decode cX7_minutesAt 19 = .ok (.if_icmp .ge 74, 3) := by decide +kernel
theorem dX7_minutesAt_22 : decode cX7_minutesAt 22 = .ok (.iconst 0, 1) := by decide +kernel
theorem dX7_minutesAt_23 : decode cX7_minutesAt 23 = .ok (.istore 6, 2) := by decide +kernel
theorem dX7_minutesAt_25 : decode cX7_minutesAt 25 = .ok (.iload 6, 2) := by decide +kernel
theorem dX7_minutesAt_27 : decode cX7_minutesAt 27 = .ok (.sipush 480, 3) := by decide +kernel
theorem dX7_minutesAt_30 : decode cX7_minutesAt 30 = .ok (.if_icmp .ge 57, 3) := by decide +kernel
theorem dX7_minutesAt_33 : decode cX7_minutesAt 33 = .ok (.iload_n 1, 1) := by decide +kernel
theorem dX7_minutesAt_34 : decode cX7_minutesAt 34 = .ok (.iconst (-1), 1) := by decide +kernel
theorem dX7_minutesAt_35 : decode cX7_minutesAt 35 = .ok (.if_icmp .eq 9, 3) := by decide +kernel
theorem dX7_minutesAt_38 : decode cX7_minutesAt 38 = .ok (.iload_n 1, 1) := by decide +kernel
theorem dX7_minutesAt_39 : decode cX7_minutesAt 39 = .ok (.iload 5, 2) := by decide +kernel
theorem dX7_minutesAt_41 : decode cX7_minutesAt 41 = .ok (.if_icmp .ne 46, 3) := by decide +kernel
theorem dX7_minutesAt_44 : decode cX7_minutesAt 44 = .ok (.aload_n 0, 1) := by decide +kernel
theorem dX7_minutesAt_45 : decode cX7_minutesAt 45 = .ok (.getfield 59, 3) := by decide +kernel
theorem dX7_minutesAt_48 : decode cX7_minutesAt 48 = .ok (.bipush 6, 2) := by decide +kernel
theorem dX7_minutesAt_50 : decode cX7_minutesAt 50 = .ok (.iload 6, 2) := by decide +kernel
theorem dX7_minutesAt_52 : decode cX7_minutesAt 52 = .ok (.imul, 1) := by decide +kernel
theorem dX7_minutesAt_53 : decode cX7_minutesAt 53 = .ok (.iload 5, 2) := by decide +kernel
theorem dX7_minutesAt_55 : decode cX7_minutesAt 55 = .ok (.iadd, 1) := by decide +kernel
theorem dX7_minutesAt_56 : decode cX7_minutesAt 56 = .ok (.iaload, 1) := by decide +kernel
theorem dX7_minutesAt_57 : decode cX7_minutesAt 57 = .ok (.istore 7, 2) := by decide +kernel
theorem dX7_minutesAt_59 : decode cX7_minutesAt 59 = .ok (.iload 4, 2) := by decide +kernel
theorem dX7_minutesAt_61 : decode cX7_minutesAt 61 = .ok (.iload 7, 2) := by decide +kernel
theorem dX7_minutesAt_63 : decode cX7_minutesAt 63 = .ok (.iload_n 2, 1) := by decide +kernel
theorem dX7_minutesAt_64 : decode cX7_minutesAt 64 = .ok (.if_icmp .lt 13, 3) := by decide +kernel
theorem dX7_minutesAt_67 : decode cX7_minutesAt 67 = .ok (.iload 7, 2) := by decide +kernel
theorem dX7_minutesAt_69 : decode cX7_minutesAt 69 = .ok (.iload_n 3, 1) := by decide +kernel
theorem dX7_minutesAt_70 : decode cX7_minutesAt 70 = .ok (.if_icmp .gt 7, 3) := by decide +kernel
theorem dX7_minutesAt_73 : decode cX7_minutesAt 73 = .ok (.iconst 1, 1) := by decide +kernel
theorem dX7_minutesAt_74 : decode cX7_minutesAt 74 = .ok (.goto 4, 3) := by decide +kernel
theorem dX7_minutesAt_77 : decode cX7_minutesAt 77 = .ok (.iconst 0, 1) := by decide +kernel
theorem dX7_minutesAt_78 : decode cX7_minutesAt 78 = .ok (.iadd, 1) := by decide +kernel
theorem dX7_minutesAt_79 : decode cX7_minutesAt 79 = .ok (.istore 4, 2) := by decide +kernel
theorem dX7_minutesAt_81 : decode cX7_minutesAt 81 = .ok (.iinc 6 1, 3) := by decide +kernel
theorem dX7_minutesAt_84 : decode cX7_minutesAt 84 = .ok (.goto (-59), 3) := by decide +kernel
theorem dX7_minutesAt_87 : decode cX7_minutesAt 87 = .ok (.iinc 5 1, 3) := by decide +kernel
theorem dX7_minutesAt_90 : decode cX7_minutesAt 90 = .ok (.goto (-80), 3) := by decide +kernel
theorem dX7_minutesAt_93 : decode cX7_minutesAt 93 = .ok (.iload 4, 2) := by decide +kernel
theorem dX7_minutesAt_95 : decode cX7_minutesAt 95 = .ok (.ireturn, 1) := by decide +kernel
theorem dX7_fireMinutes_0 : decode cX7_fireMinutes 0 = .ok (.aload_n 0, 1) := by decide +kernel
theorem dX7_fireMinutes_1 : decode cX7_fireMinutes 1 = .ok (.aload_n 0, 1) := by decide +kernel
theorem dX7_fireMinutes_2 : decode cX7_fireMinutes 2 = .ok (.iload_n 1, 1) := by decide +kernel
theorem dX7_fireMinutes_3 : decode cX7_fireMinutes 3 = .ok (.invokevirtual 202, 3) := by decide +kernel
theorem dX7_fireMinutes_6 : decode cX7_fireMinutes 6 = .ok (.invokevirtual 205, 3) := by decide +kernel
theorem dX7_fireMinutes_9 : decode cX7_fireMinutes 9 = .ok (.ifCond .eq 14, 3) := by decide +kernel
theorem dX7_fireMinutes_12 : decode cX7_fireMinutes 12 = .ok (.aload_n 0, 1) := by decide +kernel
theorem dX7_fireMinutes_13 : decode cX7_fireMinutes 13 = .ok (.iload_n 1, 1) := by decide +kernel
theorem dX7_fireMinutes_14 : decode cX7_fireMinutes 14 = .ok (.iconst 1, 1) := by decide +kernel
theorem dX7_fireMinutes_15 : decode cX7_fireMinutes 15 = .ok (.bipush 9, 2) := by decide +kernel
theorem dX7_fireMinutes_17 : decode cX7_fireMinutes 17 = .ok (.invokevirtual 282, 3) := by decide +kernel
theorem dX7_fireMinutes_20 : decode cX7_fireMinutes 20 = .ok (.goto 4, 3) := by decide +kernel
theorem dX7_fireMinutes_23 : decode cX7_fireMinutes 23 = .ok (.iconst 0, 1) := by decide +kernel
theorem dX7_fireMinutes_24 : decode cX7_fireMinutes 24 = .ok (.ireturn, 1) := by decide +kernel
theorem dX7_anvilMinutes_0 : decode cX7_anvilMinutes 0 = .ok (.aload_n 0, 1) := by decide +kernel
theorem dX7_anvilMinutes_1 : decode cX7_anvilMinutes 1 = .ok (.iload_n 1, 1) := by decide +kernel
theorem dX7_anvilMinutes_2 : decode cX7_anvilMinutes 2 = .ok (.ifCond .lt 18, 3) := by decide +kernel
theorem dX7_anvilMinutes_5 : decode cX7_anvilMinutes 5 = .ok (.iload_n 1, 1) := by decide +kernel
theorem dX7_anvilMinutes_6 : decode cX7_anvilMinutes 6 = .ok (.aload_n 0, 1) := by decide +kernel
theorem dX7_anvilMinutes_7 : decode cX7_anvilMinutes 7 = .ok (.getfield 19, 3) := by decide +kernel
theorem dX7_anvilMinutes_10 : decode cX7_anvilMinutes 10 = .ok (.bipush 78, 2) := by decide +kernel
theorem dX7_anvilMinutes_12 : decode cX7_anvilMinutes 12 = .ok (.iaload, 1) := by decide +kernel
theorem dX7_anvilMinutes_13 : decode cX7_anvilMinutes 13 = .ok (.if_icmp .ge 7, 3) := by decide +kernel
theorem dX7_anvilMinutes_16 : decode cX7_anvilMinutes 16 = .ok (.iconst 1, 1) := by decide +kernel
theorem dX7_anvilMinutes_17 : decode cX7_anvilMinutes 17 = .ok (.goto 4, 3) := by decide +kernel
theorem dX7_anvilMinutes_20 : decode cX7_anvilMinutes 20 = .ok (.iconst 0, 1) := by decide +kernel
theorem dX7_anvilMinutes_21 : decode cX7_anvilMinutes 21 = .ok (.invokevirtual 205, 3) := by decide +kernel
theorem dX7_anvilMinutes_24 : decode cX7_anvilMinutes 24 = .ok (.ifCond .eq 19, 3) := by decide +kernel
theorem dX7_anvilMinutes_27 : decode cX7_anvilMinutes 27 = .ok (.aload_n 0, 1) := by decide +kernel
theorem dX7_anvilMinutes_28 : decode cX7_anvilMinutes 28 = .ok (.iconst (-1), 1) := by decide +kernel
theorem dX7_anvilMinutes_29 : decode cX7_anvilMinutes 29 = .ok (.bipush 10, 2) := by decide +kernel
theorem dX7_anvilMinutes_31 : decode cX7_anvilMinutes 31 = .ok (.iload_n 1, 1) := by decide +kernel
theorem dX7_anvilMinutes_32 : decode cX7_anvilMinutes 32 = .ok (.iadd, 1) := by decide +kernel
theorem dX7_anvilMinutes_33 : decode cX7_anvilMinutes 33 = .ok (.bipush 10, 2) := by decide +kernel
theorem dX7_anvilMinutes_35 : decode cX7_anvilMinutes 35 = .ok (.iload_n 1, 1) := by decide +kernel
theorem dX7_anvilMinutes_36 : decode cX7_anvilMinutes 36 = .ok (.iadd, 1) := by decide +kernel
theorem dX7_anvilMinutes_37 : decode cX7_anvilMinutes 37 = .ok (.invokevirtual 282, 3) := by decide +kernel
theorem dX7_anvilMinutes_40 : decode cX7_anvilMinutes 40 = .ok (.goto 4, 3) := by decide +kernel
theorem dX7_anvilMinutes_43 : decode cX7_anvilMinutes 43 = .ok (.iconst 0, 1) := by decide +kernel
theorem dX7_anvilMinutes_44 : decode cX7_anvilMinutes 44 = .ok (.ireturn, 1) := by decide +kernel
theorem dX7_placeMinutes_0 : decode cX7_placeMinutes 0 = .ok (.aload_n 0, 1) := by decide +kernel
theorem dX7_placeMinutes_1 : decode cX7_placeMinutes 1 = .ok (.aload_n 0, 1) := by decide +kernel
theorem dX7_placeMinutes_2 : decode cX7_placeMinutes 2 = .ok (.iload_n 1, 1) := by decide +kernel
theorem dX7_placeMinutes_3 : decode cX7_placeMinutes 3 = .ok (.invokevirtual 213, 3) := by decide +kernel
theorem dX7_placeMinutes_6 : decode cX7_placeMinutes 6 = .ok (.invokevirtual 205, 3) := by decide +kernel
theorem dX7_placeMinutes_9 : decode cX7_placeMinutes 9 = .ok (.ifCond .eq 17, 3) := by decide +kernel
theorem dX7_placeMinutes_12 : decode cX7_placeMinutes 12 = .ok (.aload_n 0, 1) := by decide +kernel
theorem dX7_placeMinutes_13 : decode cX7_placeMinutes 13 = .ok (.iconst (-1), 1) := by decide +kernel
theorem dX7_placeMinutes_14 : decode cX7_placeMinutes 14 = .ok (.iconst 1, 1) := by decide +kernel
theorem dX7_placeMinutes_15 : decode cX7_placeMinutes 15 = .ok (.iload_n 1, 1) := by decide +kernel
theorem dX7_placeMinutes_16 : decode cX7_placeMinutes 16 = .ok (.iadd, 1) := by decide +kernel
theorem dX7_placeMinutes_17 : decode cX7_placeMinutes 17 = .ok (.iconst 1, 1) := by decide +kernel
theorem dX7_placeMinutes_18 : decode cX7_placeMinutes 18 = .ok (.iload_n 1, 1) := by decide +kernel
theorem dX7_placeMinutes_19 : decode cX7_placeMinutes 19 = .ok (.iadd, 1) := by decide +kernel
theorem dX7_placeMinutes_20 : decode cX7_placeMinutes 20 = .ok (.invokevirtual 282, 3) := by decide +kernel
theorem dX7_placeMinutes_23 : decode cX7_placeMinutes 23 = .ok (.goto 4, 3) := by decide +kernel
theorem dX7_placeMinutes_26 : decode cX7_placeMinutes 26 = .ok (.iconst 0, 1) := by decide +kernel
theorem dX7_placeMinutes_27 : decode cX7_placeMinutes 27 = .ok (.ireturn, 1) := by decide +kernel
theorem dX7_isOpen_0 : decode cX7_isOpen 0 = .ok (.aload_n 0, 1) := by decide +kernel
theorem dX7_isOpen_1 : decode cX7_isOpen 1 = .ok (.getfield 65, 3) := by decide +kernel
theorem dX7_isOpen_4 : decode cX7_isOpen 4 = .ok (.iload_n 1, 1) := by decide +kernel
theorem dX7_isOpen_5 : decode cX7_isOpen 5 = .ok (.iaload, 1) := by decide +kernel
theorem dX7_isOpen_6 : decode cX7_isOpen 6 = .ok (.iconst (-1), 1) := by decide +kernel
theorem dX7_isOpen_7 : decode cX7_isOpen 7 = .ok (.if_icmp .eq 13, 3) := by decide +kernel
theorem dX7_isOpen_10 : decode cX7_isOpen 10 = .ok (.aload_n 0, 1) := by decide +kernel
theorem dX7_isOpen_11 : decode cX7_isOpen 11 = .ok (.getfield 65, 3) := by decide +kernel
theorem dX7_isOpen_14 : decode cX7_isOpen 14 = .ok (.iload_n 1, 1) := by decide +kernel
theorem dX7_isOpen_15 : decode cX7_isOpen 15 = .ok (.iaload, 1) := by decide +kernel
theorem dX7_isOpen_16 : decode cX7_isOpen 16 = .ok (.iload_n 2, 1) := by decide +kernel
theorem dX7_isOpen_17 : decode cX7_isOpen 17 = .ok (.if_icmp .le 7, 3) := by decide +kernel
theorem dX7_isOpen_20 : decode cX7_isOpen 20 = .ok (.iconst 1, 1) := by decide +kernel
theorem dX7_isOpen_21 : decode cX7_isOpen 21 = .ok (.goto 4, 3) := by decide +kernel
theorem dX7_isOpen_24 : decode cX7_isOpen 24 = .ok (.iconst 0, 1) := by decide +kernel
theorem dX7_isOpen_25 : decode cX7_isOpen 25 = .ok (.ireturn, 1) := by decide +kernel
theorem dX7_rackMinutes_0 : decode cX7_rackMinutes 0 = .ok (.aload_n 0, 1) := by decide +kernel
theorem dX7_rackMinutes_1 : decode cX7_rackMinutes 1 = .ok (.aload_n 0, 1) := by decide +kernel
theorem dX7_rackMinutes_2 : decode cX7_rackMinutes 2 = .ok (.iload_n 1, 1) := by decide +kernel
theorem dX7_rackMinutes_3 : decode cX7_rackMinutes 3 = .ok (.invokevirtual 202, 3) := by decide +kernel
theorem dX7_rackMinutes_6 : decode cX7_rackMinutes 6 = .ok (.invokevirtual 205, 3) := by decide +kernel
theorem dX7_rackMinutes_9 : decode cX7_rackMinutes 9 = .ok (.ifCond .ne 5, 3) := by decide +kernel
theorem dX7_rackMinutes_12 : decode cX7_rackMinutes 12 = .ok (.iconst 0, 1) := by decide +kernel
theorem dX7_rackMinutes_13 : decode cX7_rackMinutes 13 = .ok (.ireturn, 1) := by decide +kernel
theorem dX7_rackMinutes_14 : decode cX7_rackMinutes 14 = .ok (.aload_n 0, 1) := by decide +kernel
theorem dX7_rackMinutes_15 : decode cX7_rackMinutes 15 = .ok (.invokevirtual 279, 3) := by decide +kernel
theorem dX7_rackMinutes_18 : decode cX7_rackMinutes 18 = .ok (.iconst 0, 1) := by decide +kernel
theorem dX7_rackMinutes_19 : decode cX7_rackMinutes 19 = .ok (.istore_n 2, 1) := by decide +kernel
theorem dX7_rackMinutes_20 : decode cX7_rackMinutes 20 = .ok (.iconst 0, 1) := by decide +kernel
theorem dX7_rackMinutes_21 : decode cX7_rackMinutes 21 = .ok (.istore_n 3, 1) := by decide +kernel
theorem dX7_rackMinutes_22 : decode cX7_rackMinutes 22 = .ok (.iload_n 3, 1) := by decide +kernel
theorem dX7_rackMinutes_23 : decode cX7_rackMinutes 23 = .ok (.sipush 480, 3) := by decide +kernel
theorem dX7_rackMinutes_26 : decode cX7_rackMinutes 26 = .ok (.if_icmp .ge 40, 3) := by decide +kernel
theorem dX7_rackMinutes_29 : decode cX7_rackMinutes 29 = .ok (.iload_n 2, 1) := by decide +kernel
theorem dX7_rackMinutes_30 : decode cX7_rackMinutes 30 = .ok (.aload_n 0, 1) := by decide +kernel
theorem dX7_rackMinutes_31 : decode cX7_rackMinutes 31 = .ok (.getfield 59, 3) := by decide +kernel
theorem dX7_rackMinutes_34 : decode cX7_rackMinutes 34 = .ok (.bipush 6, 2) := by decide +kernel
theorem dX7_rackMinutes_36 : decode cX7_rackMinutes 36 = .ok (.iload_n 3, 1) := by decide +kernel
theorem dX7_rackMinutes_37 : decode cX7_rackMinutes 37 = .ok (.imul, 1) := by decide +kernel
theorem dX7_rackMinutes_38 : decode cX7_rackMinutes 38 = .ok (.iload_n 1, 1) := by decide +kernel
theorem dX7_rackMinutes_39 : decode cX7_rackMinutes 39 = .ok (.iadd, 1) := by decide +kernel
theorem dX7_rackMinutes_40 : decode cX7_rackMinutes 40 = .ok (.iaload, 1) := by decide +kernel
theorem dX7_rackMinutes_41 : decode cX7_rackMinutes 41 = .ok (.ifCond .ne 16, 3) := by decide +kernel
theorem dX7_rackMinutes_44 : decode cX7_rackMinutes 44 = .ok (.aload_n 0, 1) := by decide +kernel
theorem dX7_rackMinutes_45 : decode cX7_rackMinutes 45 = .ok (.iload_n 1, 1) := by decide +kernel
theorem dX7_rackMinutes_46 : decode cX7_rackMinutes 46 = .ok (.iload_n 3, 1) := by decide +kernel
theorem dX7_rackMinutes_47 : decode cX7_rackMinutes 47 = .ok (.invokevirtual 286, 3) := by decide +kernel
theorem dX7_rackMinutes_50 : decode cX7_rackMinutes 50 = .ok (.ifCond .eq 7, 3) := by decide +kernel
theorem dX7_rackMinutes_53 : decode cX7_rackMinutes 53 = .ok (.iconst 1, 1) := by decide +kernel
theorem dX7_rackMinutes_54 : decode cX7_rackMinutes 54 = .ok (.goto 4, 3) := by decide +kernel
theorem dX7_rackMinutes_57 : decode cX7_rackMinutes 57 = .ok (.iconst 0, 1) := by decide +kernel
theorem dX7_rackMinutes_58 : decode cX7_rackMinutes 58 = .ok (.iadd, 1) := by decide +kernel
theorem dX7_rackMinutes_59 : decode cX7_rackMinutes 59 = .ok (.istore_n 2, 1) := by decide +kernel
theorem dX7_rackMinutes_60 : decode cX7_rackMinutes 60 = .ok (.iinc 3 1, 3) := by decide +kernel
theorem dX7_rackMinutes_63 : decode cX7_rackMinutes 63 = .ok (.goto (-41), 3) := by decide +kernel
theorem dX7_rackMinutes_66 : decode cX7_rackMinutes 66 = .ok (.iload_n 2, 1) := by decide +kernel
theorem dX7_rackMinutes_67 : decode cX7_rackMinutes 67 = .ok (.ireturn, 1) := by decide +kernel
theorem dX7_firstWork_0 : decode cX7_firstWork 0 = .ok (.aload_n 0, 1) := by decide +kernel
theorem dX7_firstWork_1 : decode cX7_firstWork 1 = .ok (.aload_n 0, 1) := by decide +kernel
theorem dX7_firstWork_2 : decode cX7_firstWork 2 = .ok (.iload_n 1, 1) := by decide +kernel
theorem dX7_firstWork_3 : decode cX7_firstWork 3 = .ok (.invokevirtual 202, 3) := by decide +kernel
theorem dX7_firstWork_6 : decode cX7_firstWork 6 = .ok (.invokevirtual 205, 3) := by decide +kernel
theorem dX7_firstWork_9 : decode cX7_firstWork 9 = .ok (.ifCond .ne 5, 3) := by decide +kernel
theorem dX7_firstWork_12 : decode cX7_firstWork 12 = .ok (.iconst 0, 1) := by decide +kernel
theorem dX7_firstWork_13 : decode cX7_firstWork 13 = .ok (.ireturn, 1) := by decide +kernel
theorem dX7_firstWork_14 : decode cX7_firstWork 14 = .ok (.aload_n 0, 1) := by decide +kernel
theorem dX7_firstWork_15 : decode cX7_firstWork 15 = .ok (.invokevirtual 279, 3) := by decide +kernel
theorem dX7_firstWork_18 : decode cX7_firstWork 18 = .ok (.iconst 0, 1) := by decide +kernel
theorem dX7_firstWork_19 : decode cX7_firstWork 19 = .ok (.istore_n 2, 1) := by decide +kernel
theorem dX7_firstWork_20 : decode cX7_firstWork 20 = .ok (.iload_n 2, 1) := by decide +kernel
theorem dX7_firstWork_21 : decode cX7_firstWork 21 = .ok (.sipush 480, 3) := by decide +kernel
theorem dX7_firstWork_24 : decode cX7_firstWork 24 = .ok (.if_icmp .ge 27, 3) := by decide +kernel
theorem dX7_firstWork_27 : decode cX7_firstWork 27 = .ok (.aload_n 0, 1) := by decide +kernel
theorem dX7_firstWork_28 : decode cX7_firstWork 28 = .ok (.getfield 59, 3) := by decide +kernel
theorem dX7_firstWork_31 : decode cX7_firstWork 31 = .ok (.bipush 6, 2) := by decide +kernel
theorem dX7_firstWork_33 : decode cX7_firstWork 33 = .ok (.iload_n 2, 1) := by decide +kernel
theorem dX7_firstWork_34 : decode cX7_firstWork 34 = .ok (.imul, 1) := by decide +kernel
theorem dX7_firstWork_35 : decode cX7_firstWork 35 = .ok (.iload_n 1, 1) := by decide +kernel
theorem dX7_firstWork_36 : decode cX7_firstWork 36 = .ok (.iadd, 1) := by decide +kernel
theorem dX7_firstWork_37 : decode cX7_firstWork 37 = .ok (.iaload, 1) := by decide +kernel
theorem dX7_firstWork_38 : decode cX7_firstWork 38 = .ok (.bipush 10, 2) := by decide +kernel
theorem dX7_firstWork_40 : decode cX7_firstWork 40 = .ok (.if_icmp .lt 5, 3) := by decide +kernel
theorem dX7_firstWork_43 : decode cX7_firstWork 43 = .ok (.iload_n 2, 1) := by decide +kernel
theorem dX7_firstWork_44 : decode cX7_firstWork 44 = .ok (.ireturn, 1) := by decide +kernel
theorem dX7_firstWork_45 : decode cX7_firstWork 45 = .ok (.iinc 2 1, 3) := by decide +kernel
theorem dX7_firstWork_48 : decode cX7_firstWork 48 = .ok (.goto (-28), 3) := by decide +kernel
theorem dX7_firstWork_51 : decode cX7_firstWork 51 = .ok (.iconst (-1), 1) := by decide +kernel
theorem dX7_firstWork_52 : decode cX7_firstWork 52 = .ok (.ireturn, 1) := by decide +kernel
theorem dX7_ironIn_0 : decode cX7_ironIn 0 = .ok (.iload_n 2, 1) := by decide +kernel
theorem dX7_ironIn_1 : decode cX7_ironIn 1 = .ok (.ifCond .lt 10, 3) := by decide +kernel
theorem dX7_ironIn_4 : decode cX7_ironIn 4 = .ok (.iload_n 2, 1) := by decide +kernel
theorem dX7_ironIn_5 : decode cX7_ironIn 5 = .ok (.sipush 480, 3) := by decide +kernel
theorem dX7_ironIn_8 : decode cX7_ironIn 8 = .ok (.if_icmp .lt 6, 3) := by decide +kernel
theorem dX7_ironIn_11 : decode cX7_ironIn 11 = .ok (.bipush (-2), 2) := by decide +kernel
theorem dX7_ironIn_13 : decode cX7_ironIn 13 = .ok (.ireturn, 1) := by decide +kernel
theorem dX7_ironIn_14 : decode cX7_ironIn 14 = .ok (.aload_n 0, 1) := by decide +kernel
theorem dX7_ironIn_15 : decode cX7_ironIn 15 = .ok (.invokevirtual 279, 3) := by decide +kernel
theorem dX7_ironIn_18 : decode cX7_ironIn 18 = .ok (.iconst 0, 1) := by decide +kernel
theorem dX7_ironIn_19 : decode cX7_ironIn 19 = .ok (.istore_n 3, 1) := by decide +kernel
theorem dX7_ironIn_20 : decode cX7_ironIn 20 = .ok (.iload_n 3, 1) := by decide +kernel
theorem dX7_ironIn_21 : decode cX7_ironIn 21 = .ok (.aload_n 0, 1) := by decide +kernel
theorem dX7_ironIn_22 : decode cX7_ironIn 22 = .ok (.getfield 13, 3) := by decide +kernel
theorem dX7_ironIn_25 : decode cX7_ironIn 25 = .ok (.bipush 18, 2) := by decide +kernel
theorem dX7_ironIn_27 : decode cX7_ironIn 27 = .ok (.iaload, 1) := by decide +kernel
theorem dX7_ironIn_28 : decode cX7_ironIn 28 = .ok (.if_icmp .ge 26, 3) := by decide +kernel
theorem dX7_ironIn_31 : decode cX7_ironIn 31 = .ok (.aload_n 0, 1) := by decide +kernel
theorem dX7_ironIn_32 : decode cX7_ironIn 32 = .ok (.getfield 59, 3) := by decide +kernel
theorem dX7_ironIn_35 : decode cX7_ironIn 35 = .ok (.bipush 6, 2) := by decide +kernel
theorem dX7_ironIn_37 : decode cX7_ironIn 37 = .ok (.iload_n 2, 1) := by decide +kernel
theorem dX7_ironIn_38 : decode cX7_ironIn 38 = .ok (.imul, 1) := by decide +kernel
theorem dX7_ironIn_39 : decode cX7_ironIn 39 = .ok (.iload_n 3, 1) := by decide +kernel
theorem dX7_ironIn_40 : decode cX7_ironIn 40 = .ok (.iadd, 1) := by decide +kernel
theorem dX7_ironIn_41 : decode cX7_ironIn 41 = .ok (.iaload, 1) := by decide +kernel
theorem dX7_ironIn_42 : decode cX7_ironIn 42 = .ok (.iload_n 1, 1) := by decide +kernel
theorem dX7_ironIn_43 : decode cX7_ironIn 43 = .ok (.if_icmp .ne 5, 3) := by decide +kernel
theorem dX7_ironIn_46 : decode cX7_ironIn 46 = .ok (.iload_n 3, 1) := by decide +kernel
theorem dX7_ironIn_47 : decode cX7_ironIn 47 = .ok (.ireturn, 1) := by decide +kernel
theorem dX7_ironIn_48 : decode cX7_ironIn 48 = .ok (.iinc 3 1, 3) := by decide +kernel
theorem dX7_ironIn_51 : decode cX7_ironIn 51 = .ok (.goto (-31), 3) := by decide +kernel
theorem dX7_ironIn_54 : decode cX7_ironIn 54 = .ok (.iconst (-1), 1) := by decide +kernel
theorem dX7_ironIn_55 : decode cX7_ironIn 55 = .ok (.ireturn, 1) := by decide +kernel
theorem dX7_ironInPlace_0 : decode cX7_ironInPlace 0 = .ok (.aload_n 0, 1) := by decide +kernel
theorem dX7_ironInPlace_1 : decode cX7_ironInPlace 1 = .ok (.aload_n 0, 1) := by decide +kernel
theorem dX7_ironInPlace_2 : decode cX7_ironInPlace 2 = .ok (.iload_n 1, 1) := by decide +kernel
theorem dX7_ironInPlace_3 : decode cX7_ironInPlace 3 = .ok (.invokevirtual 213, 3) := by decide +kernel
theorem dX7_ironInPlace_6 : decode cX7_ironInPlace 6 = .ok (.invokevirtual 205, 3) := by decide +kernel
theorem dX7_ironInPlace_9 : decode cX7_ironInPlace 9 = .ok (.ifCond .eq 14, 3) := by decide +kernel
theorem dX7_ironInPlace_12 : decode cX7_ironInPlace 12 = .ok (.aload_n 0, 1) := by decide +kernel
theorem dX7_ironInPlace_13 : decode cX7_ironInPlace 13 = .ok (.iconst 1, 1) := by decide +kernel
theorem dX7_ironInPlace_14 : decode cX7_ironInPlace 14 = .ok (.iload_n 1, 1) := by decide +kernel
theorem dX7_ironInPlace_15 : decode cX7_ironInPlace 15 = .ok (.iadd, 1) := by decide +kernel
theorem dX7_ironInPlace_16 : decode cX7_ironInPlace 16 = .ok (.iload_n 2, 1) := by decide +kernel
theorem dX7_ironInPlace_17 : decode cX7_ironInPlace 17 = .ok (.invokevirtual 289, 3) := by decide +kernel
theorem dX7_ironInPlace_20 : decode cX7_ironInPlace 20 = .ok (.goto 4, 3) := by decide +kernel
theorem dX7_ironInPlace_23 : decode cX7_ironInPlace 23 = .ok (.iconst 0, 1) := by decide +kernel
theorem dX7_ironInPlace_24 : decode cX7_ironInPlace 24 = .ok (.ireturn, 1) := by decide +kernel
theorem dX7_ironOnAnvil_0 : decode cX7_ironOnAnvil 0 = .ok (.aload_n 0, 1) := by decide +kernel
theorem dX7_ironOnAnvil_1 : decode cX7_ironOnAnvil 1 = .ok (.iload_n 1, 1) := by decide +kernel
theorem dX7_ironOnAnvil_2 : decode cX7_ironOnAnvil 2 = .ok (.ifCond .lt 18, 3) := by decide +kernel
theorem dX7_ironOnAnvil_5 : decode cX7_ironOnAnvil 5 = .ok (.iload_n 1, 1) := by decide +kernel
theorem dX7_ironOnAnvil_6 : decode cX7_ironOnAnvil 6 = .ok (.aload_n 0, 1) := by decide +kernel
theorem dX7_ironOnAnvil_7 : decode cX7_ironOnAnvil 7 = .ok (.getfield 19, 3) := by decide +kernel
theorem dX7_ironOnAnvil_10 : decode cX7_ironOnAnvil 10 = .ok (.bipush 78, 2) := by decide +kernel
theorem dX7_ironOnAnvil_12 : decode cX7_ironOnAnvil 12 = .ok (.iaload, 1) := by decide +kernel
theorem dX7_ironOnAnvil_13 : decode cX7_ironOnAnvil 13 = .ok (.if_icmp .ge 7, 3) := by decide +kernel
theorem dX7_ironOnAnvil_16 : decode cX7_ironOnAnvil 16 = .ok (.iconst 1, 1) := by decide +kernel
theorem dX7_ironOnAnvil_17 : decode cX7_ironOnAnvil 17 = .ok (.goto 4, 3) := by decide +kernel
theorem dX7_ironOnAnvil_20 : decode cX7_ironOnAnvil 20 = .ok (.iconst 0, 1) := by decide +kernel
theorem dX7_ironOnAnvil_21 : decode cX7_ironOnAnvil 21 = .ok (.invokevirtual 205, 3) := by decide +kernel
theorem dX7_ironOnAnvil_24 : decode cX7_ironOnAnvil 24 = .ok (.ifCond .eq 15, 3) := by decide +kernel
theorem dX7_ironOnAnvil_27 : decode cX7_ironOnAnvil 27 = .ok (.aload_n 0, 1) := by decide +kernel
theorem dX7_ironOnAnvil_28 : decode cX7_ironOnAnvil 28 = .ok (.bipush 10, 2) := by decide +kernel
theorem dX7_ironOnAnvil_30 : decode cX7_ironOnAnvil 30 = .ok (.iload_n 1, 1) := by decide +kernel
theorem dX7_ironOnAnvil_31 : decode cX7_ironOnAnvil 31 = .ok (.iadd, 1) := by decide +kernel
theorem dX7_ironOnAnvil_32 : decode cX7_ironOnAnvil 32 = .ok (.iload_n 2, 1) := by decide +kernel
theorem dX7_ironOnAnvil_33 : decode cX7_ironOnAnvil 33 = .ok (.invokevirtual 289, 3) := by decide +kernel
theorem dX7_ironOnAnvil_36 : decode cX7_ironOnAnvil 36 = .ok (.goto 4, 3) := by decide +kernel
theorem dX7_ironOnAnvil_39 : decode cX7_ironOnAnvil 39 = .ok (.iconst 0, 1) := by decide +kernel
theorem dX7_ironOnAnvil_40 : decode cX7_ironOnAnvil 40 = .ok (.ireturn, 1) := by decide +kernel
theorem dX7_finishedBy_0 : decode cX7_finishedBy 0 = .ok (.aload_n 0, 1) := by decide +kernel
theorem dX7_finishedBy_1 : decode cX7_finishedBy 1 = .ok (.iconst 0, 1) := by decide +kernel
theorem dX7_finishedBy_2 : decode cX7_finishedBy 2 = .ok (.putfield 83, 3) := by decide +kernel
theorem dX7_finishedBy_5 : decode cX7_finishedBy 5 = .ok (.iload_n 1, 1) := by decide +kernel
theorem dX7_finishedBy_6 : decode cX7_finishedBy 6 = .ok (.ifCond .lt 10, 3) := by decide +kernel
theorem dX7_finishedBy_9 : decode cX7_finishedBy 9 = .ok (.iload_n 1, 1) := by decide +kernel
theorem dX7_finishedBy_10 : decode cX7_finishedBy 10 = .ok (.sipush 480, 3) := by decide +kernel
theorem dX7_finishedBy_13 : decode cX7_finishedBy 13 = .ok (.if_icmp .le 6, 3) := by decide +kernel
theorem dX7_finishedBy_16 : decode cX7_finishedBy 16 = .ok (.bipush (-2), 2) := by decide +kernel
theorem dX7_finishedBy_18 : decode cX7_finishedBy 18 = .ok (.ireturn, 1) := by decide +kernel
theorem dX7_finishedBy_19 : decode cX7_finishedBy 19 = .ok (.aload_n 0, 1) := by decide +kernel
theorem dX7_finishedBy_20 : decode cX7_finishedBy 20 = .ok (.invokevirtual 279, 3) := by decide +kernel
theorem dX7_finishedBy_23 : decode cX7_finishedBy 23 = .ok (.iconst 0, 1) := by decide +kernel
theorem dX7_finishedBy_24 : decode cX7_finishedBy 24 = .ok (.istore_n 2, 1) := by decide +kernel
theorem dX7_finishedBy_25 : decode cX7_finishedBy 25 = .ok (.iconst 0, 1) := by decide +kernel
theorem dX7_finishedBy_26 : decode cX7_finishedBy 26 = .ok (.istore_n 3, 1) := by decide +kernel
theorem dX7_finishedBy_27 : decode cX7_finishedBy 27 = .ok (.iload_n 3, 1) := by decide +kernel
theorem dX7_finishedBy_28 : decode cX7_finishedBy 28 = .ok (.aload_n 0, 1) := by decide +kernel
theorem dX7_finishedBy_29 : decode cX7_finishedBy 29 = .ok (.getfield 13, 3) := by decide +kernel
theorem dX7_finishedBy_32 : decode cX7_finishedBy 32 = .ok (.bipush 18, 2) := by decide +kernel
theorem dX7_finishedBy_34 : decode cX7_finishedBy 34 = .ok (.iaload, 1) := by decide +kernel
theorem dX7_finishedBy_35 : decode cX7_finishedBy 35 = .ok (.if_icmp .ge 37, 3) := by decide +kernel
theorem dX7_finishedBy_38 : decode cX7_finishedBy 38 = .ok (.iload_n 2, 1) := by decide +kernel
theorem dX7_finishedBy_39 : decode cX7_finishedBy 39 = .ok (.aload_n 0, 1) := by decide +kernel
theorem dX7_finishedBy_40 : decode cX7_finishedBy 40 = .ok (.getfield 65, 3) := by decide +kernel
theorem dX7_finishedBy_43 : decode cX7_finishedBy 43 = .ok (.iload_n 3, 1) := by decide +kernel
theorem dX7_finishedBy_44 : decode cX7_finishedBy 44 = .ok (.iaload, 1) := by decide +kernel
theorem dX7_finishedBy_45 : decode cX7_finishedBy 45 = .ok (.iconst (-1), 1) := by decide +kernel
theorem dX7_finishedBy_46 : decode cX7_finishedBy 46 = .ok (.if_icmp .eq 17, 3) := by decide +kernel
theorem dX7_finishedBy_49 : decode cX7_finishedBy 49 = .ok (.aload_n 0, 1) := by decide +kernel
theorem dX7_finishedBy_50 : decode cX7_finishedBy 50 = .ok (.getfield 65, 3) := by decide +kernel
theorem dX7_finishedBy_53 : decode cX7_finishedBy 53 = .ok (.iload_n 3, 1) := by decide +kernel
theorem dX7_finishedBy_54 : decode cX7_finishedBy 54 = .ok (.iaload, 1) := by decide +kernel
theorem dX7_finishedBy_55 : decode cX7_finishedBy 55 = .ok (.iload_n 1, 1) := by decide +kernel
theorem dX7_finishedBy_56 : decode cX7_finishedBy 56 = .ok (.if_icmp .gt 7, 3) := by decide +kernel
theorem dX7_finishedBy_59 : decode cX7_finishedBy 59 = .ok (.iconst 1, 1) := by decide +kernel
theorem dX7_finishedBy_60 : decode cX7_finishedBy 60 = .ok (.goto 4, 3) := by decide +kernel
theorem dX7_finishedBy_63 : decode cX7_finishedBy 63 = .ok (.iconst 0, 1) := by decide +kernel
theorem dX7_finishedBy_64 : decode cX7_finishedBy 64 = .ok (.iadd, 1) := by decide +kernel
theorem dX7_finishedBy_65 : decode cX7_finishedBy 65 = .ok (.istore_n 2, 1) := by decide +kernel
theorem dX7_finishedBy_66 : decode cX7_finishedBy 66 = .ok (.iinc 3 1, 3) := by decide +kernel
theorem dX7_finishedBy_69 : decode cX7_finishedBy 69 = .ok (.goto (-42), 3) := by decide +kernel
theorem dX7_finishedBy_72 : decode cX7_finishedBy 72 = .ok (.iload_n 2, 1) := by decide +kernel
theorem dX7_finishedBy_73 : decode cX7_finishedBy 73 = .ok (.ireturn, 1) := by decide +kernel
theorem dX7_idleMinutes_0 : decode cX7_idleMinutes 0 = .ok (.aload_n 0, 1) := by decide +kernel
theorem dX7_idleMinutes_1 : decode cX7_idleMinutes 1 = .ok (.iconst 0, 1) := by decide +kernel
theorem dX7_idleMinutes_2 : decode cX7_idleMinutes 2 = .ok (.putfield 83, 3) := by decide +kernel
theorem dX7_idleMinutes_5 : decode cX7_idleMinutes 5 = .ok (.aload_n 0, 1) := by decide +kernel
theorem dX7_idleMinutes_6 : decode cX7_idleMinutes 6 = .ok (.invokevirtual 279, 3) := by decide +kernel
theorem dX7_idleMinutes_9 : decode cX7_idleMinutes 9 = .ok (.iconst 0, 1) := by decide +kernel
theorem dX7_idleMinutes_10 : decode cX7_idleMinutes 10 = .ok (.istore_n 1, 1) := by decide +kernel
theorem dX7_idleMinutes_11 : decode cX7_idleMinutes 11 = .ok (.iconst 0, 1) := by decide +kernel
theorem dX7_idleMinutes_12 : decode cX7_idleMinutes 12 = .ok (.istore_n 2, 1) := by decide +kernel
theorem dX7_idleMinutes_13 : decode cX7_idleMinutes 13 = .ok (.iload_n 2, 1) := by decide +kernel
theorem dX7_idleMinutes_14 : decode cX7_idleMinutes 14 = .ok (.sipush 480, 3) := by decide +kernel
theorem dX7_idleMinutes_17 : decode cX7_idleMinutes 17 = .ok (.if_icmp .ge 96, 3) := by decide +kernel
theorem dX7_idleMinutes_20 : decode cX7_idleMinutes 20 = .ok (.iconst 0, 1) := by decide +kernel
theorem dX7_idleMinutes_21 : decode cX7_idleMinutes 21 = .ok (.istore_n 3, 1) := by decide +kernel
theorem dX7_idleMinutes_22 : decode cX7_idleMinutes 22 = .ok (.iconst 0, 1) := by decide +kernel
theorem dX7_idleMinutes_23 : decode cX7_idleMinutes 23 = .ok (.istore 4, 2) := by decide +kernel
theorem dX7_idleMinutes_25 : decode cX7_idleMinutes 25 = .ok (.iconst 0, 1) := by decide +kernel
theorem dX7_idleMinutes_26 : decode cX7_idleMinutes 26 = .ok (.istore 5, 2) := by decide +kernel
theorem dX7_idleMinutes_28 : decode cX7_idleMinutes 28 = .ok (.iload 5, 2) := by decide +kernel
theorem dX7_idleMinutes_30 : decode cX7_idleMinutes 30 = .ok (.aload_n 0, 1) := by decide +kernel
theorem dX7_idleMinutes_31 : decode cX7_idleMinutes 31 = .ok (.getfield 13, 3) := by decide +kernel
theorem dX7_idleMinutes_34 : decode cX7_idleMinutes 34 = .ok (.bipush 18, 2) := by decide +kernel
theorem dX7_idleMinutes_36 : decode cX7_idleMinutes 36 = .ok (.iaload, 1) := by decide +kernel
theorem dX7_idleMinutes_37 : decode cX7_idleMinutes 37 = .ok (.if_icmp .ge 46, 3) := by decide +kernel
theorem dX7_idleMinutes_40 : decode cX7_idleMinutes 40 = .ok (.iload_n 3, 1) := by decide +kernel
theorem dX7_idleMinutes_41 : decode cX7_idleMinutes 41 = .ok (.aload_n 0, 1) := by decide +kernel
theorem dX7_idleMinutes_42 : decode cX7_idleMinutes 42 = .ok (.getfield 59, 3) := by decide +kernel
theorem dX7_idleMinutes_45 : decode cX7_idleMinutes 45 = .ok (.bipush 6, 2) := by decide +kernel
theorem dX7_idleMinutes_47 : decode cX7_idleMinutes 47 = .ok (.iload_n 2, 1) := by decide +kernel
theorem dX7_idleMinutes_48 : decode cX7_idleMinutes 48 = .ok (.imul, 1) := by decide +kernel
theorem dX7_idleMinutes_49 : decode cX7_idleMinutes 49 = .ok (.iload 5, 2) := by decide +kernel
theorem dX7_idleMinutes_51 : decode cX7_idleMinutes 51 = .ok (.iadd, 1) := by decide +kernel
theorem dX7_idleMinutes_52 : decode cX7_idleMinutes 52 = .ok (.iaload, 1) := by decide +kernel
theorem dX7_idleMinutes_53 : decode cX7_idleMinutes 53 = .ok (.bipush 10, 2) := by decide +kernel
theorem dX7_idleMinutes_55 : decode cX7_idleMinutes 55 = .ok (.if_icmp .lt 7, 3) := by decide +kernel
theorem dX7_idleMinutes_58 : decode cX7_idleMinutes 58 = .ok (.iconst 1, 1) := by decide +kernel
theorem dX7_idleMinutes_59 : decode cX7_idleMinutes 59 = .ok (.goto 4, 3) := by decide +kernel
theorem dX7_idleMinutes_62 : decode cX7_idleMinutes 62 = .ok (.iconst 0, 1) := by decide +kernel
theorem dX7_idleMinutes_63 : decode cX7_idleMinutes 63 = .ok (.iadd, 1) := by decide +kernel
theorem dX7_idleMinutes_64 : decode cX7_idleMinutes 64 = .ok (.istore_n 3, 1) := by decide +kernel
theorem dX7_idleMinutes_65 : decode cX7_idleMinutes 65 = .ok (.iload 4, 2) := by decide +kernel
theorem dX7_idleMinutes_67 : decode cX7_idleMinutes 67 = .ok (.aload_n 0, 1) := by decide +kernel
theorem dX7_idleMinutes_68 : decode cX7_idleMinutes 68 = .ok (.iload 5, 2) := by decide +kernel
theorem dX7_idleMinutes_70 : decode cX7_idleMinutes 70 = .ok (.iload_n 2, 1) := by decide +kernel
theorem dX7_idleMinutes_71 : decode cX7_idleMinutes 71 = .ok (.invokevirtual 286, 3) := by decide +kernel
theorem dX7_idleMinutes_74 : decode cX7_idleMinutes 74 = .ok (.ior, 1) := by decide +kernel
theorem dX7_idleMinutes_75 : decode cX7_idleMinutes 75 = .ok (.istore 4, 2) := by decide +kernel
theorem dX7_idleMinutes_77 : decode cX7_idleMinutes 77 = .ok (.iinc 5 1, 3) := by decide +kernel
theorem dX7_idleMinutes_80 : decode cX7_idleMinutes 80 = .ok (.goto (-52), 3) := by decide +kernel
theorem dX7_idleMinutes_83 : decode cX7_idleMinutes 83 = .ok (.iload_n 1, 1) := by decide +kernel
theorem dX7_idleMinutes_84 : decode cX7_idleMinutes 84 = .ok (.iload 4, 2) := by decide +kernel
theorem dX7_idleMinutes_86 : decode cX7_idleMinutes 86 = .ok (.ifCond .eq 18, 3) := by decide +kernel
theorem dX7_idleMinutes_89 : decode cX7_idleMinutes 89 = .ok (.iload_n 3, 1) := by decide +kernel
theorem dX7_idleMinutes_90 : decode cX7_idleMinutes 90 = .ok (.aload_n 0, 1) := by decide +kernel
theorem dX7_idleMinutes_91 : decode cX7_idleMinutes 91 = .ok (.getfield 19, 3) := by decide +kernel
theorem dX7_idleMinutes_94 : decode cX7_idleMinutes 94 = .ok (.bipush 78, 2) := by decide +kernel
theorem dX7_idleMinutes_96 : decode cX7_idleMinutes 96 = .ok (.iaload, 1) := by decide +kernel
theorem dX7_idleMinutes_97 : decode cX7_idleMinutes 97 = .ok (.if_icmp .ge 7, 3) := by decide +kernel
theorem dX7_idleMinutes_100 : decode cX7_idleMinutes 100 = .ok (.iconst 1, 1) := by decide +kernel
theorem dX7_idleMinutes_101 : decode cX7_idleMinutes 101 = .ok (.goto 4, 3) := by decide +kernel
theorem dX7_idleMinutes_104 : decode cX7_idleMinutes 104 = .ok (.iconst 0, 1) := by decide +kernel
theorem dX7_idleMinutes_105 : decode cX7_idleMinutes 105 = .ok (.iadd, 1) := by decide +kernel
theorem dX7_idleMinutes_106 : decode cX7_idleMinutes 106 = .ok (.istore_n 1, 1) := by decide +kernel
theorem dX7_idleMinutes_107 : decode cX7_idleMinutes 107 = .ok (.iinc 2 1, 3) := by decide +kernel
theorem dX7_idleMinutes_110 : decode cX7_idleMinutes 110 = .ok (.goto (-97), 3) := by decide +kernel
theorem dX7_idleMinutes_113 : decode cX7_idleMinutes 113 = .ok (.iload_n 1, 1) := by decide +kernel
theorem dX7_idleMinutes_114 : decode cX7_idleMinutes 114 = .ok (.ireturn, 1) := by decide +kernel
theorem dX7_hottest_0 : decode cX7_hottest 0 = .ok (.aload_n 0, 1) := by decide +kernel
theorem dX7_hottest_1 : decode cX7_hottest 1 = .ok (.aload_n 0, 1) := by decide +kernel
theorem dX7_hottest_2 : decode cX7_hottest 2 = .ok (.iload_n 1, 1) := by decide +kernel
theorem dX7_hottest_3 : decode cX7_hottest 3 = .ok (.invokevirtual 202, 3) := by decide +kernel
theorem dX7_hottest_6 : decode cX7_hottest 6 = .ok (.invokevirtual 205, 3) := by decide +kernel
theorem dX7_hottest_9 : decode cX7_hottest 9 = .ok (.ifCond .ne 5, 3) := by decide +kernel
theorem dX7_hottest_12 : decode cX7_hottest 12 = .ok (.iconst 0, 1) := by decide +kernel
theorem dX7_hottest_13 : decode cX7_hottest 13 = .ok (.ireturn, 1) := by decide +kernel
theorem dX7_hottest_14 : decode cX7_hottest 14 = .ok (.aload_n 0, 1) := by decide +kernel
theorem dX7_hottest_15 : decode cX7_hottest 15 = .ok (.invokevirtual 279, 3) := by decide +kernel
theorem dX7_hottest_18 : decode cX7_hottest 18 = .ok (.bipush 20, 2) := by decide +kernel
theorem dX7_hottest_20 : decode cX7_hottest 20 = .ok (.istore_n 2, 1) := by decide +kernel
theorem dX7_hottest_21 : decode cX7_hottest 21 = .ok (.iconst 0, 1) := by decide +kernel
theorem dX7_hottest_22 : decode cX7_hottest 22 = .ok (.istore_n 3, 1) := by decide +kernel
theorem dX7_hottest_23 : decode cX7_hottest 23 = .ok (.iload_n 3, 1) := by decide +kernel
theorem dX7_hottest_24 : decode cX7_hottest 24 = .ok (.sipush 480, 3) := by decide +kernel
theorem dX7_hottest_27 : decode cX7_hottest 27 = .ok (.if_icmp .gt 25, 3) := by decide +kernel
theorem dX7_hottest_30 : decode cX7_hottest 30 = .ok (.iload_n 2, 1) := by decide +kernel
theorem dX7_hottest_31 : decode cX7_hottest 31 = .ok (.aload_n 0, 1) := by decide +kernel
theorem dX7_hottest_32 : decode cX7_hottest 32 = .ok (.getfield 56, 3) := by decide +kernel
theorem dX7_hottest_35 : decode cX7_hottest 35 = .ok (.bipush 6, 2) := by decide +kernel
theorem dX7_hottest_37 : decode cX7_hottest 37 = .ok (.iload_n 3, 1) := by decide +kernel
theorem dX7_hottest_38 : decode cX7_hottest 38 = .ok (.imul, 1) := by decide +kernel
theorem dX7_hottest_39 : decode cX7_hottest 39 = .ok (.iload_n 1, 1) := by decide +kernel
theorem dX7_hottest_40 : decode cX7_hottest 40 = .ok (.iadd, 1) := by decide +kernel
theorem dX7_hottest_41 : decode cX7_hottest 41 = .ok (.iaload, 1) := by decide +kernel
theorem dX7_hottest_42 : decode cX7_hottest 42 = .ok (.invokestatic 257, 3) := by decide +kernel
theorem dX7_hottest_45 : decode cX7_hottest 45 = .ok (.istore_n 2, 1) := by decide +kernel
theorem dX7_hottest_46 : decode cX7_hottest 46 = .ok (.iinc 3 1, 3) := by decide +kernel
theorem dX7_hottest_49 : decode cX7_hottest 49 = .ok (.goto (-26), 3) := by decide +kernel
theorem dX7_hottest_52 : decode cX7_hottest 52 = .ok (.iload_n 2, 1) := by decide +kernel
theorem dX7_hottest_53 : decode cX7_hottest 53 = .ok (.ireturn, 1) := by decide +kernel
theorem dX7_lastIron_0 : decode cX7_lastIron 0 = .ok (.aload_n 0, 1) := by decide +kernel
theorem dX7_lastIron_1 : decode cX7_lastIron 1 = .ok (.iconst 0, 1) := by decide +kernel
theorem dX7_lastIron_2 : decode cX7_lastIron 2 = .ok (.putfield 83, 3) := by decide +kernel
theorem dX7_lastIron_5 : decode cX7_lastIron 5 = .ok (.aload_n 0, 1) := by decide +kernel
theorem dX7_lastIron_6 : decode cX7_lastIron 6 = .ok (.invokevirtual 279, 3) := by decide +kernel
theorem dX7_lastIron_9 : decode cX7_lastIron 9 = .ok (.iconst (-1), 1) := by decide +kernel
theorem dX7_lastIron_10 : decode cX7_lastIron 10 = .ok (.istore_n 1, 1) := by decide +kernel
theorem dX7_lastIron_11 : decode cX7_lastIron 11 = .ok (.iconst 0, 1) := by decide +kernel
theorem dX7_lastIron_12 : decode cX7_lastIron 12 = .ok (.istore_n 2, 1) := by decide +kernel
theorem dX7_lastIron_13 : decode cX7_lastIron 13 = .ok (.iload_n 2, 1) := by decide +kernel
theorem dX7_lastIron_14 : decode cX7_lastIron 14 = .ok (.aload_n 0, 1) := by decide +kernel
theorem dX7_lastIron_15 : decode cX7_lastIron 15 = .ok (.getfield 13, 3) := by decide +kernel
theorem dX7_lastIron_18 : decode cX7_lastIron 18 = .ok (.bipush 18, 2) := by decide +kernel
theorem dX7_lastIron_20 : decode cX7_lastIron 20 = .ok (.iaload, 1) := by decide +kernel
theorem dX7_lastIron_21 : decode cX7_lastIron 21 = .ok (.if_icmp .ge 43, 3) := by decide +kernel
theorem dX7_lastIron_24 : decode cX7_lastIron 24 = .ok (.aload_n 0, 1) := by decide +kernel
theorem dX7_lastIron_25 : decode cX7_lastIron 25 = .ok (.getfield 65, 3) := by decide +kernel
theorem dX7_lastIron_28 : decode cX7_lastIron 28 = .ok (.iload_n 2, 1) := by decide +kernel
theorem dX7_lastIron_29 : decode cX7_lastIron 29 = .ok (.iaload, 1) := by decide +kernel
theorem dX7_lastIron_30 : decode cX7_lastIron 30 = .ok (.iconst (-1), 1) := by decide +kernel
theorem dX7_lastIron_31 : decode cX7_lastIron 31 = .ok (.if_icmp .ne 5, 3) := by decide +kernel
theorem dX7_lastIron_34 : decode cX7_lastIron 34 = .ok (.iconst (-1), 1) := by decide +kernel
theorem dX7_lastIron_35 : decode cX7_lastIron 35 = .ok (.ireturn, 1) := by decide +kernel
theorem dX7_lastIron_36 : decode cX7_lastIron 36 = .ok (.iload_n 1, 1) := by decide +kernel
theorem dX7_lastIron_37 : decode cX7_lastIron 37 = .ok (.iconst (-1), 1) := by decide +kernel
theorem dX7_lastIron_38 : decode cX7_lastIron 38 = .ok (.if_icmp .eq 18, 3) := by decide +kernel
theorem dX7_lastIron_41 : decode cX7_lastIron 41 = .ok (.aload_n 0, 1) := by decide +kernel
theorem dX7_lastIron_42 : decode cX7_lastIron 42 = .ok (.getfield 65, 3) := by decide +kernel
theorem dX7_lastIron_45 : decode cX7_lastIron 45 = .ok (.iload_n 2, 1) := by decide +kernel
theorem dX7_lastIron_46 : decode cX7_lastIron 46 = .ok (.iaload, 1) := by decide +kernel
theorem dX7_lastIron_47 : decode cX7_lastIron 47 = .ok (.aload_n 0, 1) := by decide +kernel
theorem dX7_lastIron_48 : decode cX7_lastIron 48 = .ok (.getfield 65, 3) := by decide +kernel
theorem dX7_lastIron_51 : decode cX7_lastIron 51 = .ok (.iload_n 1, 1) := by decide +kernel
theorem dX7_lastIron_52 : decode cX7_lastIron 52 = .ok (.iaload, 1) := by decide +kernel
theorem dX7_lastIron_53 : decode cX7_lastIron 53 = .ok (.if_icmp .le 5, 3) := by decide +kernel
theorem dX7_lastIron_56 : decode cX7_lastIron 56 = .ok (.iload_n 2, 1) := by decide +kernel
theorem dX7_lastIron_57 : decode cX7_lastIron 57 = .ok (.istore_n 1, 1) := by decide +kernel
theorem dX7_lastIron_58 : decode cX7_lastIron 58 = .ok (.iinc 2 1, 3) := by decide +kernel
theorem dX7_lastIron_61 : decode cX7_lastIron 61 = .ok (.goto (-48), 3) := by decide +kernel
theorem dX7_lastIron_64 : decode cX7_lastIron 64 = .ok (.iload_n 1, 1) := by decide +kernel
theorem dX7_lastIron_65 : decode cX7_lastIron 65 = .ok (.ireturn, 1) := by decide +kernel
theorem dX7_swaps_0 : decode cX7_swaps 0 = .ok (.aload_n 0, 1) := by decide +kernel
theorem dX7_swaps_1 : decode cX7_swaps 1 = .ok (.getfield 32, 3) := by decide +kernel
theorem dX7_swaps_4 : decode cX7_swaps 4 = .ok (.iload_n 1, 1) := by decide +kernel
theorem dX7_swaps_5 : decode cX7_swaps 5 = .ok (.iaload, 1) := by decide +kernel
theorem dX7_swaps_6 : decode cX7_swaps 6 = .ok (.istore_n 3, 1) := by decide +kernel
theorem dX7_swaps_7 : decode cX7_swaps 7 = .ok (.aload_n 0, 1) := by decide +kernel
theorem dX7_swaps_8 : decode cX7_swaps 8 = .ok (.getfield 32, 3) := by decide +kernel
theorem dX7_swaps_11 : decode cX7_swaps 11 = .ok (.iload_n 1, 1) := by decide +kernel
theorem dX7_swaps_12 : decode cX7_swaps 12 = .ok (.aload_n 0, 1) := by decide +kernel
theorem dX7_swaps_13 : decode cX7_swaps 13 = .ok (.getfield 32, 3) := by decide +kernel
theorem dX7_swaps_16 : decode cX7_swaps 16 = .ok (.iload_n 2, 1) := by decide +kernel
theorem dX7_swaps_17 : decode cX7_swaps 17 = .ok (.iaload, 1) := by decide +kernel
theorem dX7_swaps_18 : decode cX7_swaps 18 = .ok (.iastore, 1) := by decide +kernel
theorem dX7_swaps_19 : decode cX7_swaps 19 = .ok (.aload_n 0, 1) := by decide +kernel
theorem dX7_swaps_20 : decode cX7_swaps 20 = .ok (.getfield 32, 3) := by decide +kernel
theorem dX7_swaps_23 : decode cX7_swaps 23 = .ok (.iload_n 2, 1) := by decide +kernel
theorem dX7_swaps_24 : decode cX7_swaps 24 = .ok (.iload_n 3, 1) := by decide +kernel
theorem dX7_swaps_25 : decode cX7_swaps 25 = .ok (.iastore, 1) := by decide +kernel
theorem dX7_swaps_26 : decode cX7_swaps 26 = .ok (.return_, 1) := by decide +kernel
theorem dX7_nextOrder_0 : decode cX7_nextOrder 0 = .ok (.aload_n 0, 1) := by decide +kernel
theorem dX7_nextOrder_1 : decode cX7_nextOrder 1 = .ok (.getfield 228, 3) := by decide +kernel
theorem dX7_nextOrder_4 : decode cX7_nextOrder 4 = .ok (.iconst 2, 1) := by decide +kernel
theorem dX7_nextOrder_5 : decode cX7_nextOrder 5 = .ok (.isub, 1) := by decide +kernel
theorem dX7_nextOrder_6 : decode cX7_nextOrder 6 = .ok (.istore_n 1, 1) := by decide +kernel
theorem dX7_nextOrder_7 : decode cX7_nextOrder 7 = .ok (.iload_n 1, 1) := by decide +kernel
theorem dX7_nextOrder_8 : decode cX7_nextOrder 8 = .ok (.ifCond .lt 26, 3) := by decide +kernel
theorem dX7_nextOrder_11 : decode cX7_nextOrder 11 = .ok (.aload_n 0, 1) := by decide +kernel
theorem dX7_nextOrder_12 : decode cX7_nextOrder 12 = .ok (.getfield 32, 3) := by decide +kernel
theorem dX7_nextOrder_15 : decode cX7_nextOrder 15 = .ok (.iload_n 1, 1) := by decide +kernel
theorem dX7_nextOrder_16 : decode cX7_nextOrder 16 = .ok (.iaload, 1) := by decide +kernel
theorem dX7_nextOrder_17 : decode cX7_nextOrder 17 = .ok (.aload_n 0, 1) := by decide +kernel
theorem dX7_nextOrder_18 : decode cX7_nextOrder 18 = .ok (.getfield 32, 3) := by decide +kernel
theorem dX7_nextOrder_21 : decode cX7_nextOrder 21 = .ok (.iload_n 1, 1) := by decide +kernel
theorem dX7_nextOrder_22 : decode cX7_nextOrder 22 = .ok (.iconst 1, 1) := by decide +kernel
theorem dX7_nextOrder_23 : decode cX7_nextOrder 23 = .ok (.iadd, 1) := by decide +kernel
theorem dX7_nextOrder_24 : decode cX7_nextOrder 24 = .ok (.iaload, 1) := by decide +kernel
theorem dX7_nextOrder_25 : decode cX7_nextOrder 25 = .ok (.if_icmp .le 9, 3) := by decide +kernel
theorem dX7_nextOrder_28 : decode cX7_nextOrder 28 = .ok (.iinc 1 (-1), 3) := by decide +kernel
theorem dX7_nextOrder_31 : decode cX7_nextOrder 31 = .ok (.goto (-24), 3) := by decide +kernel
theorem dX7_nextOrder_34 : decode cX7_nextOrder 34 = .ok (.iload_n 1, 1) := by decide +kernel
theorem dX7_nextOrder_35 : decode cX7_nextOrder 35 = .ok (.ifCond .ge 5, 3) := by decide +kernel
theorem dX7_nextOrder_38 : decode cX7_nextOrder 38 = .ok (.iconst 0, 1) := by decide +kernel
theorem dX7_nextOrder_39 : decode cX7_nextOrder 39 = .ok (.ireturn, 1) := by decide +kernel
theorem dX7_nextOrder_40 : decode cX7_nextOrder 40 = .ok (.aload_n 0, 1) := by decide +kernel
theorem dX7_nextOrder_41 : decode cX7_nextOrder 41 = .ok (.getfield 228, 3) := by decide +kernel
theorem dX7_nextOrder_44 : decode cX7_nextOrder 44 = .ok (.iconst 1, 1) := by decide +kernel
theorem dX7_nextOrder_45 : decode cX7_nextOrder 45 = .ok (.isub, 1) := by decide +kernel
theorem dX7_nextOrder_46 : decode cX7_nextOrder 46 = .ok (.istore_n 2, 1) := by decide +kernel
theorem dX7_nextOrder_47 : decode cX7_nextOrder 47 = .ok (.aload_n 0, 1) := by decide +kernel
theorem dX7_nextOrder_48 : decode cX7_nextOrder 48 = .ok (.getfield 32, 3) := by decide +kernel
theorem dX7_nextOrder_51 : decode cX7_nextOrder 51 = .ok (.iload_n 2, 1) := by decide +kernel
theorem dX7_nextOrder_52 : decode cX7_nextOrder 52 = .ok (.iaload, 1) := by decide +kernel
theorem dX7_nextOrder_53 : decode cX7_nextOrder 53 = .ok (.aload_n 0, 1) := by decide +kernel
theorem dX7_nextOrder_54 : decode cX7_nextOrder 54 = .ok (.getfield 32, 3) := by decide +kernel
theorem dX7_nextOrder_57 : decode cX7_nextOrder 57 = .ok (.iload_n 1, 1) := by decide +kernel
theorem dX7_nextOrder_58 : decode cX7_nextOrder 58 = .ok (.iaload, 1) := by decide +kernel
theorem dX7_nextOrder_59 : decode cX7_nextOrder 59 = .ok (.if_icmp .ge 9, 3) := by decide +kernel
theorem dX7_nextOrder_62 : decode cX7_nextOrder 62 = .ok (.iinc 2 (-1), 3) := by decide +kernel
theorem dX7_nextOrder_65 : decode cX7_nextOrder 65 = .ok (.goto (-18), 3) := by decide +kernel
theorem dX7_nextOrder_68 : decode cX7_nextOrder 68 = .ok (.aload_n 0, 1) := by decide +kernel
theorem dX7_nextOrder_69 : decode cX7_nextOrder 69 = .ok (.iload_n 1, 1) := by decide +kernel
theorem dX7_nextOrder_70 : decode cX7_nextOrder 70 = .ok (.iload_n 2, 1) := by decide +kernel
theorem dX7_nextOrder_71 : decode cX7_nextOrder 71 = .ok (.invokevirtual 292, 3) := by decide +kernel
theorem dX7_nextOrder_74 : decode cX7_nextOrder 74 = .ok (.iload_n 1, 1) := by decide +kernel
theorem dX7_nextOrder_75 : decode cX7_nextOrder 75 = .ok (.iconst 1, 1) := by decide +kernel
theorem dX7_nextOrder_76 : decode cX7_nextOrder 76 = .ok (.iadd, 1) := by decide +kernel
theorem dX7_nextOrder_77 : decode cX7_nextOrder 77 = .ok (.istore_n 3, 1) := by decide +kernel
theorem dX7_nextOrder_78 : decode cX7_nextOrder 78 = .ok (.aload_n 0, 1) := by decide +kernel
theorem dX7_nextOrder_79 : decode cX7_nextOrder 79 = .ok (.getfield 228, 3) := by decide +kernel
theorem dX7_nextOrder_82 : decode cX7_nextOrder 82 = .ok (.iconst 1, 1) := by decide +kernel
theorem dX7_nextOrder_83 : decode cX7_nextOrder 83 = .ok (.isub, 1) := by decide +kernel
theorem dX7_nextOrder_84 : decode cX7_nextOrder 84 = .ok (.istore 4, 2) := by decide +kernel
theorem dX7_nextOrder_86 : decode cX7_nextOrder 86 = .ok (.iload_n 3, 1) := by decide +kernel
theorem dX7_nextOrder_87 : decode cX7_nextOrder 87 = .ok (.iload 4, 2) := by decide +kernel
theorem dX7_nextOrder_89 : decode cX7_nextOrder 89 = .ok (.if_icmp .ge 19, 3) := by decide +kernel
theorem dX7_nextOrder_92 : decode cX7_nextOrder 92 = .ok (.aload_n 0, 1) := by decide +kernel
theorem dX7_nextOrder_93 : decode cX7_nextOrder 93 = .ok (.iload_n 3, 1) := by decide +kernel
theorem dX7_nextOrder_94 : decode cX7_nextOrder 94 = .ok (.iload 4, 2) := by decide +kernel
theorem dX7_nextOrder_96 : decode cX7_nextOrder 96 = .ok (.invokevirtual 292, 3) := by decide +kernel
theorem dX7_nextOrder_99 : decode cX7_nextOrder 99 = .ok (.iinc 3 1, 3) := by decide +kernel
theorem dX7_nextOrder_102 : decode cX7_nextOrder 102 = .ok (.iinc 4 (-1), 3) := by decide +kernel
theorem dX7_nextOrder_105 : decode cX7_nextOrder 105 = .ok (.goto (-19), 3) := by decide +kernel
theorem dX7_nextOrder_108 : decode cX7_nextOrder 108 = .ok (.iconst 1, 1) := by decide +kernel
theorem dX7_nextOrder_109 : decode cX7_nextOrder 109 = .ok (.ireturn, 1) := by decide +kernel
theorem dX7_tries_0 : decode cX7_tries 0 = .ok (.aload_n 0, 1) := by decide +kernel
theorem dX7_tries_1 : decode cX7_tries 1 = .ok (.getfield 102, 3) := by decide +kernel
theorem dX7_tries_4 : decode cX7_tries 4 = .ok (.ifCond .eq 4, 3) := by decide +kernel
theorem dX7_tries_7 : decode cX7_tries 7 = .ok (.return_, 1) := by decide +kernel
theorem dX7_tries_8 : decode cX7_tries 8 = .ok (.aload_n 0, 1) := by decide +kernel
theorem dX7_tries_9 : decode cX7_tries 9 = .ok (.iconst 1, 1) := by decide +kernel
theorem dX7_tries_10 : decode cX7_tries 10 = .ok (.putfield 102, 3) := by decide +kernel
theorem dX7_tries_13 : decode cX7_tries 13 = .ok (.aload_n 0, 1) := by decide +kernel
theorem dX7_tries_14 : decode cX7_tries 14 = .ok (.invokevirtual 273, 3) := by decide +kernel
theorem dX7_tries_17 : decode cX7_tries 17 = .ok (.iconst 0, 1) := by decide +kernel
theorem dX7_tries_18 : decode cX7_tries 18 = .ok (.istore_n 1, 1) := by decide +kernel
theorem dX7_tries_19 : decode cX7_tries 19 = .ok (.iload_n 1, 1) := by decide +kernel
theorem dX7_tries_20 : decode cX7_tries 20 = .ok (.aload_n 0, 1) := by decide +kernel
theorem dX7_tries_21 : decode cX7_tries 21 = .ok (.getfield 228, 3) := by decide +kernel
theorem dX7_tries_24 : decode cX7_tries 24 = .ok (.if_icmp .ge 16, 3) := by decide +kernel
theorem dX7_tries_27 : decode cX7_tries 27 = .ok (.aload_n 0, 1) := by decide +kernel
theorem dX7_tries_28 : decode cX7_tries 28 = .ok (.getfield 32, 3) := by decide +kernel
theorem dX7_tries_31 : decode cX7_tries 31 = .ok (.iload_n 1, 1) := by decide +kernel
theorem dX7_tries_32 : decode cX7_tries 32 = .ok (.iload_n 1, 1) := by decide +kernel
theorem dX7_tries_33 : decode cX7_tries 33 = .ok (.iastore, 1) := by decide +kernel
theorem dX7_tries_34 : decode cX7_tries 34 = .ok (.iinc 1 1, 3) := by decide +kernel
theorem dX7_tries_37 : decode cX7_tries 37 = .ok (.goto (-18), 3) := by decide +kernel
theorem dX7_tries_40 : decode cX7_tries 40 = .ok (.aload_n 0, 1) := by decide +kernel
theorem dX7_tries_41 : decode cX7_tries 41 = .ok (.iconst (-1), 1) := by decide +kernel
theorem dX7_tries_42 : decode cX7_tries 42 = .ok (.putfield 295, 3) := by decide +kernel
theorem dX7_tries_45 : decode cX7_tries 45 = .ok (.aload_n 0, 1) := by decide +kernel
theorem dX7_tries_46 : decode cX7_tries 46 = .ok (.iconst 0, 1) := by decide +kernel
theorem dX7_tries_47 : decode cX7_tries 47 = .ok (.putfield 298, 3) := by decide +kernel
theorem dX7_tries_50 : decode cX7_tries 50 = .ok (.iconst 1, 1) := by decide +kernel
theorem dX7_tries_51 : decode cX7_tries 51 = .ok (.istore_n 1, 1) := by decide +kernel
theorem dX7_tries_52 : decode cX7_tries 52 = .ok (.iload_n 1, 1) := by decide +kernel
theorem dX7_tries_53 : decode cX7_tries 53 = .ok (.ifCond .eq 102, 3) := by decide +kernel
theorem dX7_tries_56 : decode cX7_tries 56 = .ok (.aload_n 0, 1) := by decide +kernel
theorem dX7_tries_57 : decode cX7_tries 57 = .ok (.invokevirtual 276, 3) := by decide +kernel
theorem dX7_tries_60 : decode cX7_tries 60 = .ok (.istore_n 2, 1) := by decide +kernel
theorem dX7_tries_61 : decode cX7_tries 61 = .ok (.iload_n 2, 1) := by decide +kernel
theorem dX7_tries_62 : decode cX7_tries 62 = .ok (.iconst (-1), 1) := by decide +kernel
theorem dX7_tries_63 : decode cX7_tries 63 = .ok (.if_icmp .eq 57, 3) := by decide +kernel
theorem dX7_tries_66 : decode cX7_tries 66 = .ok (.aload_n 0, 1) := by decide +kernel
theorem dX7_tries_67 : decode cX7_tries 67 = .ok (.getfield 295, 3) := by decide +kernel
theorem dX7_tries_70 : decode cX7_tries 70 = .ok (.iconst (-1), 1) := by decide +kernel
theorem dX7_tries_71 : decode cX7_tries 71 = .ok (.if_icmp .eq 11, 3) := by decide +kernel
theorem dX7_tries_74 : decode cX7_tries 74 = .ok (.iload_n 2, 1) := by decide +kernel
theorem dX7_tries_75 : decode cX7_tries 75 = .ok (.aload_n 0, 1) := by decide +kernel
theorem dX7_tries_76 : decode cX7_tries 76 = .ok (.getfield 295, 3) := by decide +kernel
theorem dX7_tries_79 : decode cX7_tries 79 = .ok (.if_icmp .ge 41, 3) := by decide +kernel
theorem dX7_tries_82 : decode cX7_tries 82 = .ok (.aload_n 0, 1) := by decide +kernel
theorem dX7_tries_83 : decode cX7_tries 83 = .ok (.iload_n 2, 1) := by decide +kernel
theorem dX7_tries_84 : decode cX7_tries 84 = .ok (.putfield 295, 3) := by decide +kernel
theorem dX7_tries_87 : decode cX7_tries 87 = .ok (.aload_n 0, 1) := by decide +kernel
theorem dX7_tries_88 : decode cX7_tries 88 = .ok (.iconst 0, 1) := by decide +kernel
theorem dX7_tries_89 : decode cX7_tries 89 = .ok (.putfield 298, 3) := by decide +kernel
theorem dX7_tries_92 : decode cX7_tries 92 = .ok (.iconst 0, 1) := by decide +kernel
theorem dX7_tries_93 : decode cX7_tries 93 = .ok (.istore_n 3, 1) := by decide +kernel
theorem dX7_tries_94 : decode cX7_tries 94 = .ok (.iload_n 3, 1) := by decide +kernel
theorem dX7_tries_95 : decode cX7_tries 95 = .ok (.aload_n 0, 1) := by decide +kernel
theorem dX7_tries_96 : decode cX7_tries 96 = .ok (.getfield 228, 3) := by decide +kernel
theorem dX7_tries_99 : decode cX7_tries 99 = .ok (.if_icmp .ge 21, 3) := by decide +kernel
theorem dX7_tries_102 : decode cX7_tries 102 = .ok (.aload_n 0, 1) := by decide +kernel
theorem dX7_tries_103 : decode cX7_tries 103 = .ok (.getfield 74, 3) := by decide +kernel
theorem dX7_tries_106 : decode cX7_tries 106 = .ok (.iload_n 3, 1) := by decide +kernel
theorem dX7_tries_107 : decode cX7_tries 107 = .ok (.aload_n 0, 1) := by decide +kernel
theorem dX7_tries_108 : decode cX7_tries 108 = .ok (.getfield 32, 3) := by decide +kernel
theorem dX7_tries_111 : decode cX7_tries 111 = .ok (.iload_n 3, 1) := by decide +kernel
theorem dX7_tries_112 : decode cX7_tries 112 = .ok (.iaload, 1) := by decide +kernel
theorem dX7_tries_113 : decode cX7_tries 113 = .ok (.iastore, 1) := by decide +kernel
theorem dX7_tries_114 : decode cX7_tries 114 = .ok (.iinc 3 1, 3) := by decide +kernel
theorem dX7_tries_117 : decode cX7_tries 117 = .ok (.goto (-23), 3) := by decide +kernel
theorem dX7_tries_120 : decode cX7_tries 120 = .ok (.aload_n 0, 1) := by decide +kernel
theorem dX7_tries_121 : decode cX7_tries 121 = .ok (.dup, 1) := by decide +kernel
theorem dX7_tries_122 : decode cX7_tries 122 = .ok (.getfield 298, 3) := by decide +kernel
theorem dX7_tries_125 : decode cX7_tries 125 = .ok (.iload_n 2, 1) := by decide +kernel
theorem dX7_tries_126 : decode cX7_tries 126 = .ok (.iconst (-1), 1) := by decide +kernel
theorem dX7_tries_127 : decode cX7_tries 127 = .ok (.if_icmp .eq 15, 3) := by decide +kernel
theorem dX7_tries_130 : decode cX7_tries 130 = .ok (.iload_n 2, 1) := by decide +kernel
theorem dX7_tries_131 : decode cX7_tries 131 = .ok (.aload_n 0, 1) := by decide +kernel
theorem dX7_tries_132 : decode cX7_tries 132 = .ok (.getfield 295, 3) := by decide +kernel
theorem dX7_tries_135 : decode cX7_tries 135 = .ok (.if_icmp .ne 7, 3) := by decide +kernel
theorem dX7_tries_138 : decode cX7_tries 138 = .ok (.iconst 1, 1) := by decide +kernel
theorem dX7_tries_139 : decode cX7_tries 139 = .ok (.goto 4, 3) := by decide +kernel
theorem dX7_tries_142 : decode cX7_tries 142 = .ok (.iconst 0, 1) := by decide +kernel
theorem dX7_tries_143 : decode cX7_tries 143 = .ok (.iadd, 1) := by decide +kernel
theorem dX7_tries_144 : decode cX7_tries 144 = .ok (.putfield 298, 3) := by decide +kernel
theorem dX7_tries_147 : decode cX7_tries 147 = .ok (.aload_n 0, 1) := by decide +kernel
theorem dX7_tries_148 : decode cX7_tries 148 = .ok (.invokevirtual 301, 3) := by decide +kernel
theorem dX7_tries_151 : decode cX7_tries 151 = .ok (.istore_n 1, 1) := by decide +kernel
theorem dX7_tries_152 : decode cX7_tries 152 = .ok (.goto (-100), 3) := by decide +kernel
theorem dX7_tries_155 : decode cX7_tries 155 = .ok (.return_, 1) := by decide +kernel
theorem dX7_bestFinish_0 : decode cX7_bestFinish 0 = .ok (.aload_n 0, 1) := by decide +kernel
theorem dX7_bestFinish_1 : decode cX7_bestFinish 1 = .ok (.iconst 0, 1) := by decide +kernel
theorem dX7_bestFinish_2 : decode cX7_bestFinish 2 = .ok (.putfield 83, 3) := by decide +kernel
theorem dX7_bestFinish_5 : decode cX7_bestFinish 5 = .ok (.aload_n 0, 1) := by decide +kernel
theorem dX7_bestFinish_6 : decode cX7_bestFinish 6 = .ok (.invokevirtual 305, 3) := by decide +kernel
theorem dX7_bestFinish_9 : decode cX7_bestFinish 9 = .ok (.aload_n 0, 1) := by decide +kernel
theorem dX7_bestFinish_10 : decode cX7_bestFinish 10 = .ok (.getfield 295, 3) := by decide +kernel
theorem dX7_bestFinish_13 : decode cX7_bestFinish 13 = .ok (.ireturn, 1) := by decide +kernel
theorem dX7_bestIronAt_0 : decode cX7_bestIronAt 0 = .ok (.aload_n 0, 1) := by decide +kernel
theorem dX7_bestIronAt_1 : decode cX7_bestIronAt 1 = .ok (.aload_n 0, 1) := by decide +kernel
theorem dX7_bestIronAt_2 : decode cX7_bestIronAt 2 = .ok (.iload_n 1, 1) := by decide +kernel
theorem dX7_bestIronAt_3 : decode cX7_bestIronAt 3 = .ok (.invokevirtual 202, 3) := by decide +kernel
theorem dX7_bestIronAt_6 : decode cX7_bestIronAt 6 = .ok (.invokevirtual 205, 3) := by decide +kernel
theorem dX7_bestIronAt_9 : decode cX7_bestIronAt 9 = .ok (.ifCond .ne 5, 3) := by decide +kernel
theorem dX7_bestIronAt_12 : decode cX7_bestIronAt 12 = .ok (.iconst 0, 1) := by decide +kernel
theorem dX7_bestIronAt_13 : decode cX7_bestIronAt 13 = .ok (.ireturn, 1) := by decide +kernel
theorem dX7_bestIronAt_14 : decode cX7_bestIronAt 14 = .ok (.aload_n 0, 1) := by decide +kernel
theorem dX7_bestIronAt_15 : decode cX7_bestIronAt 15 = .ok (.invokevirtual 305, 3) := by decide +kernel
theorem dX7_bestIronAt_18 : decode cX7_bestIronAt 18 = .ok (.aload_n 0, 1) := by decide +kernel
theorem dX7_bestIronAt_19 : decode cX7_bestIronAt 19 = .ok (.getfield 295, 3) := by decide +kernel
theorem dX7_bestIronAt_22 : decode cX7_bestIronAt 22 = .ok (.iconst (-1), 1) := by decide +kernel
theorem dX7_bestIronAt_23 : decode cX7_bestIronAt 23 = .ok (.if_icmp .ne 7, 3) := by decide +kernel
theorem dX7_bestIronAt_26 : decode cX7_bestIronAt 26 = .ok (.iconst (-1), 1) := by decide +kernel
theorem dX7_bestIronAt_27 : decode cX7_bestIronAt 27 = .ok (.goto 9, 3) := by decide +kernel
theorem dX7_bestIronAt_30 : decode cX7_bestIronAt 30 = .ok (.aload_n 0, 1) := by decide +kernel
theorem dX7_bestIronAt_31 : decode cX7_bestIronAt 31 = .ok (.getfield 74, 3) := by decide +kernel
theorem dX7_bestIronAt_34 : decode cX7_bestIronAt 34 = .ok (.iload_n 1, 1) := by decide +kernel
theorem dX7_bestIronAt_35 : decode cX7_bestIronAt 35 = .ok (.iaload, 1) := by decide +kernel
theorem dX7_bestIronAt_36 : decode cX7_bestIronAt 36 = .ok (.ireturn, 1) := by decide +kernel
theorem dX7_bestOrders_0 : decode cX7_bestOrders 0 = .ok (.aload_n 0, 1) := by decide +kernel
theorem dX7_bestOrders_1 : decode cX7_bestOrders 1 = .ok (.iconst 0, 1) := by decide +kernel
theorem dX7_bestOrders_2 : decode cX7_bestOrders 2 = .ok (.putfield 83, 3) := by decide +kernel
theorem dX7_bestOrders_5 : decode cX7_bestOrders 5 = .ok (.aload_n 0, 1) := by decide +kernel
theorem dX7_bestOrders_6 : decode cX7_bestOrders 6 = .ok (.invokevirtual 305, 3) := by decide +kernel
theorem dX7_bestOrders_9 : decode cX7_bestOrders 9 = .ok (.aload_n 0, 1) := by decide +kernel
theorem dX7_bestOrders_10 : decode cX7_bestOrders 10 = .ok (.getfield 298, 3) := by decide +kernel
theorem dX7_bestOrders_13 : decode cX7_bestOrders 13 = .ok (.ireturn, 1) := by decide +kernel
theorem dX7_finishWithSwap_0 : decode cX7_finishWithSwap 0 = .ok (.aload_n 0, 1) := by decide +kernel
theorem dX7_finishWithSwap_1 : decode cX7_finishWithSwap 1 = .ok (.aload_n 0, 1) := by decide +kernel
theorem dX7_finishWithSwap_2 : decode cX7_finishWithSwap 2 = .ok (.iload_n 1, 1) := by decide +kernel
theorem dX7_finishWithSwap_3 : decode cX7_finishWithSwap 3 = .ok (.invokevirtual 202, 3) := by decide +kernel
theorem dX7_finishWithSwap_6 : decode cX7_finishWithSwap 6 = .ok (.ifCond .eq 15, 3) := by decide +kernel
theorem dX7_finishWithSwap_9 : decode cX7_finishWithSwap 9 = .ok (.aload_n 0, 1) := by decide +kernel
theorem dX7_finishWithSwap_10 : decode cX7_finishWithSwap 10 = .ok (.iload_n 2, 1) := by decide +kernel
theorem dX7_finishWithSwap_11 : decode cX7_finishWithSwap 11 = .ok (.invokevirtual 202, 3) := by decide +kernel
theorem dX7_finishWithSwap_14 : decode cX7_finishWithSwap 14 = .ok (.ifCond .eq 7, 3) := by decide +kernel
theorem dX7_finishWithSwap_17 : decode cX7_finishWithSwap 17 = .ok (.iconst 1, 1) := by decide +kernel
theorem dX7_finishWithSwap_18 : decode cX7_finishWithSwap 18 = .ok (.goto 4, 3) := by decide +kernel
theorem dX7_finishWithSwap_21 : decode cX7_finishWithSwap 21 = .ok (.iconst 0, 1) := by decide +kernel
theorem dX7_finishWithSwap_22 : decode cX7_finishWithSwap 22 = .ok (.invokevirtual 205, 3) := by decide +kernel
theorem dX7_finishWithSwap_25 : decode cX7_finishWithSwap 25 = .ok (.ifCond .ne 5, 3) := by decide +kernel
theorem dX7_finishWithSwap_28 : decode cX7_finishWithSwap 28 = .ok (.iconst 0, 1) := by decide +kernel
theorem dX7_finishWithSwap_29 : decode cX7_finishWithSwap 29 = .ok (.ireturn, 1) := by decide +kernel
theorem dX7_finishWithSwap_30 : decode cX7_finishWithSwap 30 = .ok (.aload_n 0, 1) := by decide +kernel
theorem dX7_finishWithSwap_31 : decode cX7_finishWithSwap 31 = .ok (.invokevirtual 273, 3) := by decide +kernel
theorem dX7_finishWithSwap_34 : decode cX7_finishWithSwap 34 = .ok (.aload_n 0, 1) := by decide +kernel
theorem dX7_finishWithSwap_35 : decode cX7_finishWithSwap 35 = .ok (.iload_n 1, 1) := by decide +kernel
theorem dX7_finishWithSwap_36 : decode cX7_finishWithSwap 36 = .ok (.iload_n 2, 1) := by decide +kernel
theorem dX7_finishWithSwap_37 : decode cX7_finishWithSwap 37 = .ok (.invokevirtual 292, 3) := by decide +kernel
theorem dX7_finishWithSwap_40 : decode cX7_finishWithSwap 40 = .ok (.aload_n 0, 1) := by decide +kernel
theorem dX7_finishWithSwap_41 : decode cX7_finishWithSwap 41 = .ok (.invokevirtual 276, 3) := by decide +kernel
theorem dX7_finishWithSwap_44 : decode cX7_finishWithSwap 44 = .ok (.ireturn, 1) := by decide +kernel
theorem dX7_isMargin_0 : decode cX7_isMargin 0 = .ok (.iload_n 0, 1) := by decide +kernel
theorem dX7_isMargin_1 : decode cX7_isMargin 1 = .ok (.ifCond .lt 14, 3) := by decide +kernel
theorem dX7_isMargin_4 : decode cX7_isMargin 4 = .ok (.iload_n 0, 1) := by decide +kernel
theorem dX7_isMargin_5 : decode cX7_isMargin 5 = .ok (.sipush 500, 3) := by decide +kernel
theorem dX7_isMargin_8 : decode cX7_isMargin 8 = .ok (.if_icmp .gt 7, 3) := by decide +kernel
theorem dX7_isMargin_11 : decode cX7_isMargin 11 = .ok (.iconst 1, 1) := by decide +kernel
theorem dX7_isMargin_12 : decode cX7_isMargin 12 = .ok (.goto 4, 3) := by decide +kernel
theorem dX7_isMargin_15 : decode cX7_isMargin 15 = .ok (.iconst 0, 1) := by decide +kernel
theorem dX7_isMargin_16 : decode cX7_isMargin 16 = .ok (.ireturn, 1) := by decide +kernel
theorem dX7_endsWith_0 : decode cX7_endsWith 0 = .ok (.aload_n 0, 1) := by decide +kernel
theorem dX7_endsWith_1 : decode cX7_endsWith 1 = .ok (.invokevirtual 273, 3) := by decide +kernel
theorem dX7_endsWith_4 : decode cX7_endsWith 4 = .ok (.aload_n 0, 1) := by decide +kernel
theorem dX7_endsWith_5 : decode cX7_endsWith 5 = .ok (.iload_n 1, 1) := by decide +kernel
theorem dX7_endsWith_6 : decode cX7_endsWith 6 = .ok (.putfield 225, 3) := by decide +kernel
theorem dX7_endsWith_9 : decode cX7_endsWith 9 = .ok (.aload_n 0, 1) := by decide +kernel
theorem dX7_endsWith_10 : decode cX7_endsWith 10 = .ok (.invokevirtual 276, 3) := by decide +kernel
theorem dX7_endsWith_13 : decode cX7_endsWith 13 = .ok (.ireturn, 1) := by decide +kernel
theorem dX7_finishWithMargin_0 : decode cX7_finishWithMargin 0 = .ok (.aload_n 0, 1) := by decide +kernel
theorem dX7_finishWithMargin_1 : decode cX7_finishWithMargin 1 = .ok (.iconst 0, 1) := by decide +kernel
theorem dX7_finishWithMargin_2 : decode cX7_finishWithMargin 2 = .ok (.putfield 83, 3) := by decide +kernel
theorem dX7_finishWithMargin_5 : decode cX7_finishWithMargin 5 = .ok (.iload_n 1, 1) := by decide +kernel
theorem dX7_finishWithMargin_6 : decode cX7_finishWithMargin 6 = .ok (.invokestatic 308, 3) := by decide +kernel
theorem dX7_finishWithMargin_9 : decode cX7_finishWithMargin 9 = .ok (.ifCond .eq 11, 3) := by decide +kernel
theorem dX7_finishWithMargin_12 : decode cX7_finishWithMargin 12 = .ok (.aload_n 0, 1) := by decide +kernel
theorem dX7_finishWithMargin_13 : decode cX7_finishWithMargin 13 = .ok (.iload_n 1, 1) := by decide +kernel
theorem dX7_finishWithMargin_14 : decode cX7_finishWithMargin 14 = .ok (.invokevirtual 311, 3) := by decide +kernel
theorem dX7_finishWithMargin_17 : decode cX7_finishWithMargin 17 = .ok (.goto 5, 3) := by decide +kernel
theorem dX7_finishWithMargin_20 : decode cX7_finishWithMargin 20 = .ok (.bipush (-2), 2) := by decide +kernel
theorem dX7_finishWithMargin_22 : decode cX7_finishWithMargin 22 = .ok (.ireturn, 1) := by decide +kernel
theorem dX7_bestMargin_0 : decode cX7_bestMargin 0 = .ok (.aload_n 0, 1) := by decide +kernel
theorem dX7_bestMargin_1 : decode cX7_bestMargin 1 = .ok (.iconst 0, 1) := by decide +kernel
theorem dX7_bestMargin_2 : decode cX7_bestMargin 2 = .ok (.putfield 83, 3) := by decide +kernel
theorem dX7_bestMargin_5 : decode cX7_bestMargin 5 = .ok (.iconst (-1), 1) := by decide +kernel
theorem dX7_bestMargin_6 : decode cX7_bestMargin 6 = .ok (.istore_n 1, 1) := by decide +kernel
theorem dX7_bestMargin_7 : decode cX7_bestMargin 7 = .ok (.iconst 0, 1) := by decide +kernel
theorem dX7_bestMargin_8 : decode cX7_bestMargin 8 = .ok (.istore_n 2, 1) := by decide +kernel
theorem dX7_bestMargin_9 : decode cX7_bestMargin 9 = .ok (.iconst 0, 1) := by decide +kernel
theorem dX7_bestMargin_10 : decode cX7_bestMargin 10 = .ok (.istore_n 3, 1) := by decide +kernel
theorem dX7_bestMargin_11 : decode cX7_bestMargin 11 = .ok (.iload_n 3, 1) := by decide +kernel
theorem dX7_bestMargin_12 : decode cX7_bestMargin 12 = .ok (.sipush 500, 3) := by decide +kernel
theorem dX7_bestMargin_15 : decode cX7_bestMargin 15 = .ok (.if_icmp .gt 41, 3) := by decide +kernel
theorem dX7_bestMargin_18 : decode cX7_bestMargin 18 = .ok (.aload_n 0, 1) := by decide +kernel
theorem dX7_bestMargin_19 : decode cX7_bestMargin 19 = .ok (.iload_n 3, 1) := by decide +kernel
theorem dX7_bestMargin_20 : decode cX7_bestMargin 20 = .ok (.invokevirtual 311, 3) := by decide +kernel
theorem dX7_bestMargin_23 : decode cX7_bestMargin 23 = .ok (.istore 4, 2) := by decide +kernel
theorem dX7_bestMargin_25 : decode cX7_bestMargin 25 = .ok (.iload 4, 2) := by decide +kernel
theorem dX7_bestMargin_27 : decode cX7_bestMargin 27 = .ok (.iconst (-1), 1) := by decide +kernel
theorem dX7_bestMargin_28 : decode cX7_bestMargin 28 = .ok (.if_icmp .eq 22, 3) := by decide +kernel
theorem dX7_bestMargin_31 : decode cX7_bestMargin 31 = .ok (.iload_n 1, 1) := by decide +kernel
theorem dX7_bestMargin_32 : decode cX7_bestMargin 32 = .ok (.iconst (-1), 1) := by decide +kernel
theorem dX7_bestMargin_33 : decode cX7_bestMargin 33 = .ok (.if_icmp .eq 12, 3) := by decide +kernel
theorem dX7_bestMargin_36 : decode cX7_bestMargin 36 = .ok (.iload 4, 2) := by decide +kernel
theorem dX7_bestMargin_38 : decode cX7_bestMargin 38 = .ok (.iload_n 2, 1) := by decide +kernel
theorem dX7_bestMargin_39 : decode cX7_bestMargin 39 = .ok (.if_icmp .lt 6, 3) := by decide +kernel
theorem dX7_bestMargin_42 : decode cX7_bestMargin 42 = .ok (.goto 8, 3) := by decide +kernel
theorem dX7_bestMargin_45 : decode cX7_bestMargin 45 = .ok (.iload_n 3, 1) := by decide +kernel
theorem dX7_bestMargin_46 : decode cX7_bestMargin 46 = .ok (.istore_n 1, 1) := by decide +kernel
theorem dX7_bestMargin_47 : decode cX7_bestMargin 47 = .ok (.iload 4, 2) := by decide +kernel
theorem dX7_bestMargin_49 : decode cX7_bestMargin 49 = .ok (.istore_n 2, 1) := by decide +kernel
theorem dX7_bestMargin_50 : decode cX7_bestMargin 50 = .ok (.iinc 3 10, 3) := by decide +kernel
theorem dX7_bestMargin_53 : decode cX7_bestMargin 53 = .ok (.goto (-42), 3) := by decide +kernel
theorem dX7_bestMargin_56 : decode cX7_bestMargin 56 = .ok (.iload_n 1, 1) := by decide +kernel
theorem dX7_bestMargin_57 : decode cX7_bestMargin 57 = .ok (.ireturn, 1) := by decide +kernel
theorem dX7_finishWithoutPlace_0 : decode cX7_finishWithoutPlace 0 = .ok (.aload_n 0, 1) := by decide +kernel
theorem dX7_finishWithoutPlace_1 : decode cX7_finishWithoutPlace 1 = .ok (.aload_n 0, 1) := by decide +kernel
theorem dX7_finishWithoutPlace_2 : decode cX7_finishWithoutPlace 2 = .ok (.iload_n 1, 1) := by decide +kernel
theorem dX7_finishWithoutPlace_3 : decode cX7_finishWithoutPlace 3 = .ok (.invokevirtual 213, 3) := by decide +kernel
theorem dX7_finishWithoutPlace_6 : decode cX7_finishWithoutPlace 6 = .ok (.invokevirtual 205, 3) := by decide +kernel
theorem dX7_finishWithoutPlace_9 : decode cX7_finishWithoutPlace 9 = .ok (.ifCond .ne 5, 3) := by decide +kernel
theorem dX7_finishWithoutPlace_12 : decode cX7_finishWithoutPlace 12 = .ok (.iconst 0, 1) := by decide +kernel
theorem dX7_finishWithoutPlace_13 : decode cX7_finishWithoutPlace 13 = .ok (.ireturn, 1) := by decide +kernel
theorem dX7_finishWithoutPlace_14 : decode cX7_finishWithoutPlace 14 = .ok (.aload_n 0, 1) := by decide +kernel
theorem dX7_finishWithoutPlace_15 : decode cX7_finishWithoutPlace 15 = .ok (.invokevirtual 273, 3) := by decide +kernel
theorem dX7_finishWithoutPlace_18 : decode cX7_finishWithoutPlace 18 = .ok (.aload_n 0, 1) := by decide +kernel
theorem dX7_finishWithoutPlace_19 : decode cX7_finishWithoutPlace 19 = .ok (.iload_n 1, 1) := by decide +kernel
theorem dX7_finishWithoutPlace_20 : decode cX7_finishWithoutPlace 20 = .ok (.putfield 246, 3) := by decide +kernel
theorem dX7_finishWithoutPlace_23 : decode cX7_finishWithoutPlace 23 = .ok (.aload_n 0, 1) := by decide +kernel
theorem dX7_finishWithoutPlace_24 : decode cX7_finishWithoutPlace 24 = .ok (.invokevirtual 276, 3) := by decide +kernel
theorem dX7_finishWithoutPlace_27 : decode cX7_finishWithoutPlace 27 = .ok (.ireturn, 1) := by decide +kernel
theorem dX7_finishWithoutIron_0 : decode cX7_finishWithoutIron 0 = .ok (.aload_n 0, 1) := by decide +kernel
theorem dX7_finishWithoutIron_1 : decode cX7_finishWithoutIron 1 = .ok (.aload_n 0, 1) := by decide +kernel
theorem dX7_finishWithoutIron_2 : decode cX7_finishWithoutIron 2 = .ok (.iload_n 1, 1) := by decide +kernel
theorem dX7_finishWithoutIron_3 : decode cX7_finishWithoutIron 3 = .ok (.invokevirtual 202, 3) := by decide +kernel
theorem dX7_finishWithoutIron_6 : decode cX7_finishWithoutIron 6 = .ok (.invokevirtual 205, 3) := by decide +kernel
theorem dX7_finishWithoutIron_9 : decode cX7_finishWithoutIron 9 = .ok (.ifCond .ne 5, 3) := by decide +kernel
theorem dX7_finishWithoutIron_12 : decode cX7_finishWithoutIron 12 = .ok (.iconst 0, 1) := by decide +kernel
theorem dX7_finishWithoutIron_13 : decode cX7_finishWithoutIron 13 = .ok (.ireturn, 1) := by decide +kernel
theorem dX7_finishWithoutIron_14 : decode cX7_finishWithoutIron 14 = .ok (.aload_n 0, 1) := by decide +kernel
theorem dX7_finishWithoutIron_15 : decode cX7_finishWithoutIron 15 = .ok (.invokevirtual 273, 3) := by decide +kernel
theorem dX7_finishWithoutIron_18 : decode cX7_finishWithoutIron 18 = .ok (.iconst 0, 1) := by decide +kernel
theorem dX7_finishWithoutIron_19 : decode cX7_finishWithoutIron 19 = .ok (.istore_n 2, 1) := by decide +kernel
theorem dX7_finishWithoutIron_20 : decode cX7_finishWithoutIron 20 = .ok (.iconst 0, 1) := by decide +kernel
theorem dX7_finishWithoutIron_21 : decode cX7_finishWithoutIron 21 = .ok (.istore_n 3, 1) := by decide +kernel
theorem dX7_finishWithoutIron_22 : decode cX7_finishWithoutIron 22 = .ok (.iload_n 3, 1) := by decide +kernel
theorem dX7_finishWithoutIron_23 : decode cX7_finishWithoutIron 23 = .ok (.aload_n 0, 1) := by decide +kernel
theorem dX7_finishWithoutIron_24 : decode cX7_finishWithoutIron 24 = .ok (.getfield 228, 3) := by decide +kernel
theorem dX7_finishWithoutIron_27 : decode cX7_finishWithoutIron 27 = .ok (.if_icmp .ge 37, 3) := by decide +kernel
theorem dX7_finishWithoutIron_30 : decode cX7_finishWithoutIron 30 = .ok (.aload_n 0, 1) := by decide +kernel
theorem dX7_finishWithoutIron_31 : decode cX7_finishWithoutIron 31 = .ok (.getfield 32, 3) := by decide +kernel
theorem dX7_finishWithoutIron_34 : decode cX7_finishWithoutIron 34 = .ok (.iload_n 3, 1) := by decide +kernel
theorem dX7_finishWithoutIron_35 : decode cX7_finishWithoutIron 35 = .ok (.iaload, 1) := by decide +kernel
theorem dX7_finishWithoutIron_36 : decode cX7_finishWithoutIron 36 = .ok (.iload_n 1, 1) := by decide +kernel
theorem dX7_finishWithoutIron_37 : decode cX7_finishWithoutIron 37 = .ok (.if_icmp .ne 6, 3) := by decide +kernel
theorem dX7_finishWithoutIron_40 : decode cX7_finishWithoutIron 40 = .ok (.goto 18, 3) := by decide +kernel
theorem dX7_finishWithoutIron_43 : decode cX7_finishWithoutIron 43 = .ok (.aload_n 0, 1) := by decide +kernel
theorem dX7_finishWithoutIron_44 : decode cX7_finishWithoutIron 44 = .ok (.getfield 32, 3) := by decide +kernel
theorem dX7_finishWithoutIron_47 : decode cX7_finishWithoutIron 47 = .ok (.iload_n 2, 1) := by decide +kernel
theorem dX7_finishWithoutIron_48 : decode cX7_finishWithoutIron 48 = .ok (.aload_n 0, 1) := by decide +kernel
theorem dX7_finishWithoutIron_49 : decode cX7_finishWithoutIron 49 = .ok (.getfield 32, 3) := by decide +kernel
theorem dX7_finishWithoutIron_52 : decode cX7_finishWithoutIron 52 = .ok (.iload_n 3, 1) := by decide +kernel
theorem dX7_finishWithoutIron_53 : decode cX7_finishWithoutIron 53 = .ok (.iaload, 1) := by decide +kernel
theorem dX7_finishWithoutIron_54 : decode cX7_finishWithoutIron 54 = .ok (.iastore, 1) := by decide +kernel
theorem dX7_finishWithoutIron_55 : decode cX7_finishWithoutIron 55 = .ok (.iinc 2 1, 3) := by decide +kernel
theorem dX7_finishWithoutIron_58 : decode cX7_finishWithoutIron 58 = .ok (.iinc 3 1, 3) := by decide +kernel
theorem dX7_finishWithoutIron_61 : decode cX7_finishWithoutIron 61 = .ok (.goto (-39), 3) := by decide +kernel
theorem dX7_finishWithoutIron_64 : decode cX7_finishWithoutIron 64 = .ok (.aload_n 0, 1) := by decide +kernel
theorem dX7_finishWithoutIron_65 : decode cX7_finishWithoutIron 65 = .ok (.iload_n 2, 1) := by decide +kernel
theorem dX7_finishWithoutIron_66 : decode cX7_finishWithoutIron 66 = .ok (.putfield 228, 3) := by decide +kernel
theorem dX7_finishWithoutIron_69 : decode cX7_finishWithoutIron 69 = .ok (.aload_n 0, 1) := by decide +kernel
theorem dX7_finishWithoutIron_70 : decode cX7_finishWithoutIron 70 = .ok (.invokevirtual 276, 3) := by decide +kernel
theorem dX7_finishWithoutIron_73 : decode cX7_finishWithoutIron 73 = .ok (.ireturn, 1) := by decide +kernel
theorem dX7_finishAlone_0 : decode cX7_finishAlone 0 = .ok (.aload_n 0, 1) := by decide +kernel
theorem dX7_finishAlone_1 : decode cX7_finishAlone 1 = .ok (.aload_n 0, 1) := by decide +kernel
theorem dX7_finishAlone_2 : decode cX7_finishAlone 2 = .ok (.iload_n 1, 1) := by decide +kernel
theorem dX7_finishAlone_3 : decode cX7_finishAlone 3 = .ok (.invokevirtual 202, 3) := by decide +kernel
theorem dX7_finishAlone_6 : decode cX7_finishAlone 6 = .ok (.invokevirtual 205, 3) := by decide +kernel
theorem dX7_finishAlone_9 : decode cX7_finishAlone 9 = .ok (.ifCond .ne 5, 3) := by decide +kernel
theorem dX7_finishAlone_12 : decode cX7_finishAlone 12 = .ok (.iconst 0, 1) := by decide +kernel
theorem dX7_finishAlone_13 : decode cX7_finishAlone 13 = .ok (.ireturn, 1) := by decide +kernel
theorem dX7_finishAlone_14 : decode cX7_finishAlone 14 = .ok (.aload_n 0, 1) := by decide +kernel
theorem dX7_finishAlone_15 : decode cX7_finishAlone 15 = .ok (.invokevirtual 273, 3) := by decide +kernel
theorem dX7_finishAlone_18 : decode cX7_finishAlone 18 = .ok (.aload_n 0, 1) := by decide +kernel
theorem dX7_finishAlone_19 : decode cX7_finishAlone 19 = .ok (.getfield 32, 3) := by decide +kernel
theorem dX7_finishAlone_22 : decode cX7_finishAlone 22 = .ok (.iconst 0, 1) := by decide +kernel
theorem dX7_finishAlone_23 : decode cX7_finishAlone 23 = .ok (.iload_n 1, 1) := by decide +kernel
theorem dX7_finishAlone_24 : decode cX7_finishAlone 24 = .ok (.iastore, 1) := by decide +kernel
theorem dX7_finishAlone_25 : decode cX7_finishAlone 25 = .ok (.aload_n 0, 1) := by decide +kernel
theorem dX7_finishAlone_26 : decode cX7_finishAlone 26 = .ok (.iconst 1, 1) := by decide +kernel
theorem dX7_finishAlone_27 : decode cX7_finishAlone 27 = .ok (.putfield 228, 3) := by decide +kernel
theorem dX7_finishAlone_30 : decode cX7_finishAlone 30 = .ok (.aload_n 0, 1) := by decide +kernel
theorem dX7_finishAlone_31 : decode cX7_finishAlone 31 = .ok (.invokevirtual 276, 3) := by decide +kernel
theorem dX7_finishAlone_34 : decode cX7_finishAlone 34 = .ok (.ireturn, 1) := by decide +kernel
theorem dX7_endsIf_0 : decode cX7_endsIf 0 = .ok (.aload_n 0, 1) := by decide +kernel
theorem dX7_endsIf_1 : decode cX7_endsIf 1 = .ok (.getfield 19, 3) := by decide +kernel
theorem dX7_endsIf_4 : decode cX7_endsIf 4 = .ok (.iload_n 1, 1) := by decide +kernel
theorem dX7_endsIf_5 : decode cX7_endsIf 5 = .ok (.iaload, 1) := by decide +kernel
theorem dX7_endsIf_6 : decode cX7_endsIf 6 = .ok (.istore_n 3, 1) := by decide +kernel
theorem dX7_endsIf_7 : decode cX7_endsIf 7 = .ok (.aload_n 0, 1) := by decide +kernel
theorem dX7_endsIf_8 : decode cX7_endsIf 8 = .ok (.getfield 19, 3) := by decide +kernel
theorem dX7_endsIf_11 : decode cX7_endsIf 11 = .ok (.iload_n 1, 1) := by decide +kernel
theorem dX7_endsIf_12 : decode cX7_endsIf 12 = .ok (.iload_n 2, 1) := by decide +kernel
theorem dX7_endsIf_13 : decode cX7_endsIf 13 = .ok (.iastore, 1) := by decide +kernel
theorem dX7_endsIf_14 : decode cX7_endsIf 14 = .ok (.aload_n 0, 1) := by decide +kernel
theorem dX7_endsIf_15 : decode cX7_endsIf 15 = .ok (.invokevirtual 273, 3) := by decide +kernel
theorem dX7_endsIf_18 : decode cX7_endsIf 18 = .ok (.aload_n 0, 1) := by decide +kernel
theorem dX7_endsIf_19 : decode cX7_endsIf 19 = .ok (.invokevirtual 276, 3) := by decide +kernel
theorem dX7_endsIf_22 : decode cX7_endsIf 22 = .ok (.istore 4, 2) := by decide +kernel
theorem dX7_endsIf_24 : decode cX7_endsIf 24 = .ok (.aload_n 0, 1) := by decide +kernel
theorem dX7_endsIf_25 : decode cX7_endsIf 25 = .ok (.getfield 19, 3) := by decide +kernel
theorem dX7_endsIf_28 : decode cX7_endsIf 28 = .ok (.iload_n 1, 1) := by decide +kernel
theorem dX7_endsIf_29 : decode cX7_endsIf 29 = .ok (.iload_n 3, 1) := by decide +kernel
theorem dX7_endsIf_30 : decode cX7_endsIf 30 = .ok (.iastore, 1) := by decide +kernel
theorem dX7_endsIf_31 : decode cX7_endsIf 31 = .ok (.iload 4, 2) := by decide +kernel
theorem dX7_endsIf_33 : decode cX7_endsIf 33 = .ok (.ireturn, 1) := by decide +kernel
theorem dX7_finishWithAnvils_0 : decode cX7_finishWithAnvils 0 = .ok (.aload_n 0, 1) := by decide +kernel
theorem dX7_finishWithAnvils_1 : decode cX7_finishWithAnvils 1 = .ok (.iconst 0, 1) := by decide +kernel
theorem dX7_finishWithAnvils_2 : decode cX7_finishWithAnvils 2 = .ok (.putfield 83, 3) := by decide +kernel
theorem dX7_finishWithAnvils_5 : decode cX7_finishWithAnvils 5 = .ok (.iload_n 1, 1) := by decide +kernel
theorem dX7_finishWithAnvils_6 : decode cX7_finishWithAnvils 6 = .ok (.iconst 1, 1) := by decide +kernel
theorem dX7_finishWithAnvils_7 : decode cX7_finishWithAnvils 7 = .ok (.if_icmp .lt 18, 3) := by decide +kernel
theorem dX7_finishWithAnvils_10 : decode cX7_finishWithAnvils 10 = .ok (.iload_n 1, 1) := by decide +kernel
theorem dX7_finishWithAnvils_11 : decode cX7_finishWithAnvils 11 = .ok (.iconst 3, 1) := by decide +kernel
theorem dX7_finishWithAnvils_12 : decode cX7_finishWithAnvils 12 = .ok (.if_icmp .gt 13, 3) := by decide +kernel
theorem dX7_finishWithAnvils_15 : decode cX7_finishWithAnvils 15 = .ok (.aload_n 0, 1) := by decide +kernel
theorem dX7_finishWithAnvils_16 : decode cX7_finishWithAnvils 16 = .ok (.bipush 78, 2) := by decide +kernel
theorem dX7_finishWithAnvils_18 : decode cX7_finishWithAnvils 18 = .ok (.iload_n 1, 1) := by decide +kernel
theorem dX7_finishWithAnvils_19 : decode cX7_finishWithAnvils 19 = .ok (.invokevirtual 314, 3) := by decide +kernel
theorem dX7_finishWithAnvils_22 : decode cX7_finishWithAnvils 22 = .ok (.goto 5, 3) := by decide +kernel
theorem dX7_finishWithAnvils_25 : decode cX7_finishWithAnvils 25 = .ok (.bipush (-2), 2) := by decide +kernel
theorem dX7_finishWithAnvils_27 : decode cX7_finishWithAnvils 27 = .ok (.ireturn, 1) := by decide +kernel
theorem dX7_bestRule_0 : decode cX7_bestRule 0 = .ok (.aload_n 0, 1) := by decide +kernel
theorem dX7_bestRule_1 : decode cX7_bestRule 1 = .ok (.iconst 0, 1) := by decide +kernel
theorem dX7_bestRule_2 : decode cX7_bestRule 2 = .ok (.putfield 83, 3) := by decide +kernel
theorem dX7_bestRule_5 : decode cX7_bestRule 5 = .ok (.iconst (-1), 1) := by decide +kernel
theorem dX7_bestRule_6 : decode cX7_bestRule 6 = .ok (.istore_n 1, 1) := by decide +kernel
theorem dX7_bestRule_7 : decode cX7_bestRule 7 = .ok (.iconst 0, 1) := by decide +kernel
theorem dX7_bestRule_8 : decode cX7_bestRule 8 = .ok (.istore_n 2, 1) := by decide +kernel
theorem dX7_bestRule_9 : decode cX7_bestRule 9 = .ok (.iconst 0, 1) := by decide +kernel
theorem dX7_bestRule_10 : decode cX7_bestRule 10 = .ok (.istore_n 3, 1) := by decide +kernel
theorem dX7_bestRule_11 : decode cX7_bestRule 11 = .ok (.iload_n 3, 1) := by decide +kernel
theorem dX7_bestRule_12 : decode cX7_bestRule 12 = .ok (.iconst 3, 1) := by decide +kernel
theorem dX7_bestRule_13 : decode cX7_bestRule 13 = .ok (.if_icmp .ge 43, 3) := by decide +kernel
theorem dX7_bestRule_16 : decode cX7_bestRule 16 = .ok (.aload_n 0, 1) := by decide +kernel
theorem dX7_bestRule_17 : decode cX7_bestRule 17 = .ok (.bipush 80, 2) := by decide +kernel
theorem dX7_bestRule_19 : decode cX7_bestRule 19 = .ok (.iload_n 3, 1) := by decide +kernel
theorem dX7_bestRule_20 : decode cX7_bestRule 20 = .ok (.invokevirtual 314, 3) := by decide +kernel
theorem dX7_bestRule_23 : decode cX7_bestRule 23 = .ok (.istore 4, 2) := by decide +kernel
theorem dX7_bestRule_25 : decode cX7_bestRule 25 = .ok (.iload 4, 2) := by decide +kernel
theorem dX7_bestRule_27 : decode cX7_bestRule 27 = .ok (.iconst (-1), 1) := by decide +kernel
theorem dX7_bestRule_28 : decode cX7_bestRule 28 = .ok (.if_icmp .eq 22, 3) := by decide +kernel
theorem dX7_bestRule_31 : decode cX7_bestRule 31 = .ok (.iload_n 1, 1) := by decide +kernel
theorem dX7_bestRule_32 : decode cX7_bestRule 32 = .ok (.iconst (-1), 1) := by decide +kernel
theorem dX7_bestRule_33 : decode cX7_bestRule 33 = .ok (.if_icmp .eq 12, 3) := by decide +kernel
theorem dX7_bestRule_36 : decode cX7_bestRule 36 = .ok (.iload 4, 2) := by decide +kernel
theorem dX7_bestRule_38 : decode cX7_bestRule 38 = .ok (.iload_n 2, 1) := by decide +kernel
theorem dX7_bestRule_39 : decode cX7_bestRule 39 = .ok (.if_icmp .lt 6, 3) := by decide +kernel
theorem dX7_bestRule_42 : decode cX7_bestRule 42 = .ok (.goto 8, 3) := by decide +kernel
theorem dX7_bestRule_45 : decode cX7_bestRule 45 = .ok (.iload_n 3, 1) := by decide +kernel
theorem dX7_bestRule_46 : decode cX7_bestRule 46 = .ok (.istore_n 1, 1) := by decide +kernel
theorem dX7_bestRule_47 : decode cX7_bestRule 47 = .ok (.iload 4, 2) := by decide +kernel
theorem dX7_bestRule_49 : decode cX7_bestRule 49 = .ok (.istore_n 2, 1) := by decide +kernel
theorem dX7_bestRule_50 : decode cX7_bestRule 50 = .ok (.iinc 3 1, 3) := by decide +kernel
theorem dX7_bestRule_53 : decode cX7_bestRule 53 = .ok (.goto (-42), 3) := by decide +kernel
theorem dX7_bestRule_56 : decode cX7_bestRule 56 = .ok (.iload_n 1, 1) := by decide +kernel
theorem dX7_bestRule_57 : decode cX7_bestRule 57 = .ok (.ireturn, 1) := by decide +kernel
theorem dX7_finishWithRate_0 : decode cX7_finishWithRate 0 = .ok (.aload_n 0, 1) := by decide +kernel
theorem dX7_finishWithRate_1 : decode cX7_finishWithRate 1 = .ok (.aload_n 0, 1) := by decide +kernel
theorem dX7_finishWithRate_2 : decode cX7_finishWithRate 2 = .ok (.iload_n 1, 1) := by decide +kernel
theorem dX7_finishWithRate_3 : decode cX7_finishWithRate 3 = .ok (.invokevirtual 213, 3) := by decide +kernel
theorem dX7_finishWithRate_6 : decode cX7_finishWithRate 6 = .ok (.invokevirtual 205, 3) := by decide +kernel
theorem dX7_finishWithRate_9 : decode cX7_finishWithRate 9 = .ok (.ifCond .ne 5, 3) := by decide +kernel
theorem dX7_finishWithRate_12 : decode cX7_finishWithRate 12 = .ok (.iconst 0, 1) := by decide +kernel
theorem dX7_finishWithRate_13 : decode cX7_finishWithRate 13 = .ok (.ireturn, 1) := by decide +kernel
theorem dX7_finishWithRate_14 : decode cX7_finishWithRate 14 = .ok (.iload_n 2, 1) := by decide +kernel
theorem dX7_finishWithRate_15 : decode cX7_finishWithRate 15 = .ok (.iconst 1, 1) := by decide +kernel
theorem dX7_finishWithRate_16 : decode cX7_finishWithRate 16 = .ok (.if_icmp .lt 22, 3) := by decide +kernel
theorem dX7_finishWithRate_19 : decode cX7_finishWithRate 19 = .ok (.iload_n 2, 1) := by decide +kernel
theorem dX7_finishWithRate_20 : decode cX7_finishWithRate 20 = .ok (.sipush 2000, 3) := by decide +kernel
theorem dX7_finishWithRate_23 : decode cX7_finishWithRate 23 = .ok (.if_icmp .gt 15, 3) := by decide +kernel
theorem dX7_finishWithRate_26 : decode cX7_finishWithRate 26 = .ok (.aload_n 0, 1) := by decide +kernel
theorem dX7_finishWithRate_27 : decode cX7_finishWithRate 27 = .ok (.bipush 66, 2) := by decide +kernel
theorem dX7_finishWithRate_29 : decode cX7_finishWithRate 29 = .ok (.iload_n 1, 1) := by decide +kernel
theorem dX7_finishWithRate_30 : decode cX7_finishWithRate 30 = .ok (.iadd, 1) := by decide +kernel
theorem dX7_finishWithRate_31 : decode cX7_finishWithRate 31 = .ok (.iload_n 2, 1) := by decide +kernel
theorem dX7_finishWithRate_32 : decode cX7_finishWithRate 32 = .ok (.invokevirtual 314, 3) := by decide +kernel
theorem dX7_finishWithRate_35 : decode cX7_finishWithRate 35 = .ok (.goto 5, 3) := by decide +kernel
theorem dX7_finishWithRate_38 : decode cX7_finishWithRate 38 = .ok (.bipush (-2), 2) := by decide +kernel
theorem dX7_finishWithRate_40 : decode cX7_finishWithRate 40 = .ok (.ireturn, 1) := by decide +kernel
theorem dX7_leastRate_0 : decode cX7_leastRate 0 = .ok (.aload_n 0, 1) := by decide +kernel
theorem dX7_leastRate_1 : decode cX7_leastRate 1 = .ok (.aload_n 0, 1) := by decide +kernel
theorem dX7_leastRate_2 : decode cX7_leastRate 2 = .ok (.iload_n 1, 1) := by decide +kernel
theorem dX7_leastRate_3 : decode cX7_leastRate 3 = .ok (.invokevirtual 213, 3) := by decide +kernel
theorem dX7_leastRate_6 : decode cX7_leastRate 6 = .ok (.invokevirtual 205, 3) := by decide +kernel
theorem dX7_leastRate_9 : decode cX7_leastRate 9 = .ok (.ifCond .ne 5, 3) := by decide +kernel
theorem dX7_leastRate_12 : decode cX7_leastRate 12 = .ok (.iconst 0, 1) := by decide +kernel
theorem dX7_leastRate_13 : decode cX7_leastRate 13 = .ok (.ireturn, 1) := by decide +kernel
theorem dX7_leastRate_14 : decode cX7_leastRate 14 = .ok (.aload_n 0, 1) := by decide +kernel
theorem dX7_leastRate_15 : decode cX7_leastRate 15 = .ok (.invokevirtual 273, 3) := by decide +kernel
theorem dX7_leastRate_18 : decode cX7_leastRate 18 = .ok (.aload_n 0, 1) := by decide +kernel
theorem dX7_leastRate_19 : decode cX7_leastRate 19 = .ok (.invokevirtual 276, 3) := by decide +kernel
theorem dX7_leastRate_22 : decode cX7_leastRate 22 = .ok (.istore_n 2, 1) := by decide +kernel
theorem dX7_leastRate_23 : decode cX7_leastRate 23 = .ok (.bipush 20, 2) := by decide +kernel
theorem dX7_leastRate_25 : decode cX7_leastRate 25 = .ok (.istore_n 3, 1) := by decide +kernel
theorem dX7_leastRate_26 : decode cX7_leastRate 26 = .ok (.iload_n 3, 1) := by decide +kernel
theorem dX7_leastRate_27 : decode cX7_leastRate 27 = .ok (.sipush 2000, 3) := by decide +kernel
theorem dX7_leastRate_30 : decode cX7_leastRate 30 = .ok (.if_icmp .gt 39, 3) := by decide +kernel
theorem dX7_leastRate_33 : decode cX7_leastRate 33 = .ok (.iload_n 2, 1) := by decide +kernel
theorem dX7_leastRate_34 : decode cX7_leastRate 34 = .ok (.iconst (-1), 1) := by decide +kernel
theorem dX7_leastRate_35 : decode cX7_leastRate 35 = .ok (.if_icmp .eq 34, 3) := by decide +kernel
theorem dX7_leastRate_38 : decode cX7_leastRate 38 = .ok (.aload_n 0, 1) := by decide +kernel
theorem dX7_leastRate_39 : decode cX7_leastRate 39 = .ok (.bipush 66, 2) := by decide +kernel
theorem dX7_leastRate_41 : decode cX7_leastRate 41 = .ok (.iload_n 1, 1) := by decide +kernel
theorem dX7_leastRate_42 : decode cX7_leastRate 42 = .ok (.iadd, 1) := by decide +kernel
theorem dX7_leastRate_43 : decode cX7_leastRate 43 = .ok (.iload_n 3, 1) := by decide +kernel
theorem dX7_leastRate_44 : decode cX7_leastRate 44 = .ok (.invokevirtual 314, 3) := by decide +kernel
theorem dX7_leastRate_47 : decode cX7_leastRate 47 = .ok (.istore 4, 2) := by decide +kernel
theorem dX7_leastRate_49 : decode cX7_leastRate 49 = .ok (.iload 4, 2) := by decide +kernel
theorem dX7_leastRate_51 : decode cX7_leastRate 51 = .ok (.iconst (-1), 1) := by decide +kernel
theorem dX7_leastRate_52 : decode cX7_leastRate 52 = .ok (.if_icmp .eq 11, 3) := by decide +kernel
theorem dX7_leastRate_55 : decode cX7_leastRate 55 = .ok (.iload 4, 2) := by decide +kernel
theorem dX7_leastRate_57 : decode cX7_leastRate 57 = .ok (.iload_n 2, 1) := by decide +kernel
theorem dX7_leastRate_58 : decode cX7_leastRate 58 = .ok (.if_icmp .gt 5, 3) := by decide +kernel
theorem dX7_leastRate_61 : decode cX7_leastRate 61 = .ok (.iload_n 3, 1) := by decide +kernel
theorem dX7_leastRate_62 : decode cX7_leastRate 62 = .ok (.ireturn, 1) := by decide +kernel
theorem dX7_leastRate_63 : decode cX7_leastRate 63 = .ok (.iinc 3 20, 3) := by decide +kernel
theorem dX7_leastRate_66 : decode cX7_leastRate 66 = .ok (.goto (-40), 3) := by decide +kernel
theorem dX7_leastRate_69 : decode cX7_leastRate 69 = .ok (.iconst (-1), 1) := by decide +kernel
theorem dX7_leastRate_70 : decode cX7_leastRate 70 = .ok (.ireturn, 1) := by decide +kernel
theorem dX7_criticalIrons_0 : decode cX7_criticalIrons 0 = .ok (.aload_n 0, 1) := by decide +kernel
theorem dX7_criticalIrons_1 : decode cX7_criticalIrons 1 = .ok (.iconst 0, 1) := by decide +kernel
theorem dX7_criticalIrons_2 : decode cX7_criticalIrons 2 = .ok (.putfield 83, 3) := by decide +kernel
theorem dX7_criticalIrons_5 : decode cX7_criticalIrons 5 = .ok (.aload_n 0, 1) := by decide +kernel
theorem dX7_criticalIrons_6 : decode cX7_criticalIrons 6 = .ok (.invokevirtual 273, 3) := by decide +kernel
theorem dX7_criticalIrons_9 : decode cX7_criticalIrons 9 = .ok (.aload_n 0, 1) := by decide +kernel
theorem dX7_criticalIrons_10 : decode cX7_criticalIrons 10 = .ok (.invokevirtual 276, 3) := by decide +kernel
theorem dX7_criticalIrons_13 : decode cX7_criticalIrons 13 = .ok (.istore_n 1, 1) := by decide +kernel
theorem dX7_criticalIrons_14 : decode cX7_criticalIrons 14 = .ok (.iconst 0, 1) := by decide +kernel
theorem dX7_criticalIrons_15 : decode cX7_criticalIrons 15 = .ok (.istore_n 2, 1) := by decide +kernel
theorem dX7_criticalIrons_16 : decode cX7_criticalIrons 16 = .ok (.iconst 0, 1) := by decide +kernel
theorem dX7_criticalIrons_17 : decode cX7_criticalIrons 17 = .ok (.istore_n 3, 1) := by decide +kernel
theorem dX7_criticalIrons_18 : decode cX7_criticalIrons 18 = .ok (.iload_n 3, 1) := by decide +kernel
theorem dX7_criticalIrons_19 : decode cX7_criticalIrons 19 = .ok (.aload_n 0, 1) := by decide +kernel
theorem dX7_criticalIrons_20 : decode cX7_criticalIrons 20 = .ok (.getfield 13, 3) := by decide +kernel
theorem dX7_criticalIrons_23 : decode cX7_criticalIrons 23 = .ok (.bipush 18, 2) := by decide +kernel
theorem dX7_criticalIrons_25 : decode cX7_criticalIrons 25 = .ok (.iaload, 1) := by decide +kernel
theorem dX7_criticalIrons_26 : decode cX7_criticalIrons 26 = .ok (.if_icmp .ge 43, 3) := by decide +kernel
theorem dX7_criticalIrons_29 : decode cX7_criticalIrons 29 = .ok (.iload_n 1, 1) := by decide +kernel
theorem dX7_criticalIrons_30 : decode cX7_criticalIrons 30 = .ok (.iconst (-1), 1) := by decide +kernel
theorem dX7_criticalIrons_31 : decode cX7_criticalIrons 31 = .ok (.if_icmp .eq 38, 3) := by decide +kernel
theorem dX7_criticalIrons_34 : decode cX7_criticalIrons 34 = .ok (.aload_n 0, 1) := by decide +kernel
theorem dX7_criticalIrons_35 : decode cX7_criticalIrons 35 = .ok (.iload_n 3, 1) := by decide +kernel
theorem dX7_criticalIrons_36 : decode cX7_criticalIrons 36 = .ok (.invokevirtual 317, 3) := by decide +kernel
theorem dX7_criticalIrons_39 : decode cX7_criticalIrons 39 = .ok (.istore 4, 2) := by decide +kernel
theorem dX7_criticalIrons_41 : decode cX7_criticalIrons 41 = .ok (.iload_n 2, 1) := by decide +kernel
theorem dX7_criticalIrons_42 : decode cX7_criticalIrons 42 = .ok (.iload 4, 2) := by decide +kernel
theorem dX7_criticalIrons_44 : decode cX7_criticalIrons 44 = .ok (.iconst (-1), 1) := by decide +kernel
theorem dX7_criticalIrons_45 : decode cX7_criticalIrons 45 = .ok (.if_icmp .eq 15, 3) := by decide +kernel
theorem dX7_criticalIrons_48 : decode cX7_criticalIrons 48 = .ok (.iload 4, 2) := by decide +kernel
theorem dX7_criticalIrons_50 : decode cX7_criticalIrons 50 = .ok (.iload_n 1, 1) := by decide +kernel
theorem dX7_criticalIrons_51 : decode cX7_criticalIrons 51 = .ok (.if_icmp .ge 9, 3) := by decide +kernel
theorem dX7_criticalIrons_54 : decode cX7_criticalIrons 54 = .ok (.iconst 1, 1) := by decide +kernel
theorem dX7_criticalIrons_55 : decode cX7_criticalIrons 55 = .ok (.iload_n 3, 1) := by decide +kernel
theorem dX7_criticalIrons_56 : decode cX7_criticalIrons 56 = .ok (.ishl, 1) := by decide +kernel
theorem dX7_criticalIrons_57 : decode cX7_criticalIrons 57 = .ok (.goto 4, 3) := by decide +kernel
theorem dX7_criticalIrons_60 : decode cX7_criticalIrons 60 = .ok (.iconst 0, 1) := by decide +kernel
theorem dX7_criticalIrons_61 : decode cX7_criticalIrons 61 = .ok (.ior, 1) := by decide +kernel
theorem dX7_criticalIrons_62 : decode cX7_criticalIrons 62 = .ok (.istore_n 2, 1) := by decide +kernel
theorem dX7_criticalIrons_63 : decode cX7_criticalIrons 63 = .ok (.iinc 3 1, 3) := by decide +kernel
theorem dX7_criticalIrons_66 : decode cX7_criticalIrons 66 = .ok (.goto (-48), 3) := by decide +kernel
theorem dX7_criticalIrons_69 : decode cX7_criticalIrons 69 = .ok (.iload_n 2, 1) := by decide +kernel
theorem dX7_criticalIrons_70 : decode cX7_criticalIrons 70 = .ok (.ireturn, 1) := by decide +kernel
theorem dX7_orderCode_0 : decode cX7_orderCode 0 = .ok (.aload_n 0, 1) := by decide +kernel
theorem dX7_orderCode_1 : decode cX7_orderCode 1 = .ok (.iconst 0, 1) := by decide +kernel
theorem dX7_orderCode_2 : decode cX7_orderCode 2 = .ok (.putfield 83, 3) := by decide +kernel
theorem dX7_orderCode_5 : decode cX7_orderCode 5 = .ok (.iconst 0, 1) := by decide +kernel
theorem dX7_orderCode_6 : decode cX7_orderCode 6 = .ok (.istore_n 1, 1) := by decide +kernel
theorem dX7_orderCode_7 : decode cX7_orderCode 7 = .ok (.iconst 0, 1) := by decide +kernel
theorem dX7_orderCode_8 : decode cX7_orderCode 8 = .ok (.istore_n 2, 1) := by decide +kernel
theorem dX7_orderCode_9 : decode cX7_orderCode 9 = .ok (.iload_n 2, 1) := by decide +kernel
theorem dX7_orderCode_10 : decode cX7_orderCode 10 = .ok (.aload_n 0, 1) := by decide +kernel
theorem dX7_orderCode_11 : decode cX7_orderCode 11 = .ok (.getfield 13, 3) := by decide +kernel
theorem dX7_orderCode_14 : decode cX7_orderCode 14 = .ok (.bipush 18, 2) := by decide +kernel
theorem dX7_orderCode_16 : decode cX7_orderCode 16 = .ok (.iaload, 1) := by decide +kernel
theorem dX7_orderCode_17 : decode cX7_orderCode 17 = .ok (.if_icmp .ge 27, 3) := by decide +kernel
theorem dX7_orderCode_20 : decode cX7_orderCode 20 = .ok (.iload_n 1, 1) := by decide +kernel
theorem dX7_orderCode_21 : decode cX7_orderCode 21 = .ok (.aload_n 0, 1) := by decide +kernel
theorem dX7_orderCode_22 : decode cX7_orderCode 22 = .ok (.getfield 19, 3) := by decide +kernel
theorem dX7_orderCode_25 : decode cX7_orderCode 25 = .ok (.bipush 72, 2) := by decide +kernel
theorem dX7_orderCode_27 : decode cX7_orderCode 27 = .ok (.iload_n 2, 1) := by decide +kernel
theorem dX7_orderCode_28 : decode cX7_orderCode 28 = .ok (.iadd, 1) := by decide +kernel
theorem dX7_orderCode_29 : decode cX7_orderCode 29 = .ok (.iaload, 1) := by decide +kernel
theorem dX7_orderCode_30 : decode cX7_orderCode 30 = .ok (.iconst 1, 1) := by decide +kernel
theorem dX7_orderCode_31 : decode cX7_orderCode 31 = .ok (.iadd, 1) := by decide +kernel
theorem dX7_orderCode_32 : decode cX7_orderCode 32 = .ok (.iconst 3, 1) := by decide +kernel
theorem dX7_orderCode_33 : decode cX7_orderCode 33 = .ok (.iload_n 2, 1) := by decide +kernel
theorem dX7_orderCode_34 : decode cX7_orderCode 34 = .ok (.imul, 1) := by decide +kernel
theorem dX7_orderCode_35 : decode cX7_orderCode 35 = .ok (.ishl, 1) := by decide +kernel
theorem dX7_orderCode_36 : decode cX7_orderCode 36 = .ok (.ior, 1) := by decide +kernel
theorem dX7_orderCode_37 : decode cX7_orderCode 37 = .ok (.istore_n 1, 1) := by decide +kernel
theorem dX7_orderCode_38 : decode cX7_orderCode 38 = .ok (.iinc 2 1, 3) := by decide +kernel
theorem dX7_orderCode_41 : decode cX7_orderCode 41 = .ok (.goto (-32), 3) := by decide +kernel
theorem dX7_orderCode_44 : decode cX7_orderCode 44 = .ok (.iload_n 1, 1) := by decide +kernel
theorem dX7_orderCode_45 : decode cX7_orderCode 45 = .ok (.ireturn, 1) := by decide +kernel
theorem dX7_keeps_0 : decode cX7_keeps 0 = .ok (.aload_n 0, 1) := by decide +kernel
theorem dX7_keeps_1 : decode cX7_keeps 1 = .ok (.iconst 0, 1) := by decide +kernel
theorem dX7_keeps_2 : decode cX7_keeps 2 = .ok (.putfield 98, 3) := by decide +kernel
theorem dX7_keeps_5 : decode cX7_keeps 5 = .ok (.aload_n 0, 1) := by decide +kernel
theorem dX7_keeps_6 : decode cX7_keeps 6 = .ok (.iconst 0, 1) := by decide +kernel
theorem dX7_keeps_7 : decode cX7_keeps 7 = .ok (.putfield 102, 3) := by decide +kernel
theorem dX7_keeps_10 : decode cX7_keeps 10 = .ok (.aload_n 0, 1) := by decide +kernel
theorem dX7_keeps_11 : decode cX7_keeps 11 = .ok (.getfield 95, 3) := by decide +kernel
theorem dX7_keeps_14 : decode cX7_keeps 14 = .ok (.bipush 12, 2) := by decide +kernel
theorem dX7_keeps_16 : decode cX7_keeps 16 = .ok (.if_icmp .ne 44, 3) := by decide +kernel
theorem dX7_keeps_19 : decode cX7_keeps 19 = .ok (.bipush 81, 2) := by decide +kernel
theorem dX7_keeps_21 : decode cX7_keeps 21 = .ok (.istore_n 1, 1) := by decide +kernel
theorem dX7_keeps_22 : decode cX7_keeps 22 = .ok (.iload_n 1, 1) := by decide +kernel
theorem dX7_keeps_23 : decode cX7_keeps 23 = .ok (.sipush 972, 3) := by decide +kernel
theorem dX7_keeps_26 : decode cX7_keeps 26 = .ok (.if_icmp .ge 24, 3) := by decide +kernel
theorem dX7_keeps_29 : decode cX7_keeps 29 = .ok (.aload_n 0, 1) := by decide +kernel
theorem dX7_keeps_30 : decode cX7_keeps 30 = .ok (.getfield 25, 3) := by decide +kernel
theorem dX7_keeps_33 : decode cX7_keeps 33 = .ok (.iload_n 1, 1) := by decide +kernel
theorem dX7_keeps_34 : decode cX7_keeps 34 = .ok (.bipush 81, 2) := by decide +kernel
theorem dX7_keeps_36 : decode cX7_keeps 36 = .ok (.isub, 1) := by decide +kernel
theorem dX7_keeps_37 : decode cX7_keeps 37 = .ok (.aload_n 0, 1) := by decide +kernel
theorem dX7_keeps_38 : decode cX7_keeps 38 = .ok (.getfield 25, 3) := by decide +kernel
theorem dX7_keeps_41 : decode cX7_keeps 41 = .ok (.iload_n 1, 1) := by decide +kernel
theorem dX7_keeps_42 : decode cX7_keeps 42 = .ok (.iaload, 1) := by decide +kernel
theorem dX7_keeps_43 : decode cX7_keeps 43 = .ok (.iastore, 1) := by decide +kernel
theorem dX7_keeps_44 : decode cX7_keeps 44 = .ok (.iinc 1 1, 3) := by decide +kernel
theorem dX7_keeps_47 : decode cX7_keeps 47 = .ok (.goto (-25), 3) := by decide +kernel
theorem dX7_keeps_50 : decode cX7_keeps 50 = .ok (.aload_n 0, 1) := by decide +kernel
theorem dX7_keeps_51 : decode cX7_keeps 51 = .ok (.dup, 1) := by decide +kernel
theorem dX7_keeps_52 : decode cX7_keeps 52 = .ok (.getfield 95, 3) := by decide +kernel
theorem dX7_keeps_55 : decode cX7_keeps 55 = .ok (.iconst 1, 1) := by decide +kernel
theorem dX7_keeps_56 : decode cX7_keeps 56 = .ok (.isub, 1) := by decide +kernel
theorem dX7_keeps_57 : decode cX7_keeps 57 = .ok (.putfield 95, 3) := by decide +kernel
theorem dX7_keeps_60 : decode cX7_keeps 60 = .ok (.iconst 0, 1) := by decide +kernel
theorem dX7_keeps_61 : decode cX7_keeps 61 = .ok (.istore_n 1, 1) := by decide +kernel
theorem dX7_keeps_62 : decode cX7_keeps 62 = .ok (.iload_n 1, 1) := by decide +kernel
theorem dX7_keeps_63 : decode cX7_keeps 63 = .ok (.bipush 81, 2) := by decide +kernel
theorem dX7_keeps_65 : decode cX7_keeps 65 = .ok (.if_icmp .ge 29, 3) := by decide +kernel
theorem dX7_keeps_68 : decode cX7_keeps 68 = .ok (.aload_n 0, 1) := by decide +kernel
theorem dX7_keeps_69 : decode cX7_keeps 69 = .ok (.getfield 25, 3) := by decide +kernel
theorem dX7_keeps_72 : decode cX7_keeps 72 = .ok (.bipush 81, 2) := by decide +kernel
theorem dX7_keeps_74 : decode cX7_keeps 74 = .ok (.aload_n 0, 1) := by decide +kernel
theorem dX7_keeps_75 : decode cX7_keeps 75 = .ok (.getfield 95, 3) := by decide +kernel
theorem dX7_keeps_78 : decode cX7_keeps 78 = .ok (.imul, 1) := by decide +kernel
theorem dX7_keeps_79 : decode cX7_keeps 79 = .ok (.iload_n 1, 1) := by decide +kernel
theorem dX7_keeps_80 : decode cX7_keeps 80 = .ok (.iadd, 1) := by decide +kernel
theorem dX7_keeps_81 : decode cX7_keeps 81 = .ok (.aload_n 0, 1) := by decide +kernel
theorem dX7_keeps_82 : decode cX7_keeps 82 = .ok (.getfield 19, 3) := by decide +kernel
theorem dX7_keeps_85 : decode cX7_keeps 85 = .ok (.iload_n 1, 1) := by decide +kernel
theorem dX7_keeps_86 : decode cX7_keeps 86 = .ok (.iaload, 1) := by decide +kernel
theorem dX7_keeps_87 : decode cX7_keeps 87 = .ok (.iastore, 1) := by decide +kernel
theorem dX7_keeps_88 : decode cX7_keeps 88 = .ok (.iinc 1 1, 3) := by decide +kernel
theorem dX7_keeps_91 : decode cX7_keeps 91 = .ok (.goto (-29), 3) := by decide +kernel
theorem dX7_keeps_94 : decode cX7_keeps 94 = .ok (.aload_n 0, 1) := by decide +kernel
theorem dX7_keeps_95 : decode cX7_keeps 95 = .ok (.dup, 1) := by decide +kernel
theorem dX7_keeps_96 : decode cX7_keeps 96 = .ok (.getfield 95, 3) := by decide +kernel
theorem dX7_keeps_99 : decode cX7_keeps 99 = .ok (.iconst 1, 1) := by decide +kernel
theorem dX7_keeps_100 : decode cX7_keeps 100 = .ok (.iadd, 1) := by decide +kernel
theorem dX7_keeps_101 : decode cX7_keeps 101 = .ok (.putfield 95, 3) := by decide +kernel
theorem dX7_keeps_104 : decode cX7_keeps 104 = .ok (.return_, 1) := by decide +kernel
theorem dX7_undo_0 : decode cX7_undo 0 = .ok (.aload_n 0, 1) := by decide +kernel
theorem dX7_undo_1 : decode cX7_undo 1 = .ok (.iconst 0, 1) := by decide +kernel
theorem dX7_undo_2 : decode cX7_undo 2 = .ok (.putfield 83, 3) := by decide +kernel
theorem dX7_undo_5 : decode cX7_undo 5 = .ok (.aload_n 0, 1) := by decide +kernel
theorem dX7_undo_6 : decode cX7_undo 6 = .ok (.getfield 95, 3) := by decide +kernel
theorem dX7_undo_9 : decode cX7_undo 9 = .ok (.ifCond .ne 5, 3) := by decide +kernel
theorem dX7_undo_12 : decode cX7_undo 12 = .ok (.iconst (-1), 1) := by decide +kernel
theorem dX7_undo_13 : decode cX7_undo 13 = .ok (.ireturn, 1) := by decide +kernel
theorem dX7_undo_14 : decode cX7_undo 14 = .ok (.aload_n 0, 1) := by decide +kernel
theorem dX7_undo_15 : decode cX7_undo 15 = .ok (.iconst 0, 1) := by decide +kernel
theorem dX7_undo_16 : decode cX7_undo 16 = .ok (.putfield 98, 3) := by decide +kernel
theorem dX7_undo_19 : decode cX7_undo 19 = .ok (.aload_n 0, 1) := by decide +kernel
theorem dX7_undo_20 : decode cX7_undo 20 = .ok (.iconst 0, 1) := by decide +kernel
theorem dX7_undo_21 : decode cX7_undo 21 = .ok (.putfield 102, 3) := by decide +kernel
theorem dX7_undo_24 : decode cX7_undo 24 = .ok (.aload_n 0, 1) := by decide +kernel
theorem dX7_undo_25 : decode cX7_undo 25 = .ok (.dup, 1) := by decide +kernel
theorem dX7_undo_26 : decode cX7_undo 26 = .ok (.getfield 95, 3) := by decide +kernel
theorem dX7_undo_29 : decode cX7_undo 29 = .ok (.iconst 1, 1) := by decide +kernel
theorem dX7_undo_30 : decode cX7_undo 30 = .ok (.isub, 1) := by decide +kernel
theorem dX7_undo_31 : decode cX7_undo 31 = .ok (.putfield 95, 3) := by decide +kernel
theorem dX7_undo_34 : decode cX7_undo 34 = .ok (.iconst 0, 1) := by decide +kernel
theorem dX7_undo_35 : decode cX7_undo 35 = .ok (.istore_n 1, 1) := by decide +kernel
theorem dX7_undo_36 : decode cX7_undo 36 = .ok (.iload_n 1, 1) := by decide +kernel
theorem dX7_undo_37 : decode cX7_undo 37 = .ok (.bipush 81, 2) := by decide +kernel
theorem dX7_undo_39 : decode cX7_undo 39 = .ok (.if_icmp .ge 29, 3) := by decide +kernel
theorem dX7_undo_42 : decode cX7_undo 42 = .ok (.aload_n 0, 1) := by decide +kernel
theorem dX7_undo_43 : decode cX7_undo 43 = .ok (.getfield 19, 3) := by decide +kernel
theorem dX7_undo_46 : decode cX7_undo 46 = .ok (.iload_n 1, 1) := by decide +kernel
theorem dX7_undo_47 : decode cX7_undo 47 = .ok (.aload_n 0, 1) := by decide +kernel
theorem dX7_undo_48 : decode cX7_undo 48 = .ok (.getfield 25, 3) := by decide +kernel
theorem dX7_undo_51 : decode cX7_undo 51 = .ok (.bipush 81, 2) := by decide +kernel
theorem dX7_undo_53 : decode cX7_undo 53 = .ok (.aload_n 0, 1) := by decide +kernel
theorem dX7_undo_54 : decode cX7_undo 54 = .ok (.getfield 95, 3) := by decide +kernel
theorem dX7_undo_57 : decode cX7_undo 57 = .ok (.imul, 1) := by decide +kernel
theorem dX7_undo_58 : decode cX7_undo 58 = .ok (.iload_n 1, 1) := by decide +kernel
theorem dX7_undo_59 : decode cX7_undo 59 = .ok (.iadd, 1) := by decide +kernel
theorem dX7_undo_60 : decode cX7_undo 60 = .ok (.iaload, 1) := by decide +kernel
theorem dX7_undo_61 : decode cX7_undo 61 = .ok (.iastore, 1) := by decide +kernel
theorem dX7_undo_62 : decode cX7_undo 62 = .ok (.iinc 1 1, 3) := by decide +kernel
theorem dX7_undo_65 : decode cX7_undo 65 = .ok (.goto (-29), 3) := by decide +kernel
theorem dX7_undo_68 : decode cX7_undo 68 = .ok (.aload_n 0, 1) := by decide +kernel
theorem dX7_undo_69 : decode cX7_undo 69 = .ok (.getfield 95, 3) := by decide +kernel
theorem dX7_undo_72 : decode cX7_undo 72 = .ok (.ireturn, 1) := by decide +kernel
theorem dX7_setSetting_0 : decode cX7_setSetting 0 = .ok (.aload_n 0, 1) := by decide +kernel
theorem dX7_setSetting_1 : decode cX7_setSetting 1 = .ok (.iconst 0, 1) := by decide +kernel
theorem dX7_setSetting_2 : decode cX7_setSetting 2 = .ok (.putfield 83, 3) := by decide +kernel
theorem dX7_setSetting_5 : decode cX7_setSetting 5 = .ok (.iload_n 1, 1) := by decide +kernel
theorem dX7_setSetting_6 : decode cX7_setSetting 6 = .ok (.invokestatic 216, 3) := by decide +kernel
theorem dX7_setSetting_9 : decode cX7_setSetting 9 = .ok (.ifCond .eq 19, 3) := by decide +kernel
theorem dX7_setSetting_12 : decode cX7_setSetting 12 = .ok (.iload_n 2, 1) := by decide +kernel
theorem dX7_setSetting_13 : decode cX7_setSetting 13 = .ok (.iload_n 1, 1) := by decide +kernel
theorem dX7_setSetting_14 : decode cX7_setSetting 14 = .ok (.invokestatic 180, 3) := by decide +kernel
theorem dX7_setSetting_17 : decode cX7_setSetting 17 = .ok (.if_icmp .lt 11, 3) := by decide +kernel
theorem dX7_setSetting_20 : decode cX7_setSetting 20 = .ok (.iload_n 2, 1) := by decide +kernel
theorem dX7_setSetting_21 : decode cX7_setSetting 21 = .ok (.iload_n 1, 1) := by decide +kernel
theorem dX7_setSetting_22 : decode cX7_setSetting 22 = .ok (.invokestatic 184, 3) := by decide +kernel
theorem dX7_setSetting_25 : decode cX7_setSetting 25 = .ok (.if_icmp .le 6, 3) := by decide +kernel
theorem dX7_setSetting_28 : decode cX7_setSetting 28 = .ok (.bipush (-2), 2) := by decide +kernel
theorem dX7_setSetting_30 : decode cX7_setSetting 30 = .ok (.ireturn, 1) := by decide +kernel
theorem dX7_setSetting_31 : decode cX7_setSetting 31 = .ok (.aload_n 0, 1) := by decide +kernel
theorem dX7_setSetting_32 : decode cX7_setSetting 32 = .ok (.invokevirtual 320, 3) := by decide +kernel
theorem dX7_setSetting_35 : decode cX7_setSetting 35 = .ok (.aload_n 0, 1) := by decide +kernel
theorem dX7_setSetting_36 : decode cX7_setSetting 36 = .ok (.getfield 19, 3) := by decide +kernel
theorem dX7_setSetting_39 : decode cX7_setSetting 39 = .ok (.bipush 78, 2) := by decide +kernel
theorem dX7_setSetting_41 : decode cX7_setSetting 41 = .ok (.iload_n 1, 1) := by decide +kernel
theorem dX7_setSetting_42 : decode cX7_setSetting 42 = .ok (.iadd, 1) := by decide +kernel
theorem dX7_setSetting_43 : decode cX7_setSetting 43 = .ok (.iaload, 1) := by decide +kernel
theorem dX7_setSetting_44 : decode cX7_setSetting 44 = .ok (.istore_n 3, 1) := by decide +kernel
theorem dX7_setSetting_45 : decode cX7_setSetting 45 = .ok (.aload_n 0, 1) := by decide +kernel
theorem dX7_setSetting_46 : decode cX7_setSetting 46 = .ok (.getfield 19, 3) := by decide +kernel
theorem dX7_setSetting_49 : decode cX7_setSetting 49 = .ok (.bipush 78, 2) := by decide +kernel
theorem dX7_setSetting_51 : decode cX7_setSetting 51 = .ok (.iload_n 1, 1) := by decide +kernel
theorem dX7_setSetting_52 : decode cX7_setSetting 52 = .ok (.iadd, 1) := by decide +kernel
theorem dX7_setSetting_53 : decode cX7_setSetting 53 = .ok (.iload_n 2, 1) := by decide +kernel
theorem dX7_setSetting_54 : decode cX7_setSetting 54 = .ok (.iastore, 1) := by decide +kernel
theorem dX7_setSetting_55 : decode cX7_setSetting 55 = .ok (.iload_n 3, 1) := by decide +kernel
theorem dX7_setSetting_56 : decode cX7_setSetting 56 = .ok (.ireturn, 1) := by decide +kernel
theorem dX7_swap_0 : decode cX7_swap 0 = .ok (.aload_n 0, 1) := by decide +kernel
theorem dX7_swap_1 : decode cX7_swap 1 = .ok (.iconst 0, 1) := by decide +kernel
theorem dX7_swap_2 : decode cX7_swap 2 = .ok (.putfield 83, 3) := by decide +kernel
theorem dX7_swap_5 : decode cX7_swap 5 = .ok (.aload_n 0, 1) := by decide +kernel
theorem dX7_swap_6 : decode cX7_swap 6 = .ok (.iload_n 1, 1) := by decide +kernel
theorem dX7_swap_7 : decode cX7_swap 7 = .ok (.invokevirtual 202, 3) := by decide +kernel
theorem dX7_swap_10 : decode cX7_swap 10 = .ok (.ifCond .eq 11, 3) := by decide +kernel
theorem dX7_swap_13 : decode cX7_swap 13 = .ok (.aload_n 0, 1) := by decide +kernel
theorem dX7_swap_14 : decode cX7_swap 14 = .ok (.iload_n 2, 1) := by decide +kernel
theorem dX7_swap_15 : decode cX7_swap 15 = .ok (.invokevirtual 202, 3) := by decide +kernel
theorem dX7_swap_18 : decode cX7_swap 18 = .ok (.ifCond .ne 5, 3) := by decide +kernel
theorem dX7_swap_21 : decode cX7_swap 21 = .ok (.iconst 0, 1) := by decide +kernel
theorem dX7_swap_22 : decode cX7_swap 22 = .ok (.ireturn, 1) := by decide +kernel
theorem dX7_swap_23 : decode cX7_swap 23 = .ok (.aload_n 0, 1) := by decide +kernel
theorem dX7_swap_24 : decode cX7_swap 24 = .ok (.invokevirtual 320, 3) := by decide +kernel
theorem dX7_swap_27 : decode cX7_swap 27 = .ok (.aload_n 0, 1) := by decide +kernel
theorem dX7_swap_28 : decode cX7_swap 28 = .ok (.getfield 19, 3) := by decide +kernel
theorem dX7_swap_31 : decode cX7_swap 31 = .ok (.bipush 72, 2) := by decide +kernel
theorem dX7_swap_33 : decode cX7_swap 33 = .ok (.iload_n 1, 1) := by decide +kernel
theorem dX7_swap_34 : decode cX7_swap 34 = .ok (.iadd, 1) := by decide +kernel
theorem dX7_swap_35 : decode cX7_swap 35 = .ok (.iaload, 1) := by decide +kernel
theorem dX7_swap_36 : decode cX7_swap 36 = .ok (.istore_n 3, 1) := by decide +kernel
theorem dX7_swap_37 : decode cX7_swap 37 = .ok (.aload_n 0, 1) := by decide +kernel
theorem dX7_swap_38 : decode cX7_swap 38 = .ok (.getfield 19, 3) := by decide +kernel
theorem dX7_swap_41 : decode cX7_swap 41 = .ok (.bipush 72, 2) := by decide +kernel
theorem dX7_swap_43 : decode cX7_swap 43 = .ok (.iload_n 1, 1) := by decide +kernel
theorem dX7_swap_44 : decode cX7_swap 44 = .ok (.iadd, 1) := by decide +kernel
theorem dX7_swap_45 : decode cX7_swap 45 = .ok (.aload_n 0, 1) := by decide +kernel
theorem dX7_swap_46 : decode cX7_swap 46 = .ok (.getfield 19, 3) := by decide +kernel
theorem dX7_swap_49 : decode cX7_swap 49 = .ok (.bipush 72, 2) := by decide +kernel
theorem dX7_swap_51 : decode cX7_swap 51 = .ok (.iload_n 2, 1) := by decide +kernel
theorem dX7_swap_52 : decode cX7_swap 52 = .ok (.iadd, 1) := by decide +kernel
theorem dX7_swap_53 : decode cX7_swap 53 = .ok (.iaload, 1) := by decide +kernel
theorem dX7_swap_54 : decode cX7_swap 54 = .ok (.iastore, 1) := by decide +kernel
theorem dX7_swap_55 : decode cX7_swap 55 = .ok (.aload_n 0, 1) := by decide +kernel
theorem dX7_swap_56 : decode cX7_swap 56 = .ok (.getfield 19, 3) := by decide +kernel
theorem dX7_swap_59 : decode cX7_swap 59 = .ok (.bipush 72, 2) := by decide +kernel
theorem dX7_swap_61 : decode cX7_swap 61 = .ok (.iload_n 2, 1) := by decide +kernel
theorem dX7_swap_62 : decode cX7_swap 62 = .ok (.iadd, 1) := by decide +kernel
theorem dX7_swap_63 : decode cX7_swap 63 = .ok (.iload_n 3, 1) := by decide +kernel
theorem dX7_swap_64 : decode cX7_swap 64 = .ok (.iastore, 1) := by decide +kernel
theorem dX7_swap_65 : decode cX7_swap 65 = .ok (.iconst 1, 1) := by decide +kernel
theorem dX7_swap_66 : decode cX7_swap 66 = .ok (.ireturn, 1) := by decide +kernel
theorem dX7_useBestOrder_0 : decode cX7_useBestOrder 0 = .ok (.aload_n 0, 1) := by decide +kernel
theorem dX7_useBestOrder_1 : decode cX7_useBestOrder 1 = .ok (.iconst 0, 1) := by decide +kernel
theorem dX7_useBestOrder_2 : decode cX7_useBestOrder 2 = .ok (.putfield 83, 3) := by decide +kernel
theorem dX7_useBestOrder_5 : decode cX7_useBestOrder 5 = .ok (.aload_n 0, 1) := by decide +kernel
theorem dX7_useBestOrder_6 : decode cX7_useBestOrder 6 = .ok (.invokevirtual 305, 3) := by decide +kernel
theorem dX7_useBestOrder_9 : decode cX7_useBestOrder 9 = .ok (.aload_n 0, 1) := by decide +kernel
theorem dX7_useBestOrder_10 : decode cX7_useBestOrder 10 = .ok (.getfield 295, 3) := by decide +kernel
theorem dX7_useBestOrder_13 : decode cX7_useBestOrder 13 = .ok (.iconst (-1), 1) := by decide +kernel
theorem dX7_useBestOrder_14 : decode cX7_useBestOrder 14 = .ok (.if_icmp .ne 5, 3) := by decide +kernel
theorem dX7_useBestOrder_17 : decode cX7_useBestOrder 17 = .ok (.iconst (-1), 1) := by decide +kernel
theorem dX7_useBestOrder_18 : decode cX7_useBestOrder 18 = .ok (.ireturn, 1) := by decide +kernel
theorem dX7_useBestOrder_19 : decode cX7_useBestOrder 19 = .ok (.aload_n 0, 1) := by decide +kernel
theorem dX7_useBestOrder_20 : decode cX7_useBestOrder 20 = .ok (.invokevirtual 320, 3) := by decide +kernel
theorem dX7_useBestOrder_23 : decode cX7_useBestOrder 23 = .ok (.iconst 0, 1) := by decide +kernel
theorem dX7_useBestOrder_24 : decode cX7_useBestOrder 24 = .ok (.istore_n 1, 1) := by decide +kernel
theorem dX7_useBestOrder_25 : decode cX7_useBestOrder 25 = .ok (.iload_n 1, 1) := by decide +kernel
theorem dX7_useBestOrder_26 : decode cX7_useBestOrder 26 = .ok (.aload_n 0, 1) := by decide +kernel
theorem dX7_useBestOrder_27 : decode cX7_useBestOrder 27 = .ok (.getfield 13, 3) := by decide +kernel
theorem dX7_useBestOrder_30 : decode cX7_useBestOrder 30 = .ok (.bipush 18, 2) := by decide +kernel
theorem dX7_useBestOrder_32 : decode cX7_useBestOrder 32 = .ok (.iaload, 1) := by decide +kernel
theorem dX7_useBestOrder_33 : decode cX7_useBestOrder 33 = .ok (.if_icmp .ge 24, 3) := by decide +kernel
theorem dX7_useBestOrder_36 : decode cX7_useBestOrder 36 = .ok (.aload_n 0, 1) := by decide +kernel
theorem dX7_useBestOrder_37 : decode cX7_useBestOrder 37 = .ok (.getfield 19, 3) := by decide +kernel
theorem dX7_useBestOrder_40 : decode cX7_useBestOrder 40 = .ok (.bipush 72, 2) := by decide +kernel
theorem dX7_useBestOrder_42 : decode cX7_useBestOrder 42 = .ok (.iload_n 1, 1) := by decide +kernel
theorem dX7_useBestOrder_43 : decode cX7_useBestOrder 43 = .ok (.iadd, 1) := by decide +kernel
theorem dX7_useBestOrder_44 : decode cX7_useBestOrder 44 = .ok (.aload_n 0, 1) := by decide +kernel
theorem dX7_useBestOrder_45 : decode cX7_useBestOrder 45 = .ok (.getfield 74, 3) := by decide +kernel
theorem dX7_useBestOrder_48 : decode cX7_useBestOrder 48 = .ok (.iload_n 1, 1) := by decide +kernel
theorem dX7_useBestOrder_49 : decode cX7_useBestOrder 49 = .ok (.iaload, 1) := by decide +kernel
theorem dX7_useBestOrder_50 : decode cX7_useBestOrder 50 = .ok (.iastore, 1) := by decide +kernel
theorem dX7_useBestOrder_51 : decode cX7_useBestOrder 51 = .ok (.iinc 1 1, 3) := by decide +kernel
theorem dX7_useBestOrder_54 : decode cX7_useBestOrder 54 = .ok (.goto (-29), 3) := by decide +kernel
theorem dX7_useBestOrder_57 : decode cX7_useBestOrder 57 = .ok (.aload_n 0, 1) := by decide +kernel
theorem dX7_useBestOrder_58 : decode cX7_useBestOrder 58 = .ok (.getfield 295, 3) := by decide +kernel
theorem dX7_useBestOrder_61 : decode cX7_useBestOrder 61 = .ok (.ireturn, 1) := by decide +kernel
theorem dX7_setPlace_0 : decode cX7_setPlace 0 = .ok (.aload_n 0, 1) := by decide +kernel
theorem dX7_setPlace_1 : decode cX7_setPlace 1 = .ok (.iconst 0, 1) := by decide +kernel
theorem dX7_setPlace_2 : decode cX7_setPlace 2 = .ok (.putfield 83, 3) := by decide +kernel
theorem dX7_setPlace_5 : decode cX7_setPlace 5 = .ok (.aload_n 0, 1) := by decide +kernel
theorem dX7_setPlace_6 : decode cX7_setPlace 6 = .ok (.iload_n 1, 1) := by decide +kernel
theorem dX7_setPlace_7 : decode cX7_setPlace 7 = .ok (.invokevirtual 213, 3) := by decide +kernel
theorem dX7_setPlace_10 : decode cX7_setPlace 10 = .ok (.ifCond .eq 28, 3) := by decide +kernel
theorem dX7_setPlace_13 : decode cX7_setPlace 13 = .ok (.iload_n 2, 1) := by decide +kernel
theorem dX7_setPlace_14 : decode cX7_setPlace 14 = .ok (.iconst 1, 1) := by decide +kernel
theorem dX7_setPlace_15 : decode cX7_setPlace 15 = .ok (.if_icmp .lt 23, 3) := by decide +kernel
theorem dX7_setPlace_18 : decode cX7_setPlace 18 = .ok (.iload_n 2, 1) := by decide +kernel
theorem dX7_setPlace_19 : decode cX7_setPlace 19 = .ok (.sipush 2000, 3) := by decide +kernel
theorem dX7_setPlace_22 : decode cX7_setPlace 22 = .ok (.if_icmp .gt 16, 3) := by decide +kernel
theorem dX7_setPlace_25 : decode cX7_setPlace 25 = .ok (.iload_n 3, 1) := by decide +kernel
theorem dX7_setPlace_26 : decode cX7_setPlace 26 = .ok (.bipush 100, 2) := by decide +kernel
theorem dX7_setPlace_28 : decode cX7_setPlace 28 = .ok (.if_icmp .lt 10, 3) := by decide +kernel
theorem dX7_setPlace_31 : decode cX7_setPlace 31 = .ok (.iload_n 3, 1) := by decide +kernel
theorem dX7_setPlace_32 : decode cX7_setPlace 32 = .ok (.sipush 1500, 3) := by decide +kernel
theorem dX7_setPlace_35 : decode cX7_setPlace 35 = .ok (.if_icmp .le 5, 3) := by decide +kernel
theorem dX7_setPlace_38 : decode cX7_setPlace 38 = .ok (.iconst 0, 1) := by decide +kernel
theorem dX7_setPlace_39 : decode cX7_setPlace 39 = .ok (.ireturn, 1) := by decide +kernel
theorem dX7_setPlace_40 : decode cX7_setPlace 40 = .ok (.aload_n 0, 1) := by decide +kernel
theorem dX7_setPlace_41 : decode cX7_setPlace 41 = .ok (.invokevirtual 320, 3) := by decide +kernel
theorem dX7_setPlace_44 : decode cX7_setPlace 44 = .ok (.aload_n 0, 1) := by decide +kernel
theorem dX7_setPlace_45 : decode cX7_setPlace 45 = .ok (.getfield 19, 3) := by decide +kernel
theorem dX7_setPlace_48 : decode cX7_setPlace 48 = .ok (.bipush 66, 2) := by decide +kernel
theorem dX7_setPlace_50 : decode cX7_setPlace 50 = .ok (.iload_n 1, 1) := by decide +kernel
theorem dX7_setPlace_51 : decode cX7_setPlace 51 = .ok (.iadd, 1) := by decide +kernel
theorem dX7_setPlace_52 : decode cX7_setPlace 52 = .ok (.iload_n 2, 1) := by decide +kernel
theorem dX7_setPlace_53 : decode cX7_setPlace 53 = .ok (.iastore, 1) := by decide +kernel
theorem dX7_setPlace_54 : decode cX7_setPlace 54 = .ok (.aload_n 0, 1) := by decide +kernel
theorem dX7_setPlace_55 : decode cX7_setPlace 55 = .ok (.getfield 19, 3) := by decide +kernel
theorem dX7_setPlace_58 : decode cX7_setPlace 58 = .ok (.bipush 69, 2) := by decide +kernel
theorem dX7_setPlace_60 : decode cX7_setPlace 60 = .ok (.iload_n 1, 1) := by decide +kernel
theorem dX7_setPlace_61 : decode cX7_setPlace 61 = .ok (.iadd, 1) := by decide +kernel
theorem dX7_setPlace_62 : decode cX7_setPlace 62 = .ok (.iload_n 3, 1) := by decide +kernel
theorem dX7_setPlace_63 : decode cX7_setPlace 63 = .ok (.iastore, 1) := by decide +kernel
theorem dX7_setPlace_64 : decode cX7_setPlace 64 = .ok (.iconst 1, 1) := by decide +kernel
theorem dX7_setPlace_65 : decode cX7_setPlace 65 = .ok (.ireturn, 1) := by decide +kernel
theorem dX7_addStep_0 : decode cX7_addStep 0 = .ok (.aload_n 0, 1) := by decide +kernel
theorem dX7_addStep_1 : decode cX7_addStep 1 = .ok (.iconst 0, 1) := by decide +kernel
theorem dX7_addStep_2 : decode cX7_addStep 2 = .ok (.putfield 83, 3) := by decide +kernel
theorem dX7_addStep_5 : decode cX7_addStep 5 = .ok (.aload_n 0, 1) := by decide +kernel
theorem dX7_addStep_6 : decode cX7_addStep 6 = .ok (.iload_n 1, 1) := by decide +kernel
theorem dX7_addStep_7 : decode cX7_addStep 7 = .ok (.invokevirtual 202, 3) := by decide +kernel
theorem dX7_addStep_10 : decode cX7_addStep 10 = .ok (.ifCond .ne 5, 3) := by decide +kernel
theorem dX7_addStep_13 : decode cX7_addStep 13 = .ok (.iconst (-1), 1) := by decide +kernel
theorem dX7_addStep_14 : decode cX7_addStep 14 = .ok (.ireturn, 1) := by decide +kernel
theorem dX7_addStep_15 : decode cX7_addStep 15 = .ok (.iload_n 2, 1) := by decide +kernel
theorem dX7_addStep_16 : decode cX7_addStep 16 = .ok (.bipush 100, 2) := by decide +kernel
theorem dX7_addStep_18 : decode cX7_addStep 18 = .ok (.if_icmp .lt 21, 3) := by decide +kernel
theorem dX7_addStep_21 : decode cX7_addStep 21 = .ok (.iload_n 2, 1) := by decide +kernel
theorem dX7_addStep_22 : decode cX7_addStep 22 = .ok (.sipush 1400, 3) := by decide +kernel
theorem dX7_addStep_25 : decode cX7_addStep 25 = .ok (.if_icmp .gt 14, 3) := by decide +kernel
theorem dX7_addStep_28 : decode cX7_addStep 28 = .ok (.iload_n 3, 1) := by decide +kernel
theorem dX7_addStep_29 : decode cX7_addStep 29 = .ok (.iconst 1, 1) := by decide +kernel
theorem dX7_addStep_30 : decode cX7_addStep 30 = .ok (.if_icmp .lt 9, 3) := by decide +kernel
theorem dX7_addStep_33 : decode cX7_addStep 33 = .ok (.iload_n 3, 1) := by decide +kernel
theorem dX7_addStep_34 : decode cX7_addStep 34 = .ok (.bipush 30, 2) := by decide +kernel
theorem dX7_addStep_36 : decode cX7_addStep 36 = .ok (.if_icmp .le 6, 3) := by decide +kernel
theorem dX7_addStep_39 : decode cX7_addStep 39 = .ok (.bipush (-2), 2) := by decide +kernel
theorem dX7_addStep_41 : decode cX7_addStep 41 = .ok (.ireturn, 1) := by decide +kernel
theorem dX7_addStep_42 : decode cX7_addStep 42 = .ok (.aload_n 0, 1) := by decide +kernel
theorem dX7_addStep_43 : decode cX7_addStep 43 = .ok (.getfield 19, 3) := by decide +kernel
theorem dX7_addStep_46 : decode cX7_addStep 46 = .ok (.iconst 0, 1) := by decide +kernel
theorem dX7_addStep_47 : decode cX7_addStep 47 = .ok (.iload_n 1, 1) := by decide +kernel
theorem dX7_addStep_48 : decode cX7_addStep 48 = .ok (.iadd, 1) := by decide +kernel
theorem dX7_addStep_49 : decode cX7_addStep 49 = .ok (.iaload, 1) := by decide +kernel
theorem dX7_addStep_50 : decode cX7_addStep 50 = .ok (.iconst 5, 1) := by decide +kernel
theorem dX7_addStep_51 : decode cX7_addStep 51 = .ok (.if_icmp .ne 6, 3) := by decide +kernel
theorem dX7_addStep_54 : decode cX7_addStep 54 = .ok (.bipush (-3), 2) := by decide +kernel
theorem dX7_addStep_56 : decode cX7_addStep 56 = .ok (.ireturn, 1) := by decide +kernel
theorem dX7_addStep_57 : decode cX7_addStep 57 = .ok (.aload_n 0, 1) := by decide +kernel
theorem dX7_addStep_58 : decode cX7_addStep 58 = .ok (.invokevirtual 320, 3) := by decide +kernel
theorem dX7_addStep_61 : decode cX7_addStep 61 = .ok (.aload_n 0, 1) := by decide +kernel
theorem dX7_addStep_62 : decode cX7_addStep 62 = .ok (.getfield 19, 3) := by decide +kernel
theorem dX7_addStep_65 : decode cX7_addStep 65 = .ok (.iload_n 1, 1) := by decide +kernel
theorem dX7_addStep_66 : decode cX7_addStep 66 = .ok (.iload_n 2, 1) := by decide +kernel
theorem dX7_addStep_67 : decode cX7_addStep 67 = .ok (.iload_n 3, 1) := by decide +kernel
theorem dX7_addStep_68 : decode cX7_addStep 68 = .ok (.invokestatic 176, 3) := by decide +kernel
theorem dX7_addStep_71 : decode cX7_addStep 71 = .ok (.aload_n 0, 1) := by decide +kernel
theorem dX7_addStep_72 : decode cX7_addStep 72 = .ok (.getfield 19, 3) := by decide +kernel
theorem dX7_addStep_75 : decode cX7_addStep 75 = .ok (.iconst 0, 1) := by decide +kernel
theorem dX7_addStep_76 : decode cX7_addStep 76 = .ok (.iload_n 1, 1) := by decide +kernel
theorem dX7_addStep_77 : decode cX7_addStep 77 = .ok (.iadd, 1) := by decide +kernel
theorem dX7_addStep_78 : decode cX7_addStep 78 = .ok (.iaload, 1) := by decide +kernel
theorem dX7_addStep_79 : decode cX7_addStep 79 = .ok (.ireturn, 1) := by decide +kernel
theorem dX7_removeStep_0 : decode cX7_removeStep 0 = .ok (.aload_n 0, 1) := by decide +kernel
theorem dX7_removeStep_1 : decode cX7_removeStep 1 = .ok (.iconst 0, 1) := by decide +kernel
theorem dX7_removeStep_2 : decode cX7_removeStep 2 = .ok (.putfield 83, 3) := by decide +kernel
theorem dX7_removeStep_5 : decode cX7_removeStep 5 = .ok (.aload_n 0, 1) := by decide +kernel
theorem dX7_removeStep_6 : decode cX7_removeStep 6 = .ok (.iload_n 1, 1) := by decide +kernel
theorem dX7_removeStep_7 : decode cX7_removeStep 7 = .ok (.invokevirtual 202, 3) := by decide +kernel
theorem dX7_removeStep_10 : decode cX7_removeStep 10 = .ok (.ifCond .eq 14, 3) := by decide +kernel
theorem dX7_removeStep_13 : decode cX7_removeStep 13 = .ok (.aload_n 0, 1) := by decide +kernel
theorem dX7_removeStep_14 : decode cX7_removeStep 14 = .ok (.getfield 19, 3) := by decide +kernel
theorem dX7_removeStep_17 : decode cX7_removeStep 17 = .ok (.iconst 0, 1) := by decide +kernel
theorem dX7_removeStep_18 : decode cX7_removeStep 18 = .ok (.iload_n 1, 1) := by decide +kernel
theorem dX7_removeStep_19 : decode cX7_removeStep 19 = .ok (.iadd, 1) := by decide +kernel
theorem dX7_removeStep_20 : decode cX7_removeStep 20 = .ok (.iaload, 1) := by decide +kernel
theorem dX7_removeStep_21 : decode cX7_removeStep 21 = .ok (.ifCond .ne 5, 3) := by decide +kernel
theorem dX7_removeStep_24 : decode cX7_removeStep 24 = .ok (.iconst (-1), 1) := by decide +kernel
theorem dX7_removeStep_25 : decode cX7_removeStep 25 = .ok (.ireturn, 1) := by decide +kernel
theorem dX7_removeStep_26 : decode cX7_removeStep 26 = .ok (.aload_n 0, 1) := by decide +kernel
theorem dX7_removeStep_27 : decode cX7_removeStep 27 = .ok (.invokevirtual 320, 3) := by decide +kernel
theorem dX7_removeStep_30 : decode cX7_removeStep 30 = .ok (.aload_n 0, 1) := by decide +kernel
theorem dX7_removeStep_31 : decode cX7_removeStep 31 = .ok (.getfield 19, 3) := by decide +kernel
theorem dX7_removeStep_34 : decode cX7_removeStep 34 = .ok (.iconst 0, 1) := by decide +kernel
theorem dX7_removeStep_35 : decode cX7_removeStep 35 = .ok (.iload_n 1, 1) := by decide +kernel
theorem dX7_removeStep_36 : decode cX7_removeStep 36 = .ok (.iadd, 1) := by decide +kernel
theorem dX7_removeStep_37 : decode cX7_removeStep 37 = .ok (.dup2, 1) := by decide +kernel
theorem dX7_removeStep_38 : decode cX7_removeStep 38 = .ok (.iaload, 1) := by decide +kernel
theorem dX7_removeStep_39 : decode cX7_removeStep 39 = .ok (.iconst 1, 1) := by decide +kernel
theorem dX7_removeStep_40 : decode cX7_removeStep 40 = .ok (.isub, 1) := by decide +kernel
theorem dX7_removeStep_41 : decode cX7_removeStep 41 = .ok (.iastore, 1) := by decide +kernel
theorem dX7_removeStep_42 : decode cX7_removeStep 42 = .ok (.aload_n 0, 1) := by decide +kernel
theorem dX7_removeStep_43 : decode cX7_removeStep 43 = .ok (.getfield 19, 3) := by decide +kernel
theorem dX7_removeStep_46 : decode cX7_removeStep 46 = .ok (.iconst 0, 1) := by decide +kernel
theorem dX7_removeStep_47 : decode cX7_removeStep 47 = .ok (.iload_n 1, 1) := by decide +kernel
theorem dX7_removeStep_48 : decode cX7_removeStep 48 = .ok (.iadd, 1) := by decide +kernel
theorem dX7_removeStep_49 : decode cX7_removeStep 49 = .ok (.iaload, 1) := by decide +kernel
theorem dX7_removeStep_50 : decode cX7_removeStep 50 = .ok (.ireturn, 1) := by decide +kernel
