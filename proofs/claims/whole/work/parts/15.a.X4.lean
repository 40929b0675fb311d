theorem dX4_hasRoom_0 : decode cX4_hasRoom 0 = .ok (.aload_n 0, 1) := by decide +kernel
theorem dX4_hasRoom_1 : decode cX4_hasRoom 1 = .ok (.getfield 30, 3) := by decide +kernel
theorem dX4_hasRoom_4 : decode cX4_hasRoom 4 = .ok (.bipush 20, 2) := by decide +kernel
theorem dX4_hasRoom_6 : decode cX4_hasRoom 6 = .ok (.iadd, 1) := by decide +kernel
theorem dX4_hasRoom_7 : decode cX4_hasRoom 7 = .ok (.sipush 900, 3) := by decide +kernel
theorem dX4_hasRoom_10 : decode cX4_hasRoom 10 = .ok (.if_icmp .gt 7, 3) := by decide +kernel
theorem dX4_hasRoom_13 : decode cX4_hasRoom 13 = .ok (.iconst 1, 1) := by decide +kernel
theorem dX4_hasRoom_14 : decode cX4_hasRoom 14 = .ok (.goto 4, 3) := by decide +kernel
theorem dX4_hasRoom_17 : decode cX4_hasRoom 17 = .ok (.iconst 0, 1) := by decide +kernel
theorem dX4_hasRoom_18 : decode cX4_hasRoom 18 = .ok (.ireturn, 1) := by decide +kernel
theorem dX4_append_0 : decode cX4_append 0 = .ok (.bipush 24, 2) := by decide +kernel
theorem dX4_append_2 : decode cX4_append 2 = .ok (.istore_n 2, 1) := by decide +kernel
theorem dX4_append_3 : decode cX4_append 3 = .ok (.iload_n 2, 1) := by decide +kernel
theorem dX4_append_4 : decode cX4_append 4 = .ok (.ifCond .lt 42, 3) := by decide +kernel
theorem dX4_append_7 : decode cX4_append 7 = .ok (.aload_n 0, 1) := by decide +kernel
theorem dX4_append_8 : decode cX4_append 8 = .ok (.getfield 30, 3) := by decide +kernel
theorem dX4_append_11 : decode cX4_append 11 = .ok (.sipush 900, 3) := by decide +kernel
theorem dX4_append_14 : decode cX4_append 14 = .ok (.if_icmp .ge 32, 3) := by decide +kernel
theorem dX4_append_17 : decode cX4_append 17 = .ok (.aload_n 0, 1) := by decide +kernel
theorem dX4_append_18 : decode cX4_append 18 = .ok (.getfield 9, 3) := by decide +kernel
theorem dX4_append_21 : decode cX4_append 21 = .ok (.aload_n 0, 1) := by decide +kernel
theorem dX4_append_22 : decode cX4_append 22 = .ok (.getfield 30, 3) := by decide +kernel
theorem dX4_append_25 : decode cX4_append 25 = .ok (.iload_n 1, 1) := by decide +kernel
theorem dX4_append_26 : decode cX4_append 26 = .ok (.iload_n 2, 1) := by decide +kernel
theorem dX4_append_27 : decode cX4_append 27 = .ok (.ishr, 1) := by decide +kernel
theorem dX4_append_28 : decode cX4_append 28 = .ok (.i2b, 1) := by decide +kernel
theorem dX4_append_29 : decode cX4_append 29 = .ok (.bastore, 1) := by decide +kernel
theorem dX4_append_30 : decode cX4_append 30 = .ok (.aload_n 0, 1) := by decide +kernel
theorem dX4_append_31 : decode cX4_append 31 = .ok (.dup, 1) := by decide +kernel
theorem dX4_append_32 : decode cX4_append 32 = .ok (.getfield 30, 3) := by decide +kernel
theorem dX4_append_35 : decode cX4_append 35 = .ok (.iconst 1, 1) := by decide +kernel
theorem dX4_append_36 : decode cX4_append 36 = .ok (.iadd, 1) := by decide +kernel
theorem dX4_append_37 : decode cX4_append 37 = .ok (.putfield 30, 3) := by decide +kernel
theorem dX4_append_40 : decode cX4_append 40 = .ok (.iinc 2 (-8), 3) := by decide +kernel
theorem dX4_append_43 : decode cX4_append 43 = .ok (.goto (-40), 3) := by decide +kernel
theorem dX4_append_46 : decode cX4_append 46 = .ok (.return_, 1) := by decide +kernel
theorem dX4_beginText_0 : decode cX4_beginText 0 = .ok (.aload_n 0, 1) := by decide +kernel
theorem dX4_beginText_1 : decode cX4_beginText 1 = .ok (.iload_n 1, 1) := by decide +kernel
theorem dX4_beginText_2 : decode cX4_beginText 2 = .ok (.aload_n 0, 1) := by decide +kernel
theorem dX4_beginText_3 : decode cX4_beginText 3 = .ok (.getfield 30, 3) := by decide +kernel
theorem dX4_beginText_6 : decode cX4_beginText 6 = .ok (.invokestatic 53, 3) := by decide +kernel
theorem dX4_beginText_9 : decode cX4_beginText 9 = .ok (.putfield 59, 3) := by decide +kernel
theorem dX4_beginText_12 : decode cX4_beginText 12 = .ok (.aload_n 0, 1) := by decide +kernel
theorem dX4_beginText_13 : decode cX4_beginText 13 = .ok (.iconst 0, 1) := by decide +kernel
theorem dX4_beginText_14 : decode cX4_beginText 14 = .ok (.putfield 30, 3) := by decide +kernel
theorem dX4_beginText_17 : decode cX4_beginText 17 = .ok (.aload_n 0, 1) := by decide +kernel
theorem dX4_beginText_18 : decode cX4_beginText 18 = .ok (.iconst 0, 1) := by decide +kernel
theorem dX4_beginText_19 : decode cX4_beginText 19 = .ok (.putfield 62, 3) := by decide +kernel
theorem dX4_beginText_22 : decode cX4_beginText 22 = .ok (.aload_n 0, 1) := by decide +kernel
theorem dX4_beginText_23 : decode cX4_beginText 23 = .ok (.iconst (-1), 1) := by decide +kernel
theorem dX4_beginText_24 : decode cX4_beginText 24 = .ok (.putfield 26, 3) := by decide +kernel
theorem dX4_beginText_27 : decode cX4_beginText 27 = .ok (.aload_n 0, 1) := by decide +kernel
theorem dX4_beginText_28 : decode cX4_beginText 28 = .ok (.getfield 18, 3) := by decide +kernel
theorem dX4_beginText_31 : decode cX4_beginText 31 = .ok (.invokevirtual 65, 3) := by decide +kernel
theorem dX4_beginText_34 : decode cX4_beginText 34 = .ok (.iconst 0, 1) := by decide +kernel
theorem dX4_beginText_35 : decode cX4_beginText 35 = .ok (.istore_n 2, 1) := by decide +kernel
theorem dX4_beginText_36 : decode cX4_beginText 36 = .ok (.iload_n 2, 1) := by decide +kernel
theorem dX4_beginText_37 : decode cX4_beginText 37 = .ok (.iconst 3, 1) := by decide +kernel
theorem dX4_beginText_38 : decode cX4_beginText 38 = .ok (.if_icmp .ge 16, 3) := by decide +kernel
theorem dX4_beginText_41 : decode cX4_beginText 41 = .ok (.aload_n 0, 1) := by decide +kernel
theorem dX4_beginText_42 : decode cX4_beginText 42 = .ok (.getfield 22, 3) := by decide +kernel
theorem dX4_beginText_45 : decode cX4_beginText 45 = .ok (.iload_n 2, 1) := by decide +kernel
theorem dX4_beginText_46 : decode cX4_beginText 46 = .ok (.iconst 0, 1) := by decide +kernel
theorem dX4_beginText_47 : decode cX4_beginText 47 = .ok (.bastore, 1) := by decide +kernel
theorem dX4_beginText_48 : decode cX4_beginText 48 = .ok (.iinc 2 1, 3) := by decide +kernel
theorem dX4_beginText_51 : decode cX4_beginText 51 = .ok (.goto (-15), 3) := by decide +kernel
theorem dX4_beginText_54 : decode cX4_beginText 54 = .ok (.return_, 1) := by decide +kernel
theorem dX4_takeWord_0 : decode cX4_takeWord 0 = .ok (.iconst 0, 1) := by decide +kernel
theorem dX4_takeWord_1 : decode cX4_takeWord 1 = .ok (.istore_n 1, 1) := by decide +kernel
theorem dX4_takeWord_2 : decode cX4_takeWord 2 = .ok (.iconst 0, 1) := by decide +kernel
theorem dX4_takeWord_3 : decode cX4_takeWord 3 = .ok (.istore_n 2, 1) := by decide +kernel
theorem dX4_takeWord_4 : decode cX4_takeWord 4 = .ok (.aload_n 0, 1) := by decide +kernel
theorem dX4_takeWord_5 : decode cX4_takeWord 5 = .ok (.getfield 62, 3) := by decide +kernel
theorem dX4_takeWord_8 : decode cX4_takeWord 8 = .ok (.aload_n 0, 1) := by decide +kernel
theorem dX4_takeWord_9 : decode cX4_takeWord 9 = .ok (.getfield 59, 3) := by decide +kernel
theorem dX4_takeWord_12 : decode cX4_takeWord 12 = .ok (.if_icmp .ge 75, 3) := by decide +kernel
theorem dX4_takeWord_15 : decode cX4_takeWord 15 = .ok (.aload_n 0, 1) := by decide +kernel
theorem dX4_takeWord_16 : decode cX4_takeWord 16 = .ok (.getfield 9, 3) := by decide +kernel
theorem dX4_takeWord_19 : decode cX4_takeWord 19 = .ok (.aload_n 0, 1) := by decide +kernel
theorem dX4_takeWord_20 : decode cX4_takeWord 20 = .ok (.getfield 62, 3) := by decide +kernel
theorem dX4_takeWord_23 : decode cX4_takeWord 23 = .ok (.baload, 1) := by decide +kernel
theorem dX4_takeWord_24 : decode cX4_takeWord 24 = .ok (.bipush 97, 2) := by decide +kernel
theorem dX4_takeWord_26 : decode cX4_takeWord 26 = .ok (.if_icmp .lt 61, 3) := by decide +kernel
theorem dX4_takeWord_29 : decode cX4_takeWord 29 = .ok (.aload_n 0, 1) := by decide +kernel
theorem dX4_takeWord_30 : decode cX4_takeWord 30 = .ok (.getfield 9, 3) := by decide +kernel
theorem dX4_takeWord_33 : decode cX4_takeWord 33 = .ok (.aload_n 0, 1) := by decide +kernel
theorem dX4_takeWord_34 : decode cX4_takeWord 34 = .ok (.getfield 62, 3) := by decide +kernel
theorem dX4_takeWord_37 : decode cX4_takeWord 37 = .ok (.baload, 1) := by decide +kernel
theorem dX4_takeWord_38 : decode cX4_takeWord 38 = .ok (.bipush 122, 2) := by decide +kernel
theorem dX4_takeWord_40 : decode cX4_takeWord 40 = .ok (.if_icmp .gt 47, 3) := by decide +kernel
theorem dX4_takeWord_43 : decode cX4_takeWord 43 = .ok (.iload_n 2, 1) := by decide +kernel
theorem dX4_takeWord_44 : decode cX4_takeWord 44 = .ok (.bipush 6, 2) := by decide +kernel
theorem dX4_takeWord_46 : decode cX4_takeWord 46 = .ok (.if_icmp .ge 25, 3) := by decide +kernel
theorem dX4_takeWord_49 : decode cX4_takeWord 49 = .ok (.iload_n 1, 1) := by decide +kernel
theorem dX4_takeWord_50 : decode cX4_takeWord 50 = .ok (.aload_n 0, 1) := by decide +kernel
theorem dX4_takeWord_51 : decode cX4_takeWord 51 = .ok (.getfield 9, 3) := by decide +kernel
theorem dX4_takeWord_54 : decode cX4_takeWord 54 = .ok (.aload_n 0, 1) := by decide +kernel
theorem dX4_takeWord_55 : decode cX4_takeWord 55 = .ok (.getfield 62, 3) := by decide +kernel
theorem dX4_takeWord_58 : decode cX4_takeWord 58 = .ok (.baload, 1) := by decide +kernel
theorem dX4_takeWord_59 : decode cX4_takeWord 59 = .ok (.bipush 31, 2) := by decide +kernel
theorem dX4_takeWord_61 : decode cX4_takeWord 61 = .ok (.iand, 1) := by decide +kernel
theorem dX4_takeWord_62 : decode cX4_takeWord 62 = .ok (.bipush 25, 2) := by decide +kernel
theorem dX4_takeWord_64 : decode cX4_takeWord 64 = .ok (.iconst 5, 1) := by decide +kernel
theorem dX4_takeWord_65 : decode cX4_takeWord 65 = .ok (.iload_n 2, 1) := by decide +kernel
theorem dX4_takeWord_66 : decode cX4_takeWord 66 = .ok (.imul, 1) := by decide +kernel
theorem dX4_takeWord_67 : decode cX4_takeWord 67 = .ok (.isub, 1) := by decide +kernel
theorem dX4_takeWord_68 : decode cX4_takeWord 68 = .ok (.ishl, 1) := by decide +kernel
theorem dX4_takeWord_69 : decode cX4_takeWord 69 = .ok (.ior, 1) := by decide +kernel
theorem dX4_takeWord_70 : decode cX4_takeWord 70 = .ok (.istore_n 1, 1) := by decide +kernel
theorem dX4_takeWord_71 : decode cX4_takeWord 71 = .ok (.iinc 2 1, 3) := by decide +kernel
theorem dX4_takeWord_74 : decode cX4_takeWord 74 = .ok (.aload_n 0, 1) := by decide +kernel
theorem dX4_takeWord_75 : decode cX4_takeWord 75 = .ok (.dup, 1) := by decide +kernel
theorem dX4_takeWord_76 : decode cX4_takeWord 76 = .ok (.getfield 62, 3) := by decide +kernel
theorem dX4_takeWord_79 : decode cX4_takeWord 79 = .ok (.iconst 1, 1) := by decide +kernel
theorem dX4_takeWord_80 : decode cX4_takeWord 80 = .ok (.iadd, 1) := by decide +kernel
theorem dX4_takeWord_81 : decode cX4_takeWord 81 = .ok (.putfield 62, 3) := by decide +kernel
theorem dX4_takeWord_84 : decode cX4_takeWord 84 = .ok (.goto (-80), 3) := by decide +kernel
theorem dX4_takeWord_87 : decode cX4_takeWord 87 = .ok (.aload_n 0, 1) := by decide +kernel
theorem dX4_takeWord_88 : decode cX4_takeWord 88 = .ok (.iconst 1, 1) := by decide +kernel
theorem dX4_takeWord_89 : decode cX4_takeWord 89 = .ok (.putfield 40, 3) := by decide +kernel
theorem dX4_takeWord_92 : decode cX4_takeWord 92 = .ok (.aload_n 0, 1) := by decide +kernel
theorem dX4_takeWord_93 : decode cX4_takeWord 93 = .ok (.iload_n 2, 1) := by decide +kernel
theorem dX4_takeWord_94 : decode cX4_takeWord 94 = .ok (.bipush 6, 2) := by decide +kernel
theorem dX4_takeWord_96 : decode cX4_takeWord 96 = .ok (.if_icmp .gt 7, 3) := by decide +kernel
theorem dX4_takeWord_99 : decode cX4_takeWord 99 = .ok (.iload_n 1, 1) := by decide +kernel
theorem dX4_takeWord_100 : decode cX4_takeWord 100 = .ok (.goto 4, 3) := by decide +kernel
theorem dX4_takeWord_103 : decode cX4_takeWord 103 = .ok (.iconst 0, 1) := by decide +kernel
theorem dX4_takeWord_104 : decode cX4_takeWord 104 = .ok (.putfield 72, 3) := by decide +kernel
theorem dX4_takeWord_107 : decode cX4_takeWord 107 = .ok (.return_, 1) := by decide +kernel
theorem dX4_takeNumber_0 : decode cX4_takeNumber 0 = .ok (.iconst 0, 1) := by decide +kernel
theorem dX4_takeNumber_1 : decode cX4_takeNumber 1 = .ok (.istore_n 1, 1) := by decide +kernel
theorem dX4_takeNumber_2 : decode cX4_takeNumber 2 = .ok (.aload_n 0, 1) := by decide +kernel
theorem dX4_takeNumber_3 : decode cX4_takeNumber 3 = .ok (.getfield 62, 3) := by decide +kernel
theorem dX4_takeNumber_6 : decode cX4_takeNumber 6 = .ok (.aload_n 0, 1) := by decide +kernel
theorem dX4_takeNumber_7 : decode cX4_takeNumber 7 = .ok (.getfield 59, 3) := by decide +kernel
theorem dX4_takeNumber_10 : decode cX4_takeNumber 10 = .ok (.if_icmp .ge 68, 3) := by decide +kernel
theorem dX4_takeNumber_13 : decode cX4_takeNumber 13 = .ok (.aload_n 0, 1) := by decide +kernel
theorem dX4_takeNumber_14 : decode cX4_takeNumber 14 = .ok (.getfield 9, 3) := by decide +kernel
theorem dX4_takeNumber_17 : decode cX4_takeNumber 17 = .ok (.aload_n 0, 1) := by decide +kernel
theorem dX4_takeNumber_18 : decode cX4_takeNumber 18 = .ok (.getfield 62, 3) := by decide +kernel
theorem dX4_takeNumber_21 : decode cX4_takeNumber 21 = .ok (.baload, 1) := by decide +kernel
theorem dX4_takeNumber_22 : decode cX4_takeNumber 22 = .ok (.bipush 48, 2) := by decide +kernel
theorem dX4_takeNumber_24 : decode cX4_takeNumber 24 = .ok (.if_icmp .lt 54, 3) := by decide +kernel
theorem dX4_takeNumber_27 : decode cX4_takeNumber 27 = .ok (.aload_n 0, 1) := by decide +kernel
theorem dX4_takeNumber_28 : decode cX4_takeNumber 28 = .ok (.getfield 9, 3) := by decide +kernel
theorem dX4_takeNumber_31 : decode cX4_takeNumber 31 = .ok (.aload_n 0, 1) := by decide +kernel
theorem dX4_takeNumber_32 : decode cX4_takeNumber 32 = .ok (.getfield 62, 3) := by decide +kernel
theorem dX4_takeNumber_35 : decode cX4_takeNumber 35 = .ok (.baload, 1) := by decide +kernel
theorem dX4_takeNumber_36 : decode cX4_takeNumber 36 = .ok (.bipush 57, 2) := by decide +kernel
theorem dX4_takeNumber_38 : decode cX4_takeNumber 38 = .ok (.if_icmp .gt 40, 3) := by decide +kernel
theorem dX4_takeNumber_41 : decode cX4_takeNumber 41 = .ok (.iload_n 1, 1) := by decide +kernel
theorem dX4_takeNumber_42 : decode cX4_takeNumber 42 = .ok (.ldc 151, 2) := by decide +kernel
theorem dX4_takeNumber_44 : decode cX4_takeNumber 44 = .ok (.if_icmp .ge 21, 3) := by decide +kernel
theorem dX4_takeNumber_47 : decode cX4_takeNumber 47 = .ok (.iload_n 1, 1) := by decide +kernel
theorem dX4_takeNumber_48 : decode cX4_takeNumber 48 = .ok (.bipush 10, 2) := by decide +kernel
theorem dX4_takeNumber_50 : decode cX4_takeNumber 50 = .ok (.imul, 1) := by decide +kernel
theorem dX4_takeNumber_51 : decode cX4_takeNumber 51 = .ok (.aload_n 0, 1) := by decide +kernel
theorem dX4_takeNumber_52 : decode cX4_takeNumber 52 = .ok (.getfield 9, 3) := by decide +kernel
theorem dX4_takeNumber_55 : decode cX4_takeNumber 55 = .ok (.aload_n 0, 1) := by decide +kernel
theorem dX4_takeNumber_56 : decode cX4_takeNumber 56 = .ok (.getfield 62, 3) := by decide +kernel
theorem dX4_takeNumber_59 : decode cX4_takeNumber 59 = .ok (.baload, 1) := by decide +kernel
theorem dX4_takeNumber_60 : decode cX4_takeNumber 60 = .ok (.bipush 48, 2) := by decide +kernel
theorem dX4_takeNumber_62 : decode cX4_takeNumber 62 = .ok (.isub, 1) := by decide +kernel
theorem dX4_takeNumber_63 : decode cX4_takeNumber 63 = .ok (.iadd, 1) := by decide +kernel
theorem dX4_takeNumber_64 : decode cX4_takeNumber 64 = .ok (.istore_n 1, 1) := by decide +kernel
theorem dX4_takeNumber_65 : decode cX4_takeNumber 65 = .ok (.aload_n 0, 1) := by decide +kernel
theorem dX4_takeNumber_66 : decode cX4_takeNumber 66 = .ok (.dup, 1) := by decide +kernel
theorem dX4_takeNumber_67 : decode cX4_takeNumber 67 = .ok (.getfield 62, 3) := by decide +kernel
theorem dX4_takeNumber_70 : decode cX4_takeNumber 70 = .ok (.iconst 1, 1) := by decide +kernel
theorem dX4_takeNumber_71 : decode cX4_takeNumber 71 = .ok (.iadd, 1) := by decide +kernel
theorem dX4_takeNumber_72 : decode cX4_takeNumber 72 = .ok (.putfield 62, 3) := by decide +kernel
theorem dX4_takeNumber_75 : decode cX4_takeNumber 75 = .ok (.goto (-73), 3) := by decide +kernel
theorem dX4_takeNumber_78 : decode cX4_takeNumber 78 = .ok (.aload_n 0, 1) := by decide +kernel
theorem dX4_takeNumber_79 : decode cX4_takeNumber 79 = .ok (.iconst 2, 1) := by decide +kernel
theorem dX4_takeNumber_80 : decode cX4_takeNumber 80 = .ok (.putfield 40, 3) := by decide +kernel
theorem dX4_takeNumber_83 : decode cX4_takeNumber 83 = .ok (.aload_n 0, 1) := by decide +kernel
theorem dX4_takeNumber_84 : decode cX4_takeNumber 84 = .ok (.iload_n 1, 1) := by decide +kernel
theorem dX4_takeNumber_85 : decode cX4_takeNumber 85 = .ok (.putfield 72, 3) := by decide +kernel
theorem dX4_takeNumber_88 : decode cX4_takeNumber 88 = .ok (.return_, 1) := by decide +kernel
theorem dX4_nextToken_0 : decode cX4_nextToken 0 = .ok (.aload_n 0, 1) := by decide +kernel
theorem dX4_nextToken_1 : decode cX4_nextToken 1 = .ok (.getfield 62, 3) := by decide +kernel
theorem dX4_nextToken_4 : decode cX4_nextToken 4 = .ok (.aload_n 0, 1) := by decide +kernel
theorem dX4_nextToken_5 : decode cX4_nextToken 5 = .ok (.getfield 59, 3) := by decide +kernel
theorem dX4_nextToken_8 : decode cX4_nextToken 8 = .ok (.if_icmp .ge 44, 3) := by decide +kernel
theorem dX4_nextToken_11 : decode cX4_nextToken 11 = .ok (.aload_n 0, 1) := by decide +kernel
theorem dX4_nextToken_12 : decode cX4_nextToken 12 = .ok (.getfield 9, 3) := by decide +kernel
theorem dX4_nextToken_15 : decode cX4_nextToken 15 = .ok (.aload_n 0, 1) := by decide +kernel
theorem dX4_nextToken_16 : decode cX4_nextToken 16 = .ok (.getfield 62, 3) := by decide +kernel
theorem dX4_nextToken_19 : decode cX4_nextToken 19 = .ok (.baload, 1) := by decide +kernel
theorem dX4_nextToken_20 : decode cX4_nextToken 20 = .ok (.bipush 32, 2) := by decide +kernel
theorem dX4_nextToken_22 : decode cX4_nextToken 22 = .ok (.if_icmp .eq 17, 3) := by decide +kernel
theorem dX4_nextToken_25 : decode cX4_nextToken 25 = .ok (.aload_n 0, 1) := by decide +kernel
theorem dX4_nextToken_26 : decode cX4_nextToken 26 = .ok (.getfield 9, 3) := by decide +kernel
theorem dX4_nextToken_29 : decode cX4_nextToken 29 = .ok (.aload_n 0, 1) := by decide +kernel
theorem dX4_nextToken_30 : decode cX4_nextToken 30 = .ok (.getfield 62, 3) := by decide +kernel
theorem dX4_nextToken_33 : decode cX4_nextToken 33 = .ok (.baload, 1) := by decide +kernel
theorem dX4_nextToken_34 : decode cX4_nextToken 34 = .ok (.bipush 10, 2) := by decide +kernel
theorem dX4_nextToken_36 : decode cX4_nextToken 36 = .ok (.if_icmp .ne 16, 3) := by decide +kernel
theorem dX4_nextToken_39 : decode cX4_nextToken 39 = .ok (.aload_n 0, 1) := by decide +kernel
theorem dX4_nextToken_40 : decode cX4_nextToken 40 = .ok (.dup, 1) := by decide +kernel
theorem dX4_nextToken_41 : decode cX4_nextToken 41 = .ok (.getfield 62, 3) := by decide +kernel
theorem dX4_nextToken_44 : decode cX4_nextToken 44 = .ok (.iconst 1, 1) := by decide +kernel
theorem dX4_nextToken_45 : decode cX4_nextToken 45 = .ok (.iadd, 1) := by decide +kernel
theorem dX4_nextToken_46 : decode cX4_nextToken 46 = .ok (.putfield 62, 3) := by decide +kernel
theorem dX4_nextToken_49 : decode cX4_nextToken 49 = .ok (.goto (-49), 3) := by decide +kernel
theorem dX4_nextToken_52 : decode cX4_nextToken 52 = .ok (.aload_n 0, 1) := by decide +kernel
theorem dX4_nextToken_53 : decode cX4_nextToken 53 = .ok (.aload_n 0, 1) := by decide +kernel
theorem dX4_nextToken_54 : decode cX4_nextToken 54 = .ok (.getfield 62, 3) := by decide +kernel
theorem dX4_nextToken_57 : decode cX4_nextToken 57 = .ok (.putfield 138, 3) := by decide +kernel
theorem dX4_nextToken_60 : decode cX4_nextToken 60 = .ok (.aload_n 0, 1) := by decide +kernel
theorem dX4_nextToken_61 : decode cX4_nextToken 61 = .ok (.getfield 62, 3) := by decide +kernel
theorem dX4_nextToken_64 : decode cX4_nextToken 64 = .ok (.aload_n 0, 1) := by decide +kernel
theorem dX4_nextToken_65 : decode cX4_nextToken 65 = .ok (.getfield 59, 3) := by decide +kernel
theorem dX4_nextToken_68 : decode cX4_nextToken 68 = .ok (.if_icmp .lt 11, 3) := by decide +kernel
theorem dX4_nextToken_71 : decode cX4_nextToken 71 = .ok (.aload_n 0, 1) := by decide +kernel
theorem dX4_nextToken_72 : decode cX4_nextToken 72 = .ok (.iconst 0, 1) := by decide +kernel
theorem dX4_nextToken_73 : decode cX4_nextToken 73 = .ok (.putfield 40, 3) := by decide +kernel
theorem dX4_nextToken_76 : decode cX4_nextToken 76 = .ok (.goto 88, 3) := by decide +kernel
theorem dX4_nextToken_79 : decode cX4_nextToken 79 = .ok (.aload_n 0, 1) := by decide +kernel
theorem dX4_nextToken_80 : decode cX4_nextToken 80 = .ok (.getfield 9, 3) := by decide +kernel
theorem dX4_nextToken_83 : decode cX4_nextToken 83 = .ok (.aload_n 0, 1) := by decide +kernel
theorem dX4_nextToken_84 : decode cX4_nextToken 84 = .ok (.getfield 62, 3) := by decide +kernel
theorem dX4_nextToken_87 : decode cX4_nextToken 87 = .ok (.baload, 1) := by decide +kernel
theorem dX4_nextToken_88 : decode cX4_nextToken 88 = .ok (.bipush 97, 2) := by decide +kernel
theorem dX4_nextToken_90 : decode cX4_nextToken 90 = .ok (.bipush 122, 2) := by decide +kernel
theorem dX4_nextToken_92 : decode cX4_nextToken 92 = .ok (.invokestatic 134, 3) := by decide +kernel
theorem dX4_nextToken_95 : decode cX4_nextToken 95 = .ok (.ifCond .eq 10, 3) := by decide +kernel
theorem dX4_nextToken_98 : decode cX4_nextToken 98 = .ok (.aload_n 0, 1) := by decide +kernel
theorem dX4_nextToken_99 : decode cX4_nextToken 99 = .ok (.invokevirtual 145, 3) := by decide +kernel
theorem dX4_nextToken_102 : decode cX4_nextToken 102 = .ok (.goto 62, 3) := by decide +kernel
theorem dX4_nextToken_105 : decode cX4_nextToken 105 = .ok (.aload_n 0, 1) := by decide +kernel
theorem dX4_nextToken_106 : decode cX4_nextToken 106 = .ok (.getfield 9, 3) := by decide +kernel
theorem dX4_nextToken_109 : decode cX4_nextToken 109 = .ok (.aload_n 0, 1) := by decide +kernel
theorem dX4_nextToken_110 : decode cX4_nextToken 110 = .ok (.getfield 62, 3) := by decide +kernel
theorem dX4_nextToken_113 : decode cX4_nextToken 113 = .ok (.baload, 1) := by decide +kernel
theorem dX4_nextToken_114 : decode cX4_nextToken 114 = .ok (.bipush 48, 2) := by decide +kernel
theorem dX4_nextToken_116 : decode cX4_nextToken 116 = .ok (.bipush 57, 2) := by decide +kernel
theorem dX4_nextToken_118 : decode cX4_nextToken 118 = .ok (.invokestatic 134, 3) := by decide +kernel
theorem dX4_nextToken_121 : decode cX4_nextToken 121 = .ok (.ifCond .eq 10, 3) := by decide +kernel
theorem dX4_nextToken_124 : decode cX4_nextToken 124 = .ok (.aload_n 0, 1) := by decide +kernel
theorem dX4_nextToken_125 : decode cX4_nextToken 125 = .ok (.invokevirtual 148, 3) := by decide +kernel
theorem dX4_nextToken_128 : decode cX4_nextToken 128 = .ok (.goto 36, 3) := by decide +kernel
theorem dX4_nextToken_131 : decode cX4_nextToken 131 = .ok (.aload_n 0, 1) := by decide +kernel
theorem dX4_nextToken_132 : decode cX4_nextToken 132 = .ok (.aload_n 0, 1) := by decide +kernel
theorem dX4_nextToken_133 : decode cX4_nextToken 133 = .ok (.getfield 9, 3) := by decide +kernel
theorem dX4_nextToken_136 : decode cX4_nextToken 136 = .ok (.aload_n 0, 1) := by decide +kernel
theorem dX4_nextToken_137 : decode cX4_nextToken 137 = .ok (.getfield 62, 3) := by decide +kernel
theorem dX4_nextToken_140 : decode cX4_nextToken 140 = .ok (.baload, 1) := by decide +kernel
theorem dX4_nextToken_141 : decode cX4_nextToken 141 = .ok (.bipush 59, 2) := by decide +kernel
theorem dX4_nextToken_143 : decode cX4_nextToken 143 = .ok (.if_icmp .ne 7, 3) := by decide +kernel
theorem dX4_nextToken_146 : decode cX4_nextToken 146 = .ok (.iconst 3, 1) := by decide +kernel
theorem dX4_nextToken_147 : decode cX4_nextToken 147 = .ok (.goto 4, 3) := by decide +kernel
theorem dX4_nextToken_150 : decode cX4_nextToken 150 = .ok (.iconst 4, 1) := by decide +kernel
theorem dX4_nextToken_151 : decode cX4_nextToken 151 = .ok (.putfield 40, 3) := by decide +kernel
theorem dX4_nextToken_154 : decode cX4_nextToken 154 = .ok (.aload_n 0, 1) := by decide +kernel
theorem dX4_nextToken_155 : decode cX4_nextToken 155 = .ok (.dup, 1) := by decide +kernel
theorem dX4_nextToken_156 : decode cX4_nextToken 156 = .ok (.getfield 62, 3) := by decide +kernel
theorem dX4_nextToken_159 : decode cX4_nextToken 159 = .ok (.iconst 1, 1) := by decide +kernel
theorem dX4_nextToken_160 : decode cX4_nextToken 160 = .ok (.iadd, 1) := by decide +kernel
theorem dX4_nextToken_161 : decode cX4_nextToken 161 = .ok (.putfield 62, 3) := by decide +kernel
theorem dX4_nextToken_164 : decode cX4_nextToken 164 = .ok (.return_, 1) := by decide +kernel
theorem dX4_fail_0 : decode cX4_fail 0 = .ok (.aload_n 0, 1) := by decide +kernel
theorem dX4_fail_1 : decode cX4_fail 1 = .ok (.iload_n 1, 1) := by decide +kernel
theorem dX4_fail_2 : decode cX4_fail 2 = .ok (.putfield 50, 3) := by decide +kernel
theorem dX4_fail_5 : decode cX4_fail 5 = .ok (.aload_n 0, 1) := by decide +kernel
theorem dX4_fail_6 : decode cX4_fail 6 = .ok (.aload_n 0, 1) := by decide +kernel
theorem dX4_fail_7 : decode cX4_fail 7 = .ok (.getfield 138, 3) := by decide +kernel
theorem dX4_fail_10 : decode cX4_fail 10 = .ok (.putfield 26, 3) := by decide +kernel
theorem dX4_fail_13 : decode cX4_fail 13 = .ok (.iconst 0, 1) := by decide +kernel
theorem dX4_fail_14 : decode cX4_fail 14 = .ok (.ireturn, 1) := by decide +kernel
theorem dX4_settingOfWord_0 : decode cX4_settingOfWord 0 = .ok (.iload_n 0, 1) := by decide +kernel
theorem dX4_settingOfWord_1 : decode cX4_settingOfWord 1 = .ok (.lookupswitch 41 #[(48965011, 35), (437853486, 37), (626398208, 39)], 35) := by decide +kernel
theorem dX4_settingOfWord_36 : decode cX4_settingOfWord 36 = .ok (.iconst 0, 1) := by decide +kernel
theorem dX4_settingOfWord_37 : decode cX4_settingOfWord 37 = .ok (.ireturn, 1) := by decide +kernel
theorem dX4_settingOfWord_38 : decode cX4_settingOfWord 38 = .ok (.iconst 1, 1) := by decide +kernel
theorem dX4_settingOfWord_39 : decode cX4_settingOfWord 39 = .ok (.ireturn, 1) := by decide +kernel
theorem dX4_settingOfWord_40 : decode cX4_settingOfWord 40 = .ok (.iconst 2, 1) := by decide +kernel
theorem dX4_settingOfWord_41 : decode cX4_settingOfWord 41 = .ok (.ireturn, 1) := by decide +kernel
theorem dX4_settingOfWord_42 : decode cX4_settingOfWord 42 = .ok (.iconst (-1), 1) := by decide +kernel
theorem dX4_settingOfWord_43 : decode cX4_settingOfWord 43 = .ok (.ireturn, 1) := by decide +kernel
theorem dX4_isReserved_0 : decode cX4_isReserved 0 = .ok (.iload_n 0, 1) := by decide +kernel
theorem dX4_isReserved_1 : decode cX4_isReserved 1 = .ok (.ldc 141, 2) := by decide +kernel
theorem dX4_isReserved_3 : decode cX4_isReserved 3 = .ok (.if_icmp .eq 29, 3) := by decide +kernel
theorem dX4_isReserved_6 : decode cX4_isReserved 6 = .ok (.iload_n 0, 1) := by decide +kernel
theorem dX4_isReserved_7 : decode cX4_isReserved 7 = .ok (.ldc 142, 2) := by decide +kernel
theorem dX4_isReserved_9 : decode cX4_isReserved 9 = .ok (.if_icmp .eq 23, 3) := by decide +kernel
theorem dX4_isReserved_12 : decode cX4_isReserved 12 = .ok (.iload_n 0, 1) := by decide +kernel
theorem dX4_isReserved_13 : decode cX4_isReserved 13 = .ok (.ldc 143, 2) := by decide +kernel
theorem dX4_isReserved_15 : decode cX4_isReserved 15 = .ok (.if_icmp .eq 17, 3) := by decide +kernel
theorem dX4_isReserved_18 : decode cX4_isReserved 18 = .ok (.iload_n 0, 1) := by decide +kernel
theorem dX4_isReserved_19 : decode cX4_isReserved 19 = .ok (.ldc 144, 2) := by decide +kernel
theorem dX4_isReserved_21 : decode cX4_isReserved 21 = .ok (.if_icmp .eq 11, 3) := by decide +kernel
theorem dX4_isReserved_24 : decode cX4_isReserved 24 = .ok (.iload_n 0, 1) := by decide +kernel
theorem dX4_isReserved_25 : decode cX4_isReserved 25 = .ok (.invokestatic 119, 3) := by decide +kernel
theorem dX4_isReserved_28 : decode cX4_isReserved 28 = .ok (.iconst (-1), 1) := by decide +kernel
theorem dX4_isReserved_29 : decode cX4_isReserved 29 = .ok (.if_icmp .eq 7, 3) := by decide +kernel
theorem dX4_isReserved_32 : decode cX4_isReserved 32 = .ok (.iconst 1, 1) := by decide +kernel
theorem dX4_isReserved_33 : decode cX4_isReserved 33 = .ok (.goto 4, 3) := by decide +kernel
theorem dX4_isReserved_36 : decode cX4_isReserved 36 = .ok (.iconst 0, 1) := by decide +kernel
theorem dX4_isReserved_37 : decode cX4_isReserved 37 = .ok (.ireturn, 1) := by decide +kernel
theorem dX4_readName_0 : decode cX4_readName 0 = .ok (.aload_n 0, 1) := by decide +kernel
theorem dX4_readName_1 : decode cX4_readName 1 = .ok (.invokevirtual 37, 3) := by decide +kernel
theorem dX4_readName_4 : decode cX4_readName 4 = .ok (.aload_n 0, 1) := by decide +kernel
theorem dX4_readName_5 : decode cX4_readName 5 = .ok (.getfield 40, 3) := by decide +kernel
theorem dX4_readName_8 : decode cX4_readName 8 = .ok (.iconst 1, 1) := by decide +kernel
theorem dX4_readName_9 : decode cX4_readName 9 = .ok (.if_icmp .ne 24, 3) := by decide +kernel
theorem dX4_readName_12 : decode cX4_readName 12 = .ok (.aload_n 0, 1) := by decide +kernel
theorem dX4_readName_13 : decode cX4_readName 13 = .ok (.getfield 72, 3) := by decide +kernel
theorem dX4_readName_16 : decode cX4_readName 16 = .ok (.ifCond .eq 17, 3) := by decide +kernel
theorem dX4_readName_19 : decode cX4_readName 19 = .ok (.aload_n 0, 1) := by decide +kernel
theorem dX4_readName_20 : decode cX4_readName 20 = .ok (.getfield 72, 3) := by decide +kernel
theorem dX4_readName_23 : decode cX4_readName 23 = .ok (.invokestatic 131, 3) := by decide +kernel
theorem dX4_readName_26 : decode cX4_readName 26 = .ok (.ifCond .ne 7, 3) := by decide +kernel
theorem dX4_readName_29 : decode cX4_readName 29 = .ok (.iconst 1, 1) := by decide +kernel
theorem dX4_readName_30 : decode cX4_readName 30 = .ok (.goto 4, 3) := by decide +kernel
theorem dX4_readName_33 : decode cX4_readName 33 = .ok (.iconst 0, 1) := by decide +kernel
theorem dX4_readName_34 : decode cX4_readName 34 = .ok (.istore_n 1, 1) := by decide +kernel
theorem dX4_readName_35 : decode cX4_readName 35 = .ok (.iload_n 1, 1) := by decide +kernel
theorem dX4_readName_36 : decode cX4_readName 36 = .ok (.ifCond .ne 12, 3) := by decide +kernel
theorem dX4_readName_39 : decode cX4_readName 39 = .ok (.aload_n 0, 1) := by decide +kernel
theorem dX4_readName_40 : decode cX4_readName 40 = .ok (.bipush (-11), 2) := by decide +kernel
theorem dX4_readName_42 : decode cX4_readName 42 = .ok (.invokevirtual 68, 3) := by decide +kernel
theorem dX4_readName_45 : decode cX4_readName 45 = .ok (.ifCond .eq 7, 3) := by decide +kernel
theorem dX4_readName_48 : decode cX4_readName 48 = .ok (.iconst 1, 1) := by decide +kernel
theorem dX4_readName_49 : decode cX4_readName 49 = .ok (.goto 4, 3) := by decide +kernel
theorem dX4_readName_52 : decode cX4_readName 52 = .ok (.iconst 0, 1) := by decide +kernel
theorem dX4_readName_53 : decode cX4_readName 53 = .ok (.ireturn, 1) := by decide +kernel
theorem dX4_readNumber_0 : decode cX4_readNumber 0 = .ok (.aload_n 0, 1) := by decide +kernel
theorem dX4_readNumber_1 : decode cX4_readNumber 1 = .ok (.invokevirtual 37, 3) := by decide +kernel
theorem dX4_readNumber_4 : decode cX4_readNumber 4 = .ok (.aload_n 0, 1) := by decide +kernel
theorem dX4_readNumber_5 : decode cX4_readNumber 5 = .ok (.getfield 40, 3) := by decide +kernel
theorem dX4_readNumber_8 : decode cX4_readNumber 8 = .ok (.iconst 2, 1) := by decide +kernel
theorem dX4_readNumber_9 : decode cX4_readNumber 9 = .ok (.if_icmp .eq 10, 3) := by decide +kernel
theorem dX4_readNumber_12 : decode cX4_readNumber 12 = .ok (.aload_n 0, 1) := by decide +kernel
theorem dX4_readNumber_13 : decode cX4_readNumber 13 = .ok (.bipush (-11), 2) := by decide +kernel
theorem dX4_readNumber_15 : decode cX4_readNumber 15 = .ok (.invokevirtual 68, 3) := by decide +kernel
theorem dX4_readNumber_18 : decode cX4_readNumber 18 = .ok (.ireturn, 1) := by decide +kernel
theorem dX4_readNumber_19 : decode cX4_readNumber 19 = .ok (.aload_n 0, 1) := by decide +kernel
theorem dX4_readNumber_20 : decode cX4_readNumber 20 = .ok (.getfield 72, 3) := by decide +kernel
theorem dX4_readNumber_23 : decode cX4_readNumber 23 = .ok (.iload_n 1, 1) := by decide +kernel
theorem dX4_readNumber_24 : decode cX4_readNumber 24 = .ok (.iload_n 2, 1) := by decide +kernel
theorem dX4_readNumber_25 : decode cX4_readNumber 25 = .ok (.invokestatic 134, 3) := by decide +kernel
theorem dX4_readNumber_28 : decode cX4_readNumber 28 = .ok (.ifCond .ne 12, 3) := by decide +kernel
theorem dX4_readNumber_31 : decode cX4_readNumber 31 = .ok (.aload_n 0, 1) := by decide +kernel
theorem dX4_readNumber_32 : decode cX4_readNumber 32 = .ok (.bipush (-12), 2) := by decide +kernel
theorem dX4_readNumber_34 : decode cX4_readNumber 34 = .ok (.invokevirtual 68, 3) := by decide +kernel
theorem dX4_readNumber_37 : decode cX4_readNumber 37 = .ok (.ifCond .eq 7, 3) := by decide +kernel
theorem dX4_readNumber_40 : decode cX4_readNumber 40 = .ok (.iconst 1, 1) := by decide +kernel
theorem dX4_readNumber_41 : decode cX4_readNumber 41 = .ok (.goto 4, 3) := by decide +kernel
theorem dX4_readNumber_44 : decode cX4_readNumber 44 = .ok (.iconst 0, 1) := by decide +kernel
theorem dX4_readNumber_45 : decode cX4_readNumber 45 = .ok (.ireturn, 1) := by decide +kernel
theorem dX4_readIron_0 : decode cX4_readIron 0 = .ok (.aload_n 0, 1) := by decide +kernel
theorem dX4_readIron_1 : decode cX4_readIron 1 = .ok (.getfield 18, 3) := by decide +kernel
theorem dX4_readIron_4 : decode cX4_readIron 4 = .ok (.getfield 87, 3) := by decide +kernel
theorem dX4_readIron_7 : decode cX4_readIron 7 = .ok (.bipush 6, 2) := by decide +kernel
theorem dX4_readIron_9 : decode cX4_readIron 9 = .ok (.if_icmp .lt 10, 3) := by decide +kernel
theorem dX4_readIron_12 : decode cX4_readIron 12 = .ok (.aload_n 0, 1) := by decide +kernel
theorem dX4_readIron_13 : decode cX4_readIron 13 = .ok (.bipush (-15), 2) := by decide +kernel
theorem dX4_readIron_15 : decode cX4_readIron 15 = .ok (.invokevirtual 68, 3) := by decide +kernel
theorem dX4_readIron_18 : decode cX4_readIron 18 = .ok (.ireturn, 1) := by decide +kernel
theorem dX4_readIron_19 : decode cX4_readIron 19 = .ok (.aload_n 0, 1) := by decide +kernel
theorem dX4_readIron_20 : decode cX4_readIron 20 = .ok (.invokevirtual 90, 3) := by decide +kernel
theorem dX4_readIron_23 : decode cX4_readIron 23 = .ok (.ifCond .ne 5, 3) := by decide +kernel
theorem dX4_readIron_26 : decode cX4_readIron 26 = .ok (.iconst 0, 1) := by decide +kernel
theorem dX4_readIron_27 : decode cX4_readIron 27 = .ok (.ireturn, 1) := by decide +kernel
theorem dX4_readIron_28 : decode cX4_readIron 28 = .ok (.aload_n 0, 1) := by decide +kernel
theorem dX4_readIron_29 : decode cX4_readIron 29 = .ok (.getfield 72, 3) := by decide +kernel
theorem dX4_readIron_32 : decode cX4_readIron 32 = .ok (.istore_n 1, 1) := by decide +kernel
theorem dX4_readIron_33 : decode cX4_readIron 33 = .ok (.aload_n 0, 1) := by decide +kernel
theorem dX4_readIron_34 : decode cX4_readIron 34 = .ok (.getfield 18, 3) := by decide +kernel
theorem dX4_readIron_37 : decode cX4_readIron 37 = .ok (.iload_n 1, 1) := by decide +kernel
theorem dX4_readIron_38 : decode cX4_readIron 38 = .ok (.invokevirtual 93, 3) := by decide +kernel
theorem dX4_readIron_41 : decode cX4_readIron 41 = .ok (.iconst (-1), 1) := by decide +kernel
theorem dX4_readIron_42 : decode cX4_readIron 42 = .ok (.if_icmp .eq 10, 3) := by decide +kernel
theorem dX4_readIron_45 : decode cX4_readIron 45 = .ok (.aload_n 0, 1) := by decide +kernel
theorem dX4_readIron_46 : decode cX4_readIron 46 = .ok (.bipush (-14), 2) := by decide +kernel
theorem dX4_readIron_48 : decode cX4_readIron 48 = .ok (.invokevirtual 68, 3) := by decide +kernel
theorem dX4_readIron_51 : decode cX4_readIron 51 = .ok (.ireturn, 1) := by decide +kernel
theorem dX4_readIron_52 : decode cX4_readIron 52 = .ok (.aload_n 0, 1) := by decide +kernel
theorem dX4_readIron_53 : decode cX4_readIron 53 = .ok (.iconst 1, 1) := by decide +kernel
theorem dX4_readIron_54 : decode cX4_readIron 54 = .ok (.bipush 9, 2) := by decide +kernel
theorem dX4_readIron_56 : decode cX4_readIron 56 = .ok (.invokevirtual 97, 3) := by decide +kernel
theorem dX4_readIron_59 : decode cX4_readIron 59 = .ok (.ifCond .ne 5, 3) := by decide +kernel
theorem dX4_readIron_62 : decode cX4_readIron 62 = .ok (.iconst 0, 1) := by decide +kernel
theorem dX4_readIron_63 : decode cX4_readIron 63 = .ok (.ireturn, 1) := by decide +kernel
theorem dX4_readIron_64 : decode cX4_readIron 64 = .ok (.aload_n 0, 1) := by decide +kernel
theorem dX4_readIron_65 : decode cX4_readIron 65 = .ok (.getfield 72, 3) := by decide +kernel
theorem dX4_readIron_68 : decode cX4_readIron 68 = .ok (.istore_n 2, 1) := by decide +kernel
theorem dX4_readIron_69 : decode cX4_readIron 69 = .ok (.aload_n 0, 1) := by decide +kernel
theorem dX4_readIron_70 : decode cX4_readIron 70 = .ok (.iconst 1, 1) := by decide +kernel
theorem dX4_readIron_71 : decode cX4_readIron 71 = .ok (.bipush 99, 2) := by decide +kernel
theorem dX4_readIron_73 : decode cX4_readIron 73 = .ok (.invokevirtual 97, 3) := by decide +kernel
theorem dX4_readIron_76 : decode cX4_readIron 76 = .ok (.ifCond .ne 5, 3) := by decide +kernel
theorem dX4_readIron_79 : decode cX4_readIron 79 = .ok (.iconst 0, 1) := by decide +kernel
theorem dX4_readIron_80 : decode cX4_readIron 80 = .ok (.ireturn, 1) := by decide +kernel
theorem dX4_readIron_81 : decode cX4_readIron 81 = .ok (.aload_n 0, 1) := by decide +kernel
theorem dX4_readIron_82 : decode cX4_readIron 82 = .ok (.getfield 18, 3) := by decide +kernel
theorem dX4_readIron_85 : decode cX4_readIron 85 = .ok (.iload_n 1, 1) := by decide +kernel
theorem dX4_readIron_86 : decode cX4_readIron 86 = .ok (.iload_n 2, 1) := by decide +kernel
theorem dX4_readIron_87 : decode cX4_readIron 87 = .ok (.aload_n 0, 1) := by decide +kernel
theorem dX4_readIron_88 : decode cX4_readIron 88 = .ok (.getfield 72, 3) := by decide +kernel
theorem dX4_readIron_91 : decode cX4_readIron 91 = .ok (.invokevirtual 101, 3) := by decide +kernel
theorem dX4_readIron_94 : decode cX4_readIron 94 = .ok (.iconst 1, 1) := by decide +kernel
theorem dX4_readIron_95 : decode cX4_readIron 95 = .ok (.ireturn, 1) := by decide +kernel
theorem dX4_readStep_0 : decode cX4_readStep 0 = .ok (.aload_n 0, 1) := by decide +kernel
theorem dX4_readStep_1 : decode cX4_readStep 1 = .ok (.invokevirtual 90, 3) := by decide +kernel
theorem dX4_readStep_4 : decode cX4_readStep 4 = .ok (.ifCond .ne 5, 3) := by decide +kernel
theorem dX4_readStep_7 : decode cX4_readStep 7 = .ok (.iconst 0, 1) := by decide +kernel
theorem dX4_readStep_8 : decode cX4_readStep 8 = .ok (.ireturn, 1) := by decide +kernel
theorem dX4_readStep_9 : decode cX4_readStep 9 = .ok (.aload_n 0, 1) := by decide +kernel
theorem dX4_readStep_10 : decode cX4_readStep 10 = .ok (.getfield 18, 3) := by decide +kernel
theorem dX4_readStep_13 : decode cX4_readStep 13 = .ok (.aload_n 0, 1) := by decide +kernel
theorem dX4_readStep_14 : decode cX4_readStep 14 = .ok (.getfield 72, 3) := by decide +kernel
theorem dX4_readStep_17 : decode cX4_readStep 17 = .ok (.invokevirtual 93, 3) := by decide +kernel
theorem dX4_readStep_20 : decode cX4_readStep 20 = .ok (.istore_n 1, 1) := by decide +kernel
theorem dX4_readStep_21 : decode cX4_readStep 21 = .ok (.iload_n 1, 1) := by decide +kernel
theorem dX4_readStep_22 : decode cX4_readStep 22 = .ok (.iconst (-1), 1) := by decide +kernel
theorem dX4_readStep_23 : decode cX4_readStep 23 = .ok (.if_icmp .ne 10, 3) := by decide +kernel
theorem dX4_readStep_26 : decode cX4_readStep 26 = .ok (.aload_n 0, 1) := by decide +kernel
theorem dX4_readStep_27 : decode cX4_readStep 27 = .ok (.bipush (-13), 2) := by decide +kernel
theorem dX4_readStep_29 : decode cX4_readStep 29 = .ok (.invokevirtual 68, 3) := by decide +kernel
theorem dX4_readStep_32 : decode cX4_readStep 32 = .ok (.ireturn, 1) := by decide +kernel
theorem dX4_readStep_33 : decode cX4_readStep 33 = .ok (.aload_n 0, 1) := by decide +kernel
theorem dX4_readStep_34 : decode cX4_readStep 34 = .ok (.getfield 18, 3) := by decide +kernel
theorem dX4_readStep_37 : decode cX4_readStep 37 = .ok (.getfield 105, 3) := by decide +kernel
theorem dX4_readStep_40 : decode cX4_readStep 40 = .ok (.iload_n 1, 1) := by decide +kernel
theorem dX4_readStep_41 : decode cX4_readStep 41 = .ok (.iaload, 1) := by decide +kernel
theorem dX4_readStep_42 : decode cX4_readStep 42 = .ok (.iconst 5, 1) := by decide +kernel
theorem dX4_readStep_43 : decode cX4_readStep 43 = .ok (.if_icmp .lt 10, 3) := by decide +kernel
theorem dX4_readStep_46 : decode cX4_readStep 46 = .ok (.aload_n 0, 1) := by decide +kernel
theorem dX4_readStep_47 : decode cX4_readStep 47 = .ok (.bipush (-15), 2) := by decide +kernel
theorem dX4_readStep_49 : decode cX4_readStep 49 = .ok (.invokevirtual 68, 3) := by decide +kernel
theorem dX4_readStep_52 : decode cX4_readStep 52 = .ok (.ireturn, 1) := by decide +kernel
theorem dX4_readStep_53 : decode cX4_readStep 53 = .ok (.aload_n 0, 1) := by decide +kernel
theorem dX4_readStep_54 : decode cX4_readStep 54 = .ok (.bipush 100, 2) := by decide +kernel
theorem dX4_readStep_56 : decode cX4_readStep 56 = .ok (.sipush 1400, 3) := by decide +kernel
theorem dX4_readStep_59 : decode cX4_readStep 59 = .ok (.invokevirtual 97, 3) := by decide +kernel
theorem dX4_readStep_62 : decode cX4_readStep 62 = .ok (.ifCond .ne 5, 3) := by decide +kernel
theorem dX4_readStep_65 : decode cX4_readStep 65 = .ok (.iconst 0, 1) := by decide +kernel
theorem dX4_readStep_66 : decode cX4_readStep 66 = .ok (.ireturn, 1) := by decide +kernel
theorem dX4_readStep_67 : decode cX4_readStep 67 = .ok (.aload_n 0, 1) := by decide +kernel
theorem dX4_readStep_68 : decode cX4_readStep 68 = .ok (.getfield 72, 3) := by decide +kernel
theorem dX4_readStep_71 : decode cX4_readStep 71 = .ok (.istore_n 2, 1) := by decide +kernel
theorem dX4_readStep_72 : decode cX4_readStep 72 = .ok (.aload_n 0, 1) := by decide +kernel
theorem dX4_readStep_73 : decode cX4_readStep 73 = .ok (.iconst 1, 1) := by decide +kernel
theorem dX4_readStep_74 : decode cX4_readStep 74 = .ok (.bipush 30, 2) := by decide +kernel
theorem dX4_readStep_76 : decode cX4_readStep 76 = .ok (.invokevirtual 97, 3) := by decide +kernel
theorem dX4_readStep_79 : decode cX4_readStep 79 = .ok (.ifCond .ne 5, 3) := by decide +kernel
theorem dX4_readStep_82 : decode cX4_readStep 82 = .ok (.iconst 0, 1) := by decide +kernel
theorem dX4_readStep_83 : decode cX4_readStep 83 = .ok (.ireturn, 1) := by decide +kernel
theorem dX4_readStep_84 : decode cX4_readStep 84 = .ok (.aload_n 0, 1) := by decide +kernel
theorem dX4_readStep_85 : decode cX4_readStep 85 = .ok (.getfield 18, 3) := by decide +kernel
theorem dX4_readStep_88 : decode cX4_readStep 88 = .ok (.iload_n 1, 1) := by decide +kernel
theorem dX4_readStep_89 : decode cX4_readStep 89 = .ok (.iload_n 2, 1) := by decide +kernel
theorem dX4_readStep_90 : decode cX4_readStep 90 = .ok (.aload_n 0, 1) := by decide +kernel
theorem dX4_readStep_91 : decode cX4_readStep 91 = .ok (.getfield 72, 3) := by decide +kernel
theorem dX4_readStep_94 : decode cX4_readStep 94 = .ok (.invokevirtual 109, 3) := by decide +kernel
theorem dX4_readStep_97 : decode cX4_readStep 97 = .ok (.iconst 1, 1) := by decide +kernel
theorem dX4_readStep_98 : decode cX4_readStep 98 = .ok (.ireturn, 1) := by decide +kernel
theorem dX4_readPlace_0 : decode cX4_readPlace 0 = .ok (.aload_n 0, 1) := by decide +kernel
theorem dX4_readPlace_1 : decode cX4_readPlace 1 = .ok (.getfield 18, 3) := by decide +kernel
theorem dX4_readPlace_4 : decode cX4_readPlace 4 = .ok (.getfield 112, 3) := by decide +kernel
theorem dX4_readPlace_7 : decode cX4_readPlace 7 = .ok (.iconst 3, 1) := by decide +kernel
theorem dX4_readPlace_8 : decode cX4_readPlace 8 = .ok (.if_icmp .lt 10, 3) := by decide +kernel
theorem dX4_readPlace_11 : decode cX4_readPlace 11 = .ok (.aload_n 0, 1) := by decide +kernel
theorem dX4_readPlace_12 : decode cX4_readPlace 12 = .ok (.bipush (-15), 2) := by decide +kernel
theorem dX4_readPlace_14 : decode cX4_readPlace 14 = .ok (.invokevirtual 68, 3) := by decide +kernel
theorem dX4_readPlace_17 : decode cX4_readPlace 17 = .ok (.ireturn, 1) := by decide +kernel
theorem dX4_readPlace_18 : decode cX4_readPlace 18 = .ok (.aload_n 0, 1) := by decide +kernel
theorem dX4_readPlace_19 : decode cX4_readPlace 19 = .ok (.iconst 1, 1) := by decide +kernel
theorem dX4_readPlace_20 : decode cX4_readPlace 20 = .ok (.sipush 2000, 3) := by decide +kernel
theorem dX4_readPlace_23 : decode cX4_readPlace 23 = .ok (.invokevirtual 97, 3) := by decide +kernel
theorem dX4_readPlace_26 : decode cX4_readPlace 26 = .ok (.ifCond .ne 5, 3) := by decide +kernel
theorem dX4_readPlace_29 : decode cX4_readPlace 29 = .ok (.iconst 0, 1) := by decide +kernel
theorem dX4_readPlace_30 : decode cX4_readPlace 30 = .ok (.ireturn, 1) := by decide +kernel
theorem dX4_readPlace_31 : decode cX4_readPlace 31 = .ok (.aload_n 0, 1) := by decide +kernel
theorem dX4_readPlace_32 : decode cX4_readPlace 32 = .ok (.getfield 72, 3) := by decide +kernel
theorem dX4_readPlace_35 : decode cX4_readPlace 35 = .ok (.istore_n 1, 1) := by decide +kernel
theorem dX4_readPlace_36 : decode cX4_readPlace 36 = .ok (.aload_n 0, 1) := by decide +kernel
theorem dX4_readPlace_37 : decode cX4_readPlace 37 = .ok (.bipush 100, 2) := by decide +kernel
theorem dX4_readPlace_39 : decode cX4_readPlace 39 = .ok (.sipush 1500, 3) := by decide +kernel
theorem dX4_readPlace_42 : decode cX4_readPlace 42 = .ok (.invokevirtual 97, 3) := by decide +kernel
theorem dX4_readPlace_45 : decode cX4_readPlace 45 = .ok (.ifCond .ne 5, 3) := by decide +kernel
theorem dX4_readPlace_48 : decode cX4_readPlace 48 = .ok (.iconst 0, 1) := by decide +kernel
theorem dX4_readPlace_49 : decode cX4_readPlace 49 = .ok (.ireturn, 1) := by decide +kernel
theorem dX4_readPlace_50 : decode cX4_readPlace 50 = .ok (.aload_n 0, 1) := by decide +kernel
theorem dX4_readPlace_51 : decode cX4_readPlace 51 = .ok (.getfield 18, 3) := by decide +kernel
theorem dX4_readPlace_54 : decode cX4_readPlace 54 = .ok (.iload_n 1, 1) := by decide +kernel
theorem dX4_readPlace_55 : decode cX4_readPlace 55 = .ok (.aload_n 0, 1) := by decide +kernel
theorem dX4_readPlace_56 : decode cX4_readPlace 56 = .ok (.getfield 72, 3) := by decide +kernel
theorem dX4_readPlace_59 : decode cX4_readPlace 59 = .ok (.invokevirtual 115, 3) := by decide +kernel
theorem dX4_readPlace_62 : decode cX4_readPlace 62 = .ok (.iconst 1, 1) := by decide +kernel
theorem dX4_readPlace_63 : decode cX4_readPlace 63 = .ok (.ireturn, 1) := by decide +kernel
theorem dX4_readSetting_0 : decode cX4_readSetting 0 = .ok (.aload_n 0, 1) := by decide +kernel
theorem dX4_readSetting_1 : decode cX4_readSetting 1 = .ok (.invokevirtual 37, 3) := by decide +kernel
theorem dX4_readSetting_4 : decode cX4_readSetting 4 = .ok (.aload_n 0, 1) := by decide +kernel
theorem dX4_readSetting_5 : decode cX4_readSetting 5 = .ok (.getfield 40, 3) := by decide +kernel
theorem dX4_readSetting_8 : decode cX4_readSetting 8 = .ok (.iconst 1, 1) := by decide +kernel
theorem dX4_readSetting_9 : decode cX4_readSetting 9 = .ok (.if_icmp .ne 13, 3) := by decide +kernel
theorem dX4_readSetting_12 : decode cX4_readSetting 12 = .ok (.aload_n 0, 1) := by decide +kernel
theorem dX4_readSetting_13 : decode cX4_readSetting 13 = .ok (.getfield 72, 3) := by decide +kernel
theorem dX4_readSetting_16 : decode cX4_readSetting 16 = .ok (.invokestatic 119, 3) := by decide +kernel
theorem dX4_readSetting_19 : decode cX4_readSetting 19 = .ok (.goto 4, 3) := by decide +kernel
theorem dX4_readSetting_22 : decode cX4_readSetting 22 = .ok (.iconst (-1), 1) := by decide +kernel
theorem dX4_readSetting_23 : decode cX4_readSetting 23 = .ok (.istore_n 1, 1) := by decide +kernel
theorem dX4_readSetting_24 : decode cX4_readSetting 24 = .ok (.iload_n 1, 1) := by decide +kernel
theorem dX4_readSetting_25 : decode cX4_readSetting 25 = .ok (.iconst (-1), 1) := by decide +kernel
theorem dX4_readSetting_26 : decode cX4_readSetting 26 = .ok (.if_icmp .ne 10, 3) := by decide +kernel
theorem dX4_readSetting_29 : decode cX4_readSetting 29 = .ok (.aload_n 0, 1) := by decide +kernel
theorem dX4_readSetting_30 : decode cX4_readSetting 30 = .ok (.bipush (-11), 2) := by decide +kernel
theorem dX4_readSetting_32 : decode cX4_readSetting 32 = .ok (.invokevirtual 68, 3) := by decide +kernel
theorem dX4_readSetting_35 : decode cX4_readSetting 35 = .ok (.ireturn, 1) := by decide +kernel
theorem dX4_readSetting_36 : decode cX4_readSetting 36 = .ok (.aload_n 0, 1) := by decide +kernel
theorem dX4_readSetting_37 : decode cX4_readSetting 37 = .ok (.getfield 22, 3) := by decide +kernel
theorem dX4_readSetting_40 : decode cX4_readSetting 40 = .ok (.iload_n 1, 1) := by decide +kernel
theorem dX4_readSetting_41 : decode cX4_readSetting 41 = .ok (.baload, 1) := by decide +kernel
theorem dX4_readSetting_42 : decode cX4_readSetting 42 = .ok (.ifCond .eq 10, 3) := by decide +kernel
theorem dX4_readSetting_45 : decode cX4_readSetting 45 = .ok (.aload_n 0, 1) := by decide +kernel
theorem dX4_readSetting_46 : decode cX4_readSetting 46 = .ok (.bipush (-14), 2) := by decide +kernel
theorem dX4_readSetting_48 : decode cX4_readSetting 48 = .ok (.invokevirtual 68, 3) := by decide +kernel
theorem dX4_readSetting_51 : decode cX4_readSetting 51 = .ok (.ireturn, 1) := by decide +kernel
theorem dX4_readSetting_52 : decode cX4_readSetting 52 = .ok (.aload_n 0, 1) := by decide +kernel
theorem dX4_readSetting_53 : decode cX4_readSetting 53 = .ok (.getstatic 122, 3) := by decide +kernel
theorem dX4_readSetting_56 : decode cX4_readSetting 56 = .ok (.iload_n 1, 1) := by decide +kernel
theorem dX4_readSetting_57 : decode cX4_readSetting 57 = .ok (.iaload, 1) := by decide +kernel
theorem dX4_readSetting_58 : decode cX4_readSetting 58 = .ok (.getstatic 125, 3) := by decide +kernel
theorem dX4_readSetting_61 : decode cX4_readSetting 61 = .ok (.iload_n 1, 1) := by decide +kernel
theorem dX4_readSetting_62 : decode cX4_readSetting 62 = .ok (.iaload, 1) := by decide +kernel
theorem dX4_readSetting_63 : decode cX4_readSetting 63 = .ok (.invokevirtual 97, 3) := by decide +kernel
theorem dX4_readSetting_66 : decode cX4_readSetting 66 = .ok (.ifCond .ne 5, 3) := by decide +kernel
theorem dX4_readSetting_69 : decode cX4_readSetting 69 = .ok (.iconst 0, 1) := by decide +kernel
theorem dX4_readSetting_70 : decode cX4_readSetting 70 = .ok (.ireturn, 1) := by decide +kernel
theorem dX4_readSetting_71 : decode cX4_readSetting 71 = .ok (.aload_n 0, 1) := by decide +kernel
theorem dX4_readSetting_72 : decode cX4_readSetting 72 = .ok (.getfield 22, 3) := by decide +kernel
theorem dX4_readSetting_75 : decode cX4_readSetting 75 = .ok (.iload_n 1, 1) := by decide +kernel
theorem dX4_readSetting_76 : decode cX4_readSetting 76 = .ok (.iconst 1, 1) := by decide +kernel
theorem dX4_readSetting_77 : decode cX4_readSetting 77 = .ok (.bastore, 1) := by decide +kernel
theorem dX4_readSetting_78 : decode cX4_readSetting 78 = .ok (.aload_n 0, 1) := by decide +kernel
theorem dX4_readSetting_79 : decode cX4_readSetting 79 = .ok (.getfield 18, 3) := by decide +kernel
theorem dX4_readSetting_82 : decode cX4_readSetting 82 = .ok (.getfield 128, 3) := by decide +kernel
theorem dX4_readSetting_85 : decode cX4_readSetting 85 = .ok (.iload_n 1, 1) := by decide +kernel
theorem dX4_readSetting_86 : decode cX4_readSetting 86 = .ok (.aload_n 0, 1) := by decide +kernel
theorem dX4_readSetting_87 : decode cX4_readSetting 87 = .ok (.getfield 72, 3) := by decide +kernel
theorem dX4_readSetting_90 : decode cX4_readSetting 90 = .ok (.iastore, 1) := by decide +kernel
theorem dX4_readSetting_91 : decode cX4_readSetting 91 = .ok (.iconst 1, 1) := by decide +kernel
theorem dX4_readSetting_92 : decode cX4_readSetting 92 = .ok (.ireturn, 1) := by decide +kernel
theorem dX4_readStatement_0 : decode cX4_readStatement 0 = .ok (.aload_n 0, 1) := by decide +kernel
theorem dX4_readStatement_1 : decode cX4_readStatement 1 = .ok (.getfield 40, 3) := by decide +kernel
theorem dX4_readStatement_4 : decode cX4_readStatement 4 = .ok (.iconst 1, 1) := by decide +kernel
theorem dX4_readStatement_5 : decode cX4_readStatement 5 = .ok (.if_icmp .eq 10, 3) := by decide +kernel
theorem dX4_readStatement_8 : decode cX4_readStatement 8 = .ok (.aload_n 0, 1) := by decide +kernel
theorem dX4_readStatement_9 : decode cX4_readStatement 9 = .ok (.bipush (-11), 2) := by decide +kernel
theorem dX4_readStatement_11 : decode cX4_readStatement 11 = .ok (.invokevirtual 68, 3) := by decide +kernel
theorem dX4_readStatement_14 : decode cX4_readStatement 14 = .ok (.ireturn, 1) := by decide +kernel
theorem dX4_readStatement_15 : decode cX4_readStatement 15 = .ok (.aload_n 0, 1) := by decide +kernel
theorem dX4_readStatement_16 : decode cX4_readStatement 16 = .ok (.getfield 72, 3) := by decide +kernel
theorem dX4_readStatement_19 : decode cX4_readStatement 19 = .ok (.lookupswitch 61 #[(321370112, 41), (549489824, 51), (643432448, 56), (658685952, 46)], 41) := by decide +kernel
theorem dX4_readStatement_60 : decode cX4_readStatement 60 = .ok (.aload_n 0, 1) := by decide +kernel
theorem dX4_readStatement_61 : decode cX4_readStatement 61 = .ok (.invokevirtual 75, 3) := by decide +kernel
theorem dX4_readStatement_64 : decode cX4_readStatement 64 = .ok (.ireturn, 1) := by decide +kernel
theorem dX4_readStatement_65 : decode cX4_readStatement 65 = .ok (.aload_n 0, 1) := by decide +kernel
theorem dX4_readStatement_66 : decode cX4_readStatement 66 = .ok (.invokevirtual 78, 3) := by decide +kernel
theorem dX4_readStatement_69 : decode cX4_readStatement 69 = .ok (.ireturn, 1) := by decide +kernel
theorem dX4_readStatement_70 : decode cX4_readStatement 70 = .ok (.aload_n 0, 1) := by decide +kernel
theorem dX4_readStatement_71 : decode cX4_readStatement 71 = .ok (.invokevirtual 81, 3) := by decide +kernel
theorem dX4_readStatement_74 : decode cX4_readStatement 74 = .ok (.ireturn, 1) := by decide +kernel
theorem dX4_readStatement_75 : decode cX4_readStatement 75 = .ok (.aload_n 0, 1) := by decide +kernel
theorem dX4_readStatement_76 : decode cX4_readStatement 76 = .ok (.invokevirtual 84, 3) := by decide +kernel
theorem dX4_readStatement_79 : decode cX4_readStatement 79 = .ok (.ireturn, 1) := by decide +kernel
theorem dX4_readStatement_80 : decode cX4_readStatement 80 = .ok (.aload_n 0, 1) := by decide +kernel
theorem dX4_readStatement_81 : decode cX4_readStatement 81 = .ok (.bipush (-11), 2) := by decide +kernel
theorem dX4_readStatement_83 : decode cX4_readStatement 83 = .ok (.invokevirtual 68, 3) := by decide +kernel
theorem dX4_readStatement_86 : decode cX4_readStatement 86 = .ok (.ireturn, 1) := by decide +kernel
theorem dX4_readSemicolon_0 : decode cX4_readSemicolon 0 = .ok (.aload_n 0, 1) := by decide +kernel
theorem dX4_readSemicolon_1 : decode cX4_readSemicolon 1 = .ok (.invokevirtual 37, 3) := by decide +kernel
theorem dX4_readSemicolon_4 : decode cX4_readSemicolon 4 = .ok (.aload_n 0, 1) := by decide +kernel
theorem dX4_readSemicolon_5 : decode cX4_readSemicolon 5 = .ok (.getfield 40, 3) := by decide +kernel
theorem dX4_readSemicolon_8 : decode cX4_readSemicolon 8 = .ok (.iconst 3, 1) := by decide +kernel
theorem dX4_readSemicolon_9 : decode cX4_readSemicolon 9 = .ok (.if_icmp .eq 12, 3) := by decide +kernel
theorem dX4_readSemicolon_12 : decode cX4_readSemicolon 12 = .ok (.aload_n 0, 1) := by decide +kernel
theorem dX4_readSemicolon_13 : decode cX4_readSemicolon 13 = .ok (.bipush (-11), 2) := by decide +kernel
theorem dX4_readSemicolon_15 : decode cX4_readSemicolon 15 = .ok (.invokevirtual 68, 3) := by decide +kernel
theorem dX4_readSemicolon_18 : decode cX4_readSemicolon 18 = .ok (.ifCond .eq 7, 3) := by decide +kernel
theorem dX4_readSemicolon_21 : decode cX4_readSemicolon 21 = .ok (.iconst 1, 1) := by decide +kernel
theorem dX4_readSemicolon_22 : decode cX4_readSemicolon 22 = .ok (.goto 4, 3) := by decide +kernel
theorem dX4_readSemicolon_25 : decode cX4_readSemicolon 25 = .ok (.iconst 0, 1) := by decide +kernel
theorem dX4_readSemicolon_26 : decode cX4_readSemicolon 26 = .ok (.ireturn, 1) := by decide +kernel
theorem dX4_readText_0 : decode cX4_readText 0 = .ok (.aload_n 0, 1) := by decide +kernel
theorem dX4_readText_1 : decode cX4_readText 1 = .ok (.iload_n 1, 1) := by decide +kernel
theorem dX4_readText_2 : decode cX4_readText 2 = .ok (.invokevirtual 33, 3) := by decide +kernel
theorem dX4_readText_5 : decode cX4_readText 5 = .ok (.iconst 0, 1) := by decide +kernel
theorem dX4_readText_6 : decode cX4_readText 6 = .ok (.istore_n 2, 1) := by decide +kernel
theorem dX4_readText_7 : decode cX4_readText 7 = .ok (.aload_n 0, 1) := by decide +kernel
theorem dX4_readText_8 : decode cX4_readText 8 = .ok (.invokevirtual 37, 3) := by decide +kernel
theorem dX4_readText_11 : decode cX4_readText 11 = .ok (.aload_n 0, 1) := by decide +kernel
theorem dX4_readText_12 : decode cX4_readText 12 = .ok (.getfield 40, 3) := by decide +kernel
theorem dX4_readText_15 : decode cX4_readText 15 = .ok (.ifCond .eq 37, 3) := by decide +kernel
theorem dX4_readText_18 : decode cX4_readText 18 = .ok (.iload_n 2, 1) := by decide +kernel
theorem dX4_readText_19 : decode cX4_readText 19 = .ok (.iload_n 1, 1) := by decide +kernel
theorem dX4_readText_20 : decode cX4_readText 20 = .ok (.if_icmp .ge 32, 3) := by decide +kernel
theorem dX4_readText_23 : decode cX4_readText 23 = .ok (.aload_n 0, 1) := by decide +kernel
theorem dX4_readText_24 : decode cX4_readText 24 = .ok (.invokevirtual 43, 3) := by decide +kernel
theorem dX4_readText_27 : decode cX4_readText 27 = .ok (.ifCond .eq 10, 3) := by decide +kernel
theorem dX4_readText_30 : decode cX4_readText 30 = .ok (.aload_n 0, 1) := by decide +kernel
theorem dX4_readText_31 : decode cX4_readText 31 = .ok (.invokevirtual 47, 3) := by decide +kernel
theorem dX4_readText_34 : decode cX4_readText 34 = .ok (.ifCond .ne 8, 3) := by decide +kernel
theorem dX4_readText_37 : decode cX4_readText 37 = .ok (.aload_n 0, 1) := by decide +kernel
theorem dX4_readText_38 : decode cX4_readText 38 = .ok (.getfield 50, 3) := by decide +kernel
theorem dX4_readText_41 : decode cX4_readText 41 = .ok (.ireturn, 1) := by decide +kernel
theorem dX4_readText_42 : decode cX4_readText 42 = .ok (.iinc 2 1, 3) := by decide +kernel
theorem dX4_readText_45 : decode cX4_readText 45 = .ok (.aload_n 0, 1) := by decide +kernel
theorem dX4_readText_46 : decode cX4_readText 46 = .ok (.invokevirtual 37, 3) := by decide +kernel
theorem dX4_readText_49 : decode cX4_readText 49 = .ok (.goto (-38), 3) := by decide +kernel
theorem dX4_readText_52 : decode cX4_readText 52 = .ok (.iload_n 2, 1) := by decide +kernel
theorem dX4_readText_53 : decode cX4_readText 53 = .ok (.ireturn, 1) := by decide +kernel
