theorem dX13_init_0 : decode cX13_init 0 = .ok (.aload_n 0, 1) := by decide +kernel
theorem dX13_init_1 : decode cX13_init 1 = .ok (.invokespecial 1, 3) := by decide +kernel
theorem dX13_init_4 : decode cX13_init 4 = .ok (.aload_n 0, 1) := by decide +kernel
theorem dX13_init_5 : decode cX13_init 5 = .ok (.sipush 152, 3) := by decide +kernel
theorem dX13_init_8 : decode cX13_init 8 = .ok (.newarray .int, 2) := by decide +kernel
theorem dX13_init_10 : decode cX13_init 10 = .ok (.putfield 7, 3) := by decide +kernel
theorem dX13_init_13 : decode cX13_init 13 = .ok (.aload_n 0, 1) := by decide +kernel
theorem dX13_init_14 : decode cX13_init 14 = .ok (.sipush 1216, 3) := by decide +kernel
theorem dX13_init_17 : decode cX13_init 17 = .ok (.newarray .int, 2) := by decide +kernel
theorem dX13_init_19 : decode cX13_init 19 = .ok (.putfield 13, 3) := by decide +kernel
theorem dX13_init_22 : decode cX13_init 22 = .ok (.aload_n 0, 1) := by decide +kernel
theorem dX13_init_23 : decode cX13_init 23 = .ok (.sipush 152, 3) := by decide +kernel
theorem dX13_init_26 : decode cX13_init 26 = .ok (.newarray .int, 2) := by decide +kernel
theorem dX13_init_28 : decode cX13_init 28 = .ok (.putfield 16, 3) := by decide +kernel
theorem dX13_init_31 : decode cX13_init 31 = .ok (.aload_n 0, 1) := by decide +kernel
theorem dX13_init_32 : decode cX13_init 32 = .ok (.sipush 152, 3) := by decide +kernel
theorem dX13_init_35 : decode cX13_init 35 = .ok (.newarray .int, 2) := by decide +kernel
theorem dX13_init_37 : decode cX13_init 37 = .ok (.putfield 19, 3) := by decide +kernel
theorem dX13_init_40 : decode cX13_init 40 = .ok (.aload_n 0, 1) := by decide +kernel
theorem dX13_init_41 : decode cX13_init 41 = .ok (.sipush 152, 3) := by decide +kernel
theorem dX13_init_44 : decode cX13_init 44 = .ok (.newarray .int, 2) := by decide +kernel
theorem dX13_init_46 : decode cX13_init 46 = .ok (.putfield 22, 3) := by decide +kernel
theorem dX13_init_49 : decode cX13_init 49 = .ok (.aload_n 0, 1) := by decide +kernel
theorem dX13_init_50 : decode cX13_init 50 = .ok (.bipush 60, 2) := by decide +kernel
theorem dX13_init_52 : decode cX13_init 52 = .ok (.newarray .int, 2) := by decide +kernel
theorem dX13_init_54 : decode cX13_init 54 = .ok (.putfield 25, 3) := by decide +kernel
theorem dX13_init_57 : decode cX13_init 57 = .ok (.aload_n 0, 1) := by decide +kernel
theorem dX13_init_58 : decode cX13_init 58 = .ok (.iconst (-1), 1) := by decide +kernel
theorem dX13_init_59 : decode cX13_init 59 = .ok (.putfield 28, 3) := by decide +kernel
theorem dX13_init_62 : decode cX13_init 62 = .ok (.aload_n 0, 1) := by decide +kernel
theorem dX13_init_63 : decode cX13_init 63 = .ok (.bipush 60, 2) := by decide +kernel
theorem dX13_init_65 : decode cX13_init 65 = .ok (.newarray .char, 2) := by decide +kernel
theorem dX13_init_67 : decode cX13_init 67 = .ok (.putfield 32, 3) := by decide +kernel
theorem dX13_init_70 : decode cX13_init 70 = .ok (.aload_n 0, 1) := by decide +kernel
theorem dX13_init_71 : decode cX13_init 71 = .ok (.bipush 36, 2) := by decide +kernel
theorem dX13_init_73 : decode cX13_init 73 = .ok (.newarray .int, 2) := by decide +kernel
theorem dX13_init_75 : decode cX13_init 75 = .ok (.putfield 36, 3) := by decide +kernel
theorem dX13_init_78 : decode cX13_init 78 = .ok (.aload_n 0, 1) := by decide +kernel
theorem dX13_init_79 : decode cX13_init 79 = .ok (.bipush 36, 2) := by decide +kernel
theorem dX13_init_81 : decode cX13_init 81 = .ok (.newarray .int, 2) := by decide +kernel
theorem dX13_init_83 : decode cX13_init 83 = .ok (.putfield 39, 3) := by decide +kernel
theorem dX13_init_86 : decode cX13_init 86 = .ok (.aload_n 0, 1) := by decide +kernel
theorem dX13_init_87 : decode cX13_init 87 = .ok (.bipush 36, 2) := by decide +kernel
theorem dX13_init_89 : decode cX13_init 89 = .ok (.newarray .int, 2) := by decide +kernel
theorem dX13_init_91 : decode cX13_init 91 = .ok (.putfield 42, 3) := by decide +kernel
theorem dX13_init_94 : decode cX13_init 94 = .ok (.aload_n 0, 1) := by decide +kernel
theorem dX13_init_95 : decode cX13_init 95 = .ok (.bipush 124, 2) := by decide +kernel
theorem dX13_init_97 : decode cX13_init 97 = .ok (.newarray .int, 2) := by decide +kernel
theorem dX13_init_99 : decode cX13_init 99 = .ok (.putfield 45, 3) := by decide +kernel
theorem dX13_init_102 : decode cX13_init 102 = .ok (.iconst 0, 1) := by decide +kernel
theorem dX13_init_103 : decode cX13_init 103 = .ok (.istore_n 1, 1) := by decide +kernel
theorem dX13_init_104 : decode cX13_init 104 = .ok (.iload_n 1, 1) := by decide +kernel
theorem dX13_init_105 : decode cX13_init 105 = .ok (.bipush 36, 2) := by decide +kernel
theorem dX13_init_107 : decode cX13_init 107 = .ok (.if_icmp .ge 19, 3) := by decide +kernel
theorem dX13_init_110 : decode cX13_init 110 = .ok (.aload_n 0, 1) := by decide +kernel
theorem dX13_init_111 : decode cX13_init 111 = .ok (.getfield 7, 3) := by decide +kernel
theorem dX13_init_114 : decode cX13_init 114 = .ok (.iconst 4, 1) := by decide +kernel
theorem dX13_init_115 : decode cX13_init 115 = .ok (.iload_n 1, 1) := by decide +kernel
theorem dX13_init_116 : decode cX13_init 116 = .ok (.iadd, 1) := by decide +kernel
theorem dX13_init_117 : decode cX13_init 117 = .ok (.bipush 50, 2) := by decide +kernel
theorem dX13_init_119 : decode cX13_init 119 = .ok (.iastore, 1) := by decide +kernel
theorem dX13_init_120 : decode cX13_init 120 = .ok (.iinc 1 1, 3) := by decide +kernel
theorem dX13_init_123 : decode cX13_init 123 = .ok (.goto (-19), 3) := by decide +kernel
theorem dX13_init_126 : decode cX13_init 126 = .ok (.return_, 1) := by decide +kernel
theorem dX13_thrown_0 : decode cX13_thrown 0 = .ok (.aload_n 0, 1) := by decide +kernel
theorem dX13_thrown_1 : decode cX13_thrown 1 = .ok (.getfield 48, 3) := by decide +kernel
theorem dX13_thrown_4 : decode cX13_thrown 4 = .ok (.ireturn, 1) := by decide +kernel
theorem dX13_fails_0 : decode cX13_fails 0 = .ok (.aload_n 0, 1) := by decide +kernel
theorem dX13_fails_1 : decode cX13_fails 1 = .ok (.iload_n 1, 1) := by decide +kernel
theorem dX13_fails_2 : decode cX13_fails 2 = .ok (.putfield 48, 3) := by decide +kernel
theorem dX13_fails_5 : decode cX13_fails 5 = .ok (.aload_n 0, 1) := by decide +kernel
theorem dX13_fails_6 : decode cX13_fails 6 = .ok (.iconst 0, 1) := by decide +kernel
theorem dX13_fails_7 : decode cX13_fails 7 = .ok (.putfield 51, 3) := by decide +kernel
theorem dX13_fails_10 : decode cX13_fails 10 = .ok (.iload_n 1, 1) := by decide +kernel
theorem dX13_fails_11 : decode cX13_fails 11 = .ok (.ifCond .le 7, 3) := by decide +kernel
theorem dX13_fails_14 : decode cX13_fails 14 = .ok (.iconst 1, 1) := by decide +kernel
theorem dX13_fails_15 : decode cX13_fails 15 = .ok (.goto 4, 3) := by decide +kernel
theorem dX13_fails_18 : decode cX13_fails 18 = .ok (.iconst 0, 1) := by decide +kernel
theorem dX13_fails_19 : decode cX13_fails 19 = .ok (.ireturn, 1) := by decide +kernel
theorem dX13_denies_0 : decode cX13_denies 0 = .ok (.aload_n 0, 1) := by decide +kernel
theorem dX13_denies_1 : decode cX13_denies 1 = .ok (.iload_n 1, 1) := by decide +kernel
theorem dX13_denies_2 : decode cX13_denies 2 = .ok (.putfield 48, 3) := by decide +kernel
theorem dX13_denies_5 : decode cX13_denies 5 = .ok (.aload_n 0, 1) := by decide +kernel
theorem dX13_denies_6 : decode cX13_denies 6 = .ok (.iconst 1, 1) := by decide +kernel
theorem dX13_denies_7 : decode cX13_denies 7 = .ok (.putfield 51, 3) := by decide +kernel
theorem dX13_denies_10 : decode cX13_denies 10 = .ok (.aload_n 0, 1) := by decide +kernel
theorem dX13_denies_11 : decode cX13_denies 11 = .ok (.iload_n 2, 1) := by decide +kernel
theorem dX13_denies_12 : decode cX13_denies 12 = .ok (.putfield 55, 3) := by decide +kernel
theorem dX13_denies_15 : decode cX13_denies 15 = .ok (.aload_n 0, 1) := by decide +kernel
theorem dX13_denies_16 : decode cX13_denies 16 = .ok (.iload_n 3, 1) := by decide +kernel
theorem dX13_denies_17 : decode cX13_denies 17 = .ok (.putfield 58, 3) := by decide +kernel
theorem dX13_denies_20 : decode cX13_denies 20 = .ok (.aload_n 0, 1) := by decide +kernel
theorem dX13_denies_21 : decode cX13_denies 21 = .ok (.iconst 0, 1) := by decide +kernel
theorem dX13_denies_22 : decode cX13_denies 22 = .ok (.putfield 61, 3) := by decide +kernel
theorem dX13_denies_25 : decode cX13_denies 25 = .ok (.iconst 0, 1) := by decide +kernel
theorem dX13_denies_26 : decode cX13_denies 26 = .ok (.ireturn, 1) := by decide +kernel
theorem dX13_in_0 : decode cX13_in 0 = .ok (.iload_n 0, 1) := by decide +kernel
theorem dX13_in_1 : decode cX13_in 1 = .ok (.iload_n 1, 1) := by decide +kernel
theorem dX13_in_2 : decode cX13_in 2 = .ok (.if_icmp .lt 12, 3) := by decide +kernel
theorem dX13_in_5 : decode cX13_in 5 = .ok (.iload_n 0, 1) := by decide +kernel
theorem dX13_in_6 : decode cX13_in 6 = .ok (.iload_n 2, 1) := by decide +kernel
theorem dX13_in_7 : decode cX13_in 7 = .ok (.if_icmp .gt 7, 3) := by decide +kernel
theorem dX13_in_10 : decode cX13_in 10 = .ok (.iconst 1, 1) := by decide +kernel
theorem dX13_in_11 : decode cX13_in 11 = .ok (.goto 4, 3) := by decide +kernel
theorem dX13_in_14 : decode cX13_in 14 = .ok (.iconst 0, 1) := by decide +kernel
theorem dX13_in_15 : decode cX13_in 15 = .ok (.ireturn, 1) := by decide +kernel
theorem dX13_size_0 : decode cX13_size 0 = .ok (.iload_n 0, 1) := by decide +kernel
theorem dX13_size_1 : decode cX13_size 1 = .ok (.ifCond .ge 8, 3) := by decide +kernel
theorem dX13_size_4 : decode cX13_size 4 = .ok (.iload_n 0, 1) := by decide +kernel
theorem dX13_size_5 : decode cX13_size 5 = .ok (.ineg, 1) := by decide +kernel
theorem dX13_size_6 : decode cX13_size 6 = .ok (.goto 4, 3) := by decide +kernel
theorem dX13_size_9 : decode cX13_size 9 = .ok (.iload_n 0, 1) := by decide +kernel
theorem dX13_size_10 : decode cX13_size 10 = .ok (.ireturn, 1) := by decide +kernel
theorem dX13_greater_0 : decode cX13_greater 0 = .ok (.iload_n 0, 1) := by decide +kernel
theorem dX13_greater_1 : decode cX13_greater 1 = .ok (.iload_n 1, 1) := by decide +kernel
theorem dX13_greater_2 : decode cX13_greater 2 = .ok (.if_icmp .le 7, 3) := by decide +kernel
theorem dX13_greater_5 : decode cX13_greater 5 = .ok (.iload_n 0, 1) := by decide +kernel
theorem dX13_greater_6 : decode cX13_greater 6 = .ok (.goto 4, 3) := by decide +kernel
theorem dX13_greater_9 : decode cX13_greater 9 = .ok (.iload_n 1, 1) := by decide +kernel
theorem dX13_greater_10 : decode cX13_greater 10 = .ok (.ireturn, 1) := by decide +kernel
theorem dX13_copies_0 : decode cX13_copies 0 = .ok (.iconst 0, 1) := by decide +kernel
theorem dX13_copies_1 : decode cX13_copies 1 = .ok (.istore 4, 2) := by decide +kernel
theorem dX13_copies_3 : decode cX13_copies 3 = .ok (.iload 4, 2) := by decide +kernel
theorem dX13_copies_5 : decode cX13_copies 5 = .ok (.sipush 152, 3) := by decide +kernel
theorem dX13_copies_8 : decode cX13_copies 8 = .ok (.if_icmp .ge 21, 3) := by decide +kernel
theorem dX13_copies_11 : decode cX13_copies 11 = .ok (.aload_n 2, 1) := by decide +kernel
theorem dX13_copies_12 : decode cX13_copies 12 = .ok (.iload_n 3, 1) := by decide +kernel
theorem dX13_copies_13 : decode cX13_copies 13 = .ok (.iload 4, 2) := by decide +kernel
theorem dX13_copies_15 : decode cX13_copies 15 = .ok (.iadd, 1) := by decide +kernel
theorem dX13_copies_16 : decode cX13_copies 16 = .ok (.aload_n 0, 1) := by decide +kernel
theorem dX13_copies_17 : decode cX13_copies 17 = .ok (.iload_n 1, 1) := by decide +kernel
theorem dX13_copies_18 : decode cX13_copies 18 = .ok (.iload 4, 2) := by decide +kernel
theorem dX13_copies_20 : decode cX13_copies 20 = .ok (.iadd, 1) := by decide +kernel
theorem dX13_copies_21 : decode cX13_copies 21 = .ok (.iaload, 1) := by decide +kernel
theorem dX13_copies_22 : decode cX13_copies 22 = .ok (.iastore, 1) := by decide +kernel
theorem dX13_copies_23 : decode cX13_copies 23 = .ok (.iinc 4 1, 3) := by decide +kernel
theorem dX13_copies_26 : decode cX13_copies 26 = .ok (.goto (-23), 3) := by decide +kernel
theorem dX13_copies_29 : decode cX13_copies 29 = .ok (.return_, 1) := by decide +kernel
theorem dX13_keeps_0 : decode cX13_keeps 0 = .ok (.aload_n 0, 1) := by decide +kernel
theorem dX13_keeps_1 : decode cX13_keeps 1 = .ok (.iconst 0, 1) := by decide +kernel
theorem dX13_keeps_2 : decode cX13_keeps 2 = .ok (.putfield 48, 3) := by decide +kernel
theorem dX13_keeps_5 : decode cX13_keeps 5 = .ok (.aload_n 0, 1) := by decide +kernel
theorem dX13_keeps_6 : decode cX13_keeps 6 = .ok (.getfield 64, 3) := by decide +kernel
theorem dX13_keeps_9 : decode cX13_keeps 9 = .ok (.ifCond .eq 4, 3) := by decide +kernel
theorem dX13_keeps_12 : decode cX13_keeps 12 = .ok (.return_, 1) := by decide +kernel
theorem dX13_keeps_13 : decode cX13_keeps 13 = .ok (.aload_n 0, 1) := by decide +kernel
theorem dX13_keeps_14 : decode cX13_keeps 14 = .ok (.getfield 67, 3) := by decide +kernel
theorem dX13_keeps_17 : decode cX13_keeps 17 = .ok (.bipush 8, 2) := by decide +kernel
theorem dX13_keeps_19 : decode cX13_keeps 19 = .ok (.if_icmp .ne 44, 3) := by decide +kernel
theorem dX13_keeps_22 : decode cX13_keeps 22 = .ok (.iconst 0, 1) := by decide +kernel
theorem dX13_keeps_23 : decode cX13_keeps 23 = .ok (.istore_n 2, 1) := by decide +kernel
theorem dX13_keeps_24 : decode cX13_keeps 24 = .ok (.iload_n 2, 1) := by decide +kernel
theorem dX13_keeps_25 : decode cX13_keeps 25 = .ok (.sipush 1064, 3) := by decide +kernel
theorem dX13_keeps_28 : decode cX13_keeps 28 = .ok (.if_icmp .ge 25, 3) := by decide +kernel
theorem dX13_keeps_31 : decode cX13_keeps 31 = .ok (.aload_n 0, 1) := by decide +kernel
theorem dX13_keeps_32 : decode cX13_keeps 32 = .ok (.getfield 13, 3) := by decide +kernel
theorem dX13_keeps_35 : decode cX13_keeps 35 = .ok (.iload_n 2, 1) := by decide +kernel
theorem dX13_keeps_36 : decode cX13_keeps 36 = .ok (.aload_n 0, 1) := by decide +kernel
theorem dX13_keeps_37 : decode cX13_keeps 37 = .ok (.getfield 13, 3) := by decide +kernel
theorem dX13_keeps_40 : decode cX13_keeps 40 = .ok (.iload_n 2, 1) := by decide +kernel
theorem dX13_keeps_41 : decode cX13_keeps 41 = .ok (.sipush 152, 3) := by decide +kernel
theorem dX13_keeps_44 : decode cX13_keeps 44 = .ok (.iadd, 1) := by decide +kernel
theorem dX13_keeps_45 : decode cX13_keeps 45 = .ok (.iaload, 1) := by decide +kernel
theorem dX13_keeps_46 : decode cX13_keeps 46 = .ok (.iastore, 1) := by decide +kernel
theorem dX13_keeps_47 : decode cX13_keeps 47 = .ok (.iinc 2 1, 3) := by decide +kernel
theorem dX13_keeps_50 : decode cX13_keeps 50 = .ok (.goto (-26), 3) := by decide +kernel
theorem dX13_keeps_53 : decode cX13_keeps 53 = .ok (.aload_n 0, 1) := by decide +kernel
theorem dX13_keeps_54 : decode cX13_keeps 54 = .ok (.dup, 1) := by decide +kernel
theorem dX13_keeps_55 : decode cX13_keeps 55 = .ok (.getfield 67, 3) := by decide +kernel
theorem dX13_keeps_58 : decode cX13_keeps 58 = .ok (.iconst 1, 1) := by decide +kernel
theorem dX13_keeps_59 : decode cX13_keeps 59 = .ok (.isub, 1) := by decide +kernel
theorem dX13_keeps_60 : decode cX13_keeps 60 = .ok (.putfield 67, 3) := by decide +kernel
theorem dX13_keeps_63 : decode cX13_keeps 63 = .ok (.aload_n 1, 1) := by decide +kernel
theorem dX13_keeps_64 : decode cX13_keeps 64 = .ok (.iconst 0, 1) := by decide +kernel
theorem dX13_keeps_65 : decode cX13_keeps 65 = .ok (.aload_n 0, 1) := by decide +kernel
theorem dX13_keeps_66 : decode cX13_keeps 66 = .ok (.getfield 13, 3) := by decide +kernel
theorem dX13_keeps_69 : decode cX13_keeps 69 = .ok (.sipush 152, 3) := by decide +kernel
theorem dX13_keeps_72 : decode cX13_keeps 72 = .ok (.aload_n 0, 1) := by decide +kernel
theorem dX13_keeps_73 : decode cX13_keeps 73 = .ok (.getfield 67, 3) := by decide +kernel
theorem dX13_keeps_76 : decode cX13_keeps 76 = .ok (.imul, 1) := by decide +kernel
theorem dX13_keeps_77 : decode cX13_keeps 77 = .ok (.invokestatic 70, 3) := by decide +kernel
theorem dX13_keeps_80 : decode cX13_keeps 80 = .ok (.aload_n 0, 1) := by decide +kernel
theorem dX13_keeps_81 : decode cX13_keeps 81 = .ok (.dup, 1) := by decide +kernel
theorem dX13_keeps_82 : decode cX13_keeps 82 = .ok (.getfield 67, 3) := by decide +kernel
theorem dX13_keeps_85 : decode cX13_keeps 85 = .ok (.iconst 1, 1) := by decide +kernel
theorem dX13_keeps_86 : decode cX13_keeps 86 = .ok (.iadd, 1) := by decide +kernel
theorem dX13_keeps_87 : decode cX13_keeps 87 = .ok (.putfield 67, 3) := by decide +kernel
theorem dX13_keeps_90 : decode cX13_keeps 90 = .ok (.return_, 1) := by decide +kernel
theorem dX13_isCell_0 : decode cX13_isCell 0 = .ok (.iload_n 0, 1) := by decide +kernel
theorem dX13_isCell_1 : decode cX13_isCell 1 = .ok (.iconst 0, 1) := by decide +kernel
theorem dX13_isCell_2 : decode cX13_isCell 2 = .ok (.iconst 5, 1) := by decide +kernel
theorem dX13_isCell_3 : decode cX13_isCell 3 = .ok (.invokestatic 74, 3) := by decide +kernel
theorem dX13_isCell_6 : decode cX13_isCell 6 = .ok (.ifCond .eq 16, 3) := by decide +kernel
theorem dX13_isCell_9 : decode cX13_isCell 9 = .ok (.iload_n 1, 1) := by decide +kernel
theorem dX13_isCell_10 : decode cX13_isCell 10 = .ok (.iconst 0, 1) := by decide +kernel
theorem dX13_isCell_11 : decode cX13_isCell 11 = .ok (.iconst 5, 1) := by decide +kernel
theorem dX13_isCell_12 : decode cX13_isCell 12 = .ok (.invokestatic 74, 3) := by decide +kernel
theorem dX13_isCell_15 : decode cX13_isCell 15 = .ok (.ifCond .eq 7, 3) := by decide +kernel
theorem dX13_isCell_18 : decode cX13_isCell 18 = .ok (.iconst 1, 1) := by decide +kernel
theorem dX13_isCell_19 : decode cX13_isCell 19 = .ok (.goto 4, 3) := by decide +kernel
theorem dX13_isCell_22 : decode cX13_isCell 22 = .ok (.iconst 0, 1) := by decide +kernel
theorem dX13_isCell_23 : decode cX13_isCell 23 = .ok (.ireturn, 1) := by decide +kernel
theorem dX13_isNone_0 : decode cX13_isNone 0 = .ok (.aload_n 0, 1) := by decide +kernel
theorem dX13_isNone_1 : decode cX13_isNone 1 = .ok (.iload_n 1, 1) := by decide +kernel
theorem dX13_isNone_2 : decode cX13_isNone 2 = .ok (.iload_n 2, 1) := by decide +kernel
theorem dX13_isNone_3 : decode cX13_isNone 3 = .ok (.invokestatic 78, 3) := by decide +kernel
theorem dX13_isNone_6 : decode cX13_isNone 6 = .ok (.ifCond .eq 7, 3) := by decide +kernel
theorem dX13_isNone_9 : decode cX13_isNone 9 = .ok (.iconst 0, 1) := by decide +kernel
theorem dX13_isNone_10 : decode cX13_isNone 10 = .ok (.goto 4, 3) := by decide +kernel
theorem dX13_isNone_13 : decode cX13_isNone 13 = .ok (.iconst 1, 1) := by decide +kernel
theorem dX13_isNone_14 : decode cX13_isNone 14 = .ok (.invokevirtual 82, 3) := by decide +kernel
theorem dX13_isNone_17 : decode cX13_isNone 17 = .ok (.ireturn, 1) := by decide +kernel
theorem dX13_beside_0 : decode cX13_beside 0 = .ok (.iload_n 0, 1) := by decide +kernel
theorem dX13_beside_1 : decode cX13_beside 1 = .ok (.bipush 6, 2) := by decide +kernel
theorem dX13_beside_3 : decode cX13_beside 3 = .ok (.idiv, 1) := by decide +kernel
theorem dX13_beside_4 : decode cX13_beside 4 = .ok (.iload_n 1, 1) := by decide +kernel
theorem dX13_beside_5 : decode cX13_beside 5 = .ok (.ifCond .ne 7, 3) := by decide +kernel
theorem dX13_beside_8 : decode cX13_beside 8 = .ok (.iconst (-1), 1) := by decide +kernel
theorem dX13_beside_9 : decode cX13_beside 9 = .ok (.goto 13, 3) := by decide +kernel
theorem dX13_beside_12 : decode cX13_beside 12 = .ok (.iload_n 1, 1) := by decide +kernel
theorem dX13_beside_13 : decode cX13_beside 13 = .ok (.iconst 2, 1) := by decide +kernel
theorem dX13_beside_14 : decode cX13_beside 14 = .ok (.if_icmp .ne 7, 3) := by decide +kernel
theorem dX13_beside_17 : decode cX13_beside 17 = .ok (.iconst 1, 1) := by decide +kernel
theorem dX13_beside_18 : decode cX13_beside 18 = .ok (.goto 4, 3) := by decide +kernel
theorem dX13_beside_21 : decode cX13_beside 21 = .ok (.iconst 0, 1) := by decide +kernel
theorem dX13_beside_22 : decode cX13_beside 22 = .ok (.iadd, 1) := by decide +kernel
theorem dX13_beside_23 : decode cX13_beside 23 = .ok (.istore_n 2, 1) := by decide +kernel
theorem dX13_beside_24 : decode cX13_beside 24 = .ok (.iload_n 0, 1) := by decide +kernel
theorem dX13_beside_25 : decode cX13_beside 25 = .ok (.bipush 6, 2) := by decide +kernel
theorem dX13_beside_27 : decode cX13_beside 27 = .ok (.irem, 1) := by decide +kernel
theorem dX13_beside_28 : decode cX13_beside 28 = .ok (.iload_n 1, 1) := by decide +kernel
theorem dX13_beside_29 : decode cX13_beside 29 = .ok (.iconst 1, 1) := by decide +kernel
theorem dX13_beside_30 : decode cX13_beside 30 = .ok (.if_icmp .ne 7, 3) := by decide +kernel
theorem dX13_beside_33 : decode cX13_beside 33 = .ok (.iconst 1, 1) := by decide +kernel
theorem dX13_beside_34 : decode cX13_beside 34 = .ok (.goto 13, 3) := by decide +kernel
theorem dX13_beside_37 : decode cX13_beside 37 = .ok (.iload_n 1, 1) := by decide +kernel
theorem dX13_beside_38 : decode cX13_beside 38 = .ok (.iconst 3, 1) := by decide +kernel
theorem dX13_beside_39 : decode cX13_beside 39 = .ok (.if_icmp .ne 7, 3) := by decide +kernel
theorem dX13_beside_42 : decode cX13_beside 42 = .ok (.iconst (-1), 1) := by decide +kernel
theorem dX13_beside_43 : decode cX13_beside 43 = .ok (.goto 4, 3) := by decide +kernel
theorem dX13_beside_46 : decode cX13_beside 46 = .ok (.iconst 0, 1) := by decide +kernel
theorem dX13_beside_47 : decode cX13_beside 47 = .ok (.iadd, 1) := by decide +kernel
theorem dX13_beside_48 : decode cX13_beside 48 = .ok (.istore_n 3, 1) := by decide +kernel
theorem dX13_beside_49 : decode cX13_beside 49 = .ok (.iload_n 2, 1) := by decide +kernel
theorem dX13_beside_50 : decode cX13_beside 50 = .ok (.iload_n 3, 1) := by decide +kernel
theorem dX13_beside_51 : decode cX13_beside 51 = .ok (.invokestatic 78, 3) := by decide +kernel
theorem dX13_beside_54 : decode cX13_beside 54 = .ok (.ifCond .eq 12, 3) := by decide +kernel
theorem dX13_beside_57 : decode cX13_beside 57 = .ok (.bipush 6, 2) := by decide +kernel
theorem dX13_beside_59 : decode cX13_beside 59 = .ok (.iload_n 2, 1) := by decide +kernel
theorem dX13_beside_60 : decode cX13_beside 60 = .ok (.imul, 1) := by decide +kernel
theorem dX13_beside_61 : decode cX13_beside 61 = .ok (.iload_n 3, 1) := by decide +kernel
theorem dX13_beside_62 : decode cX13_beside 62 = .ok (.iadd, 1) := by decide +kernel
theorem dX13_beside_63 : decode cX13_beside 63 = .ok (.goto 4, 3) := by decide +kernel
theorem dX13_beside_66 : decode cX13_beside 66 = .ok (.iconst (-1), 1) := by decide +kernel
theorem dX13_beside_67 : decode cX13_beside 67 = .ok (.ireturn, 1) := by decide +kernel
theorem dX13_high_0 : decode cX13_high 0 = .ok (.aload_n 0, 1) := by decide +kernel
theorem dX13_high_1 : decode cX13_high 1 = .ok (.getfield 7, 3) := by decide +kernel
theorem dX13_high_4 : decode cX13_high 4 = .ok (.iconst 4, 1) := by decide +kernel
theorem dX13_high_5 : decode cX13_high 5 = .ok (.iload_n 1, 1) := by decide +kernel
theorem dX13_high_6 : decode cX13_high 6 = .ok (.iadd, 1) := by decide +kernel
theorem dX13_high_7 : decode cX13_high 7 = .ok (.iaload, 1) := by decide +kernel
theorem dX13_high_8 : decode cX13_high 8 = .ok (.ireturn, 1) := by decide +kernel
theorem dX13_isHole_0 : decode cX13_isHole 0 = .ok (.aload_n 0, 1) := by decide +kernel
theorem dX13_isHole_1 : decode cX13_isHole 1 = .ok (.getfield 7, 3) := by decide +kernel
theorem dX13_isHole_4 : decode cX13_isHole 4 = .ok (.bipush 40, 2) := by decide +kernel
theorem dX13_isHole_6 : decode cX13_isHole 6 = .ok (.iload_n 1, 1) := by decide +kernel
theorem dX13_isHole_7 : decode cX13_isHole 7 = .ok (.iadd, 1) := by decide +kernel
theorem dX13_isHole_8 : decode cX13_isHole 8 = .ok (.iaload, 1) := by decide +kernel
theorem dX13_isHole_9 : decode cX13_isHole 9 = .ok (.iconst 3, 1) := by decide +kernel
theorem dX13_isHole_10 : decode cX13_isHole 10 = .ok (.if_icmp .ne 7, 3) := by decide +kernel
theorem dX13_isHole_13 : decode cX13_isHole 13 = .ok (.iconst 1, 1) := by decide +kernel
theorem dX13_isHole_14 : decode cX13_isHole 14 = .ok (.goto 4, 3) := by decide +kernel
theorem dX13_isHole_17 : decode cX13_isHole 17 = .ok (.iconst 0, 1) := by decide +kernel
theorem dX13_isHole_18 : decode cX13_isHole 18 = .ok (.ireturn, 1) := by decide +kernel
theorem dX13_pegs_0 : decode cX13_pegs 0 = .ok (.iconst 0, 1) := by decide +kernel
theorem dX13_pegs_1 : decode cX13_pegs 1 = .ok (.istore_n 1, 1) := by decide +kernel
theorem dX13_pegs_2 : decode cX13_pegs 2 = .ok (.iconst 0, 1) := by decide +kernel
theorem dX13_pegs_3 : decode cX13_pegs 3 = .ok (.istore_n 2, 1) := by decide +kernel
theorem dX13_pegs_4 : decode cX13_pegs 4 = .ok (.iload_n 2, 1) := by decide +kernel
theorem dX13_pegs_5 : decode cX13_pegs 5 = .ok (.bipush 36, 2) := by decide +kernel
theorem dX13_pegs_7 : decode cX13_pegs 7 = .ok (.if_icmp .ge 21, 3) := by decide +kernel
theorem dX13_pegs_10 : decode cX13_pegs 10 = .ok (.iload_n 1, 1) := by decide +kernel
theorem dX13_pegs_11 : decode cX13_pegs 11 = .ok (.aload_n 0, 1) := by decide +kernel
theorem dX13_pegs_12 : decode cX13_pegs 12 = .ok (.getfield 7, 3) := by decide +kernel
theorem dX13_pegs_15 : decode cX13_pegs 15 = .ok (.bipush 76, 2) := by decide +kernel
theorem dX13_pegs_17 : decode cX13_pegs 17 = .ok (.iload_n 2, 1) := by decide +kernel
theorem dX13_pegs_18 : decode cX13_pegs 18 = .ok (.iadd, 1) := by decide +kernel
theorem dX13_pegs_19 : decode cX13_pegs 19 = .ok (.iaload, 1) := by decide +kernel
theorem dX13_pegs_20 : decode cX13_pegs 20 = .ok (.iadd, 1) := by decide +kernel
theorem dX13_pegs_21 : decode cX13_pegs 21 = .ok (.istore_n 1, 1) := by decide +kernel
theorem dX13_pegs_22 : decode cX13_pegs 22 = .ok (.iinc 2 1, 3) := by decide +kernel
theorem dX13_pegs_25 : decode cX13_pegs 25 = .ok (.goto (-21), 3) := by decide +kernel
theorem dX13_pegs_28 : decode cX13_pegs 28 = .ok (.iload_n 1, 1) := by decide +kernel
theorem dX13_pegs_29 : decode cX13_pegs 29 = .ok (.ireturn, 1) := by decide +kernel
theorem dX13_holesNow_0 : decode cX13_holesNow 0 = .ok (.iconst 0, 1) := by decide +kernel
theorem dX13_holesNow_1 : decode cX13_holesNow 1 = .ok (.istore_n 1, 1) := by decide +kernel
theorem dX13_holesNow_2 : decode cX13_holesNow 2 = .ok (.iconst 0, 1) := by decide +kernel
theorem dX13_holesNow_3 : decode cX13_holesNow 3 = .ok (.istore_n 2, 1) := by decide +kernel
theorem dX13_holesNow_4 : decode cX13_holesNow 4 = .ok (.iload_n 2, 1) := by decide +kernel
theorem dX13_holesNow_5 : decode cX13_holesNow 5 = .ok (.bipush 36, 2) := by decide +kernel
theorem dX13_holesNow_7 : decode cX13_holesNow 7 = .ok (.if_icmp .ge 25, 3) := by decide +kernel
theorem dX13_holesNow_10 : decode cX13_holesNow 10 = .ok (.iload_n 1, 1) := by decide +kernel
theorem dX13_holesNow_11 : decode cX13_holesNow 11 = .ok (.aload_n 0, 1) := by decide +kernel
theorem dX13_holesNow_12 : decode cX13_holesNow 12 = .ok (.iload_n 2, 1) := by decide +kernel
theorem dX13_holesNow_13 : decode cX13_holesNow 13 = .ok (.invokevirtual 86, 3) := by decide +kernel
theorem dX13_holesNow_16 : decode cX13_holesNow 16 = .ok (.ifCond .eq 7, 3) := by decide +kernel
theorem dX13_holesNow_19 : decode cX13_holesNow 19 = .ok (.iconst 1, 1) := by decide +kernel
theorem dX13_holesNow_20 : decode cX13_holesNow 20 = .ok (.goto 4, 3) := by decide +kernel
theorem dX13_holesNow_23 : decode cX13_holesNow 23 = .ok (.iconst 0, 1) := by decide +kernel
theorem dX13_holesNow_24 : decode cX13_holesNow 24 = .ok (.iadd, 1) := by decide +kernel
theorem dX13_holesNow_25 : decode cX13_holesNow 25 = .ok (.istore_n 1, 1) := by decide +kernel
theorem dX13_holesNow_26 : decode cX13_holesNow 26 = .ok (.iinc 2 1, 3) := by decide +kernel
theorem dX13_holesNow_29 : decode cX13_holesNow 29 = .ok (.goto (-25), 3) := by decide +kernel
theorem dX13_holesNow_32 : decode cX13_holesNow 32 = .ok (.iload_n 1, 1) := by decide +kernel
theorem dX13_holesNow_33 : decode cX13_holesNow 33 = .ok (.ireturn, 1) := by decide +kernel
theorem dX13_setHeight_0 : decode cX13_setHeight 0 = .ok (.aload_n 0, 1) := by decide +kernel
theorem dX13_setHeight_1 : decode cX13_setHeight 1 = .ok (.iload_n 1, 1) := by decide +kernel
theorem dX13_setHeight_2 : decode cX13_setHeight 2 = .ok (.iload_n 2, 1) := by decide +kernel
theorem dX13_setHeight_3 : decode cX13_setHeight 3 = .ok (.invokevirtual 89, 3) := by decide +kernel
theorem dX13_setHeight_6 : decode cX13_setHeight 6 = .ok (.ifCond .ne 25, 3) := by decide +kernel
theorem dX13_setHeight_9 : decode cX13_setHeight 9 = .ok (.aload_n 0, 1) := by decide +kernel
theorem dX13_setHeight_10 : decode cX13_setHeight 10 = .ok (.iload_n 3, 1) := by decide +kernel
theorem dX13_setHeight_11 : decode cX13_setHeight 11 = .ok (.iconst 0, 1) := by decide +kernel
theorem dX13_setHeight_12 : decode cX13_setHeight 12 = .ok (.bipush 99, 2) := by decide +kernel
theorem dX13_setHeight_14 : decode cX13_setHeight 14 = .ok (.invokestatic 74, 3) := by decide +kernel
theorem dX13_setHeight_17 : decode cX13_setHeight 17 = .ok (.ifCond .eq 7, 3) := by decide +kernel
theorem dX13_setHeight_20 : decode cX13_setHeight 20 = .ok (.iconst 0, 1) := by decide +kernel
theorem dX13_setHeight_21 : decode cX13_setHeight 21 = .ok (.goto 4, 3) := by decide +kernel
theorem dX13_setHeight_24 : decode cX13_setHeight 24 = .ok (.iconst 2, 1) := by decide +kernel
theorem dX13_setHeight_25 : decode cX13_setHeight 25 = .ok (.invokevirtual 82, 3) := by decide +kernel
theorem dX13_setHeight_28 : decode cX13_setHeight 28 = .ok (.ifCond .eq 5, 3) := by decide +kernel
theorem dX13_setHeight_31 : decode cX13_setHeight 31 = .ok (.iconst 0, 1) := by decide +kernel
theorem dX13_setHeight_32 : decode cX13_setHeight 32 = .ok (.ireturn, 1) := by decide +kernel
theorem dX13_setHeight_33 : decode cX13_setHeight 33 = .ok (.bipush 6, 2) := by decide +kernel
theorem dX13_setHeight_35 : decode cX13_setHeight 35 = .ok (.iload_n 1, 1) := by decide +kernel
theorem dX13_setHeight_36 : decode cX13_setHeight 36 = .ok (.imul, 1) := by decide +kernel
theorem dX13_setHeight_37 : decode cX13_setHeight 37 = .ok (.iload_n 2, 1) := by decide +kernel
theorem dX13_setHeight_38 : decode cX13_setHeight 38 = .ok (.iadd, 1) := by decide +kernel
theorem dX13_setHeight_39 : decode cX13_setHeight 39 = .ok (.istore 4, 2) := by decide +kernel
theorem dX13_setHeight_41 : decode cX13_setHeight 41 = .ok (.aload_n 0, 1) := by decide +kernel
theorem dX13_setHeight_42 : decode cX13_setHeight 42 = .ok (.iload 4, 2) := by decide +kernel
theorem dX13_setHeight_44 : decode cX13_setHeight 44 = .ok (.invokevirtual 92, 3) := by decide +kernel
theorem dX13_setHeight_47 : decode cX13_setHeight 47 = .ok (.istore 5, 2) := by decide +kernel
theorem dX13_setHeight_49 : decode cX13_setHeight 49 = .ok (.iload 5, 2) := by decide +kernel
theorem dX13_setHeight_51 : decode cX13_setHeight 51 = .ok (.iload_n 3, 1) := by decide +kernel
theorem dX13_setHeight_52 : decode cX13_setHeight 52 = .ok (.if_icmp .ne 12, 3) := by decide +kernel
theorem dX13_setHeight_55 : decode cX13_setHeight 55 = .ok (.aload_n 0, 1) := by decide +kernel
theorem dX13_setHeight_56 : decode cX13_setHeight 56 = .ok (.iconst 3, 1) := by decide +kernel
theorem dX13_setHeight_57 : decode cX13_setHeight 57 = .ok (.bipush 6, 2) := by decide +kernel
theorem dX13_setHeight_59 : decode cX13_setHeight 59 = .ok (.iload_n 3, 1) := by decide +kernel
theorem dX13_setHeight_60 : decode cX13_setHeight 60 = .ok (.invokevirtual 96, 3) := by decide +kernel
theorem dX13_setHeight_63 : decode cX13_setHeight 63 = .ok (.ireturn, 1) := by decide +kernel
theorem dX13_setHeight_64 : decode cX13_setHeight 64 = .ok (.aload_n 0, 1) := by decide +kernel
theorem dX13_setHeight_65 : decode cX13_setHeight 65 = .ok (.aload_n 0, 1) := by decide +kernel
theorem dX13_setHeight_66 : decode cX13_setHeight 66 = .ok (.getfield 7, 3) := by decide +kernel
theorem dX13_setHeight_69 : decode cX13_setHeight 69 = .ok (.invokevirtual 100, 3) := by decide +kernel
theorem dX13_setHeight_72 : decode cX13_setHeight 72 = .ok (.aload_n 0, 1) := by decide +kernel
theorem dX13_setHeight_73 : decode cX13_setHeight 73 = .ok (.getfield 7, 3) := by decide +kernel
theorem dX13_setHeight_76 : decode cX13_setHeight 76 = .ok (.iconst 4, 1) := by decide +kernel
theorem dX13_setHeight_77 : decode cX13_setHeight 77 = .ok (.iload 4, 2) := by decide +kernel
theorem dX13_setHeight_79 : decode cX13_setHeight 79 = .ok (.iadd, 1) := by decide +kernel
theorem dX13_setHeight_80 : decode cX13_setHeight 80 = .ok (.iload_n 3, 1) := by decide +kernel
theorem dX13_setHeight_81 : decode cX13_setHeight 81 = .ok (.iastore, 1) := by decide +kernel
theorem dX13_setHeight_82 : decode cX13_setHeight 82 = .ok (.iload 5, 2) := by decide +kernel
theorem dX13_setHeight_84 : decode cX13_setHeight 84 = .ok (.ireturn, 1) := by decide +kernel
theorem dX13_pins_0 : decode cX13_pins 0 = .ok (.aload_n 0, 1) := by decide +kernel
theorem dX13_pins_1 : decode cX13_pins 1 = .ok (.iload_n 1, 1) := by decide +kernel
theorem dX13_pins_2 : decode cX13_pins 2 = .ok (.iload_n 2, 1) := by decide +kernel
theorem dX13_pins_3 : decode cX13_pins 3 = .ok (.invokevirtual 89, 3) := by decide +kernel
theorem dX13_pins_6 : decode cX13_pins 6 = .ok (.ifCond .eq 5, 3) := by decide +kernel
theorem dX13_pins_9 : decode cX13_pins 9 = .ok (.iconst 0, 1) := by decide +kernel
theorem dX13_pins_10 : decode cX13_pins 10 = .ok (.ireturn, 1) := by decide +kernel
theorem dX13_pins_11 : decode cX13_pins 11 = .ok (.bipush 6, 2) := by decide +kernel
theorem dX13_pins_13 : decode cX13_pins 13 = .ok (.iload_n 1, 1) := by decide +kernel
theorem dX13_pins_14 : decode cX13_pins 14 = .ok (.imul, 1) := by decide +kernel
theorem dX13_pins_15 : decode cX13_pins 15 = .ok (.iload_n 2, 1) := by decide +kernel
theorem dX13_pins_16 : decode cX13_pins 16 = .ok (.iadd, 1) := by decide +kernel
theorem dX13_pins_17 : decode cX13_pins 17 = .ok (.istore 4, 2) := by decide +kernel
theorem dX13_pins_19 : decode cX13_pins 19 = .ok (.aload_n 0, 1) := by decide +kernel
theorem dX13_pins_20 : decode cX13_pins 20 = .ok (.getfield 7, 3) := by decide +kernel
theorem dX13_pins_23 : decode cX13_pins 23 = .ok (.bipush 76, 2) := by decide +kernel
theorem dX13_pins_25 : decode cX13_pins 25 = .ok (.iload 4, 2) := by decide +kernel
theorem dX13_pins_27 : decode cX13_pins 27 = .ok (.iadd, 1) := by decide +kernel
theorem dX13_pins_28 : decode cX13_pins 28 = .ok (.iaload, 1) := by decide +kernel
theorem dX13_pins_29 : decode cX13_pins 29 = .ok (.iload_n 3, 1) := by decide +kernel
theorem dX13_pins_30 : decode cX13_pins 30 = .ok (.if_icmp .ne 14, 3) := by decide +kernel
theorem dX13_pins_33 : decode cX13_pins 33 = .ok (.aload_n 0, 1) := by decide +kernel
theorem dX13_pins_34 : decode cX13_pins 34 = .ok (.iconst 2, 1) := by decide +kernel
theorem dX13_pins_35 : decode cX13_pins 35 = .ok (.iconst 2, 1) := by decide +kernel
theorem dX13_pins_36 : decode cX13_pins 36 = .ok (.aload_n 0, 1) := by decide +kernel
theorem dX13_pins_37 : decode cX13_pins 37 = .ok (.invokevirtual 104, 3) := by decide +kernel
theorem dX13_pins_40 : decode cX13_pins 40 = .ok (.invokevirtual 96, 3) := by decide +kernel
theorem dX13_pins_43 : decode cX13_pins 43 = .ok (.ireturn, 1) := by decide +kernel
theorem dX13_pins_44 : decode cX13_pins 44 = .ok (.aload_n 0, 1) := by decide +kernel
theorem dX13_pins_45 : decode cX13_pins 45 = .ok (.aload_n 0, 1) := by decide +kernel
theorem dX13_pins_46 : decode cX13_pins 46 = .ok (.getfield 7, 3) := by decide +kernel
theorem dX13_pins_49 : decode cX13_pins 49 = .ok (.invokevirtual 100, 3) := by decide +kernel
theorem dX13_pins_52 : decode cX13_pins 52 = .ok (.aload_n 0, 1) := by decide +kernel
theorem dX13_pins_53 : decode cX13_pins 53 = .ok (.getfield 7, 3) := by decide +kernel
theorem dX13_pins_56 : decode cX13_pins 56 = .ok (.bipush 76, 2) := by decide +kernel
theorem dX13_pins_58 : decode cX13_pins 58 = .ok (.iload 4, 2) := by decide +kernel
theorem dX13_pins_60 : decode cX13_pins 60 = .ok (.iadd, 1) := by decide +kernel
theorem dX13_pins_61 : decode cX13_pins 61 = .ok (.iload_n 3, 1) := by decide +kernel
theorem dX13_pins_62 : decode cX13_pins 62 = .ok (.iastore, 1) := by decide +kernel
theorem dX13_pins_63 : decode cX13_pins 63 = .ok (.aload_n 0, 1) := by decide +kernel
theorem dX13_pins_64 : decode cX13_pins 64 = .ok (.invokevirtual 104, 3) := by decide +kernel
theorem dX13_pins_67 : decode cX13_pins 67 = .ok (.ireturn, 1) := by decide +kernel
theorem dX13_peg_0 : decode cX13_peg 0 = .ok (.aload_n 0, 1) := by decide +kernel
theorem dX13_peg_1 : decode cX13_peg 1 = .ok (.iload_n 1, 1) := by decide +kernel
theorem dX13_peg_2 : decode cX13_peg 2 = .ok (.iload_n 2, 1) := by decide +kernel
theorem dX13_peg_3 : decode cX13_peg 3 = .ok (.iconst 1, 1) := by decide +kernel
theorem dX13_peg_4 : decode cX13_peg 4 = .ok (.invokevirtual 108, 3) := by decide +kernel
theorem dX13_peg_7 : decode cX13_peg 7 = .ok (.ireturn, 1) := by decide +kernel
theorem dX13_unpeg_0 : decode cX13_unpeg 0 = .ok (.aload_n 0, 1) := by decide +kernel
theorem dX13_unpeg_1 : decode cX13_unpeg 1 = .ok (.iload_n 1, 1) := by decide +kernel
theorem dX13_unpeg_2 : decode cX13_unpeg 2 = .ok (.iload_n 2, 1) := by decide +kernel
theorem dX13_unpeg_3 : decode cX13_unpeg 3 = .ok (.iconst 0, 1) := by decide +kernel
theorem dX13_unpeg_4 : decode cX13_unpeg 4 = .ok (.invokevirtual 108, 3) := by decide +kernel
theorem dX13_unpeg_7 : decode cX13_unpeg 7 = .ok (.ireturn, 1) := by decide +kernel
theorem dX13_drape_0 : decode cX13_drape 0 = .ok (.aload_n 0, 1) := by decide +kernel
theorem dX13_drape_1 : decode cX13_drape 1 = .ok (.aload_n 0, 1) := by decide +kernel
theorem dX13_drape_2 : decode cX13_drape 2 = .ok (.getfield 7, 3) := by decide +kernel
theorem dX13_drape_5 : decode cX13_drape 5 = .ok (.invokevirtual 100, 3) := by decide +kernel
theorem dX13_drape_8 : decode cX13_drape 8 = .ok (.aload_n 0, 1) := by decide +kernel
theorem dX13_drape_9 : decode cX13_drape 9 = .ok (.getfield 7, 3) := by decide +kernel
theorem dX13_drape_12 : decode cX13_drape 12 = .ok (.iconst 0, 1) := by decide +kernel
theorem dX13_drape_13 : decode cX13_drape 13 = .ok (.aload_n 0, 1) := by decide +kernel
theorem dX13_drape_14 : decode cX13_drape 14 = .ok (.getfield 22, 3) := by decide +kernel
theorem dX13_drape_17 : decode cX13_drape 17 = .ok (.iconst 0, 1) := by decide +kernel
theorem dX13_drape_18 : decode cX13_drape 18 = .ok (.invokestatic 70, 3) := by decide +kernel
theorem dX13_drape_21 : decode cX13_drape 21 = .ok (.iconst 0, 1) := by decide +kernel
theorem dX13_drape_22 : decode cX13_drape 22 = .ok (.istore_n 1, 1) := by decide +kernel
theorem dX13_drape_23 : decode cX13_drape 23 = .ok (.iconst 0, 1) := by decide +kernel
theorem dX13_drape_24 : decode cX13_drape 24 = .ok (.istore_n 2, 1) := by decide +kernel
theorem dX13_drape_25 : decode cX13_drape 25 = .ok (.iload_n 2, 1) := by decide +kernel
theorem dX13_drape_26 : decode cX13_drape 26 = .ok (.bipush 36, 2) := by decide +kernel
theorem dX13_drape_28 : decode cX13_drape 28 = .ok (.if_icmp .ge 124, 3) := by decide +kernel
theorem dX13_drape_31 : decode cX13_drape 31 = .ok (.aload_n 0, 1) := by decide +kernel
theorem dX13_drape_32 : decode cX13_drape 32 = .ok (.getfield 7, 3) := by decide +kernel
theorem dX13_drape_35 : decode cX13_drape 35 = .ok (.bipush 76, 2) := by decide +kernel
theorem dX13_drape_37 : decode cX13_drape 37 = .ok (.iload_n 2, 1) := by decide +kernel
theorem dX13_drape_38 : decode cX13_drape 38 = .ok (.iadd, 1) := by decide +kernel
theorem dX13_drape_39 : decode cX13_drape 39 = .ok (.iaload, 1) := by decide +kernel
theorem dX13_drape_40 : decode cX13_drape 40 = .ok (.iconst 1, 1) := by decide +kernel
theorem dX13_drape_41 : decode cX13_drape 41 = .ok (.if_icmp .ne 6, 3) := by decide +kernel
theorem dX13_drape_44 : decode cX13_drape 44 = .ok (.goto 102, 3) := by decide +kernel
theorem dX13_drape_47 : decode cX13_drape 47 = .ok (.iconst 2, 1) := by decide +kernel
theorem dX13_drape_48 : decode cX13_drape 48 = .ok (.aload_n 0, 1) := by decide +kernel
theorem dX13_drape_49 : decode cX13_drape 49 = .ok (.getfield 22, 3) := by decide +kernel
theorem dX13_drape_52 : decode cX13_drape 52 = .ok (.iconst 4, 1) := by decide +kernel
theorem dX13_drape_53 : decode cX13_drape 53 = .ok (.iload_n 2, 1) := by decide +kernel
theorem dX13_drape_54 : decode cX13_drape 54 = .ok (.iadd, 1) := by decide +kernel
theorem dX13_drape_55 : decode cX13_drape 55 = .ok (.iaload, 1) := by decide +kernel
theorem dX13_drape_56 : decode cX13_drape 56 = .ok (.imul, 1) := by decide +kernel
theorem dX13_drape_57 : decode cX13_drape 57 = .ok (.istore_n 3, 1) := by decide +kernel
theorem dX13_drape_58 : decode cX13_drape 58 = .ok (.iconst 2, 1) := by decide +kernel
theorem dX13_drape_59 : decode cX13_drape 59 = .ok (.istore 4, 2) := by decide +kernel
theorem dX13_drape_61 : decode cX13_drape 61 = .ok (.iconst 0, 1) := by decide +kernel
theorem dX13_drape_62 : decode cX13_drape 62 = .ok (.istore 5, 2) := by decide +kernel
theorem dX13_drape_64 : decode cX13_drape 64 = .ok (.iload 5, 2) := by decide +kernel
theorem dX13_drape_66 : decode cX13_drape 66 = .ok (.iconst 4, 1) := by decide +kernel
theorem dX13_drape_67 : decode cX13_drape 67 = .ok (.if_icmp .ge 40, 3) := by decide +kernel
theorem dX13_drape_70 : decode cX13_drape 70 = .ok (.iload_n 2, 1) := by decide +kernel
theorem dX13_drape_71 : decode cX13_drape 71 = .ok (.iload 5, 2) := by decide +kernel
theorem dX13_drape_73 : decode cX13_drape 73 = .ok (.invokestatic 111, 3) := by decide +kernel
theorem dX13_drape_76 : decode cX13_drape 76 = .ok (.ifCond .ge 6, 3) := by decide +kernel
theorem dX13_drape_79 : decode cX13_drape 79 = .ok (.goto 22, 3) := by decide +kernel
theorem dX13_drape_82 : decode cX13_drape 82 = .ok (.iload_n 3, 1) := by decide +kernel
theorem dX13_drape_83 : decode cX13_drape 83 = .ok (.aload_n 0, 1) := by decide +kernel
theorem dX13_drape_84 : decode cX13_drape 84 = .ok (.getfield 22, 3) := by decide +kernel
theorem dX13_drape_87 : decode cX13_drape 87 = .ok (.iconst 4, 1) := by decide +kernel
theorem dX13_drape_88 : decode cX13_drape 88 = .ok (.iload_n 2, 1) := by decide +kernel
theorem dX13_drape_89 : decode cX13_drape 89 = .ok (.iload 5, 2) := by decide +kernel
theorem dX13_drape_91 : decode cX13_drape 91 = .ok (.invokestatic 111, 3) := by decide +kernel
theorem dX13_drape_94 : decode cX13_drape 94 = .ok (.iadd, 1) := by decide +kernel
theorem dX13_drape_95 : decode cX13_drape 95 = .ok (.iaload, 1) := by decide +kernel
theorem dX13_drape_96 : decode cX13_drape 96 = .ok (.iadd, 1) := by decide +kernel
theorem dX13_drape_97 : decode cX13_drape 97 = .ok (.istore_n 3, 1) := by decide +kernel
theorem dX13_drape_98 : decode cX13_drape 98 = .ok (.iinc 4 1, 3) := by decide +kernel
theorem dX13_drape_101 : decode cX13_drape 101 = .ok (.iinc 5 1, 3) := by decide +kernel
theorem dX13_drape_104 : decode cX13_drape 104 = .ok (.goto (-40), 3) := by decide +kernel
theorem dX13_drape_107 : decode cX13_drape 107 = .ok (.aload_n 0, 1) := by decide +kernel
theorem dX13_drape_108 : decode cX13_drape 108 = .ok (.getfield 7, 3) := by decide +kernel
theorem dX13_drape_111 : decode cX13_drape 111 = .ok (.iconst 4, 1) := by decide +kernel
theorem dX13_drape_112 : decode cX13_drape 112 = .ok (.iload_n 2, 1) := by decide +kernel
theorem dX13_drape_113 : decode cX13_drape 113 = .ok (.iadd, 1) := by decide +kernel
theorem dX13_drape_114 : decode cX13_drape 114 = .ok (.iload_n 3, 1) := by decide +kernel
theorem dX13_drape_115 : decode cX13_drape 115 = .ok (.iload 4, 2) := by decide +kernel
theorem dX13_drape_117 : decode cX13_drape 117 = .ok (.idiv, 1) := by decide +kernel
theorem dX13_drape_118 : decode cX13_drape 118 = .ok (.iastore, 1) := by decide +kernel
theorem dX13_drape_119 : decode cX13_drape 119 = .ok (.iload_n 1, 1) := by decide +kernel
theorem dX13_drape_120 : decode cX13_drape 120 = .ok (.aload_n 0, 1) := by decide +kernel
theorem dX13_drape_121 : decode cX13_drape 121 = .ok (.getfield 7, 3) := by decide +kernel
theorem dX13_drape_124 : decode cX13_drape 124 = .ok (.iconst 4, 1) := by decide +kernel
theorem dX13_drape_125 : decode cX13_drape 125 = .ok (.iload_n 2, 1) := by decide +kernel
theorem dX13_drape_126 : decode cX13_drape 126 = .ok (.iadd, 1) := by decide +kernel
theorem dX13_drape_127 : decode cX13_drape 127 = .ok (.iaload, 1) := by decide +kernel
theorem dX13_drape_128 : decode cX13_drape 128 = .ok (.aload_n 0, 1) := by decide +kernel
theorem dX13_drape_129 : decode cX13_drape 129 = .ok (.getfield 22, 3) := by decide +kernel
theorem dX13_drape_132 : decode cX13_drape 132 = .ok (.iconst 4, 1) := by decide +kernel
theorem dX13_drape_133 : decode cX13_drape 133 = .ok (.iload_n 2, 1) := by decide +kernel
theorem dX13_drape_134 : decode cX13_drape 134 = .ok (.iadd, 1) := by decide +kernel
theorem dX13_drape_135 : decode cX13_drape 135 = .ok (.iaload, 1) := by decide +kernel
theorem dX13_drape_136 : decode cX13_drape 136 = .ok (.if_icmp .ne 7, 3) := by decide +kernel
theorem dX13_drape_139 : decode cX13_drape 139 = .ok (.iconst 0, 1) := by decide +kernel
theorem dX13_drape_140 : decode cX13_drape 140 = .ok (.goto 4, 3) := by decide +kernel
theorem dX13_drape_143 : decode cX13_drape 143 = .ok (.iconst 1, 1) := by decide +kernel
theorem dX13_drape_144 : decode cX13_drape 144 = .ok (.iadd, 1) := by decide +kernel
theorem dX13_drape_145 : decode cX13_drape 145 = .ok (.istore_n 1, 1) := by decide +kernel
theorem dX13_drape_146 : decode cX13_drape 146 = .ok (.iinc 2 1, 3) := by decide +kernel
theorem dX13_drape_149 : decode cX13_drape 149 = .ok (.goto (-124), 3) := by decide +kernel
theorem dX13_drape_152 : decode cX13_drape 152 = .ok (.iload_n 1, 1) := by decide +kernel
theorem dX13_drape_153 : decode cX13_drape 153 = .ok (.ireturn, 1) := by decide +kernel
theorem dX13_height_0 : decode cX13_height 0 = .ok (.aload_n 0, 1) := by decide +kernel
theorem dX13_height_1 : decode cX13_height 1 = .ok (.iload_n 1, 1) := by decide +kernel
theorem dX13_height_2 : decode cX13_height 2 = .ok (.iload_n 2, 1) := by decide +kernel
theorem dX13_height_3 : decode cX13_height 3 = .ok (.invokevirtual 89, 3) := by decide +kernel
theorem dX13_height_6 : decode cX13_height 6 = .ok (.ifCond .eq 7, 3) := by decide +kernel
theorem dX13_height_9 : decode cX13_height 9 = .ok (.iconst 0, 1) := by decide +kernel
theorem dX13_height_10 : decode cX13_height 10 = .ok (.goto 13, 3) := by decide +kernel
theorem dX13_height_13 : decode cX13_height 13 = .ok (.aload_n 0, 1) := by decide +kernel
theorem dX13_height_14 : decode cX13_height 14 = .ok (.bipush 6, 2) := by decide +kernel
theorem dX13_height_16 : decode cX13_height 16 = .ok (.iload_n 1, 1) := by decide +kernel
theorem dX13_height_17 : decode cX13_height 17 = .ok (.imul, 1) := by decide +kernel
theorem dX13_height_18 : decode cX13_height 18 = .ok (.iload_n 2, 1) := by decide +kernel
theorem dX13_height_19 : decode cX13_height 19 = .ok (.iadd, 1) := by decide +kernel
theorem dX13_height_20 : decode cX13_height 20 = .ok (.invokevirtual 92, 3) := by decide +kernel
theorem dX13_height_23 : decode cX13_height 23 = .ok (.ireturn, 1) := by decide +kernel
theorem dX13_isPegged_0 : decode cX13_isPegged 0 = .ok (.aload_n 0, 1) := by decide +kernel
theorem dX13_isPegged_1 : decode cX13_isPegged 1 = .ok (.iload_n 1, 1) := by decide +kernel
theorem dX13_isPegged_2 : decode cX13_isPegged 2 = .ok (.iload_n 2, 1) := by decide +kernel
theorem dX13_isPegged_3 : decode cX13_isPegged 3 = .ok (.invokevirtual 89, 3) := by decide +kernel
theorem dX13_isPegged_6 : decode cX13_isPegged 6 = .ok (.ifCond .ne 25, 3) := by decide +kernel
theorem dX13_isPegged_9 : decode cX13_isPegged 9 = .ok (.aload_n 0, 1) := by decide +kernel
theorem dX13_isPegged_10 : decode cX13_isPegged 10 = .ok (.getfield 7, 3) := by decide +kernel
theorem dX13_isPegged_13 : decode cX13_isPegged 13 = .ok (.bipush 76, 2) := by decide +kernel
theorem dX13_isPegged_15 : decode cX13_isPegged 15 = .ok (.bipush 6, 2) := by decide +kernel
theorem dX13_isPegged_17 : decode cX13_isPegged 17 = .ok (.iload_n 1, 1) := by decide +kernel
theorem dX13_isPegged_18 : decode cX13_isPegged 18 = .ok (.imul, 1) := by decide +kernel
theorem dX13_isPegged_19 : decode cX13_isPegged 19 = .ok (.iadd, 1) := by decide +kernel
theorem dX13_isPegged_20 : decode cX13_isPegged 20 = .ok (.iload_n 2, 1) := by decide +kernel
theorem dX13_isPegged_21 : decode cX13_isPegged 21 = .ok (.iadd, 1) := by decide +kernel
theorem dX13_isPegged_22 : decode cX13_isPegged 22 = .ok (.iaload, 1) := by decide +kernel
theorem dX13_isPegged_23 : decode cX13_isPegged 23 = .ok (.iconst 1, 1) := by decide +kernel
theorem dX13_isPegged_24 : decode cX13_isPegged 24 = .ok (.if_icmp .ne 7, 3) := by decide +kernel
theorem dX13_isPegged_27 : decode cX13_isPegged 27 = .ok (.iconst 1, 1) := by decide +kernel
theorem dX13_isPegged_28 : decode cX13_isPegged 28 = .ok (.goto 4, 3) := by decide +kernel
theorem dX13_isPegged_31 : decode cX13_isPegged 31 = .ok (.iconst 0, 1) := by decide +kernel
theorem dX13_isPegged_32 : decode cX13_isPegged 32 = .ok (.ireturn, 1) := by decide +kernel
theorem dX13_ranked_0 : decode cX13_ranked 0 = .ok (.iconst 0, 1) := by decide +kernel
theorem dX13_ranked_1 : decode cX13_ranked 1 = .ok (.istore_n 2, 1) := by decide +kernel
theorem dX13_ranked_2 : decode cX13_ranked 2 = .ok (.iload_n 2, 1) := by decide +kernel
theorem dX13_ranked_3 : decode cX13_ranked 3 = .ok (.bipush 36, 2) := by decide +kernel
theorem dX13_ranked_5 : decode cX13_ranked 5 = .ok (.if_icmp .ge 84, 3) := by decide +kernel
theorem dX13_ranked_8 : decode cX13_ranked 8 = .ok (.iconst 0, 1) := by decide +kernel
theorem dX13_ranked_9 : decode cX13_ranked 9 = .ok (.istore_n 3, 1) := by decide +kernel
theorem dX13_ranked_10 : decode cX13_ranked 10 = .ok (.iconst 0, 1) := by decide +kernel
theorem dX13_ranked_11 : decode cX13_ranked 11 = .ok (.istore 4, 2) := by decide +kernel
theorem dX13_ranked_13 : decode cX13_ranked 13 = .ok (.iload 4, 2) := by decide +kernel
theorem dX13_ranked_15 : decode cX13_ranked 15 = .ok (.bipush 36, 2) := by decide +kernel
theorem dX13_ranked_17 : decode cX13_ranked 17 = .ok (.if_icmp .ge 51, 3) := by decide +kernel
theorem dX13_ranked_20 : decode cX13_ranked 20 = .ok (.iload_n 3, 1) := by decide +kernel
theorem dX13_ranked_21 : decode cX13_ranked 21 = .ok (.aload_n 0, 1) := by decide +kernel
theorem dX13_ranked_22 : decode cX13_ranked 22 = .ok (.iload 4, 2) := by decide +kernel
theorem dX13_ranked_24 : decode cX13_ranked 24 = .ok (.invokevirtual 92, 3) := by decide +kernel
theorem dX13_ranked_27 : decode cX13_ranked 27 = .ok (.aload_n 0, 1) := by decide +kernel
theorem dX13_ranked_28 : decode cX13_ranked 28 = .ok (.iload_n 2, 1) := by decide +kernel
theorem dX13_ranked_29 : decode cX13_ranked 29 = .ok (.invokevirtual 92, 3) := by decide +kernel
theorem dX13_ranked_32 : decode cX13_ranked 32 = .ok (.if_icmp .gt 23, 3) := by decide +kernel
theorem dX13_ranked_35 : decode cX13_ranked 35 = .ok (.aload_n 0, 1) := by decide +kernel
theorem dX13_ranked_36 : decode cX13_ranked 36 = .ok (.iload 4, 2) := by decide +kernel
theorem dX13_ranked_38 : decode cX13_ranked 38 = .ok (.invokevirtual 92, 3) := by decide +kernel
theorem dX13_ranked_41 : decode cX13_ranked 41 = .ok (.aload_n 0, 1) := by decide +kernel
theorem dX13_ranked_42 : decode cX13_ranked 42 = .ok (.iload_n 2, 1) := by decide +kernel
theorem dX13_ranked_43 : decode cX13_ranked 43 = .ok (.invokevirtual 92, 3) := by decide +kernel
theorem dX13_ranked_46 : decode cX13_ranked 46 = .ok (.if_icmp .ne 13, 3) := by decide +kernel
theorem dX13_ranked_49 : decode cX13_ranked 49 = .ok (.iload 4, 2) := by decide +kernel
theorem dX13_ranked_51 : decode cX13_ranked 51 = .ok (.iload_n 2, 1) := by decide +kernel
theorem dX13_ranked_52 : decode cX13_ranked 52 = .ok (.if_icmp .ge 7, 3) := by decide +kernel
theorem dX13_ranked_55 : decode cX13_ranked 55 = .ok (.iconst 1, 1) := by decide +kernel
theorem dX13_ranked_56 : decode cX13_ranked 56 = .ok (.goto 4, 3) := by decide +kernel
theorem dX13_ranked_59 : decode cX13_ranked 59 = .ok (.iconst 0, 1) := by decide +kernel
theorem dX13_ranked_60 : decode cX13_ranked 60 = .ok (.iadd, 1) := by decide +kernel
theorem dX13_ranked_61 : decode cX13_ranked 61 = .ok (.istore_n 3, 1) := by decide +kernel
theorem dX13_ranked_62 : decode cX13_ranked 62 = .ok (.iinc 4 1, 3) := by decide +kernel
theorem dX13_ranked_65 : decode cX13_ranked 65 = .ok (.goto (-52), 3) := by decide +kernel
theorem dX13_ranked_68 : decode cX13_ranked 68 = .ok (.iload_n 3, 1) := by decide +kernel
theorem dX13_ranked_69 : decode cX13_ranked 69 = .ok (.iload_n 1, 1) := by decide +kernel
theorem dX13_ranked_70 : decode cX13_ranked 70 = .ok (.if_icmp .eq 6, 3) := by decide +kernel
theorem dX13_ranked_73 : decode cX13_ranked 73 = .ok (.goto 10, 3) := by decide +kernel
theorem dX13_ranked_76 : decode cX13_ranked 76 = .ok (.aload_n 0, 1) := by decide +kernel
theorem dX13_ranked_77 : decode cX13_ranked 77 = .ok (.iconst 0, 1) := by decide +kernel
theorem dX13_ranked_78 : decode cX13_ranked 78 = .ok (.putfield 48, 3) := by decide +kernel
theorem dX13_ranked_81 : decode cX13_ranked 81 = .ok (.iload_n 2, 1) := by decide +kernel
theorem dX13_ranked_82 : decode cX13_ranked 82 = .ok (.ireturn, 1) := by decide +kernel
theorem dX13_ranked_83 : decode cX13_ranked 83 = .ok (.iinc 2 1, 3) := by decide +kernel
theorem dX13_ranked_86 : decode cX13_ranked 86 = .ok (.goto (-84), 3) := by decide +kernel
theorem dX13_ranked_89 : decode cX13_ranked 89 = .ok (.aload_n 0, 1) := by decide +kernel
theorem dX13_ranked_90 : decode cX13_ranked 90 = .ok (.iconst 1, 1) := by decide +kernel
theorem dX13_ranked_91 : decode cX13_ranked 91 = .ok (.putfield 48, 3) := by decide +kernel
theorem dX13_ranked_94 : decode cX13_ranked 94 = .ok (.iconst 0, 1) := by decide +kernel
theorem dX13_ranked_95 : decode cX13_ranked 95 = .ok (.ireturn, 1) := by decide +kernel
theorem dX13_rowByHeight_0 : decode cX13_rowByHeight 0 = .ok (.aload_n 0, 1) := by decide +kernel
theorem dX13_rowByHeight_1 : decode cX13_rowByHeight 1 = .ok (.iload_n 1, 1) := by decide +kernel
theorem dX13_rowByHeight_2 : decode cX13_rowByHeight 2 = .ok (.invokevirtual 115, 3) := by decide +kernel
theorem dX13_rowByHeight_5 : decode cX13_rowByHeight 5 = .ok (.bipush 6, 2) := by decide +kernel
theorem dX13_rowByHeight_7 : decode cX13_rowByHeight 7 = .ok (.idiv, 1) := by decide +kernel
theorem dX13_rowByHeight_8 : decode cX13_rowByHeight 8 = .ok (.ireturn, 1) := by decide +kernel
theorem dX13_columnByHeight_0 : decode cX13_columnByHeight 0 = .ok (.aload_n 0, 1) := by decide +kernel
theorem dX13_columnByHeight_1 : decode cX13_columnByHeight 1 = .ok (.iload_n 1, 1) := by decide +kernel
theorem dX13_columnByHeight_2 : decode cX13_columnByHeight 2 = .ok (.invokevirtual 115, 3) := by decide +kernel
theorem dX13_columnByHeight_5 : decode cX13_columnByHeight 5 = .ok (.bipush 6, 2) := by decide +kernel
theorem dX13_columnByHeight_7 : decode cX13_columnByHeight 7 = .ok (.irem, 1) := by decide +kernel
theorem dX13_columnByHeight_8 : decode cX13_columnByHeight 8 = .ok (.ireturn, 1) := by decide +kernel
theorem dX13_lands_0 : decode cX13_lands 0 = .ok (.aload_n 0, 1) := by decide +kernel
theorem dX13_lands_1 : decode cX13_lands 1 = .ok (.iload_n 1, 1) := by decide +kernel
theorem dX13_lands_2 : decode cX13_lands 2 = .ok (.iconst 0, 1) := by decide +kernel
theorem dX13_lands_3 : decode cX13_lands 3 = .ok (.bipush 99, 2) := by decide +kernel
theorem dX13_lands_5 : decode cX13_lands 5 = .ok (.invokestatic 74, 3) := by decide +kernel
theorem dX13_lands_8 : decode cX13_lands 8 = .ok (.ifCond .eq 7, 3) := by decide +kernel
theorem dX13_lands_11 : decode cX13_lands 11 = .ok (.iconst 0, 1) := by decide +kernel
theorem dX13_lands_12 : decode cX13_lands 12 = .ok (.goto 4, 3) := by decide +kernel
theorem dX13_lands_15 : decode cX13_lands 15 = .ok (.iconst 1, 1) := by decide +kernel
theorem dX13_lands_16 : decode cX13_lands 16 = .ok (.invokevirtual 82, 3) := by decide +kernel
theorem dX13_lands_19 : decode cX13_lands 19 = .ok (.ifCond .eq 5, 3) := by decide +kernel
theorem dX13_lands_22 : decode cX13_lands 22 = .ok (.iconst 0, 1) := by decide +kernel
theorem dX13_lands_23 : decode cX13_lands 23 = .ok (.ireturn, 1) := by decide +kernel
theorem dX13_lands_24 : decode cX13_lands 24 = .ok (.iconst 0, 1) := by decide +kernel
theorem dX13_lands_25 : decode cX13_lands 25 = .ok (.istore_n 2, 1) := by decide +kernel
theorem dX13_lands_26 : decode cX13_lands 26 = .ok (.iconst 0, 1) := by decide +kernel
theorem dX13_lands_27 : decode cX13_lands 27 = .ok (.istore_n 3, 1) := by decide +kernel
theorem dX13_lands_28 : decode cX13_lands 28 = .ok (.iload_n 3, 1) := by decide +kernel
theorem dX13_lands_29 : decode cX13_lands 29 = .ok (.bipush 36, 2) := by decide +kernel
theorem dX13_lands_31 : decode cX13_lands 31 = .ok (.if_icmp .ge 16, 3) := by decide +kernel
theorem dX13_lands_34 : decode cX13_lands 34 = .ok (.aload_n 0, 1) := by decide +kernel
theorem dX13_lands_35 : decode cX13_lands 35 = .ok (.getfield 36, 3) := by decide +kernel
theorem dX13_lands_38 : decode cX13_lands 38 = .ok (.iload_n 3, 1) := by decide +kernel
theorem dX13_lands_39 : decode cX13_lands 39 = .ok (.iconst 0, 1) := by decide +kernel
theorem dX13_lands_40 : decode cX13_lands 40 = .ok (.iastore, 1) := by decide +kernel
theorem dX13_lands_41 : decode cX13_lands 41 = .ok (.iinc 3 1, 3) := by decide +kernel
theorem dX13_lands_44 : decode cX13_lands 44 = .ok (.goto (-16), 3) := by decide +kernel
theorem dX13_lands_47 : decode cX13_lands 47 = .ok (.iconst 0, 1) := by decide +kernel
theorem dX13_lands_48 : decode cX13_lands 48 = .ok (.istore_n 3, 1) := by decide +kernel
theorem dX13_lands_49 : decode cX13_lands 49 = .ok (.iload_n 3, 1) := by decide +kernel
theorem dX13_lands_50 : decode cX13_lands 50 = .ok (.bipush 36, 2) := by decide +kernel
theorem dX13_lands_52 : decode cX13_lands 52 = .ok (.if_icmp .ge 145, 3) := by decide +kernel
theorem dX13_lands_55 : decode cX13_lands 55 = .ok (.aload_n 0, 1) := by decide +kernel
theorem dX13_lands_56 : decode cX13_lands 56 = .ok (.getfield 36, 3) := by decide +kernel
theorem dX13_lands_59 : decode cX13_lands 59 = .ok (.iload_n 3, 1) := by decide +kernel
theorem dX13_lands_60 : decode cX13_lands 60 = .ok (.iaload, 1) := by decide +kernel
theorem dX13_lands_61 : decode cX13_lands 61 = .ok (.iconst 1, 1) := by decide +kernel
theorem dX13_lands_62 : decode cX13_lands 62 = .ok (.if_icmp .eq 129, 3) := by decide +kernel
theorem dX13_lands_65 : decode cX13_lands 65 = .ok (.aload_n 0, 1) := by decide +kernel
theorem dX13_lands_66 : decode cX13_lands 66 = .ok (.iload_n 3, 1) := by decide +kernel
theorem dX13_lands_67 : decode cX13_lands 67 = .ok (.invokevirtual 92, 3) := by decide +kernel
theorem dX13_lands_70 : decode cX13_lands 70 = .ok (.iload_n 1, 1) := by decide +kernel
theorem dX13_lands_71 : decode cX13_lands 71 = .ok (.if_icmp .ge 6, 3) := by decide +kernel
theorem dX13_lands_74 : decode cX13_lands 74 = .ok (.goto 117, 3) := by decide +kernel
theorem dX13_lands_77 : decode cX13_lands 77 = .ok (.iinc 2 1, 3) := by decide +kernel
theorem dX13_lands_80 : decode cX13_lands 80 = .ok (.iconst 1, 1) := by decide +kernel
theorem dX13_lands_81 : decode cX13_lands 81 = .ok (.istore 4, 2) := by decide +kernel
theorem dX13_lands_83 : decode cX13_lands 83 = .ok (.aload_n 0, 1) := by decide +kernel
theorem dX13_lands_84 : decode cX13_lands 84 = .ok (.getfield 39, 3) := by decide +kernel
theorem dX13_lands_87 : decode cX13_lands 87 = .ok (.iconst 0, 1) := by decide +kernel
theorem dX13_lands_88 : decode cX13_lands 88 = .ok (.iload_n 3, 1) := by decide +kernel
theorem dX13_lands_89 : decode cX13_lands 89 = .ok (.iastore, 1) := by decide +kernel
theorem dX13_lands_90 : decode cX13_lands 90 = .ok (.aload_n 0, 1) := by decide +kernel
theorem dX13_lands_91 : decode cX13_lands 91 = .ok (.getfield 36, 3) := by decide +kernel
theorem dX13_lands_94 : decode cX13_lands 94 = .ok (.iload_n 3, 1) := by decide +kernel
theorem dX13_lands_95 : decode cX13_lands 95 = .ok (.iconst 1, 1) := by decide +kernel
theorem dX13_lands_96 : decode cX13_lands 96 = .ok (.iastore, 1) := by decide +kernel
theorem dX13_lands_97 : decode cX13_lands 97 = .ok (.iconst 0, 1) := by decide +kernel
theorem dX13_lands_98 : decode cX13_lands 98 = .ok (.istore 5, 2) := by decide +kernel
theorem dX13_lands_100 : decode cX13_lands 100 = .ok (.iload 5, 2) := by decide +kernel
theorem dX13_lands_102 : decode cX13_lands 102 = .ok (.iload 4, 2) := by decide +kernel
theorem dX13_lands_104 : decode cX13_lands 104 = .ok (.if_icmp .ge 87, 3) := by decide +kernel
theorem dX13_lands_107 : decode cX13_lands 107 = .ok (.iconst 0, 1) := by decide +kernel
theorem dX13_lands_108 : decode cX13_lands 108 = .ok (.istore 6, 2) := by decide +kernel
theorem dX13_lands_110 : decode cX13_lands 110 = .ok (.iload 6, 2) := by decide +kernel
theorem dX13_lands_112 : decode cX13_lands 112 = .ok (.iconst 4, 1) := by decide +kernel
theorem dX13_lands_113 : decode cX13_lands 113 = .ok (.if_icmp .ge 72, 3) := by decide +kernel
theorem dX13_lands_116 : decode cX13_lands 116 = .ok (.aload_n 0, 1) := by decide +kernel
theorem dX13_lands_117 : decode cX13_lands 117 = .ok (.getfield 39, 3) := by decide +kernel
theorem dX13_lands_120 : decode cX13_lands 120 = .ok (.iload 5, 2) := by decide +kernel
theorem dX13_lands_122 : decode cX13_lands 122 = .ok (.iaload, 1) := by decide +kernel
theorem dX13_lands_123 : decode cX13_lands 123 = .ok (.iload 6, 2) := by decide +kernel
theorem dX13_lands_125 : decode cX13_lands 125 = .ok (.invokestatic 111, 3) := by decide +kernel
theorem dX13_lands_128 : decode cX13_lands 128 = .ok (.istore 7, 2) := by decide +kernel
theorem dX13_lands_130 : decode cX13_lands 130 = .ok (.iload 7, 2) := by decide +kernel
theorem dX13_lands_132 : decode cX13_lands 132 = .ok (.ifCond .lt 47, 3) := by decide +kernel
theorem dX13_lands_135 : decode cX13_lands 135 = .ok (.aload_n 0, 1) := by decide +kernel
theorem dX13_lands_136 : decode cX13_lands 136 = .ok (.getfield 36, 3) := by decide +kernel
theorem dX13_lands_139 : decode cX13_lands 139 = .ok (.iload 7, 2) := by decide +kernel
theorem dX13_lands_141 : decode cX13_lands 141 = .ok (.iaload, 1) := by decide +kernel
theorem dX13_lands_142 : decode cX13_lands 142 = .ok (.iconst 1, 1) := by decide +kernel
theorem dX13_lands_143 : decode cX13_lands 143 = .ok (.if_icmp .eq 36, 3) := by decide +kernel
theorem dX13_lands_146 : decode cX13_lands 146 = .ok (.aload_n 0, 1) := by decide +kernel
theorem dX13_lands_147 : decode cX13_lands 147 = .ok (.iload 7, 2) := by decide +kernel
theorem dX13_lands_149 : decode cX13_lands 149 = .ok (.invokevirtual 92, 3) := by decide +kernel
theorem dX13_lands_152 : decode cX13_lands 152 = .ok (.iload_n 1, 1) := by decide +kernel
theorem dX13_lands_153 : decode cX13_lands 153 = .ok (.if_icmp .ge 6, 3) := by decide +kernel
theorem dX13_lands_156 : decode cX13_lands 156 = .ok (.goto 23, 3) := by decide +kernel
theorem dX13_lands_159 : decode cX13_lands 159 = .ok (.aload_n 0, 1) := by decide +kernel
theorem dX13_lands_160 : decode cX13_lands 160 = .ok (.getfield 36, 3) := by decide +kernel
theorem dX13_lands_163 : decode cX13_lands 163 = .ok (.iload 7, 2) := by decide +kernel
theorem dX13_lands_165 : decode cX13_lands 165 = .ok (.iconst 1, 1) := by decide +kernel
theorem dX13_lands_166 : decode cX13_lands 166 = .ok (.iastore, 1) := by decide +kernel
theorem dX13_lands_167 : decode cX13_lands 167 = .ok (.aload_n 0, 1) := by decide +kernel
theorem dX13_lands_168 : decode cX13_lands 168 = .ok (.getfield 39, 3) := by decide +kernel
theorem dX13_lands_171 : decode cX13_lands 171 = .ok (.iload 4, 2) := by decide +kernel
theorem dX13_lands_173 : decode cX13_lands 173 = .ok (.iload 7, 2) := by decide +kernel
theorem dX13_lands_175 : decode cX13_lands 175 = .ok (.iastore, 1) := by decide +kernel
theorem dX13_lands_176 : decode cX13_lands 176 = .ok (.iinc 4 1, 3) := by decide +kernel
theorem dX13_lands_179 : decode cX13_lands 179 = .ok (.iinc 6 1, 3) := by decide +kernel
theorem dX13_lands_182 : decode cX13_lands 182 = .ok (.goto (-72), 3) := by decide +kernel
theorem dX13_lands_185 : decode cX13_lands 185 = .ok (.iinc 5 1, 3) := by decide +kernel
theorem dX13_lands_188 : decode cX13_lands 188 = .ok (.goto (-88), 3) := by decide +kernel
theorem dX13_lands_191 : decode cX13_lands 191 = .ok (.iinc 3 1, 3) := by decide +kernel
theorem dX13_lands_194 : decode cX13_lands 194 = .ok (.goto (-145), 3) := by decide +kernel
theorem dX13_lands_197 : decode cX13_lands 197 = .ok (.iload_n 2, 1) := by decide +kernel
theorem dX13_lands_198 : decode cX13_lands 198 = .ok (.ireturn, 1) := by decide +kernel
theorem dX13_islands_0 : decode cX13_islands 0 = .ok (.aload_n 0, 1) := by decide +kernel
theorem dX13_islands_1 : decode cX13_islands 1 = .ok (.iload_n 1, 1) := by decide +kernel
theorem dX13_islands_2 : decode cX13_islands 2 = .ok (.invokevirtual 118, 3) := by decide +kernel
theorem dX13_islands_5 : decode cX13_islands 5 = .ok (.ireturn, 1) := by decide +kernel
theorem dX13_islandsByUnions_0 : decode cX13_islandsByUnions 0 = .ok (.aload_n 0, 1) := by decide +kernel
theorem dX13_islandsByUnions_1 : decode cX13_islandsByUnions 1 = .ok (.iload_n 1, 1) := by decide +kernel
theorem dX13_islandsByUnions_2 : decode cX13_islandsByUnions 2 = .ok (.invokevirtual 118, 3) := by decide +kernel
theorem dX13_islandsByUnions_5 : decode cX13_islandsByUnions 5 = .ok (.ireturn, 1) := by decide +kernel
theorem dX13_next_0 : decode cX13_next 0 = .ok (.iload_n 1, 1) := by decide +kernel
theorem dX13_next_1 : decode cX13_next 1 = .ok (.istore_n 2, 1) := by decide +kernel
theorem dX13_next_2 : decode cX13_next 2 = .ok (.iconst 0, 1) := by decide +kernel
theorem dX13_next_3 : decode cX13_next 3 = .ok (.istore_n 3, 1) := by decide +kernel
theorem dX13_next_4 : decode cX13_next 4 = .ok (.iload_n 3, 1) := by decide +kernel
theorem dX13_next_5 : decode cX13_next 5 = .ok (.iconst 4, 1) := by decide +kernel
theorem dX13_next_6 : decode cX13_next 6 = .ok (.if_icmp .ge 46, 3) := by decide +kernel
theorem dX13_next_9 : decode cX13_next 9 = .ok (.aload_n 0, 1) := by decide +kernel
theorem dX13_next_10 : decode cX13_next 10 = .ok (.iload_n 1, 1) := by decide +kernel
theorem dX13_next_11 : decode cX13_next 11 = .ok (.invokevirtual 86, 3) := by decide +kernel
theorem dX13_next_14 : decode cX13_next 14 = .ok (.ifCond .ne 38, 3) := by decide +kernel
theorem dX13_next_17 : decode cX13_next 17 = .ok (.iload_n 1, 1) := by decide +kernel
theorem dX13_next_18 : decode cX13_next 18 = .ok (.iload_n 3, 1) := by decide +kernel
theorem dX13_next_19 : decode cX13_next 19 = .ok (.invokestatic 111, 3) := by decide +kernel
theorem dX13_next_22 : decode cX13_next 22 = .ok (.istore 4, 2) := by decide +kernel
theorem dX13_next_24 : decode cX13_next 24 = .ok (.iload 4, 2) := by decide +kernel
theorem dX13_next_26 : decode cX13_next 26 = .ok (.ifCond .lt 20, 3) := by decide +kernel
theorem dX13_next_29 : decode cX13_next 29 = .ok (.aload_n 0, 1) := by decide +kernel
theorem dX13_next_30 : decode cX13_next 30 = .ok (.iload 4, 2) := by decide +kernel
theorem dX13_next_32 : decode cX13_next 32 = .ok (.invokevirtual 92, 3) := by decide +kernel
theorem dX13_next_35 : decode cX13_next 35 = .ok (.aload_n 0, 1) := by decide +kernel
theorem dX13_next_36 : decode cX13_next 36 = .ok (.iload_n 2, 1) := by decide +kernel
theorem dX13_next_37 : decode cX13_next 37 = .ok (.invokevirtual 92, 3) := by decide +kernel
theorem dX13_next_40 : decode cX13_next 40 = .ok (.if_icmp .ge 6, 3) := by decide +kernel
theorem dX13_next_43 : decode cX13_next 43 = .ok (.iload 4, 2) := by decide +kernel
theorem dX13_next_45 : decode cX13_next 45 = .ok (.istore_n 2, 1) := by decide +kernel
theorem dX13_next_46 : decode cX13_next 46 = .ok (.iinc 3 1, 3) := by decide +kernel
theorem dX13_next_49 : decode cX13_next 49 = .ok (.goto (-45), 3) := by decide +kernel
theorem dX13_next_52 : decode cX13_next 52 = .ok (.iload_n 2, 1) := by decide +kernel
theorem dX13_next_53 : decode cX13_next 53 = .ok (.ireturn, 1) := by decide +kernel
theorem dX13_end_0 : decode cX13_end 0 = .ok (.iload_n 1, 1) := by decide +kernel
theorem dX13_end_1 : decode cX13_end 1 = .ok (.istore_n 2, 1) := by decide +kernel
theorem dX13_end_2 : decode cX13_end 2 = .ok (.aload_n 0, 1) := by decide +kernel
theorem dX13_end_3 : decode cX13_end 3 = .ok (.iload_n 2, 1) := by decide +kernel
theorem dX13_end_4 : decode cX13_end 4 = .ok (.invokevirtual 121, 3) := by decide +kernel
theorem dX13_end_7 : decode cX13_end 7 = .ok (.iload_n 2, 1) := by decide +kernel
theorem dX13_end_8 : decode cX13_end 8 = .ok (.if_icmp .eq 12, 3) := by decide +kernel
theorem dX13_end_11 : decode cX13_end 11 = .ok (.aload_n 0, 1) := by decide +kernel
theorem dX13_end_12 : decode cX13_end 12 = .ok (.iload_n 2, 1) := by decide +kernel
theorem dX13_end_13 : decode cX13_end 13 = .ok (.invokevirtual 121, 3) := by decide +kernel
theorem dX13_end_16 : decode cX13_end 16 = .ok (.istore_n 2, 1) := by decide +kernel
theorem dX13_end_17 : decode cX13_end 17 = .ok (.goto (-15), 3) := by decide +kernel
theorem dX13_end_20 : decode cX13_end 20 = .ok (.iload_n 2, 1) := by decide +kernel
theorem dX13_end_21 : decode cX13_end 21 = .ok (.ireturn, 1) := by decide +kernel
theorem dX13_flows_0 : decode cX13_flows 0 = .ok (.aload_n 0, 1) := by decide +kernel
theorem dX13_flows_1 : decode cX13_flows 1 = .ok (.iload_n 1, 1) := by decide +kernel
theorem dX13_flows_2 : decode cX13_flows 2 = .ok (.invokevirtual 124, 3) := by decide +kernel
theorem dX13_flows_5 : decode cX13_flows 5 = .ok (.istore_n 3, 1) := by decide +kernel
theorem dX13_flows_6 : decode cX13_flows 6 = .ok (.aload_n 0, 1) := by decide +kernel
theorem dX13_flows_7 : decode cX13_flows 7 = .ok (.iload_n 3, 1) := by decide +kernel
theorem dX13_flows_8 : decode cX13_flows 8 = .ok (.invokevirtual 86, 3) := by decide +kernel
theorem dX13_flows_11 : decode cX13_flows 11 = .ok (.ifCond .ne 18, 3) := by decide +kernel
theorem dX13_flows_14 : decode cX13_flows 14 = .ok (.aload_n 0, 1) := by decide +kernel
theorem dX13_flows_15 : decode cX13_flows 15 = .ok (.getfield 7, 3) := by decide +kernel
theorem dX13_flows_18 : decode cX13_flows 18 = .ok (.bipush 112, 2) := by decide +kernel
theorem dX13_flows_20 : decode cX13_flows 20 = .ok (.iload_n 3, 1) := by decide +kernel
theorem dX13_flows_21 : decode cX13_flows 21 = .ok (.iadd, 1) := by decide +kernel
theorem dX13_flows_22 : decode cX13_flows 22 = .ok (.dup2, 1) := by decide +kernel
theorem dX13_flows_23 : decode cX13_flows 23 = .ok (.iaload, 1) := by decide +kernel
theorem dX13_flows_24 : decode cX13_flows 24 = .ok (.iload_n 2, 1) := by decide +kernel
theorem dX13_flows_25 : decode cX13_flows 25 = .ok (.iadd, 1) := by decide +kernel
theorem dX13_flows_26 : decode cX13_flows 26 = .ok (.iastore, 1) := by decide +kernel
theorem dX13_flows_27 : decode cX13_flows 27 = .ok (.iconst 0, 1) := by decide +kernel
theorem dX13_flows_28 : decode cX13_flows 28 = .ok (.ireturn, 1) := by decide +kernel
theorem dX13_flows_29 : decode cX13_flows 29 = .ok (.aload_n 0, 1) := by decide +kernel
theorem dX13_flows_30 : decode cX13_flows 30 = .ok (.getfield 7, 3) := by decide +kernel
theorem dX13_flows_33 : decode cX13_flows 33 = .ok (.iconst 2, 1) := by decide +kernel
theorem dX13_flows_34 : decode cX13_flows 34 = .ok (.dup2, 1) := by decide +kernel
theorem dX13_flows_35 : decode cX13_flows 35 = .ok (.iaload, 1) := by decide +kernel
theorem dX13_flows_36 : decode cX13_flows 36 = .ok (.iload_n 2, 1) := by decide +kernel
theorem dX13_flows_37 : decode cX13_flows 37 = .ok (.iadd, 1) := by decide +kernel
theorem dX13_flows_38 : decode cX13_flows 38 = .ok (.iastore, 1) := by decide +kernel
theorem dX13_flows_39 : decode cX13_flows 39 = .ok (.iload_n 2, 1) := by decide +kernel
theorem dX13_flows_40 : decode cX13_flows 40 = .ok (.ireturn, 1) := by decide +kernel
theorem dX13_pour_0 : decode cX13_pour 0 = .ok (.aload_n 0, 1) := by decide +kernel
theorem dX13_pour_1 : decode cX13_pour 1 = .ok (.iload_n 1, 1) := by decide +kernel
theorem dX13_pour_2 : decode cX13_pour 2 = .ok (.iload_n 2, 1) := by decide +kernel
theorem dX13_pour_3 : decode cX13_pour 3 = .ok (.invokevirtual 89, 3) := by decide +kernel
theorem dX13_pour_6 : decode cX13_pour 6 = .ok (.ifCond .ne 25, 3) := by decide +kernel
theorem dX13_pour_9 : decode cX13_pour 9 = .ok (.aload_n 0, 1) := by decide +kernel
theorem dX13_pour_10 : decode cX13_pour 10 = .ok (.iload_n 3, 1) := by decide +kernel
theorem dX13_pour_11 : decode cX13_pour 11 = .ok (.iconst 1, 1) := by decide +kernel
theorem dX13_pour_12 : decode cX13_pour 12 = .ok (.bipush 99, 2) := by decide +kernel
theorem dX13_pour_14 : decode cX13_pour 14 = .ok (.invokestatic 74, 3) := by decide +kernel
theorem dX13_pour_17 : decode cX13_pour 17 = .ok (.ifCond .eq 7, 3) := by decide +kernel
theorem dX13_pour_20 : decode cX13_pour 20 = .ok (.iconst 0, 1) := by decide +kernel
theorem dX13_pour_21 : decode cX13_pour 21 = .ok (.goto 4, 3) := by decide +kernel
theorem dX13_pour_24 : decode cX13_pour 24 = .ok (.iconst 2, 1) := by decide +kernel
theorem dX13_pour_25 : decode cX13_pour 25 = .ok (.invokevirtual 82, 3) := by decide +kernel
theorem dX13_pour_28 : decode cX13_pour 28 = .ok (.ifCond .eq 5, 3) := by decide +kernel
theorem dX13_pour_31 : decode cX13_pour 31 = .ok (.iconst 0, 1) := by decide +kernel
theorem dX13_pour_32 : decode cX13_pour 32 = .ok (.ireturn, 1) := by decide +kernel
theorem dX13_pour_33 : decode cX13_pour 33 = .ok (.aload_n 0, 1) := by decide +kernel
theorem dX13_pour_34 : decode cX13_pour 34 = .ok (.aload_n 0, 1) := by decide +kernel
theorem dX13_pour_35 : decode cX13_pour 35 = .ok (.getfield 7, 3) := by decide +kernel
theorem dX13_pour_38 : decode cX13_pour 38 = .ok (.invokevirtual 100, 3) := by decide +kernel
theorem dX13_pour_41 : decode cX13_pour 41 = .ok (.aload_n 0, 1) := by decide +kernel
theorem dX13_pour_42 : decode cX13_pour 42 = .ok (.getfield 7, 3) := by decide +kernel
theorem dX13_pour_45 : decode cX13_pour 45 = .ok (.iconst 1, 1) := by decide +kernel
theorem dX13_pour_46 : decode cX13_pour 46 = .ok (.dup2, 1) := by decide +kernel
theorem dX13_pour_47 : decode cX13_pour 47 = .ok (.iaload, 1) := by decide +kernel
theorem dX13_pour_48 : decode cX13_pour 48 = .ok (.iload_n 3, 1) := by decide +kernel
theorem dX13_pour_49 : decode cX13_pour 49 = .ok (.iadd, 1) := by decide +kernel
theorem dX13_pour_50 : decode cX13_pour 50 = .ok (.iastore, 1) := by decide +kernel
theorem dX13_pour_51 : decode cX13_pour 51 = .ok (.aload_n 0, 1) := by decide +kernel
theorem dX13_pour_52 : decode cX13_pour 52 = .ok (.bipush 6, 2) := by decide +kernel
theorem dX13_pour_54 : decode cX13_pour 54 = .ok (.iload_n 1, 1) := by decide +kernel
theorem dX13_pour_55 : decode cX13_pour 55 = .ok (.imul, 1) := by decide +kernel
theorem dX13_pour_56 : decode cX13_pour 56 = .ok (.iload_n 2, 1) := by decide +kernel
theorem dX13_pour_57 : decode cX13_pour 57 = .ok (.iadd, 1) := by decide +kernel
theorem dX13_pour_58 : decode cX13_pour 58 = .ok (.iload_n 3, 1) := by decide +kernel
theorem dX13_pour_59 : decode cX13_pour 59 = .ok (.invokevirtual 127, 3) := by decide +kernel
theorem dX13_pour_62 : decode cX13_pour 62 = .ok (.ireturn, 1) := by decide +kernel
theorem dX13_settle_0 : decode cX13_settle 0 = .ok (.aload_n 0, 1) := by decide +kernel
theorem dX13_settle_1 : decode cX13_settle 1 = .ok (.aload_n 0, 1) := by decide +kernel
theorem dX13_settle_2 : decode cX13_settle 2 = .ok (.getfield 7, 3) := by decide +kernel
theorem dX13_settle_5 : decode cX13_settle 5 = .ok (.invokevirtual 100, 3) := by decide +kernel
theorem dX13_settle_8 : decode cX13_settle 8 = .ok (.iconst 0, 1) := by decide +kernel
theorem dX13_settle_9 : decode cX13_settle 9 = .ok (.istore_n 1, 1) := by decide +kernel
theorem dX13_settle_10 : decode cX13_settle 10 = .ok (.iconst 0, 1) := by decide +kernel
theorem dX13_settle_11 : decode cX13_settle 11 = .ok (.istore_n 2, 1) := by decide +kernel
theorem dX13_settle_12 : decode cX13_settle 12 = .ok (.iload_n 2, 1) := by decide +kernel
theorem dX13_settle_13 : decode cX13_settle 13 = .ok (.bipush 36, 2) := by decide +kernel
theorem dX13_settle_15 : decode cX13_settle 15 = .ok (.if_icmp .ge 24, 3) := by decide +kernel
theorem dX13_settle_18 : decode cX13_settle 18 = .ok (.aload_n 0, 1) := by decide +kernel
theorem dX13_settle_19 : decode cX13_settle 19 = .ok (.getfield 36, 3) := by decide +kernel
theorem dX13_settle_22 : decode cX13_settle 22 = .ok (.iload_n 2, 1) := by decide +kernel
theorem dX13_settle_23 : decode cX13_settle 23 = .ok (.aload_n 0, 1) := by decide +kernel
theorem dX13_settle_24 : decode cX13_settle 24 = .ok (.getfield 7, 3) := by decide +kernel
theorem dX13_settle_27 : decode cX13_settle 27 = .ok (.bipush 112, 2) := by decide +kernel
theorem dX13_settle_29 : decode cX13_settle 29 = .ok (.iload_n 2, 1) := by decide +kernel
theorem dX13_settle_30 : decode cX13_settle 30 = .ok (.iadd, 1) := by decide +kernel
theorem dX13_settle_31 : decode cX13_settle 31 = .ok (.iaload, 1) := by decide +kernel
theorem dX13_settle_32 : decode cX13_settle 32 = .ok (.iastore, 1) := by decide +kernel
theorem dX13_settle_33 : decode cX13_settle 33 = .ok (.iinc 2 1, 3) := by decide +kernel
theorem dX13_settle_36 : decode cX13_settle 36 = .ok (.goto (-24), 3) := by decide +kernel
theorem dX13_settle_39 : decode cX13_settle 39 = .ok (.iconst 0, 1) := by decide +kernel
theorem dX13_settle_40 : decode cX13_settle 40 = .ok (.istore_n 2, 1) := by decide +kernel
theorem dX13_settle_41 : decode cX13_settle 41 = .ok (.iload_n 2, 1) := by decide +kernel
theorem dX13_settle_42 : decode cX13_settle 42 = .ok (.bipush 36, 2) := by decide +kernel
theorem dX13_settle_44 : decode cX13_settle 44 = .ok (.if_icmp .ge 19, 3) := by decide +kernel
theorem dX13_settle_47 : decode cX13_settle 47 = .ok (.aload_n 0, 1) := by decide +kernel
theorem dX13_settle_48 : decode cX13_settle 48 = .ok (.getfield 7, 3) := by decide +kernel
theorem dX13_settle_51 : decode cX13_settle 51 = .ok (.bipush 112, 2) := by decide +kernel
theorem dX13_settle_53 : decode cX13_settle 53 = .ok (.iload_n 2, 1) := by decide +kernel
theorem dX13_settle_54 : decode cX13_settle 54 = .ok (.iadd, 1) := by decide +kernel
theorem dX13_settle_55 : decode cX13_settle 55 = .ok (.iconst 0, 1) := by decide +kernel
theorem dX13_settle_56 : decode cX13_settle 56 = .ok (.iastore, 1) := by decide +kernel
theorem dX13_settle_57 : decode cX13_settle 57 = .ok (.iinc 2 1, 3) := by decide +kernel
theorem dX13_settle_60 : decode cX13_settle 60 = .ok (.goto (-19), 3) := by decide +kernel
theorem dX13_settle_63 : decode cX13_settle 63 = .ok (.iconst 0, 1) := by decide +kernel
theorem dX13_settle_64 : decode cX13_settle 64 = .ok (.istore_n 2, 1) := by decide +kernel
theorem dX13_settle_65 : decode cX13_settle 65 = .ok (.iload_n 2, 1) := by decide +kernel
theorem dX13_settle_66 : decode cX13_settle 66 = .ok (.bipush 36, 2) := by decide +kernel
theorem dX13_settle_68 : decode cX13_settle 68 = .ok (.if_icmp .ge 23, 3) := by decide +kernel
theorem dX13_settle_71 : decode cX13_settle 71 = .ok (.iload_n 1, 1) := by decide +kernel
theorem dX13_settle_72 : decode cX13_settle 72 = .ok (.aload_n 0, 1) := by decide +kernel
theorem dX13_settle_73 : decode cX13_settle 73 = .ok (.iload_n 2, 1) := by decide +kernel
theorem dX13_settle_74 : decode cX13_settle 74 = .ok (.aload_n 0, 1) := by decide +kernel
theorem dX13_settle_75 : decode cX13_settle 75 = .ok (.getfield 36, 3) := by decide +kernel
theorem dX13_settle_78 : decode cX13_settle 78 = .ok (.iload_n 2, 1) := by decide +kernel
theorem dX13_settle_79 : decode cX13_settle 79 = .ok (.iaload, 1) := by decide +kernel
theorem dX13_settle_80 : decode cX13_settle 80 = .ok (.invokevirtual 127, 3) := by decide +kernel
theorem dX13_settle_83 : decode cX13_settle 83 = .ok (.iadd, 1) := by decide +kernel
theorem dX13_settle_84 : decode cX13_settle 84 = .ok (.istore_n 1, 1) := by decide +kernel
theorem dX13_settle_85 : decode cX13_settle 85 = .ok (.iinc 2 1, 3) := by decide +kernel
theorem dX13_settle_88 : decode cX13_settle 88 = .ok (.goto (-23), 3) := by decide +kernel
theorem dX13_settle_91 : decode cX13_settle 91 = .ok (.iload_n 1, 1) := by decide +kernel
theorem dX13_settle_92 : decode cX13_settle 92 = .ok (.ireturn, 1) := by decide +kernel
theorem dX13_water_0 : decode cX13_water 0 = .ok (.aload_n 0, 1) := by decide +kernel
theorem dX13_water_1 : decode cX13_water 1 = .ok (.iload_n 1, 1) := by decide +kernel
theorem dX13_water_2 : decode cX13_water 2 = .ok (.iload_n 2, 1) := by decide +kernel
theorem dX13_water_3 : decode cX13_water 3 = .ok (.invokevirtual 89, 3) := by decide +kernel
theorem dX13_water_6 : decode cX13_water 6 = .ok (.ifCond .eq 7, 3) := by decide +kernel
theorem dX13_water_9 : decode cX13_water 9 = .ok (.iconst 0, 1) := by decide +kernel
theorem dX13_water_10 : decode cX13_water 10 = .ok (.goto 17, 3) := by decide +kernel
theorem dX13_water_13 : decode cX13_water 13 = .ok (.aload_n 0, 1) := by decide +kernel
theorem dX13_water_14 : decode cX13_water 14 = .ok (.getfield 7, 3) := by decide +kernel
theorem dX13_water_17 : decode cX13_water 17 = .ok (.bipush 112, 2) := by decide +kernel
theorem dX13_water_19 : decode cX13_water 19 = .ok (.bipush 6, 2) := by decide +kernel
theorem dX13_water_21 : decode cX13_water 21 = .ok (.iload_n 1, 1) := by decide +kernel
theorem dX13_water_22 : decode cX13_water 22 = .ok (.imul, 1) := by decide +kernel
theorem dX13_water_23 : decode cX13_water 23 = .ok (.iadd, 1) := by decide +kernel
theorem dX13_water_24 : decode cX13_water 24 = .ok (.iload_n 2, 1) := by decide +kernel
theorem dX13_water_25 : decode cX13_water 25 = .ok (.iadd, 1) := by decide +kernel
theorem dX13_water_26 : decode cX13_water 26 = .ok (.iaload, 1) := by decide +kernel
theorem dX13_water_27 : decode cX13_water 27 = .ok (.ireturn, 1) := by decide +kernel
theorem dX13_endRow_0 : decode cX13_endRow 0 = .ok (.aload_n 0, 1) := by decide +kernel
theorem dX13_endRow_1 : decode cX13_endRow 1 = .ok (.iload_n 1, 1) := by decide +kernel
theorem dX13_endRow_2 : decode cX13_endRow 2 = .ok (.iload_n 2, 1) := by decide +kernel
theorem dX13_endRow_3 : decode cX13_endRow 3 = .ok (.invokevirtual 89, 3) := by decide +kernel
theorem dX13_endRow_6 : decode cX13_endRow 6 = .ok (.ifCond .eq 7, 3) := by decide +kernel
theorem dX13_endRow_9 : decode cX13_endRow 9 = .ok (.iconst 0, 1) := by decide +kernel
theorem dX13_endRow_10 : decode cX13_endRow 10 = .ok (.goto 16, 3) := by decide +kernel
theorem dX13_endRow_13 : decode cX13_endRow 13 = .ok (.aload_n 0, 1) := by decide +kernel
theorem dX13_endRow_14 : decode cX13_endRow 14 = .ok (.bipush 6, 2) := by decide +kernel
theorem dX13_endRow_16 : decode cX13_endRow 16 = .ok (.iload_n 1, 1) := by decide +kernel
theorem dX13_endRow_17 : decode cX13_endRow 17 = .ok (.imul, 1) := by decide +kernel
theorem dX13_endRow_18 : decode cX13_endRow 18 = .ok (.iload_n 2, 1) := by decide +kernel
theorem dX13_endRow_19 : decode cX13_endRow 19 = .ok (.iadd, 1) := by decide +kernel
theorem dX13_endRow_20 : decode cX13_endRow 20 = .ok (.invokevirtual 124, 3) := by decide +kernel
theorem dX13_endRow_23 : decode cX13_endRow 23 = .ok (.bipush 6, 2) := by decide +kernel
theorem dX13_endRow_25 : decode cX13_endRow 25 = .ok (.idiv, 1) := by decide +kernel
theorem dX13_endRow_26 : decode cX13_endRow 26 = .ok (.ireturn, 1) := by decide +kernel
theorem dX13_endColumn_0 : decode cX13_endColumn 0 = .ok (.aload_n 0, 1) := by decide +kernel
theorem dX13_endColumn_1 : decode cX13_endColumn 1 = .ok (.iload_n 1, 1) := by decide +kernel
theorem dX13_endColumn_2 : decode cX13_endColumn 2 = .ok (.iload_n 2, 1) := by decide +kernel
theorem dX13_endColumn_3 : decode cX13_endColumn 3 = .ok (.invokevirtual 89, 3) := by decide +kernel
theorem dX13_endColumn_6 : decode cX13_endColumn 6 = .ok (.ifCond .eq 7, 3) := by decide +kernel
theorem dX13_endColumn_9 : decode cX13_endColumn 9 = .ok (.iconst 0, 1) := by decide +kernel
theorem dX13_endColumn_10 : decode cX13_endColumn 10 = .ok (.goto 16, 3) := by decide +kernel
theorem dX13_endColumn_13 : decode cX13_endColumn 13 = .ok (.aload_n 0, 1) := by decide +kernel
theorem dX13_endColumn_14 : decode cX13_endColumn 14 = .ok (.bipush 6, 2) := by decide +kernel
theorem dX13_endColumn_16 : decode cX13_endColumn 16 = .ok (.iload_n 1, 1) := by decide +kernel
theorem dX13_endColumn_17 : decode cX13_endColumn 17 = .ok (.imul, 1) := by decide +kernel
theorem dX13_endColumn_18 : decode cX13_endColumn 18 = .ok (.iload_n 2, 1) := by decide +kernel
theorem dX13_endColumn_19 : decode cX13_endColumn 19 = .ok (.iadd, 1) := by decide +kernel
theorem dX13_endColumn_20 : decode cX13_endColumn 20 = .ok (.invokevirtual 124, 3) := by decide +kernel
theorem dX13_endColumn_23 : decode cX13_endColumn 23 = .ok (.bipush 6, 2) := by decide +kernel
theorem dX13_endColumn_25 : decode cX13_endColumn 25 = .ok (.irem, 1) := by decide +kernel
theorem dX13_endColumn_26 : decode cX13_endColumn 26 = .ok (.ireturn, 1) := by decide +kernel
theorem dX13_basins_0 : decode cX13_basins 0 = .ok (.aload_n 0, 1) := by decide +kernel
theorem dX13_basins_1 : decode cX13_basins 1 = .ok (.iconst 0, 1) := by decide +kernel
theorem dX13_basins_2 : decode cX13_basins 2 = .ok (.putfield 48, 3) := by decide +kernel
theorem dX13_basins_5 : decode cX13_basins 5 = .ok (.iconst 0, 1) := by decide +kernel
theorem dX13_basins_6 : decode cX13_basins 6 = .ok (.istore_n 1, 1) := by decide +kernel
theorem dX13_basins_7 : decode cX13_basins 7 = .ok (.iconst 0, 1) := by decide +kernel
theorem dX13_basins_8 : decode cX13_basins 8 = .ok (.istore_n 2, 1) := by decide +kernel
theorem dX13_basins_9 : decode cX13_basins 9 = .ok (.iload_n 2, 1) := by decide +kernel
theorem dX13_basins_10 : decode cX13_basins 10 = .ok (.bipush 36, 2) := by decide +kernel
theorem dX13_basins_12 : decode cX13_basins 12 = .ok (.if_icmp .ge 26, 3) := by decide +kernel
theorem dX13_basins_15 : decode cX13_basins 15 = .ok (.iload_n 1, 1) := by decide +kernel
theorem dX13_basins_16 : decode cX13_basins 16 = .ok (.aload_n 0, 1) := by decide +kernel
theorem dX13_basins_17 : decode cX13_basins 17 = .ok (.iload_n 2, 1) := by decide +kernel
theorem dX13_basins_18 : decode cX13_basins 18 = .ok (.invokevirtual 121, 3) := by decide +kernel
theorem dX13_basins_21 : decode cX13_basins 21 = .ok (.iload_n 2, 1) := by decide +kernel
theorem dX13_basins_22 : decode cX13_basins 22 = .ok (.if_icmp .ne 7, 3) := by decide +kernel
theorem dX13_basins_25 : decode cX13_basins 25 = .ok (.iconst 1, 1) := by decide +kernel
theorem dX13_basins_26 : decode cX13_basins 26 = .ok (.goto 4, 3) := by decide +kernel
theorem dX13_basins_29 : decode cX13_basins 29 = .ok (.iconst 0, 1) := by decide +kernel
theorem dX13_basins_30 : decode cX13_basins 30 = .ok (.iadd, 1) := by decide +kernel
theorem dX13_basins_31 : decode cX13_basins 31 = .ok (.istore_n 1, 1) := by decide +kernel
theorem dX13_basins_32 : decode cX13_basins 32 = .ok (.iinc 2 1, 3) := by decide +kernel
theorem dX13_basins_35 : decode cX13_basins 35 = .ok (.goto (-26), 3) := by decide +kernel
theorem dX13_basins_38 : decode cX13_basins 38 = .ok (.iload_n 1, 1) := by decide +kernel
theorem dX13_basins_39 : decode cX13_basins 39 = .ok (.ireturn, 1) := by decide +kernel
theorem dX13_basin_0 : decode cX13_basin 0 = .ok (.aload_n 0, 1) := by decide +kernel
theorem dX13_basin_1 : decode cX13_basin 1 = .ok (.iload_n 1, 1) := by decide +kernel
theorem dX13_basin_2 : decode cX13_basin 2 = .ok (.iload_n 2, 1) := by decide +kernel
theorem dX13_basin_3 : decode cX13_basin 3 = .ok (.invokevirtual 89, 3) := by decide +kernel
theorem dX13_basin_6 : decode cX13_basin 6 = .ok (.ifCond .eq 5, 3) := by decide +kernel
theorem dX13_basin_9 : decode cX13_basin 9 = .ok (.iconst 0, 1) := by decide +kernel
theorem dX13_basin_10 : decode cX13_basin 10 = .ok (.ireturn, 1) := by decide +kernel
theorem dX13_basin_11 : decode cX13_basin 11 = .ok (.aload_n 0, 1) := by decide +kernel
theorem dX13_basin_12 : decode cX13_basin 12 = .ok (.bipush 6, 2) := by decide +kernel
theorem dX13_basin_14 : decode cX13_basin 14 = .ok (.iload_n 1, 1) := by decide +kernel
theorem dX13_basin_15 : decode cX13_basin 15 = .ok (.imul, 1) := by decide +kernel
theorem dX13_basin_16 : decode cX13_basin 16 = .ok (.iload_n 2, 1) := by decide +kernel
theorem dX13_basin_17 : decode cX13_basin 17 = .ok (.iadd, 1) := by decide +kernel
theorem dX13_basin_18 : decode cX13_basin 18 = .ok (.invokevirtual 124, 3) := by decide +kernel
theorem dX13_basin_21 : decode cX13_basin 21 = .ok (.istore_n 3, 1) := by decide +kernel
theorem dX13_basin_22 : decode cX13_basin 22 = .ok (.iconst 0, 1) := by decide +kernel
theorem dX13_basin_23 : decode cX13_basin 23 = .ok (.istore 4, 2) := by decide +kernel
theorem dX13_basin_25 : decode cX13_basin 25 = .ok (.iconst 0, 1) := by decide +kernel
theorem dX13_basin_26 : decode cX13_basin 26 = .ok (.istore 5, 2) := by decide +kernel
theorem dX13_basin_28 : decode cX13_basin 28 = .ok (.iload 5, 2) := by decide +kernel
theorem dX13_basin_30 : decode cX13_basin 30 = .ok (.bipush 36, 2) := by decide +kernel
theorem dX13_basin_32 : decode cX13_basin 32 = .ok (.if_icmp .ge 29, 3) := by decide +kernel
theorem dX13_basin_35 : decode cX13_basin 35 = .ok (.iload 4, 2) := by decide +kernel
theorem dX13_basin_37 : decode cX13_basin 37 = .ok (.aload_n 0, 1) := by decide +kernel
theorem dX13_basin_38 : decode cX13_basin 38 = .ok (.iload 5, 2) := by decide +kernel
theorem dX13_basin_40 : decode cX13_basin 40 = .ok (.invokevirtual 124, 3) := by decide +kernel
theorem dX13_basin_43 : decode cX13_basin 43 = .ok (.iload_n 3, 1) := by decide +kernel
theorem dX13_basin_44 : decode cX13_basin 44 = .ok (.if_icmp .ne 7, 3) := by decide +kernel
theorem dX13_basin_47 : decode cX13_basin 47 = .ok (.iconst 1, 1) := by decide +kernel
theorem dX13_basin_48 : decode cX13_basin 48 = .ok (.goto 4, 3) := by decide +kernel
theorem dX13_basin_51 : decode cX13_basin 51 = .ok (.iconst 0, 1) := by decide +kernel
theorem dX13_basin_52 : decode cX13_basin 52 = .ok (.iadd, 1) := by decide +kernel
theorem dX13_basin_53 : decode cX13_basin 53 = .ok (.istore 4, 2) := by decide +kernel
theorem dX13_basin_55 : decode cX13_basin 55 = .ok (.iinc 5 1, 3) := by decide +kernel
theorem dX13_basin_58 : decode cX13_basin 58 = .ok (.goto (-30), 3) := by decide +kernel
theorem dX13_basin_61 : decode cX13_basin 61 = .ok (.iload 4, 2) := by decide +kernel
theorem dX13_basin_63 : decode cX13_basin 63 = .ok (.ireturn, 1) := by decide +kernel
theorem dX13_basinSize_0 : decode cX13_basinSize 0 = .ok (.aload_n 0, 1) := by decide +kernel
theorem dX13_basinSize_1 : decode cX13_basinSize 1 = .ok (.iload_n 1, 1) := by decide +kernel
theorem dX13_basinSize_2 : decode cX13_basinSize 2 = .ok (.iload_n 2, 1) := by decide +kernel
theorem dX13_basinSize_3 : decode cX13_basinSize 3 = .ok (.invokevirtual 130, 3) := by decide +kernel
theorem dX13_basinSize_6 : decode cX13_basinSize 6 = .ok (.ireturn, 1) := by decide +kernel
theorem dX13_basinSizeUpwards_0 : decode cX13_basinSizeUpwards 0 = .ok (.aload_n 0, 1) := by decide +kernel
theorem dX13_basinSizeUpwards_1 : decode cX13_basinSizeUpwards 1 = .ok (.iload_n 1, 1) := by decide +kernel
theorem dX13_basinSizeUpwards_2 : decode cX13_basinSizeUpwards 2 = .ok (.iload_n 2, 1) := by decide +kernel
theorem dX13_basinSizeUpwards_3 : decode cX13_basinSizeUpwards 3 = .ok (.invokevirtual 130, 3) := by decide +kernel
theorem dX13_basinSizeUpwards_6 : decode cX13_basinSizeUpwards 6 = .ok (.ireturn, 1) := by decide +kernel
theorem dX13_spills_0 : decode cX13_spills 0 = .ok (.iconst 0, 1) := by decide +kernel
theorem dX13_spills_1 : decode cX13_spills 1 = .ok (.istore_n 1, 1) := by decide +kernel
theorem dX13_spills_2 : decode cX13_spills 2 = .ok (.iload_n 1, 1) := by decide +kernel
theorem dX13_spills_3 : decode cX13_spills 3 = .ok (.bipush 36, 2) := by decide +kernel
theorem dX13_spills_5 : decode cX13_spills 5 = .ok (.if_icmp .ge 73, 3) := by decide +kernel
theorem dX13_spills_8 : decode cX13_spills 8 = .ok (.iload_n 1, 1) := by decide +kernel
theorem dX13_spills_9 : decode cX13_spills 9 = .ok (.bipush 6, 2) := by decide +kernel
theorem dX13_spills_11 : decode cX13_spills 11 = .ok (.idiv, 1) := by decide +kernel
theorem dX13_spills_12 : decode cX13_spills 12 = .ok (.ifCond .eq 34, 3) := by decide +kernel
theorem dX13_spills_15 : decode cX13_spills 15 = .ok (.iload_n 1, 1) := by decide +kernel
theorem dX13_spills_16 : decode cX13_spills 16 = .ok (.bipush 6, 2) := by decide +kernel
theorem dX13_spills_18 : decode cX13_spills 18 = .ok (.idiv, 1) := by decide +kernel
theorem dX13_spills_19 : decode cX13_spills 19 = .ok (.iconst 5, 1) := by decide +kernel
theorem dX13_spills_20 : decode cX13_spills 20 = .ok (.if_icmp .eq 26, 3) := by decide +kernel
theorem dX13_spills_23 : decode cX13_spills 23 = .ok (.iload_n 1, 1) := by decide +kernel
theorem dX13_spills_24 : decode cX13_spills 24 = .ok (.bipush 6, 2) := by decide +kernel
theorem dX13_spills_26 : decode cX13_spills 26 = .ok (.irem, 1) := by decide +kernel
theorem dX13_spills_27 : decode cX13_spills 27 = .ok (.ifCond .eq 19, 3) := by decide +kernel
theorem dX13_spills_30 : decode cX13_spills 30 = .ok (.iload_n 1, 1) := by decide +kernel
theorem dX13_spills_31 : decode cX13_spills 31 = .ok (.bipush 6, 2) := by decide +kernel
theorem dX13_spills_33 : decode cX13_spills 33 = .ok (.irem, 1) := by decide +kernel
theorem dX13_spills_34 : decode cX13_spills 34 = .ok (.iconst 5, 1) := by decide +kernel
theorem dX13_spills_35 : decode cX13_spills 35 = .ok (.if_icmp .eq 11, 3) := by decide +kernel
theorem dX13_spills_38 : decode cX13_spills 38 = .ok (.aload_n 0, 1) := by decide +kernel
theorem dX13_spills_39 : decode cX13_spills 39 = .ok (.iload_n 1, 1) := by decide +kernel
theorem dX13_spills_40 : decode cX13_spills 40 = .ok (.invokevirtual 86, 3) := by decide +kernel
theorem dX13_spills_43 : decode cX13_spills 43 = .ok (.ifCond .eq 7, 3) := by decide +kernel
theorem dX13_spills_46 : decode cX13_spills 46 = .ok (.iconst 1, 1) := by decide +kernel
theorem dX13_spills_47 : decode cX13_spills 47 = .ok (.goto 4, 3) := by decide +kernel
theorem dX13_spills_50 : decode cX13_spills 50 = .ok (.iconst 0, 1) := by decide +kernel
theorem dX13_spills_51 : decode cX13_spills 51 = .ok (.istore_n 2, 1) := by decide +kernel
theorem dX13_spills_52 : decode cX13_spills 52 = .ok (.aload_n 0, 1) := by decide +kernel
theorem dX13_spills_53 : decode cX13_spills 53 = .ok (.getfield 42, 3) := by decide +kernel
theorem dX13_spills_56 : decode cX13_spills 56 = .ok (.iload_n 1, 1) := by decide +kernel
theorem dX13_spills_57 : decode cX13_spills 57 = .ok (.iload_n 2, 1) := by decide +kernel
theorem dX13_spills_58 : decode cX13_spills 58 = .ok (.ifCond .eq 11, 3) := by decide +kernel
theorem dX13_spills_61 : decode cX13_spills 61 = .ok (.aload_n 0, 1) := by decide +kernel
theorem dX13_spills_62 : decode cX13_spills 62 = .ok (.iload_n 1, 1) := by decide +kernel
theorem dX13_spills_63 : decode cX13_spills 63 = .ok (.invokevirtual 92, 3) := by decide +kernel
theorem dX13_spills_66 : decode cX13_spills 66 = .ok (.goto 5, 3) := by decide +kernel
theorem dX13_spills_69 : decode cX13_spills 69 = .ok (.ldc 133, 2) := by decide +kernel
theorem dX13_spills_71 : decode cX13_spills 71 = .ok (.iastore, 1) := by decide +kernel
theorem dX13_spills_72 : decode cX13_spills 72 = .ok (.iinc 1 1, 3) := by decide +kernel
theorem dX13_spills_75 : decode cX13_spills 75 = .ok (.goto (-73), 3) := by decide +kernel
theorem dX13_spills_78 : decode cX13_spills 78 = .ok (.iconst 1, 1) := by decide +kernel
theorem dX13_spills_79 : decode cX13_spills 79 = .ok (.istore_n 1, 1) := by decide +kernel
theorem dX13_spills_80 : decode cX13_spills 80 = .ok (.iload_n 1, 1) := by decide +kernel
theorem dX13_spills_81 : decode cX13_spills 81 = .ok (.ifCond .eq 97, 3) := by decide +kernel
theorem dX13_spills_84 : decode cX13_spills 84 = .ok (.iconst 0, 1) := by decide +kernel
theorem dX13_spills_85 : decode cX13_spills 85 = .ok (.istore_n 1, 1) := by decide +kernel
theorem dX13_spills_86 : decode cX13_spills 86 = .ok (.iconst 0, 1) := by decide +kernel
theorem dX13_spills_87 : decode cX13_spills 87 = .ok (.istore_n 2, 1) := by decide +kernel
theorem dX13_spills_88 : decode cX13_spills 88 = .ok (.iload_n 2, 1) := by decide +kernel
theorem dX13_spills_89 : decode cX13_spills 89 = .ok (.bipush 36, 2) := by decide +kernel
theorem dX13_spills_91 : decode cX13_spills 91 = .ok (.if_icmp .ge 84, 3) := by decide +kernel
theorem dX13_spills_94 : decode cX13_spills 94 = .ok (.iconst 0, 1) := by decide +kernel
theorem dX13_spills_95 : decode cX13_spills 95 = .ok (.istore_n 3, 1) := by decide +kernel
theorem dX13_spills_96 : decode cX13_spills 96 = .ok (.iload_n 3, 1) := by decide +kernel
theorem dX13_spills_97 : decode cX13_spills 97 = .ok (.iconst 4, 1) := by decide +kernel
theorem dX13_spills_98 : decode cX13_spills 98 = .ok (.if_icmp .ge 71, 3) := by decide +kernel
theorem dX13_spills_101 : decode cX13_spills 101 = .ok (.iload_n 2, 1) := by decide +kernel
theorem dX13_spills_102 : decode cX13_spills 102 = .ok (.iload_n 3, 1) := by decide +kernel
theorem dX13_spills_103 : decode cX13_spills 103 = .ok (.invokestatic 111, 3) := by decide +kernel
theorem dX13_spills_106 : decode cX13_spills 106 = .ok (.istore 4, 2) := by decide +kernel
theorem dX13_spills_108 : decode cX13_spills 108 = .ok (.iload 4, 2) := by decide +kernel
theorem dX13_spills_110 : decode cX13_spills 110 = .ok (.ifCond .lt 53, 3) := by decide +kernel
theorem dX13_spills_113 : decode cX13_spills 113 = .ok (.aload_n 0, 1) := by decide +kernel
theorem dX13_spills_114 : decode cX13_spills 114 = .ok (.getfield 42, 3) := by decide +kernel
theorem dX13_spills_117 : decode cX13_spills 117 = .ok (.iload 4, 2) := by decide +kernel
theorem dX13_spills_119 : decode cX13_spills 119 = .ok (.iaload, 1) := by decide +kernel
theorem dX13_spills_120 : decode cX13_spills 120 = .ok (.aload_n 0, 1) := by decide +kernel
theorem dX13_spills_121 : decode cX13_spills 121 = .ok (.iload_n 2, 1) := by decide +kernel
theorem dX13_spills_122 : decode cX13_spills 122 = .ok (.invokevirtual 92, 3) := by decide +kernel
theorem dX13_spills_125 : decode cX13_spills 125 = .ok (.invokestatic 134, 3) := by decide +kernel
theorem dX13_spills_128 : decode cX13_spills 128 = .ok (.aload_n 0, 1) := by decide +kernel
theorem dX13_spills_129 : decode cX13_spills 129 = .ok (.getfield 42, 3) := by decide +kernel
theorem dX13_spills_132 : decode cX13_spills 132 = .ok (.iload_n 2, 1) := by decide +kernel
theorem dX13_spills_133 : decode cX13_spills 133 = .ok (.iaload, 1) := by decide +kernel
theorem dX13_spills_134 : decode cX13_spills 134 = .ok (.if_icmp .lt 6, 3) := by decide +kernel
theorem dX13_spills_137 : decode cX13_spills 137 = .ok (.goto 26, 3) := by decide +kernel
theorem dX13_spills_140 : decode cX13_spills 140 = .ok (.aload_n 0, 1) := by decide +kernel
theorem dX13_spills_141 : decode cX13_spills 141 = .ok (.getfield 42, 3) := by decide +kernel
theorem dX13_spills_144 : decode cX13_spills 144 = .ok (.iload_n 2, 1) := by decide +kernel
theorem dX13_spills_145 : decode cX13_spills 145 = .ok (.aload_n 0, 1) := by decide +kernel
theorem dX13_spills_146 : decode cX13_spills 146 = .ok (.getfield 42, 3) := by decide +kernel
theorem dX13_spills_149 : decode cX13_spills 149 = .ok (.iload 4, 2) := by decide +kernel
theorem dX13_spills_151 : decode cX13_spills 151 = .ok (.iaload, 1) := by decide +kernel
theorem dX13_spills_152 : decode cX13_spills 152 = .ok (.aload_n 0, 1) := by decide +kernel
theorem dX13_spills_153 : decode cX13_spills 153 = .ok (.iload_n 2, 1) := by decide +kernel
theorem dX13_spills_154 : decode cX13_spills 154 = .ok (.invokevirtual 92, 3) := by decide +kernel
theorem dX13_spills_157 : decode cX13_spills 157 = .ok (.invokestatic 134, 3) := by decide +kernel
theorem dX13_spills_160 : decode cX13_spills 160 = .ok (.iastore, 1) := by decide +kernel
theorem dX13_spills_161 : decode cX13_spills 161 = .ok (.iconst 1, 1) := by decide +kernel
theorem dX13_spills_162 : decode cX13_spills 162 = .ok (.istore_n 1, 1) := by decide +kernel
theorem dX13_spills_163 : decode cX13_spills 163 = .ok (.iinc 3 1, 3) := by decide +kernel
theorem dX13_spills_166 : decode cX13_spills 166 = .ok (.goto (-70), 3) := by decide +kernel
theorem dX13_spills_169 : decode cX13_spills 169 = .ok (.iinc 2 1, 3) := by decide +kernel
theorem dX13_spills_172 : decode cX13_spills 172 = .ok (.goto (-84), 3) := by decide +kernel
theorem dX13_spills_175 : decode cX13_spills 175 = .ok (.goto (-95), 3) := by decide +kernel
theorem dX13_spills_178 : decode cX13_spills 178 = .ok (.return_, 1) := by decide +kernel
theorem dX13_spill_0 : decode cX13_spill 0 = .ok (.aload_n 0, 1) := by decide +kernel
theorem dX13_spill_1 : decode cX13_spill 1 = .ok (.iload_n 1, 1) := by decide +kernel
theorem dX13_spill_2 : decode cX13_spill 2 = .ok (.iload_n 2, 1) := by decide +kernel
theorem dX13_spill_3 : decode cX13_spill 3 = .ok (.invokevirtual 89, 3) := by decide +kernel
theorem dX13_spill_6 : decode cX13_spill 6 = .ok (.ifCond .eq 5, 3) := by decide +kernel
theorem dX13_spill_9 : decode cX13_spill 9 = .ok (.iconst 0, 1) := by decide +kernel
theorem dX13_spill_10 : decode cX13_spill 10 = .ok (.ireturn, 1) := by decide +kernel
theorem dX13_spill_11 : decode cX13_spill 11 = .ok (.aload_n 0, 1) := by decide +kernel
theorem dX13_spill_12 : decode cX13_spill 12 = .ok (.invokevirtual 137, 3) := by decide +kernel
theorem dX13_spill_15 : decode cX13_spill 15 = .ok (.aload_n 0, 1) := by decide +kernel
theorem dX13_spill_16 : decode cX13_spill 16 = .ok (.getfield 42, 3) := by decide +kernel
theorem dX13_spill_19 : decode cX13_spill 19 = .ok (.bipush 6, 2) := by decide +kernel
theorem dX13_spill_21 : decode cX13_spill 21 = .ok (.iload_n 1, 1) := by decide +kernel
theorem dX13_spill_22 : decode cX13_spill 22 = .ok (.imul, 1) := by decide +kernel
theorem dX13_spill_23 : decode cX13_spill 23 = .ok (.iload_n 2, 1) := by decide +kernel
theorem dX13_spill_24 : decode cX13_spill 24 = .ok (.iadd, 1) := by decide +kernel
theorem dX13_spill_25 : decode cX13_spill 25 = .ok (.iaload, 1) := by decide +kernel
theorem dX13_spill_26 : decode cX13_spill 26 = .ok (.ireturn, 1) := by decide +kernel
theorem dX13_spillLevel_0 : decode cX13_spillLevel 0 = .ok (.aload_n 0, 1) := by decide +kernel
theorem dX13_spillLevel_1 : decode cX13_spillLevel 1 = .ok (.iload_n 1, 1) := by decide +kernel
theorem dX13_spillLevel_2 : decode cX13_spillLevel 2 = .ok (.iload_n 2, 1) := by decide +kernel
theorem dX13_spillLevel_3 : decode cX13_spillLevel 3 = .ok (.invokevirtual 140, 3) := by decide +kernel
theorem dX13_spillLevel_6 : decode cX13_spillLevel 6 = .ok (.ireturn, 1) := by decide +kernel
theorem dX13_spillLevelByRounds_0 : decode cX13_spillLevelByRounds 0 = .ok (.aload_n 0, 1) := by decide +kernel
theorem dX13_spillLevelByRounds_1 : decode cX13_spillLevelByRounds 1 = .ok (.iload_n 1, 1) := by decide +kernel
theorem dX13_spillLevelByRounds_2 : decode cX13_spillLevelByRounds 2 = .ok (.iload_n 2, 1) := by decide +kernel
theorem dX13_spillLevelByRounds_3 : decode cX13_spillLevelByRounds 3 = .ok (.invokevirtual 140, 3) := by decide +kernel
theorem dX13_spillLevelByRounds_6 : decode cX13_spillLevelByRounds 6 = .ok (.ireturn, 1) := by decide +kernel
theorem dX13_pondVolume_0 : decode cX13_pondVolume 0 = .ok (.aload_n 0, 1) := by decide +kernel
theorem dX13_pondVolume_1 : decode cX13_pondVolume 1 = .ok (.iconst 0, 1) := by decide +kernel
theorem dX13_pondVolume_2 : decode cX13_pondVolume 2 = .ok (.putfield 48, 3) := by decide +kernel
theorem dX13_pondVolume_5 : decode cX13_pondVolume 5 = .ok (.aload_n 0, 1) := by decide +kernel
theorem dX13_pondVolume_6 : decode cX13_pondVolume 6 = .ok (.invokevirtual 137, 3) := by decide +kernel
theorem dX13_pondVolume_9 : decode cX13_pondVolume 9 = .ok (.iconst 0, 1) := by decide +kernel
theorem dX13_pondVolume_10 : decode cX13_pondVolume 10 = .ok (.istore_n 1, 1) := by decide +kernel
theorem dX13_pondVolume_11 : decode cX13_pondVolume 11 = .ok (.iconst 0, 1) := by decide +kernel
theorem dX13_pondVolume_12 : decode cX13_pondVolume 12 = .ok (.istore_n 2, 1) := by decide +kernel
theorem dX13_pondVolume_13 : decode cX13_pondVolume 13 = .ok (.iload_n 2, 1) := by decide +kernel
theorem dX13_pondVolume_14 : decode cX13_pondVolume 14 = .ok (.bipush 36, 2) := by decide +kernel
theorem dX13_pondVolume_16 : decode cX13_pondVolume 16 = .ok (.if_icmp .ge 24, 3) := by decide +kernel
theorem dX13_pondVolume_19 : decode cX13_pondVolume 19 = .ok (.iload_n 1, 1) := by decide +kernel
theorem dX13_pondVolume_20 : decode cX13_pondVolume 20 = .ok (.aload_n 0, 1) := by decide +kernel
theorem dX13_pondVolume_21 : decode cX13_pondVolume 21 = .ok (.getfield 42, 3) := by decide +kernel
theorem dX13_pondVolume_24 : decode cX13_pondVolume 24 = .ok (.iload_n 2, 1) := by decide +kernel
theorem dX13_pondVolume_25 : decode cX13_pondVolume 25 = .ok (.iaload, 1) := by decide +kernel
theorem dX13_pondVolume_26 : decode cX13_pondVolume 26 = .ok (.aload_n 0, 1) := by decide +kernel
theorem dX13_pondVolume_27 : decode cX13_pondVolume 27 = .ok (.iload_n 2, 1) := by decide +kernel
theorem dX13_pondVolume_28 : decode cX13_pondVolume 28 = .ok (.invokevirtual 92, 3) := by decide +kernel
theorem dX13_pondVolume_31 : decode cX13_pondVolume 31 = .ok (.isub, 1) := by decide +kernel
theorem dX13_pondVolume_32 : decode cX13_pondVolume 32 = .ok (.iadd, 1) := by decide +kernel
theorem dX13_pondVolume_33 : decode cX13_pondVolume 33 = .ok (.istore_n 1, 1) := by decide +kernel
theorem dX13_pondVolume_34 : decode cX13_pondVolume 34 = .ok (.iinc 2 1, 3) := by decide +kernel
theorem dX13_pondVolume_37 : decode cX13_pondVolume 37 = .ok (.goto (-24), 3) := by decide +kernel
theorem dX13_pondVolume_40 : decode cX13_pondVolume 40 = .ok (.iload_n 1, 1) := by decide +kernel
theorem dX13_pondVolume_41 : decode cX13_pondVolume 41 = .ok (.ireturn, 1) := by decide +kernel
theorem dX13_routes_0 : decode cX13_routes 0 = .ok (.iconst 0, 1) := by decide +kernel
theorem dX13_routes_1 : decode cX13_routes 1 = .ok (.istore_n 3, 1) := by decide +kernel
theorem dX13_routes_2 : decode cX13_routes 2 = .ok (.iload_n 3, 1) := by decide +kernel
theorem dX13_routes_3 : decode cX13_routes 3 = .ok (.bipush 36, 2) := by decide +kernel
theorem dX13_routes_5 : decode cX13_routes 5 = .ok (.if_icmp .ge 34, 3) := by decide +kernel
theorem dX13_routes_8 : decode cX13_routes 8 = .ok (.aload_n 0, 1) := by decide +kernel
theorem dX13_routes_9 : decode cX13_routes 9 = .ok (.getfield 42, 3) := by decide +kernel
theorem dX13_routes_12 : decode cX13_routes 12 = .ok (.iload_n 3, 1) := by decide +kernel
theorem dX13_routes_13 : decode cX13_routes 13 = .ok (.iload_n 3, 1) := by decide +kernel
theorem dX13_routes_14 : decode cX13_routes 14 = .ok (.iload_n 1, 1) := by decide +kernel
theorem dX13_routes_15 : decode cX13_routes 15 = .ok (.if_icmp .ne 15, 3) := by decide +kernel
theorem dX13_routes_18 : decode cX13_routes 18 = .ok (.aload_n 0, 1) := by decide +kernel
theorem dX13_routes_19 : decode cX13_routes 19 = .ok (.iload_n 3, 1) := by decide +kernel
theorem dX13_routes_20 : decode cX13_routes 20 = .ok (.invokevirtual 86, 3) := by decide +kernel
theorem dX13_routes_23 : decode cX13_routes 23 = .ok (.ifCond .ne 7, 3) := by decide +kernel
theorem dX13_routes_26 : decode cX13_routes 26 = .ok (.iconst 0, 1) := by decide +kernel
theorem dX13_routes_27 : decode cX13_routes 27 = .ok (.goto 5, 3) := by decide +kernel
theorem dX13_routes_30 : decode cX13_routes 30 = .ok (.ldc 133, 2) := by decide +kernel
theorem dX13_routes_32 : decode cX13_routes 32 = .ok (.iastore, 1) := by decide +kernel
theorem dX13_routes_33 : decode cX13_routes 33 = .ok (.iinc 3 1, 3) := by decide +kernel
theorem dX13_routes_36 : decode cX13_routes 36 = .ok (.goto (-34), 3) := by decide +kernel
theorem dX13_routes_39 : decode cX13_routes 39 = .ok (.iconst 1, 1) := by decide +kernel
theorem dX13_routes_40 : decode cX13_routes 40 = .ok (.istore_n 3, 1) := by decide +kernel
theorem dX13_routes_41 : decode cX13_routes 41 = .ok (.iload_n 3, 1) := by decide +kernel
theorem dX13_routes_42 : decode cX13_routes 42 = .ok (.ifCond .eq 154, 3) := by decide +kernel
theorem dX13_routes_45 : decode cX13_routes 45 = .ok (.iconst 0, 1) := by decide +kernel
theorem dX13_routes_46 : decode cX13_routes 46 = .ok (.istore_n 3, 1) := by decide +kernel
theorem dX13_routes_47 : decode cX13_routes 47 = .ok (.iconst 0, 1) := by decide +kernel
theorem dX13_routes_48 : decode cX13_routes 48 = .ok (.istore 4, 2) := by decide +kernel
theorem dX13_routes_50 : decode cX13_routes 50 = .ok (.iload 4, 2) := by decide +kernel
theorem dX13_routes_52 : decode cX13_routes 52 = .ok (.bipush 36, 2) := by decide +kernel
theorem dX13_routes_54 : decode cX13_routes 54 = .ok (.if_icmp .ge 139, 3) := by decide +kernel
theorem dX13_routes_57 : decode cX13_routes 57 = .ok (.iconst 0, 1) := by decide +kernel
theorem dX13_routes_58 : decode cX13_routes 58 = .ok (.istore 5, 2) := by decide +kernel
theorem dX13_routes_60 : decode cX13_routes 60 = .ok (.iload 5, 2) := by decide +kernel
theorem dX13_routes_62 : decode cX13_routes 62 = .ok (.iconst 4, 1) := by decide +kernel
theorem dX13_routes_63 : decode cX13_routes 63 = .ok (.if_icmp .ge 124, 3) := by decide +kernel
theorem dX13_routes_66 : decode cX13_routes 66 = .ok (.aload_n 0, 1) := by decide +kernel
theorem dX13_routes_67 : decode cX13_routes 67 = .ok (.iload 4, 2) := by decide +kernel
theorem dX13_routes_69 : decode cX13_routes 69 = .ok (.invokevirtual 86, 3) := by decide +kernel
theorem dX13_routes_72 : decode cX13_routes 72 = .ok (.ifCond .ne 115, 3) := by decide +kernel
theorem dX13_routes_75 : decode cX13_routes 75 = .ok (.iload 4, 2) := by decide +kernel
theorem dX13_routes_77 : decode cX13_routes 77 = .ok (.iload 5, 2) := by decide +kernel
theorem dX13_routes_79 : decode cX13_routes 79 = .ok (.invokestatic 111, 3) := by decide +kernel
theorem dX13_routes_82 : decode cX13_routes 82 = .ok (.istore 6, 2) := by decide +kernel
theorem dX13_routes_84 : decode cX13_routes 84 = .ok (.iload 6, 2) := by decide +kernel
theorem dX13_routes_86 : decode cX13_routes 86 = .ok (.ifCond .lt 95, 3) := by decide +kernel
theorem dX13_routes_89 : decode cX13_routes 89 = .ok (.aload_n 0, 1) := by decide +kernel
theorem dX13_routes_90 : decode cX13_routes 90 = .ok (.getfield 42, 3) := by decide +kernel
theorem dX13_routes_93 : decode cX13_routes 93 = .ok (.iload 6, 2) := by decide +kernel
theorem dX13_routes_95 : decode cX13_routes 95 = .ok (.iaload, 1) := by decide +kernel
theorem dX13_routes_96 : decode cX13_routes 96 = .ok (.ldc 133, 2) := by decide +kernel
theorem dX13_routes_98 : decode cX13_routes 98 = .ok (.if_icmp .ne 6, 3) := by decide +kernel
theorem dX13_routes_101 : decode cX13_routes 101 = .ok (.goto 80, 3) := by decide +kernel
theorem dX13_routes_104 : decode cX13_routes 104 = .ok (.aload_n 0, 1) := by decide +kernel
theorem dX13_routes_105 : decode cX13_routes 105 = .ok (.iload 6, 2) := by decide +kernel
theorem dX13_routes_107 : decode cX13_routes 107 = .ok (.invokevirtual 92, 3) := by decide +kernel
theorem dX13_routes_110 : decode cX13_routes 110 = .ok (.aload_n 0, 1) := by decide +kernel
theorem dX13_routes_111 : decode cX13_routes 111 = .ok (.iload 4, 2) := by decide +kernel
theorem dX13_routes_113 : decode cX13_routes 113 = .ok (.invokevirtual 92, 3) := by decide +kernel
theorem dX13_routes_116 : decode cX13_routes 116 = .ok (.isub, 1) := by decide +kernel
theorem dX13_routes_117 : decode cX13_routes 117 = .ok (.invokestatic 143, 3) := by decide +kernel
theorem dX13_routes_120 : decode cX13_routes 120 = .ok (.istore 7, 2) := by decide +kernel
theorem dX13_routes_122 : decode cX13_routes 122 = .ok (.iload_n 2, 1) := by decide +kernel
theorem dX13_routes_123 : decode cX13_routes 123 = .ok (.ifCond .eq 18, 3) := by decide +kernel
theorem dX13_routes_126 : decode cX13_routes 126 = .ok (.aload_n 0, 1) := by decide +kernel
theorem dX13_routes_127 : decode cX13_routes 127 = .ok (.getfield 42, 3) := by decide +kernel
theorem dX13_routes_130 : decode cX13_routes 130 = .ok (.iload 6, 2) := by decide +kernel
theorem dX13_routes_132 : decode cX13_routes 132 = .ok (.iaload, 1) := by decide +kernel
theorem dX13_routes_133 : decode cX13_routes 133 = .ok (.iload 7, 2) := by decide +kernel
theorem dX13_routes_135 : decode cX13_routes 135 = .ok (.invokestatic 134, 3) := by decide +kernel
theorem dX13_routes_138 : decode cX13_routes 138 = .ok (.goto 15, 3) := by decide +kernel
theorem dX13_routes_141 : decode cX13_routes 141 = .ok (.aload_n 0, 1) := by decide +kernel
theorem dX13_routes_142 : decode cX13_routes 142 = .ok (.getfield 42, 3) := by decide +kernel
theorem dX13_routes_145 : decode cX13_routes 145 = .ok (.iload 6, 2) := by decide +kernel
theorem dX13_routes_147 : decode cX13_routes 147 = .ok (.iaload, 1) := by decide +kernel
theorem dX13_routes_148 : decode cX13_routes 148 = .ok (.iconst 1, 1) := by decide +kernel
theorem dX13_routes_149 : decode cX13_routes 149 = .ok (.iadd, 1) := by decide +kernel
theorem dX13_routes_150 : decode cX13_routes 150 = .ok (.iload 7, 2) := by decide +kernel
theorem dX13_routes_152 : decode cX13_routes 152 = .ok (.iadd, 1) := by decide +kernel
theorem dX13_routes_153 : decode cX13_routes 153 = .ok (.istore 8, 2) := by decide +kernel
theorem dX13_routes_155 : decode cX13_routes 155 = .ok (.iload 8, 2) := by decide +kernel
theorem dX13_routes_157 : decode cX13_routes 157 = .ok (.aload_n 0, 1) := by decide +kernel
theorem dX13_routes_158 : decode cX13_routes 158 = .ok (.getfield 42, 3) := by decide +kernel
theorem dX13_routes_161 : decode cX13_routes 161 = .ok (.iload 4, 2) := by decide +kernel
theorem dX13_routes_163 : decode cX13_routes 163 = .ok (.iaload, 1) := by decide +kernel
theorem dX13_routes_164 : decode cX13_routes 164 = .ok (.if_icmp .lt 6, 3) := by decide +kernel
theorem dX13_routes_167 : decode cX13_routes 167 = .ok (.goto 14, 3) := by decide +kernel
theorem dX13_routes_170 : decode cX13_routes 170 = .ok (.aload_n 0, 1) := by decide +kernel
theorem dX13_routes_171 : decode cX13_routes 171 = .ok (.getfield 42, 3) := by decide +kernel
theorem dX13_routes_174 : decode cX13_routes 174 = .ok (.iload 4, 2) := by decide +kernel
theorem dX13_routes_176 : decode cX13_routes 176 = .ok (.iload 8, 2) := by decide +kernel
theorem dX13_routes_178 : decode cX13_routes 178 = .ok (.iastore, 1) := by decide +kernel
theorem dX13_routes_179 : decode cX13_routes 179 = .ok (.iconst 1, 1) := by decide +kernel
theorem dX13_routes_180 : decode cX13_routes 180 = .ok (.istore_n 3, 1) := by decide +kernel
theorem dX13_routes_181 : decode cX13_routes 181 = .ok (.iinc 5 1, 3) := by decide +kernel
theorem dX13_routes_184 : decode cX13_routes 184 = .ok (.goto (-124), 3) := by decide +kernel
theorem dX13_routes_187 : decode cX13_routes 187 = .ok (.iinc 4 1, 3) := by decide +kernel
theorem dX13_routes_190 : decode cX13_routes 190 = .ok (.goto (-140), 3) := by decide +kernel
theorem dX13_routes_193 : decode cX13_routes 193 = .ok (.goto (-152), 3) := by decide +kernel
theorem dX13_routes_196 : decode cX13_routes 196 = .ok (.return_, 1) := by decide +kernel
theorem dX13_route_0 : decode cX13_route 0 = .ok (.aload_n 0, 1) := by decide +kernel
theorem dX13_route_1 : decode cX13_route 1 = .ok (.iload_n 3, 1) := by decide +kernel
theorem dX13_route_2 : decode cX13_route 2 = .ok (.ifCond .eq 7, 3) := by decide +kernel
theorem dX13_route_5 : decode cX13_route 5 = .ok (.iconst 0, 1) := by decide +kernel
theorem dX13_route_6 : decode cX13_route 6 = .ok (.goto 4, 3) := by decide +kernel
theorem dX13_route_9 : decode cX13_route 9 = .ok (.iconst 1, 1) := by decide +kernel
theorem dX13_route_10 : decode cX13_route 10 = .ok (.invokevirtual 82, 3) := by decide +kernel
theorem dX13_route_13 : decode cX13_route 13 = .ok (.ifCond .eq 5, 3) := by decide +kernel
theorem dX13_route_16 : decode cX13_route 16 = .ok (.iconst 0, 1) := by decide +kernel
theorem dX13_route_17 : decode cX13_route 17 = .ok (.ireturn, 1) := by decide +kernel
theorem dX13_route_18 : decode cX13_route 18 = .ok (.aload_n 0, 1) := by decide +kernel
theorem dX13_route_19 : decode cX13_route 19 = .ok (.iload_n 1, 1) := by decide +kernel
theorem dX13_route_20 : decode cX13_route 20 = .ok (.iload 4, 2) := by decide +kernel
theorem dX13_route_22 : decode cX13_route 22 = .ok (.invokevirtual 146, 3) := by decide +kernel
theorem dX13_route_25 : decode cX13_route 25 = .ok (.aload_n 0, 1) := by decide +kernel
theorem dX13_route_26 : decode cX13_route 26 = .ok (.aload_n 0, 1) := by decide +kernel
theorem dX13_route_27 : decode cX13_route 27 = .ok (.getfield 42, 3) := by decide +kernel
theorem dX13_route_30 : decode cX13_route 30 = .ok (.iload_n 2, 1) := by decide +kernel
theorem dX13_route_31 : decode cX13_route 31 = .ok (.iaload, 1) := by decide +kernel
theorem dX13_route_32 : decode cX13_route 32 = .ok (.ldc 133, 2) := by decide +kernel
theorem dX13_route_34 : decode cX13_route 34 = .ok (.if_icmp .ne 7, 3) := by decide +kernel
theorem dX13_route_37 : decode cX13_route 37 = .ok (.iconst 2, 1) := by decide +kernel
theorem dX13_route_38 : decode cX13_route 38 = .ok (.goto 4, 3) := by decide +kernel
theorem dX13_route_41 : decode cX13_route 41 = .ok (.iconst 0, 1) := by decide +kernel
theorem dX13_route_42 : decode cX13_route 42 = .ok (.invokevirtual 82, 3) := by decide +kernel
theorem dX13_route_45 : decode cX13_route 45 = .ok (.ifCond .eq 7, 3) := by decide +kernel
theorem dX13_route_48 : decode cX13_route 48 = .ok (.iconst 0, 1) := by decide +kernel
theorem dX13_route_49 : decode cX13_route 49 = .ok (.goto 9, 3) := by decide +kernel
theorem dX13_route_52 : decode cX13_route 52 = .ok (.aload_n 0, 1) := by decide +kernel
theorem dX13_route_53 : decode cX13_route 53 = .ok (.getfield 42, 3) := by decide +kernel
theorem dX13_route_56 : decode cX13_route 56 = .ok (.iload_n 2, 1) := by decide +kernel
theorem dX13_route_57 : decode cX13_route 57 = .ok (.iaload, 1) := by decide +kernel
theorem dX13_route_58 : decode cX13_route 58 = .ok (.ireturn, 1) := by decide +kernel
theorem dX13_routeCost_0 : decode cX13_routeCost 0 = .ok (.aload_n 0, 1) := by decide +kernel
theorem dX13_routeCost_1 : decode cX13_routeCost 1 = .ok (.bipush 6, 2) := by decide +kernel
theorem dX13_routeCost_3 : decode cX13_routeCost 3 = .ok (.iload_n 1, 1) := by decide +kernel
theorem dX13_routeCost_4 : decode cX13_routeCost 4 = .ok (.imul, 1) := by decide +kernel
theorem dX13_routeCost_5 : decode cX13_routeCost 5 = .ok (.iload_n 2, 1) := by decide +kernel
theorem dX13_routeCost_6 : decode cX13_routeCost 6 = .ok (.iadd, 1) := by decide +kernel
theorem dX13_routeCost_7 : decode cX13_routeCost 7 = .ok (.bipush 6, 2) := by decide +kernel
theorem dX13_routeCost_9 : decode cX13_routeCost 9 = .ok (.iload_n 3, 1) := by decide +kernel
theorem dX13_routeCost_10 : decode cX13_routeCost 10 = .ok (.imul, 1) := by decide +kernel
theorem dX13_routeCost_11 : decode cX13_routeCost 11 = .ok (.iload 4, 2) := by decide +kernel
theorem dX13_routeCost_13 : decode cX13_routeCost 13 = .ok (.iadd, 1) := by decide +kernel
theorem dX13_routeCost_14 : decode cX13_routeCost 14 = .ok (.iload_n 1, 1) := by decide +kernel
theorem dX13_routeCost_15 : decode cX13_routeCost 15 = .ok (.iload_n 2, 1) := by decide +kernel
theorem dX13_routeCost_16 : decode cX13_routeCost 16 = .ok (.invokestatic 78, 3) := by decide +kernel
theorem dX13_routeCost_19 : decode cX13_routeCost 19 = .ok (.ifCond .eq 16, 3) := by decide +kernel
theorem dX13_routeCost_22 : decode cX13_routeCost 22 = .ok (.iload_n 3, 1) := by decide +kernel
theorem dX13_routeCost_23 : decode cX13_routeCost 23 = .ok (.iload 4, 2) := by decide +kernel
theorem dX13_routeCost_25 : decode cX13_routeCost 25 = .ok (.invokestatic 78, 3) := by decide +kernel
theorem dX13_routeCost_28 : decode cX13_routeCost 28 = .ok (.ifCond .eq 7, 3) := by decide +kernel
theorem dX13_routeCost_31 : decode cX13_routeCost 31 = .ok (.iconst 1, 1) := by decide +kernel
theorem dX13_routeCost_32 : decode cX13_routeCost 32 = .ok (.goto 4, 3) := by decide +kernel
theorem dX13_routeCost_35 : decode cX13_routeCost 35 = .ok (.iconst 0, 1) := by decide +kernel
theorem dX13_routeCost_36 : decode cX13_routeCost 36 = .ok (.iconst 0, 1) := by decide +kernel
theorem dX13_routeCost_37 : decode cX13_routeCost 37 = .ok (.invokevirtual 150, 3) := by decide +kernel
theorem dX13_routeCost_40 : decode cX13_routeCost 40 = .ok (.ireturn, 1) := by decide +kernel
theorem dX13_routeCostByRounds_0 : decode cX13_routeCostByRounds 0 = .ok (.aload_n 0, 1) := by decide +kernel
theorem dX13_routeCostByRounds_1 : decode cX13_routeCostByRounds 1 = .ok (.bipush 6, 2) := by decide +kernel
theorem dX13_routeCostByRounds_3 : decode cX13_routeCostByRounds 3 = .ok (.iload_n 1, 1) := by decide +kernel
theorem dX13_routeCostByRounds_4 : decode cX13_routeCostByRounds 4 = .ok (.imul, 1) := by decide +kernel
theorem dX13_routeCostByRounds_5 : decode cX13_routeCostByRounds 5 = .ok (.iload_n 2, 1) := by decide +kernel
theorem dX13_routeCostByRounds_6 : decode cX13_routeCostByRounds 6 = .ok (.iadd, 1) := by decide +kernel
theorem dX13_routeCostByRounds_7 : decode cX13_routeCostByRounds 7 = .ok (.bipush 6, 2) := by decide +kernel
theorem dX13_routeCostByRounds_9 : decode cX13_routeCostByRounds 9 = .ok (.iload_n 3, 1) := by decide +kernel
theorem dX13_routeCostByRounds_10 : decode cX13_routeCostByRounds 10 = .ok (.imul, 1) := by decide +kernel
theorem dX13_routeCostByRounds_11 : decode cX13_routeCostByRounds 11 = .ok (.iload 4, 2) := by decide +kernel
theorem dX13_routeCostByRounds_13 : decode cX13_routeCostByRounds 13 = .ok (.iadd, 1) := by decide +kernel
theorem dX13_routeCostByRounds_14 : decode cX13_routeCostByRounds 14 = .ok (.iload_n 1, 1) := by decide +kernel
theorem dX13_routeCostByRounds_15 : decode cX13_routeCostByRounds 15 = .ok (.iload_n 2, 1) := by decide +kernel
theorem dX13_routeCostByRounds_16 : decode cX13_routeCostByRounds 16 = .ok (.invokestatic 78, 3) := by decide +kernel
theorem dX13_routeCostByRounds_19 : decode cX13_routeCostByRounds 19 = .ok (.ifCond .eq 16, 3) := by decide +kernel
theorem dX13_routeCostByRounds_22 : decode cX13_routeCostByRounds 22 = .ok (.iload_n 3, 1) := by decide +kernel
theorem dX13_routeCostByRounds_23 : decode cX13_routeCostByRounds 23 = .ok (.iload 4, 2) := by decide +kernel
theorem dX13_routeCostByRounds_25 : decode cX13_routeCostByRounds 25 = .ok (.invokestatic 78, 3) := by decide +kernel
theorem dX13_routeCostByRounds_28 : decode cX13_routeCostByRounds 28 = .ok (.ifCond .eq 7, 3) := by decide +kernel
theorem dX13_routeCostByRounds_31 : decode cX13_routeCostByRounds 31 = .ok (.iconst 1, 1) := by decide +kernel
theorem dX13_routeCostByRounds_32 : decode cX13_routeCostByRounds 32 = .ok (.goto 4, 3) := by decide +kernel
theorem dX13_routeCostByRounds_35 : decode cX13_routeCostByRounds 35 = .ok (.iconst 0, 1) := by decide +kernel
theorem dX13_routeCostByRounds_36 : decode cX13_routeCostByRounds 36 = .ok (.iconst 0, 1) := by decide +kernel
theorem dX13_routeCostByRounds_37 : decode cX13_routeCostByRounds 37 = .ok (.invokevirtual 150, 3) := by decide +kernel
theorem dX13_routeCostByRounds_40 : decode cX13_routeCostByRounds 40 = .ok (.ireturn, 1) := by decide +kernel
theorem dX13_steepestStep_0 : decode cX13_steepestStep 0 = .ok (.aload_n 0, 1) := by decide +kernel
theorem dX13_steepestStep_1 : decode cX13_steepestStep 1 = .ok (.bipush 6, 2) := by decide +kernel
theorem dX13_steepestStep_3 : decode cX13_steepestStep 3 = .ok (.iload_n 1, 1) := by decide +kernel
theorem dX13_steepestStep_4 : decode cX13_steepestStep 4 = .ok (.imul, 1) := by decide +kernel
theorem dX13_steepestStep_5 : decode cX13_steepestStep 5 = .ok (.iload_n 2, 1) := by decide +kernel
theorem dX13_steepestStep_6 : decode cX13_steepestStep 6 = .ok (.iadd, 1) := by decide +kernel
theorem dX13_steepestStep_7 : decode cX13_steepestStep 7 = .ok (.bipush 6, 2) := by decide +kernel
theorem dX13_steepestStep_9 : decode cX13_steepestStep 9 = .ok (.iload_n 3, 1) := by decide +kernel
theorem dX13_steepestStep_10 : decode cX13_steepestStep 10 = .ok (.imul, 1) := by decide +kernel
theorem dX13_steepestStep_11 : decode cX13_steepestStep 11 = .ok (.iload 4, 2) := by decide +kernel
theorem dX13_steepestStep_13 : decode cX13_steepestStep 13 = .ok (.iadd, 1) := by decide +kernel
theorem dX13_steepestStep_14 : decode cX13_steepestStep 14 = .ok (.iload_n 1, 1) := by decide +kernel
theorem dX13_steepestStep_15 : decode cX13_steepestStep 15 = .ok (.iload_n 2, 1) := by decide +kernel
theorem dX13_steepestStep_16 : decode cX13_steepestStep 16 = .ok (.invokestatic 78, 3) := by decide +kernel
theorem dX13_steepestStep_19 : decode cX13_steepestStep 19 = .ok (.ifCond .eq 16, 3) := by decide +kernel
theorem dX13_steepestStep_22 : decode cX13_steepestStep 22 = .ok (.iload_n 3, 1) := by decide +kernel
theorem dX13_steepestStep_23 : decode cX13_steepestStep 23 = .ok (.iload 4, 2) := by decide +kernel
theorem dX13_steepestStep_25 : decode cX13_steepestStep 25 = .ok (.invokestatic 78, 3) := by decide +kernel
theorem dX13_steepestStep_28 : decode cX13_steepestStep 28 = .ok (.ifCond .eq 7, 3) := by decide +kernel
theorem dX13_steepestStep_31 : decode cX13_steepestStep 31 = .ok (.iconst 1, 1) := by decide +kernel
theorem dX13_steepestStep_32 : decode cX13_steepestStep 32 = .ok (.goto 4, 3) := by decide +kernel
theorem dX13_steepestStep_35 : decode cX13_steepestStep 35 = .ok (.iconst 0, 1) := by decide +kernel
theorem dX13_steepestStep_36 : decode cX13_steepestStep 36 = .ok (.iconst 1, 1) := by decide +kernel
theorem dX13_steepestStep_37 : decode cX13_steepestStep 37 = .ok (.invokevirtual 150, 3) := by decide +kernel
theorem dX13_steepestStep_40 : decode cX13_steepestStep 40 = .ok (.ireturn, 1) := by decide +kernel
theorem dX13_steepestStepByHalving_0 : decode cX13_steepestStepByHalving 0 = .ok (.aload_n 0, 1) := by decide +kernel
theorem dX13_steepestStepByHalving_1 : decode cX13_steepestStepByHalving 1 = .ok (.bipush 6, 2) := by decide +kernel
theorem dX13_steepestStepByHalving_3 : decode cX13_steepestStepByHalving 3 = .ok (.iload_n 1, 1) := by decide +kernel
theorem dX13_steepestStepByHalving_4 : decode cX13_steepestStepByHalving 4 = .ok (.imul, 1) := by decide +kernel
theorem dX13_steepestStepByHalving_5 : decode cX13_steepestStepByHalving 5 = .ok (.iload_n 2, 1) := by decide +kernel
theorem dX13_steepestStepByHalving_6 : decode cX13_steepestStepByHalving 6 = .ok (.iadd, 1) := by decide +kernel
theorem dX13_steepestStepByHalving_7 : decode cX13_steepestStepByHalving 7 = .ok (.bipush 6, 2) := by decide +kernel
theorem dX13_steepestStepByHalving_9 : decode cX13_steepestStepByHalving 9 = .ok (.iload_n 3, 1) := by decide +kernel
theorem dX13_steepestStepByHalving_10 : decode cX13_steepestStepByHalving 10 = .ok (.imul, 1) := by decide +kernel
theorem dX13_steepestStepByHalving_11 : decode cX13_steepestStepByHalving 11 = .ok (.iload 4, 2) := by decide +kernel
theorem dX13_steepestStepByHalving_13 : decode cX13_steepestStepByHalving 13 = .ok (.iadd, 1) := by decide +kernel
theorem dX13_steepestStepByHalving_14 : decode cX13_steepestStepByHalving 14 = .ok (.iload_n 1, 1) := by decide +kernel
theorem dX13_steepestStepByHalving_15 : decode cX13_steepestStepByHalving 15 = .ok (.iload_n 2, 1) := by decide +kernel
theorem dX13_steepestStepByHalving_16 : decode cX13_steepestStepByHalving 16 = .ok (.invokestatic 78, 3) := by decide +kernel
theorem dX13_steepestStepByHalving_19 : decode cX13_steepestStepByHalving 19 = .ok (.ifCond .eq 16, 3) := by decide +kernel
theorem dX13_steepestStepByHalving_22 : decode cX13_steepestStepByHalving 22 = .ok (.iload_n 3, 1) := by decide +kernel
theorem dX13_steepestStepByHalving_23 : decode cX13_steepestStepByHalving 23 = .ok (.iload 4, 2) := by decide +kernel
theorem dX13_steepestStepByHalving_25 : decode cX13_steepestStepByHalving 25 = .ok (.invokestatic 78, 3) := by decide +kernel
theorem dX13_steepestStepByHalving_28 : decode cX13_steepestStepByHalving 28 = .ok (.ifCond .eq 7, 3) := by decide +kernel
theorem dX13_steepestStepByHalving_31 : decode cX13_steepestStepByHalving 31 = .ok (.iconst 1, 1) := by decide +kernel
theorem dX13_steepestStepByHalving_32 : decode cX13_steepestStepByHalving 32 = .ok (.goto 4, 3) := by decide +kernel
theorem dX13_steepestStepByHalving_35 : decode cX13_steepestStepByHalving 35 = .ok (.iconst 0, 1) := by decide +kernel
theorem dX13_steepestStepByHalving_36 : decode cX13_steepestStepByHalving 36 = .ok (.iconst 1, 1) := by decide +kernel
theorem dX13_steepestStepByHalving_37 : decode cX13_steepestStepByHalving 37 = .ok (.invokevirtual 150, 3) := by decide +kernel
theorem dX13_steepestStepByHalving_40 : decode cX13_steepestStepByHalving 40 = .ok (.ireturn, 1) := by decide +kernel
theorem dX13_mothOn_0 : decode cX13_mothOn 0 = .ok (.iconst 0, 1) := by decide +kernel
theorem dX13_mothOn_1 : decode cX13_mothOn 1 = .ok (.istore_n 2, 1) := by decide +kernel
theorem dX13_mothOn_2 : decode cX13_mothOn 2 = .ok (.iload_n 2, 1) := by decide +kernel
theorem dX13_mothOn_3 : decode cX13_mothOn 3 = .ok (.aload_n 0, 1) := by decide +kernel
theorem dX13_mothOn_4 : decode cX13_mothOn 4 = .ok (.getfield 7, 3) := by decide +kernel
theorem dX13_mothOn_7 : decode cX13_mothOn 7 = .ok (.iconst 3, 1) := by decide +kernel
theorem dX13_mothOn_8 : decode cX13_mothOn 8 = .ok (.iaload, 1) := by decide +kernel
theorem dX13_mothOn_9 : decode cX13_mothOn 9 = .ok (.if_icmp .ge 25, 3) := by decide +kernel
theorem dX13_mothOn_12 : decode cX13_mothOn 12 = .ok (.aload_n 0, 1) := by decide +kernel
theorem dX13_mothOn_13 : decode cX13_mothOn 13 = .ok (.getfield 7, 3) := by decide +kernel
theorem dX13_mothOn_16 : decode cX13_mothOn 16 = .ok (.sipush 148, 3) := by decide +kernel
theorem dX13_mothOn_19 : decode cX13_mothOn 19 = .ok (.iload_n 2, 1) := by decide +kernel
theorem dX13_mothOn_20 : decode cX13_mothOn 20 = .ok (.iadd, 1) := by decide +kernel
theorem dX13_mothOn_21 : decode cX13_mothOn 21 = .ok (.iaload, 1) := by decide +kernel
theorem dX13_mothOn_22 : decode cX13_mothOn 22 = .ok (.iload_n 1, 1) := by decide +kernel
theorem dX13_mothOn_23 : decode cX13_mothOn 23 = .ok (.if_icmp .ne 5, 3) := by decide +kernel
theorem dX13_mothOn_26 : decode cX13_mothOn 26 = .ok (.iload_n 2, 1) := by decide +kernel
theorem dX13_mothOn_27 : decode cX13_mothOn 27 = .ok (.ireturn, 1) := by decide +kernel
theorem dX13_mothOn_28 : decode cX13_mothOn 28 = .ok (.iinc 2 1, 3) := by decide +kernel
theorem dX13_mothOn_31 : decode cX13_mothOn 31 = .ok (.goto (-29), 3) := by decide +kernel
theorem dX13_mothOn_34 : decode cX13_mothOn 34 = .ok (.iconst (-1), 1) := by decide +kernel
theorem dX13_mothOn_35 : decode cX13_mothOn 35 = .ok (.ireturn, 1) := by decide +kernel
theorem dX13_isMoth_0 : decode cX13_isMoth 0 = .ok (.iload_n 1, 1) := by decide +kernel
theorem dX13_isMoth_1 : decode cX13_isMoth 1 = .ok (.iconst 0, 1) := by decide +kernel
theorem dX13_isMoth_2 : decode cX13_isMoth 2 = .ok (.aload_n 0, 1) := by decide +kernel
theorem dX13_isMoth_3 : decode cX13_isMoth 3 = .ok (.getfield 7, 3) := by decide +kernel
theorem dX13_isMoth_6 : decode cX13_isMoth 6 = .ok (.iconst 3, 1) := by decide +kernel
theorem dX13_isMoth_7 : decode cX13_isMoth 7 = .ok (.iaload, 1) := by decide +kernel
theorem dX13_isMoth_8 : decode cX13_isMoth 8 = .ok (.iconst 1, 1) := by decide +kernel
theorem dX13_isMoth_9 : decode cX13_isMoth 9 = .ok (.isub, 1) := by decide +kernel
theorem dX13_isMoth_10 : decode cX13_isMoth 10 = .ok (.invokestatic 74, 3) := by decide +kernel
theorem dX13_isMoth_13 : decode cX13_isMoth 13 = .ok (.ireturn, 1) := by decide +kernel
theorem dX13_addMoth_0 : decode cX13_addMoth 0 = .ok (.aload_n 0, 1) := by decide +kernel
theorem dX13_addMoth_1 : decode cX13_addMoth 1 = .ok (.iload_n 1, 1) := by decide +kernel
theorem dX13_addMoth_2 : decode cX13_addMoth 2 = .ok (.iload_n 2, 1) := by decide +kernel
theorem dX13_addMoth_3 : decode cX13_addMoth 3 = .ok (.invokevirtual 89, 3) := by decide +kernel
theorem dX13_addMoth_6 : decode cX13_addMoth 6 = .ok (.ifCond .eq 5, 3) := by decide +kernel
theorem dX13_addMoth_9 : decode cX13_addMoth 9 = .ok (.iconst 0, 1) := by decide +kernel
theorem dX13_addMoth_10 : decode cX13_addMoth 10 = .ok (.ireturn, 1) := by decide +kernel
theorem dX13_addMoth_11 : decode cX13_addMoth 11 = .ok (.bipush 6, 2) := by decide +kernel
theorem dX13_addMoth_13 : decode cX13_addMoth 13 = .ok (.iload_n 1, 1) := by decide +kernel
theorem dX13_addMoth_14 : decode cX13_addMoth 14 = .ok (.imul, 1) := by decide +kernel
theorem dX13_addMoth_15 : decode cX13_addMoth 15 = .ok (.iload_n 2, 1) := by decide +kernel
theorem dX13_addMoth_16 : decode cX13_addMoth 16 = .ok (.iadd, 1) := by decide +kernel
theorem dX13_addMoth_17 : decode cX13_addMoth 17 = .ok (.istore_n 3, 1) := by decide +kernel
theorem dX13_addMoth_18 : decode cX13_addMoth 18 = .ok (.aload_n 0, 1) := by decide +kernel
theorem dX13_addMoth_19 : decode cX13_addMoth 19 = .ok (.getfield 7, 3) := by decide +kernel
theorem dX13_addMoth_22 : decode cX13_addMoth 22 = .ok (.iconst 3, 1) := by decide +kernel
theorem dX13_addMoth_23 : decode cX13_addMoth 23 = .ok (.iaload, 1) := by decide +kernel
theorem dX13_addMoth_24 : decode cX13_addMoth 24 = .ok (.iconst 4, 1) := by decide +kernel
theorem dX13_addMoth_25 : decode cX13_addMoth 25 = .ok (.if_icmp .ne 11, 3) := by decide +kernel
theorem dX13_addMoth_28 : decode cX13_addMoth 28 = .ok (.aload_n 0, 1) := by decide +kernel
theorem dX13_addMoth_29 : decode cX13_addMoth 29 = .ok (.iconst 2, 1) := by decide +kernel
theorem dX13_addMoth_30 : decode cX13_addMoth 30 = .ok (.iconst 1, 1) := by decide +kernel
theorem dX13_addMoth_31 : decode cX13_addMoth 31 = .ok (.iconst 4, 1) := by decide +kernel
theorem dX13_addMoth_32 : decode cX13_addMoth 32 = .ok (.invokevirtual 96, 3) := by decide +kernel
theorem dX13_addMoth_35 : decode cX13_addMoth 35 = .ok (.ireturn, 1) := by decide +kernel
theorem dX13_addMoth_36 : decode cX13_addMoth 36 = .ok (.aload_n 0, 1) := by decide +kernel
theorem dX13_addMoth_37 : decode cX13_addMoth 37 = .ok (.iload_n 3, 1) := by decide +kernel
theorem dX13_addMoth_38 : decode cX13_addMoth 38 = .ok (.invokevirtual 86, 3) := by decide +kernel
theorem dX13_addMoth_41 : decode cX13_addMoth 41 = .ok (.ifCond .eq 14, 3) := by decide +kernel
theorem dX13_addMoth_44 : decode cX13_addMoth 44 = .ok (.aload_n 0, 1) := by decide +kernel
theorem dX13_addMoth_45 : decode cX13_addMoth 45 = .ok (.iconst 2, 1) := by decide +kernel
theorem dX13_addMoth_46 : decode cX13_addMoth 46 = .ok (.iconst 3, 1) := by decide +kernel
theorem dX13_addMoth_47 : decode cX13_addMoth 47 = .ok (.aload_n 0, 1) := by decide +kernel
theorem dX13_addMoth_48 : decode cX13_addMoth 48 = .ok (.invokevirtual 154, 3) := by decide +kernel
theorem dX13_addMoth_51 : decode cX13_addMoth 51 = .ok (.invokevirtual 96, 3) := by decide +kernel
theorem dX13_addMoth_54 : decode cX13_addMoth 54 = .ok (.ireturn, 1) := by decide +kernel
theorem dX13_addMoth_55 : decode cX13_addMoth 55 = .ok (.aload_n 0, 1) := by decide +kernel
theorem dX13_addMoth_56 : decode cX13_addMoth 56 = .ok (.iload_n 3, 1) := by decide +kernel
theorem dX13_addMoth_57 : decode cX13_addMoth 57 = .ok (.invokevirtual 157, 3) := by decide +kernel
theorem dX13_addMoth_60 : decode cX13_addMoth 60 = .ok (.ifCond .lt 15, 3) := by decide +kernel
theorem dX13_addMoth_63 : decode cX13_addMoth 63 = .ok (.aload_n 0, 1) := by decide +kernel
theorem dX13_addMoth_64 : decode cX13_addMoth 64 = .ok (.iconst 2, 1) := by decide +kernel
theorem dX13_addMoth_65 : decode cX13_addMoth 65 = .ok (.iconst 5, 1) := by decide +kernel
theorem dX13_addMoth_66 : decode cX13_addMoth 66 = .ok (.aload_n 0, 1) := by decide +kernel
theorem dX13_addMoth_67 : decode cX13_addMoth 67 = .ok (.iload_n 3, 1) := by decide +kernel
theorem dX13_addMoth_68 : decode cX13_addMoth 68 = .ok (.invokevirtual 157, 3) := by decide +kernel
theorem dX13_addMoth_71 : decode cX13_addMoth 71 = .ok (.invokevirtual 96, 3) := by decide +kernel
theorem dX13_addMoth_74 : decode cX13_addMoth 74 = .ok (.ireturn, 1) := by decide +kernel
theorem dX13_addMoth_75 : decode cX13_addMoth 75 = .ok (.aload_n 0, 1) := by decide +kernel
theorem dX13_addMoth_76 : decode cX13_addMoth 76 = .ok (.aload_n 0, 1) := by decide +kernel
theorem dX13_addMoth_77 : decode cX13_addMoth 77 = .ok (.getfield 7, 3) := by decide +kernel
theorem dX13_addMoth_80 : decode cX13_addMoth 80 = .ok (.invokevirtual 100, 3) := by decide +kernel
theorem dX13_addMoth_83 : decode cX13_addMoth 83 = .ok (.aload_n 0, 1) := by decide +kernel
theorem dX13_addMoth_84 : decode cX13_addMoth 84 = .ok (.getfield 7, 3) := by decide +kernel
theorem dX13_addMoth_87 : decode cX13_addMoth 87 = .ok (.sipush 148, 3) := by decide +kernel
theorem dX13_addMoth_90 : decode cX13_addMoth 90 = .ok (.aload_n 0, 1) := by decide +kernel
theorem dX13_addMoth_91 : decode cX13_addMoth 91 = .ok (.getfield 7, 3) := by decide +kernel
theorem dX13_addMoth_94 : decode cX13_addMoth 94 = .ok (.iconst 3, 1) := by decide +kernel
theorem dX13_addMoth_95 : decode cX13_addMoth 95 = .ok (.iaload, 1) := by decide +kernel
theorem dX13_addMoth_96 : decode cX13_addMoth 96 = .ok (.iadd, 1) := by decide +kernel
theorem dX13_addMoth_97 : decode cX13_addMoth 97 = .ok (.iload_n 3, 1) := by decide +kernel
theorem dX13_addMoth_98 : decode cX13_addMoth 98 = .ok (.iastore, 1) := by decide +kernel
theorem dX13_addMoth_99 : decode cX13_addMoth 99 = .ok (.aload_n 0, 1) := by decide +kernel
theorem dX13_addMoth_100 : decode cX13_addMoth 100 = .ok (.getfield 7, 3) := by decide +kernel
theorem dX13_addMoth_103 : decode cX13_addMoth 103 = .ok (.iconst 3, 1) := by decide +kernel
theorem dX13_addMoth_104 : decode cX13_addMoth 104 = .ok (.dup2, 1) := by decide +kernel
theorem dX13_addMoth_105 : decode cX13_addMoth 105 = .ok (.iaload, 1) := by decide +kernel
theorem dX13_addMoth_106 : decode cX13_addMoth 106 = .ok (.iconst 1, 1) := by decide +kernel
theorem dX13_addMoth_107 : decode cX13_addMoth 107 = .ok (.iadd, 1) := by decide +kernel
theorem dX13_addMoth_108 : decode cX13_addMoth 108 = .ok (.iastore, 1) := by decide +kernel
theorem dX13_addMoth_109 : decode cX13_addMoth 109 = .ok (.aload_n 0, 1) := by decide +kernel
theorem dX13_addMoth_110 : decode cX13_addMoth 110 = .ok (.getfield 7, 3) := by decide +kernel
theorem dX13_addMoth_113 : decode cX13_addMoth 113 = .ok (.iconst 3, 1) := by decide +kernel
theorem dX13_addMoth_114 : decode cX13_addMoth 114 = .ok (.iaload, 1) := by decide +kernel
theorem dX13_addMoth_115 : decode cX13_addMoth 115 = .ok (.iconst 1, 1) := by decide +kernel
theorem dX13_addMoth_116 : decode cX13_addMoth 116 = .ok (.isub, 1) := by decide +kernel
theorem dX13_addMoth_117 : decode cX13_addMoth 117 = .ok (.ireturn, 1) := by decide +kernel
theorem dX13_removeMoth_0 : decode cX13_removeMoth 0 = .ok (.aload_n 0, 1) := by decide +kernel
theorem dX13_removeMoth_1 : decode cX13_removeMoth 1 = .ok (.aload_n 0, 1) := by decide +kernel
theorem dX13_removeMoth_2 : decode cX13_removeMoth 2 = .ok (.iload_n 1, 1) := by decide +kernel
theorem dX13_removeMoth_3 : decode cX13_removeMoth 3 = .ok (.invokevirtual 160, 3) := by decide +kernel
theorem dX13_removeMoth_6 : decode cX13_removeMoth 6 = .ok (.ifCond .eq 7, 3) := by decide +kernel
theorem dX13_removeMoth_9 : decode cX13_removeMoth 9 = .ok (.iconst 0, 1) := by decide +kernel
theorem dX13_removeMoth_10 : decode cX13_removeMoth 10 = .ok (.goto 4, 3) := by decide +kernel
theorem dX13_removeMoth_13 : decode cX13_removeMoth 13 = .ok (.iconst 1, 1) := by decide +kernel
theorem dX13_removeMoth_14 : decode cX13_removeMoth 14 = .ok (.invokevirtual 82, 3) := by decide +kernel
theorem dX13_removeMoth_17 : decode cX13_removeMoth 17 = .ok (.ifCond .eq 5, 3) := by decide +kernel
theorem dX13_removeMoth_20 : decode cX13_removeMoth 20 = .ok (.iconst 0, 1) := by decide +kernel
theorem dX13_removeMoth_21 : decode cX13_removeMoth 21 = .ok (.ireturn, 1) := by decide +kernel
theorem dX13_removeMoth_22 : decode cX13_removeMoth 22 = .ok (.aload_n 0, 1) := by decide +kernel
theorem dX13_removeMoth_23 : decode cX13_removeMoth 23 = .ok (.aload_n 0, 1) := by decide +kernel
theorem dX13_removeMoth_24 : decode cX13_removeMoth 24 = .ok (.getfield 7, 3) := by decide +kernel
theorem dX13_removeMoth_27 : decode cX13_removeMoth 27 = .ok (.invokevirtual 100, 3) := by decide +kernel
theorem dX13_removeMoth_30 : decode cX13_removeMoth 30 = .ok (.aload_n 0, 1) := by decide +kernel
theorem dX13_removeMoth_31 : decode cX13_removeMoth 31 = .ok (.getfield 7, 3) := by decide +kernel
theorem dX13_removeMoth_34 : decode cX13_removeMoth 34 = .ok (.iconst 3, 1) := by decide +kernel
theorem dX13_removeMoth_35 : decode cX13_removeMoth 35 = .ok (.dup2, 1) := by decide +kernel
theorem dX13_removeMoth_36 : decode cX13_removeMoth 36 = .ok (.iaload, 1) := by decide +kernel
theorem dX13_removeMoth_37 : decode cX13_removeMoth 37 = .ok (.iconst 1, 1) := by decide +kernel
theorem dX13_removeMoth_38 : decode cX13_removeMoth 38 = .ok (.isub, 1) := by decide +kernel
theorem dX13_removeMoth_39 : decode cX13_removeMoth 39 = .ok (.iastore, 1) := by decide +kernel
theorem dX13_removeMoth_40 : decode cX13_removeMoth 40 = .ok (.iload_n 1, 1) := by decide +kernel
theorem dX13_removeMoth_41 : decode cX13_removeMoth 41 = .ok (.istore_n 2, 1) := by decide +kernel
theorem dX13_removeMoth_42 : decode cX13_removeMoth 42 = .ok (.iload_n 2, 1) := by decide +kernel
theorem dX13_removeMoth_43 : decode cX13_removeMoth 43 = .ok (.aload_n 0, 1) := by decide +kernel
theorem dX13_removeMoth_44 : decode cX13_removeMoth 44 = .ok (.getfield 7, 3) := by decide +kernel
theorem dX13_removeMoth_47 : decode cX13_removeMoth 47 = .ok (.iconst 3, 1) := by decide +kernel
theorem dX13_removeMoth_48 : decode cX13_removeMoth 48 = .ok (.iaload, 1) := by decide +kernel
theorem dX13_removeMoth_49 : decode cX13_removeMoth 49 = .ok (.if_icmp .ge 31, 3) := by decide +kernel
theorem dX13_removeMoth_52 : decode cX13_removeMoth 52 = .ok (.aload_n 0, 1) := by decide +kernel
theorem dX13_removeMoth_53 : decode cX13_removeMoth 53 = .ok (.getfield 7, 3) := by decide +kernel
theorem dX13_removeMoth_56 : decode cX13_removeMoth 56 = .ok (.sipush 148, 3) := by decide +kernel
theorem dX13_removeMoth_59 : decode cX13_removeMoth 59 = .ok (.iload_n 2, 1) := by decide +kernel
theorem dX13_removeMoth_60 : decode cX13_removeMoth 60 = .ok (.iadd, 1) := by decide +kernel
theorem dX13_removeMoth_61 : decode cX13_removeMoth 61 = .ok (.aload_n 0, 1) := by decide +kernel
theorem dX13_removeMoth_62 : decode cX13_removeMoth 62 = .ok (.getfield 7, 3) := by decide +kernel
theorem dX13_removeMoth_65 : decode cX13_removeMoth 65 = .ok (.sipush 148, 3) := by decide +kernel
theorem dX13_removeMoth_68 : decode cX13_removeMoth 68 = .ok (.iload_n 2, 1) := by decide +kernel
theorem dX13_removeMoth_69 : decode cX13_removeMoth 69 = .ok (.iadd, 1) := by decide +kernel
theorem dX13_removeMoth_70 : decode cX13_removeMoth 70 = .ok (.iconst 1, 1) := by decide +kernel
theorem dX13_removeMoth_71 : decode cX13_removeMoth 71 = .ok (.iadd, 1) := by decide +kernel
theorem dX13_removeMoth_72 : decode cX13_removeMoth 72 = .ok (.iaload, 1) := by decide +kernel
theorem dX13_removeMoth_73 : decode cX13_removeMoth 73 = .ok (.iastore, 1) := by decide +kernel
theorem dX13_removeMoth_74 : decode cX13_removeMoth 74 = .ok (.iinc 2 1, 3) := by decide +kernel
theorem dX13_removeMoth_77 : decode cX13_removeMoth 77 = .ok (.goto (-35), 3) := by decide +kernel
theorem dX13_removeMoth_80 : decode cX13_removeMoth 80 = .ok (.aload_n 0, 1) := by decide +kernel
theorem dX13_removeMoth_81 : decode cX13_removeMoth 81 = .ok (.getfield 7, 3) := by decide +kernel
theorem dX13_removeMoth_84 : decode cX13_removeMoth 84 = .ok (.sipush 148, 3) := by decide +kernel
theorem dX13_removeMoth_87 : decode cX13_removeMoth 87 = .ok (.aload_n 0, 1) := by decide +kernel
theorem dX13_removeMoth_88 : decode cX13_removeMoth 88 = .ok (.getfield 7, 3) := by decide +kernel
theorem dX13_removeMoth_91 : decode cX13_removeMoth 91 = .ok (.iconst 3, 1) := by decide +kernel
theorem dX13_removeMoth_92 : decode cX13_removeMoth 92 = .ok (.iaload, 1) := by decide +kernel
theorem dX13_removeMoth_93 : decode cX13_removeMoth 93 = .ok (.iadd, 1) := by decide +kernel
theorem dX13_removeMoth_94 : decode cX13_removeMoth 94 = .ok (.iconst 0, 1) := by decide +kernel
theorem dX13_removeMoth_95 : decode cX13_removeMoth 95 = .ok (.iastore, 1) := by decide +kernel
theorem dX13_removeMoth_96 : decode cX13_removeMoth 96 = .ok (.aload_n 0, 1) := by decide +kernel
theorem dX13_removeMoth_97 : decode cX13_removeMoth 97 = .ok (.getfield 7, 3) := by decide +kernel
theorem dX13_removeMoth_100 : decode cX13_removeMoth 100 = .ok (.iconst 3, 1) := by decide +kernel
theorem dX13_removeMoth_101 : decode cX13_removeMoth 101 = .ok (.iaload, 1) := by decide +kernel
theorem dX13_removeMoth_102 : decode cX13_removeMoth 102 = .ok (.ireturn, 1) := by decide +kernel
theorem dX13_darkens_0 : decode cX13_darkens 0 = .ok (.iconst 0, 1) := by decide +kernel
theorem dX13_darkens_1 : decode cX13_darkens 1 = .ok (.istore_n 1, 1) := by decide +kernel
theorem dX13_darkens_2 : decode cX13_darkens 2 = .ok (.aload_n 0, 1) := by decide +kernel
theorem dX13_darkens_3 : decode cX13_darkens 3 = .ok (.getfield 7, 3) := by decide +kernel
theorem dX13_darkens_6 : decode cX13_darkens 6 = .ok (.iconst 0, 1) := by decide +kernel
theorem dX13_darkens_7 : decode cX13_darkens 7 = .ok (.dup2, 1) := by decide +kernel
theorem dX13_darkens_8 : decode cX13_darkens 8 = .ok (.iaload, 1) := by decide +kernel
theorem dX13_darkens_9 : decode cX13_darkens 9 = .ok (.iconst 1, 1) := by decide +kernel
theorem dX13_darkens_10 : decode cX13_darkens 10 = .ok (.iadd, 1) := by decide +kernel
theorem dX13_darkens_11 : decode cX13_darkens 11 = .ok (.iastore, 1) := by decide +kernel
theorem dX13_darkens_12 : decode cX13_darkens 12 = .ok (.iconst 0, 1) := by decide +kernel
theorem dX13_darkens_13 : decode cX13_darkens 13 = .ok (.istore_n 2, 1) := by decide +kernel
theorem dX13_darkens_14 : decode cX13_darkens 14 = .ok (.iload_n 2, 1) := by decide +kernel
theorem dX13_darkens_15 : decode cX13_darkens 15 = .ok (.aload_n 0, 1) := by decide +kernel
theorem dX13_darkens_16 : decode cX13_darkens 16 = .ok (.getfield 7, 3) := by decide +kernel
theorem dX13_darkens_19 : decode cX13_darkens 19 = .ok (.iconst 3, 1) := by decide +kernel
theorem dX13_darkens_20 : decode cX13_darkens 20 = .ok (.iaload, 1) := by decide +kernel
theorem dX13_darkens_21 : decode cX13_darkens 21 = .ok (.if_icmp .ge 159, 3) := by decide +kernel
theorem dX13_darkens_24 : decode cX13_darkens 24 = .ok (.iconst (-1), 1) := by decide +kernel
theorem dX13_darkens_25 : decode cX13_darkens 25 = .ok (.istore_n 3, 1) := by decide +kernel
theorem dX13_darkens_26 : decode cX13_darkens 26 = .ok (.iconst 0, 1) := by decide +kernel
theorem dX13_darkens_27 : decode cX13_darkens 27 = .ok (.istore 4, 2) := by decide +kernel
theorem dX13_darkens_29 : decode cX13_darkens 29 = .ok (.iload 4, 2) := by decide +kernel
theorem dX13_darkens_31 : decode cX13_darkens 31 = .ok (.iconst 4, 1) := by decide +kernel
theorem dX13_darkens_32 : decode cX13_darkens 32 = .ok (.if_icmp .ge 70, 3) := by decide +kernel
theorem dX13_darkens_35 : decode cX13_darkens 35 = .ok (.aload_n 0, 1) := by decide +kernel
theorem dX13_darkens_36 : decode cX13_darkens 36 = .ok (.getfield 7, 3) := by decide +kernel
theorem dX13_darkens_39 : decode cX13_darkens 39 = .ok (.sipush 148, 3) := by decide +kernel
theorem dX13_darkens_42 : decode cX13_darkens 42 = .ok (.iload_n 2, 1) := by decide +kernel
theorem dX13_darkens_43 : decode cX13_darkens 43 = .ok (.iadd, 1) := by decide +kernel
theorem dX13_darkens_44 : decode cX13_darkens 44 = .ok (.iaload, 1) := by decide +kernel
theorem dX13_darkens_45 : decode cX13_darkens 45 = .ok (.iload 4, 2) := by decide +kernel
theorem dX13_darkens_47 : decode cX13_darkens 47 = .ok (.invokestatic 111, 3) := by decide +kernel
theorem dX13_darkens_50 : decode cX13_darkens 50 = .ok (.istore 5, 2) := by decide +kernel
theorem dX13_darkens_52 : decode cX13_darkens 52 = .ok (.iload 5, 2) := by decide +kernel
theorem dX13_darkens_54 : decode cX13_darkens 54 = .ok (.ifCond .lt 42, 3) := by decide +kernel
theorem dX13_darkens_57 : decode cX13_darkens 57 = .ok (.aload_n 0, 1) := by decide +kernel
theorem dX13_darkens_58 : decode cX13_darkens 58 = .ok (.iload 5, 2) := by decide +kernel
theorem dX13_darkens_60 : decode cX13_darkens 60 = .ok (.invokevirtual 86, 3) := by decide +kernel
theorem dX13_darkens_63 : decode cX13_darkens 63 = .ok (.ifCond .ne 33, 3) := by decide +kernel
theorem dX13_darkens_66 : decode cX13_darkens 66 = .ok (.aload_n 0, 1) := by decide +kernel
theorem dX13_darkens_67 : decode cX13_darkens 67 = .ok (.iload 5, 2) := by decide +kernel
theorem dX13_darkens_69 : decode cX13_darkens 69 = .ok (.invokevirtual 157, 3) := by decide +kernel
theorem dX13_darkens_72 : decode cX13_darkens 72 = .ok (.ifCond .ge 24, 3) := by decide +kernel
theorem dX13_darkens_75 : decode cX13_darkens 75 = .ok (.iload_n 3, 1) := by decide +kernel
theorem dX13_darkens_76 : decode cX13_darkens 76 = .ok (.ifCond .lt 17, 3) := by decide +kernel
theorem dX13_darkens_79 : decode cX13_darkens 79 = .ok (.aload_n 0, 1) := by decide +kernel
theorem dX13_darkens_80 : decode cX13_darkens 80 = .ok (.iload 5, 2) := by decide +kernel
theorem dX13_darkens_82 : decode cX13_darkens 82 = .ok (.invokevirtual 92, 3) := by decide +kernel
theorem dX13_darkens_85 : decode cX13_darkens 85 = .ok (.aload_n 0, 1) := by decide +kernel
theorem dX13_darkens_86 : decode cX13_darkens 86 = .ok (.iload_n 3, 1) := by decide +kernel
theorem dX13_darkens_87 : decode cX13_darkens 87 = .ok (.invokevirtual 92, 3) := by decide +kernel
theorem dX13_darkens_90 : decode cX13_darkens 90 = .ok (.if_icmp .le 6, 3) := by decide +kernel
theorem dX13_darkens_93 : decode cX13_darkens 93 = .ok (.iload 5, 2) := by decide +kernel
theorem dX13_darkens_95 : decode cX13_darkens 95 = .ok (.istore_n 3, 1) := by decide +kernel
theorem dX13_darkens_96 : decode cX13_darkens 96 = .ok (.iinc 4 1, 3) := by decide +kernel
theorem dX13_darkens_99 : decode cX13_darkens 99 = .ok (.goto (-70), 3) := by decide +kernel
theorem dX13_darkens_102 : decode cX13_darkens 102 = .ok (.iload_n 3, 1) := by decide +kernel
theorem dX13_darkens_103 : decode cX13_darkens 103 = .ok (.ifCond .lt 14, 3) := by decide +kernel
theorem dX13_darkens_106 : decode cX13_darkens 106 = .ok (.aload_n 0, 1) := by decide +kernel
theorem dX13_darkens_107 : decode cX13_darkens 107 = .ok (.getfield 7, 3) := by decide +kernel
theorem dX13_darkens_110 : decode cX13_darkens 110 = .ok (.sipush 148, 3) := by decide +kernel
theorem dX13_darkens_113 : decode cX13_darkens 113 = .ok (.iload_n 2, 1) := by decide +kernel
theorem dX13_darkens_114 : decode cX13_darkens 114 = .ok (.iadd, 1) := by decide +kernel
theorem dX13_darkens_115 : decode cX13_darkens 115 = .ok (.iload_n 3, 1) := by decide +kernel
theorem dX13_darkens_116 : decode cX13_darkens 116 = .ok (.iastore, 1) := by decide +kernel
theorem dX13_darkens_117 : decode cX13_darkens 117 = .ok (.aload_n 0, 1) := by decide +kernel
theorem dX13_darkens_118 : decode cX13_darkens 118 = .ok (.getfield 7, 3) := by decide +kernel
theorem dX13_darkens_121 : decode cX13_darkens 121 = .ok (.sipush 148, 3) := by decide +kernel
theorem dX13_darkens_124 : decode cX13_darkens 124 = .ok (.iload_n 2, 1) := by decide +kernel
theorem dX13_darkens_125 : decode cX13_darkens 125 = .ok (.iadd, 1) := by decide +kernel
theorem dX13_darkens_126 : decode cX13_darkens 126 = .ok (.iaload, 1) := by decide +kernel
theorem dX13_darkens_127 : decode cX13_darkens 127 = .ok (.istore 4, 2) := by decide +kernel
theorem dX13_darkens_129 : decode cX13_darkens 129 = .ok (.iload_n 1, 1) := by decide +kernel
theorem dX13_darkens_130 : decode cX13_darkens 130 = .ok (.aload_n 0, 1) := by decide +kernel
theorem dX13_darkens_131 : decode cX13_darkens 131 = .ok (.getfield 7, 3) := by decide +kernel
theorem dX13_darkens_134 : decode cX13_darkens 134 = .ok (.bipush 40, 2) := by decide +kernel
theorem dX13_darkens_136 : decode cX13_darkens 136 = .ok (.iload 4, 2) := by decide +kernel
theorem dX13_darkens_138 : decode cX13_darkens 138 = .ok (.iadd, 1) := by decide +kernel
theorem dX13_darkens_139 : decode cX13_darkens 139 = .ok (.iaload, 1) := by decide +kernel
theorem dX13_darkens_140 : decode cX13_darkens 140 = .ok (.iconst 2, 1) := by decide +kernel
theorem dX13_darkens_141 : decode cX13_darkens 141 = .ok (.if_icmp .ne 7, 3) := by decide +kernel
theorem dX13_darkens_144 : decode cX13_darkens 144 = .ok (.iconst 1, 1) := by decide +kernel
theorem dX13_darkens_145 : decode cX13_darkens 145 = .ok (.goto 4, 3) := by decide +kernel
theorem dX13_darkens_148 : decode cX13_darkens 148 = .ok (.iconst 0, 1) := by decide +kernel
theorem dX13_darkens_149 : decode cX13_darkens 149 = .ok (.iadd, 1) := by decide +kernel
theorem dX13_darkens_150 : decode cX13_darkens 150 = .ok (.istore_n 1, 1) := by decide +kernel
theorem dX13_darkens_151 : decode cX13_darkens 151 = .ok (.aload_n 0, 1) := by decide +kernel
theorem dX13_darkens_152 : decode cX13_darkens 152 = .ok (.iload 4, 2) := by decide +kernel
theorem dX13_darkens_154 : decode cX13_darkens 154 = .ok (.invokevirtual 86, 3) := by decide +kernel
theorem dX13_darkens_157 : decode cX13_darkens 157 = .ok (.ifCond .ne 17, 3) := by decide +kernel
theorem dX13_darkens_160 : decode cX13_darkens 160 = .ok (.aload_n 0, 1) := by decide +kernel
theorem dX13_darkens_161 : decode cX13_darkens 161 = .ok (.getfield 7, 3) := by decide +kernel
theorem dX13_darkens_164 : decode cX13_darkens 164 = .ok (.bipush 40, 2) := by decide +kernel
theorem dX13_darkens_166 : decode cX13_darkens 166 = .ok (.iload 4, 2) := by decide +kernel
theorem dX13_darkens_168 : decode cX13_darkens 168 = .ok (.iadd, 1) := by decide +kernel
theorem dX13_darkens_169 : decode cX13_darkens 169 = .ok (.dup2, 1) := by decide +kernel
theorem dX13_darkens_170 : decode cX13_darkens 170 = .ok (.iaload, 1) := by decide +kernel
theorem dX13_darkens_171 : decode cX13_darkens 171 = .ok (.iconst 1, 1) := by decide +kernel
theorem dX13_darkens_172 : decode cX13_darkens 172 = .ok (.iadd, 1) := by decide +kernel
theorem dX13_darkens_173 : decode cX13_darkens 173 = .ok (.iastore, 1) := by decide +kernel
theorem dX13_darkens_174 : decode cX13_darkens 174 = .ok (.iinc 2 1, 3) := by decide +kernel
theorem dX13_darkens_177 : decode cX13_darkens 177 = .ok (.goto (-163), 3) := by decide +kernel
theorem dX13_darkens_180 : decode cX13_darkens 180 = .ok (.iload_n 1, 1) := by decide +kernel
theorem dX13_darkens_181 : decode cX13_darkens 181 = .ok (.ireturn, 1) := by decide +kernel
theorem dX13_passNight_0 : decode cX13_passNight 0 = .ok (.aload_n 0, 1) := by decide +kernel
theorem dX13_passNight_1 : decode cX13_passNight 1 = .ok (.aload_n 0, 1) := by decide +kernel
theorem dX13_passNight_2 : decode cX13_passNight 2 = .ok (.getfield 7, 3) := by decide +kernel
theorem dX13_passNight_5 : decode cX13_passNight 5 = .ok (.invokevirtual 100, 3) := by decide +kernel
theorem dX13_passNight_8 : decode cX13_passNight 8 = .ok (.aload_n 0, 1) := by decide +kernel
theorem dX13_passNight_9 : decode cX13_passNight 9 = .ok (.invokevirtual 163, 3) := by decide +kernel
theorem dX13_passNight_12 : decode cX13_passNight 12 = .ok (.ireturn, 1) := by decide +kernel
theorem dX13_patch_0 : decode cX13_patch 0 = .ok (.aload_n 0, 1) := by decide +kernel
theorem dX13_patch_1 : decode cX13_patch 1 = .ok (.iload_n 1, 1) := by decide +kernel
theorem dX13_patch_2 : decode cX13_patch 2 = .ok (.iload_n 2, 1) := by decide +kernel
theorem dX13_patch_3 : decode cX13_patch 3 = .ok (.invokevirtual 89, 3) := by decide +kernel
theorem dX13_patch_6 : decode cX13_patch 6 = .ok (.ifCond .eq 5, 3) := by decide +kernel
theorem dX13_patch_9 : decode cX13_patch 9 = .ok (.iconst 0, 1) := by decide +kernel
theorem dX13_patch_10 : decode cX13_patch 10 = .ok (.ireturn, 1) := by decide +kernel
theorem dX13_patch_11 : decode cX13_patch 11 = .ok (.bipush 6, 2) := by decide +kernel
theorem dX13_patch_13 : decode cX13_patch 13 = .ok (.iload_n 1, 1) := by decide +kernel
theorem dX13_patch_14 : decode cX13_patch 14 = .ok (.imul, 1) := by decide +kernel
theorem dX13_patch_15 : decode cX13_patch 15 = .ok (.iload_n 2, 1) := by decide +kernel
theorem dX13_patch_16 : decode cX13_patch 16 = .ok (.iadd, 1) := by decide +kernel
theorem dX13_patch_17 : decode cX13_patch 17 = .ok (.istore_n 3, 1) := by decide +kernel
theorem dX13_patch_18 : decode cX13_patch 18 = .ok (.aload_n 0, 1) := by decide +kernel
theorem dX13_patch_19 : decode cX13_patch 19 = .ok (.iload_n 3, 1) := by decide +kernel
theorem dX13_patch_20 : decode cX13_patch 20 = .ok (.invokevirtual 157, 3) := by decide +kernel
theorem dX13_patch_23 : decode cX13_patch 23 = .ok (.ifCond .lt 15, 3) := by decide +kernel
theorem dX13_patch_26 : decode cX13_patch 26 = .ok (.aload_n 0, 1) := by decide +kernel
theorem dX13_patch_27 : decode cX13_patch 27 = .ok (.iconst 2, 1) := by decide +kernel
theorem dX13_patch_28 : decode cX13_patch 28 = .ok (.iconst 5, 1) := by decide +kernel
theorem dX13_patch_29 : decode cX13_patch 29 = .ok (.aload_n 0, 1) := by decide +kernel
theorem dX13_patch_30 : decode cX13_patch 30 = .ok (.iload_n 3, 1) := by decide +kernel
theorem dX13_patch_31 : decode cX13_patch 31 = .ok (.invokevirtual 157, 3) := by decide +kernel
theorem dX13_patch_34 : decode cX13_patch 34 = .ok (.invokevirtual 96, 3) := by decide +kernel
theorem dX13_patch_37 : decode cX13_patch 37 = .ok (.ireturn, 1) := by decide +kernel
theorem dX13_patch_38 : decode cX13_patch 38 = .ok (.aload_n 0, 1) := by decide +kernel
theorem dX13_patch_39 : decode cX13_patch 39 = .ok (.getfield 7, 3) := by decide +kernel
theorem dX13_patch_42 : decode cX13_patch 42 = .ok (.bipush 40, 2) := by decide +kernel
theorem dX13_patch_44 : decode cX13_patch 44 = .ok (.iload_n 3, 1) := by decide +kernel
theorem dX13_patch_45 : decode cX13_patch 45 = .ok (.iadd, 1) := by decide +kernel
theorem dX13_patch_46 : decode cX13_patch 46 = .ok (.iaload, 1) := by decide +kernel
theorem dX13_patch_47 : decode cX13_patch 47 = .ok (.ifCond .ne 14, 3) := by decide +kernel
theorem dX13_patch_50 : decode cX13_patch 50 = .ok (.aload_n 0, 1) := by decide +kernel
theorem dX13_patch_51 : decode cX13_patch 51 = .ok (.iconst 2, 1) := by decide +kernel
theorem dX13_patch_52 : decode cX13_patch 52 = .ok (.iconst 4, 1) := by decide +kernel
theorem dX13_patch_53 : decode cX13_patch 53 = .ok (.aload_n 0, 1) := by decide +kernel
theorem dX13_patch_54 : decode cX13_patch 54 = .ok (.invokevirtual 154, 3) := by decide +kernel
theorem dX13_patch_57 : decode cX13_patch 57 = .ok (.invokevirtual 96, 3) := by decide +kernel
theorem dX13_patch_60 : decode cX13_patch 60 = .ok (.ireturn, 1) := by decide +kernel
theorem dX13_patch_61 : decode cX13_patch 61 = .ok (.aload_n 0, 1) := by decide +kernel
theorem dX13_patch_62 : decode cX13_patch 62 = .ok (.getfield 7, 3) := by decide +kernel
theorem dX13_patch_65 : decode cX13_patch 65 = .ok (.bipush 40, 2) := by decide +kernel
theorem dX13_patch_67 : decode cX13_patch 67 = .ok (.iload_n 3, 1) := by decide +kernel
theorem dX13_patch_68 : decode cX13_patch 68 = .ok (.iadd, 1) := by decide +kernel
theorem dX13_patch_69 : decode cX13_patch 69 = .ok (.iaload, 1) := by decide +kernel
theorem dX13_patch_70 : decode cX13_patch 70 = .ok (.istore 4, 2) := by decide +kernel
theorem dX13_patch_72 : decode cX13_patch 72 = .ok (.aload_n 0, 1) := by decide +kernel
theorem dX13_patch_73 : decode cX13_patch 73 = .ok (.aload_n 0, 1) := by decide +kernel
theorem dX13_patch_74 : decode cX13_patch 74 = .ok (.getfield 7, 3) := by decide +kernel
theorem dX13_patch_77 : decode cX13_patch 77 = .ok (.invokevirtual 100, 3) := by decide +kernel
theorem dX13_patch_80 : decode cX13_patch 80 = .ok (.aload_n 0, 1) := by decide +kernel
theorem dX13_patch_81 : decode cX13_patch 81 = .ok (.getfield 7, 3) := by decide +kernel
theorem dX13_patch_84 : decode cX13_patch 84 = .ok (.bipush 40, 2) := by decide +kernel
theorem dX13_patch_86 : decode cX13_patch 86 = .ok (.iload_n 3, 1) := by decide +kernel
theorem dX13_patch_87 : decode cX13_patch 87 = .ok (.iadd, 1) := by decide +kernel
theorem dX13_patch_88 : decode cX13_patch 88 = .ok (.iconst 0, 1) := by decide +kernel
theorem dX13_patch_89 : decode cX13_patch 89 = .ok (.iastore, 1) := by decide +kernel
theorem dX13_patch_90 : decode cX13_patch 90 = .ok (.iload 4, 2) := by decide +kernel
theorem dX13_patch_92 : decode cX13_patch 92 = .ok (.ireturn, 1) := by decide +kernel
theorem dX13_mothCount_0 : decode cX13_mothCount 0 = .ok (.aload_n 0, 1) := by decide +kernel
theorem dX13_mothCount_1 : decode cX13_mothCount 1 = .ok (.iconst 0, 1) := by decide +kernel
theorem dX13_mothCount_2 : decode cX13_mothCount 2 = .ok (.putfield 48, 3) := by decide +kernel
theorem dX13_mothCount_5 : decode cX13_mothCount 5 = .ok (.aload_n 0, 1) := by decide +kernel
theorem dX13_mothCount_6 : decode cX13_mothCount 6 = .ok (.getfield 7, 3) := by decide +kernel
theorem dX13_mothCount_9 : decode cX13_mothCount 9 = .ok (.iconst 3, 1) := by decide +kernel
theorem dX13_mothCount_10 : decode cX13_mothCount 10 = .ok (.iaload, 1) := by decide +kernel
theorem dX13_mothCount_11 : decode cX13_mothCount 11 = .ok (.ireturn, 1) := by decide +kernel
theorem dX13_mothRow_0 : decode cX13_mothRow 0 = .ok (.aload_n 0, 1) := by decide +kernel
theorem dX13_mothRow_1 : decode cX13_mothRow 1 = .ok (.aload_n 0, 1) := by decide +kernel
theorem dX13_mothRow_2 : decode cX13_mothRow 2 = .ok (.iload_n 1, 1) := by decide +kernel
theorem dX13_mothRow_3 : decode cX13_mothRow 3 = .ok (.invokevirtual 160, 3) := by decide +kernel
theorem dX13_mothRow_6 : decode cX13_mothRow 6 = .ok (.ifCond .eq 7, 3) := by decide +kernel
theorem dX13_mothRow_9 : decode cX13_mothRow 9 = .ok (.iconst 0, 1) := by decide +kernel
theorem dX13_mothRow_10 : decode cX13_mothRow 10 = .ok (.goto 4, 3) := by decide +kernel
theorem dX13_mothRow_13 : decode cX13_mothRow 13 = .ok (.iconst 1, 1) := by decide +kernel
theorem dX13_mothRow_14 : decode cX13_mothRow 14 = .ok (.invokevirtual 82, 3) := by decide +kernel
theorem dX13_mothRow_17 : decode cX13_mothRow 17 = .ok (.ifCond .eq 7, 3) := by decide +kernel
theorem dX13_mothRow_20 : decode cX13_mothRow 20 = .ok (.iconst 0, 1) := by decide +kernel
theorem dX13_mothRow_21 : decode cX13_mothRow 21 = .ok (.goto 16, 3) := by decide +kernel
theorem dX13_mothRow_24 : decode cX13_mothRow 24 = .ok (.aload_n 0, 1) := by decide +kernel
theorem dX13_mothRow_25 : decode cX13_mothRow 25 = .ok (.getfield 7, 3) := by decide +kernel
theorem dX13_mothRow_28 : decode cX13_mothRow 28 = .ok (.sipush 148, 3) := by decide +kernel
theorem dX13_mothRow_31 : decode cX13_mothRow 31 = .ok (.iload_n 1, 1) := by decide +kernel
theorem dX13_mothRow_32 : decode cX13_mothRow 32 = .ok (.iadd, 1) := by decide +kernel
theorem dX13_mothRow_33 : decode cX13_mothRow 33 = .ok (.iaload, 1) := by decide +kernel
theorem dX13_mothRow_34 : decode cX13_mothRow 34 = .ok (.bipush 6, 2) := by decide +kernel
theorem dX13_mothRow_36 : decode cX13_mothRow 36 = .ok (.idiv, 1) := by decide +kernel
theorem dX13_mothRow_37 : decode cX13_mothRow 37 = .ok (.ireturn, 1) := by decide +kernel
theorem dX13_mothColumn_0 : decode cX13_mothColumn 0 = .ok (.aload_n 0, 1) := by decide +kernel
theorem dX13_mothColumn_1 : decode cX13_mothColumn 1 = .ok (.aload_n 0, 1) := by decide +kernel
theorem dX13_mothColumn_2 : decode cX13_mothColumn 2 = .ok (.iload_n 1, 1) := by decide +kernel
theorem dX13_mothColumn_3 : decode cX13_mothColumn 3 = .ok (.invokevirtual 160, 3) := by decide +kernel
theorem dX13_mothColumn_6 : decode cX13_mothColumn 6 = .ok (.ifCond .eq 7, 3) := by decide +kernel
theorem dX13_mothColumn_9 : decode cX13_mothColumn 9 = .ok (.iconst 0, 1) := by decide +kernel
theorem dX13_mothColumn_10 : decode cX13_mothColumn 10 = .ok (.goto 4, 3) := by decide +kernel
theorem dX13_mothColumn_13 : decode cX13_mothColumn 13 = .ok (.iconst 1, 1) := by decide +kernel
theorem dX13_mothColumn_14 : decode cX13_mothColumn 14 = .ok (.invokevirtual 82, 3) := by decide +kernel
theorem dX13_mothColumn_17 : decode cX13_mothColumn 17 = .ok (.ifCond .eq 7, 3) := by decide +kernel
theorem dX13_mothColumn_20 : decode cX13_mothColumn 20 = .ok (.iconst 0, 1) := by decide +kernel
theorem dX13_mothColumn_21 : decode cX13_mothColumn 21 = .ok (.goto 16, 3) := by decide +kernel
theorem dX13_mothColumn_24 : decode cX13_mothColumn 24 = .ok (.aload_n 0, 1) := by decide +kernel
theorem dX13_mothColumn_25 : decode cX13_mothColumn 25 = .ok (.getfield 7, 3) := by decide +kernel
theorem dX13_mothColumn_28 : decode cX13_mothColumn 28 = .ok (.sipush 148, 3) := by decide +kernel
theorem dX13_mothColumn_31 : decode cX13_mothColumn 31 = .ok (.iload_n 1, 1) := by decide +kernel
theorem dX13_mothColumn_32 : decode cX13_mothColumn 32 = .ok (.iadd, 1) := by decide +kernel
theorem dX13_mothColumn_33 : decode cX13_mothColumn 33 = .ok (.iaload, 1) := by decide +kernel
theorem dX13_mothColumn_34 : decode cX13_mothColumn 34 = .ok (.bipush 6, 2) := by decide +kernel
theorem dX13_mothColumn_36 : decode cX13_mothColumn 36 = .ok (.irem, 1) := by decide +kernel
theorem dX13_mothColumn_37 : decode cX13_mothColumn 37 = .ok (.ireturn, 1) := by decide +kernel
theorem dX13_wear_0 : decode cX13_wear 0 = .ok (.aload_n 0, 1) := by decide +kernel
theorem dX13_wear_1 : decode cX13_wear 1 = .ok (.iload_n 1, 1) := by decide +kernel
theorem dX13_wear_2 : decode cX13_wear 2 = .ok (.iload_n 2, 1) := by decide +kernel
theorem dX13_wear_3 : decode cX13_wear 3 = .ok (.invokevirtual 89, 3) := by decide +kernel
theorem dX13_wear_6 : decode cX13_wear 6 = .ok (.ifCond .eq 7, 3) := by decide +kernel
theorem dX13_wear_9 : decode cX13_wear 9 = .ok (.iconst 0, 1) := by decide +kernel
theorem dX13_wear_10 : decode cX13_wear 10 = .ok (.goto 17, 3) := by decide +kernel
theorem dX13_wear_13 : decode cX13_wear 13 = .ok (.aload_n 0, 1) := by decide +kernel
theorem dX13_wear_14 : decode cX13_wear 14 = .ok (.getfield 7, 3) := by decide +kernel
theorem dX13_wear_17 : decode cX13_wear 17 = .ok (.bipush 40, 2) := by decide +kernel
theorem dX13_wear_19 : decode cX13_wear 19 = .ok (.bipush 6, 2) := by decide +kernel
theorem dX13_wear_21 : decode cX13_wear 21 = .ok (.iload_n 1, 1) := by decide +kernel
theorem dX13_wear_22 : decode cX13_wear 22 = .ok (.imul, 1) := by decide +kernel
theorem dX13_wear_23 : decode cX13_wear 23 = .ok (.iadd, 1) := by decide +kernel
theorem dX13_wear_24 : decode cX13_wear 24 = .ok (.iload_n 2, 1) := by decide +kernel
theorem dX13_wear_25 : decode cX13_wear 25 = .ok (.iadd, 1) := by decide +kernel
theorem dX13_wear_26 : decode cX13_wear 26 = .ok (.iaload, 1) := by decide +kernel
theorem dX13_wear_27 : decode cX13_wear 27 = .ok (.ireturn, 1) := by decide +kernel
theorem dX13_holes_0 : decode cX13_holes 0 = .ok (.aload_n 0, 1) := by decide +kernel
theorem dX13_holes_1 : decode cX13_holes 1 = .ok (.iconst 0, 1) := by decide +kernel
theorem dX13_holes_2 : decode cX13_holes 2 = .ok (.putfield 48, 3) := by decide +kernel
theorem dX13_holes_5 : decode cX13_holes 5 = .ok (.aload_n 0, 1) := by decide +kernel
theorem dX13_holes_6 : decode cX13_holes 6 = .ok (.invokevirtual 154, 3) := by decide +kernel
theorem dX13_holes_9 : decode cX13_holes 9 = .ok (.ireturn, 1) := by decide +kernel
theorem dX13_nightsUntilHole_0 : decode cX13_nightsUntilHole 0 = .ok (.aload_n 0, 1) := by decide +kernel
theorem dX13_nightsUntilHole_1 : decode cX13_nightsUntilHole 1 = .ok (.iload_n 1, 1) := by decide +kernel
theorem dX13_nightsUntilHole_2 : decode cX13_nightsUntilHole 2 = .ok (.iload_n 2, 1) := by decide +kernel
theorem dX13_nightsUntilHole_3 : decode cX13_nightsUntilHole 3 = .ok (.invokevirtual 89, 3) := by decide +kernel
theorem dX13_nightsUntilHole_6 : decode cX13_nightsUntilHole 6 = .ok (.ifCond .eq 5, 3) := by decide +kernel
theorem dX13_nightsUntilHole_9 : decode cX13_nightsUntilHole 9 = .ok (.iconst 0, 1) := by decide +kernel
theorem dX13_nightsUntilHole_10 : decode cX13_nightsUntilHole 10 = .ok (.ireturn, 1) := by decide +kernel
theorem dX13_nightsUntilHole_11 : decode cX13_nightsUntilHole 11 = .ok (.bipush 6, 2) := by decide +kernel
theorem dX13_nightsUntilHole_13 : decode cX13_nightsUntilHole 13 = .ok (.iload_n 1, 1) := by decide +kernel
theorem dX13_nightsUntilHole_14 : decode cX13_nightsUntilHole 14 = .ok (.imul, 1) := by decide +kernel
theorem dX13_nightsUntilHole_15 : decode cX13_nightsUntilHole 15 = .ok (.iload_n 2, 1) := by decide +kernel
theorem dX13_nightsUntilHole_16 : decode cX13_nightsUntilHole 16 = .ok (.iadd, 1) := by decide +kernel
theorem dX13_nightsUntilHole_17 : decode cX13_nightsUntilHole 17 = .ok (.istore_n 3, 1) := by decide +kernel
theorem dX13_nightsUntilHole_18 : decode cX13_nightsUntilHole 18 = .ok (.aload_n 0, 1) := by decide +kernel
theorem dX13_nightsUntilHole_19 : decode cX13_nightsUntilHole 19 = .ok (.getfield 7, 3) := by decide +kernel
theorem dX13_nightsUntilHole_22 : decode cX13_nightsUntilHole 22 = .ok (.iconst 0, 1) := by decide +kernel
theorem dX13_nightsUntilHole_23 : decode cX13_nightsUntilHole 23 = .ok (.aload_n 0, 1) := by decide +kernel
theorem dX13_nightsUntilHole_24 : decode cX13_nightsUntilHole 24 = .ok (.getfield 22, 3) := by decide +kernel
theorem dX13_nightsUntilHole_27 : decode cX13_nightsUntilHole 27 = .ok (.iconst 0, 1) := by decide +kernel
theorem dX13_nightsUntilHole_28 : decode cX13_nightsUntilHole 28 = .ok (.invokestatic 70, 3) := by decide +kernel
theorem dX13_nightsUntilHole_31 : decode cX13_nightsUntilHole 31 = .ok (.iconst 0, 1) := by decide +kernel
theorem dX13_nightsUntilHole_32 : decode cX13_nightsUntilHole 32 = .ok (.istore 4, 2) := by decide +kernel
theorem dX13_nightsUntilHole_34 : decode cX13_nightsUntilHole 34 = .ok (.iconst 0, 1) := by decide +kernel
theorem dX13_nightsUntilHole_35 : decode cX13_nightsUntilHole 35 = .ok (.istore 5, 2) := by decide +kernel
theorem dX13_nightsUntilHole_37 : decode cX13_nightsUntilHole 37 = .ok (.iload 4, 2) := by decide +kernel
theorem dX13_nightsUntilHole_39 : decode cX13_nightsUntilHole 39 = .ok (.bipush 30, 2) := by decide +kernel
theorem dX13_nightsUntilHole_41 : decode cX13_nightsUntilHole 41 = .ok (.if_icmp .ge 26, 3) := by decide +kernel
theorem dX13_nightsUntilHole_44 : decode cX13_nightsUntilHole 44 = .ok (.aload_n 0, 1) := by decide +kernel
theorem dX13_nightsUntilHole_45 : decode cX13_nightsUntilHole 45 = .ok (.iload_n 3, 1) := by decide +kernel
theorem dX13_nightsUntilHole_46 : decode cX13_nightsUntilHole 46 = .ok (.invokevirtual 86, 3) := by decide +kernel
theorem dX13_nightsUntilHole_49 : decode cX13_nightsUntilHole 49 = .ok (.ifCond .ne 18, 3) := by decide +kernel
theorem dX13_nightsUntilHole_52 : decode cX13_nightsUntilHole 52 = .ok (.iload 5, 2) := by decide +kernel
theorem dX13_nightsUntilHole_54 : decode cX13_nightsUntilHole 54 = .ok (.aload_n 0, 1) := by decide +kernel
theorem dX13_nightsUntilHole_55 : decode cX13_nightsUntilHole 55 = .ok (.invokevirtual 163, 3) := by decide +kernel
theorem dX13_nightsUntilHole_58 : decode cX13_nightsUntilHole 58 = .ok (.iadd, 1) := by decide +kernel
theorem dX13_nightsUntilHole_59 : decode cX13_nightsUntilHole 59 = .ok (.istore 5, 2) := by decide +kernel
theorem dX13_nightsUntilHole_61 : decode cX13_nightsUntilHole 61 = .ok (.iinc 4 1, 3) := by decide +kernel
theorem dX13_nightsUntilHole_64 : decode cX13_nightsUntilHole 64 = .ok (.goto (-27), 3) := by decide +kernel
theorem dX13_nightsUntilHole_67 : decode cX13_nightsUntilHole 67 = .ok (.aload_n 0, 1) := by decide +kernel
theorem dX13_nightsUntilHole_68 : decode cX13_nightsUntilHole 68 = .ok (.iload_n 3, 1) := by decide +kernel
theorem dX13_nightsUntilHole_69 : decode cX13_nightsUntilHole 69 = .ok (.invokevirtual 86, 3) := by decide +kernel
theorem dX13_nightsUntilHole_72 : decode cX13_nightsUntilHole 72 = .ok (.ifCond .eq 12, 3) := by decide +kernel
theorem dX13_nightsUntilHole_75 : decode cX13_nightsUntilHole 75 = .ok (.iload 5, 2) := by decide +kernel
theorem dX13_nightsUntilHole_77 : decode cX13_nightsUntilHole 77 = .ok (.ifCond .lt 7, 3) := by decide +kernel
theorem dX13_nightsUntilHole_80 : decode cX13_nightsUntilHole 80 = .ok (.iconst 1, 1) := by decide +kernel
theorem dX13_nightsUntilHole_81 : decode cX13_nightsUntilHole 81 = .ok (.goto 4, 3) := by decide +kernel
theorem dX13_nightsUntilHole_84 : decode cX13_nightsUntilHole 84 = .ok (.iconst 0, 1) := by decide +kernel
theorem dX13_nightsUntilHole_85 : decode cX13_nightsUntilHole 85 = .ok (.istore 6, 2) := by decide +kernel
theorem dX13_nightsUntilHole_87 : decode cX13_nightsUntilHole 87 = .ok (.aload_n 0, 1) := by decide +kernel
theorem dX13_nightsUntilHole_88 : decode cX13_nightsUntilHole 88 = .ok (.getfield 22, 3) := by decide +kernel
theorem dX13_nightsUntilHole_91 : decode cX13_nightsUntilHole 91 = .ok (.iconst 0, 1) := by decide +kernel
theorem dX13_nightsUntilHole_92 : decode cX13_nightsUntilHole 92 = .ok (.aload_n 0, 1) := by decide +kernel
theorem dX13_nightsUntilHole_93 : decode cX13_nightsUntilHole 93 = .ok (.getfield 7, 3) := by decide +kernel
theorem dX13_nightsUntilHole_96 : decode cX13_nightsUntilHole 96 = .ok (.iconst 0, 1) := by decide +kernel
theorem dX13_nightsUntilHole_97 : decode cX13_nightsUntilHole 97 = .ok (.invokestatic 70, 3) := by decide +kernel
theorem dX13_nightsUntilHole_100 : decode cX13_nightsUntilHole 100 = .ok (.aload_n 0, 1) := by decide +kernel
theorem dX13_nightsUntilHole_101 : decode cX13_nightsUntilHole 101 = .ok (.iload 6, 2) := by decide +kernel
theorem dX13_nightsUntilHole_103 : decode cX13_nightsUntilHole 103 = .ok (.ifCond .eq 7, 3) := by decide +kernel
theorem dX13_nightsUntilHole_106 : decode cX13_nightsUntilHole 106 = .ok (.iconst 0, 1) := by decide +kernel
theorem dX13_nightsUntilHole_107 : decode cX13_nightsUntilHole 107 = .ok (.goto 4, 3) := by decide +kernel
theorem dX13_nightsUntilHole_110 : decode cX13_nightsUntilHole 110 = .ok (.iconst 2, 1) := by decide +kernel
theorem dX13_nightsUntilHole_111 : decode cX13_nightsUntilHole 111 = .ok (.invokevirtual 82, 3) := by decide +kernel
theorem dX13_nightsUntilHole_114 : decode cX13_nightsUntilHole 114 = .ok (.ifCond .eq 7, 3) := by decide +kernel
theorem dX13_nightsUntilHole_117 : decode cX13_nightsUntilHole 117 = .ok (.iconst 0, 1) := by decide +kernel
theorem dX13_nightsUntilHole_118 : decode cX13_nightsUntilHole 118 = .ok (.goto 5, 3) := by decide +kernel
theorem dX13_nightsUntilHole_121 : decode cX13_nightsUntilHole 121 = .ok (.iload 4, 2) := by decide +kernel
theorem dX13_nightsUntilHole_123 : decode cX13_nightsUntilHole 123 = .ok (.ireturn, 1) := by decide +kernel
theorem dX13_nights_0 : decode cX13_nights 0 = .ok (.aload_n 0, 1) := by decide +kernel
theorem dX13_nights_1 : decode cX13_nights 1 = .ok (.iconst 0, 1) := by decide +kernel
theorem dX13_nights_2 : decode cX13_nights 2 = .ok (.putfield 48, 3) := by decide +kernel
theorem dX13_nights_5 : decode cX13_nights 5 = .ok (.aload_n 0, 1) := by decide +kernel
theorem dX13_nights_6 : decode cX13_nights 6 = .ok (.getfield 7, 3) := by decide +kernel
theorem dX13_nights_9 : decode cX13_nights 9 = .ok (.iconst 0, 1) := by decide +kernel
theorem dX13_nights_10 : decode cX13_nights 10 = .ok (.iaload, 1) := by decide +kernel
theorem dX13_nights_11 : decode cX13_nights 11 = .ok (.ireturn, 1) := by decide +kernel
theorem dX13_poured_0 : decode cX13_poured 0 = .ok (.aload_n 0, 1) := by decide +kernel
theorem dX13_poured_1 : decode cX13_poured 1 = .ok (.iconst 0, 1) := by decide +kernel
theorem dX13_poured_2 : decode cX13_poured 2 = .ok (.putfield 48, 3) := by decide +kernel
theorem dX13_poured_5 : decode cX13_poured 5 = .ok (.aload_n 0, 1) := by decide +kernel
theorem dX13_poured_6 : decode cX13_poured 6 = .ok (.getfield 7, 3) := by decide +kernel
theorem dX13_poured_9 : decode cX13_poured 9 = .ok (.iconst 1, 1) := by decide +kernel
theorem dX13_poured_10 : decode cX13_poured 10 = .ok (.iaload, 1) := by decide +kernel
theorem dX13_poured_11 : decode cX13_poured 11 = .ok (.ireturn, 1) := by decide +kernel
theorem dX13_standing_0 : decode cX13_standing 0 = .ok (.aload_n 0, 1) := by decide +kernel
theorem dX13_standing_1 : decode cX13_standing 1 = .ok (.iconst 0, 1) := by decide +kernel
theorem dX13_standing_2 : decode cX13_standing 2 = .ok (.putfield 48, 3) := by decide +kernel
theorem dX13_standing_5 : decode cX13_standing 5 = .ok (.iconst 0, 1) := by decide +kernel
theorem dX13_standing_6 : decode cX13_standing 6 = .ok (.istore_n 1, 1) := by decide +kernel
theorem dX13_standing_7 : decode cX13_standing 7 = .ok (.iconst 0, 1) := by decide +kernel
theorem dX13_standing_8 : decode cX13_standing 8 = .ok (.istore_n 2, 1) := by decide +kernel
theorem dX13_standing_9 : decode cX13_standing 9 = .ok (.iload_n 2, 1) := by decide +kernel
theorem dX13_standing_10 : decode cX13_standing 10 = .ok (.bipush 36, 2) := by decide +kernel
theorem dX13_standing_12 : decode cX13_standing 12 = .ok (.if_icmp .ge 21, 3) := by decide +kernel
theorem dX13_standing_15 : decode cX13_standing 15 = .ok (.iload_n 1, 1) := by decide +kernel
theorem dX13_standing_16 : decode cX13_standing 16 = .ok (.aload_n 0, 1) := by decide +kernel
theorem dX13_standing_17 : decode cX13_standing 17 = .ok (.getfield 7, 3) := by decide +kernel
theorem dX13_standing_20 : decode cX13_standing 20 = .ok (.bipush 112, 2) := by decide +kernel
theorem dX13_standing_22 : decode cX13_standing 22 = .ok (.iload_n 2, 1) := by decide +kernel
theorem dX13_standing_23 : decode cX13_standing 23 = .ok (.iadd, 1) := by decide +kernel
theorem dX13_standing_24 : decode cX13_standing 24 = .ok (.iaload, 1) := by decide +kernel
theorem dX13_standing_25 : decode cX13_standing 25 = .ok (.iadd, 1) := by decide +kernel
theorem dX13_standing_26 : decode cX13_standing 26 = .ok (.istore_n 1, 1) := by decide +kernel
theorem dX13_standing_27 : decode cX13_standing 27 = .ok (.iinc 2 1, 3) := by decide +kernel
theorem dX13_standing_30 : decode cX13_standing 30 = .ok (.goto (-21), 3) := by decide +kernel
theorem dX13_standing_33 : decode cX13_standing 33 = .ok (.iload_n 1, 1) := by decide +kernel
theorem dX13_standing_34 : decode cX13_standing 34 = .ok (.ireturn, 1) := by decide +kernel
theorem dX13_drained_0 : decode cX13_drained 0 = .ok (.aload_n 0, 1) := by decide +kernel
theorem dX13_drained_1 : decode cX13_drained 1 = .ok (.iconst 0, 1) := by decide +kernel
theorem dX13_drained_2 : decode cX13_drained 2 = .ok (.putfield 48, 3) := by decide +kernel
theorem dX13_drained_5 : decode cX13_drained 5 = .ok (.aload_n 0, 1) := by decide +kernel
theorem dX13_drained_6 : decode cX13_drained 6 = .ok (.getfield 7, 3) := by decide +kernel
theorem dX13_drained_9 : decode cX13_drained 9 = .ok (.iconst 2, 1) := by decide +kernel
theorem dX13_drained_10 : decode cX13_drained 10 = .ok (.iaload, 1) := by decide +kernel
theorem dX13_drained_11 : decode cX13_drained 11 = .ok (.ireturn, 1) := by decide +kernel
theorem dX13_meanHeight_0 : decode cX13_meanHeight 0 = .ok (.aload_n 0, 1) := by decide +kernel
theorem dX13_meanHeight_1 : decode cX13_meanHeight 1 = .ok (.iconst 0, 1) := by decide +kernel
theorem dX13_meanHeight_2 : decode cX13_meanHeight 2 = .ok (.putfield 48, 3) := by decide +kernel
theorem dX13_meanHeight_5 : decode cX13_meanHeight 5 = .ok (.iconst 0, 1) := by decide +kernel
theorem dX13_meanHeight_6 : decode cX13_meanHeight 6 = .ok (.istore_n 1, 1) := by decide +kernel
theorem dX13_meanHeight_7 : decode cX13_meanHeight 7 = .ok (.iconst 0, 1) := by decide +kernel
theorem dX13_meanHeight_8 : decode cX13_meanHeight 8 = .ok (.istore_n 2, 1) := by decide +kernel
theorem dX13_meanHeight_9 : decode cX13_meanHeight 9 = .ok (.iload_n 2, 1) := by decide +kernel
theorem dX13_meanHeight_10 : decode cX13_meanHeight 10 = .ok (.bipush 36, 2) := by decide +kernel
theorem dX13_meanHeight_12 : decode cX13_meanHeight 12 = .ok (.if_icmp .ge 17, 3) := by decide +kernel
theorem dX13_meanHeight_15 : decode cX13_meanHeight 15 = .ok (.iload_n 1, 1) := by decide +kernel
theorem dX13_meanHeight_16 : decode cX13_meanHeight 16 = .ok (.aload_n 0, 1) := by decide +kernel
theorem dX13_meanHeight_17 : decode cX13_meanHeight 17 = .ok (.iload_n 2, 1) := by decide +kernel
theorem dX13_meanHeight_18 : decode cX13_meanHeight 18 = .ok (.invokevirtual 92, 3) := by decide +kernel
theorem dX13_meanHeight_21 : decode cX13_meanHeight 21 = .ok (.iadd, 1) := by decide +kernel
theorem dX13_meanHeight_22 : decode cX13_meanHeight 22 = .ok (.istore_n 1, 1) := by decide +kernel
theorem dX13_meanHeight_23 : decode cX13_meanHeight 23 = .ok (.iinc 2 1, 3) := by decide +kernel
theorem dX13_meanHeight_26 : decode cX13_meanHeight 26 = .ok (.goto (-17), 3) := by decide +kernel
theorem dX13_meanHeight_29 : decode cX13_meanHeight 29 = .ok (.iload_n 1, 1) := by decide +kernel
theorem dX13_meanHeight_30 : decode cX13_meanHeight 30 = .ok (.i2d, 1) := by decide +kernel
theorem dX13_meanHeight_31 : decode cX13_meanHeight 31 = .ok (.ldc2_w 166, 3) := by decide +kernel
theorem dX13_meanHeight_34 : decode cX13_meanHeight 34 = .ok (.ddiv, 1) := by decide +kernel
theorem dX13_meanHeight_35 : decode cX13_meanHeight 35 = .ok (.dreturn, 1) := by decide +kernel
theorem dX13_slope_0 : decode cX13_slope 0 = .ok (.aload_n 0, 1) := by decide +kernel
theorem dX13_slope_1 : decode cX13_slope 1 = .ok (.iload_n 1, 1) := by decide +kernel
theorem dX13_slope_2 : decode cX13_slope 2 = .ok (.iload_n 2, 1) := by decide +kernel
theorem dX13_slope_3 : decode cX13_slope 3 = .ok (.invokevirtual 89, 3) := by decide +kernel
theorem dX13_slope_6 : decode cX13_slope 6 = .ok (.ifCond .eq 5, 3) := by decide +kernel
theorem dX13_slope_9 : decode cX13_slope 9 = .ok (.fconst 0, 1) := by decide +kernel
theorem dX13_slope_10 : decode cX13_slope 10 = .ok (.freturn, 1) := by decide +kernel
theorem dX13_slope_11 : decode cX13_slope 11 = .ok (.bipush 6, 2) := by decide +kernel
theorem dX13_slope_13 : decode cX13_slope 13 = .ok (.iload_n 1, 1) := by decide +kernel
theorem dX13_slope_14 : decode cX13_slope 14 = .ok (.imul, 1) := by decide +kernel
theorem dX13_slope_15 : decode cX13_slope 15 = .ok (.iload_n 2, 1) := by decide +kernel
theorem dX13_slope_16 : decode cX13_slope 16 = .ok (.iadd, 1) := by decide +kernel
theorem dX13_slope_17 : decode cX13_slope 17 = .ok (.istore_n 3, 1) := by decide +kernel
theorem dX13_slope_18 : decode cX13_slope 18 = .ok (.iconst 0, 1) := by decide +kernel
theorem dX13_slope_19 : decode cX13_slope 19 = .ok (.istore 4, 2) := by decide +kernel
theorem dX13_slope_21 : decode cX13_slope 21 = .ok (.iconst 0, 1) := by decide +kernel
theorem dX13_slope_22 : decode cX13_slope 22 = .ok (.istore 5, 2) := by decide +kernel
theorem dX13_slope_24 : decode cX13_slope 24 = .ok (.iconst 0, 1) := by decide +kernel
theorem dX13_slope_25 : decode cX13_slope 25 = .ok (.istore 6, 2) := by decide +kernel
theorem dX13_slope_27 : decode cX13_slope 27 = .ok (.iload 6, 2) := by decide +kernel
theorem dX13_slope_29 : decode cX13_slope 29 = .ok (.iconst 4, 1) := by decide +kernel
theorem dX13_slope_30 : decode cX13_slope 30 = .ok (.if_icmp .ge 48, 3) := by decide +kernel
theorem dX13_slope_33 : decode cX13_slope 33 = .ok (.iload_n 3, 1) := by decide +kernel
theorem dX13_slope_34 : decode cX13_slope 34 = .ok (.iload 6, 2) := by decide +kernel
theorem dX13_slope_36 : decode cX13_slope 36 = .ok (.invokestatic 111, 3) := by decide +kernel
theorem dX13_slope_39 : decode cX13_slope 39 = .ok (.istore 7, 2) := by decide +kernel
theorem dX13_slope_41 : decode cX13_slope 41 = .ok (.iload 7, 2) := by decide +kernel
theorem dX13_slope_43 : decode cX13_slope 43 = .ok (.ifCond .ge 6, 3) := by decide +kernel
theorem dX13_slope_46 : decode cX13_slope 46 = .ok (.goto 26, 3) := by decide +kernel
theorem dX13_slope_49 : decode cX13_slope 49 = .ok (.iload 4, 2) := by decide +kernel
theorem dX13_slope_51 : decode cX13_slope 51 = .ok (.aload_n 0, 1) := by decide +kernel
theorem dX13_slope_52 : decode cX13_slope 52 = .ok (.iload 7, 2) := by decide +kernel
theorem dX13_slope_54 : decode cX13_slope 54 = .ok (.invokevirtual 92, 3) := by decide +kernel
theorem dX13_slope_57 : decode cX13_slope 57 = .ok (.aload_n 0, 1) := by decide +kernel
theorem dX13_slope_58 : decode cX13_slope 58 = .ok (.iload_n 3, 1) := by decide +kernel
theorem dX13_slope_59 : decode cX13_slope 59 = .ok (.invokevirtual 92, 3) := by decide +kernel
theorem dX13_slope_62 : decode cX13_slope 62 = .ok (.isub, 1) := by decide +kernel
theorem dX13_slope_63 : decode cX13_slope 63 = .ok (.invokestatic 143, 3) := by decide +kernel
theorem dX13_slope_66 : decode cX13_slope 66 = .ok (.iadd, 1) := by decide +kernel
theorem dX13_slope_67 : decode cX13_slope 67 = .ok (.istore 4, 2) := by decide +kernel
theorem dX13_slope_69 : decode cX13_slope 69 = .ok (.iinc 5 1, 3) := by decide +kernel
theorem dX13_slope_72 : decode cX13_slope 72 = .ok (.iinc 6 1, 3) := by decide +kernel
theorem dX13_slope_75 : decode cX13_slope 75 = .ok (.goto (-48), 3) := by decide +kernel
theorem dX13_slope_78 : decode cX13_slope 78 = .ok (.iload 4, 2) := by decide +kernel
theorem dX13_slope_80 : decode cX13_slope 80 = .ok (.i2f, 1) := by decide +kernel
theorem dX13_slope_81 : decode cX13_slope 81 = .ok (.iload 5, 2) := by decide +kernel
theorem dX13_slope_83 : decode cX13_slope 83 = .ok (.i2f, 1) := by decide +kernel
theorem dX13_slope_84 : decode cX13_slope 84 = .ok (.fdiv, 1) := by decide +kernel
theorem dX13_slope_85 : decode cX13_slope 85 = .ok (.freturn, 1) := by decide +kernel
theorem dX13_feed_0 : decode cX13_feed 0 = .ok (.aload_n 0, 1) := by decide +kernel
theorem dX13_feed_1 : decode cX13_feed 1 = .ok (.aload_n 0, 1) := by decide +kernel
theorem dX13_feed_2 : decode cX13_feed 2 = .ok (.getfield 168, 3) := by decide +kernel
theorem dX13_feed_5 : decode cX13_feed 5 = .ok (.bipush 60, 2) := by decide +kernel
theorem dX13_feed_7 : decode cX13_feed 7 = .ok (.if_icmp .ne 7, 3) := by decide +kernel
theorem dX13_feed_10 : decode cX13_feed 10 = .ok (.iconst 1, 1) := by decide +kernel
theorem dX13_feed_11 : decode cX13_feed 11 = .ok (.goto 4, 3) := by decide +kernel
theorem dX13_feed_14 : decode cX13_feed 14 = .ok (.iconst 0, 1) := by decide +kernel
theorem dX13_feed_15 : decode cX13_feed 15 = .ok (.invokevirtual 82, 3) := by decide +kernel
theorem dX13_feed_18 : decode cX13_feed 18 = .ok (.ifCond .eq 5, 3) := by decide +kernel
theorem dX13_feed_21 : decode cX13_feed 21 = .ok (.iconst 0, 1) := by decide +kernel
theorem dX13_feed_22 : decode cX13_feed 22 = .ok (.ireturn, 1) := by decide +kernel
theorem dX13_feed_23 : decode cX13_feed 23 = .ok (.aload_n 0, 1) := by decide +kernel
theorem dX13_feed_24 : decode cX13_feed 24 = .ok (.getfield 25, 3) := by decide +kernel
theorem dX13_feed_27 : decode cX13_feed 27 = .ok (.aload_n 0, 1) := by decide +kernel
theorem dX13_feed_28 : decode cX13_feed 28 = .ok (.getfield 168, 3) := by decide +kernel
theorem dX13_feed_31 : decode cX13_feed 31 = .ok (.iload_n 1, 1) := by decide +kernel
theorem dX13_feed_32 : decode cX13_feed 32 = .ok (.iastore, 1) := by decide +kernel
theorem dX13_feed_33 : decode cX13_feed 33 = .ok (.aload_n 0, 1) := by decide +kernel
theorem dX13_feed_34 : decode cX13_feed 34 = .ok (.dup, 1) := by decide +kernel
theorem dX13_feed_35 : decode cX13_feed 35 = .ok (.getfield 168, 3) := by decide +kernel
theorem dX13_feed_38 : decode cX13_feed 38 = .ok (.iconst 1, 1) := by decide +kernel
theorem dX13_feed_39 : decode cX13_feed 39 = .ok (.iadd, 1) := by decide +kernel
theorem dX13_feed_40 : decode cX13_feed 40 = .ok (.putfield 168, 3) := by decide +kernel
theorem dX13_feed_43 : decode cX13_feed 43 = .ok (.aload_n 0, 1) := by decide +kernel
theorem dX13_feed_44 : decode cX13_feed 44 = .ok (.getfield 168, 3) := by decide +kernel
theorem dX13_feed_47 : decode cX13_feed 47 = .ok (.ireturn, 1) := by decide +kernel
theorem dX13_here_0 : decode cX13_here 0 = .ok (.aload_n 0, 1) := by decide +kernel
theorem dX13_here_1 : decode cX13_here 1 = .ok (.getfield 171, 3) := by decide +kernel
theorem dX13_here_4 : decode cX13_here 4 = .ok (.aload_n 0, 1) := by decide +kernel
theorem dX13_here_5 : decode cX13_here 5 = .ok (.getfield 168, 3) := by decide +kernel
theorem dX13_here_8 : decode cX13_here 8 = .ok (.if_icmp .ge 15, 3) := by decide +kernel
theorem dX13_here_11 : decode cX13_here 11 = .ok (.aload_n 0, 1) := by decide +kernel
theorem dX13_here_12 : decode cX13_here 12 = .ok (.getfield 25, 3) := by decide +kernel
theorem dX13_here_15 : decode cX13_here 15 = .ok (.aload_n 0, 1) := by decide +kernel
theorem dX13_here_16 : decode cX13_here 16 = .ok (.getfield 171, 3) := by decide +kernel
theorem dX13_here_19 : decode cX13_here 19 = .ok (.iaload, 1) := by decide +kernel
theorem dX13_here_20 : decode cX13_here 20 = .ok (.goto 4, 3) := by decide +kernel
theorem dX13_here_23 : decode cX13_here 23 = .ok (.iconst (-1), 1) := by decide +kernel
theorem dX13_here_24 : decode cX13_here 24 = .ok (.ireturn, 1) := by decide +kernel
theorem dX13_skips_0 : decode cX13_skips 0 = .ok (.aload_n 0, 1) := by decide +kernel
theorem dX13_skips_1 : decode cX13_skips 1 = .ok (.invokevirtual 174, 3) := by decide +kernel
theorem dX13_skips_4 : decode cX13_skips 4 = .ok (.iload_n 1, 1) := by decide +kernel
theorem dX13_skips_5 : decode cX13_skips 5 = .ok (.if_icmp .eq 5, 3) := by decide +kernel
theorem dX13_skips_8 : decode cX13_skips 8 = .ok (.iconst 0, 1) := by decide +kernel
theorem dX13_skips_9 : decode cX13_skips 9 = .ok (.ireturn, 1) := by decide +kernel
theorem dX13_skips_10 : decode cX13_skips 10 = .ok (.aload_n 0, 1) := by decide +kernel
theorem dX13_skips_11 : decode cX13_skips 11 = .ok (.dup, 1) := by decide +kernel
theorem dX13_skips_12 : decode cX13_skips 12 = .ok (.getfield 171, 3) := by decide +kernel
theorem dX13_skips_15 : decode cX13_skips 15 = .ok (.iconst 1, 1) := by decide +kernel
theorem dX13_skips_16 : decode cX13_skips 16 = .ok (.iadd, 1) := by decide +kernel
theorem dX13_skips_17 : decode cX13_skips 17 = .ok (.putfield 171, 3) := by decide +kernel
theorem dX13_skips_20 : decode cX13_skips 20 = .ok (.iconst 1, 1) := by decide +kernel
theorem dX13_skips_21 : decode cX13_skips 21 = .ok (.ireturn, 1) := by decide +kernel
theorem dX13_isWord_0 : decode cX13_isWord 0 = .ok (.aload_n 0, 1) := by decide +kernel
theorem dX13_isWord_1 : decode cX13_isWord 1 = .ok (.getfield 45, 3) := by decide +kernel
theorem dX13_isWord_4 : decode cX13_isWord 4 = .ok (.iconst 4, 1) := by decide +kernel
theorem dX13_isWord_5 : decode cX13_isWord 5 = .ok (.aload_n 0, 1) := by decide +kernel
theorem dX13_isWord_6 : decode cX13_isWord 6 = .ok (.getfield 177, 3) := by decide +kernel
theorem dX13_isWord_9 : decode cX13_isWord 9 = .ok (.imul, 1) := by decide +kernel
theorem dX13_isWord_10 : decode cX13_isWord 10 = .ok (.iload_n 1, 1) := by decide +kernel
theorem dX13_isWord_11 : decode cX13_isWord 11 = .ok (.iastore, 1) := by decide +kernel
theorem dX13_isWord_12 : decode cX13_isWord 12 = .ok (.iconst 0, 1) := by decide +kernel
theorem dX13_isWord_13 : decode cX13_isWord 13 = .ok (.istore_n 3, 1) := by decide +kernel
theorem dX13_isWord_14 : decode cX13_isWord 14 = .ok (.iload_n 3, 1) := by decide +kernel
theorem dX13_isWord_15 : decode cX13_isWord 15 = .ok (.aload_n 2, 1) := by decide +kernel
theorem dX13_isWord_16 : decode cX13_isWord 16 = .ok (.invokevirtual 180, 3) := by decide +kernel
theorem dX13_isWord_19 : decode cX13_isWord 19 = .ok (.if_icmp .ge 23, 3) := by decide +kernel
theorem dX13_isWord_22 : decode cX13_isWord 22 = .ok (.aload_n 0, 1) := by decide +kernel
theorem dX13_isWord_23 : decode cX13_isWord 23 = .ok (.aload_n 2, 1) := by decide +kernel
theorem dX13_isWord_24 : decode cX13_isWord 24 = .ok (.iload_n 3, 1) := by decide +kernel
theorem dX13_isWord_25 : decode cX13_isWord 25 = .ok (.invokevirtual 184, 3) := by decide +kernel
theorem dX13_isWord_28 : decode cX13_isWord 28 = .ok (.invokevirtual 188, 3) := by decide +kernel
theorem dX13_isWord_31 : decode cX13_isWord 31 = .ok (.ifCond .ne 5, 3) := by decide +kernel
theorem dX13_isWord_34 : decode cX13_isWord 34 = .ok (.iconst 0, 1) := by decide +kernel
theorem dX13_isWord_35 : decode cX13_isWord 35 = .ok (.ireturn, 1) := by decide +kernel
theorem dX13_isWord_36 : decode cX13_isWord 36 = .ok (.iinc 3 1, 3) := by decide +kernel
theorem dX13_isWord_39 : decode cX13_isWord 39 = .ok (.goto (-25), 3) := by decide +kernel
theorem dX13_isWord_42 : decode cX13_isWord 42 = .ok (.iconst 1, 1) := by decide +kernel
theorem dX13_isWord_43 : decode cX13_isWord 43 = .ok (.ireturn, 1) := by decide +kernel
theorem dX13_digits_0 : decode cX13_digits 0 = .ok (.aload_n 0, 1) := by decide +kernel
theorem dX13_digits_1 : decode cX13_digits 1 = .ok (.invokevirtual 174, 3) := by decide +kernel
theorem dX13_digits_4 : decode cX13_digits 4 = .ok (.bipush 48, 2) := by decide +kernel
theorem dX13_digits_6 : decode cX13_digits 6 = .ok (.bipush 57, 2) := by decide +kernel
theorem dX13_digits_8 : decode cX13_digits 8 = .ok (.invokestatic 74, 3) := by decide +kernel
theorem dX13_digits_11 : decode cX13_digits 11 = .ok (.ifCond .ne 5, 3) := by decide +kernel
theorem dX13_digits_14 : decode cX13_digits 14 = .ok (.iconst 0, 1) := by decide +kernel
theorem dX13_digits_15 : decode cX13_digits 15 = .ok (.ireturn, 1) := by decide +kernel
theorem dX13_digits_16 : decode cX13_digits 16 = .ok (.aload_n 0, 1) := by decide +kernel
theorem dX13_digits_17 : decode cX13_digits 17 = .ok (.getfield 45, 3) := by decide +kernel
theorem dX13_digits_20 : decode cX13_digits 20 = .ok (.iload_n 1, 1) := by decide +kernel
theorem dX13_digits_21 : decode cX13_digits 21 = .ok (.iconst 0, 1) := by decide +kernel
theorem dX13_digits_22 : decode cX13_digits 22 = .ok (.iastore, 1) := by decide +kernel
theorem dX13_digits_23 : decode cX13_digits 23 = .ok (.iconst 0, 1) := by decide +kernel
theorem dX13_digits_24 : decode cX13_digits 24 = .ok (.istore_n 3, 1) := by decide +kernel
theorem dX13_digits_25 : decode cX13_digits 25 = .ok (.iload_n 3, 1) := by decide +kernel
theorem dX13_digits_26 : decode cX13_digits 26 = .ok (.iload_n 2, 1) := by decide +kernel
theorem dX13_digits_27 : decode cX13_digits 27 = .ok (.if_icmp .ge 56, 3) := by decide +kernel
theorem dX13_digits_30 : decode cX13_digits 30 = .ok (.aload_n 0, 1) := by decide +kernel
theorem dX13_digits_31 : decode cX13_digits 31 = .ok (.invokevirtual 174, 3) := by decide +kernel
theorem dX13_digits_34 : decode cX13_digits 34 = .ok (.bipush 48, 2) := by decide +kernel
theorem dX13_digits_36 : decode cX13_digits 36 = .ok (.bipush 57, 2) := by decide +kernel
theorem dX13_digits_38 : decode cX13_digits 38 = .ok (.invokestatic 74, 3) := by decide +kernel
theorem dX13_digits_41 : decode cX13_digits 41 = .ok (.ifCond .eq 42, 3) := by decide +kernel
theorem dX13_digits_44 : decode cX13_digits 44 = .ok (.aload_n 0, 1) := by decide +kernel
theorem dX13_digits_45 : decode cX13_digits 45 = .ok (.getfield 45, 3) := by decide +kernel
theorem dX13_digits_48 : decode cX13_digits 48 = .ok (.iload_n 1, 1) := by decide +kernel
theorem dX13_digits_49 : decode cX13_digits 49 = .ok (.bipush 10, 2) := by decide +kernel
theorem dX13_digits_51 : decode cX13_digits 51 = .ok (.aload_n 0, 1) := by decide +kernel
theorem dX13_digits_52 : decode cX13_digits 52 = .ok (.getfield 45, 3) := by decide +kernel
theorem dX13_digits_55 : decode cX13_digits 55 = .ok (.iload_n 1, 1) := by decide +kernel
theorem dX13_digits_56 : decode cX13_digits 56 = .ok (.iaload, 1) := by decide +kernel
theorem dX13_digits_57 : decode cX13_digits 57 = .ok (.imul, 1) := by decide +kernel
theorem dX13_digits_58 : decode cX13_digits 58 = .ok (.aload_n 0, 1) := by decide +kernel
theorem dX13_digits_59 : decode cX13_digits 59 = .ok (.invokevirtual 174, 3) := by decide +kernel
theorem dX13_digits_62 : decode cX13_digits 62 = .ok (.iadd, 1) := by decide +kernel
theorem dX13_digits_63 : decode cX13_digits 63 = .ok (.bipush 48, 2) := by decide +kernel
theorem dX13_digits_65 : decode cX13_digits 65 = .ok (.isub, 1) := by decide +kernel
theorem dX13_digits_66 : decode cX13_digits 66 = .ok (.iastore, 1) := by decide +kernel
theorem dX13_digits_67 : decode cX13_digits 67 = .ok (.aload_n 0, 1) := by decide +kernel
theorem dX13_digits_68 : decode cX13_digits 68 = .ok (.dup, 1) := by decide +kernel
theorem dX13_digits_69 : decode cX13_digits 69 = .ok (.getfield 171, 3) := by decide +kernel
theorem dX13_digits_72 : decode cX13_digits 72 = .ok (.iconst 1, 1) := by decide +kernel
theorem dX13_digits_73 : decode cX13_digits 73 = .ok (.iadd, 1) := by decide +kernel
theorem dX13_digits_74 : decode cX13_digits 74 = .ok (.putfield 171, 3) := by decide +kernel
theorem dX13_digits_77 : decode cX13_digits 77 = .ok (.iinc 3 1, 3) := by decide +kernel
theorem dX13_digits_80 : decode cX13_digits 80 = .ok (.goto (-55), 3) := by decide +kernel
theorem dX13_digits_83 : decode cX13_digits 83 = .ok (.iconst 1, 1) := by decide +kernel
theorem dX13_digits_84 : decode cX13_digits 84 = .ok (.ireturn, 1) := by decide +kernel
theorem dX13_cellHere_0 : decode cX13_cellHere 0 = .ok (.aload_n 0, 1) := by decide +kernel
theorem dX13_cellHere_1 : decode cX13_cellHere 1 = .ok (.bipush 32, 2) := by decide +kernel
theorem dX13_cellHere_3 : decode cX13_cellHere 3 = .ok (.invokevirtual 188, 3) := by decide +kernel
theorem dX13_cellHere_6 : decode cX13_cellHere 6 = .ok (.ifCond .eq 27, 3) := by decide +kernel
theorem dX13_cellHere_9 : decode cX13_cellHere 9 = .ok (.aload_n 0, 1) := by decide +kernel
theorem dX13_cellHere_10 : decode cX13_cellHere 10 = .ok (.iload_n 1, 1) := by decide +kernel
theorem dX13_cellHere_11 : decode cX13_cellHere 11 = .ok (.iconst 1, 1) := by decide +kernel
theorem dX13_cellHere_12 : decode cX13_cellHere 12 = .ok (.invokevirtual 191, 3) := by decide +kernel
theorem dX13_cellHere_15 : decode cX13_cellHere 15 = .ok (.ifCond .eq 18, 3) := by decide +kernel
theorem dX13_cellHere_18 : decode cX13_cellHere 18 = .ok (.aload_n 0, 1) := by decide +kernel
theorem dX13_cellHere_19 : decode cX13_cellHere 19 = .ok (.iload_n 1, 1) := by decide +kernel
theorem dX13_cellHere_20 : decode cX13_cellHere 20 = .ok (.iconst 1, 1) := by decide +kernel
theorem dX13_cellHere_21 : decode cX13_cellHere 21 = .ok (.iadd, 1) := by decide +kernel
theorem dX13_cellHere_22 : decode cX13_cellHere 22 = .ok (.iconst 1, 1) := by decide +kernel
theorem dX13_cellHere_23 : decode cX13_cellHere 23 = .ok (.invokevirtual 191, 3) := by decide +kernel
theorem dX13_cellHere_26 : decode cX13_cellHere 26 = .ok (.ifCond .eq 7, 3) := by decide +kernel
theorem dX13_cellHere_29 : decode cX13_cellHere 29 = .ok (.iconst 1, 1) := by decide +kernel
theorem dX13_cellHere_30 : decode cX13_cellHere 30 = .ok (.goto 4, 3) := by decide +kernel
theorem dX13_cellHere_33 : decode cX13_cellHere 33 = .ok (.iconst 0, 1) := by decide +kernel
theorem dX13_cellHere_34 : decode cX13_cellHere 34 = .ok (.ireturn, 1) := by decide +kernel
theorem dX13_commandHere_0 : decode cX13_commandHere 0 = .ok (.iconst 4, 1) := by decide +kernel
theorem dX13_commandHere_1 : decode cX13_commandHere 1 = .ok (.aload_n 0, 1) := by decide +kernel
theorem dX13_commandHere_2 : decode cX13_commandHere 2 = .ok (.getfield 177, 3) := by decide +kernel
theorem dX13_commandHere_5 : decode cX13_commandHere 5 = .ok (.imul, 1) := by decide +kernel
theorem dX13_commandHere_6 : decode cX13_commandHere 6 = .ok (.iconst 1, 1) := by decide +kernel
theorem dX13_commandHere_7 : decode cX13_commandHere 7 = .ok (.iadd, 1) := by decide +kernel
theorem dX13_commandHere_8 : decode cX13_commandHere 8 = .ok (.istore_n 1, 1) := by decide +kernel
theorem dX13_commandHere_9 : decode cX13_commandHere 9 = .ok (.aload_n 0, 1) := by decide +kernel
theorem dX13_commandHere_10 : decode cX13_commandHere 10 = .ok (.bipush 104, 2) := by decide +kernel
theorem dX13_commandHere_12 : decode cX13_commandHere 12 = .ok (.invokevirtual 188, 3) := by decide +kernel
theorem dX13_commandHere_15 : decode cX13_commandHere 15 = .ok (.ifCond .eq 47, 3) := by decide +kernel
theorem dX13_commandHere_18 : decode cX13_commandHere 18 = .ok (.aload_n 0, 1) := by decide +kernel
theorem dX13_commandHere_19 : decode cX13_commandHere 19 = .ok (.iconst 0, 1) := by decide +kernel
theorem dX13_commandHere_20 : decode cX13_commandHere 20 = .ok (.ldc 194, 2) := by decide +kernel
theorem dX13_commandHere_22 : decode cX13_commandHere 22 = .ok (.invokevirtual 196, 3) := by decide +kernel
theorem dX13_commandHere_25 : decode cX13_commandHere 25 = .ok (.ifCond .eq 35, 3) := by decide +kernel
theorem dX13_commandHere_28 : decode cX13_commandHere 28 = .ok (.aload_n 0, 1) := by decide +kernel
theorem dX13_commandHere_29 : decode cX13_commandHere 29 = .ok (.iload_n 1, 1) := by decide +kernel
theorem dX13_commandHere_30 : decode cX13_commandHere 30 = .ok (.invokevirtual 200, 3) := by decide +kernel
theorem dX13_commandHere_33 : decode cX13_commandHere 33 = .ok (.ifCond .eq 27, 3) := by decide +kernel
theorem dX13_commandHere_36 : decode cX13_commandHere 36 = .ok (.aload_n 0, 1) := by decide +kernel
theorem dX13_commandHere_37 : decode cX13_commandHere 37 = .ok (.bipush 61, 2) := by decide +kernel
theorem dX13_commandHere_39 : decode cX13_commandHere 39 = .ok (.invokevirtual 188, 3) := by decide +kernel
theorem dX13_commandHere_42 : decode cX13_commandHere 42 = .ok (.ifCond .eq 18, 3) := by decide +kernel
theorem dX13_commandHere_45 : decode cX13_commandHere 45 = .ok (.aload_n 0, 1) := by decide +kernel
theorem dX13_commandHere_46 : decode cX13_commandHere 46 = .ok (.iload_n 1, 1) := by decide +kernel
theorem dX13_commandHere_47 : decode cX13_commandHere 47 = .ok (.iconst 2, 1) := by decide +kernel
theorem dX13_commandHere_48 : decode cX13_commandHere 48 = .ok (.iadd, 1) := by decide +kernel
theorem dX13_commandHere_49 : decode cX13_commandHere 49 = .ok (.iconst 2, 1) := by decide +kernel
theorem dX13_commandHere_50 : decode cX13_commandHere 50 = .ok (.invokevirtual 191, 3) := by decide +kernel
theorem dX13_commandHere_53 : decode cX13_commandHere 53 = .ok (.ifCond .eq 7, 3) := by decide +kernel
theorem dX13_commandHere_56 : decode cX13_commandHere 56 = .ok (.iconst 1, 1) := by decide +kernel
theorem dX13_commandHere_57 : decode cX13_commandHere 57 = .ok (.goto 4, 3) := by decide +kernel
theorem dX13_commandHere_60 : decode cX13_commandHere 60 = .ok (.iconst 0, 1) := by decide +kernel
theorem dX13_commandHere_61 : decode cX13_commandHere 61 = .ok (.ireturn, 1) := by decide +kernel
theorem dX13_commandHere_62 : decode cX13_commandHere 62 = .ok (.aload_n 0, 1) := by decide +kernel
theorem dX13_commandHere_63 : decode cX13_commandHere 63 = .ok (.bipush 102, 2) := by decide +kernel
theorem dX13_commandHere_65 : decode cX13_commandHere 65 = .ok (.invokevirtual 188, 3) := by decide +kernel
theorem dX13_commandHere_68 : decode cX13_commandHere 68 = .ok (.ifCond .eq 27, 3) := by decide +kernel
theorem dX13_commandHere_71 : decode cX13_commandHere 71 = .ok (.aload_n 0, 1) := by decide +kernel
theorem dX13_commandHere_72 : decode cX13_commandHere 72 = .ok (.iconst 2, 1) := by decide +kernel
theorem dX13_commandHere_73 : decode cX13_commandHere 73 = .ok (.ldc 203, 2) := by decide +kernel
theorem dX13_commandHere_75 : decode cX13_commandHere 75 = .ok (.invokevirtual 196, 3) := by decide +kernel
theorem dX13_commandHere_78 : decode cX13_commandHere 78 = .ok (.ifCond .eq 15, 3) := by decide +kernel
theorem dX13_commandHere_81 : decode cX13_commandHere 81 = .ok (.aload_n 0, 1) := by decide +kernel
theorem dX13_commandHere_82 : decode cX13_commandHere 82 = .ok (.iload_n 1, 1) := by decide +kernel
theorem dX13_commandHere_83 : decode cX13_commandHere 83 = .ok (.invokevirtual 200, 3) := by decide +kernel
theorem dX13_commandHere_86 : decode cX13_commandHere 86 = .ok (.ifCond .eq 7, 3) := by decide +kernel
theorem dX13_commandHere_89 : decode cX13_commandHere 89 = .ok (.iconst 1, 1) := by decide +kernel
theorem dX13_commandHere_90 : decode cX13_commandHere 90 = .ok (.goto 4, 3) := by decide +kernel
theorem dX13_commandHere_93 : decode cX13_commandHere 93 = .ok (.iconst 0, 1) := by decide +kernel
theorem dX13_commandHere_94 : decode cX13_commandHere 94 = .ok (.ireturn, 1) := by decide +kernel
theorem dX13_commandHere_95 : decode cX13_commandHere 95 = .ok (.aload_n 0, 1) := by decide +kernel
theorem dX13_commandHere_96 : decode cX13_commandHere 96 = .ok (.bipush 100, 2) := by decide +kernel
theorem dX13_commandHere_98 : decode cX13_commandHere 98 = .ok (.invokevirtual 188, 3) := by decide +kernel
theorem dX13_commandHere_101 : decode cX13_commandHere 101 = .ok (.ifCond .eq 11, 3) := by decide +kernel
theorem dX13_commandHere_104 : decode cX13_commandHere 104 = .ok (.aload_n 0, 1) := by decide +kernel
theorem dX13_commandHere_105 : decode cX13_commandHere 105 = .ok (.iconst 3, 1) := by decide +kernel
theorem dX13_commandHere_106 : decode cX13_commandHere 106 = .ok (.ldc 205, 2) := by decide +kernel
theorem dX13_commandHere_108 : decode cX13_commandHere 108 = .ok (.invokevirtual 196, 3) := by decide +kernel
theorem dX13_commandHere_111 : decode cX13_commandHere 111 = .ok (.ireturn, 1) := by decide +kernel
theorem dX13_commandHere_112 : decode cX13_commandHere 112 = .ok (.aload_n 0, 1) := by decide +kernel
theorem dX13_commandHere_113 : decode cX13_commandHere 113 = .ok (.bipush 109, 2) := by decide +kernel
theorem dX13_commandHere_115 : decode cX13_commandHere 115 = .ok (.invokevirtual 188, 3) := by decide +kernel
theorem dX13_commandHere_118 : decode cX13_commandHere 118 = .ok (.ifCond .eq 28, 3) := by decide +kernel
theorem dX13_commandHere_121 : decode cX13_commandHere 121 = .ok (.aload_n 0, 1) := by decide +kernel
theorem dX13_commandHere_122 : decode cX13_commandHere 122 = .ok (.bipush 6, 2) := by decide +kernel
theorem dX13_commandHere_124 : decode cX13_commandHere 124 = .ok (.ldc 207, 2) := by decide +kernel
theorem dX13_commandHere_126 : decode cX13_commandHere 126 = .ok (.invokevirtual 196, 3) := by decide +kernel
theorem dX13_commandHere_129 : decode cX13_commandHere 129 = .ok (.ifCond .eq 15, 3) := by decide +kernel
theorem dX13_commandHere_132 : decode cX13_commandHere 132 = .ok (.aload_n 0, 1) := by decide +kernel
theorem dX13_commandHere_133 : decode cX13_commandHere 133 = .ok (.iload_n 1, 1) := by decide +kernel
theorem dX13_commandHere_134 : decode cX13_commandHere 134 = .ok (.invokevirtual 200, 3) := by decide +kernel
theorem dX13_commandHere_137 : decode cX13_commandHere 137 = .ok (.ifCond .eq 7, 3) := by decide +kernel
theorem dX13_commandHere_140 : decode cX13_commandHere 140 = .ok (.iconst 1, 1) := by decide +kernel
theorem dX13_commandHere_141 : decode cX13_commandHere 141 = .ok (.goto 4, 3) := by decide +kernel
theorem dX13_commandHere_144 : decode cX13_commandHere 144 = .ok (.iconst 0, 1) := by decide +kernel
theorem dX13_commandHere_145 : decode cX13_commandHere 145 = .ok (.ireturn, 1) := by decide +kernel
theorem dX13_commandHere_146 : decode cX13_commandHere 146 = .ok (.aload_n 0, 1) := by decide +kernel
theorem dX13_commandHere_147 : decode cX13_commandHere 147 = .ok (.bipush 110, 2) := by decide +kernel
theorem dX13_commandHere_149 : decode cX13_commandHere 149 = .ok (.invokevirtual 188, 3) := by decide +kernel
theorem dX13_commandHere_152 : decode cX13_commandHere 152 = .ok (.ifCond .eq 12, 3) := by decide +kernel
theorem dX13_commandHere_155 : decode cX13_commandHere 155 = .ok (.aload_n 0, 1) := by decide +kernel
theorem dX13_commandHere_156 : decode cX13_commandHere 156 = .ok (.bipush 8, 2) := by decide +kernel
theorem dX13_commandHere_158 : decode cX13_commandHere 158 = .ok (.ldc 209, 2) := by decide +kernel
theorem dX13_commandHere_160 : decode cX13_commandHere 160 = .ok (.invokevirtual 196, 3) := by decide +kernel
theorem dX13_commandHere_163 : decode cX13_commandHere 163 = .ok (.ireturn, 1) := by decide +kernel
theorem dX13_commandHere_164 : decode cX13_commandHere 164 = .ok (.aload_n 0, 1) := by decide +kernel
theorem dX13_commandHere_165 : decode cX13_commandHere 165 = .ok (.bipush 115, 2) := by decide +kernel
theorem dX13_commandHere_167 : decode cX13_commandHere 167 = .ok (.invokevirtual 188, 3) := by decide +kernel
theorem dX13_commandHere_170 : decode cX13_commandHere 170 = .ok (.ifCond .eq 57, 3) := by decide +kernel
theorem dX13_commandHere_173 : decode cX13_commandHere 173 = .ok (.aload_n 0, 1) := by decide +kernel
theorem dX13_commandHere_174 : decode cX13_commandHere 174 = .ok (.bipush 101, 2) := by decide +kernel
theorem dX13_commandHere_176 : decode cX13_commandHere 176 = .ok (.invokevirtual 188, 3) := by decide +kernel
theorem dX13_commandHere_179 : decode cX13_commandHere 179 = .ok (.ifCond .eq 13, 3) := by decide +kernel
theorem dX13_commandHere_182 : decode cX13_commandHere 182 = .ok (.aload_n 0, 1) := by decide +kernel
theorem dX13_commandHere_183 : decode cX13_commandHere 183 = .ok (.iconst 5, 1) := by decide +kernel
theorem dX13_commandHere_184 : decode cX13_commandHere 184 = .ok (.ldc 211, 2) := by decide +kernel
theorem dX13_commandHere_186 : decode cX13_commandHere 186 = .ok (.invokevirtual 196, 3) := by decide +kernel
theorem dX13_commandHere_189 : decode cX13_commandHere 189 = .ok (.goto 37, 3) := by decide +kernel
theorem dX13_commandHere_192 : decode cX13_commandHere 192 = .ok (.aload_n 0, 1) := by decide +kernel
theorem dX13_commandHere_193 : decode cX13_commandHere 193 = .ok (.bipush 7, 2) := by decide +kernel
theorem dX13_commandHere_195 : decode cX13_commandHere 195 = .ok (.ldc 213, 2) := by decide +kernel
theorem dX13_commandHere_197 : decode cX13_commandHere 197 = .ok (.invokevirtual 196, 3) := by decide +kernel
theorem dX13_commandHere_200 : decode cX13_commandHere 200 = .ok (.ifCond .eq 25, 3) := by decide +kernel
theorem dX13_commandHere_203 : decode cX13_commandHere 203 = .ok (.aload_n 0, 1) := by decide +kernel
theorem dX13_commandHere_204 : decode cX13_commandHere 204 = .ok (.bipush 32, 2) := by decide +kernel
theorem dX13_commandHere_206 : decode cX13_commandHere 206 = .ok (.invokevirtual 188, 3) := by decide +kernel
theorem dX13_commandHere_209 : decode cX13_commandHere 209 = .ok (.ifCond .eq 16, 3) := by decide +kernel
theorem dX13_commandHere_212 : decode cX13_commandHere 212 = .ok (.aload_n 0, 1) := by decide +kernel
theorem dX13_commandHere_213 : decode cX13_commandHere 213 = .ok (.iload_n 1, 1) := by decide +kernel
theorem dX13_commandHere_214 : decode cX13_commandHere 214 = .ok (.iconst 1, 1) := by decide +kernel
theorem dX13_commandHere_215 : decode cX13_commandHere 215 = .ok (.invokevirtual 191, 3) := by decide +kernel
theorem dX13_commandHere_218 : decode cX13_commandHere 218 = .ok (.ifCond .eq 7, 3) := by decide +kernel
theorem dX13_commandHere_221 : decode cX13_commandHere 221 = .ok (.iconst 1, 1) := by decide +kernel
theorem dX13_commandHere_222 : decode cX13_commandHere 222 = .ok (.goto 4, 3) := by decide +kernel
theorem dX13_commandHere_225 : decode cX13_commandHere 225 = .ok (.iconst 0, 1) := by decide +kernel
theorem dX13_commandHere_226 : decode cX13_commandHere 226 = .ok (.ireturn, 1) := by decide +kernel
theorem dX13_commandHere_227 : decode cX13_commandHere 227 = .ok (.aload_n 0, 1) := by decide +kernel
theorem dX13_commandHere_228 : decode cX13_commandHere 228 = .ok (.bipush 112, 2) := by decide +kernel
theorem dX13_commandHere_230 : decode cX13_commandHere 230 = .ok (.invokevirtual 188, 3) := by decide +kernel
theorem dX13_commandHere_233 : decode cX13_commandHere 233 = .ok (.ifCond .ne 5, 3) := by decide +kernel
theorem dX13_commandHere_236 : decode cX13_commandHere 236 = .ok (.iconst 0, 1) := by decide +kernel
theorem dX13_commandHere_237 : decode cX13_commandHere 237 = .ok (.ireturn, 1) := by decide +kernel
theorem dX13_commandHere_238 : decode cX13_commandHere 238 = .ok (.aload_n 0, 1) := by decide +kernel
theorem dX13_commandHere_239 : decode cX13_commandHere 239 = .ok (.bipush 101, 2) := by decide +kernel
theorem dX13_commandHere_241 : decode cX13_commandHere 241 = .ok (.invokevirtual 188, 3) := by decide +kernel
theorem dX13_commandHere_244 : decode cX13_commandHere 244 = .ok (.ifCond .eq 27, 3) := by decide +kernel
theorem dX13_commandHere_247 : decode cX13_commandHere 247 = .ok (.aload_n 0, 1) := by decide +kernel
theorem dX13_commandHere_248 : decode cX13_commandHere 248 = .ok (.iconst 1, 1) := by decide +kernel
theorem dX13_commandHere_249 : decode cX13_commandHere 249 = .ok (.ldc 215, 2) := by decide +kernel
theorem dX13_commandHere_251 : decode cX13_commandHere 251 = .ok (.invokevirtual 196, 3) := by decide +kernel
theorem dX13_commandHere_254 : decode cX13_commandHere 254 = .ok (.ifCond .eq 15, 3) := by decide +kernel
theorem dX13_commandHere_257 : decode cX13_commandHere 257 = .ok (.aload_n 0, 1) := by decide +kernel
theorem dX13_commandHere_258 : decode cX13_commandHere 258 = .ok (.iload_n 1, 1) := by decide +kernel
theorem dX13_commandHere_259 : decode cX13_commandHere 259 = .ok (.invokevirtual 200, 3) := by decide +kernel
theorem dX13_commandHere_262 : decode cX13_commandHere 262 = .ok (.ifCond .eq 7, 3) := by decide +kernel
theorem dX13_commandHere_265 : decode cX13_commandHere 265 = .ok (.iconst 1, 1) := by decide +kernel
theorem dX13_commandHere_266 : decode cX13_commandHere 266 = .ok (.goto 4, 3) := by decide +kernel
theorem dX13_commandHere_269 : decode cX13_commandHere 269 = .ok (.iconst 0, 1) := by decide +kernel
theorem dX13_commandHere_270 : decode cX13_commandHere 270 = .ok (.ireturn, 1) := by decide +kernel
theorem dX13_commandHere_271 : decode cX13_commandHere 271 = .ok (.aload_n 0, 1) := by decide +kernel
theorem dX13_commandHere_272 : decode cX13_commandHere 272 = .ok (.bipush 111, 2) := by decide +kernel
theorem dX13_commandHere_274 : decode cX13_commandHere 274 = .ok (.invokevirtual 188, 3) := by decide +kernel
theorem dX13_commandHere_277 : decode cX13_commandHere 277 = .ok (.ifCond .eq 47, 3) := by decide +kernel
theorem dX13_commandHere_280 : decode cX13_commandHere 280 = .ok (.aload_n 0, 1) := by decide +kernel
theorem dX13_commandHere_281 : decode cX13_commandHere 281 = .ok (.iconst 4, 1) := by decide +kernel
theorem dX13_commandHere_282 : decode cX13_commandHere 282 = .ok (.ldc 216, 2) := by decide +kernel
theorem dX13_commandHere_284 : decode cX13_commandHere 284 = .ok (.invokevirtual 196, 3) := by decide +kernel
theorem dX13_commandHere_287 : decode cX13_commandHere 287 = .ok (.ifCond .eq 35, 3) := by decide +kernel
theorem dX13_commandHere_290 : decode cX13_commandHere 290 = .ok (.aload_n 0, 1) := by decide +kernel
theorem dX13_commandHere_291 : decode cX13_commandHere 291 = .ok (.iload_n 1, 1) := by decide +kernel
theorem dX13_commandHere_292 : decode cX13_commandHere 292 = .ok (.invokevirtual 200, 3) := by decide +kernel
theorem dX13_commandHere_295 : decode cX13_commandHere 295 = .ok (.ifCond .eq 27, 3) := by decide +kernel
theorem dX13_commandHere_298 : decode cX13_commandHere 298 = .ok (.aload_n 0, 1) := by decide +kernel
theorem dX13_commandHere_299 : decode cX13_commandHere 299 = .ok (.bipush 32, 2) := by decide +kernel
theorem dX13_commandHere_301 : decode cX13_commandHere 301 = .ok (.invokevirtual 188, 3) := by decide +kernel
theorem dX13_commandHere_304 : decode cX13_commandHere 304 = .ok (.ifCond .eq 18, 3) := by decide +kernel
theorem dX13_commandHere_307 : decode cX13_commandHere 307 = .ok (.aload_n 0, 1) := by decide +kernel
theorem dX13_commandHere_308 : decode cX13_commandHere 308 = .ok (.iload_n 1, 1) := by decide +kernel
theorem dX13_commandHere_309 : decode cX13_commandHere 309 = .ok (.iconst 2, 1) := by decide +kernel
theorem dX13_commandHere_310 : decode cX13_commandHere 310 = .ok (.iadd, 1) := by decide +kernel
theorem dX13_commandHere_311 : decode cX13_commandHere 311 = .ok (.iconst 2, 1) := by decide +kernel
theorem dX13_commandHere_312 : decode cX13_commandHere 312 = .ok (.invokevirtual 191, 3) := by decide +kernel
theorem dX13_commandHere_315 : decode cX13_commandHere 315 = .ok (.ifCond .eq 7, 3) := by decide +kernel
theorem dX13_commandHere_318 : decode cX13_commandHere 318 = .ok (.iconst 1, 1) := by decide +kernel
theorem dX13_commandHere_319 : decode cX13_commandHere 319 = .ok (.goto 4, 3) := by decide +kernel
theorem dX13_commandHere_322 : decode cX13_commandHere 322 = .ok (.iconst 0, 1) := by decide +kernel
theorem dX13_commandHere_323 : decode cX13_commandHere 323 = .ok (.ireturn, 1) := by decide +kernel
theorem dX13_commandHere_324 : decode cX13_commandHere 324 = .ok (.aload_n 0, 1) := by decide +kernel
theorem dX13_commandHere_325 : decode cX13_commandHere 325 = .ok (.bipush 9, 2) := by decide +kernel
theorem dX13_commandHere_327 : decode cX13_commandHere 327 = .ok (.ldc 218, 2) := by decide +kernel
theorem dX13_commandHere_329 : decode cX13_commandHere 329 = .ok (.invokevirtual 196, 3) := by decide +kernel
theorem dX13_commandHere_332 : decode cX13_commandHere 332 = .ok (.ifCond .eq 15, 3) := by decide +kernel
theorem dX13_commandHere_335 : decode cX13_commandHere 335 = .ok (.aload_n 0, 1) := by decide +kernel
theorem dX13_commandHere_336 : decode cX13_commandHere 336 = .ok (.iload_n 1, 1) := by decide +kernel
theorem dX13_commandHere_337 : decode cX13_commandHere 337 = .ok (.invokevirtual 200, 3) := by decide +kernel
theorem dX13_commandHere_340 : decode cX13_commandHere 340 = .ok (.ifCond .eq 7, 3) := by decide +kernel
theorem dX13_commandHere_343 : decode cX13_commandHere 343 = .ok (.iconst 1, 1) := by decide +kernel
theorem dX13_commandHere_344 : decode cX13_commandHere 344 = .ok (.goto 4, 3) := by decide +kernel
theorem dX13_commandHere_347 : decode cX13_commandHere 347 = .ok (.iconst 0, 1) := by decide +kernel
theorem dX13_commandHere_348 : decode cX13_commandHere 348 = .ok (.ireturn, 1) := by decide +kernel
theorem dX13_isText_0 : decode cX13_isText 0 = .ok (.aload_n 0, 1) := by decide +kernel
theorem dX13_isText_1 : decode cX13_isText 1 = .ok (.iconst 0, 1) := by decide +kernel
theorem dX13_isText_2 : decode cX13_isText 2 = .ok (.putfield 171, 3) := by decide +kernel
theorem dX13_isText_5 : decode cX13_isText 5 = .ok (.aload_n 0, 1) := by decide +kernel
theorem dX13_isText_6 : decode cX13_isText 6 = .ok (.iconst 0, 1) := by decide +kernel
theorem dX13_isText_7 : decode cX13_isText 7 = .ok (.putfield 177, 3) := by decide +kernel
theorem dX13_isText_10 : decode cX13_isText 10 = .ok (.aload_n 0, 1) := by decide +kernel
theorem dX13_isText_11 : decode cX13_isText 11 = .ok (.invokevirtual 220, 3) := by decide +kernel
theorem dX13_isText_14 : decode cX13_isText 14 = .ok (.ifCond .ne 5, 3) := by decide +kernel
theorem dX13_isText_17 : decode cX13_isText 17 = .ok (.iconst 0, 1) := by decide +kernel
theorem dX13_isText_18 : decode cX13_isText 18 = .ok (.ireturn, 1) := by decide +kernel
theorem dX13_isText_19 : decode cX13_isText 19 = .ok (.aload_n 0, 1) := by decide +kernel
theorem dX13_isText_20 : decode cX13_isText 20 = .ok (.dup, 1) := by decide +kernel
theorem dX13_isText_21 : decode cX13_isText 21 = .ok (.getfield 177, 3) := by decide +kernel
theorem dX13_isText_24 : decode cX13_isText 24 = .ok (.iconst 1, 1) := by decide +kernel
theorem dX13_isText_25 : decode cX13_isText 25 = .ok (.iadd, 1) := by decide +kernel
theorem dX13_isText_26 : decode cX13_isText 26 = .ok (.putfield 177, 3) := by decide +kernel
theorem dX13_isText_29 : decode cX13_isText 29 = .ok (.aload_n 0, 1) := by decide +kernel
theorem dX13_isText_30 : decode cX13_isText 30 = .ok (.bipush 59, 2) := by decide +kernel
theorem dX13_isText_32 : decode cX13_isText 32 = .ok (.invokevirtual 188, 3) := by decide +kernel
theorem dX13_isText_35 : decode cX13_isText 35 = .ok (.ifCond .ne (-25), 3) := by decide +kernel
theorem dX13_isText_38 : decode cX13_isText 38 = .ok (.aload_n 0, 1) := by decide +kernel
theorem dX13_isText_39 : decode cX13_isText 39 = .ok (.getfield 171, 3) := by decide +kernel
theorem dX13_isText_42 : decode cX13_isText 42 = .ok (.aload_n 0, 1) := by decide +kernel
theorem dX13_isText_43 : decode cX13_isText 43 = .ok (.getfield 168, 3) := by decide +kernel
theorem dX13_isText_46 : decode cX13_isText 46 = .ok (.if_icmp .ne 7, 3) := by decide +kernel
theorem dX13_isText_49 : decode cX13_isText 49 = .ok (.iconst 1, 1) := by decide +kernel
theorem dX13_isText_50 : decode cX13_isText 50 = .ok (.goto 4, 3) := by decide +kernel
theorem dX13_isText_53 : decode cX13_isText 53 = .ok (.iconst 0, 1) := by decide +kernel
theorem dX13_isText_54 : decode cX13_isText 54 = .ok (.ireturn, 1) := by decide +kernel
theorem dX13_carries_0 : decode cX13_carries 0 = .ok (.aload_n 0, 1) := by decide +kernel
theorem dX13_carries_1 : decode cX13_carries 1 = .ok (.getfield 45, 3) := by decide +kernel
theorem dX13_carries_4 : decode cX13_carries 4 = .ok (.iload_n 1, 1) := by decide +kernel
theorem dX13_carries_5 : decode cX13_carries 5 = .ok (.iconst 1, 1) := by decide +kernel
theorem dX13_carries_6 : decode cX13_carries 6 = .ok (.iadd, 1) := by decide +kernel
theorem dX13_carries_7 : decode cX13_carries 7 = .ok (.iaload, 1) := by decide +kernel
theorem dX13_carries_8 : decode cX13_carries 8 = .ok (.istore_n 2, 1) := by decide +kernel
theorem dX13_carries_9 : decode cX13_carries 9 = .ok (.aload_n 0, 1) := by decide +kernel
theorem dX13_carries_10 : decode cX13_carries 10 = .ok (.getfield 45, 3) := by decide +kernel
theorem dX13_carries_13 : decode cX13_carries 13 = .ok (.iload_n 1, 1) := by decide +kernel
theorem dX13_carries_14 : decode cX13_carries 14 = .ok (.iconst 2, 1) := by decide +kernel
theorem dX13_carries_15 : decode cX13_carries 15 = .ok (.iadd, 1) := by decide +kernel
theorem dX13_carries_16 : decode cX13_carries 16 = .ok (.iaload, 1) := by decide +kernel
theorem dX13_carries_17 : decode cX13_carries 17 = .ok (.istore_n 3, 1) := by decide +kernel
theorem dX13_carries_18 : decode cX13_carries 18 = .ok (.aload_n 0, 1) := by decide +kernel
theorem dX13_carries_19 : decode cX13_carries 19 = .ok (.getfield 45, 3) := by decide +kernel
theorem dX13_carries_22 : decode cX13_carries 22 = .ok (.iload_n 1, 1) := by decide +kernel
theorem dX13_carries_23 : decode cX13_carries 23 = .ok (.iaload, 1) := by decide +kernel
theorem dX13_carries_24 : decode cX13_carries 24 = .ok (.tableswitch 124 0 8 #[52, 67, 74, 81, 86, 101, 106, 113, 119], 52) := by decide +kernel
theorem dX13_carries_76 : decode cX13_carries 76 = .ok (.aload_n 0, 1) := by decide +kernel
theorem dX13_carries_77 : decode cX13_carries 77 = .ok (.iload_n 2, 1) := by decide +kernel
theorem dX13_carries_78 : decode cX13_carries 78 = .ok (.iload_n 3, 1) := by decide +kernel
theorem dX13_carries_79 : decode cX13_carries 79 = .ok (.aload_n 0, 1) := by decide +kernel
theorem dX13_carries_80 : decode cX13_carries 80 = .ok (.getfield 45, 3) := by decide +kernel
theorem dX13_carries_83 : decode cX13_carries 83 = .ok (.iload_n 1, 1) := by decide +kernel
theorem dX13_carries_84 : decode cX13_carries 84 = .ok (.iconst 3, 1) := by decide +kernel
theorem dX13_carries_85 : decode cX13_carries 85 = .ok (.iadd, 1) := by decide +kernel
theorem dX13_carries_86 : decode cX13_carries 86 = .ok (.iaload, 1) := by decide +kernel
theorem dX13_carries_87 : decode cX13_carries 87 = .ok (.invokevirtual 224, 3) := by decide +kernel
theorem dX13_carries_90 : decode cX13_carries 90 = .ok (.ireturn, 1) := by decide +kernel
theorem dX13_carries_91 : decode cX13_carries 91 = .ok (.aload_n 0, 1) := by decide +kernel
theorem dX13_carries_92 : decode cX13_carries 92 = .ok (.iload_n 2, 1) := by decide +kernel
theorem dX13_carries_93 : decode cX13_carries 93 = .ok (.iload_n 3, 1) := by decide +kernel
theorem dX13_carries_94 : decode cX13_carries 94 = .ok (.invokevirtual 227, 3) := by decide +kernel
theorem dX13_carries_97 : decode cX13_carries 97 = .ok (.ireturn, 1) := by decide +kernel
theorem dX13_carries_98 : decode cX13_carries 98 = .ok (.aload_n 0, 1) := by decide +kernel
theorem dX13_carries_99 : decode cX13_carries 99 = .ok (.iload_n 2, 1) := by decide +kernel
theorem dX13_carries_100 : decode cX13_carries 100 = .ok (.iload_n 3, 1) := by decide +kernel
theorem dX13_carries_101 : decode cX13_carries 101 = .ok (.invokevirtual 230, 3) := by decide +kernel
theorem dX13_carries_104 : decode cX13_carries 104 = .ok (.ireturn, 1) := by decide +kernel
theorem dX13_carries_105 : decode cX13_carries 105 = .ok (.aload_n 0, 1) := by decide +kernel
theorem dX13_carries_106 : decode cX13_carries 106 = .ok (.invokevirtual 233, 3) := by decide +kernel
theorem dX13_carries_109 : decode cX13_carries 109 = .ok (.ireturn, 1) := by decide +kernel
theorem dX13_carries_110 : decode cX13_carries 110 = .ok (.aload_n 0, 1) := by decide +kernel
theorem dX13_carries_111 : decode cX13_carries 111 = .ok (.iload_n 2, 1) := by decide +kernel
theorem dX13_carries_112 : decode cX13_carries 112 = .ok (.iload_n 3, 1) := by decide +kernel
theorem dX13_carries_113 : decode cX13_carries 113 = .ok (.aload_n 0, 1) := by decide +kernel
theorem dX13_carries_114 : decode cX13_carries 114 = .ok (.getfield 45, 3) := by decide +kernel
theorem dX13_carries_117 : decode cX13_carries 117 = .ok (.iload_n 1, 1) := by decide +kernel
theorem dX13_carries_118 : decode cX13_carries 118 = .ok (.iconst 3, 1) := by decide +kernel
theorem dX13_carries_119 : decode cX13_carries 119 = .ok (.iadd, 1) := by decide +kernel
theorem dX13_carries_120 : decode cX13_carries 120 = .ok (.iaload, 1) := by decide +kernel
theorem dX13_carries_121 : decode cX13_carries 121 = .ok (.invokevirtual 236, 3) := by decide +kernel
theorem dX13_carries_124 : decode cX13_carries 124 = .ok (.ireturn, 1) := by decide +kernel
theorem dX13_carries_125 : decode cX13_carries 125 = .ok (.aload_n 0, 1) := by decide +kernel
theorem dX13_carries_126 : decode cX13_carries 126 = .ok (.invokevirtual 239, 3) := by decide +kernel
theorem dX13_carries_129 : decode cX13_carries 129 = .ok (.ireturn, 1) := by decide +kernel
theorem dX13_carries_130 : decode cX13_carries 130 = .ok (.aload_n 0, 1) := by decide +kernel
theorem dX13_carries_131 : decode cX13_carries 131 = .ok (.iload_n 2, 1) := by decide +kernel
theorem dX13_carries_132 : decode cX13_carries 132 = .ok (.iload_n 3, 1) := by decide +kernel
theorem dX13_carries_133 : decode cX13_carries 133 = .ok (.invokevirtual 242, 3) := by decide +kernel
theorem dX13_carries_136 : decode cX13_carries 136 = .ok (.ireturn, 1) := by decide +kernel
theorem dX13_carries_137 : decode cX13_carries 137 = .ok (.aload_n 0, 1) := by decide +kernel
theorem dX13_carries_138 : decode cX13_carries 138 = .ok (.iload_n 2, 1) := by decide +kernel
theorem dX13_carries_139 : decode cX13_carries 139 = .ok (.invokevirtual 245, 3) := by decide +kernel
theorem dX13_carries_142 : decode cX13_carries 142 = .ok (.ireturn, 1) := by decide +kernel
theorem dX13_carries_143 : decode cX13_carries 143 = .ok (.aload_n 0, 1) := by decide +kernel
theorem dX13_carries_144 : decode cX13_carries 144 = .ok (.invokevirtual 248, 3) := by decide +kernel
theorem dX13_carries_147 : decode cX13_carries 147 = .ok (.ireturn, 1) := by decide +kernel
theorem dX13_carries_148 : decode cX13_carries 148 = .ok (.aload_n 0, 1) := by decide +kernel
theorem dX13_carries_149 : decode cX13_carries 149 = .ok (.iload_n 2, 1) := by decide +kernel
theorem dX13_carries_150 : decode cX13_carries 150 = .ok (.iload_n 3, 1) := by decide +kernel
theorem dX13_carries_151 : decode cX13_carries 151 = .ok (.invokevirtual 251, 3) := by decide +kernel
theorem dX13_carries_154 : decode cX13_carries 154 = .ok (.ireturn, 1) := by decide +kernel
theorem dX13_deniesText_0 : decode cX13_deniesText 0 = .ok (.aload_n 0, 1) := by decide +kernel
theorem dX13_deniesText_1 : decode cX13_deniesText 1 = .ok (.getfield 51, 3) := by decide +kernel
theorem dX13_deniesText_4 : decode cX13_deniesText 4 = .ok (.ifCond .eq 10, 3) := by decide +kernel
theorem dX13_deniesText_7 : decode cX13_deniesText 7 = .ok (.aload_n 0, 1) := by decide +kernel
theorem dX13_deniesText_8 : decode cX13_deniesText 8 = .ok (.getfield 55, 3) := by decide +kernel
theorem dX13_deniesText_11 : decode cX13_deniesText 11 = .ok (.goto 5, 3) := by decide +kernel
theorem dX13_deniesText_14 : decode cX13_deniesText 14 = .ok (.bipush 8, 2) := by decide +kernel
theorem dX13_deniesText_16 : decode cX13_deniesText 16 = .ok (.istore_n 2, 1) := by decide +kernel
theorem dX13_deniesText_17 : decode cX13_deniesText 17 = .ok (.aload_n 0, 1) := by decide +kernel
theorem dX13_deniesText_18 : decode cX13_deniesText 18 = .ok (.iconst 2, 1) := by decide +kernel
theorem dX13_deniesText_19 : decode cX13_deniesText 19 = .ok (.bipush 7, 2) := by decide +kernel
theorem dX13_deniesText_21 : decode cX13_deniesText 21 = .ok (.iload_n 1, 1) := by decide +kernel
theorem dX13_deniesText_22 : decode cX13_deniesText 22 = .ok (.invokevirtual 96, 3) := by decide +kernel
theorem dX13_deniesText_25 : decode cX13_deniesText 25 = .ok (.pop, 1) := by decide +kernel
theorem dX13_deniesText_26 : decode cX13_deniesText 26 = .ok (.aload_n 0, 1) := by decide +kernel
theorem dX13_deniesText_27 : decode cX13_deniesText 27 = .ok (.iload_n 2, 1) := by decide +kernel
theorem dX13_deniesText_28 : decode cX13_deniesText 28 = .ok (.putfield 61, 3) := by decide +kernel
theorem dX13_deniesText_31 : decode cX13_deniesText 31 = .ok (.iconst 0, 1) := by decide +kernel
theorem dX13_deniesText_32 : decode cX13_deniesText 32 = .ok (.ireturn, 1) := by decide +kernel
theorem dX13_execute_0 : decode cX13_execute 0 = .ok (.aload_n 0, 1) := by decide +kernel
theorem dX13_execute_1 : decode cX13_execute 1 = .ok (.invokevirtual 254, 3) := by decide +kernel
theorem dX13_execute_4 : decode cX13_execute 4 = .ok (.istore_n 1, 1) := by decide +kernel
theorem dX13_execute_5 : decode cX13_execute 5 = .ok (.iload_n 1, 1) := by decide +kernel
theorem dX13_execute_6 : decode cX13_execute 6 = .ok (.ifCond .ne 11, 3) := by decide +kernel
theorem dX13_execute_9 : decode cX13_execute 9 = .ok (.aload_n 0, 1) := by decide +kernel
theorem dX13_execute_10 : decode cX13_execute 10 = .ok (.aload_n 0, 1) := by decide +kernel
theorem dX13_execute_11 : decode cX13_execute 11 = .ok (.getfield 171, 3) := by decide +kernel
theorem dX13_execute_14 : decode cX13_execute 14 = .ok (.putfield 28, 3) := by decide +kernel
theorem dX13_execute_17 : decode cX13_execute 17 = .ok (.aload_n 0, 1) := by decide +kernel
theorem dX13_execute_18 : decode cX13_execute 18 = .ok (.iconst 0, 1) := by decide +kernel
theorem dX13_execute_19 : decode cX13_execute 19 = .ok (.putfield 168, 3) := by decide +kernel
theorem dX13_execute_22 : decode cX13_execute 22 = .ok (.aload_n 0, 1) := by decide +kernel
theorem dX13_execute_23 : decode cX13_execute 23 = .ok (.iload_n 1, 1) := by decide +kernel
theorem dX13_execute_24 : decode cX13_execute 24 = .ok (.ifCond .eq 7, 3) := by decide +kernel
theorem dX13_execute_27 : decode cX13_execute 27 = .ok (.iconst 0, 1) := by decide +kernel
theorem dX13_execute_28 : decode cX13_execute 28 = .ok (.goto 4, 3) := by decide +kernel
theorem dX13_execute_31 : decode cX13_execute 31 = .ok (.iconst 1, 1) := by decide +kernel
theorem dX13_execute_32 : decode cX13_execute 32 = .ok (.invokevirtual 82, 3) := by decide +kernel
theorem dX13_execute_35 : decode cX13_execute 35 = .ok (.ifCond .eq 5, 3) := by decide +kernel
theorem dX13_execute_38 : decode cX13_execute 38 = .ok (.iconst 0, 1) := by decide +kernel
theorem dX13_execute_39 : decode cX13_execute 39 = .ok (.ireturn, 1) := by decide +kernel
theorem dX13_execute_40 : decode cX13_execute 40 = .ok (.aload_n 0, 1) := by decide +kernel
theorem dX13_execute_41 : decode cX13_execute 41 = .ok (.getfield 7, 3) := by decide +kernel
theorem dX13_execute_44 : decode cX13_execute 44 = .ok (.iconst 0, 1) := by decide +kernel
theorem dX13_execute_45 : decode cX13_execute 45 = .ok (.aload_n 0, 1) := by decide +kernel
theorem dX13_execute_46 : decode cX13_execute 46 = .ok (.getfield 19, 3) := by decide +kernel
theorem dX13_execute_49 : decode cX13_execute 49 = .ok (.iconst 0, 1) := by decide +kernel
theorem dX13_execute_50 : decode cX13_execute 50 = .ok (.invokestatic 70, 3) := by decide +kernel
theorem dX13_execute_53 : decode cX13_execute 53 = .ok (.aload_n 0, 1) := by decide +kernel
theorem dX13_execute_54 : decode cX13_execute 54 = .ok (.iconst 1, 1) := by decide +kernel
theorem dX13_execute_55 : decode cX13_execute 55 = .ok (.putfield 64, 3) := by decide +kernel
theorem dX13_execute_58 : decode cX13_execute 58 = .ok (.iconst 0, 1) := by decide +kernel
theorem dX13_execute_59 : decode cX13_execute 59 = .ok (.istore_n 2, 1) := by decide +kernel
theorem dX13_execute_60 : decode cX13_execute 60 = .ok (.iconst 0, 1) := by decide +kernel
theorem dX13_execute_61 : decode cX13_execute 61 = .ok (.istore_n 3, 1) := by decide +kernel
theorem dX13_execute_62 : decode cX13_execute 62 = .ok (.iload_n 2, 1) := by decide +kernel
theorem dX13_execute_63 : decode cX13_execute 63 = .ok (.aload_n 0, 1) := by decide +kernel
theorem dX13_execute_64 : decode cX13_execute 64 = .ok (.getfield 177, 3) := by decide +kernel
theorem dX13_execute_67 : decode cX13_execute 67 = .ok (.if_icmp .ge 31, 3) := by decide +kernel
theorem dX13_execute_70 : decode cX13_execute 70 = .ok (.aload_n 0, 1) := by decide +kernel
theorem dX13_execute_71 : decode cX13_execute 71 = .ok (.getfield 48, 3) := by decide +kernel
theorem dX13_execute_74 : decode cX13_execute 74 = .ok (.ifCond .ne 24, 3) := by decide +kernel
theorem dX13_execute_77 : decode cX13_execute 77 = .ok (.aload_n 0, 1) := by decide +kernel
theorem dX13_execute_78 : decode cX13_execute 78 = .ok (.iconst 4, 1) := by decide +kernel
theorem dX13_execute_79 : decode cX13_execute 79 = .ok (.iload_n 2, 1) := by decide +kernel
theorem dX13_execute_80 : decode cX13_execute 80 = .ok (.imul, 1) := by decide +kernel
theorem dX13_execute_81 : decode cX13_execute 81 = .ok (.invokevirtual 257, 3) := by decide +kernel
theorem dX13_execute_84 : decode cX13_execute 84 = .ok (.istore_n 3, 1) := by decide +kernel
theorem dX13_execute_85 : decode cX13_execute 85 = .ok (.aload_n 0, 1) := by decide +kernel
theorem dX13_execute_86 : decode cX13_execute 86 = .ok (.getfield 48, 3) := by decide +kernel
theorem dX13_execute_89 : decode cX13_execute 89 = .ok (.ifCond .ne (-27), 3) := by decide +kernel
theorem dX13_execute_92 : decode cX13_execute 92 = .ok (.iinc 2 1, 3) := by decide +kernel
theorem dX13_execute_95 : decode cX13_execute 95 = .ok (.goto (-33), 3) := by decide +kernel
theorem dX13_execute_98 : decode cX13_execute 98 = .ok (.aload_n 0, 1) := by decide +kernel
theorem dX13_execute_99 : decode cX13_execute 99 = .ok (.iconst 0, 1) := by decide +kernel
theorem dX13_execute_100 : decode cX13_execute 100 = .ok (.putfield 64, 3) := by decide +kernel
theorem dX13_execute_103 : decode cX13_execute 103 = .ok (.aload_n 0, 1) := by decide +kernel
theorem dX13_execute_104 : decode cX13_execute 104 = .ok (.getfield 48, 3) := by decide +kernel
theorem dX13_execute_107 : decode cX13_execute 107 = .ok (.ifCond .le 32, 3) := by decide +kernel
theorem dX13_execute_110 : decode cX13_execute 110 = .ok (.aload_n 0, 1) := by decide +kernel
theorem dX13_execute_111 : decode cX13_execute 111 = .ok (.getfield 19, 3) := by decide +kernel
theorem dX13_execute_114 : decode cX13_execute 114 = .ok (.iconst 0, 1) := by decide +kernel
theorem dX13_execute_115 : decode cX13_execute 115 = .ok (.aload_n 0, 1) := by decide +kernel
theorem dX13_execute_116 : decode cX13_execute 116 = .ok (.getfield 7, 3) := by decide +kernel
theorem dX13_execute_119 : decode cX13_execute 119 = .ok (.iconst 0, 1) := by decide +kernel
theorem dX13_execute_120 : decode cX13_execute 120 = .ok (.invokestatic 70, 3) := by decide +kernel
theorem dX13_execute_123 : decode cX13_execute 123 = .ok (.aload_n 0, 1) := by decide +kernel
theorem dX13_execute_124 : decode cX13_execute 124 = .ok (.iload_n 2, 1) := by decide +kernel
theorem dX13_execute_125 : decode cX13_execute 125 = .ok (.invokevirtual 260, 3) := by decide +kernel
theorem dX13_execute_128 : decode cX13_execute 128 = .ok (.iload_n 3, 1) := by decide +kernel
theorem dX13_execute_129 : decode cX13_execute 129 = .ok (.ifCond .le 7, 3) := by decide +kernel
theorem dX13_execute_132 : decode cX13_execute 132 = .ok (.iconst 0, 1) := by decide +kernel
theorem dX13_execute_133 : decode cX13_execute 133 = .ok (.goto 4, 3) := by decide +kernel
theorem dX13_execute_136 : decode cX13_execute 136 = .ok (.iload_n 3, 1) := by decide +kernel
theorem dX13_execute_137 : decode cX13_execute 137 = .ok (.iadd, 1) := by decide +kernel
theorem dX13_execute_138 : decode cX13_execute 138 = .ok (.ireturn, 1) := by decide +kernel
theorem dX13_execute_139 : decode cX13_execute 139 = .ok (.aload_n 0, 1) := by decide +kernel
theorem dX13_execute_140 : decode cX13_execute 140 = .ok (.aload_n 0, 1) := by decide +kernel
theorem dX13_execute_141 : decode cX13_execute 141 = .ok (.getfield 19, 3) := by decide +kernel
theorem dX13_execute_144 : decode cX13_execute 144 = .ok (.invokevirtual 100, 3) := by decide +kernel
theorem dX13_execute_147 : decode cX13_execute 147 = .ok (.aload_n 0, 1) := by decide +kernel
theorem dX13_execute_148 : decode cX13_execute 148 = .ok (.getfield 177, 3) := by decide +kernel
theorem dX13_execute_151 : decode cX13_execute 151 = .ok (.ireturn, 1) := by decide +kernel
theorem dX13_faultPosition_0 : decode cX13_faultPosition 0 = .ok (.aload_n 0, 1) := by decide +kernel
theorem dX13_faultPosition_1 : decode cX13_faultPosition 1 = .ok (.aload_n 0, 1) := by decide +kernel
theorem dX13_faultPosition_2 : decode cX13_faultPosition 2 = .ok (.getfield 28, 3) := by decide +kernel
theorem dX13_faultPosition_5 : decode cX13_faultPosition 5 = .ok (.ifCond .ge 7, 3) := by decide +kernel
theorem dX13_faultPosition_8 : decode cX13_faultPosition 8 = .ok (.iconst 1, 1) := by decide +kernel
theorem dX13_faultPosition_9 : decode cX13_faultPosition 9 = .ok (.goto 4, 3) := by decide +kernel
theorem dX13_faultPosition_12 : decode cX13_faultPosition 12 = .ok (.iconst 0, 1) := by decide +kernel
theorem dX13_faultPosition_13 : decode cX13_faultPosition 13 = .ok (.invokevirtual 82, 3) := by decide +kernel
theorem dX13_faultPosition_16 : decode cX13_faultPosition 16 = .ok (.ifCond .eq 7, 3) := by decide +kernel
theorem dX13_faultPosition_19 : decode cX13_faultPosition 19 = .ok (.iconst 0, 1) := by decide +kernel
theorem dX13_faultPosition_20 : decode cX13_faultPosition 20 = .ok (.goto 7, 3) := by decide +kernel
theorem dX13_faultPosition_23 : decode cX13_faultPosition 23 = .ok (.aload_n 0, 1) := by decide +kernel
theorem dX13_faultPosition_24 : decode cX13_faultPosition 24 = .ok (.getfield 28, 3) := by decide +kernel
theorem dX13_faultPosition_27 : decode cX13_faultPosition 27 = .ok (.ireturn, 1) := by decide +kernel
theorem dX13_writes_0 : decode cX13_writes 0 = .ok (.aload_n 0, 1) := by decide +kernel
theorem dX13_writes_1 : decode cX13_writes 1 = .ok (.getfield 32, 3) := by decide +kernel
theorem dX13_writes_4 : decode cX13_writes 4 = .ok (.aload_n 0, 1) := by decide +kernel
theorem dX13_writes_5 : decode cX13_writes 5 = .ok (.getfield 263, 3) := by decide +kernel
theorem dX13_writes_8 : decode cX13_writes 8 = .ok (.iload_n 1, 1) := by decide +kernel
theorem dX13_writes_9 : decode cX13_writes 9 = .ok (.i2c, 1) := by decide +kernel
theorem dX13_writes_10 : decode cX13_writes 10 = .ok (.castore, 1) := by decide +kernel
theorem dX13_writes_11 : decode cX13_writes 11 = .ok (.aload_n 0, 1) := by decide +kernel
theorem dX13_writes_12 : decode cX13_writes 12 = .ok (.dup, 1) := by decide +kernel
theorem dX13_writes_13 : decode cX13_writes 13 = .ok (.getfield 263, 3) := by decide +kernel
theorem dX13_writes_16 : decode cX13_writes 16 = .ok (.iconst 1, 1) := by decide +kernel
theorem dX13_writes_17 : decode cX13_writes 17 = .ok (.iadd, 1) := by decide +kernel
theorem dX13_writes_18 : decode cX13_writes 18 = .ok (.putfield 263, 3) := by decide +kernel
theorem dX13_writes_21 : decode cX13_writes 21 = .ok (.return_, 1) := by decide +kernel
theorem dX13_writesNumber_0 : decode cX13_writesNumber 0 = .ok (.iload_n 1, 1) := by decide +kernel
theorem dX13_writesNumber_1 : decode cX13_writesNumber 1 = .ok (.bipush 9, 2) := by decide +kernel
theorem dX13_writesNumber_3 : decode cX13_writesNumber 3 = .ok (.if_icmp .le 11, 3) := by decide +kernel
theorem dX13_writesNumber_6 : decode cX13_writesNumber 6 = .ok (.aload_n 0, 1) := by decide +kernel
theorem dX13_writesNumber_7 : decode cX13_writesNumber 7 = .ok (.iload_n 1, 1) := by decide +kernel
theorem dX13_writesNumber_8 : decode cX13_writesNumber 8 = .ok (.bipush 10, 2) := by decide +kernel
theorem dX13_writesNumber_10 : decode cX13_writesNumber 10 = .ok (.idiv, 1) := by decide +kernel
theorem dX13_writesNumber_11 : decode cX13_writesNumber 11 = .ok (.invokevirtual 266, 3) := by decide +kernel
theorem dX13_writesNumber_14 : decode cX13_writesNumber 14 = .ok (.aload_n 0, 1) := by decide +kernel
theorem dX13_writesNumber_15 : decode cX13_writesNumber 15 = .ok (.bipush 48, 2) := by decide +kernel
theorem dX13_writesNumber_17 : decode cX13_writesNumber 17 = .ok (.iload_n 1, 1) := by decide +kernel
theorem dX13_writesNumber_18 : decode cX13_writesNumber 18 = .ok (.bipush 10, 2) := by decide +kernel
theorem dX13_writesNumber_20 : decode cX13_writesNumber 20 = .ok (.irem, 1) := by decide +kernel
theorem dX13_writesNumber_21 : decode cX13_writesNumber 21 = .ok (.iadd, 1) := by decide +kernel
theorem dX13_writesNumber_22 : decode cX13_writesNumber 22 = .ok (.invokevirtual 270, 3) := by decide +kernel
theorem dX13_writesNumber_25 : decode cX13_writesNumber 25 = .ok (.return_, 1) := by decide +kernel
theorem dX13_writeRow_0 : decode cX13_writeRow 0 = .ok (.aload_n 0, 1) := by decide +kernel
theorem dX13_writeRow_1 : decode cX13_writeRow 1 = .ok (.iload_n 1, 1) := by decide +kernel
theorem dX13_writeRow_2 : decode cX13_writeRow 2 = .ok (.iconst 0, 1) := by decide +kernel
theorem dX13_writeRow_3 : decode cX13_writeRow 3 = .ok (.invokevirtual 89, 3) := by decide +kernel
theorem dX13_writeRow_6 : decode cX13_writeRow 6 = .ok (.ifCond .eq 5, 3) := by decide +kernel
theorem dX13_writeRow_9 : decode cX13_writeRow 9 = .ok (.iconst 0, 1) := by decide +kernel
theorem dX13_writeRow_10 : decode cX13_writeRow 10 = .ok (.ireturn, 1) := by decide +kernel
theorem dX13_writeRow_11 : decode cX13_writeRow 11 = .ok (.aload_n 0, 1) := by decide +kernel
theorem dX13_writeRow_12 : decode cX13_writeRow 12 = .ok (.iconst 0, 1) := by decide +kernel
theorem dX13_writeRow_13 : decode cX13_writeRow 13 = .ok (.putfield 263, 3) := by decide +kernel
theorem dX13_writeRow_16 : decode cX13_writeRow 16 = .ok (.bipush 6, 2) := by decide +kernel
theorem dX13_writeRow_18 : decode cX13_writeRow 18 = .ok (.iload_n 1, 1) := by decide +kernel
theorem dX13_writeRow_19 : decode cX13_writeRow 19 = .ok (.imul, 1) := by decide +kernel
theorem dX13_writeRow_20 : decode cX13_writeRow 20 = .ok (.istore_n 2, 1) := by decide +kernel
theorem dX13_writeRow_21 : decode cX13_writeRow 21 = .ok (.iload_n 2, 1) := by decide +kernel
theorem dX13_writeRow_22 : decode cX13_writeRow 22 = .ok (.bipush 6, 2) := by decide +kernel
theorem dX13_writeRow_24 : decode cX13_writeRow 24 = .ok (.iload_n 1, 1) := by decide +kernel
theorem dX13_writeRow_25 : decode cX13_writeRow 25 = .ok (.imul, 1) := by decide +kernel
theorem dX13_writeRow_26 : decode cX13_writeRow 26 = .ok (.bipush 6, 2) := by decide +kernel
theorem dX13_writeRow_28 : decode cX13_writeRow 28 = .ok (.iadd, 1) := by decide +kernel
theorem dX13_writeRow_29 : decode cX13_writeRow 29 = .ok (.if_icmp .ge 97, 3) := by decide +kernel
theorem dX13_writeRow_32 : decode cX13_writeRow 32 = .ok (.iload_n 2, 1) := by decide +kernel
theorem dX13_writeRow_33 : decode cX13_writeRow 33 = .ok (.bipush 6, 2) := by decide +kernel
theorem dX13_writeRow_35 : decode cX13_writeRow 35 = .ok (.iload_n 1, 1) := by decide +kernel
theorem dX13_writeRow_36 : decode cX13_writeRow 36 = .ok (.imul, 1) := by decide +kernel
theorem dX13_writeRow_37 : decode cX13_writeRow 37 = .ok (.if_icmp .le 9, 3) := by decide +kernel
theorem dX13_writeRow_40 : decode cX13_writeRow 40 = .ok (.aload_n 0, 1) := by decide +kernel
theorem dX13_writeRow_41 : decode cX13_writeRow 41 = .ok (.bipush 32, 2) := by decide +kernel
theorem dX13_writeRow_43 : decode cX13_writeRow 43 = .ok (.invokevirtual 270, 3) := by decide +kernel
theorem dX13_writeRow_46 : decode cX13_writeRow 46 = .ok (.aload_n 0, 1) := by decide +kernel
theorem dX13_writeRow_47 : decode cX13_writeRow 47 = .ok (.aload_n 0, 1) := by decide +kernel
theorem dX13_writeRow_48 : decode cX13_writeRow 48 = .ok (.iload_n 2, 1) := by decide +kernel
theorem dX13_writeRow_49 : decode cX13_writeRow 49 = .ok (.invokevirtual 92, 3) := by decide +kernel
theorem dX13_writeRow_52 : decode cX13_writeRow 52 = .ok (.invokevirtual 266, 3) := by decide +kernel
theorem dX13_writeRow_55 : decode cX13_writeRow 55 = .ok (.aload_n 0, 1) := by decide +kernel
theorem dX13_writeRow_56 : decode cX13_writeRow 56 = .ok (.getfield 7, 3) := by decide +kernel
theorem dX13_writeRow_59 : decode cX13_writeRow 59 = .ok (.bipush 76, 2) := by decide +kernel
theorem dX13_writeRow_61 : decode cX13_writeRow 61 = .ok (.iload_n 2, 1) := by decide +kernel
theorem dX13_writeRow_62 : decode cX13_writeRow 62 = .ok (.iadd, 1) := by decide +kernel
theorem dX13_writeRow_63 : decode cX13_writeRow 63 = .ok (.iaload, 1) := by decide +kernel
theorem dX13_writeRow_64 : decode cX13_writeRow 64 = .ok (.iconst 1, 1) := by decide +kernel
theorem dX13_writeRow_65 : decode cX13_writeRow 65 = .ok (.if_icmp .ne 9, 3) := by decide +kernel
theorem dX13_writeRow_68 : decode cX13_writeRow 68 = .ok (.aload_n 0, 1) := by decide +kernel
theorem dX13_writeRow_69 : decode cX13_writeRow 69 = .ok (.bipush 94, 2) := by decide +kernel
theorem dX13_writeRow_71 : decode cX13_writeRow 71 = .ok (.invokevirtual 270, 3) := by decide +kernel
theorem dX13_writeRow_74 : decode cX13_writeRow 74 = .ok (.aload_n 0, 1) := by decide +kernel
theorem dX13_writeRow_75 : decode cX13_writeRow 75 = .ok (.getfield 7, 3) := by decide +kernel
theorem dX13_writeRow_78 : decode cX13_writeRow 78 = .ok (.bipush 112, 2) := by decide +kernel
theorem dX13_writeRow_80 : decode cX13_writeRow 80 = .ok (.iload_n 2, 1) := by decide +kernel
theorem dX13_writeRow_81 : decode cX13_writeRow 81 = .ok (.iadd, 1) := by decide +kernel
theorem dX13_writeRow_82 : decode cX13_writeRow 82 = .ok (.iaload, 1) := by decide +kernel
theorem dX13_writeRow_83 : decode cX13_writeRow 83 = .ok (.ifCond .le 9, 3) := by decide +kernel
theorem dX13_writeRow_86 : decode cX13_writeRow 86 = .ok (.aload_n 0, 1) := by decide +kernel
theorem dX13_writeRow_87 : decode cX13_writeRow 87 = .ok (.bipush 126, 2) := by decide +kernel
theorem dX13_writeRow_89 : decode cX13_writeRow 89 = .ok (.invokevirtual 270, 3) := by decide +kernel
theorem dX13_writeRow_92 : decode cX13_writeRow 92 = .ok (.aload_n 0, 1) := by decide +kernel
theorem dX13_writeRow_93 : decode cX13_writeRow 93 = .ok (.iload_n 2, 1) := by decide +kernel
theorem dX13_writeRow_94 : decode cX13_writeRow 94 = .ok (.invokevirtual 86, 3) := by decide +kernel
theorem dX13_writeRow_97 : decode cX13_writeRow 97 = .ok (.ifCond .eq 9, 3) := by decide +kernel
theorem dX13_writeRow_100 : decode cX13_writeRow 100 = .ok (.aload_n 0, 1) := by decide +kernel
theorem dX13_writeRow_101 : decode cX13_writeRow 101 = .ok (.bipush 111, 2) := by decide +kernel
theorem dX13_writeRow_103 : decode cX13_writeRow 103 = .ok (.invokevirtual 270, 3) := by decide +kernel
theorem dX13_writeRow_106 : decode cX13_writeRow 106 = .ok (.aload_n 0, 1) := by decide +kernel
theorem dX13_writeRow_107 : decode cX13_writeRow 107 = .ok (.iload_n 2, 1) := by decide +kernel
theorem dX13_writeRow_108 : decode cX13_writeRow 108 = .ok (.invokevirtual 157, 3) := by decide +kernel
theorem dX13_writeRow_111 : decode cX13_writeRow 111 = .ok (.ifCond .lt 9, 3) := by decide +kernel
theorem dX13_writeRow_114 : decode cX13_writeRow 114 = .ok (.aload_n 0, 1) := by decide +kernel
theorem dX13_writeRow_115 : decode cX13_writeRow 115 = .ok (.bipush 109, 2) := by decide +kernel
theorem dX13_writeRow_117 : decode cX13_writeRow 117 = .ok (.invokevirtual 270, 3) := by decide +kernel
theorem dX13_writeRow_120 : decode cX13_writeRow 120 = .ok (.iinc 2 1, 3) := by decide +kernel
theorem dX13_writeRow_123 : decode cX13_writeRow 123 = .ok (.goto (-102), 3) := by decide +kernel
theorem dX13_writeRow_126 : decode cX13_writeRow 126 = .ok (.aload_n 0, 1) := by decide +kernel
theorem dX13_writeRow_127 : decode cX13_writeRow 127 = .ok (.getfield 263, 3) := by decide +kernel
theorem dX13_writeRow_130 : decode cX13_writeRow 130 = .ok (.ireturn, 1) := by decide +kernel
theorem dX13_lineCharacter_0 : decode cX13_lineCharacter 0 = .ok (.aload_n 0, 1) := by decide +kernel
theorem dX13_lineCharacter_1 : decode cX13_lineCharacter 1 = .ok (.iload_n 1, 1) := by decide +kernel
theorem dX13_lineCharacter_2 : decode cX13_lineCharacter 2 = .ok (.iconst 0, 1) := by decide +kernel
theorem dX13_lineCharacter_3 : decode cX13_lineCharacter 3 = .ok (.aload_n 0, 1) := by decide +kernel
theorem dX13_lineCharacter_4 : decode cX13_lineCharacter 4 = .ok (.getfield 263, 3) := by decide +kernel
theorem dX13_lineCharacter_7 : decode cX13_lineCharacter 7 = .ok (.iconst 1, 1) := by decide +kernel
theorem dX13_lineCharacter_8 : decode cX13_lineCharacter 8 = .ok (.isub, 1) := by decide +kernel
theorem dX13_lineCharacter_9 : decode cX13_lineCharacter 9 = .ok (.invokestatic 74, 3) := by decide +kernel
theorem dX13_lineCharacter_12 : decode cX13_lineCharacter 12 = .ok (.ifCond .eq 7, 3) := by decide +kernel
theorem dX13_lineCharacter_15 : decode cX13_lineCharacter 15 = .ok (.iconst 0, 1) := by decide +kernel
theorem dX13_lineCharacter_16 : decode cX13_lineCharacter 16 = .ok (.goto 4, 3) := by decide +kernel
theorem dX13_lineCharacter_19 : decode cX13_lineCharacter 19 = .ok (.iconst 1, 1) := by decide +kernel
theorem dX13_lineCharacter_20 : decode cX13_lineCharacter 20 = .ok (.invokevirtual 82, 3) := by decide +kernel
theorem dX13_lineCharacter_23 : decode cX13_lineCharacter 23 = .ok (.ifCond .eq 8, 3) := by decide +kernel
theorem dX13_lineCharacter_26 : decode cX13_lineCharacter 26 = .ok (.bipush 32, 2) := by decide +kernel
theorem dX13_lineCharacter_28 : decode cX13_lineCharacter 28 = .ok (.goto 9, 3) := by decide +kernel
theorem dX13_lineCharacter_31 : decode cX13_lineCharacter 31 = .ok (.aload_n 0, 1) := by decide +kernel
theorem dX13_lineCharacter_32 : decode cX13_lineCharacter 32 = .ok (.getfield 32, 3) := by decide +kernel
theorem dX13_lineCharacter_35 : decode cX13_lineCharacter 35 = .ok (.iload_n 1, 1) := by decide +kernel
theorem dX13_lineCharacter_36 : decode cX13_lineCharacter 36 = .ok (.caload, 1) := by decide +kernel
theorem dX13_lineCharacter_37 : decode cX13_lineCharacter 37 = .ok (.ireturn, 1) := by decide +kernel
theorem dX13_denial_0 : decode cX13_denial 0 = .ok (.aload_n 0, 1) := by decide +kernel
theorem dX13_denial_1 : decode cX13_denial 1 = .ok (.aload_n 0, 1) := by decide +kernel
theorem dX13_denial_2 : decode cX13_denial 2 = .ok (.getfield 55, 3) := by decide +kernel
theorem dX13_denial_5 : decode cX13_denial 5 = .ok (.ifCond .ne 7, 3) := by decide +kernel
theorem dX13_denial_8 : decode cX13_denial 8 = .ok (.iconst 1, 1) := by decide +kernel
theorem dX13_denial_9 : decode cX13_denial 9 = .ok (.goto 4, 3) := by decide +kernel
theorem dX13_denial_12 : decode cX13_denial 12 = .ok (.iconst 0, 1) := by decide +kernel
theorem dX13_denial_13 : decode cX13_denial 13 = .ok (.invokevirtual 82, 3) := by decide +kernel
theorem dX13_denial_16 : decode cX13_denial 16 = .ok (.ifCond .eq 7, 3) := by decide +kernel
theorem dX13_denial_19 : decode cX13_denial 19 = .ok (.iconst 0, 1) := by decide +kernel
theorem dX13_denial_20 : decode cX13_denial 20 = .ok (.goto 7, 3) := by decide +kernel
theorem dX13_denial_23 : decode cX13_denial 23 = .ok (.aload_n 0, 1) := by decide +kernel
theorem dX13_denial_24 : decode cX13_denial 24 = .ok (.getfield 55, 3) := by decide +kernel
theorem dX13_denial_27 : decode cX13_denial 27 = .ok (.ireturn, 1) := by decide +kernel
theorem dX13_denialDetail_0 : decode cX13_denialDetail 0 = .ok (.aload_n 0, 1) := by decide +kernel
theorem dX13_denialDetail_1 : decode cX13_denialDetail 1 = .ok (.aload_n 0, 1) := by decide +kernel
theorem dX13_denialDetail_2 : decode cX13_denialDetail 2 = .ok (.getfield 55, 3) := by decide +kernel
theorem dX13_denialDetail_5 : decode cX13_denialDetail 5 = .ok (.ifCond .ne 7, 3) := by decide +kernel
theorem dX13_denialDetail_8 : decode cX13_denialDetail 8 = .ok (.iconst 1, 1) := by decide +kernel
theorem dX13_denialDetail_9 : decode cX13_denialDetail 9 = .ok (.goto 4, 3) := by decide +kernel
theorem dX13_denialDetail_12 : decode cX13_denialDetail 12 = .ok (.iconst 0, 1) := by decide +kernel
theorem dX13_denialDetail_13 : decode cX13_denialDetail 13 = .ok (.invokevirtual 82, 3) := by decide +kernel
theorem dX13_denialDetail_16 : decode cX13_denialDetail 16 = .ok (.ifCond .eq 7, 3) := by decide +kernel
theorem dX13_denialDetail_19 : decode cX13_denialDetail 19 = .ok (.iconst 0, 1) := by decide +kernel
theorem dX13_denialDetail_20 : decode cX13_denialDetail 20 = .ok (.goto 7, 3) := by decide +kernel
theorem dX13_denialDetail_23 : decode cX13_denialDetail 23 = .ok (.aload_n 0, 1) := by decide +kernel
theorem dX13_denialDetail_24 : decode cX13_denialDetail 24 = .ok (.getfield 58, 3) := by decide +kernel
theorem dX13_denialDetail_27 : decode cX13_denialDetail 27 = .ok (.ireturn, 1) := by decide +kernel
theorem dX13_denialCause_0 : decode cX13_denialCause 0 = .ok (.aload_n 0, 1) := by decide +kernel
theorem dX13_denialCause_1 : decode cX13_denialCause 1 = .ok (.aload_n 0, 1) := by decide +kernel
theorem dX13_denialCause_2 : decode cX13_denialCause 2 = .ok (.getfield 61, 3) := by decide +kernel
theorem dX13_denialCause_5 : decode cX13_denialCause 5 = .ok (.ifCond .ne 7, 3) := by decide +kernel
theorem dX13_denialCause_8 : decode cX13_denialCause 8 = .ok (.iconst 1, 1) := by decide +kernel
theorem dX13_denialCause_9 : decode cX13_denialCause 9 = .ok (.goto 4, 3) := by decide +kernel
theorem dX13_denialCause_12 : decode cX13_denialCause 12 = .ok (.iconst 0, 1) := by decide +kernel
theorem dX13_denialCause_13 : decode cX13_denialCause 13 = .ok (.invokevirtual 82, 3) := by decide +kernel
theorem dX13_denialCause_16 : decode cX13_denialCause 16 = .ok (.ifCond .eq 7, 3) := by decide +kernel
theorem dX13_denialCause_19 : decode cX13_denialCause 19 = .ok (.iconst 0, 1) := by decide +kernel
theorem dX13_denialCause_20 : decode cX13_denialCause 20 = .ok (.goto 7, 3) := by decide +kernel
theorem dX13_denialCause_23 : decode cX13_denialCause 23 = .ok (.aload_n 0, 1) := by decide +kernel
theorem dX13_denialCause_24 : decode cX13_denialCause 24 = .ok (.getfield 61, 3) := by decide +kernel
theorem dX13_denialCause_27 : decode cX13_denialCause 27 = .ok (.ireturn, 1) := by decide +kernel
theorem dX13_undo_0 : decode cX13_undo 0 = .ok (.aload_n 0, 1) := by decide +kernel
theorem dX13_undo_1 : decode cX13_undo 1 = .ok (.aload_n 0, 1) := by decide +kernel
theorem dX13_undo_2 : decode cX13_undo 2 = .ok (.getfield 67, 3) := by decide +kernel
theorem dX13_undo_5 : decode cX13_undo 5 = .ok (.ifCond .ne 7, 3) := by decide +kernel
theorem dX13_undo_8 : decode cX13_undo 8 = .ok (.iconst 1, 1) := by decide +kernel
theorem dX13_undo_9 : decode cX13_undo 9 = .ok (.goto 4, 3) := by decide +kernel
theorem dX13_undo_12 : decode cX13_undo 12 = .ok (.iconst 0, 1) := by decide +kernel
theorem dX13_undo_13 : decode cX13_undo 13 = .ok (.invokevirtual 82, 3) := by decide +kernel
theorem dX13_undo_16 : decode cX13_undo 16 = .ok (.ifCond .eq 5, 3) := by decide +kernel
theorem dX13_undo_19 : decode cX13_undo 19 = .ok (.iconst 0, 1) := by decide +kernel
theorem dX13_undo_20 : decode cX13_undo 20 = .ok (.ireturn, 1) := by decide +kernel
theorem dX13_undo_21 : decode cX13_undo 21 = .ok (.aload_n 0, 1) := by decide +kernel
theorem dX13_undo_22 : decode cX13_undo 22 = .ok (.dup, 1) := by decide +kernel
theorem dX13_undo_23 : decode cX13_undo 23 = .ok (.getfield 67, 3) := by decide +kernel
theorem dX13_undo_26 : decode cX13_undo 26 = .ok (.iconst 1, 1) := by decide +kernel
theorem dX13_undo_27 : decode cX13_undo 27 = .ok (.isub, 1) := by decide +kernel
theorem dX13_undo_28 : decode cX13_undo 28 = .ok (.putfield 67, 3) := by decide +kernel
theorem dX13_undo_31 : decode cX13_undo 31 = .ok (.aload_n 0, 1) := by decide +kernel
theorem dX13_undo_32 : decode cX13_undo 32 = .ok (.getfield 13, 3) := by decide +kernel
theorem dX13_undo_35 : decode cX13_undo 35 = .ok (.sipush 152, 3) := by decide +kernel
theorem dX13_undo_38 : decode cX13_undo 38 = .ok (.aload_n 0, 1) := by decide +kernel
theorem dX13_undo_39 : decode cX13_undo 39 = .ok (.getfield 67, 3) := by decide +kernel
theorem dX13_undo_42 : decode cX13_undo 42 = .ok (.imul, 1) := by decide +kernel
theorem dX13_undo_43 : decode cX13_undo 43 = .ok (.aload_n 0, 1) := by decide +kernel
theorem dX13_undo_44 : decode cX13_undo 44 = .ok (.getfield 7, 3) := by decide +kernel
theorem dX13_undo_47 : decode cX13_undo 47 = .ok (.iconst 0, 1) := by decide +kernel
theorem dX13_undo_48 : decode cX13_undo 48 = .ok (.invokestatic 70, 3) := by decide +kernel
theorem dX13_undo_51 : decode cX13_undo 51 = .ok (.aload_n 0, 1) := by decide +kernel
theorem dX13_undo_52 : decode cX13_undo 52 = .ok (.getfield 67, 3) := by decide +kernel
theorem dX13_undo_55 : decode cX13_undo 55 = .ok (.ireturn, 1) := by decide +kernel
theorem dX13_undoCount_0 : decode cX13_undoCount 0 = .ok (.aload_n 0, 1) := by decide +kernel
theorem dX13_undoCount_1 : decode cX13_undoCount 1 = .ok (.iconst 0, 1) := by decide +kernel
theorem dX13_undoCount_2 : decode cX13_undoCount 2 = .ok (.putfield 48, 3) := by decide +kernel
theorem dX13_undoCount_5 : decode cX13_undoCount 5 = .ok (.aload_n 0, 1) := by decide +kernel
theorem dX13_undoCount_6 : decode cX13_undoCount 6 = .ok (.getfield 67, 3) := by decide +kernel
theorem dX13_undoCount_9 : decode cX13_undoCount 9 = .ok (.ireturn, 1) := by decide +kernel
theorem dX13_saveSnapshot_0 : decode cX13_saveSnapshot 0 = .ok (.aload_n 0, 1) := by decide +kernel
theorem dX13_saveSnapshot_1 : decode cX13_saveSnapshot 1 = .ok (.iconst 0, 1) := by decide +kernel
theorem dX13_saveSnapshot_2 : decode cX13_saveSnapshot 2 = .ok (.putfield 48, 3) := by decide +kernel
theorem dX13_saveSnapshot_5 : decode cX13_saveSnapshot 5 = .ok (.aload_n 0, 1) := by decide +kernel
theorem dX13_saveSnapshot_6 : decode cX13_saveSnapshot 6 = .ok (.iconst 1, 1) := by decide +kernel
theorem dX13_saveSnapshot_7 : decode cX13_saveSnapshot 7 = .ok (.putfield 273, 3) := by decide +kernel
theorem dX13_saveSnapshot_10 : decode cX13_saveSnapshot 10 = .ok (.aload_n 0, 1) := by decide +kernel
theorem dX13_saveSnapshot_11 : decode cX13_saveSnapshot 11 = .ok (.getfield 7, 3) := by decide +kernel
theorem dX13_saveSnapshot_14 : decode cX13_saveSnapshot 14 = .ok (.iconst 0, 1) := by decide +kernel
theorem dX13_saveSnapshot_15 : decode cX13_saveSnapshot 15 = .ok (.aload_n 0, 1) := by decide +kernel
theorem dX13_saveSnapshot_16 : decode cX13_saveSnapshot 16 = .ok (.getfield 16, 3) := by decide +kernel
theorem dX13_saveSnapshot_19 : decode cX13_saveSnapshot 19 = .ok (.iconst 0, 1) := by decide +kernel
theorem dX13_saveSnapshot_20 : decode cX13_saveSnapshot 20 = .ok (.invokestatic 70, 3) := by decide +kernel
theorem dX13_saveSnapshot_23 : decode cX13_saveSnapshot 23 = .ok (.aload_n 0, 1) := by decide +kernel
theorem dX13_saveSnapshot_24 : decode cX13_saveSnapshot 24 = .ok (.getfield 7, 3) := by decide +kernel
theorem dX13_saveSnapshot_27 : decode cX13_saveSnapshot 27 = .ok (.iconst 3, 1) := by decide +kernel
theorem dX13_saveSnapshot_28 : decode cX13_saveSnapshot 28 = .ok (.iaload, 1) := by decide +kernel
theorem dX13_saveSnapshot_29 : decode cX13_saveSnapshot 29 = .ok (.ireturn, 1) := by decide +kernel
theorem dX13_restoreSnapshot_0 : decode cX13_restoreSnapshot 0 = .ok (.aload_n 0, 1) := by decide +kernel
theorem dX13_restoreSnapshot_1 : decode cX13_restoreSnapshot 1 = .ok (.aload_n 0, 1) := by decide +kernel
theorem dX13_restoreSnapshot_2 : decode cX13_restoreSnapshot 2 = .ok (.getfield 273, 3) := by decide +kernel
theorem dX13_restoreSnapshot_5 : decode cX13_restoreSnapshot 5 = .ok (.ifCond .eq 7, 3) := by decide +kernel
theorem dX13_restoreSnapshot_8 : decode cX13_restoreSnapshot 8 = .ok (.iconst 0, 1) := by decide +kernel
theorem dX13_restoreSnapshot_9 : decode cX13_restoreSnapshot 9 = .ok (.goto 4, 3) := by decide +kernel
theorem dX13_restoreSnapshot_12 : decode cX13_restoreSnapshot 12 = .ok (.iconst 1, 1) := by decide +kernel
theorem dX13_restoreSnapshot_13 : decode cX13_restoreSnapshot 13 = .ok (.invokevirtual 82, 3) := by decide +kernel
theorem dX13_restoreSnapshot_16 : decode cX13_restoreSnapshot 16 = .ok (.ifCond .eq 5, 3) := by decide +kernel
theorem dX13_restoreSnapshot_19 : decode cX13_restoreSnapshot 19 = .ok (.iconst 0, 1) := by decide +kernel
theorem dX13_restoreSnapshot_20 : decode cX13_restoreSnapshot 20 = .ok (.ireturn, 1) := by decide +kernel
theorem dX13_restoreSnapshot_21 : decode cX13_restoreSnapshot 21 = .ok (.aload_n 0, 1) := by decide +kernel
theorem dX13_restoreSnapshot_22 : decode cX13_restoreSnapshot 22 = .ok (.getfield 16, 3) := by decide +kernel
theorem dX13_restoreSnapshot_25 : decode cX13_restoreSnapshot 25 = .ok (.iconst 0, 1) := by decide +kernel
theorem dX13_restoreSnapshot_26 : decode cX13_restoreSnapshot 26 = .ok (.aload_n 0, 1) := by decide +kernel
theorem dX13_restoreSnapshot_27 : decode cX13_restoreSnapshot 27 = .ok (.getfield 7, 3) := by decide +kernel
theorem dX13_restoreSnapshot_30 : decode cX13_restoreSnapshot 30 = .ok (.iconst 0, 1) := by decide +kernel
theorem dX13_restoreSnapshot_31 : decode cX13_restoreSnapshot 31 = .ok (.invokestatic 70, 3) := by decide +kernel
theorem dX13_restoreSnapshot_34 : decode cX13_restoreSnapshot 34 = .ok (.aload_n 0, 1) := by decide +kernel
theorem dX13_restoreSnapshot_35 : decode cX13_restoreSnapshot 35 = .ok (.iconst 0, 1) := by decide +kernel
theorem dX13_restoreSnapshot_36 : decode cX13_restoreSnapshot 36 = .ok (.putfield 67, 3) := by decide +kernel
theorem dX13_restoreSnapshot_39 : decode cX13_restoreSnapshot 39 = .ok (.aload_n 0, 1) := by decide +kernel
theorem dX13_restoreSnapshot_40 : decode cX13_restoreSnapshot 40 = .ok (.getfield 7, 3) := by decide +kernel
theorem dX13_restoreSnapshot_43 : decode cX13_restoreSnapshot 43 = .ok (.iconst 3, 1) := by decide +kernel
theorem dX13_restoreSnapshot_44 : decode cX13_restoreSnapshot 44 = .ok (.iaload, 1) := by decide +kernel
theorem dX13_restoreSnapshot_45 : decode cX13_restoreSnapshot 45 = .ok (.ireturn, 1) := by decide +kernel
