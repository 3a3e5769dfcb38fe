theorem dX1_init_0 : decode cX1_init 0 = .ok (.aload_n 0, 1) := by decide +kernel
theorem dX1_init_1 : decode cX1_init 1 = .ok (.invokespecial 3, 3) := by decide +kernel
theorem dX1_init_4 : decode cX1_init 4 = .ok (.aload_n 0, 1) := by decide +kernel
theorem dX1_init_5 : decode cX1_init 5 = .ok (.bipush 36, 2) := by decide +kernel
theorem dX1_init_7 : decode cX1_init 7 = .ok (.newarray .boolean, 2) := by decide +kernel
theorem dX1_init_9 : decode cX1_init 9 = .ok (.putfield 9, 3) := by decide +kernel
theorem dX1_init_12 : decode cX1_init 12 = .ok (.aload_n 0, 1) := by decide +kernel
theorem dX1_init_13 : decode cX1_init 13 = .ok (.bipush 36, 2) := by decide +kernel
theorem dX1_init_15 : decode cX1_init 15 = .ok (.newarray .int, 2) := by decide +kernel
theorem dX1_init_17 : decode cX1_init 17 = .ok (.putfield 15, 3) := by decide +kernel
theorem dX1_init_20 : decode cX1_init 20 = .ok (.return_, 1) := by decide +kernel
theorem dX1_put_0 : decode cX1_put 0 = .ok (.aload_n 0, 1) := by decide +kernel
theorem dX1_put_1 : decode cX1_put 1 = .ok (.getfield 9, 3) := by decide +kernel
theorem dX1_put_4 : decode cX1_put 4 = .ok (.iload_n 1, 1) := by decide +kernel
theorem dX1_put_5 : decode cX1_put 5 = .ok (.iconst 1, 1) := by decide +kernel
theorem dX1_put_6 : decode cX1_put 6 = .ok (.bastore, 1) := by decide +kernel
theorem dX1_put_7 : decode cX1_put 7 = .ok (.aload_n 0, 1) := by decide +kernel
theorem dX1_put_8 : decode cX1_put 8 = .ok (.getfield 15, 3) := by decide +kernel
theorem dX1_put_11 : decode cX1_put 11 = .ok (.iload_n 1, 1) := by decide +kernel
theorem dX1_put_12 : decode cX1_put 12 = .ok (.iload_n 2, 1) := by decide +kernel
theorem dX1_put_13 : decode cX1_put 13 = .ok (.iastore, 1) := by decide +kernel
theorem dX1_put_14 : decode cX1_put 14 = .ok (.return_, 1) := by decide +kernel
theorem dX1_take_0 : decode cX1_take 0 = .ok (.iconst (-1), 1) := by decide +kernel
theorem dX1_take_1 : decode cX1_take 1 = .ok (.istore_n 1, 1) := by decide +kernel
theorem dX1_take_2 : decode cX1_take 2 = .ok (.iconst 0, 1) := by decide +kernel
theorem dX1_take_3 : decode cX1_take 3 = .ok (.istore_n 2, 1) := by decide +kernel
theorem dX1_take_4 : decode cX1_take 4 = .ok (.iload_n 2, 1) := by decide +kernel
theorem dX1_take_5 : decode cX1_take 5 = .ok (.bipush 36, 2) := by decide +kernel
theorem dX1_take_7 : decode cX1_take 7 = .ok (.if_icmp .ge 40, 3) := by decide +kernel
theorem dX1_take_10 : decode cX1_take 10 = .ok (.aload_n 0, 1) := by decide +kernel
theorem dX1_take_11 : decode cX1_take 11 = .ok (.getfield 9, 3) := by decide +kernel
theorem dX1_take_14 : decode cX1_take 14 = .ok (.iload_n 2, 1) := by decide +kernel
theorem dX1_take_15 : decode cX1_take 15 = .ok (.baload, 1) := by decide +kernel
theorem dX1_take_16 : decode cX1_take 16 = .ok (.ifCond .eq 25, 3) := by decide +kernel
theorem dX1_take_19 : decode cX1_take 19 = .ok (.iload_n 1, 1) := by decide +kernel
theorem dX1_take_20 : decode cX1_take 20 = .ok (.iconst (-1), 1) := by decide +kernel
theorem dX1_take_21 : decode cX1_take 21 = .ok (.if_icmp .eq 18, 3) := by decide +kernel
theorem dX1_take_24 : decode cX1_take 24 = .ok (.aload_n 0, 1) := by decide +kernel
theorem dX1_take_25 : decode cX1_take 25 = .ok (.getfield 15, 3) := by decide +kernel
theorem dX1_take_28 : decode cX1_take 28 = .ok (.iload_n 2, 1) := by decide +kernel
theorem dX1_take_29 : decode cX1_take 29 = .ok (.iaload, 1) := by decide +kernel
theorem dX1_take_30 : decode cX1_take 30 = .ok (.aload_n 0, 1) := by decide +kernel
theorem dX1_take_31 : decode cX1_take 31 = .ok (.getfield 15, 3) := by decide +kernel
theorem dX1_take_34 : decode cX1_take 34 = .ok (.iload_n 1, 1) := by decide +kernel
theorem dX1_take_35 : decode cX1_take 35 = .ok (.iaload, 1) := by decide +kernel
theorem dX1_take_36 : decode cX1_take 36 = .ok (.if_icmp .ge 5, 3) := by decide +kernel
theorem dX1_take_39 : decode cX1_take 39 = .ok (.iload_n 2, 1) := by decide +kernel
theorem dX1_take_40 : decode cX1_take 40 = .ok (.istore_n 1, 1) := by decide +kernel
theorem dX1_take_41 : decode cX1_take 41 = .ok (.iinc 2 1, 3) := by decide +kernel
theorem dX1_take_44 : decode cX1_take 44 = .ok (.goto (-40), 3) := by decide +kernel
theorem dX1_take_47 : decode cX1_take 47 = .ok (.iload_n 1, 1) := by decide +kernel
theorem dX1_take_48 : decode cX1_take 48 = .ok (.iconst (-1), 1) := by decide +kernel
theorem dX1_take_49 : decode cX1_take 49 = .ok (.if_icmp .eq 10, 3) := by decide +kernel
theorem dX1_take_52 : decode cX1_take 52 = .ok (.aload_n 0, 1) := by decide +kernel
theorem dX1_take_53 : decode cX1_take 53 = .ok (.getfield 9, 3) := by decide +kernel
theorem dX1_take_56 : decode cX1_take 56 = .ok (.iload_n 1, 1) := by decide +kernel
theorem dX1_take_57 : decode cX1_take 57 = .ok (.iconst 0, 1) := by decide +kernel
theorem dX1_take_58 : decode cX1_take 58 = .ok (.bastore, 1) := by decide +kernel
theorem dX1_take_59 : decode cX1_take 59 = .ok (.iload_n 1, 1) := by decide +kernel
theorem dX1_take_60 : decode cX1_take 60 = .ok (.ireturn, 1) := by decide +kernel
theorem dX2_init_0 : decode cX2_init 0 = .ok (.aload_n 0, 1) := by decide +kernel
theorem dX2_init_1 : decode cX2_init 1 = .ok (.invokespecial 1, 3) := by decide +kernel
theorem dX2_init_4 : decode cX2_init 4 = .ok (.aload_n 0, 1) := by decide +kernel
theorem dX2_init_5 : decode cX2_init 5 = .ok (.aload_n 1, 1) := by decide +kernel
theorem dX2_init_6 : decode cX2_init 6 = .ok (.putfield 7, 3) := by decide +kernel
theorem dX2_init_9 : decode cX2_init 9 = .ok (.aload_n 0, 1) := by decide +kernel
theorem dX2_init_10 : decode cX2_init 10 = .ok (.iload_n 2, 1) := by decide +kernel
theorem dX2_init_11 : decode cX2_init 11 = .ok (.putfield 13, 3) := by decide +kernel
theorem dX2_init_14 : decode cX2_init 14 = .ok (.aload_n 0, 1) := by decide +kernel
theorem dX2_init_15 : decode cX2_init 15 = .ok (.iload_n 3, 1) := by decide +kernel
theorem dX2_init_16 : decode cX2_init 16 = .ok (.putfield 17, 3) := by decide +kernel
theorem dX2_init_19 : decode cX2_init 19 = .ok (.return_, 1) := by decide +kernel
theorem dX3_init_0 : decode cX3_init 0 = .ok (.aload_n 0, 1) := by decide +kernel
theorem dX3_init_1 : decode cX3_init 1 = .ok (.invokespecial 3, 3) := by decide +kernel
theorem dX3_init_4 : decode cX3_init 4 = .ok (.aload_n 0, 1) := by decide +kernel
theorem dX3_init_5 : decode cX3_init 5 = .ok (.bipush 36, 2) := by decide +kernel
theorem dX3_init_7 : decode cX3_init 7 = .ok (.newarray .boolean, 2) := by decide +kernel
theorem dX3_init_9 : decode cX3_init 9 = .ok (.putfield 9, 3) := by decide +kernel
theorem dX3_init_12 : decode cX3_init 12 = .ok (.aload_n 0, 1) := by decide +kernel
theorem dX3_init_13 : decode cX3_init 13 = .ok (.bipush 36, 2) := by decide +kernel
theorem dX3_init_15 : decode cX3_init 15 = .ok (.newarray .int, 2) := by decide +kernel
theorem dX3_init_17 : decode cX3_init 17 = .ok (.putfield 15, 3) := by decide +kernel
theorem dX3_init_20 : decode cX3_init 20 = .ok (.return_, 1) := by decide +kernel
theorem dX3_dry_0 : decode cX3_dry 0 = .ok (.iconst 0, 1) := by decide +kernel
theorem dX3_dry_1 : decode cX3_dry 1 = .ok (.istore_n 1, 1) := by decide +kernel
theorem dX3_dry_2 : decode cX3_dry 2 = .ok (.iload_n 1, 1) := by decide +kernel
theorem dX3_dry_3 : decode cX3_dry 3 = .ok (.bipush 36, 2) := by decide +kernel
theorem dX3_dry_5 : decode cX3_dry 5 = .ok (.if_icmp .ge 16, 3) := by decide +kernel
theorem dX3_dry_8 : decode cX3_dry 8 = .ok (.aload_n 0, 1) := by decide +kernel
theorem dX3_dry_9 : decode cX3_dry 9 = .ok (.getfield 9, 3) := by decide +kernel
theorem dX3_dry_12 : decode cX3_dry 12 = .ok (.iload_n 1, 1) := by decide +kernel
theorem dX3_dry_13 : decode cX3_dry 13 = .ok (.iconst 0, 1) := by decide +kernel
theorem dX3_dry_14 : decode cX3_dry 14 = .ok (.bastore, 1) := by decide +kernel
theorem dX3_dry_15 : decode cX3_dry 15 = .ok (.iinc 1 1, 3) := by decide +kernel
theorem dX3_dry_18 : decode cX3_dry 18 = .ok (.goto (-16), 3) := by decide +kernel
theorem dX3_dry_21 : decode cX3_dry 21 = .ok (.aload_n 0, 1) := by decide +kernel
theorem dX3_dry_22 : decode cX3_dry 22 = .ok (.iconst 0, 1) := by decide +kernel
theorem dX3_dry_23 : decode cX3_dry 23 = .ok (.putfield 19, 3) := by decide +kernel
theorem dX3_dry_26 : decode cX3_dry 26 = .ok (.aload_n 0, 1) := by decide +kernel
theorem dX3_dry_27 : decode cX3_dry 27 = .ok (.iconst 0, 1) := by decide +kernel
theorem dX3_dry_28 : decode cX3_dry 28 = .ok (.putfield 23, 3) := by decide +kernel
theorem dX3_dry_31 : decode cX3_dry 31 = .ok (.return_, 1) := by decide +kernel
theorem dX3_reach_0 : decode cX3_reach 0 = .ok (.aload_n 0, 1) := by decide +kernel
theorem dX3_reach_1 : decode cX3_reach 1 = .ok (.getfield 9, 3) := by decide +kernel
theorem dX3_reach_4 : decode cX3_reach 4 = .ok (.iload_n 1, 1) := by decide +kernel
theorem dX3_reach_5 : decode cX3_reach 5 = .ok (.baload, 1) := by decide +kernel
theorem dX3_reach_6 : decode cX3_reach 6 = .ok (.ifCond .ne 39, 3) := by decide +kernel
theorem dX3_reach_9 : decode cX3_reach 9 = .ok (.aload_n 0, 1) := by decide +kernel
theorem dX3_reach_10 : decode cX3_reach 10 = .ok (.getfield 19, 3) := by decide +kernel
theorem dX3_reach_13 : decode cX3_reach 13 = .ok (.bipush 36, 2) := by decide +kernel
theorem dX3_reach_15 : decode cX3_reach 15 = .ok (.if_icmp .ge 30, 3) := by decide +kernel
theorem dX3_reach_18 : decode cX3_reach 18 = .ok (.aload_n 0, 1) := by decide +kernel
theorem dX3_reach_19 : decode cX3_reach 19 = .ok (.getfield 9, 3) := by decide +kernel
theorem dX3_reach_22 : decode cX3_reach 22 = .ok (.iload_n 1, 1) := by decide +kernel
theorem dX3_reach_23 : decode cX3_reach 23 = .ok (.iconst 1, 1) := by decide +kernel
theorem dX3_reach_24 : decode cX3_reach 24 = .ok (.bastore, 1) := by decide +kernel
theorem dX3_reach_25 : decode cX3_reach 25 = .ok (.aload_n 0, 1) := by decide +kernel
theorem dX3_reach_26 : decode cX3_reach 26 = .ok (.getfield 15, 3) := by decide +kernel
theorem dX3_reach_29 : decode cX3_reach 29 = .ok (.aload_n 0, 1) := by decide +kernel
theorem dX3_reach_30 : decode cX3_reach 30 = .ok (.getfield 19, 3) := by decide +kernel
theorem dX3_reach_33 : decode cX3_reach 33 = .ok (.iload_n 1, 1) := by decide +kernel
theorem dX3_reach_34 : decode cX3_reach 34 = .ok (.iastore, 1) := by decide +kernel
theorem dX3_reach_35 : decode cX3_reach 35 = .ok (.aload_n 0, 1) := by decide +kernel
theorem dX3_reach_36 : decode cX3_reach 36 = .ok (.dup, 1) := by decide +kernel
theorem dX3_reach_37 : decode cX3_reach 37 = .ok (.getfield 19, 3) := by decide +kernel
theorem dX3_reach_40 : decode cX3_reach 40 = .ok (.iconst 1, 1) := by decide +kernel
theorem dX3_reach_41 : decode cX3_reach 41 = .ok (.iadd, 1) := by decide +kernel
theorem dX3_reach_42 : decode cX3_reach 42 = .ok (.putfield 19, 3) := by decide +kernel
theorem dX3_reach_45 : decode cX3_reach 45 = .ok (.return_, 1) := by decide +kernel
theorem dX3_take_0 : decode cX3_take 0 = .ok (.aload_n 0, 1) := by decide +kernel
theorem dX3_take_1 : decode cX3_take 1 = .ok (.getfield 23, 3) := by decide +kernel
theorem dX3_take_4 : decode cX3_take 4 = .ok (.aload_n 0, 1) := by decide +kernel
theorem dX3_take_5 : decode cX3_take 5 = .ok (.getfield 19, 3) := by decide +kernel
theorem dX3_take_8 : decode cX3_take 8 = .ok (.if_icmp .lt 5, 3) := by decide +kernel
theorem dX3_take_11 : decode cX3_take 11 = .ok (.iconst (-1), 1) := by decide +kernel
theorem dX3_take_12 : decode cX3_take 12 = .ok (.ireturn, 1) := by decide +kernel
theorem dX3_take_13 : decode cX3_take 13 = .ok (.aload_n 0, 1) := by decide +kernel
theorem dX3_take_14 : decode cX3_take 14 = .ok (.dup, 1) := by decide +kernel
theorem dX3_take_15 : decode cX3_take 15 = .ok (.getfield 23, 3) := by decide +kernel
theorem dX3_take_18 : decode cX3_take 18 = .ok (.iconst 1, 1) := by decide +kernel
theorem dX3_take_19 : decode cX3_take 19 = .ok (.iadd, 1) := by decide +kernel
theorem dX3_take_20 : decode cX3_take 20 = .ok (.putfield 23, 3) := by decide +kernel
theorem dX3_take_23 : decode cX3_take 23 = .ok (.aload_n 0, 1) := by decide +kernel
theorem dX3_take_24 : decode cX3_take 24 = .ok (.getfield 15, 3) := by decide +kernel
theorem dX3_take_27 : decode cX3_take 27 = .ok (.aload_n 0, 1) := by decide +kernel
theorem dX3_take_28 : decode cX3_take 28 = .ok (.getfield 23, 3) := by decide +kernel
theorem dX3_take_31 : decode cX3_take 31 = .ok (.iconst 1, 1) := by decide +kernel
theorem dX3_take_32 : decode cX3_take 32 = .ok (.isub, 1) := by decide +kernel
theorem dX3_take_33 : decode cX3_take 33 = .ok (.iaload, 1) := by decide +kernel
theorem dX3_take_34 : decode cX3_take 34 = .ok (.ireturn, 1) := by decide +kernel
theorem dX4_init_0 : decode cX4_init 0 = .ok (.aload_n 0, 1) := by decide +kernel
theorem dX4_init_1 : decode cX4_init 1 = .ok (.invokespecial 3, 3) := by decide +kernel
theorem dX4_init_4 : decode cX4_init 4 = .ok (.aload_n 0, 1) := by decide +kernel
theorem dX4_init_5 : decode cX4_init 5 = .ok (.bipush 8, 2) := by decide +kernel
theorem dX4_init_7 : decode cX4_init 7 = .ok (.anewarray 9, 3) := by decide +kernel
theorem dX4_init_10 : decode cX4_init 10 = .ok (.putfield 11, 3) := by decide +kernel
theorem dX4_init_13 : decode cX4_init 13 = .ok (.iconst 0, 1) := by decide +kernel
theorem dX4_init_14 : decode cX4_init 14 = .ok (.istore_n 1, 1) := by decide +kernel
theorem dX4_init_15 : decode cX4_init 15 = .ok (.iload_n 1, 1) := by decide +kernel
theorem dX4_init_16 : decode cX4_init 16 = .ok (.bipush 8, 2) := by decide +kernel
theorem dX4_init_18 : decode cX4_init 18 = .ok (.if_icmp .ge 22, 3) := by decide +kernel
theorem dX4_init_21 : decode cX4_init 21 = .ok (.aload_n 0, 1) := by decide +kernel
theorem dX4_init_22 : decode cX4_init 22 = .ok (.getfield 11, 3) := by decide +kernel
theorem dX4_init_25 : decode cX4_init 25 = .ok (.iload_n 1, 1) := by decide +kernel
theorem dX4_init_26 : decode cX4_init 26 = .ok (.new 9, 3) := by decide +kernel
theorem dX4_init_29 : decode cX4_init 29 = .ok (.dup, 1) := by decide +kernel
theorem dX4_init_30 : decode cX4_init 30 = .ok (.invokespecial 17, 3) := by decide +kernel
theorem dX4_init_33 : decode cX4_init 33 = .ok (.aastore, 1) := by decide +kernel
theorem dX4_init_34 : decode cX4_init 34 = .ok (.iinc 1 1, 3) := by decide +kernel
theorem dX4_init_37 : decode cX4_init 37 = .ok (.goto (-22), 3) := by decide +kernel
theorem dX4_init_40 : decode cX4_init 40 = .ok (.return_, 1) := by decide +kernel
theorem dX4_keep_0 : decode cX4_keep 0 = .ok (.aload_n 0, 1) := by decide +kernel
theorem dX4_keep_1 : decode cX4_keep 1 = .ok (.getfield 11, 3) := by decide +kernel
theorem dX4_keep_4 : decode cX4_keep 4 = .ok (.aload_n 0, 1) := by decide +kernel
theorem dX4_keep_5 : decode cX4_keep 5 = .ok (.getfield 18, 3) := by decide +kernel
theorem dX4_keep_8 : decode cX4_keep 8 = .ok (.aaload, 1) := by decide +kernel
theorem dX4_keep_9 : decode cX4_keep 9 = .ok (.aload_n 1, 1) := by decide +kernel
theorem dX4_keep_10 : decode cX4_keep 10 = .ok (.invokevirtual 22, 3) := by decide +kernel
theorem dX4_keep_13 : decode cX4_keep 13 = .ok (.aload_n 0, 1) := by decide +kernel
theorem dX4_keep_14 : decode cX4_keep 14 = .ok (.aload_n 0, 1) := by decide +kernel
theorem dX4_keep_15 : decode cX4_keep 15 = .ok (.getfield 18, 3) := by decide +kernel
theorem dX4_keep_18 : decode cX4_keep 18 = .ok (.iconst 1, 1) := by decide +kernel
theorem dX4_keep_19 : decode cX4_keep 19 = .ok (.iadd, 1) := by decide +kernel
theorem dX4_keep_20 : decode cX4_keep 20 = .ok (.bipush 8, 2) := by decide +kernel
theorem dX4_keep_22 : decode cX4_keep 22 = .ok (.irem, 1) := by decide +kernel
theorem dX4_keep_23 : decode cX4_keep 23 = .ok (.putfield 18, 3) := by decide +kernel
theorem dX4_keep_26 : decode cX4_keep 26 = .ok (.aload_n 0, 1) := by decide +kernel
theorem dX4_keep_27 : decode cX4_keep 27 = .ok (.aload_n 0, 1) := by decide +kernel
theorem dX4_keep_28 : decode cX4_keep 28 = .ok (.getfield 26, 3) := by decide +kernel
theorem dX4_keep_31 : decode cX4_keep 31 = .ok (.iconst 1, 1) := by decide +kernel
theorem dX4_keep_32 : decode cX4_keep 32 = .ok (.iadd, 1) := by decide +kernel
theorem dX4_keep_33 : decode cX4_keep 33 = .ok (.bipush 8, 2) := by decide +kernel
theorem dX4_keep_35 : decode cX4_keep 35 = .ok (.invokestatic 29, 3) := by decide +kernel
theorem dX4_keep_38 : decode cX4_keep 38 = .ok (.putfield 26, 3) := by decide +kernel
theorem dX4_keep_41 : decode cX4_keep 41 = .ok (.return_, 1) := by decide +kernel
theorem dX4_takeBack_0 : decode cX4_takeBack 0 = .ok (.aload_n 0, 1) := by decide +kernel
theorem dX4_takeBack_1 : decode cX4_takeBack 1 = .ok (.getfield 26, 3) := by decide +kernel
theorem dX4_takeBack_4 : decode cX4_takeBack 4 = .ok (.ifCond .ne 5, 3) := by decide +kernel
theorem dX4_takeBack_7 : decode cX4_takeBack 7 = .ok (.iconst 0, 1) := by decide +kernel
theorem dX4_takeBack_8 : decode cX4_takeBack 8 = .ok (.ireturn, 1) := by decide +kernel
theorem dX4_takeBack_9 : decode cX4_takeBack 9 = .ok (.aload_n 0, 1) := by decide +kernel
theorem dX4_takeBack_10 : decode cX4_takeBack 10 = .ok (.dup, 1) := by decide +kernel
theorem dX4_takeBack_11 : decode cX4_takeBack 11 = .ok (.getfield 26, 3) := by decide +kernel
theorem dX4_takeBack_14 : decode cX4_takeBack 14 = .ok (.iconst 1, 1) := by decide +kernel
theorem dX4_takeBack_15 : decode cX4_takeBack 15 = .ok (.isub, 1) := by decide +kernel
theorem dX4_takeBack_16 : decode cX4_takeBack 16 = .ok (.putfield 26, 3) := by decide +kernel
theorem dX4_takeBack_19 : decode cX4_takeBack 19 = .ok (.aload_n 0, 1) := by decide +kernel
theorem dX4_takeBack_20 : decode cX4_takeBack 20 = .ok (.aload_n 0, 1) := by decide +kernel
theorem dX4_takeBack_21 : decode cX4_takeBack 21 = .ok (.getfield 18, 3) := by decide +kernel
theorem dX4_takeBack_24 : decode cX4_takeBack 24 = .ok (.bipush 8, 2) := by decide +kernel
theorem dX4_takeBack_26 : decode cX4_takeBack 26 = .ok (.iadd, 1) := by decide +kernel
theorem dX4_takeBack_27 : decode cX4_takeBack 27 = .ok (.iconst 1, 1) := by decide +kernel
theorem dX4_takeBack_28 : decode cX4_takeBack 28 = .ok (.isub, 1) := by decide +kernel
theorem dX4_takeBack_29 : decode cX4_takeBack 29 = .ok (.bipush 8, 2) := by decide +kernel
theorem dX4_takeBack_31 : decode cX4_takeBack 31 = .ok (.irem, 1) := by decide +kernel
theorem dX4_takeBack_32 : decode cX4_takeBack 32 = .ok (.putfield 18, 3) := by decide +kernel
theorem dX4_takeBack_35 : decode cX4_takeBack 35 = .ok (.aload_n 1, 1) := by decide +kernel
theorem dX4_takeBack_36 : decode cX4_takeBack 36 = .ok (.aload_n 0, 1) := by decide +kernel
theorem dX4_takeBack_37 : decode cX4_takeBack 37 = .ok (.getfield 11, 3) := by decide +kernel
theorem dX4_takeBack_40 : decode cX4_takeBack 40 = .ok (.aload_n 0, 1) := by decide +kernel
theorem dX4_takeBack_41 : decode cX4_takeBack 41 = .ok (.getfield 18, 3) := by decide +kernel
theorem dX4_takeBack_44 : decode cX4_takeBack 44 = .ok (.aaload, 1) := by decide +kernel
theorem dX4_takeBack_45 : decode cX4_takeBack 45 = .ok (.invokevirtual 22, 3) := by decide +kernel
theorem dX4_takeBack_48 : decode cX4_takeBack 48 = .ok (.iconst 1, 1) := by decide +kernel
theorem dX4_takeBack_49 : decode cX4_takeBack 49 = .ok (.ireturn, 1) := by decide +kernel
theorem dX4_forget_0 : decode cX4_forget 0 = .ok (.aload_n 0, 1) := by decide +kernel
theorem dX4_forget_1 : decode cX4_forget 1 = .ok (.iconst 0, 1) := by decide +kernel
theorem dX4_forget_2 : decode cX4_forget 2 = .ok (.putfield 26, 3) := by decide +kernel
theorem dX4_forget_5 : decode cX4_forget 5 = .ok (.return_, 1) := by decide +kernel
theorem dX5_init_0 : decode cX5_init 0 = .ok (.aload_n 0, 1) := by decide +kernel
theorem dX5_init_1 : decode cX5_init 1 = .ok (.invokespecial 3, 3) := by decide +kernel
theorem dX5_init_4 : decode cX5_init 4 = .ok (.aload_n 0, 1) := by decide +kernel
theorem dX5_init_5 : decode cX5_init 5 = .ok (.new 9, 3) := by decide +kernel
theorem dX5_init_8 : decode cX5_init 8 = .ok (.dup, 1) := by decide +kernel
theorem dX5_init_9 : decode cX5_init 9 = .ok (.invokespecial 11, 3) := by decide +kernel
theorem dX5_init_12 : decode cX5_init 12 = .ok (.putfield 12, 3) := by decide +kernel
theorem dX5_init_15 : decode cX5_init 15 = .ok (.aload_n 0, 1) := by decide +kernel
theorem dX5_init_16 : decode cX5_init 16 = .ok (.new 18, 3) := by decide +kernel
theorem dX5_init_19 : decode cX5_init 19 = .ok (.dup, 1) := by decide +kernel
theorem dX5_init_20 : decode cX5_init 20 = .ok (.invokespecial 20, 3) := by decide +kernel
theorem dX5_init_23 : decode cX5_init 23 = .ok (.putfield 21, 3) := by decide +kernel
theorem dX5_init_26 : decode cX5_init 26 = .ok (.aload_n 0, 1) := by decide +kernel
theorem dX5_init_27 : decode cX5_init 27 = .ok (.bipush 36, 2) := by decide +kernel
theorem dX5_init_29 : decode cX5_init 29 = .ok (.newarray .boolean, 2) := by decide +kernel
theorem dX5_init_31 : decode cX5_init 31 = .ok (.putfield 25, 3) := by decide +kernel
theorem dX5_init_34 : decode cX5_init 34 = .ok (.aload_n 0, 1) := by decide +kernel
theorem dX5_init_35 : decode cX5_init 35 = .ok (.bipush 36, 2) := by decide +kernel
theorem dX5_init_37 : decode cX5_init 37 = .ok (.newarray .int, 2) := by decide +kernel
theorem dX5_init_39 : decode cX5_init 39 = .ok (.putfield 29, 3) := by decide +kernel
theorem dX5_init_42 : decode cX5_init 42 = .ok (.return_, 1) := by decide +kernel
theorem dX5_cellAtRank_0 : decode cX5_cellAtRank 0 = .ok (.aload_n 0, 1) := by decide +kernel
theorem dX5_cellAtRank_1 : decode cX5_cellAtRank 1 = .ok (.aload_n 1, 1) := by decide +kernel
theorem dX5_cellAtRank_2 : decode cX5_cellAtRank 2 = .ok (.invokevirtual 33, 3) := by decide +kernel
theorem dX5_cellAtRank_5 : decode cX5_cellAtRank 5 = .ok (.aload_n 0, 1) := by decide +kernel
theorem dX5_cellAtRank_6 : decode cX5_cellAtRank 6 = .ok (.getfield 29, 3) := by decide +kernel
theorem dX5_cellAtRank_9 : decode cX5_cellAtRank 9 = .ok (.iload_n 2, 1) := by decide +kernel
theorem dX5_cellAtRank_10 : decode cX5_cellAtRank 10 = .ok (.iaload, 1) := by decide +kernel
theorem dX5_cellAtRank_11 : decode cX5_cellAtRank 11 = .ok (.ireturn, 1) := by decide +kernel
theorem dX5_rankCells_0 : decode cX5_rankCells 0 = .ok (.iconst 0, 1) := by decide +kernel
theorem dX5_rankCells_1 : decode cX5_rankCells 1 = .ok (.istore_n 2, 1) := by decide +kernel
theorem dX5_rankCells_2 : decode cX5_rankCells 2 = .ok (.iload_n 2, 1) := by decide +kernel
theorem dX5_rankCells_3 : decode cX5_rankCells 3 = .ok (.bipush 36, 2) := by decide +kernel
theorem dX5_rankCells_5 : decode cX5_rankCells 5 = .ok (.if_icmp .ge 64, 3) := by decide +kernel
theorem dX5_rankCells_8 : decode cX5_rankCells 8 = .ok (.iload_n 2, 1) := by decide +kernel
theorem dX5_rankCells_9 : decode cX5_rankCells 9 = .ok (.istore_n 3, 1) := by decide +kernel
theorem dX5_rankCells_10 : decode cX5_rankCells 10 = .ok (.iload_n 3, 1) := by decide +kernel
theorem dX5_rankCells_11 : decode cX5_rankCells 11 = .ok (.ifCond .le 45, 3) := by decide +kernel
theorem dX5_rankCells_14 : decode cX5_rankCells 14 = .ok (.aload_n 1, 1) := by decide +kernel
theorem dX5_rankCells_15 : decode cX5_rankCells 15 = .ok (.getfield 37, 3) := by decide +kernel
theorem dX5_rankCells_18 : decode cX5_rankCells 18 = .ok (.aload_n 0, 1) := by decide +kernel
theorem dX5_rankCells_19 : decode cX5_rankCells 19 = .ok (.getfield 29, 3) := by decide +kernel
theorem dX5_rankCells_22 : decode cX5_rankCells 22 = .ok (.iload_n 3, 1) := by decide +kernel
theorem dX5_rankCells_23 : decode cX5_rankCells 23 = .ok (.iconst 1, 1) := by decide +kernel
theorem dX5_rankCells_24 : decode cX5_rankCells 24 = .ok (.isub, 1) := by decide +kernel
theorem dX5_rankCells_25 : decode cX5_rankCells 25 = .ok (.iaload, 1) := by decide +kernel
theorem dX5_rankCells_26 : decode cX5_rankCells 26 = .ok (.iaload, 1) := by decide +kernel
theorem dX5_rankCells_27 : decode cX5_rankCells 27 = .ok (.aload_n 1, 1) := by decide +kernel
theorem dX5_rankCells_28 : decode cX5_rankCells 28 = .ok (.getfield 37, 3) := by decide +kernel
theorem dX5_rankCells_31 : decode cX5_rankCells 31 = .ok (.iload_n 2, 1) := by decide +kernel
theorem dX5_rankCells_32 : decode cX5_rankCells 32 = .ok (.iaload, 1) := by decide +kernel
theorem dX5_rankCells_33 : decode cX5_rankCells 33 = .ok (.if_icmp .ge 23, 3) := by decide +kernel
theorem dX5_rankCells_36 : decode cX5_rankCells 36 = .ok (.aload_n 0, 1) := by decide +kernel
theorem dX5_rankCells_37 : decode cX5_rankCells 37 = .ok (.getfield 29, 3) := by decide +kernel
theorem dX5_rankCells_40 : decode cX5_rankCells 40 = .ok (.iload_n 3, 1) := by decide +kernel
theorem dX5_rankCells_41 : decode cX5_rankCells 41 = .ok (.aload_n 0, 1) := by decide +kernel
theorem dX5_rankCells_42 : decode cX5_rankCells 42 = .ok (.getfield 29, 3) := by decide +kernel
theorem dX5_rankCells_45 : decode cX5_rankCells 45 = .ok (.iload_n 3, 1) := by decide +kernel
theorem dX5_rankCells_46 : decode cX5_rankCells 46 = .ok (.iconst 1, 1) := by decide +kernel
theorem dX5_rankCells_47 : decode cX5_rankCells 47 = .ok (.isub, 1) := by decide +kernel
theorem dX5_rankCells_48 : decode cX5_rankCells 48 = .ok (.iaload, 1) := by decide +kernel
theorem dX5_rankCells_49 : decode cX5_rankCells 49 = .ok (.iastore, 1) := by decide +kernel
theorem dX5_rankCells_50 : decode cX5_rankCells 50 = .ok (.iinc 3 (-1), 3) := by decide +kernel
theorem dX5_rankCells_53 : decode cX5_rankCells 53 = .ok (.goto (-43), 3) := by decide +kernel
theorem dX5_rankCells_56 : decode cX5_rankCells 56 = .ok (.aload_n 0, 1) := by decide +kernel
theorem dX5_rankCells_57 : decode cX5_rankCells 57 = .ok (.getfield 29, 3) := by decide +kernel
theorem dX5_rankCells_60 : decode cX5_rankCells 60 = .ok (.iload_n 3, 1) := by decide +kernel
theorem dX5_rankCells_61 : decode cX5_rankCells 61 = .ok (.iload_n 2, 1) := by decide +kernel
theorem dX5_rankCells_62 : decode cX5_rankCells 62 = .ok (.iastore, 1) := by decide +kernel
theorem dX5_rankCells_63 : decode cX5_rankCells 63 = .ok (.iinc 2 1, 3) := by decide +kernel
theorem dX5_rankCells_66 : decode cX5_rankCells 66 = .ok (.goto (-64), 3) := by decide +kernel
theorem dX5_rankCells_69 : decode cX5_rankCells 69 = .ok (.return_, 1) := by decide +kernel
theorem dX5_islandsFlooded_0 : decode cX5_islandsFlooded 0 = .ok (.aload_n 0, 1) := by decide +kernel
theorem dX5_islandsFlooded_1 : decode cX5_islandsFlooded 1 = .ok (.getfield 12, 3) := by decide +kernel
theorem dX5_islandsFlooded_4 : decode cX5_islandsFlooded 4 = .ok (.invokevirtual 42, 3) := by decide +kernel
theorem dX5_islandsFlooded_7 : decode cX5_islandsFlooded 7 = .ok (.iconst 0, 1) := by decide +kernel
theorem dX5_islandsFlooded_8 : decode cX5_islandsFlooded 8 = .ok (.istore_n 3, 1) := by decide +kernel
theorem dX5_islandsFlooded_9 : decode cX5_islandsFlooded 9 = .ok (.iconst 0, 1) := by decide +kernel
theorem dX5_islandsFlooded_10 : decode cX5_islandsFlooded 10 = .ok (.istore 4, 2) := by decide +kernel
theorem dX5_islandsFlooded_12 : decode cX5_islandsFlooded 12 = .ok (.iload 4, 2) := by decide +kernel
theorem dX5_islandsFlooded_14 : decode cX5_islandsFlooded 14 = .ok (.bipush 36, 2) := by decide +kernel
theorem dX5_islandsFlooded_16 : decode cX5_islandsFlooded 16 = .ok (.if_icmp .ge 44, 3) := by decide +kernel
theorem dX5_islandsFlooded_19 : decode cX5_islandsFlooded 19 = .ok (.aload_n 1, 1) := by decide +kernel
theorem dX5_islandsFlooded_20 : decode cX5_islandsFlooded 20 = .ok (.getfield 37, 3) := by decide +kernel
theorem dX5_islandsFlooded_23 : decode cX5_islandsFlooded 23 = .ok (.iload 4, 2) := by decide +kernel
theorem dX5_islandsFlooded_25 : decode cX5_islandsFlooded 25 = .ok (.iaload, 1) := by decide +kernel
theorem dX5_islandsFlooded_26 : decode cX5_islandsFlooded 26 = .ok (.iload_n 2, 1) := by decide +kernel
theorem dX5_islandsFlooded_27 : decode cX5_islandsFlooded 27 = .ok (.if_icmp .lt 27, 3) := by decide +kernel
theorem dX5_islandsFlooded_30 : decode cX5_islandsFlooded 30 = .ok (.aload_n 0, 1) := by decide +kernel
theorem dX5_islandsFlooded_31 : decode cX5_islandsFlooded 31 = .ok (.getfield 12, 3) := by decide +kernel
theorem dX5_islandsFlooded_34 : decode cX5_islandsFlooded 34 = .ok (.getfield 45, 3) := by decide +kernel
theorem dX5_islandsFlooded_37 : decode cX5_islandsFlooded 37 = .ok (.iload 4, 2) := by decide +kernel
theorem dX5_islandsFlooded_39 : decode cX5_islandsFlooded 39 = .ok (.baload, 1) := by decide +kernel
theorem dX5_islandsFlooded_40 : decode cX5_islandsFlooded 40 = .ok (.ifCond .ne 14, 3) := by decide +kernel
theorem dX5_islandsFlooded_43 : decode cX5_islandsFlooded 43 = .ok (.iinc 3 1, 3) := by decide +kernel
theorem dX5_islandsFlooded_46 : decode cX5_islandsFlooded 46 = .ok (.aload_n 0, 1) := by decide +kernel
theorem dX5_islandsFlooded_47 : decode cX5_islandsFlooded 47 = .ok (.aload_n 1, 1) := by decide +kernel
theorem dX5_islandsFlooded_48 : decode cX5_islandsFlooded 48 = .ok (.iload_n 2, 1) := by decide +kernel
theorem dX5_islandsFlooded_49 : decode cX5_islandsFlooded 49 = .ok (.iload 4, 2) := by decide +kernel
theorem dX5_islandsFlooded_51 : decode cX5_islandsFlooded 51 = .ok (.invokevirtual 48, 3) := by decide +kernel
theorem dX5_islandsFlooded_54 : decode cX5_islandsFlooded 54 = .ok (.iinc 4 1, 3) := by decide +kernel
theorem dX5_islandsFlooded_57 : decode cX5_islandsFlooded 57 = .ok (.goto (-45), 3) := by decide +kernel
theorem dX5_islandsFlooded_60 : decode cX5_islandsFlooded 60 = .ok (.iload_n 3, 1) := by decide +kernel
theorem dX5_islandsFlooded_61 : decode cX5_islandsFlooded 61 = .ok (.ireturn, 1) := by decide +kernel
theorem dX5_floodIsland_0 : decode cX5_floodIsland 0 = .ok (.aload_n 0, 1) := by decide +kernel
theorem dX5_floodIsland_1 : decode cX5_floodIsland 1 = .ok (.getfield 12, 3) := by decide +kernel
theorem dX5_floodIsland_4 : decode cX5_floodIsland 4 = .ok (.iload_n 3, 1) := by decide +kernel
theorem dX5_floodIsland_5 : decode cX5_floodIsland 5 = .ok (.invokevirtual 52, 3) := by decide +kernel
theorem dX5_floodIsland_8 : decode cX5_floodIsland 8 = .ok (.iconst 0, 1) := by decide +kernel
theorem dX5_floodIsland_9 : decode cX5_floodIsland 9 = .ok (.istore 4, 2) := by decide +kernel
theorem dX5_floodIsland_11 : decode cX5_floodIsland 11 = .ok (.iload 4, 2) := by decide +kernel
theorem dX5_floodIsland_13 : decode cX5_floodIsland 13 = .ok (.bipush 36, 2) := by decide +kernel
theorem dX5_floodIsland_15 : decode cX5_floodIsland 15 = .ok (.if_icmp .ge 75, 3) := by decide +kernel
theorem dX5_floodIsland_18 : decode cX5_floodIsland 18 = .ok (.aload_n 0, 1) := by decide +kernel
theorem dX5_floodIsland_19 : decode cX5_floodIsland 19 = .ok (.getfield 12, 3) := by decide +kernel
theorem dX5_floodIsland_22 : decode cX5_floodIsland 22 = .ok (.invokevirtual 56, 3) := by decide +kernel
theorem dX5_floodIsland_25 : decode cX5_floodIsland 25 = .ok (.istore 5, 2) := by decide +kernel
theorem dX5_floodIsland_27 : decode cX5_floodIsland 27 = .ok (.iload 5, 2) := by decide +kernel
theorem dX5_floodIsland_29 : decode cX5_floodIsland 29 = .ok (.iconst (-1), 1) := by decide +kernel
theorem dX5_floodIsland_30 : decode cX5_floodIsland 30 = .ok (.if_icmp .ne 4, 3) := by decide +kernel
theorem dX5_floodIsland_33 : decode cX5_floodIsland 33 = .ok (.return_, 1) := by decide +kernel
theorem dX5_floodIsland_34 : decode cX5_floodIsland 34 = .ok (.iconst 0, 1) := by decide +kernel
theorem dX5_floodIsland_35 : decode cX5_floodIsland 35 = .ok (.istore 6, 2) := by decide +kernel
theorem dX5_floodIsland_37 : decode cX5_floodIsland 37 = .ok (.iload 6, 2) := by decide +kernel
theorem dX5_floodIsland_39 : decode cX5_floodIsland 39 = .ok (.iconst 4, 1) := by decide +kernel
theorem dX5_floodIsland_40 : decode cX5_floodIsland 40 = .ok (.if_icmp .ge 44, 3) := by decide +kernel
theorem dX5_floodIsland_43 : decode cX5_floodIsland 43 = .ok (.iload 5, 2) := by decide +kernel
theorem dX5_floodIsland_45 : decode cX5_floodIsland 45 = .ok (.iload 6, 2) := by decide +kernel
theorem dX5_floodIsland_47 : decode cX5_floodIsland 47 = .ok (.invokestatic 60, 3) := by decide +kernel
theorem dX5_floodIsland_50 : decode cX5_floodIsland 50 = .ok (.istore 7, 2) := by decide +kernel
theorem dX5_floodIsland_52 : decode cX5_floodIsland 52 = .ok (.iload 7, 2) := by decide +kernel
theorem dX5_floodIsland_54 : decode cX5_floodIsland 54 = .ok (.iconst (-1), 1) := by decide +kernel
theorem dX5_floodIsland_55 : decode cX5_floodIsland 55 = .ok (.if_icmp .eq 23, 3) := by decide +kernel
theorem dX5_floodIsland_58 : decode cX5_floodIsland 58 = .ok (.aload_n 1, 1) := by decide +kernel
theorem dX5_floodIsland_59 : decode cX5_floodIsland 59 = .ok (.getfield 37, 3) := by decide +kernel
theorem dX5_floodIsland_62 : decode cX5_floodIsland 62 = .ok (.iload 7, 2) := by decide +kernel
theorem dX5_floodIsland_64 : decode cX5_floodIsland 64 = .ok (.iaload, 1) := by decide +kernel
theorem dX5_floodIsland_65 : decode cX5_floodIsland 65 = .ok (.iload_n 2, 1) := by decide +kernel
theorem dX5_floodIsland_66 : decode cX5_floodIsland 66 = .ok (.if_icmp .lt 12, 3) := by decide +kernel
theorem dX5_floodIsland_69 : decode cX5_floodIsland 69 = .ok (.aload_n 0, 1) := by decide +kernel
theorem dX5_floodIsland_70 : decode cX5_floodIsland 70 = .ok (.getfield 12, 3) := by decide +kernel
theorem dX5_floodIsland_73 : decode cX5_floodIsland 73 = .ok (.iload 7, 2) := by decide +kernel
theorem dX5_floodIsland_75 : decode cX5_floodIsland 75 = .ok (.invokevirtual 52, 3) := by decide +kernel
theorem dX5_floodIsland_78 : decode cX5_floodIsland 78 = .ok (.iinc 6 1, 3) := by decide +kernel
theorem dX5_floodIsland_81 : decode cX5_floodIsland 81 = .ok (.goto (-44), 3) := by decide +kernel
theorem dX5_floodIsland_84 : decode cX5_floodIsland 84 = .ok (.iinc 4 1, 3) := by decide +kernel
theorem dX5_floodIsland_87 : decode cX5_floodIsland 87 = .ok (.goto (-76), 3) := by decide +kernel
theorem dX5_floodIsland_90 : decode cX5_floodIsland 90 = .ok (.return_, 1) := by decide +kernel
theorem dX5_islandsUnited_0 : decode cX5_islandsUnited 0 = .ok (.aload_n 0, 1) := by decide +kernel
theorem dX5_islandsUnited_1 : decode cX5_islandsUnited 1 = .ok (.aload_n 1, 1) := by decide +kernel
theorem dX5_islandsUnited_2 : decode cX5_islandsUnited 2 = .ok (.invokevirtual 33, 3) := by decide +kernel
theorem dX5_islandsUnited_5 : decode cX5_islandsUnited 5 = .ok (.aload_n 0, 1) := by decide +kernel
theorem dX5_islandsUnited_6 : decode cX5_islandsUnited 6 = .ok (.getfield 21, 3) := by decide +kernel
theorem dX5_islandsUnited_9 : decode cX5_islandsUnited 9 = .ok (.invokevirtual 64, 3) := by decide +kernel
theorem dX5_islandsUnited_12 : decode cX5_islandsUnited 12 = .ok (.iconst 0, 1) := by decide +kernel
theorem dX5_islandsUnited_13 : decode cX5_islandsUnited 13 = .ok (.istore_n 3, 1) := by decide +kernel
theorem dX5_islandsUnited_14 : decode cX5_islandsUnited 14 = .ok (.iload_n 3, 1) := by decide +kernel
theorem dX5_islandsUnited_15 : decode cX5_islandsUnited 15 = .ok (.bipush 36, 2) := by decide +kernel
theorem dX5_islandsUnited_17 : decode cX5_islandsUnited 17 = .ok (.if_icmp .ge 16, 3) := by decide +kernel
theorem dX5_islandsUnited_20 : decode cX5_islandsUnited 20 = .ok (.aload_n 0, 1) := by decide +kernel
theorem dX5_islandsUnited_21 : decode cX5_islandsUnited 21 = .ok (.getfield 25, 3) := by decide +kernel
theorem dX5_islandsUnited_24 : decode cX5_islandsUnited 24 = .ok (.iload_n 3, 1) := by decide +kernel
theorem dX5_islandsUnited_25 : decode cX5_islandsUnited 25 = .ok (.iconst 0, 1) := by decide +kernel
theorem dX5_islandsUnited_26 : decode cX5_islandsUnited 26 = .ok (.bastore, 1) := by decide +kernel
theorem dX5_islandsUnited_27 : decode cX5_islandsUnited 27 = .ok (.iinc 3 1, 3) := by decide +kernel
theorem dX5_islandsUnited_30 : decode cX5_islandsUnited 30 = .ok (.goto (-16), 3) := by decide +kernel
theorem dX5_islandsUnited_33 : decode cX5_islandsUnited 33 = .ok (.iconst 0, 1) := by decide +kernel
theorem dX5_islandsUnited_34 : decode cX5_islandsUnited 34 = .ok (.istore_n 3, 1) := by decide +kernel
theorem dX5_islandsUnited_35 : decode cX5_islandsUnited 35 = .ok (.iconst 0, 1) := by decide +kernel
theorem dX5_islandsUnited_36 : decode cX5_islandsUnited 36 = .ok (.istore 4, 2) := by decide +kernel
theorem dX5_islandsUnited_38 : decode cX5_islandsUnited 38 = .ok (.iload 4, 2) := by decide +kernel
theorem dX5_islandsUnited_40 : decode cX5_islandsUnited 40 = .ok (.bipush 36, 2) := by decide +kernel
theorem dX5_islandsUnited_42 : decode cX5_islandsUnited 42 = .ok (.if_icmp .ge 41, 3) := by decide +kernel
theorem dX5_islandsUnited_45 : decode cX5_islandsUnited 45 = .ok (.aload_n 1, 1) := by decide +kernel
theorem dX5_islandsUnited_46 : decode cX5_islandsUnited 46 = .ok (.getfield 37, 3) := by decide +kernel
theorem dX5_islandsUnited_49 : decode cX5_islandsUnited 49 = .ok (.aload_n 0, 1) := by decide +kernel
theorem dX5_islandsUnited_50 : decode cX5_islandsUnited 50 = .ok (.getfield 29, 3) := by decide +kernel
theorem dX5_islandsUnited_53 : decode cX5_islandsUnited 53 = .ok (.iload 4, 2) := by decide +kernel
theorem dX5_islandsUnited_55 : decode cX5_islandsUnited 55 = .ok (.iaload, 1) := by decide +kernel
theorem dX5_islandsUnited_56 : decode cX5_islandsUnited 56 = .ok (.iaload, 1) := by decide +kernel
theorem dX5_islandsUnited_57 : decode cX5_islandsUnited 57 = .ok (.iload_n 2, 1) := by decide +kernel
theorem dX5_islandsUnited_58 : decode cX5_islandsUnited 58 = .ok (.if_icmp .lt 25, 3) := by decide +kernel
theorem dX5_islandsUnited_61 : decode cX5_islandsUnited 61 = .ok (.iload_n 3, 1) := by decide +kernel
theorem dX5_islandsUnited_62 : decode cX5_islandsUnited 62 = .ok (.iconst 1, 1) := by decide +kernel
theorem dX5_islandsUnited_63 : decode cX5_islandsUnited 63 = .ok (.aload_n 0, 1) := by decide +kernel
theorem dX5_islandsUnited_64 : decode cX5_islandsUnited 64 = .ok (.aload_n 0, 1) := by decide +kernel
theorem dX5_islandsUnited_65 : decode cX5_islandsUnited 65 = .ok (.getfield 29, 3) := by decide +kernel
theorem dX5_islandsUnited_68 : decode cX5_islandsUnited 68 = .ok (.iload 4, 2) := by decide +kernel
theorem dX5_islandsUnited_70 : decode cX5_islandsUnited 70 = .ok (.iaload, 1) := by decide +kernel
theorem dX5_islandsUnited_71 : decode cX5_islandsUnited 71 = .ok (.invokevirtual 67, 3) := by decide +kernel
theorem dX5_islandsUnited_74 : decode cX5_islandsUnited 74 = .ok (.isub, 1) := by decide +kernel
theorem dX5_islandsUnited_75 : decode cX5_islandsUnited 75 = .ok (.iadd, 1) := by decide +kernel
theorem dX5_islandsUnited_76 : decode cX5_islandsUnited 76 = .ok (.istore_n 3, 1) := by decide +kernel
theorem dX5_islandsUnited_77 : decode cX5_islandsUnited 77 = .ok (.iinc 4 1, 3) := by decide +kernel
theorem dX5_islandsUnited_80 : decode cX5_islandsUnited 80 = .ok (.goto (-42), 3) := by decide +kernel
theorem dX5_islandsUnited_83 : decode cX5_islandsUnited 83 = .ok (.iload_n 3, 1) := by decide +kernel
theorem dX5_islandsUnited_84 : decode cX5_islandsUnited 84 = .ok (.ireturn, 1) := by decide +kernel
theorem dX5_raise_0 : decode cX5_raise 0 = .ok (.aload_n 0, 1) := by decide +kernel
theorem dX5_raise_1 : decode cX5_raise 1 = .ok (.getfield 25, 3) := by decide +kernel
theorem dX5_raise_4 : decode cX5_raise 4 = .ok (.iload_n 1, 1) := by decide +kernel
theorem dX5_raise_5 : decode cX5_raise 5 = .ok (.iconst 1, 1) := by decide +kernel
theorem dX5_raise_6 : decode cX5_raise 6 = .ok (.bastore, 1) := by decide +kernel
theorem dX5_raise_7 : decode cX5_raise 7 = .ok (.iconst 0, 1) := by decide +kernel
theorem dX5_raise_8 : decode cX5_raise 8 = .ok (.istore_n 2, 1) := by decide +kernel
theorem dX5_raise_9 : decode cX5_raise 9 = .ok (.iconst 0, 1) := by decide +kernel
theorem dX5_raise_10 : decode cX5_raise 10 = .ok (.istore_n 3, 1) := by decide +kernel
theorem dX5_raise_11 : decode cX5_raise 11 = .ok (.iload_n 3, 1) := by decide +kernel
theorem dX5_raise_12 : decode cX5_raise 12 = .ok (.iconst 4, 1) := by decide +kernel
theorem dX5_raise_13 : decode cX5_raise 13 = .ok (.if_icmp .ge 48, 3) := by decide +kernel
theorem dX5_raise_16 : decode cX5_raise 16 = .ok (.iload_n 1, 1) := by decide +kernel
theorem dX5_raise_17 : decode cX5_raise 17 = .ok (.iload_n 3, 1) := by decide +kernel
theorem dX5_raise_18 : decode cX5_raise 18 = .ok (.invokestatic 60, 3) := by decide +kernel
theorem dX5_raise_21 : decode cX5_raise 21 = .ok (.istore 4, 2) := by decide +kernel
theorem dX5_raise_23 : decode cX5_raise 23 = .ok (.iload 4, 2) := by decide +kernel
theorem dX5_raise_25 : decode cX5_raise 25 = .ok (.iconst (-1), 1) := by decide +kernel
theorem dX5_raise_26 : decode cX5_raise 26 = .ok (.if_icmp .eq 29, 3) := by decide +kernel
theorem dX5_raise_29 : decode cX5_raise 29 = .ok (.aload_n 0, 1) := by decide +kernel
theorem dX5_raise_30 : decode cX5_raise 30 = .ok (.getfield 25, 3) := by decide +kernel
theorem dX5_raise_33 : decode cX5_raise 33 = .ok (.iload 4, 2) := by decide +kernel
theorem dX5_raise_35 : decode cX5_raise 35 = .ok (.baload, 1) := by decide +kernel
theorem dX5_raise_36 : decode cX5_raise 36 = .ok (.ifCond .eq 19, 3) := by decide +kernel
theorem dX5_raise_39 : decode cX5_raise 39 = .ok (.aload_n 0, 1) := by decide +kernel
theorem dX5_raise_40 : decode cX5_raise 40 = .ok (.getfield 21, 3) := by decide +kernel
theorem dX5_raise_43 : decode cX5_raise 43 = .ok (.iload_n 1, 1) := by decide +kernel
theorem dX5_raise_44 : decode cX5_raise 44 = .ok (.iload 4, 2) := by decide +kernel
theorem dX5_raise_46 : decode cX5_raise 46 = .ok (.invokevirtual 71, 3) := by decide +kernel
theorem dX5_raise_49 : decode cX5_raise 49 = .ok (.ifCond .eq 6, 3) := by decide +kernel
theorem dX5_raise_52 : decode cX5_raise 52 = .ok (.iinc 2 1, 3) := by decide +kernel
theorem dX5_raise_55 : decode cX5_raise 55 = .ok (.iinc 3 1, 3) := by decide +kernel
theorem dX5_raise_58 : decode cX5_raise 58 = .ok (.goto (-47), 3) := by decide +kernel
theorem dX5_raise_61 : decode cX5_raise 61 = .ok (.iload_n 2, 1) := by decide +kernel
theorem dX5_raise_62 : decode cX5_raise 62 = .ok (.ireturn, 1) := by decide +kernel
theorem dX5_countBasins_0 : decode cX5_countBasins 0 = .ok (.iconst 0, 1) := by decide +kernel
theorem dX5_countBasins_1 : decode cX5_countBasins 1 = .ok (.istore_n 2, 1) := by decide +kernel
theorem dX5_countBasins_2 : decode cX5_countBasins 2 = .ok (.iconst 0, 1) := by decide +kernel
theorem dX5_countBasins_3 : decode cX5_countBasins 3 = .ok (.istore_n 3, 1) := by decide +kernel
theorem dX5_countBasins_4 : decode cX5_countBasins 4 = .ok (.iload_n 3, 1) := by decide +kernel
theorem dX5_countBasins_5 : decode cX5_countBasins 5 = .ok (.bipush 36, 2) := by decide +kernel
theorem dX5_countBasins_7 : decode cX5_countBasins 7 = .ok (.if_icmp .ge 21, 3) := by decide +kernel
theorem dX5_countBasins_10 : decode cX5_countBasins 10 = .ok (.aload_n 1, 1) := by decide +kernel
theorem dX5_countBasins_11 : decode cX5_countBasins 11 = .ok (.iload_n 3, 1) := by decide +kernel
theorem dX5_countBasins_12 : decode cX5_countBasins 12 = .ok (.invokevirtual 75, 3) := by decide +kernel
theorem dX5_countBasins_15 : decode cX5_countBasins 15 = .ok (.iconst (-1), 1) := by decide +kernel
theorem dX5_countBasins_16 : decode cX5_countBasins 16 = .ok (.if_icmp .ne 6, 3) := by decide +kernel
theorem dX5_countBasins_19 : decode cX5_countBasins 19 = .ok (.iinc 2 1, 3) := by decide +kernel
theorem dX5_countBasins_22 : decode cX5_countBasins 22 = .ok (.iinc 3 1, 3) := by decide +kernel
theorem dX5_countBasins_25 : decode cX5_countBasins 25 = .ok (.goto (-21), 3) := by decide +kernel
theorem dX5_countBasins_28 : decode cX5_countBasins 28 = .ok (.iload_n 2, 1) := by decide +kernel
theorem dX5_countBasins_29 : decode cX5_countBasins 29 = .ok (.ireturn, 1) := by decide +kernel
theorem dX5_basinFollowed_0 : decode cX5_basinFollowed 0 = .ok (.aload_n 1, 1) := by decide +kernel
theorem dX5_basinFollowed_1 : decode cX5_basinFollowed 1 = .ok (.iload_n 2, 1) := by decide +kernel
theorem dX5_basinFollowed_2 : decode cX5_basinFollowed 2 = .ok (.invokevirtual 78, 3) := by decide +kernel
theorem dX5_basinFollowed_5 : decode cX5_basinFollowed 5 = .ok (.istore_n 3, 1) := by decide +kernel
theorem dX5_basinFollowed_6 : decode cX5_basinFollowed 6 = .ok (.iconst 0, 1) := by decide +kernel
theorem dX5_basinFollowed_7 : decode cX5_basinFollowed 7 = .ok (.istore 4, 2) := by decide +kernel
theorem dX5_basinFollowed_9 : decode cX5_basinFollowed 9 = .ok (.iconst 0, 1) := by decide +kernel
theorem dX5_basinFollowed_10 : decode cX5_basinFollowed 10 = .ok (.istore 5, 2) := by decide +kernel
theorem dX5_basinFollowed_12 : decode cX5_basinFollowed 12 = .ok (.iload 5, 2) := by decide +kernel
theorem dX5_basinFollowed_14 : decode cX5_basinFollowed 14 = .ok (.bipush 36, 2) := by decide +kernel
theorem dX5_basinFollowed_16 : decode cX5_basinFollowed 16 = .ok (.if_icmp .ge 22, 3) := by decide +kernel
theorem dX5_basinFollowed_19 : decode cX5_basinFollowed 19 = .ok (.aload_n 1, 1) := by decide +kernel
theorem dX5_basinFollowed_20 : decode cX5_basinFollowed 20 = .ok (.iload 5, 2) := by decide +kernel
theorem dX5_basinFollowed_22 : decode cX5_basinFollowed 22 = .ok (.invokevirtual 78, 3) := by decide +kernel
theorem dX5_basinFollowed_25 : decode cX5_basinFollowed 25 = .ok (.iload_n 3, 1) := by decide +kernel
theorem dX5_basinFollowed_26 : decode cX5_basinFollowed 26 = .ok (.if_icmp .ne 6, 3) := by decide +kernel
theorem dX5_basinFollowed_29 : decode cX5_basinFollowed 29 = .ok (.iinc 4 1, 3) := by decide +kernel
theorem dX5_basinFollowed_32 : decode cX5_basinFollowed 32 = .ok (.iinc 5 1, 3) := by decide +kernel
theorem dX5_basinFollowed_35 : decode cX5_basinFollowed 35 = .ok (.goto (-23), 3) := by decide +kernel
theorem dX5_basinFollowed_38 : decode cX5_basinFollowed 38 = .ok (.iload 4, 2) := by decide +kernel
theorem dX5_basinFollowed_40 : decode cX5_basinFollowed 40 = .ok (.ireturn, 1) := by decide +kernel
theorem dX5_basinClimbed_0 : decode cX5_basinClimbed 0 = .ok (.aload_n 0, 1) := by decide +kernel
theorem dX5_basinClimbed_1 : decode cX5_basinClimbed 1 = .ok (.getfield 12, 3) := by decide +kernel
theorem dX5_basinClimbed_4 : decode cX5_basinClimbed 4 = .ok (.invokevirtual 42, 3) := by decide +kernel
theorem dX5_basinClimbed_7 : decode cX5_basinClimbed 7 = .ok (.aload_n 0, 1) := by decide +kernel
theorem dX5_basinClimbed_8 : decode cX5_basinClimbed 8 = .ok (.getfield 12, 3) := by decide +kernel
theorem dX5_basinClimbed_11 : decode cX5_basinClimbed 11 = .ok (.aload_n 1, 1) := by decide +kernel
theorem dX5_basinClimbed_12 : decode cX5_basinClimbed 12 = .ok (.iload_n 2, 1) := by decide +kernel
theorem dX5_basinClimbed_13 : decode cX5_basinClimbed 13 = .ok (.invokevirtual 78, 3) := by decide +kernel
theorem dX5_basinClimbed_16 : decode cX5_basinClimbed 16 = .ok (.invokevirtual 52, 3) := by decide +kernel
theorem dX5_basinClimbed_19 : decode cX5_basinClimbed 19 = .ok (.iconst 0, 1) := by decide +kernel
theorem dX5_basinClimbed_20 : decode cX5_basinClimbed 20 = .ok (.istore_n 3, 1) := by decide +kernel
theorem dX5_basinClimbed_21 : decode cX5_basinClimbed 21 = .ok (.iload_n 3, 1) := by decide +kernel
theorem dX5_basinClimbed_22 : decode cX5_basinClimbed 22 = .ok (.bipush 36, 2) := by decide +kernel
theorem dX5_basinClimbed_24 : decode cX5_basinClimbed 24 = .ok (.if_icmp .ge 82, 3) := by decide +kernel
theorem dX5_basinClimbed_27 : decode cX5_basinClimbed 27 = .ok (.aload_n 0, 1) := by decide +kernel
theorem dX5_basinClimbed_28 : decode cX5_basinClimbed 28 = .ok (.getfield 12, 3) := by decide +kernel
theorem dX5_basinClimbed_31 : decode cX5_basinClimbed 31 = .ok (.invokevirtual 56, 3) := by decide +kernel
theorem dX5_basinClimbed_34 : decode cX5_basinClimbed 34 = .ok (.istore 4, 2) := by decide +kernel
theorem dX5_basinClimbed_36 : decode cX5_basinClimbed 36 = .ok (.iload 4, 2) := by decide +kernel
theorem dX5_basinClimbed_38 : decode cX5_basinClimbed 38 = .ok (.iconst (-1), 1) := by decide +kernel
theorem dX5_basinClimbed_39 : decode cX5_basinClimbed 39 = .ok (.if_icmp .ne 11, 3) := by decide +kernel
theorem dX5_basinClimbed_42 : decode cX5_basinClimbed 42 = .ok (.aload_n 0, 1) := by decide +kernel
theorem dX5_basinClimbed_43 : decode cX5_basinClimbed 43 = .ok (.getfield 12, 3) := by decide +kernel
theorem dX5_basinClimbed_46 : decode cX5_basinClimbed 46 = .ok (.getfield 81, 3) := by decide +kernel
theorem dX5_basinClimbed_49 : decode cX5_basinClimbed 49 = .ok (.ireturn, 1) := by decide +kernel
theorem dX5_basinClimbed_50 : decode cX5_basinClimbed 50 = .ok (.iconst 0, 1) := by decide +kernel
theorem dX5_basinClimbed_51 : decode cX5_basinClimbed 51 = .ok (.istore 5, 2) := by decide +kernel
theorem dX5_basinClimbed_53 : decode cX5_basinClimbed 53 = .ok (.iload 5, 2) := by decide +kernel
theorem dX5_basinClimbed_55 : decode cX5_basinClimbed 55 = .ok (.iconst 4, 1) := by decide +kernel
theorem dX5_basinClimbed_56 : decode cX5_basinClimbed 56 = .ok (.if_icmp .ge 44, 3) := by decide +kernel
theorem dX5_basinClimbed_59 : decode cX5_basinClimbed 59 = .ok (.iload 4, 2) := by decide +kernel
theorem dX5_basinClimbed_61 : decode cX5_basinClimbed 61 = .ok (.iload 5, 2) := by decide +kernel
theorem dX5_basinClimbed_63 : decode cX5_basinClimbed 63 = .ok (.invokestatic 60, 3) := by decide +kernel
theorem dX5_basinClimbed_66 : decode cX5_basinClimbed 66 = .ok (.istore 6, 2) := by decide +kernel
theorem dX5_basinClimbed_68 : decode cX5_basinClimbed 68 = .ok (.iload 6, 2) := by decide +kernel
theorem dX5_basinClimbed_70 : decode cX5_basinClimbed 70 = .ok (.iconst (-1), 1) := by decide +kernel
theorem dX5_basinClimbed_71 : decode cX5_basinClimbed 71 = .ok (.if_icmp .eq 23, 3) := by decide +kernel
theorem dX5_basinClimbed_74 : decode cX5_basinClimbed 74 = .ok (.aload_n 1, 1) := by decide +kernel
theorem dX5_basinClimbed_75 : decode cX5_basinClimbed 75 = .ok (.iload 6, 2) := by decide +kernel
theorem dX5_basinClimbed_77 : decode cX5_basinClimbed 77 = .ok (.invokevirtual 75, 3) := by decide +kernel
theorem dX5_basinClimbed_80 : decode cX5_basinClimbed 80 = .ok (.iload 4, 2) := by decide +kernel
theorem dX5_basinClimbed_82 : decode cX5_basinClimbed 82 = .ok (.if_icmp .ne 12, 3) := by decide +kernel
theorem dX5_basinClimbed_85 : decode cX5_basinClimbed 85 = .ok (.aload_n 0, 1) := by decide +kernel
theorem dX5_basinClimbed_86 : decode cX5_basinClimbed 86 = .ok (.getfield 12, 3) := by decide +kernel
theorem dX5_basinClimbed_89 : decode cX5_basinClimbed 89 = .ok (.iload 6, 2) := by decide +kernel
theorem dX5_basinClimbed_91 : decode cX5_basinClimbed 91 = .ok (.invokevirtual 52, 3) := by decide +kernel
theorem dX5_basinClimbed_94 : decode cX5_basinClimbed 94 = .ok (.iinc 5 1, 3) := by decide +kernel
theorem dX5_basinClimbed_97 : decode cX5_basinClimbed 97 = .ok (.goto (-44), 3) := by decide +kernel
theorem dX5_basinClimbed_100 : decode cX5_basinClimbed 100 = .ok (.iinc 3 1, 3) := by decide +kernel
theorem dX5_basinClimbed_103 : decode cX5_basinClimbed 103 = .ok (.goto (-82), 3) := by decide +kernel
theorem dX5_basinClimbed_106 : decode cX5_basinClimbed 106 = .ok (.aload_n 0, 1) := by decide +kernel
theorem dX5_basinClimbed_107 : decode cX5_basinClimbed 107 = .ok (.getfield 12, 3) := by decide +kernel
theorem dX5_basinClimbed_110 : decode cX5_basinClimbed 110 = .ok (.getfield 81, 3) := by decide +kernel
theorem dX5_basinClimbed_113 : decode cX5_basinClimbed 113 = .ok (.ireturn, 1) := by decide +kernel
theorem dX6_init_0 : decode cX6_init 0 = .ok (.aload_n 0, 1) := by decide +kernel
theorem dX6_init_1 : decode cX6_init 1 = .ok (.invokespecial 3, 3) := by decide +kernel
theorem dX6_init_4 : decode cX6_init 4 = .ok (.aload_n 0, 1) := by decide +kernel
theorem dX6_init_5 : decode cX6_init 5 = .ok (.new 9, 3) := by decide +kernel
theorem dX6_init_8 : decode cX6_init 8 = .ok (.dup, 1) := by decide +kernel
theorem dX6_init_9 : decode cX6_init 9 = .ok (.invokespecial 11, 3) := by decide +kernel
theorem dX6_init_12 : decode cX6_init 12 = .ok (.putfield 12, 3) := by decide +kernel
theorem dX6_init_15 : decode cX6_init 15 = .ok (.aload_n 0, 1) := by decide +kernel
theorem dX6_init_16 : decode cX6_init 16 = .ok (.new 18, 3) := by decide +kernel
theorem dX6_init_19 : decode cX6_init 19 = .ok (.dup, 1) := by decide +kernel
theorem dX6_init_20 : decode cX6_init 20 = .ok (.invokespecial 20, 3) := by decide +kernel
theorem dX6_init_23 : decode cX6_init 23 = .ok (.putfield 21, 3) := by decide +kernel
theorem dX6_init_26 : decode cX6_init 26 = .ok (.aload_n 0, 1) := by decide +kernel
theorem dX6_init_27 : decode cX6_init 27 = .ok (.new 25, 3) := by decide +kernel
theorem dX6_init_30 : decode cX6_init 30 = .ok (.dup, 1) := by decide +kernel
theorem dX6_init_31 : decode cX6_init 31 = .ok (.invokespecial 27, 3) := by decide +kernel
theorem dX6_init_34 : decode cX6_init 34 = .ok (.putfield 28, 3) := by decide +kernel
theorem dX6_init_37 : decode cX6_init 37 = .ok (.aload_n 0, 1) := by decide +kernel
theorem dX6_init_38 : decode cX6_init 38 = .ok (.bipush 36, 2) := by decide +kernel
theorem dX6_init_40 : decode cX6_init 40 = .ok (.newarray .int, 2) := by decide +kernel
theorem dX6_init_42 : decode cX6_init 42 = .ok (.putfield 32, 3) := by decide +kernel
theorem dX6_init_45 : decode cX6_init 45 = .ok (.aload_n 0, 1) := by decide +kernel
theorem dX6_init_46 : decode cX6_init 46 = .ok (.bipush 60, 2) := by decide +kernel
theorem dX6_init_48 : decode cX6_init 48 = .ok (.newarray .int, 2) := by decide +kernel
theorem dX6_init_50 : decode cX6_init 50 = .ok (.putfield 36, 3) := by decide +kernel
theorem dX6_init_53 : decode cX6_init 53 = .ok (.return_, 1) := by decide +kernel
theorem dX6_costByQueue_0 : decode cX6_costByQueue 0 = .ok (.aload_n 1, 1) := by decide +kernel
theorem dX6_costByQueue_1 : decode cX6_costByQueue 1 = .ok (.iload_n 2, 1) := by decide +kernel
theorem dX6_costByQueue_2 : decode cX6_costByQueue 2 = .ok (.invokevirtual 39, 3) := by decide +kernel
theorem dX6_costByQueue_5 : decode cX6_costByQueue 5 = .ok (.ifCond .ne 11, 3) := by decide +kernel
theorem dX6_costByQueue_8 : decode cX6_costByQueue 8 = .ok (.aload_n 1, 1) := by decide +kernel
theorem dX6_costByQueue_9 : decode cX6_costByQueue 9 = .ok (.iload_n 3, 1) := by decide +kernel
theorem dX6_costByQueue_10 : decode cX6_costByQueue 10 = .ok (.invokevirtual 39, 3) := by decide +kernel
theorem dX6_costByQueue_13 : decode cX6_costByQueue 13 = .ok (.ifCond .eq 5, 3) := by decide +kernel
theorem dX6_costByQueue_16 : decode cX6_costByQueue 16 = .ok (.iconst (-1), 1) := by decide +kernel
theorem dX6_costByQueue_17 : decode cX6_costByQueue 17 = .ok (.ireturn, 1) := by decide +kernel
theorem dX6_costByQueue_18 : decode cX6_costByQueue 18 = .ok (.aload_n 0, 1) := by decide +kernel
theorem dX6_costByQueue_19 : decode cX6_costByQueue 19 = .ok (.getfield 32, 3) := by decide +kernel
theorem dX6_costByQueue_22 : decode cX6_costByQueue 22 = .ok (.ldc 45, 2) := by decide +kernel
theorem dX6_costByQueue_24 : decode cX6_costByQueue 24 = .ok (.invokestatic 46, 3) := by decide +kernel
theorem dX6_costByQueue_27 : decode cX6_costByQueue 27 = .ok (.aload_n 0, 1) := by decide +kernel
theorem dX6_costByQueue_28 : decode cX6_costByQueue 28 = .ok (.getfield 32, 3) := by decide +kernel
theorem dX6_costByQueue_31 : decode cX6_costByQueue 31 = .ok (.iload_n 2, 1) := by decide +kernel
theorem dX6_costByQueue_32 : decode cX6_costByQueue 32 = .ok (.iconst 0, 1) := by decide +kernel
theorem dX6_costByQueue_33 : decode cX6_costByQueue 33 = .ok (.iastore, 1) := by decide +kernel
theorem dX6_costByQueue_34 : decode cX6_costByQueue 34 = .ok (.aload_n 0, 1) := by decide +kernel
theorem dX6_costByQueue_35 : decode cX6_costByQueue 35 = .ok (.getfield 12, 3) := by decide +kernel
theorem dX6_costByQueue_38 : decode cX6_costByQueue 38 = .ok (.iload_n 2, 1) := by decide +kernel
theorem dX6_costByQueue_39 : decode cX6_costByQueue 39 = .ok (.iconst 0, 1) := by decide +kernel
theorem dX6_costByQueue_40 : decode cX6_costByQueue 40 = .ok (.invokevirtual 52, 3) := by decide +kernel
theorem dX6_costByQueue_43 : decode cX6_costByQueue 43 = .ok (.iconst 0, 1) := by decide +kernel
theorem dX6_costByQueue_44 : decode cX6_costByQueue 44 = .ok (.istore 4, 2) := by decide +kernel
theorem dX6_costByQueue_46 : decode cX6_costByQueue 46 = .ok (.iload 4, 2) := by decide +kernel
theorem dX6_costByQueue_48 : decode cX6_costByQueue 48 = .ok (.bipush 36, 2) := by decide +kernel
theorem dX6_costByQueue_50 : decode cX6_costByQueue 50 = .ok (.if_icmp .ge 34, 3) := by decide +kernel
theorem dX6_costByQueue_53 : decode cX6_costByQueue 53 = .ok (.aload_n 0, 1) := by decide +kernel
theorem dX6_costByQueue_54 : decode cX6_costByQueue 54 = .ok (.getfield 12, 3) := by decide +kernel
theorem dX6_costByQueue_57 : decode cX6_costByQueue 57 = .ok (.invokevirtual 56, 3) := by decide +kernel
theorem dX6_costByQueue_60 : decode cX6_costByQueue 60 = .ok (.istore 5, 2) := by decide +kernel
theorem dX6_costByQueue_62 : decode cX6_costByQueue 62 = .ok (.iload 5, 2) := by decide +kernel
theorem dX6_costByQueue_64 : decode cX6_costByQueue 64 = .ok (.iconst (-1), 1) := by decide +kernel
theorem dX6_costByQueue_65 : decode cX6_costByQueue 65 = .ok (.if_icmp .ne 6, 3) := by decide +kernel
theorem dX6_costByQueue_68 : decode cX6_costByQueue 68 = .ok (.goto 16, 3) := by decide +kernel
theorem dX6_costByQueue_71 : decode cX6_costByQueue 71 = .ok (.aload_n 0, 1) := by decide +kernel
theorem dX6_costByQueue_72 : decode cX6_costByQueue 72 = .ok (.aload_n 1, 1) := by decide +kernel
theorem dX6_costByQueue_73 : decode cX6_costByQueue 73 = .ok (.iload 5, 2) := by decide +kernel
theorem dX6_costByQueue_75 : decode cX6_costByQueue 75 = .ok (.invokevirtual 60, 3) := by decide +kernel
theorem dX6_costByQueue_78 : decode cX6_costByQueue 78 = .ok (.iinc 4 1, 3) := by decide +kernel
theorem dX6_costByQueue_81 : decode cX6_costByQueue 81 = .ok (.goto (-35), 3) := by decide +kernel
theorem dX6_costByQueue_84 : decode cX6_costByQueue 84 = .ok (.aload_n 0, 1) := by decide +kernel
theorem dX6_costByQueue_85 : decode cX6_costByQueue 85 = .ok (.iload_n 3, 1) := by decide +kernel
theorem dX6_costByQueue_86 : decode cX6_costByQueue 86 = .ok (.invokevirtual 64, 3) := by decide +kernel
theorem dX6_costByQueue_89 : decode cX6_costByQueue 89 = .ok (.ireturn, 1) := by decide +kernel
theorem dX6_costByRounds_0 : decode cX6_costByRounds 0 = .ok (.aload_n 1, 1) := by decide +kernel
theorem dX6_costByRounds_1 : decode cX6_costByRounds 1 = .ok (.iload_n 2, 1) := by decide +kernel
theorem dX6_costByRounds_2 : decode cX6_costByRounds 2 = .ok (.invokevirtual 39, 3) := by decide +kernel
theorem dX6_costByRounds_5 : decode cX6_costByRounds 5 = .ok (.ifCond .ne 11, 3) := by decide +kernel
theorem dX6_costByRounds_8 : decode cX6_costByRounds 8 = .ok (.aload_n 1, 1) := by decide +kernel
theorem dX6_costByRounds_9 : decode cX6_costByRounds 9 = .ok (.iload_n 3, 1) := by decide +kernel
theorem dX6_costByRounds_10 : decode cX6_costByRounds 10 = .ok (.invokevirtual 39, 3) := by decide +kernel
theorem dX6_costByRounds_13 : decode cX6_costByRounds 13 = .ok (.ifCond .eq 5, 3) := by decide +kernel
theorem dX6_costByRounds_16 : decode cX6_costByRounds 16 = .ok (.iconst (-1), 1) := by decide +kernel
theorem dX6_costByRounds_17 : decode cX6_costByRounds 17 = .ok (.ireturn, 1) := by decide +kernel
theorem dX6_costByRounds_18 : decode cX6_costByRounds 18 = .ok (.aload_n 0, 1) := by decide +kernel
theorem dX6_costByRounds_19 : decode cX6_costByRounds 19 = .ok (.getfield 32, 3) := by decide +kernel
theorem dX6_costByRounds_22 : decode cX6_costByRounds 22 = .ok (.ldc 45, 2) := by decide +kernel
theorem dX6_costByRounds_24 : decode cX6_costByRounds 24 = .ok (.invokestatic 46, 3) := by decide +kernel
theorem dX6_costByRounds_27 : decode cX6_costByRounds 27 = .ok (.aload_n 0, 1) := by decide +kernel
theorem dX6_costByRounds_28 : decode cX6_costByRounds 28 = .ok (.getfield 32, 3) := by decide +kernel
theorem dX6_costByRounds_31 : decode cX6_costByRounds 31 = .ok (.iload_n 2, 1) := by decide +kernel
theorem dX6_costByRounds_32 : decode cX6_costByRounds 32 = .ok (.iconst 0, 1) := by decide +kernel
theorem dX6_costByRounds_33 : decode cX6_costByRounds 33 = .ok (.iastore, 1) := by decide +kernel
theorem dX6_costByRounds_34 : decode cX6_costByRounds 34 = .ok (.iconst 1, 1) := by decide +kernel
theorem dX6_costByRounds_35 : decode cX6_costByRounds 35 = .ok (.istore 4, 2) := by decide +kernel
theorem dX6_costByRounds_37 : decode cX6_costByRounds 37 = .ok (.iconst 0, 1) := by decide +kernel
theorem dX6_costByRounds_38 : decode cX6_costByRounds 38 = .ok (.istore 5, 2) := by decide +kernel
theorem dX6_costByRounds_40 : decode cX6_costByRounds 40 = .ok (.iload 5, 2) := by decide +kernel
theorem dX6_costByRounds_42 : decode cX6_costByRounds 42 = .ok (.bipush 36, 2) := by decide +kernel
theorem dX6_costByRounds_44 : decode cX6_costByRounds 44 = .ok (.if_icmp .ge 21, 3) := by decide +kernel
theorem dX6_costByRounds_47 : decode cX6_costByRounds 47 = .ok (.iload 4, 2) := by decide +kernel
theorem dX6_costByRounds_49 : decode cX6_costByRounds 49 = .ok (.ifCond .eq 16, 3) := by decide +kernel
theorem dX6_costByRounds_52 : decode cX6_costByRounds 52 = .ok (.aload_n 0, 1) := by decide +kernel
theorem dX6_costByRounds_53 : decode cX6_costByRounds 53 = .ok (.aload_n 1, 1) := by decide +kernel
theorem dX6_costByRounds_54 : decode cX6_costByRounds 54 = .ok (.invokevirtual 68, 3) := by decide +kernel
theorem dX6_costByRounds_57 : decode cX6_costByRounds 57 = .ok (.istore 4, 2) := by decide +kernel
theorem dX6_costByRounds_59 : decode cX6_costByRounds 59 = .ok (.iinc 5 1, 3) := by decide +kernel
theorem dX6_costByRounds_62 : decode cX6_costByRounds 62 = .ok (.goto (-22), 3) := by decide +kernel
theorem dX6_costByRounds_65 : decode cX6_costByRounds 65 = .ok (.aload_n 0, 1) := by decide +kernel
theorem dX6_costByRounds_66 : decode cX6_costByRounds 66 = .ok (.iload_n 3, 1) := by decide +kernel
theorem dX6_costByRounds_67 : decode cX6_costByRounds 67 = .ok (.invokevirtual 64, 3) := by decide +kernel
theorem dX6_costByRounds_70 : decode cX6_costByRounds 70 = .ok (.ireturn, 1) := by decide +kernel
theorem dX6_knownCost_0 : decode cX6_knownCost 0 = .ok (.aload_n 0, 1) := by decide +kernel
theorem dX6_knownCost_1 : decode cX6_knownCost 1 = .ok (.getfield 32, 3) := by decide +kernel
theorem dX6_knownCost_4 : decode cX6_knownCost 4 = .ok (.iload_n 1, 1) := by decide +kernel
theorem dX6_knownCost_5 : decode cX6_knownCost 5 = .ok (.iaload, 1) := by decide +kernel
theorem dX6_knownCost_6 : decode cX6_knownCost 6 = .ok (.ldc 45, 2) := by decide +kernel
theorem dX6_knownCost_8 : decode cX6_knownCost 8 = .ok (.if_icmp .ne 7, 3) := by decide +kernel
theorem dX6_knownCost_11 : decode cX6_knownCost 11 = .ok (.iconst (-1), 1) := by decide +kernel
theorem dX6_knownCost_12 : decode cX6_knownCost 12 = .ok (.goto 9, 3) := by decide +kernel
theorem dX6_knownCost_15 : decode cX6_knownCost 15 = .ok (.aload_n 0, 1) := by decide +kernel
theorem dX6_knownCost_16 : decode cX6_knownCost 16 = .ok (.getfield 32, 3) := by decide +kernel
theorem dX6_knownCost_19 : decode cX6_knownCost 19 = .ok (.iload_n 1, 1) := by decide +kernel
theorem dX6_knownCost_20 : decode cX6_knownCost 20 = .ok (.iaload, 1) := by decide +kernel
theorem dX6_knownCost_21 : decode cX6_knownCost 21 = .ok (.ireturn, 1) := by decide +kernel
theorem dX6_spread_0 : decode cX6_spread 0 = .ok (.iconst 0, 1) := by decide +kernel
theorem dX6_spread_1 : decode cX6_spread 1 = .ok (.istore_n 3, 1) := by decide +kernel
theorem dX6_spread_2 : decode cX6_spread 2 = .ok (.iload_n 3, 1) := by decide +kernel
theorem dX6_spread_3 : decode cX6_spread 3 = .ok (.iconst 4, 1) := by decide +kernel
theorem dX6_spread_4 : decode cX6_spread 4 = .ok (.if_icmp .ge 49, 3) := by decide +kernel
theorem dX6_spread_7 : decode cX6_spread 7 = .ok (.iload_n 2, 1) := by decide +kernel
theorem dX6_spread_8 : decode cX6_spread 8 = .ok (.iload_n 3, 1) := by decide +kernel
theorem dX6_spread_9 : decode cX6_spread 9 = .ok (.invokestatic 72, 3) := by decide +kernel
theorem dX6_spread_12 : decode cX6_spread 12 = .ok (.istore 4, 2) := by decide +kernel
theorem dX6_spread_14 : decode cX6_spread 14 = .ok (.iload 4, 2) := by decide +kernel
theorem dX6_spread_16 : decode cX6_spread 16 = .ok (.iconst (-1), 1) := by decide +kernel
theorem dX6_spread_17 : decode cX6_spread 17 = .ok (.if_icmp .eq 30, 3) := by decide +kernel
theorem dX6_spread_20 : decode cX6_spread 20 = .ok (.aload_n 0, 1) := by decide +kernel
theorem dX6_spread_21 : decode cX6_spread 21 = .ok (.aload_n 1, 1) := by decide +kernel
theorem dX6_spread_22 : decode cX6_spread 22 = .ok (.iload 4, 2) := by decide +kernel
theorem dX6_spread_24 : decode cX6_spread 24 = .ok (.iload_n 2, 1) := by decide +kernel
theorem dX6_spread_25 : decode cX6_spread 25 = .ok (.invokevirtual 76, 3) := by decide +kernel
theorem dX6_spread_28 : decode cX6_spread 28 = .ok (.ifCond .eq 19, 3) := by decide +kernel
theorem dX6_spread_31 : decode cX6_spread 31 = .ok (.aload_n 0, 1) := by decide +kernel
theorem dX6_spread_32 : decode cX6_spread 32 = .ok (.getfield 12, 3) := by decide +kernel
theorem dX6_spread_35 : decode cX6_spread 35 = .ok (.iload 4, 2) := by decide +kernel
theorem dX6_spread_37 : decode cX6_spread 37 = .ok (.aload_n 0, 1) := by decide +kernel
theorem dX6_spread_38 : decode cX6_spread 38 = .ok (.getfield 32, 3) := by decide +kernel
theorem dX6_spread_41 : decode cX6_spread 41 = .ok (.iload 4, 2) := by decide +kernel
theorem dX6_spread_43 : decode cX6_spread 43 = .ok (.iaload, 1) := by decide +kernel
theorem dX6_spread_44 : decode cX6_spread 44 = .ok (.invokevirtual 52, 3) := by decide +kernel
theorem dX6_spread_47 : decode cX6_spread 47 = .ok (.iinc 3 1, 3) := by decide +kernel
theorem dX6_spread_50 : decode cX6_spread 50 = .ok (.goto (-48), 3) := by decide +kernel
theorem dX6_spread_53 : decode cX6_spread 53 = .ok (.return_, 1) := by decide +kernel
theorem dX6_improveAll_0 : decode cX6_improveAll 0 = .ok (.iconst 0, 1) := by decide +kernel
theorem dX6_improveAll_1 : decode cX6_improveAll 1 = .ok (.istore_n 2, 1) := by decide +kernel
theorem dX6_improveAll_2 : decode cX6_improveAll 2 = .ok (.iconst 0, 1) := by decide +kernel
theorem dX6_improveAll_3 : decode cX6_improveAll 3 = .ok (.istore_n 3, 1) := by decide +kernel
theorem dX6_improveAll_4 : decode cX6_improveAll 4 = .ok (.iload_n 3, 1) := by decide +kernel
theorem dX6_improveAll_5 : decode cX6_improveAll 5 = .ok (.bipush 36, 2) := by decide +kernel
theorem dX6_improveAll_7 : decode cX6_improveAll 7 = .ok (.if_icmp .ge 51, 3) := by decide +kernel
theorem dX6_improveAll_10 : decode cX6_improveAll 10 = .ok (.iconst 0, 1) := by decide +kernel
theorem dX6_improveAll_11 : decode cX6_improveAll 11 = .ok (.istore 4, 2) := by decide +kernel
theorem dX6_improveAll_13 : decode cX6_improveAll 13 = .ok (.iload 4, 2) := by decide +kernel
theorem dX6_improveAll_15 : decode cX6_improveAll 15 = .ok (.iconst 4, 1) := by decide +kernel
theorem dX6_improveAll_16 : decode cX6_improveAll 16 = .ok (.if_icmp .ge 36, 3) := by decide +kernel
theorem dX6_improveAll_19 : decode cX6_improveAll 19 = .ok (.iload_n 3, 1) := by decide +kernel
theorem dX6_improveAll_20 : decode cX6_improveAll 20 = .ok (.iload 4, 2) := by decide +kernel
theorem dX6_improveAll_22 : decode cX6_improveAll 22 = .ok (.invokestatic 72, 3) := by decide +kernel
theorem dX6_improveAll_25 : decode cX6_improveAll 25 = .ok (.istore 5, 2) := by decide +kernel
theorem dX6_improveAll_27 : decode cX6_improveAll 27 = .ok (.iload 5, 2) := by decide +kernel
theorem dX6_improveAll_29 : decode cX6_improveAll 29 = .ok (.iconst (-1), 1) := by decide +kernel
theorem dX6_improveAll_30 : decode cX6_improveAll 30 = .ok (.if_icmp .eq 16, 3) := by decide +kernel
theorem dX6_improveAll_33 : decode cX6_improveAll 33 = .ok (.aload_n 0, 1) := by decide +kernel
theorem dX6_improveAll_34 : decode cX6_improveAll 34 = .ok (.aload_n 1, 1) := by decide +kernel
theorem dX6_improveAll_35 : decode cX6_improveAll 35 = .ok (.iload_n 3, 1) := by decide +kernel
theorem dX6_improveAll_36 : decode cX6_improveAll 36 = .ok (.iload 5, 2) := by decide +kernel
theorem dX6_improveAll_38 : decode cX6_improveAll 38 = .ok (.invokevirtual 76, 3) := by decide +kernel
theorem dX6_improveAll_41 : decode cX6_improveAll 41 = .ok (.ifCond .eq 5, 3) := by decide +kernel
theorem dX6_improveAll_44 : decode cX6_improveAll 44 = .ok (.iconst 1, 1) := by decide +kernel
theorem dX6_improveAll_45 : decode cX6_improveAll 45 = .ok (.istore_n 2, 1) := by decide +kernel
theorem dX6_improveAll_46 : decode cX6_improveAll 46 = .ok (.iinc 4 1, 3) := by decide +kernel
theorem dX6_improveAll_49 : decode cX6_improveAll 49 = .ok (.goto (-36), 3) := by decide +kernel
theorem dX6_improveAll_52 : decode cX6_improveAll 52 = .ok (.iinc 3 1, 3) := by decide +kernel
theorem dX6_improveAll_55 : decode cX6_improveAll 55 = .ok (.goto (-51), 3) := by decide +kernel
theorem dX6_improveAll_58 : decode cX6_improveAll 58 = .ok (.iload_n 2, 1) := by decide +kernel
theorem dX6_improveAll_59 : decode cX6_improveAll 59 = .ok (.ireturn, 1) := by decide +kernel
theorem dX6_improve_0 : decode cX6_improve 0 = .ok (.aload_n 0, 1) := by decide +kernel
theorem dX6_improve_1 : decode cX6_improve 1 = .ok (.getfield 32, 3) := by decide +kernel
theorem dX6_improve_4 : decode cX6_improve 4 = .ok (.iload_n 3, 1) := by decide +kernel
theorem dX6_improve_5 : decode cX6_improve 5 = .ok (.iaload, 1) := by decide +kernel
theorem dX6_improve_6 : decode cX6_improve 6 = .ok (.iconst 1, 1) := by decide +kernel
theorem dX6_improve_7 : decode cX6_improve 7 = .ok (.iadd, 1) := by decide +kernel
theorem dX6_improve_8 : decode cX6_improve 8 = .ok (.aload_n 1, 1) := by decide +kernel
theorem dX6_improve_9 : decode cX6_improve 9 = .ok (.iload_n 2, 1) := by decide +kernel
theorem dX6_improve_10 : decode cX6_improve 10 = .ok (.iload_n 3, 1) := by decide +kernel
theorem dX6_improve_11 : decode cX6_improve 11 = .ok (.invokevirtual 80, 3) := by decide +kernel
theorem dX6_improve_14 : decode cX6_improve 14 = .ok (.iadd, 1) := by decide +kernel
theorem dX6_improve_15 : decode cX6_improve 15 = .ok (.istore 4, 2) := by decide +kernel
theorem dX6_improve_17 : decode cX6_improve 17 = .ok (.aload_n 1, 1) := by decide +kernel
theorem dX6_improve_18 : decode cX6_improve 18 = .ok (.iload_n 2, 1) := by decide +kernel
theorem dX6_improve_19 : decode cX6_improve 19 = .ok (.invokevirtual 39, 3) := by decide +kernel
theorem dX6_improve_22 : decode cX6_improve 22 = .ok (.ifCond .ne 14, 3) := by decide +kernel
theorem dX6_improve_25 : decode cX6_improve 25 = .ok (.iload 4, 2) := by decide +kernel
theorem dX6_improve_27 : decode cX6_improve 27 = .ok (.aload_n 0, 1) := by decide +kernel
theorem dX6_improve_28 : decode cX6_improve 28 = .ok (.getfield 32, 3) := by decide +kernel
theorem dX6_improve_31 : decode cX6_improve 31 = .ok (.iload_n 2, 1) := by decide +kernel
theorem dX6_improve_32 : decode cX6_improve 32 = .ok (.iaload, 1) := by decide +kernel
theorem dX6_improve_33 : decode cX6_improve 33 = .ok (.if_icmp .lt 5, 3) := by decide +kernel
theorem dX6_improve_36 : decode cX6_improve 36 = .ok (.iconst 0, 1) := by decide +kernel
theorem dX6_improve_37 : decode cX6_improve 37 = .ok (.ireturn, 1) := by decide +kernel
theorem dX6_improve_38 : decode cX6_improve 38 = .ok (.aload_n 0, 1) := by decide +kernel
theorem dX6_improve_39 : decode cX6_improve 39 = .ok (.getfield 32, 3) := by decide +kernel
theorem dX6_improve_42 : decode cX6_improve 42 = .ok (.iload_n 2, 1) := by decide +kernel
theorem dX6_improve_43 : decode cX6_improve 43 = .ok (.iload 4, 2) := by decide +kernel
theorem dX6_improve_45 : decode cX6_improve 45 = .ok (.iastore, 1) := by decide +kernel
theorem dX6_improve_46 : decode cX6_improve 46 = .ok (.iconst 1, 1) := by decide +kernel
theorem dX6_improve_47 : decode cX6_improve 47 = .ok (.ireturn, 1) := by decide +kernel
theorem dX6_stepByUnions_0 : decode cX6_stepByUnions 0 = .ok (.aload_n 1, 1) := by decide +kernel
theorem dX6_stepByUnions_1 : decode cX6_stepByUnions 1 = .ok (.iload_n 2, 1) := by decide +kernel
theorem dX6_stepByUnions_2 : decode cX6_stepByUnions 2 = .ok (.invokevirtual 39, 3) := by decide +kernel
theorem dX6_stepByUnions_5 : decode cX6_stepByUnions 5 = .ok (.ifCond .ne 11, 3) := by decide +kernel
theorem dX6_stepByUnions_8 : decode cX6_stepByUnions 8 = .ok (.aload_n 1, 1) := by decide +kernel
theorem dX6_stepByUnions_9 : decode cX6_stepByUnions 9 = .ok (.iload_n 3, 1) := by decide +kernel
theorem dX6_stepByUnions_10 : decode cX6_stepByUnions 10 = .ok (.invokevirtual 39, 3) := by decide +kernel
theorem dX6_stepByUnions_13 : decode cX6_stepByUnions 13 = .ok (.ifCond .eq 5, 3) := by decide +kernel
theorem dX6_stepByUnions_16 : decode cX6_stepByUnions 16 = .ok (.iconst (-1), 1) := by decide +kernel
theorem dX6_stepByUnions_17 : decode cX6_stepByUnions 17 = .ok (.ireturn, 1) := by decide +kernel
theorem dX6_stepByUnions_18 : decode cX6_stepByUnions 18 = .ok (.iload_n 2, 1) := by decide +kernel
theorem dX6_stepByUnions_19 : decode cX6_stepByUnions 19 = .ok (.iload_n 3, 1) := by decide +kernel
theorem dX6_stepByUnions_20 : decode cX6_stepByUnions 20 = .ok (.if_icmp .ne 5, 3) := by decide +kernel
theorem dX6_stepByUnions_23 : decode cX6_stepByUnions 23 = .ok (.iconst 0, 1) := by decide +kernel
theorem dX6_stepByUnions_24 : decode cX6_stepByUnions 24 = .ok (.ireturn, 1) := by decide +kernel
theorem dX6_stepByUnions_25 : decode cX6_stepByUnions 25 = .ok (.aload_n 0, 1) := by decide +kernel
theorem dX6_stepByUnions_26 : decode cX6_stepByUnions 26 = .ok (.aload_n 1, 1) := by decide +kernel
theorem dX6_stepByUnions_27 : decode cX6_stepByUnions 27 = .ok (.invokevirtual 83, 3) := by decide +kernel
theorem dX6_stepByUnions_30 : decode cX6_stepByUnions 30 = .ok (.aload_n 0, 1) := by decide +kernel
theorem dX6_stepByUnions_31 : decode cX6_stepByUnions 31 = .ok (.getfield 28, 3) := by decide +kernel
theorem dX6_stepByUnions_34 : decode cX6_stepByUnions 34 = .ok (.invokevirtual 87, 3) := by decide +kernel
theorem dX6_stepByUnions_37 : decode cX6_stepByUnions 37 = .ok (.iconst 0, 1) := by decide +kernel
theorem dX6_stepByUnions_38 : decode cX6_stepByUnions 38 = .ok (.istore 4, 2) := by decide +kernel
theorem dX6_stepByUnions_40 : decode cX6_stepByUnions 40 = .ok (.iload 4, 2) := by decide +kernel
theorem dX6_stepByUnions_42 : decode cX6_stepByUnions 42 = .ok (.aload_n 0, 1) := by decide +kernel
theorem dX6_stepByUnions_43 : decode cX6_stepByUnions 43 = .ok (.getfield 90, 3) := by decide +kernel
theorem dX6_stepByUnions_46 : decode cX6_stepByUnions 46 = .ok (.if_icmp .ge 89, 3) := by decide +kernel
theorem dX6_stepByUnions_49 : decode cX6_stepByUnions 49 = .ok (.aload_n 0, 1) := by decide +kernel
theorem dX6_stepByUnions_50 : decode cX6_stepByUnions 50 = .ok (.getfield 36, 3) := by decide +kernel
theorem dX6_stepByUnions_53 : decode cX6_stepByUnions 53 = .ok (.iload 4, 2) := by decide +kernel
theorem dX6_stepByUnions_55 : decode cX6_stepByUnions 55 = .ok (.iaload, 1) := by decide +kernel
theorem dX6_stepByUnions_56 : decode cX6_stepByUnions 56 = .ok (.sipush 144, 3) := by decide +kernel
theorem dX6_stepByUnions_59 : decode cX6_stepByUnions 59 = .ok (.irem, 1) := by decide +kernel
theorem dX6_stepByUnions_60 : decode cX6_stepByUnions 60 = .ok (.iconst 4, 1) := by decide +kernel
theorem dX6_stepByUnions_61 : decode cX6_stepByUnions 61 = .ok (.idiv, 1) := by decide +kernel
theorem dX6_stepByUnions_62 : decode cX6_stepByUnions 62 = .ok (.istore 5, 2) := by decide +kernel
theorem dX6_stepByUnions_64 : decode cX6_stepByUnions 64 = .ok (.iload 5, 2) := by decide +kernel
theorem dX6_stepByUnions_66 : decode cX6_stepByUnions 66 = .ok (.aload_n 0, 1) := by decide +kernel
theorem dX6_stepByUnions_67 : decode cX6_stepByUnions 67 = .ok (.getfield 36, 3) := by decide +kernel
theorem dX6_stepByUnions_70 : decode cX6_stepByUnions 70 = .ok (.iload 4, 2) := by decide +kernel
theorem dX6_stepByUnions_72 : decode cX6_stepByUnions 72 = .ok (.iaload, 1) := by decide +kernel
theorem dX6_stepByUnions_73 : decode cX6_stepByUnions 73 = .ok (.iconst 4, 1) := by decide +kernel
theorem dX6_stepByUnions_74 : decode cX6_stepByUnions 74 = .ok (.irem, 1) := by decide +kernel
theorem dX6_stepByUnions_75 : decode cX6_stepByUnions 75 = .ok (.invokestatic 72, 3) := by decide +kernel
theorem dX6_stepByUnions_78 : decode cX6_stepByUnions 78 = .ok (.istore 6, 2) := by decide +kernel
theorem dX6_stepByUnions_80 : decode cX6_stepByUnions 80 = .ok (.iload 6, 2) := by decide +kernel
theorem dX6_stepByUnions_82 : decode cX6_stepByUnions 82 = .ok (.iconst (-1), 1) := by decide +kernel
theorem dX6_stepByUnions_83 : decode cX6_stepByUnions 83 = .ok (.if_icmp .eq 15, 3) := by decide +kernel
theorem dX6_stepByUnions_86 : decode cX6_stepByUnions 86 = .ok (.aload_n 0, 1) := by decide +kernel
theorem dX6_stepByUnions_87 : decode cX6_stepByUnions 87 = .ok (.getfield 28, 3) := by decide +kernel
theorem dX6_stepByUnions_90 : decode cX6_stepByUnions 90 = .ok (.iload 5, 2) := by decide +kernel
theorem dX6_stepByUnions_92 : decode cX6_stepByUnions 92 = .ok (.iload 6, 2) := by decide +kernel
theorem dX6_stepByUnions_94 : decode cX6_stepByUnions 94 = .ok (.invokevirtual 94, 3) := by decide +kernel
theorem dX6_stepByUnions_97 : decode cX6_stepByUnions 97 = .ok (.pop, 1) := by decide +kernel
theorem dX6_stepByUnions_98 : decode cX6_stepByUnions 98 = .ok (.aload_n 0, 1) := by decide +kernel
theorem dX6_stepByUnions_99 : decode cX6_stepByUnions 99 = .ok (.getfield 28, 3) := by decide +kernel
theorem dX6_stepByUnions_102 : decode cX6_stepByUnions 102 = .ok (.iload_n 2, 1) := by decide +kernel
theorem dX6_stepByUnions_103 : decode cX6_stepByUnions 103 = .ok (.invokevirtual 98, 3) := by decide +kernel
theorem dX6_stepByUnions_106 : decode cX6_stepByUnions 106 = .ok (.aload_n 0, 1) := by decide +kernel
theorem dX6_stepByUnions_107 : decode cX6_stepByUnions 107 = .ok (.getfield 28, 3) := by decide +kernel
theorem dX6_stepByUnions_110 : decode cX6_stepByUnions 110 = .ok (.iload_n 3, 1) := by decide +kernel
theorem dX6_stepByUnions_111 : decode cX6_stepByUnions 111 = .ok (.invokevirtual 98, 3) := by decide +kernel
theorem dX6_stepByUnions_114 : decode cX6_stepByUnions 114 = .ok (.if_icmp .ne 15, 3) := by decide +kernel
theorem dX6_stepByUnions_117 : decode cX6_stepByUnions 117 = .ok (.aload_n 0, 1) := by decide +kernel
theorem dX6_stepByUnions_118 : decode cX6_stepByUnions 118 = .ok (.getfield 36, 3) := by decide +kernel
theorem dX6_stepByUnions_121 : decode cX6_stepByUnions 121 = .ok (.iload 4, 2) := by decide +kernel
theorem dX6_stepByUnions_123 : decode cX6_stepByUnions 123 = .ok (.iaload, 1) := by decide +kernel
theorem dX6_stepByUnions_124 : decode cX6_stepByUnions 124 = .ok (.sipush 144, 3) := by decide +kernel
theorem dX6_stepByUnions_127 : decode cX6_stepByUnions 127 = .ok (.idiv, 1) := by decide +kernel
theorem dX6_stepByUnions_128 : decode cX6_stepByUnions 128 = .ok (.ireturn, 1) := by decide +kernel
theorem dX6_stepByUnions_129 : decode cX6_stepByUnions 129 = .ok (.iinc 4 1, 3) := by decide +kernel
theorem dX6_stepByUnions_132 : decode cX6_stepByUnions 132 = .ok (.goto (-92), 3) := by decide +kernel
theorem dX6_stepByUnions_135 : decode cX6_stepByUnions 135 = .ok (.iconst (-1), 1) := by decide +kernel
theorem dX6_stepByUnions_136 : decode cX6_stepByUnions 136 = .ok (.ireturn, 1) := by decide +kernel
theorem dX6_rankPairs_0 : decode cX6_rankPairs 0 = .ok (.aload_n 0, 1) := by decide +kernel
theorem dX6_rankPairs_1 : decode cX6_rankPairs 1 = .ok (.iconst 0, 1) := by decide +kernel
theorem dX6_rankPairs_2 : decode cX6_rankPairs 2 = .ok (.putfield 90, 3) := by decide +kernel
theorem dX6_rankPairs_5 : decode cX6_rankPairs 5 = .ok (.iconst 0, 1) := by decide +kernel
theorem dX6_rankPairs_6 : decode cX6_rankPairs 6 = .ok (.istore_n 2, 1) := by decide +kernel
theorem dX6_rankPairs_7 : decode cX6_rankPairs 7 = .ok (.iload_n 2, 1) := by decide +kernel
theorem dX6_rankPairs_8 : decode cX6_rankPairs 8 = .ok (.bipush 36, 2) := by decide +kernel
theorem dX6_rankPairs_10 : decode cX6_rankPairs 10 = .ok (.if_icmp .ge 23, 3) := by decide +kernel
theorem dX6_rankPairs_13 : decode cX6_rankPairs 13 = .ok (.aload_n 0, 1) := by decide +kernel
theorem dX6_rankPairs_14 : decode cX6_rankPairs 14 = .ok (.aload_n 1, 1) := by decide +kernel
theorem dX6_rankPairs_15 : decode cX6_rankPairs 15 = .ok (.iload_n 2, 1) := by decide +kernel
theorem dX6_rankPairs_16 : decode cX6_rankPairs 16 = .ok (.iconst 1, 1) := by decide +kernel
theorem dX6_rankPairs_17 : decode cX6_rankPairs 17 = .ok (.invokevirtual 101, 3) := by decide +kernel
theorem dX6_rankPairs_20 : decode cX6_rankPairs 20 = .ok (.aload_n 0, 1) := by decide +kernel
theorem dX6_rankPairs_21 : decode cX6_rankPairs 21 = .ok (.aload_n 1, 1) := by decide +kernel
theorem dX6_rankPairs_22 : decode cX6_rankPairs 22 = .ok (.iload_n 2, 1) := by decide +kernel
theorem dX6_rankPairs_23 : decode cX6_rankPairs 23 = .ok (.iconst 2, 1) := by decide +kernel
theorem dX6_rankPairs_24 : decode cX6_rankPairs 24 = .ok (.invokevirtual 101, 3) := by decide +kernel
theorem dX6_rankPairs_27 : decode cX6_rankPairs 27 = .ok (.iinc 2 1, 3) := by decide +kernel
theorem dX6_rankPairs_30 : decode cX6_rankPairs 30 = .ok (.goto (-23), 3) := by decide +kernel
theorem dX6_rankPairs_33 : decode cX6_rankPairs 33 = .ok (.return_, 1) := by decide +kernel
theorem dX6_rankPair_0 : decode cX6_rankPair 0 = .ok (.iload_n 2, 1) := by decide +kernel
theorem dX6_rankPair_1 : decode cX6_rankPair 1 = .ok (.iload_n 3, 1) := by decide +kernel
theorem dX6_rankPair_2 : decode cX6_rankPair 2 = .ok (.invokestatic 72, 3) := by decide +kernel
theorem dX6_rankPair_5 : decode cX6_rankPair 5 = .ok (.istore 4, 2) := by decide +kernel
theorem dX6_rankPair_7 : decode cX6_rankPair 7 = .ok (.iload 4, 2) := by decide +kernel
theorem dX6_rankPair_9 : decode cX6_rankPair 9 = .ok (.iconst (-1), 1) := by decide +kernel
theorem dX6_rankPair_10 : decode cX6_rankPair 10 = .ok (.if_icmp .eq 29, 3) := by decide +kernel
theorem dX6_rankPair_13 : decode cX6_rankPair 13 = .ok (.aload_n 1, 1) := by decide +kernel
theorem dX6_rankPair_14 : decode cX6_rankPair 14 = .ok (.iload_n 2, 1) := by decide +kernel
theorem dX6_rankPair_15 : decode cX6_rankPair 15 = .ok (.invokevirtual 39, 3) := by decide +kernel
theorem dX6_rankPair_18 : decode cX6_rankPair 18 = .ok (.ifCond .ne 21, 3) := by decide +kernel
theorem dX6_rankPair_21 : decode cX6_rankPair 21 = .ok (.aload_n 1, 1) := by decide +kernel
theorem dX6_rankPair_22 : decode cX6_rankPair 22 = .ok (.iload 4, 2) := by decide +kernel
theorem dX6_rankPair_24 : decode cX6_rankPair 24 = .ok (.invokevirtual 39, 3) := by decide +kernel
theorem dX6_rankPair_27 : decode cX6_rankPair 27 = .ok (.ifCond .ne 12, 3) := by decide +kernel
theorem dX6_rankPair_30 : decode cX6_rankPair 30 = .ok (.aload_n 0, 1) := by decide +kernel
theorem dX6_rankPair_31 : decode cX6_rankPair 31 = .ok (.getfield 90, 3) := by decide +kernel
theorem dX6_rankPair_34 : decode cX6_rankPair 34 = .ok (.bipush 60, 2) := by decide +kernel
theorem dX6_rankPair_36 : decode cX6_rankPair 36 = .ok (.if_icmp .lt 4, 3) := by decide +kernel
theorem dX6_rankPair_39 : decode cX6_rankPair 39 = .ok (.return_, 1) := by decide +kernel
theorem dX6_rankPair_40 : decode cX6_rankPair 40 = .ok (.aload_n 1, 1) := by decide +kernel
theorem dX6_rankPair_41 : decode cX6_rankPair 41 = .ok (.iload_n 2, 1) := by decide +kernel
theorem dX6_rankPair_42 : decode cX6_rankPair 42 = .ok (.iload 4, 2) := by decide +kernel
theorem dX6_rankPair_44 : decode cX6_rankPair 44 = .ok (.invokevirtual 80, 3) := by decide +kernel
theorem dX6_rankPair_47 : decode cX6_rankPair 47 = .ok (.sipush 144, 3) := by decide +kernel
theorem dX6_rankPair_50 : decode cX6_rankPair 50 = .ok (.imul, 1) := by decide +kernel
theorem dX6_rankPair_51 : decode cX6_rankPair 51 = .ok (.iload_n 2, 1) := by decide +kernel
theorem dX6_rankPair_52 : decode cX6_rankPair 52 = .ok (.iconst 4, 1) := by decide +kernel
theorem dX6_rankPair_53 : decode cX6_rankPair 53 = .ok (.imul, 1) := by decide +kernel
theorem dX6_rankPair_54 : decode cX6_rankPair 54 = .ok (.iadd, 1) := by decide +kernel
theorem dX6_rankPair_55 : decode cX6_rankPair 55 = .ok (.iload_n 3, 1) := by decide +kernel
theorem dX6_rankPair_56 : decode cX6_rankPair 56 = .ok (.iadd, 1) := by decide +kernel
theorem dX6_rankPair_57 : decode cX6_rankPair 57 = .ok (.istore 5, 2) := by decide +kernel
theorem dX6_rankPair_59 : decode cX6_rankPair 59 = .ok (.aload_n 0, 1) := by decide +kernel
theorem dX6_rankPair_60 : decode cX6_rankPair 60 = .ok (.getfield 90, 3) := by decide +kernel
theorem dX6_rankPair_63 : decode cX6_rankPair 63 = .ok (.istore 6, 2) := by decide +kernel
theorem dX6_rankPair_65 : decode cX6_rankPair 65 = .ok (.iload 6, 2) := by decide +kernel
theorem dX6_rankPair_67 : decode cX6_rankPair 67 = .ok (.ifCond .le 39, 3) := by decide +kernel
theorem dX6_rankPair_70 : decode cX6_rankPair 70 = .ok (.aload_n 0, 1) := by decide +kernel
theorem dX6_rankPair_71 : decode cX6_rankPair 71 = .ok (.getfield 36, 3) := by decide +kernel
theorem dX6_rankPair_74 : decode cX6_rankPair 74 = .ok (.iload 6, 2) := by decide +kernel
theorem dX6_rankPair_76 : decode cX6_rankPair 76 = .ok (.iconst 1, 1) := by decide +kernel
theorem dX6_rankPair_77 : decode cX6_rankPair 77 = .ok (.isub, 1) := by decide +kernel
theorem dX6_rankPair_78 : decode cX6_rankPair 78 = .ok (.iaload, 1) := by decide +kernel
theorem dX6_rankPair_79 : decode cX6_rankPair 79 = .ok (.iload 5, 2) := by decide +kernel
theorem dX6_rankPair_81 : decode cX6_rankPair 81 = .ok (.if_icmp .le 25, 3) := by decide +kernel
theorem dX6_rankPair_84 : decode cX6_rankPair 84 = .ok (.aload_n 0, 1) := by decide +kernel
theorem dX6_rankPair_85 : decode cX6_rankPair 85 = .ok (.getfield 36, 3) := by decide +kernel
theorem dX6_rankPair_88 : decode cX6_rankPair 88 = .ok (.iload 6, 2) := by decide +kernel
theorem dX6_rankPair_90 : decode cX6_rankPair 90 = .ok (.aload_n 0, 1) := by decide +kernel
theorem dX6_rankPair_91 : decode cX6_rankPair 91 = .ok (.getfield 36, 3) := by decide +kernel
theorem dX6_rankPair_94 : decode cX6_rankPair 94 = .ok (.iload 6, 2) := by decide +kernel
theorem dX6_rankPair_96 : decode cX6_rankPair 96 = .ok (.iconst 1, 1) := by decide +kernel
theorem dX6_rankPair_97 : decode cX6_rankPair 97 = .ok (.isub, 1) := by decide +kernel
theorem dX6_rankPair_98 : decode cX6_rankPair 98 = .ok (.iaload, 1) := by decide +kernel
theorem dX6_rankPair_99 : decode cX6_rankPair 99 = .ok (.iastore, 1) := by decide +kernel
theorem dX6_rankPair_100 : decode cX6_rankPair 100 = .ok (.iinc 6 (-1), 3) := by decide +kernel
theorem dX6_rankPair_103 : decode cX6_rankPair 103 = .ok (.goto (-38), 3) := by decide +kernel
theorem dX6_rankPair_106 : decode cX6_rankPair 106 = .ok (.aload_n 0, 1) := by decide +kernel
theorem dX6_rankPair_107 : decode cX6_rankPair 107 = .ok (.getfield 36, 3) := by decide +kernel
theorem dX6_rankPair_110 : decode cX6_rankPair 110 = .ok (.iload 6, 2) := by decide +kernel
theorem dX6_rankPair_112 : decode cX6_rankPair 112 = .ok (.iload 5, 2) := by decide +kernel
theorem dX6_rankPair_114 : decode cX6_rankPair 114 = .ok (.iastore, 1) := by decide +kernel
theorem dX6_rankPair_115 : decode cX6_rankPair 115 = .ok (.aload_n 0, 1) := by decide +kernel
theorem dX6_rankPair_116 : decode cX6_rankPair 116 = .ok (.dup, 1) := by decide +kernel
theorem dX6_rankPair_117 : decode cX6_rankPair 117 = .ok (.getfield 90, 3) := by decide +kernel
theorem dX6_rankPair_120 : decode cX6_rankPair 120 = .ok (.iconst 1, 1) := by decide +kernel
theorem dX6_rankPair_121 : decode cX6_rankPair 121 = .ok (.iadd, 1) := by decide +kernel
theorem dX6_rankPair_122 : decode cX6_rankPair 122 = .ok (.putfield 90, 3) := by decide +kernel
theorem dX6_rankPair_125 : decode cX6_rankPair 125 = .ok (.return_, 1) := by decide +kernel
theorem dX6_stepByHalving_0 : decode cX6_stepByHalving 0 = .ok (.aload_n 1, 1) := by decide +kernel
theorem dX6_stepByHalving_1 : decode cX6_stepByHalving 1 = .ok (.iload_n 2, 1) := by decide +kernel
theorem dX6_stepByHalving_2 : decode cX6_stepByHalving 2 = .ok (.invokevirtual 39, 3) := by decide +kernel
theorem dX6_stepByHalving_5 : decode cX6_stepByHalving 5 = .ok (.ifCond .ne 23, 3) := by decide +kernel
theorem dX6_stepByHalving_8 : decode cX6_stepByHalving 8 = .ok (.aload_n 1, 1) := by decide +kernel
theorem dX6_stepByHalving_9 : decode cX6_stepByHalving 9 = .ok (.iload_n 3, 1) := by decide +kernel
theorem dX6_stepByHalving_10 : decode cX6_stepByHalving 10 = .ok (.invokevirtual 39, 3) := by decide +kernel
theorem dX6_stepByHalving_13 : decode cX6_stepByHalving 13 = .ok (.ifCond .ne 15, 3) := by decide +kernel
theorem dX6_stepByHalving_16 : decode cX6_stepByHalving 16 = .ok (.aload_n 0, 1) := by decide +kernel
theorem dX6_stepByHalving_17 : decode cX6_stepByHalving 17 = .ok (.aload_n 1, 1) := by decide +kernel
theorem dX6_stepByHalving_18 : decode cX6_stepByHalving 18 = .ok (.iload_n 2, 1) := by decide +kernel
theorem dX6_stepByHalving_19 : decode cX6_stepByHalving 19 = .ok (.iload_n 3, 1) := by decide +kernel
theorem dX6_stepByHalving_20 : decode cX6_stepByHalving 20 = .ok (.bipush 99, 2) := by decide +kernel
theorem dX6_stepByHalving_22 : decode cX6_stepByHalving 22 = .ok (.invokevirtual 105, 3) := by decide +kernel
theorem dX6_stepByHalving_25 : decode cX6_stepByHalving 25 = .ok (.ifCond .ne 5, 3) := by decide +kernel
theorem dX6_stepByHalving_28 : decode cX6_stepByHalving 28 = .ok (.iconst (-1), 1) := by decide +kernel
theorem dX6_stepByHalving_29 : decode cX6_stepByHalving 29 = .ok (.ireturn, 1) := by decide +kernel
theorem dX6_stepByHalving_30 : decode cX6_stepByHalving 30 = .ok (.iconst 0, 1) := by decide +kernel
theorem dX6_stepByHalving_31 : decode cX6_stepByHalving 31 = .ok (.istore 4, 2) := by decide +kernel
theorem dX6_stepByHalving_33 : decode cX6_stepByHalving 33 = .ok (.bipush 99, 2) := by decide +kernel
theorem dX6_stepByHalving_35 : decode cX6_stepByHalving 35 = .ok (.istore 5, 2) := by decide +kernel
theorem dX6_stepByHalving_37 : decode cX6_stepByHalving 37 = .ok (.iconst 0, 1) := by decide +kernel
theorem dX6_stepByHalving_38 : decode cX6_stepByHalving 38 = .ok (.istore 6, 2) := by decide +kernel
theorem dX6_stepByHalving_40 : decode cX6_stepByHalving 40 = .ok (.iload 6, 2) := by decide +kernel
theorem dX6_stepByHalving_42 : decode cX6_stepByHalving 42 = .ok (.bipush 7, 2) := by decide +kernel
theorem dX6_stepByHalving_44 : decode cX6_stepByHalving 44 = .ok (.if_icmp .ge 50, 3) := by decide +kernel
theorem dX6_stepByHalving_47 : decode cX6_stepByHalving 47 = .ok (.iload 4, 2) := by decide +kernel
theorem dX6_stepByHalving_49 : decode cX6_stepByHalving 49 = .ok (.iload 5, 2) := by decide +kernel
theorem dX6_stepByHalving_51 : decode cX6_stepByHalving 51 = .ok (.if_icmp .ge 43, 3) := by decide +kernel
theorem dX6_stepByHalving_54 : decode cX6_stepByHalving 54 = .ok (.iload 4, 2) := by decide +kernel
theorem dX6_stepByHalving_56 : decode cX6_stepByHalving 56 = .ok (.iload 5, 2) := by decide +kernel
theorem dX6_stepByHalving_58 : decode cX6_stepByHalving 58 = .ok (.iadd, 1) := by decide +kernel
theorem dX6_stepByHalving_59 : decode cX6_stepByHalving 59 = .ok (.iconst 2, 1) := by decide +kernel
theorem dX6_stepByHalving_60 : decode cX6_stepByHalving 60 = .ok (.idiv, 1) := by decide +kernel
theorem dX6_stepByHalving_61 : decode cX6_stepByHalving 61 = .ok (.istore 7, 2) := by decide +kernel
theorem dX6_stepByHalving_63 : decode cX6_stepByHalving 63 = .ok (.aload_n 0, 1) := by decide +kernel
theorem dX6_stepByHalving_64 : decode cX6_stepByHalving 64 = .ok (.aload_n 1, 1) := by decide +kernel
theorem dX6_stepByHalving_65 : decode cX6_stepByHalving 65 = .ok (.iload_n 2, 1) := by decide +kernel
theorem dX6_stepByHalving_66 : decode cX6_stepByHalving 66 = .ok (.iload_n 3, 1) := by decide +kernel
theorem dX6_stepByHalving_67 : decode cX6_stepByHalving 67 = .ok (.iload 7, 2) := by decide +kernel
theorem dX6_stepByHalving_69 : decode cX6_stepByHalving 69 = .ok (.invokevirtual 105, 3) := by decide +kernel
theorem dX6_stepByHalving_72 : decode cX6_stepByHalving 72 = .ok (.ifCond .eq 10, 3) := by decide +kernel
theorem dX6_stepByHalving_75 : decode cX6_stepByHalving 75 = .ok (.iload 7, 2) := by decide +kernel
theorem dX6_stepByHalving_77 : decode cX6_stepByHalving 77 = .ok (.istore 5, 2) := by decide +kernel
theorem dX6_stepByHalving_79 : decode cX6_stepByHalving 79 = .ok (.goto 9, 3) := by decide +kernel
theorem dX6_stepByHalving_82 : decode cX6_stepByHalving 82 = .ok (.iload 7, 2) := by decide +kernel
theorem dX6_stepByHalving_84 : decode cX6_stepByHalving 84 = .ok (.iconst 1, 1) := by decide +kernel
theorem dX6_stepByHalving_85 : decode cX6_stepByHalving 85 = .ok (.iadd, 1) := by decide +kernel
theorem dX6_stepByHalving_86 : decode cX6_stepByHalving 86 = .ok (.istore 4, 2) := by decide +kernel
theorem dX6_stepByHalving_88 : decode cX6_stepByHalving 88 = .ok (.iinc 6 1, 3) := by decide +kernel
theorem dX6_stepByHalving_91 : decode cX6_stepByHalving 91 = .ok (.goto (-51), 3) := by decide +kernel
theorem dX6_stepByHalving_94 : decode cX6_stepByHalving 94 = .ok (.iload 5, 2) := by decide +kernel
theorem dX6_stepByHalving_96 : decode cX6_stepByHalving 96 = .ok (.ireturn, 1) := by decide +kernel
theorem dX6_leads_0 : decode cX6_leads 0 = .ok (.aload_n 0, 1) := by decide +kernel
theorem dX6_leads_1 : decode cX6_leads 1 = .ok (.getfield 21, 3) := by decide +kernel
theorem dX6_leads_4 : decode cX6_leads 4 = .ok (.invokevirtual 109, 3) := by decide +kernel
theorem dX6_leads_7 : decode cX6_leads 7 = .ok (.aload_n 0, 1) := by decide +kernel
theorem dX6_leads_8 : decode cX6_leads 8 = .ok (.getfield 21, 3) := by decide +kernel
theorem dX6_leads_11 : decode cX6_leads 11 = .ok (.iload_n 2, 1) := by decide +kernel
theorem dX6_leads_12 : decode cX6_leads 12 = .ok (.invokevirtual 112, 3) := by decide +kernel
theorem dX6_leads_15 : decode cX6_leads 15 = .ok (.iconst 0, 1) := by decide +kernel
theorem dX6_leads_16 : decode cX6_leads 16 = .ok (.istore 5, 2) := by decide +kernel
theorem dX6_leads_18 : decode cX6_leads 18 = .ok (.iload 5, 2) := by decide +kernel
theorem dX6_leads_20 : decode cX6_leads 20 = .ok (.bipush 36, 2) := by decide +kernel
theorem dX6_leads_22 : decode cX6_leads 22 = .ok (.if_icmp .ge 88, 3) := by decide +kernel
theorem dX6_leads_25 : decode cX6_leads 25 = .ok (.aload_n 0, 1) := by decide +kernel
theorem dX6_leads_26 : decode cX6_leads 26 = .ok (.getfield 21, 3) := by decide +kernel
theorem dX6_leads_29 : decode cX6_leads 29 = .ok (.invokevirtual 116, 3) := by decide +kernel
theorem dX6_leads_32 : decode cX6_leads 32 = .ok (.istore 6, 2) := by decide +kernel
theorem dX6_leads_34 : decode cX6_leads 34 = .ok (.iload 6, 2) := by decide +kernel
theorem dX6_leads_36 : decode cX6_leads 36 = .ok (.iconst (-1), 1) := by decide +kernel
theorem dX6_leads_37 : decode cX6_leads 37 = .ok (.if_icmp .ne 6, 3) := by decide +kernel
theorem dX6_leads_40 : decode cX6_leads 40 = .ok (.goto 70, 3) := by decide +kernel
theorem dX6_leads_43 : decode cX6_leads 43 = .ok (.iconst 0, 1) := by decide +kernel
theorem dX6_leads_44 : decode cX6_leads 44 = .ok (.istore 7, 2) := by decide +kernel
theorem dX6_leads_46 : decode cX6_leads 46 = .ok (.iload 7, 2) := by decide +kernel
theorem dX6_leads_48 : decode cX6_leads 48 = .ok (.iconst 4, 1) := by decide +kernel
theorem dX6_leads_49 : decode cX6_leads 49 = .ok (.if_icmp .ge 55, 3) := by decide +kernel
theorem dX6_leads_52 : decode cX6_leads 52 = .ok (.iload 6, 2) := by decide +kernel
theorem dX6_leads_54 : decode cX6_leads 54 = .ok (.iload 7, 2) := by decide +kernel
theorem dX6_leads_56 : decode cX6_leads 56 = .ok (.invokestatic 72, 3) := by decide +kernel
theorem dX6_leads_59 : decode cX6_leads 59 = .ok (.istore 8, 2) := by decide +kernel
theorem dX6_leads_61 : decode cX6_leads 61 = .ok (.iload 8, 2) := by decide +kernel
theorem dX6_leads_63 : decode cX6_leads 63 = .ok (.iconst (-1), 1) := by decide +kernel
theorem dX6_leads_64 : decode cX6_leads 64 = .ok (.if_icmp .eq 34, 3) := by decide +kernel
theorem dX6_leads_67 : decode cX6_leads 67 = .ok (.aload_n 1, 1) := by decide +kernel
theorem dX6_leads_68 : decode cX6_leads 68 = .ok (.iload 8, 2) := by decide +kernel
theorem dX6_leads_70 : decode cX6_leads 70 = .ok (.invokevirtual 39, 3) := by decide +kernel
theorem dX6_leads_73 : decode cX6_leads 73 = .ok (.ifCond .ne 25, 3) := by decide +kernel
theorem dX6_leads_76 : decode cX6_leads 76 = .ok (.aload_n 1, 1) := by decide +kernel
theorem dX6_leads_77 : decode cX6_leads 77 = .ok (.iload 6, 2) := by decide +kernel
theorem dX6_leads_79 : decode cX6_leads 79 = .ok (.iload 8, 2) := by decide +kernel
theorem dX6_leads_81 : decode cX6_leads 81 = .ok (.invokevirtual 80, 3) := by decide +kernel
theorem dX6_leads_84 : decode cX6_leads 84 = .ok (.iload 4, 2) := by decide +kernel
theorem dX6_leads_86 : decode cX6_leads 86 = .ok (.if_icmp .gt 12, 3) := by decide +kernel
theorem dX6_leads_89 : decode cX6_leads 89 = .ok (.aload_n 0, 1) := by decide +kernel
theorem dX6_leads_90 : decode cX6_leads 90 = .ok (.getfield 21, 3) := by decide +kernel
theorem dX6_leads_93 : decode cX6_leads 93 = .ok (.iload 8, 2) := by decide +kernel
theorem dX6_leads_95 : decode cX6_leads 95 = .ok (.invokevirtual 112, 3) := by decide +kernel
theorem dX6_leads_98 : decode cX6_leads 98 = .ok (.iinc 7 1, 3) := by decide +kernel
theorem dX6_leads_101 : decode cX6_leads 101 = .ok (.goto (-55), 3) := by decide +kernel
theorem dX6_leads_104 : decode cX6_leads 104 = .ok (.iinc 5 1, 3) := by decide +kernel
theorem dX6_leads_107 : decode cX6_leads 107 = .ok (.goto (-89), 3) := by decide +kernel
theorem dX6_leads_110 : decode cX6_leads 110 = .ok (.aload_n 0, 1) := by decide +kernel
theorem dX6_leads_111 : decode cX6_leads 111 = .ok (.getfield 21, 3) := by decide +kernel
theorem dX6_leads_114 : decode cX6_leads 114 = .ok (.getfield 117, 3) := by decide +kernel
theorem dX6_leads_117 : decode cX6_leads 117 = .ok (.iload_n 3, 1) := by decide +kernel
theorem dX6_leads_118 : decode cX6_leads 118 = .ok (.baload, 1) := by decide +kernel
theorem dX6_leads_119 : decode cX6_leads 119 = .ok (.ireturn, 1) := by decide +kernel
theorem dX7_init_0 : decode cX7_init 0 = .ok (.aload_n 0, 1) := by decide +kernel
theorem dX7_init_1 : decode cX7_init 1 = .ok (.invokespecial 3, 3) := by decide +kernel
theorem dX7_init_4 : decode cX7_init 4 = .ok (.aload_n 0, 1) := by decide +kernel
theorem dX7_init_5 : decode cX7_init 5 = .ok (.bipush 36, 2) := by decide +kernel
theorem dX7_init_7 : decode cX7_init 7 = .ok (.newarray .int, 2) := by decide +kernel
theorem dX7_init_9 : decode cX7_init 9 = .ok (.putfield 9, 3) := by decide +kernel
theorem dX7_init_12 : decode cX7_init 12 = .ok (.aload_n 0, 1) := by decide +kernel
theorem dX7_init_13 : decode cX7_init 13 = .ok (.bipush 36, 2) := by decide +kernel
theorem dX7_init_15 : decode cX7_init 15 = .ok (.newarray .int, 2) := by decide +kernel
theorem dX7_init_17 : decode cX7_init 17 = .ok (.putfield 15, 3) := by decide +kernel
theorem dX7_init_20 : decode cX7_init 20 = .ok (.aload_n 0, 1) := by decide +kernel
theorem dX7_init_21 : decode cX7_init 21 = .ok (.bipush 36, 2) := by decide +kernel
theorem dX7_init_23 : decode cX7_init 23 = .ok (.newarray .boolean, 2) := by decide +kernel
theorem dX7_init_25 : decode cX7_init 25 = .ok (.putfield 18, 3) := by decide +kernel
theorem dX7_init_28 : decode cX7_init 28 = .ok (.aload_n 0, 1) := by decide +kernel
theorem dX7_init_29 : decode cX7_init 29 = .ok (.bipush 36, 2) := by decide +kernel
theorem dX7_init_31 : decode cX7_init 31 = .ok (.newarray .int, 2) := by decide +kernel
theorem dX7_init_33 : decode cX7_init 33 = .ok (.putfield 22, 3) := by decide +kernel
theorem dX7_init_36 : decode cX7_init 36 = .ok (.aload_n 0, 1) := by decide +kernel
theorem dX7_init_37 : decode cX7_init 37 = .ok (.bipush 36, 2) := by decide +kernel
theorem dX7_init_39 : decode cX7_init 39 = .ok (.newarray .int, 2) := by decide +kernel
theorem dX7_init_41 : decode cX7_init 41 = .ok (.putfield 25, 3) := by decide +kernel
theorem dX7_init_44 : decode cX7_init 44 = .ok (.aload_n 0, 1) := by decide +kernel
theorem dX7_init_45 : decode cX7_init 45 = .ok (.iconst 4, 1) := by decide +kernel
theorem dX7_init_46 : decode cX7_init 46 = .ok (.newarray .int, 2) := by decide +kernel
theorem dX7_init_48 : decode cX7_init 48 = .ok (.putfield 28, 3) := by decide +kernel
theorem dX7_init_51 : decode cX7_init 51 = .ok (.aload_n 0, 1) := by decide +kernel
theorem dX7_init_52 : decode cX7_init 52 = .ok (.getfield 9, 3) := by decide +kernel
theorem dX7_init_55 : decode cX7_init 55 = .ok (.bipush 50, 2) := by decide +kernel
theorem dX7_init_57 : decode cX7_init 57 = .ok (.invokestatic 31, 3) := by decide +kernel
theorem dX7_init_60 : decode cX7_init 60 = .ok (.return_, 1) := by decide +kernel
theorem dX7_copyFrom_0 : decode cX7_copyFrom 0 = .ok (.aload_n 1, 1) := by decide +kernel
theorem dX7_copyFrom_1 : decode cX7_copyFrom 1 = .ok (.getfield 9, 3) := by decide +kernel
theorem dX7_copyFrom_4 : decode cX7_copyFrom 4 = .ok (.iconst 0, 1) := by decide +kernel
theorem dX7_copyFrom_5 : decode cX7_copyFrom 5 = .ok (.aload_n 0, 1) := by decide +kernel
theorem dX7_copyFrom_6 : decode cX7_copyFrom 6 = .ok (.getfield 9, 3) := by decide +kernel
theorem dX7_copyFrom_9 : decode cX7_copyFrom 9 = .ok (.iconst 0, 1) := by decide +kernel
theorem dX7_copyFrom_10 : decode cX7_copyFrom 10 = .ok (.bipush 36, 2) := by decide +kernel
theorem dX7_copyFrom_12 : decode cX7_copyFrom 12 = .ok (.invokestatic 37, 3) := by decide +kernel
theorem dX7_copyFrom_15 : decode cX7_copyFrom 15 = .ok (.aload_n 1, 1) := by decide +kernel
theorem dX7_copyFrom_16 : decode cX7_copyFrom 16 = .ok (.getfield 22, 3) := by decide +kernel
theorem dX7_copyFrom_19 : decode cX7_copyFrom 19 = .ok (.iconst 0, 1) := by decide +kernel
theorem dX7_copyFrom_20 : decode cX7_copyFrom 20 = .ok (.aload_n 0, 1) := by decide +kernel
theorem dX7_copyFrom_21 : decode cX7_copyFrom 21 = .ok (.getfield 22, 3) := by decide +kernel
theorem dX7_copyFrom_24 : decode cX7_copyFrom 24 = .ok (.iconst 0, 1) := by decide +kernel
theorem dX7_copyFrom_25 : decode cX7_copyFrom 25 = .ok (.bipush 36, 2) := by decide +kernel
theorem dX7_copyFrom_27 : decode cX7_copyFrom 27 = .ok (.invokestatic 37, 3) := by decide +kernel
theorem dX7_copyFrom_30 : decode cX7_copyFrom 30 = .ok (.aload_n 1, 1) := by decide +kernel
theorem dX7_copyFrom_31 : decode cX7_copyFrom 31 = .ok (.getfield 25, 3) := by decide +kernel
theorem dX7_copyFrom_34 : decode cX7_copyFrom 34 = .ok (.iconst 0, 1) := by decide +kernel
theorem dX7_copyFrom_35 : decode cX7_copyFrom 35 = .ok (.aload_n 0, 1) := by decide +kernel
theorem dX7_copyFrom_36 : decode cX7_copyFrom 36 = .ok (.getfield 25, 3) := by decide +kernel
theorem dX7_copyFrom_39 : decode cX7_copyFrom 39 = .ok (.iconst 0, 1) := by decide +kernel
theorem dX7_copyFrom_40 : decode cX7_copyFrom 40 = .ok (.bipush 36, 2) := by decide +kernel
theorem dX7_copyFrom_42 : decode cX7_copyFrom 42 = .ok (.invokestatic 37, 3) := by decide +kernel
theorem dX7_copyFrom_45 : decode cX7_copyFrom 45 = .ok (.aload_n 1, 1) := by decide +kernel
theorem dX7_copyFrom_46 : decode cX7_copyFrom 46 = .ok (.getfield 28, 3) := by decide +kernel
theorem dX7_copyFrom_49 : decode cX7_copyFrom 49 = .ok (.iconst 0, 1) := by decide +kernel
theorem dX7_copyFrom_50 : decode cX7_copyFrom 50 = .ok (.aload_n 0, 1) := by decide +kernel
theorem dX7_copyFrom_51 : decode cX7_copyFrom 51 = .ok (.getfield 28, 3) := by decide +kernel
theorem dX7_copyFrom_54 : decode cX7_copyFrom 54 = .ok (.iconst 0, 1) := by decide +kernel
theorem dX7_copyFrom_55 : decode cX7_copyFrom 55 = .ok (.iconst 4, 1) := by decide +kernel
theorem dX7_copyFrom_56 : decode cX7_copyFrom 56 = .ok (.invokestatic 37, 3) := by decide +kernel
theorem dX7_copyFrom_59 : decode cX7_copyFrom 59 = .ok (.iconst 0, 1) := by decide +kernel
theorem dX7_copyFrom_60 : decode cX7_copyFrom 60 = .ok (.istore_n 2, 1) := by decide +kernel
theorem dX7_copyFrom_61 : decode cX7_copyFrom 61 = .ok (.iload_n 2, 1) := by decide +kernel
theorem dX7_copyFrom_62 : decode cX7_copyFrom 62 = .ok (.bipush 36, 2) := by decide +kernel
theorem dX7_copyFrom_64 : decode cX7_copyFrom 64 = .ok (.if_icmp .ge 21, 3) := by decide +kernel
theorem dX7_copyFrom_67 : decode cX7_copyFrom 67 = .ok (.aload_n 0, 1) := by decide +kernel
theorem dX7_copyFrom_68 : decode cX7_copyFrom 68 = .ok (.getfield 18, 3) := by decide +kernel
theorem dX7_copyFrom_71 : decode cX7_copyFrom 71 = .ok (.iload_n 2, 1) := by decide +kernel
theorem dX7_copyFrom_72 : decode cX7_copyFrom 72 = .ok (.aload_n 1, 1) := by decide +kernel
theorem dX7_copyFrom_73 : decode cX7_copyFrom 73 = .ok (.getfield 18, 3) := by decide +kernel
theorem dX7_copyFrom_76 : decode cX7_copyFrom 76 = .ok (.iload_n 2, 1) := by decide +kernel
theorem dX7_copyFrom_77 : decode cX7_copyFrom 77 = .ok (.baload, 1) := by decide +kernel
theorem dX7_copyFrom_78 : decode cX7_copyFrom 78 = .ok (.bastore, 1) := by decide +kernel
theorem dX7_copyFrom_79 : decode cX7_copyFrom 79 = .ok (.iinc 2 1, 3) := by decide +kernel
theorem dX7_copyFrom_82 : decode cX7_copyFrom 82 = .ok (.goto (-21), 3) := by decide +kernel
theorem dX7_copyFrom_85 : decode cX7_copyFrom 85 = .ok (.aload_n 0, 1) := by decide +kernel
theorem dX7_copyFrom_86 : decode cX7_copyFrom 86 = .ok (.aload_n 1, 1) := by decide +kernel
theorem dX7_copyFrom_87 : decode cX7_copyFrom 87 = .ok (.getfield 43, 3) := by decide +kernel
theorem dX7_copyFrom_90 : decode cX7_copyFrom 90 = .ok (.putfield 43, 3) := by decide +kernel
theorem dX7_copyFrom_93 : decode cX7_copyFrom 93 = .ok (.aload_n 0, 1) := by decide +kernel
theorem dX7_copyFrom_94 : decode cX7_copyFrom 94 = .ok (.aload_n 1, 1) := by decide +kernel
theorem dX7_copyFrom_95 : decode cX7_copyFrom 95 = .ok (.getfield 47, 3) := by decide +kernel
theorem dX7_copyFrom_98 : decode cX7_copyFrom 98 = .ok (.putfield 47, 3) := by decide +kernel
theorem dX7_copyFrom_101 : decode cX7_copyFrom 101 = .ok (.aload_n 0, 1) := by decide +kernel
theorem dX7_copyFrom_102 : decode cX7_copyFrom 102 = .ok (.aload_n 1, 1) := by decide +kernel
theorem dX7_copyFrom_103 : decode cX7_copyFrom 103 = .ok (.getfield 50, 3) := by decide +kernel
theorem dX7_copyFrom_106 : decode cX7_copyFrom 106 = .ok (.putfield 50, 3) := by decide +kernel
theorem dX7_copyFrom_109 : decode cX7_copyFrom 109 = .ok (.aload_n 0, 1) := by decide +kernel
theorem dX7_copyFrom_110 : decode cX7_copyFrom 110 = .ok (.aload_n 1, 1) := by decide +kernel
theorem dX7_copyFrom_111 : decode cX7_copyFrom 111 = .ok (.getfield 53, 3) := by decide +kernel
theorem dX7_copyFrom_114 : decode cX7_copyFrom 114 = .ok (.putfield 53, 3) := by decide +kernel
theorem dX7_copyFrom_117 : decode cX7_copyFrom 117 = .ok (.return_, 1) := by decide +kernel
theorem dX7_refusalOf_0 : decode cX7_refusalOf 0 = .ok (.getstatic 56, 3) := by decide +kernel
theorem dX7_refusalOf_3 : decode cX7_refusalOf 3 = .ok (.aload_n 1, 1) := by decide +kernel
theorem dX7_refusalOf_4 : decode cX7_refusalOf 4 = .ok (.getfield 61, 3) := by decide +kernel
theorem dX7_refusalOf_7 : decode cX7_refusalOf 7 = .ok (.invokevirtual 67, 3) := by decide +kernel
theorem dX7_refusalOf_10 : decode cX7_refusalOf 10 = .ok (.iaload, 1) := by decide +kernel
theorem dX7_refusalOf_11 : decode cX7_refusalOf 11 = .ok (.tableswitch 122 1 7 #[41, 54, 64, 74, 87, 96, 113], 41) := by decide +kernel
theorem dX7_refusalOf_52 : decode cX7_refusalOf 52 = .ok (.aload_n 0, 1) := by decide +kernel
theorem dX7_refusalOf_53 : decode cX7_refusalOf 53 = .ok (.aload_n 1, 1) := by decide +kernel
theorem dX7_refusalOf_54 : decode cX7_refusalOf 54 = .ok (.getfield 73, 3) := by decide +kernel
theorem dX7_refusalOf_57 : decode cX7_refusalOf 57 = .ok (.aload_n 1, 1) := by decide +kernel
theorem dX7_refusalOf_58 : decode cX7_refusalOf 58 = .ok (.getfield 76, 3) := by decide +kernel
theorem dX7_refusalOf_61 : decode cX7_refusalOf 61 = .ok (.invokevirtual 79, 3) := by decide +kernel
theorem dX7_refusalOf_64 : decode cX7_refusalOf 64 = .ok (.ireturn, 1) := by decide +kernel
theorem dX7_refusalOf_65 : decode cX7_refusalOf 65 = .ok (.aload_n 0, 1) := by decide +kernel
theorem dX7_refusalOf_66 : decode cX7_refusalOf 66 = .ok (.aload_n 1, 1) := by decide +kernel
theorem dX7_refusalOf_67 : decode cX7_refusalOf 67 = .ok (.getfield 73, 3) := by decide +kernel
theorem dX7_refusalOf_70 : decode cX7_refusalOf 70 = .ok (.iconst 1, 1) := by decide +kernel
theorem dX7_refusalOf_71 : decode cX7_refusalOf 71 = .ok (.invokevirtual 83, 3) := by decide +kernel
theorem dX7_refusalOf_74 : decode cX7_refusalOf 74 = .ok (.ireturn, 1) := by decide +kernel
theorem dX7_refusalOf_75 : decode cX7_refusalOf 75 = .ok (.aload_n 0, 1) := by decide +kernel
theorem dX7_refusalOf_76 : decode cX7_refusalOf 76 = .ok (.aload_n 1, 1) := by decide +kernel
theorem dX7_refusalOf_77 : decode cX7_refusalOf 77 = .ok (.getfield 73, 3) := by decide +kernel
theorem dX7_refusalOf_80 : decode cX7_refusalOf 80 = .ok (.iconst 0, 1) := by decide +kernel
theorem dX7_refusalOf_81 : decode cX7_refusalOf 81 = .ok (.invokevirtual 83, 3) := by decide +kernel
theorem dX7_refusalOf_84 : decode cX7_refusalOf 84 = .ok (.ireturn, 1) := by decide +kernel
theorem dX7_refusalOf_85 : decode cX7_refusalOf 85 = .ok (.aload_n 0, 1) := by decide +kernel
theorem dX7_refusalOf_86 : decode cX7_refusalOf 86 = .ok (.aload_n 1, 1) := by decide +kernel
theorem dX7_refusalOf_87 : decode cX7_refusalOf 87 = .ok (.getfield 73, 3) := by decide +kernel
theorem dX7_refusalOf_90 : decode cX7_refusalOf 90 = .ok (.aload_n 1, 1) := by decide +kernel
theorem dX7_refusalOf_91 : decode cX7_refusalOf 91 = .ok (.getfield 76, 3) := by decide +kernel
theorem dX7_refusalOf_94 : decode cX7_refusalOf 94 = .ok (.invokevirtual 87, 3) := by decide +kernel
theorem dX7_refusalOf_97 : decode cX7_refusalOf 97 = .ok (.ireturn, 1) := by decide +kernel
theorem dX7_refusalOf_98 : decode cX7_refusalOf 98 = .ok (.aload_n 0, 1) := by decide +kernel
theorem dX7_refusalOf_99 : decode cX7_refusalOf 99 = .ok (.aload_n 1, 1) := by decide +kernel
theorem dX7_refusalOf_100 : decode cX7_refusalOf 100 = .ok (.getfield 73, 3) := by decide +kernel
theorem dX7_refusalOf_103 : decode cX7_refusalOf 103 = .ok (.invokevirtual 90, 3) := by decide +kernel
theorem dX7_refusalOf_106 : decode cX7_refusalOf 106 = .ok (.ireturn, 1) := by decide +kernel
theorem dX7_refusalOf_107 : decode cX7_refusalOf 107 = .ok (.aload_n 0, 1) := by decide +kernel
theorem dX7_refusalOf_108 : decode cX7_refusalOf 108 = .ok (.aload_n 1, 1) := by decide +kernel
theorem dX7_refusalOf_109 : decode cX7_refusalOf 109 = .ok (.getfield 76, 3) := by decide +kernel
theorem dX7_refusalOf_112 : decode cX7_refusalOf 112 = .ok (.invokevirtual 94, 3) := by decide +kernel
theorem dX7_refusalOf_115 : decode cX7_refusalOf 115 = .ok (.ifCond .eq 7, 3) := by decide +kernel
theorem dX7_refusalOf_118 : decode cX7_refusalOf 118 = .ok (.iconst 0, 1) := by decide +kernel
theorem dX7_refusalOf_119 : decode cX7_refusalOf 119 = .ok (.goto 4, 3) := by decide +kernel
theorem dX7_refusalOf_122 : decode cX7_refusalOf 122 = .ok (.iconst (-1), 1) := by decide +kernel
theorem dX7_refusalOf_123 : decode cX7_refusalOf 123 = .ok (.ireturn, 1) := by decide +kernel
theorem dX7_refusalOf_124 : decode cX7_refusalOf 124 = .ok (.aload_n 0, 1) := by decide +kernel
theorem dX7_refusalOf_125 : decode cX7_refusalOf 125 = .ok (.aload_n 1, 1) := by decide +kernel
theorem dX7_refusalOf_126 : decode cX7_refusalOf 126 = .ok (.getfield 73, 3) := by decide +kernel
theorem dX7_refusalOf_129 : decode cX7_refusalOf 129 = .ok (.invokevirtual 98, 3) := by decide +kernel
theorem dX7_refusalOf_132 : decode cX7_refusalOf 132 = .ok (.ireturn, 1) := by decide +kernel
theorem dX7_refusalOf_133 : decode cX7_refusalOf 133 = .ok (.iconst 0, 1) := by decide +kernel
theorem dX7_refusalOf_134 : decode cX7_refusalOf 134 = .ok (.ireturn, 1) := by decide +kernel
theorem dX7_refusalOfHeight_0 : decode cX7_refusalOfHeight 0 = .ok (.iload_n 1, 1) := by decide +kernel
theorem dX7_refusalOfHeight_1 : decode cX7_refusalOfHeight 1 = .ok (.iconst (-1), 1) := by decide +kernel
theorem dX7_refusalOfHeight_2 : decode cX7_refusalOfHeight 2 = .ok (.if_icmp .ne 5, 3) := by decide +kernel
theorem dX7_refusalOfHeight_5 : decode cX7_refusalOfHeight 5 = .ok (.iconst (-1), 1) := by decide +kernel
theorem dX7_refusalOfHeight_6 : decode cX7_refusalOfHeight 6 = .ok (.ireturn, 1) := by decide +kernel
theorem dX7_refusalOfHeight_7 : decode cX7_refusalOfHeight 7 = .ok (.iload_n 2, 1) := by decide +kernel
theorem dX7_refusalOfHeight_8 : decode cX7_refusalOfHeight 8 = .ok (.ifCond .lt 9, 3) := by decide +kernel
theorem dX7_refusalOfHeight_11 : decode cX7_refusalOfHeight 11 = .ok (.iload_n 2, 1) := by decide +kernel
theorem dX7_refusalOfHeight_12 : decode cX7_refusalOfHeight 12 = .ok (.bipush 99, 2) := by decide +kernel
theorem dX7_refusalOfHeight_14 : decode cX7_refusalOfHeight 14 = .ok (.if_icmp .le 6, 3) := by decide +kernel
theorem dX7_refusalOfHeight_17 : decode cX7_refusalOfHeight 17 = .ok (.bipush (-2), 2) := by decide +kernel
theorem dX7_refusalOfHeight_19 : decode cX7_refusalOfHeight 19 = .ok (.ireturn, 1) := by decide +kernel
theorem dX7_refusalOfHeight_20 : decode cX7_refusalOfHeight 20 = .ok (.aload_n 0, 1) := by decide +kernel
theorem dX7_refusalOfHeight_21 : decode cX7_refusalOfHeight 21 = .ok (.getfield 9, 3) := by decide +kernel
theorem dX7_refusalOfHeight_24 : decode cX7_refusalOfHeight 24 = .ok (.iload_n 1, 1) := by decide +kernel
theorem dX7_refusalOfHeight_25 : decode cX7_refusalOfHeight 25 = .ok (.iaload, 1) := by decide +kernel
theorem dX7_refusalOfHeight_26 : decode cX7_refusalOfHeight 26 = .ok (.iload_n 2, 1) := by decide +kernel
theorem dX7_refusalOfHeight_27 : decode cX7_refusalOfHeight 27 = .ok (.if_icmp .ne 8, 3) := by decide +kernel
theorem dX7_refusalOfHeight_30 : decode cX7_refusalOfHeight 30 = .ok (.bipush 6, 2) := by decide +kernel
theorem dX7_refusalOfHeight_32 : decode cX7_refusalOfHeight 32 = .ok (.goto 4, 3) := by decide +kernel
theorem dX7_refusalOfHeight_35 : decode cX7_refusalOfHeight 35 = .ok (.iconst 0, 1) := by decide +kernel
theorem dX7_refusalOfHeight_36 : decode cX7_refusalOfHeight 36 = .ok (.ireturn, 1) := by decide +kernel
theorem dX7_refusalOfPegging_0 : decode cX7_refusalOfPegging 0 = .ok (.iload_n 1, 1) := by decide +kernel
theorem dX7_refusalOfPegging_1 : decode cX7_refusalOfPegging 1 = .ok (.iconst (-1), 1) := by decide +kernel
theorem dX7_refusalOfPegging_2 : decode cX7_refusalOfPegging 2 = .ok (.if_icmp .ne 5, 3) := by decide +kernel
theorem dX7_refusalOfPegging_5 : decode cX7_refusalOfPegging 5 = .ok (.iconst (-1), 1) := by decide +kernel
theorem dX7_refusalOfPegging_6 : decode cX7_refusalOfPegging 6 = .ok (.ireturn, 1) := by decide +kernel
theorem dX7_refusalOfPegging_7 : decode cX7_refusalOfPegging 7 = .ok (.aload_n 0, 1) := by decide +kernel
theorem dX7_refusalOfPegging_8 : decode cX7_refusalOfPegging 8 = .ok (.getfield 18, 3) := by decide +kernel
theorem dX7_refusalOfPegging_11 : decode cX7_refusalOfPegging 11 = .ok (.iload_n 1, 1) := by decide +kernel
theorem dX7_refusalOfPegging_12 : decode cX7_refusalOfPegging 12 = .ok (.baload, 1) := by decide +kernel
theorem dX7_refusalOfPegging_13 : decode cX7_refusalOfPegging 13 = .ok (.iload_n 2, 1) := by decide +kernel
theorem dX7_refusalOfPegging_14 : decode cX7_refusalOfPegging 14 = .ok (.if_icmp .ne 7, 3) := by decide +kernel
theorem dX7_refusalOfPegging_17 : decode cX7_refusalOfPegging 17 = .ok (.iconst 2, 1) := by decide +kernel
theorem dX7_refusalOfPegging_18 : decode cX7_refusalOfPegging 18 = .ok (.goto 4, 3) := by decide +kernel
theorem dX7_refusalOfPegging_21 : decode cX7_refusalOfPegging 21 = .ok (.iconst 0, 1) := by decide +kernel
theorem dX7_refusalOfPegging_22 : decode cX7_refusalOfPegging 22 = .ok (.ireturn, 1) := by decide +kernel
theorem dX7_refusalOfPouring_0 : decode cX7_refusalOfPouring 0 = .ok (.iload_n 1, 1) := by decide +kernel
theorem dX7_refusalOfPouring_1 : decode cX7_refusalOfPouring 1 = .ok (.iconst (-1), 1) := by decide +kernel
theorem dX7_refusalOfPouring_2 : decode cX7_refusalOfPouring 2 = .ok (.if_icmp .ne 5, 3) := by decide +kernel
theorem dX7_refusalOfPouring_5 : decode cX7_refusalOfPouring 5 = .ok (.iconst (-1), 1) := by decide +kernel
theorem dX7_refusalOfPouring_6 : decode cX7_refusalOfPouring 6 = .ok (.ireturn, 1) := by decide +kernel
theorem dX7_refusalOfPouring_7 : decode cX7_refusalOfPouring 7 = .ok (.iload_n 2, 1) := by decide +kernel
theorem dX7_refusalOfPouring_8 : decode cX7_refusalOfPouring 8 = .ok (.iconst 1, 1) := by decide +kernel
theorem dX7_refusalOfPouring_9 : decode cX7_refusalOfPouring 9 = .ok (.if_icmp .lt 9, 3) := by decide +kernel
theorem dX7_refusalOfPouring_12 : decode cX7_refusalOfPouring 12 = .ok (.iload_n 2, 1) := by decide +kernel
theorem dX7_refusalOfPouring_13 : decode cX7_refusalOfPouring 13 = .ok (.bipush 99, 2) := by decide +kernel
theorem dX7_refusalOfPouring_15 : decode cX7_refusalOfPouring 15 = .ok (.if_icmp .le 8, 3) := by decide +kernel
theorem dX7_refusalOfPouring_18 : decode cX7_refusalOfPouring 18 = .ok (.bipush (-2), 2) := by decide +kernel
theorem dX7_refusalOfPouring_20 : decode cX7_refusalOfPouring 20 = .ok (.goto 4, 3) := by decide +kernel
theorem dX7_refusalOfPouring_23 : decode cX7_refusalOfPouring 23 = .ok (.iconst 0, 1) := by decide +kernel
theorem dX7_refusalOfPouring_24 : decode cX7_refusalOfPouring 24 = .ok (.ireturn, 1) := by decide +kernel
theorem dX7_refusalOfMoth_0 : decode cX7_refusalOfMoth 0 = .ok (.iload_n 1, 1) := by decide +kernel
theorem dX7_refusalOfMoth_1 : decode cX7_refusalOfMoth 1 = .ok (.iconst (-1), 1) := by decide +kernel
theorem dX7_refusalOfMoth_2 : decode cX7_refusalOfMoth 2 = .ok (.if_icmp .ne 5, 3) := by decide +kernel
theorem dX7_refusalOfMoth_5 : decode cX7_refusalOfMoth 5 = .ok (.iconst (-1), 1) := by decide +kernel
theorem dX7_refusalOfMoth_6 : decode cX7_refusalOfMoth 6 = .ok (.ireturn, 1) := by decide +kernel
theorem dX7_refusalOfMoth_7 : decode cX7_refusalOfMoth 7 = .ok (.aload_n 0, 1) := by decide +kernel
theorem dX7_refusalOfMoth_8 : decode cX7_refusalOfMoth 8 = .ok (.getfield 43, 3) := by decide +kernel
theorem dX7_refusalOfMoth_11 : decode cX7_refusalOfMoth 11 = .ok (.iconst 4, 1) := by decide +kernel
theorem dX7_refusalOfMoth_12 : decode cX7_refusalOfMoth 12 = .ok (.if_icmp .lt 5, 3) := by decide +kernel
theorem dX7_refusalOfMoth_15 : decode cX7_refusalOfMoth 15 = .ok (.iconst 1, 1) := by decide +kernel
theorem dX7_refusalOfMoth_16 : decode cX7_refusalOfMoth 16 = .ok (.ireturn, 1) := by decide +kernel
theorem dX7_refusalOfMoth_17 : decode cX7_refusalOfMoth 17 = .ok (.aload_n 0, 1) := by decide +kernel
theorem dX7_refusalOfMoth_18 : decode cX7_refusalOfMoth 18 = .ok (.iload_n 1, 1) := by decide +kernel
theorem dX7_refusalOfMoth_19 : decode cX7_refusalOfMoth 19 = .ok (.invokevirtual 101, 3) := by decide +kernel
theorem dX7_refusalOfMoth_22 : decode cX7_refusalOfMoth 22 = .ok (.ifCond .eq 5, 3) := by decide +kernel
theorem dX7_refusalOfMoth_25 : decode cX7_refusalOfMoth 25 = .ok (.iconst 3, 1) := by decide +kernel
theorem dX7_refusalOfMoth_26 : decode cX7_refusalOfMoth 26 = .ok (.ireturn, 1) := by decide +kernel
theorem dX7_refusalOfMoth_27 : decode cX7_refusalOfMoth 27 = .ok (.aload_n 0, 1) := by decide +kernel
theorem dX7_refusalOfMoth_28 : decode cX7_refusalOfMoth 28 = .ok (.iload_n 1, 1) := by decide +kernel
theorem dX7_refusalOfMoth_29 : decode cX7_refusalOfMoth 29 = .ok (.invokevirtual 104, 3) := by decide +kernel
theorem dX7_refusalOfMoth_32 : decode cX7_refusalOfMoth 32 = .ok (.iconst (-1), 1) := by decide +kernel
theorem dX7_refusalOfMoth_33 : decode cX7_refusalOfMoth 33 = .ok (.if_icmp .eq 7, 3) := by decide +kernel
theorem dX7_refusalOfMoth_36 : decode cX7_refusalOfMoth 36 = .ok (.iconst 5, 1) := by decide +kernel
theorem dX7_refusalOfMoth_37 : decode cX7_refusalOfMoth 37 = .ok (.goto 4, 3) := by decide +kernel
theorem dX7_refusalOfMoth_40 : decode cX7_refusalOfMoth 40 = .ok (.iconst 0, 1) := by decide +kernel
theorem dX7_refusalOfMoth_41 : decode cX7_refusalOfMoth 41 = .ok (.ireturn, 1) := by decide +kernel
theorem dX7_refusalOfPatch_0 : decode cX7_refusalOfPatch 0 = .ok (.iload_n 1, 1) := by decide +kernel
theorem dX7_refusalOfPatch_1 : decode cX7_refusalOfPatch 1 = .ok (.iconst (-1), 1) := by decide +kernel
theorem dX7_refusalOfPatch_2 : decode cX7_refusalOfPatch 2 = .ok (.if_icmp .ne 5, 3) := by decide +kernel
theorem dX7_refusalOfPatch_5 : decode cX7_refusalOfPatch 5 = .ok (.iconst (-1), 1) := by decide +kernel
theorem dX7_refusalOfPatch_6 : decode cX7_refusalOfPatch 6 = .ok (.ireturn, 1) := by decide +kernel
theorem dX7_refusalOfPatch_7 : decode cX7_refusalOfPatch 7 = .ok (.aload_n 0, 1) := by decide +kernel
theorem dX7_refusalOfPatch_8 : decode cX7_refusalOfPatch 8 = .ok (.iload_n 1, 1) := by decide +kernel
theorem dX7_refusalOfPatch_9 : decode cX7_refusalOfPatch 9 = .ok (.invokevirtual 104, 3) := by decide +kernel
theorem dX7_refusalOfPatch_12 : decode cX7_refusalOfPatch 12 = .ok (.iconst (-1), 1) := by decide +kernel
theorem dX7_refusalOfPatch_13 : decode cX7_refusalOfPatch 13 = .ok (.if_icmp .eq 5, 3) := by decide +kernel
theorem dX7_refusalOfPatch_16 : decode cX7_refusalOfPatch 16 = .ok (.iconst 5, 1) := by decide +kernel
theorem dX7_refusalOfPatch_17 : decode cX7_refusalOfPatch 17 = .ok (.ireturn, 1) := by decide +kernel
theorem dX7_refusalOfPatch_18 : decode cX7_refusalOfPatch 18 = .ok (.aload_n 0, 1) := by decide +kernel
theorem dX7_refusalOfPatch_19 : decode cX7_refusalOfPatch 19 = .ok (.getfield 25, 3) := by decide +kernel
theorem dX7_refusalOfPatch_22 : decode cX7_refusalOfPatch 22 = .ok (.iload_n 1, 1) := by decide +kernel
theorem dX7_refusalOfPatch_23 : decode cX7_refusalOfPatch 23 = .ok (.iaload, 1) := by decide +kernel
theorem dX7_refusalOfPatch_24 : decode cX7_refusalOfPatch 24 = .ok (.ifCond .ne 7, 3) := by decide +kernel
theorem dX7_refusalOfPatch_27 : decode cX7_refusalOfPatch 27 = .ok (.iconst 4, 1) := by decide +kernel
theorem dX7_refusalOfPatch_28 : decode cX7_refusalOfPatch 28 = .ok (.goto 4, 3) := by decide +kernel
theorem dX7_refusalOfPatch_31 : decode cX7_refusalOfPatch 31 = .ok (.iconst 0, 1) := by decide +kernel
theorem dX7_refusalOfPatch_32 : decode cX7_refusalOfPatch 32 = .ok (.ireturn, 1) := by decide +kernel
theorem dX7_detailOf_0 : decode cX7_detailOf 0 = .ok (.iload_n 1, 1) := by decide +kernel
theorem dX7_detailOf_1 : decode cX7_detailOf 1 = .ok (.tableswitch 56 1 5 #[35, 37, 42, 42, 47], 35) := by decide +kernel
theorem dX7_detailOf_36 : decode cX7_detailOf 36 = .ok (.iconst 4, 1) := by decide +kernel
theorem dX7_detailOf_37 : decode cX7_detailOf 37 = .ok (.ireturn, 1) := by decide +kernel
theorem dX7_detailOf_38 : decode cX7_detailOf 38 = .ok (.aload_n 0, 1) := by decide +kernel
theorem dX7_detailOf_39 : decode cX7_detailOf 39 = .ok (.invokevirtual 107, 3) := by decide +kernel
theorem dX7_detailOf_42 : decode cX7_detailOf 42 = .ok (.ireturn, 1) := by decide +kernel
theorem dX7_detailOf_43 : decode cX7_detailOf 43 = .ok (.aload_n 0, 1) := by decide +kernel
theorem dX7_detailOf_44 : decode cX7_detailOf 44 = .ok (.invokevirtual 110, 3) := by decide +kernel
theorem dX7_detailOf_47 : decode cX7_detailOf 47 = .ok (.ireturn, 1) := by decide +kernel
theorem dX7_detailOf_48 : decode cX7_detailOf 48 = .ok (.aload_n 0, 1) := by decide +kernel
theorem dX7_detailOf_49 : decode cX7_detailOf 49 = .ok (.aload_n 2, 1) := by decide +kernel
theorem dX7_detailOf_50 : decode cX7_detailOf 50 = .ok (.getfield 73, 3) := by decide +kernel
theorem dX7_detailOf_53 : decode cX7_detailOf 53 = .ok (.invokevirtual 104, 3) := by decide +kernel
theorem dX7_detailOf_56 : decode cX7_detailOf 56 = .ok (.ireturn, 1) := by decide +kernel
theorem dX7_detailOf_57 : decode cX7_detailOf 57 = .ok (.aload_n 2, 1) := by decide +kernel
theorem dX7_detailOf_58 : decode cX7_detailOf 58 = .ok (.getfield 76, 3) := by decide +kernel
theorem dX7_detailOf_61 : decode cX7_detailOf 61 = .ok (.ireturn, 1) := by decide +kernel
theorem dX7_carryOut_0 : decode cX7_carryOut 0 = .ok (.getstatic 56, 3) := by decide +kernel
theorem dX7_carryOut_3 : decode cX7_carryOut 3 = .ok (.aload_n 1, 1) := by decide +kernel
theorem dX7_carryOut_4 : decode cX7_carryOut 4 = .ok (.getfield 61, 3) := by decide +kernel
theorem dX7_carryOut_7 : decode cX7_carryOut 7 = .ok (.invokevirtual 67, 3) := by decide +kernel
theorem dX7_carryOut_10 : decode cX7_carryOut 10 = .ok (.iaload, 1) := by decide +kernel
theorem dX7_carryOut_11 : decode cX7_carryOut 11 = .ok (.tableswitch 132 1 10 #[53, 66, 76, 91, 109, 118, 132, 86, 104, 127], 53) := by decide +kernel
theorem dX7_carryOut_64 : decode cX7_carryOut 64 = .ok (.aload_n 0, 1) := by decide +kernel
theorem dX7_carryOut_65 : decode cX7_carryOut 65 = .ok (.aload_n 1, 1) := by decide +kernel
theorem dX7_carryOut_66 : decode cX7_carryOut 66 = .ok (.getfield 73, 3) := by decide +kernel
theorem dX7_carryOut_69 : decode cX7_carryOut 69 = .ok (.aload_n 1, 1) := by decide +kernel
theorem dX7_carryOut_70 : decode cX7_carryOut 70 = .ok (.getfield 76, 3) := by decide +kernel
theorem dX7_carryOut_73 : decode cX7_carryOut 73 = .ok (.invokevirtual 113, 3) := by decide +kernel
theorem dX7_carryOut_76 : decode cX7_carryOut 76 = .ok (.ireturn, 1) := by decide +kernel
theorem dX7_carryOut_77 : decode cX7_carryOut 77 = .ok (.aload_n 0, 1) := by decide +kernel
theorem dX7_carryOut_78 : decode cX7_carryOut 78 = .ok (.aload_n 1, 1) := by decide +kernel
theorem dX7_carryOut_79 : decode cX7_carryOut 79 = .ok (.getfield 73, 3) := by decide +kernel
theorem dX7_carryOut_82 : decode cX7_carryOut 82 = .ok (.iconst 1, 1) := by decide +kernel
theorem dX7_carryOut_83 : decode cX7_carryOut 83 = .ok (.invokevirtual 116, 3) := by decide +kernel
theorem dX7_carryOut_86 : decode cX7_carryOut 86 = .ok (.ireturn, 1) := by decide +kernel
theorem dX7_carryOut_87 : decode cX7_carryOut 87 = .ok (.aload_n 0, 1) := by decide +kernel
theorem dX7_carryOut_88 : decode cX7_carryOut 88 = .ok (.aload_n 1, 1) := by decide +kernel
theorem dX7_carryOut_89 : decode cX7_carryOut 89 = .ok (.getfield 73, 3) := by decide +kernel
theorem dX7_carryOut_92 : decode cX7_carryOut 92 = .ok (.iconst 0, 1) := by decide +kernel
theorem dX7_carryOut_93 : decode cX7_carryOut 93 = .ok (.invokevirtual 116, 3) := by decide +kernel
theorem dX7_carryOut_96 : decode cX7_carryOut 96 = .ok (.ireturn, 1) := by decide +kernel
theorem dX7_carryOut_97 : decode cX7_carryOut 97 = .ok (.aload_n 0, 1) := by decide +kernel
theorem dX7_carryOut_98 : decode cX7_carryOut 98 = .ok (.invokevirtual 119, 3) := by decide +kernel
theorem dX7_carryOut_101 : decode cX7_carryOut 101 = .ok (.ireturn, 1) := by decide +kernel
theorem dX7_carryOut_102 : decode cX7_carryOut 102 = .ok (.aload_n 0, 1) := by decide +kernel
theorem dX7_carryOut_103 : decode cX7_carryOut 103 = .ok (.aload_n 1, 1) := by decide +kernel
theorem dX7_carryOut_104 : decode cX7_carryOut 104 = .ok (.getfield 73, 3) := by decide +kernel
theorem dX7_carryOut_107 : decode cX7_carryOut 107 = .ok (.aload_n 1, 1) := by decide +kernel
theorem dX7_carryOut_108 : decode cX7_carryOut 108 = .ok (.getfield 76, 3) := by decide +kernel
theorem dX7_carryOut_111 : decode cX7_carryOut 111 = .ok (.invokevirtual 122, 3) := by decide +kernel
theorem dX7_carryOut_114 : decode cX7_carryOut 114 = .ok (.ireturn, 1) := by decide +kernel
theorem dX7_carryOut_115 : decode cX7_carryOut 115 = .ok (.aload_n 0, 1) := by decide +kernel
theorem dX7_carryOut_116 : decode cX7_carryOut 116 = .ok (.invokevirtual 125, 3) := by decide +kernel
theorem dX7_carryOut_119 : decode cX7_carryOut 119 = .ok (.ireturn, 1) := by decide +kernel
theorem dX7_carryOut_120 : decode cX7_carryOut 120 = .ok (.aload_n 0, 1) := by decide +kernel
theorem dX7_carryOut_121 : decode cX7_carryOut 121 = .ok (.aload_n 1, 1) := by decide +kernel
theorem dX7_carryOut_122 : decode cX7_carryOut 122 = .ok (.getfield 73, 3) := by decide +kernel
theorem dX7_carryOut_125 : decode cX7_carryOut 125 = .ok (.invokevirtual 128, 3) := by decide +kernel
theorem dX7_carryOut_128 : decode cX7_carryOut 128 = .ok (.ireturn, 1) := by decide +kernel
theorem dX7_carryOut_129 : decode cX7_carryOut 129 = .ok (.aload_n 0, 1) := by decide +kernel
theorem dX7_carryOut_130 : decode cX7_carryOut 130 = .ok (.aload_n 1, 1) := by decide +kernel
theorem dX7_carryOut_131 : decode cX7_carryOut 131 = .ok (.getfield 76, 3) := by decide +kernel
theorem dX7_carryOut_134 : decode cX7_carryOut 134 = .ok (.invokevirtual 131, 3) := by decide +kernel
theorem dX7_carryOut_137 : decode cX7_carryOut 137 = .ok (.ireturn, 1) := by decide +kernel
theorem dX7_carryOut_138 : decode cX7_carryOut 138 = .ok (.aload_n 0, 1) := by decide +kernel
theorem dX7_carryOut_139 : decode cX7_carryOut 139 = .ok (.invokevirtual 134, 3) := by decide +kernel
theorem dX7_carryOut_142 : decode cX7_carryOut 142 = .ok (.ireturn, 1) := by decide +kernel
theorem dX7_carryOut_143 : decode cX7_carryOut 143 = .ok (.aload_n 0, 1) := by decide +kernel
theorem dX7_carryOut_144 : decode cX7_carryOut 144 = .ok (.aload_n 1, 1) := by decide +kernel
theorem dX7_carryOut_145 : decode cX7_carryOut 145 = .ok (.getfield 73, 3) := by decide +kernel
theorem dX7_carryOut_148 : decode cX7_carryOut 148 = .ok (.invokevirtual 137, 3) := by decide +kernel
theorem dX7_carryOut_151 : decode cX7_carryOut 151 = .ok (.ireturn, 1) := by decide +kernel
theorem dX7_replaceHeight_0 : decode cX7_replaceHeight 0 = .ok (.aload_n 0, 1) := by decide +kernel
theorem dX7_replaceHeight_1 : decode cX7_replaceHeight 1 = .ok (.getfield 9, 3) := by decide +kernel
theorem dX7_replaceHeight_4 : decode cX7_replaceHeight 4 = .ok (.iload_n 1, 1) := by decide +kernel
theorem dX7_replaceHeight_5 : decode cX7_replaceHeight 5 = .ok (.iaload, 1) := by decide +kernel
theorem dX7_replaceHeight_6 : decode cX7_replaceHeight 6 = .ok (.istore_n 3, 1) := by decide +kernel
theorem dX7_replaceHeight_7 : decode cX7_replaceHeight 7 = .ok (.aload_n 0, 1) := by decide +kernel
theorem dX7_replaceHeight_8 : decode cX7_replaceHeight 8 = .ok (.getfield 9, 3) := by decide +kernel
theorem dX7_replaceHeight_11 : decode cX7_replaceHeight 11 = .ok (.iload_n 1, 1) := by decide +kernel
theorem dX7_replaceHeight_12 : decode cX7_replaceHeight 12 = .ok (.iload_n 2, 1) := by decide +kernel
theorem dX7_replaceHeight_13 : decode cX7_replaceHeight 13 = .ok (.iastore, 1) := by decide +kernel
theorem dX7_replaceHeight_14 : decode cX7_replaceHeight 14 = .ok (.iload_n 3, 1) := by decide +kernel
theorem dX7_replaceHeight_15 : decode cX7_replaceHeight 15 = .ok (.ireturn, 1) := by decide +kernel
theorem dX7_replacePeg_0 : decode cX7_replacePeg 0 = .ok (.aload_n 0, 1) := by decide +kernel
theorem dX7_replacePeg_1 : decode cX7_replacePeg 1 = .ok (.getfield 18, 3) := by decide +kernel
theorem dX7_replacePeg_4 : decode cX7_replacePeg 4 = .ok (.iload_n 1, 1) := by decide +kernel
theorem dX7_replacePeg_5 : decode cX7_replacePeg 5 = .ok (.iload_n 2, 1) := by decide +kernel
theorem dX7_replacePeg_6 : decode cX7_replacePeg 6 = .ok (.bastore, 1) := by decide +kernel
theorem dX7_replacePeg_7 : decode cX7_replacePeg 7 = .ok (.aload_n 0, 1) := by decide +kernel
theorem dX7_replacePeg_8 : decode cX7_replacePeg 8 = .ok (.invokevirtual 107, 3) := by decide +kernel
theorem dX7_replacePeg_11 : decode cX7_replacePeg 11 = .ok (.ireturn, 1) := by decide +kernel
theorem dX7_drapeAll_0 : decode cX7_drapeAll 0 = .ok (.iconst 0, 1) := by decide +kernel
theorem dX7_drapeAll_1 : decode cX7_drapeAll 1 = .ok (.istore_n 1, 1) := by decide +kernel
theorem dX7_drapeAll_2 : decode cX7_drapeAll 2 = .ok (.iconst 0, 1) := by decide +kernel
theorem dX7_drapeAll_3 : decode cX7_drapeAll 3 = .ok (.istore_n 2, 1) := by decide +kernel
theorem dX7_drapeAll_4 : decode cX7_drapeAll 4 = .ok (.iload_n 2, 1) := by decide +kernel
theorem dX7_drapeAll_5 : decode cX7_drapeAll 5 = .ok (.bipush 36, 2) := by decide +kernel
theorem dX7_drapeAll_7 : decode cX7_drapeAll 7 = .ok (.if_icmp .ge 56, 3) := by decide +kernel
theorem dX7_drapeAll_10 : decode cX7_drapeAll 10 = .ok (.aload_n 0, 1) := by decide +kernel
theorem dX7_drapeAll_11 : decode cX7_drapeAll 11 = .ok (.getfield 15, 3) := by decide +kernel
theorem dX7_drapeAll_14 : decode cX7_drapeAll 14 = .ok (.iload_n 2, 1) := by decide +kernel
theorem dX7_drapeAll_15 : decode cX7_drapeAll 15 = .ok (.aload_n 0, 1) := by decide +kernel
theorem dX7_drapeAll_16 : decode cX7_drapeAll 16 = .ok (.getfield 18, 3) := by decide +kernel
theorem dX7_drapeAll_19 : decode cX7_drapeAll 19 = .ok (.iload_n 2, 1) := by decide +kernel
theorem dX7_drapeAll_20 : decode cX7_drapeAll 20 = .ok (.baload, 1) := by decide +kernel
theorem dX7_drapeAll_21 : decode cX7_drapeAll 21 = .ok (.ifCond .eq 12, 3) := by decide +kernel
theorem dX7_drapeAll_24 : decode cX7_drapeAll 24 = .ok (.aload_n 0, 1) := by decide +kernel
theorem dX7_drapeAll_25 : decode cX7_drapeAll 25 = .ok (.getfield 9, 3) := by decide +kernel
theorem dX7_drapeAll_28 : decode cX7_drapeAll 28 = .ok (.iload_n 2, 1) := by decide +kernel
theorem dX7_drapeAll_29 : decode cX7_drapeAll 29 = .ok (.iaload, 1) := by decide +kernel
theorem dX7_drapeAll_30 : decode cX7_drapeAll 30 = .ok (.goto 8, 3) := by decide +kernel
theorem dX7_drapeAll_33 : decode cX7_drapeAll 33 = .ok (.aload_n 0, 1) := by decide +kernel
theorem dX7_drapeAll_34 : decode cX7_drapeAll 34 = .ok (.iload_n 2, 1) := by decide +kernel
theorem dX7_drapeAll_35 : decode cX7_drapeAll 35 = .ok (.invokevirtual 140, 3) := by decide +kernel
theorem dX7_drapeAll_38 : decode cX7_drapeAll 38 = .ok (.iastore, 1) := by decide +kernel
theorem dX7_drapeAll_39 : decode cX7_drapeAll 39 = .ok (.aload_n 0, 1) := by decide +kernel
theorem dX7_drapeAll_40 : decode cX7_drapeAll 40 = .ok (.getfield 15, 3) := by decide +kernel
theorem dX7_drapeAll_43 : decode cX7_drapeAll 43 = .ok (.iload_n 2, 1) := by decide +kernel
theorem dX7_drapeAll_44 : decode cX7_drapeAll 44 = .ok (.iaload, 1) := by decide +kernel
theorem dX7_drapeAll_45 : decode cX7_drapeAll 45 = .ok (.aload_n 0, 1) := by decide +kernel
theorem dX7_drapeAll_46 : decode cX7_drapeAll 46 = .ok (.getfield 9, 3) := by decide +kernel
theorem dX7_drapeAll_49 : decode cX7_drapeAll 49 = .ok (.iload_n 2, 1) := by decide +kernel
theorem dX7_drapeAll_50 : decode cX7_drapeAll 50 = .ok (.iaload, 1) := by decide +kernel
theorem dX7_drapeAll_51 : decode cX7_drapeAll 51 = .ok (.if_icmp .eq 6, 3) := by decide +kernel
theorem dX7_drapeAll_54 : decode cX7_drapeAll 54 = .ok (.iinc 1 1, 3) := by decide +kernel
theorem dX7_drapeAll_57 : decode cX7_drapeAll 57 = .ok (.iinc 2 1, 3) := by decide +kernel
theorem dX7_drapeAll_60 : decode cX7_drapeAll 60 = .ok (.goto (-56), 3) := by decide +kernel
theorem dX7_drapeAll_63 : decode cX7_drapeAll 63 = .ok (.aload_n 0, 1) := by decide +kernel
theorem dX7_drapeAll_64 : decode cX7_drapeAll 64 = .ok (.getfield 15, 3) := by decide +kernel
theorem dX7_drapeAll_67 : decode cX7_drapeAll 67 = .ok (.iconst 0, 1) := by decide +kernel
theorem dX7_drapeAll_68 : decode cX7_drapeAll 68 = .ok (.aload_n 0, 1) := by decide +kernel
theorem dX7_drapeAll_69 : decode cX7_drapeAll 69 = .ok (.getfield 9, 3) := by decide +kernel
theorem dX7_drapeAll_72 : decode cX7_drapeAll 72 = .ok (.iconst 0, 1) := by decide +kernel
theorem dX7_drapeAll_73 : decode cX7_drapeAll 73 = .ok (.bipush 36, 2) := by decide +kernel
theorem dX7_drapeAll_75 : decode cX7_drapeAll 75 = .ok (.invokestatic 37, 3) := by decide +kernel
theorem dX7_drapeAll_78 : decode cX7_drapeAll 78 = .ok (.iload_n 1, 1) := by decide +kernel
theorem dX7_drapeAll_79 : decode cX7_drapeAll 79 = .ok (.ireturn, 1) := by decide +kernel
theorem dX7_drapedHeight_0 : decode cX7_drapedHeight 0 = .ok (.iconst 2, 1) := by decide +kernel
theorem dX7_drapedHeight_1 : decode cX7_drapedHeight 1 = .ok (.aload_n 0, 1) := by decide +kernel
theorem dX7_drapedHeight_2 : decode cX7_drapedHeight 2 = .ok (.getfield 9, 3) := by decide +kernel
theorem dX7_drapedHeight_5 : decode cX7_drapedHeight 5 = .ok (.iload_n 1, 1) := by decide +kernel
theorem dX7_drapedHeight_6 : decode cX7_drapedHeight 6 = .ok (.iaload, 1) := by decide +kernel
theorem dX7_drapedHeight_7 : decode cX7_drapedHeight 7 = .ok (.imul, 1) := by decide +kernel
theorem dX7_drapedHeight_8 : decode cX7_drapedHeight 8 = .ok (.istore_n 2, 1) := by decide +kernel
theorem dX7_drapedHeight_9 : decode cX7_drapedHeight 9 = .ok (.iconst 2, 1) := by decide +kernel
theorem dX7_drapedHeight_10 : decode cX7_drapedHeight 10 = .ok (.istore_n 3, 1) := by decide +kernel
theorem dX7_drapedHeight_11 : decode cX7_drapedHeight 11 = .ok (.iconst 0, 1) := by decide +kernel
theorem dX7_drapedHeight_12 : decode cX7_drapedHeight 12 = .ok (.istore 4, 2) := by decide +kernel
theorem dX7_drapedHeight_14 : decode cX7_drapedHeight 14 = .ok (.iload 4, 2) := by decide +kernel
theorem dX7_drapedHeight_16 : decode cX7_drapedHeight 16 = .ok (.iconst 4, 1) := by decide +kernel
theorem dX7_drapedHeight_17 : decode cX7_drapedHeight 17 = .ok (.if_icmp .ge 36, 3) := by decide +kernel
theorem dX7_drapedHeight_20 : decode cX7_drapedHeight 20 = .ok (.iload_n 1, 1) := by decide +kernel
theorem dX7_drapedHeight_21 : decode cX7_drapedHeight 21 = .ok (.iload 4, 2) := by decide +kernel
theorem dX7_drapedHeight_23 : decode cX7_drapedHeight 23 = .ok (.invokestatic 143, 3) := by decide +kernel
theorem dX7_drapedHeight_26 : decode cX7_drapedHeight 26 = .ok (.istore 5, 2) := by decide +kernel
theorem dX7_drapedHeight_28 : decode cX7_drapedHeight 28 = .ok (.iload 5, 2) := by decide +kernel
theorem dX7_drapedHeight_30 : decode cX7_drapedHeight 30 = .ok (.iconst (-1), 1) := by decide +kernel
theorem dX7_drapedHeight_31 : decode cX7_drapedHeight 31 = .ok (.if_icmp .eq 16, 3) := by decide +kernel
theorem dX7_drapedHeight_34 : decode cX7_drapedHeight 34 = .ok (.iload_n 2, 1) := by decide +kernel
theorem dX7_drapedHeight_35 : decode cX7_drapedHeight 35 = .ok (.aload_n 0, 1) := by decide +kernel
theorem dX7_drapedHeight_36 : decode cX7_drapedHeight 36 = .ok (.getfield 9, 3) := by decide +kernel
theorem dX7_drapedHeight_39 : decode cX7_drapedHeight 39 = .ok (.iload 5, 2) := by decide +kernel
theorem dX7_drapedHeight_41 : decode cX7_drapedHeight 41 = .ok (.iaload, 1) := by decide +kernel
theorem dX7_drapedHeight_42 : decode cX7_drapedHeight 42 = .ok (.iadd, 1) := by decide +kernel
theorem dX7_drapedHeight_43 : decode cX7_drapedHeight 43 = .ok (.istore_n 2, 1) := by decide +kernel
theorem dX7_drapedHeight_44 : decode cX7_drapedHeight 44 = .ok (.iinc 3 1, 3) := by decide +kernel
theorem dX7_drapedHeight_47 : decode cX7_drapedHeight 47 = .ok (.iinc 4 1, 3) := by decide +kernel
theorem dX7_drapedHeight_50 : decode cX7_drapedHeight 50 = .ok (.goto (-36), 3) := by decide +kernel
theorem dX7_drapedHeight_53 : decode cX7_drapedHeight 53 = .ok (.iload_n 2, 1) := by decide +kernel
theorem dX7_drapedHeight_54 : decode cX7_drapedHeight 54 = .ok (.iload_n 3, 1) := by decide +kernel
theorem dX7_drapedHeight_55 : decode cX7_drapedHeight 55 = .ok (.idiv, 1) := by decide +kernel
theorem dX7_drapedHeight_56 : decode cX7_drapedHeight 56 = .ok (.ireturn, 1) := by decide +kernel
theorem dX7_pourOn_0 : decode cX7_pourOn 0 = .ok (.aload_n 0, 1) := by decide +kernel
theorem dX7_pourOn_1 : decode cX7_pourOn 1 = .ok (.dup, 1) := by decide +kernel
theorem dX7_pourOn_2 : decode cX7_pourOn 2 = .ok (.getfield 50, 3) := by decide +kernel
theorem dX7_pourOn_5 : decode cX7_pourOn 5 = .ok (.iload_n 2, 1) := by decide +kernel
theorem dX7_pourOn_6 : decode cX7_pourOn 6 = .ok (.iadd, 1) := by decide +kernel
theorem dX7_pourOn_7 : decode cX7_pourOn 7 = .ok (.putfield 50, 3) := by decide +kernel
theorem dX7_pourOn_10 : decode cX7_pourOn 10 = .ok (.aload_n 0, 1) := by decide +kernel
theorem dX7_pourOn_11 : decode cX7_pourOn 11 = .ok (.iload_n 1, 1) := by decide +kernel
theorem dX7_pourOn_12 : decode cX7_pourOn 12 = .ok (.iload_n 2, 1) := by decide +kernel
theorem dX7_pourOn_13 : decode cX7_pourOn 13 = .ok (.invokevirtual 146, 3) := by decide +kernel
theorem dX7_pourOn_16 : decode cX7_pourOn 16 = .ok (.ireturn, 1) := by decide +kernel
theorem dX7_settleAll_0 : decode cX7_settleAll 0 = .ok (.iconst 0, 1) := by decide +kernel
theorem dX7_settleAll_1 : decode cX7_settleAll 1 = .ok (.istore_n 1, 1) := by decide +kernel
theorem dX7_settleAll_2 : decode cX7_settleAll 2 = .ok (.iconst 0, 1) := by decide +kernel
theorem dX7_settleAll_3 : decode cX7_settleAll 3 = .ok (.istore_n 2, 1) := by decide +kernel
theorem dX7_settleAll_4 : decode cX7_settleAll 4 = .ok (.iload_n 2, 1) := by decide +kernel
theorem dX7_settleAll_5 : decode cX7_settleAll 5 = .ok (.bipush 36, 2) := by decide +kernel
theorem dX7_settleAll_7 : decode cX7_settleAll 7 = .ok (.if_icmp .ge 32, 3) := by decide +kernel
theorem dX7_settleAll_10 : decode cX7_settleAll 10 = .ok (.aload_n 0, 1) := by decide +kernel
theorem dX7_settleAll_11 : decode cX7_settleAll 11 = .ok (.getfield 22, 3) := by decide +kernel
theorem dX7_settleAll_14 : decode cX7_settleAll 14 = .ok (.iload_n 2, 1) := by decide +kernel
theorem dX7_settleAll_15 : decode cX7_settleAll 15 = .ok (.iaload, 1) := by decide +kernel
theorem dX7_settleAll_16 : decode cX7_settleAll 16 = .ok (.istore_n 3, 1) := by decide +kernel
theorem dX7_settleAll_17 : decode cX7_settleAll 17 = .ok (.aload_n 0, 1) := by decide +kernel
theorem dX7_settleAll_18 : decode cX7_settleAll 18 = .ok (.getfield 22, 3) := by decide +kernel
theorem dX7_settleAll_21 : decode cX7_settleAll 21 = .ok (.iload_n 2, 1) := by decide +kernel
theorem dX7_settleAll_22 : decode cX7_settleAll 22 = .ok (.iconst 0, 1) := by decide +kernel
theorem dX7_settleAll_23 : decode cX7_settleAll 23 = .ok (.iastore, 1) := by decide +kernel
theorem dX7_settleAll_24 : decode cX7_settleAll 24 = .ok (.iload_n 1, 1) := by decide +kernel
theorem dX7_settleAll_25 : decode cX7_settleAll 25 = .ok (.aload_n 0, 1) := by decide +kernel
theorem dX7_settleAll_26 : decode cX7_settleAll 26 = .ok (.iload_n 2, 1) := by decide +kernel
theorem dX7_settleAll_27 : decode cX7_settleAll 27 = .ok (.iload_n 3, 1) := by decide +kernel
theorem dX7_settleAll_28 : decode cX7_settleAll 28 = .ok (.invokevirtual 146, 3) := by decide +kernel
theorem dX7_settleAll_31 : decode cX7_settleAll 31 = .ok (.iadd, 1) := by decide +kernel
theorem dX7_settleAll_32 : decode cX7_settleAll 32 = .ok (.istore_n 1, 1) := by decide +kernel
theorem dX7_settleAll_33 : decode cX7_settleAll 33 = .ok (.iinc 2 1, 3) := by decide +kernel
theorem dX7_settleAll_36 : decode cX7_settleAll 36 = .ok (.goto (-32), 3) := by decide +kernel
theorem dX7_settleAll_39 : decode cX7_settleAll 39 = .ok (.iload_n 1, 1) := by decide +kernel
theorem dX7_settleAll_40 : decode cX7_settleAll 40 = .ok (.ireturn, 1) := by decide +kernel
theorem dX7_letFlow_0 : decode cX7_letFlow 0 = .ok (.aload_n 0, 1) := by decide +kernel
theorem dX7_letFlow_1 : decode cX7_letFlow 1 = .ok (.iload_n 1, 1) := by decide +kernel
theorem dX7_letFlow_2 : decode cX7_letFlow 2 = .ok (.invokevirtual 149, 3) := by decide +kernel
theorem dX7_letFlow_5 : decode cX7_letFlow 5 = .ok (.istore_n 3, 1) := by decide +kernel
theorem dX7_letFlow_6 : decode cX7_letFlow 6 = .ok (.aload_n 0, 1) := by decide +kernel
theorem dX7_letFlow_7 : decode cX7_letFlow 7 = .ok (.iload_n 3, 1) := by decide +kernel
theorem dX7_letFlow_8 : decode cX7_letFlow 8 = .ok (.invokevirtual 101, 3) := by decide +kernel
theorem dX7_letFlow_11 : decode cX7_letFlow 11 = .ok (.ifCond .eq 15, 3) := by decide +kernel
theorem dX7_letFlow_14 : decode cX7_letFlow 14 = .ok (.aload_n 0, 1) := by decide +kernel
theorem dX7_letFlow_15 : decode cX7_letFlow 15 = .ok (.dup, 1) := by decide +kernel
theorem dX7_letFlow_16 : decode cX7_letFlow 16 = .ok (.getfield 53, 3) := by decide +kernel
theorem dX7_letFlow_19 : decode cX7_letFlow 19 = .ok (.iload_n 2, 1) := by decide +kernel
theorem dX7_letFlow_20 : decode cX7_letFlow 20 = .ok (.iadd, 1) := by decide +kernel
theorem dX7_letFlow_21 : decode cX7_letFlow 21 = .ok (.putfield 53, 3) := by decide +kernel
theorem dX7_letFlow_24 : decode cX7_letFlow 24 = .ok (.iload_n 2, 1) := by decide +kernel
theorem dX7_letFlow_25 : decode cX7_letFlow 25 = .ok (.ireturn, 1) := by decide +kernel
theorem dX7_letFlow_26 : decode cX7_letFlow 26 = .ok (.aload_n 0, 1) := by decide +kernel
theorem dX7_letFlow_27 : decode cX7_letFlow 27 = .ok (.getfield 22, 3) := by decide +kernel
theorem dX7_letFlow_30 : decode cX7_letFlow 30 = .ok (.iload_n 3, 1) := by decide +kernel
theorem dX7_letFlow_31 : decode cX7_letFlow 31 = .ok (.dup2, 1) := by decide +kernel
theorem dX7_letFlow_32 : decode cX7_letFlow 32 = .ok (.iaload, 1) := by decide +kernel
theorem dX7_letFlow_33 : decode cX7_letFlow 33 = .ok (.iload_n 2, 1) := by decide +kernel
theorem dX7_letFlow_34 : decode cX7_letFlow 34 = .ok (.iadd, 1) := by decide +kernel
theorem dX7_letFlow_35 : decode cX7_letFlow 35 = .ok (.iastore, 1) := by decide +kernel
theorem dX7_letFlow_36 : decode cX7_letFlow 36 = .ok (.iconst 0, 1) := by decide +kernel
theorem dX7_letFlow_37 : decode cX7_letFlow 37 = .ok (.ireturn, 1) := by decide +kernel
theorem dX7_letMothCome_0 : decode cX7_letMothCome 0 = .ok (.aload_n 0, 1) := by decide +kernel
theorem dX7_letMothCome_1 : decode cX7_letMothCome 1 = .ok (.getfield 43, 3) := by decide +kernel
theorem dX7_letMothCome_4 : decode cX7_letMothCome 4 = .ok (.istore_n 2, 1) := by decide +kernel
theorem dX7_letMothCome_5 : decode cX7_letMothCome 5 = .ok (.iload_n 2, 1) := by decide +kernel
theorem dX7_letMothCome_6 : decode cX7_letMothCome 6 = .ok (.iconst 4, 1) := by decide +kernel
theorem dX7_letMothCome_7 : decode cX7_letMothCome 7 = .ok (.if_icmp .ge 20, 3) := by decide +kernel
theorem dX7_letMothCome_10 : decode cX7_letMothCome 10 = .ok (.aload_n 0, 1) := by decide +kernel
theorem dX7_letMothCome_11 : decode cX7_letMothCome 11 = .ok (.getfield 28, 3) := by decide +kernel
theorem dX7_letMothCome_14 : decode cX7_letMothCome 14 = .ok (.iload_n 2, 1) := by decide +kernel
theorem dX7_letMothCome_15 : decode cX7_letMothCome 15 = .ok (.iload_n 1, 1) := by decide +kernel
theorem dX7_letMothCome_16 : decode cX7_letMothCome 16 = .ok (.iastore, 1) := by decide +kernel
theorem dX7_letMothCome_17 : decode cX7_letMothCome 17 = .ok (.aload_n 0, 1) := by decide +kernel
theorem dX7_letMothCome_18 : decode cX7_letMothCome 18 = .ok (.dup, 1) := by decide +kernel
theorem dX7_letMothCome_19 : decode cX7_letMothCome 19 = .ok (.getfield 43, 3) := by decide +kernel
theorem dX7_letMothCome_22 : decode cX7_letMothCome 22 = .ok (.iconst 1, 1) := by decide +kernel
theorem dX7_letMothCome_23 : decode cX7_letMothCome 23 = .ok (.iadd, 1) := by decide +kernel
theorem dX7_letMothCome_24 : decode cX7_letMothCome 24 = .ok (.putfield 43, 3) := by decide +kernel
theorem dX7_letMothCome_27 : decode cX7_letMothCome 27 = .ok (.iload_n 2, 1) := by decide +kernel
theorem dX7_letMothCome_28 : decode cX7_letMothCome 28 = .ok (.ireturn, 1) := by decide +kernel
theorem dX7_letMothGo_0 : decode cX7_letMothGo 0 = .ok (.iload_n 1, 1) := by decide +kernel
theorem dX7_letMothGo_1 : decode cX7_letMothGo 1 = .ok (.iconst 1, 1) := by decide +kernel
theorem dX7_letMothGo_2 : decode cX7_letMothGo 2 = .ok (.iadd, 1) := by decide +kernel
theorem dX7_letMothGo_3 : decode cX7_letMothGo 3 = .ok (.istore_n 2, 1) := by decide +kernel
theorem dX7_letMothGo_4 : decode cX7_letMothGo 4 = .ok (.iload_n 2, 1) := by decide +kernel
theorem dX7_letMothGo_5 : decode cX7_letMothGo 5 = .ok (.aload_n 0, 1) := by decide +kernel
theorem dX7_letMothGo_6 : decode cX7_letMothGo 6 = .ok (.getfield 43, 3) := by decide +kernel
theorem dX7_letMothGo_9 : decode cX7_letMothGo 9 = .ok (.if_icmp .ge 23, 3) := by decide +kernel
theorem dX7_letMothGo_12 : decode cX7_letMothGo 12 = .ok (.aload_n 0, 1) := by decide +kernel
theorem dX7_letMothGo_13 : decode cX7_letMothGo 13 = .ok (.getfield 28, 3) := by decide +kernel
theorem dX7_letMothGo_16 : decode cX7_letMothGo 16 = .ok (.iload_n 2, 1) := by decide +kernel
theorem dX7_letMothGo_17 : decode cX7_letMothGo 17 = .ok (.iconst 1, 1) := by decide +kernel
theorem dX7_letMothGo_18 : decode cX7_letMothGo 18 = .ok (.isub, 1) := by decide +kernel
theorem dX7_letMothGo_19 : decode cX7_letMothGo 19 = .ok (.aload_n 0, 1) := by decide +kernel
theorem dX7_letMothGo_20 : decode cX7_letMothGo 20 = .ok (.getfield 28, 3) := by decide +kernel
theorem dX7_letMothGo_23 : decode cX7_letMothGo 23 = .ok (.iload_n 2, 1) := by decide +kernel
theorem dX7_letMothGo_24 : decode cX7_letMothGo 24 = .ok (.iaload, 1) := by decide +kernel
theorem dX7_letMothGo_25 : decode cX7_letMothGo 25 = .ok (.iastore, 1) := by decide +kernel
theorem dX7_letMothGo_26 : decode cX7_letMothGo 26 = .ok (.iinc 2 1, 3) := by decide +kernel
theorem dX7_letMothGo_29 : decode cX7_letMothGo 29 = .ok (.goto (-25), 3) := by decide +kernel
theorem dX7_letMothGo_32 : decode cX7_letMothGo 32 = .ok (.aload_n 0, 1) := by decide +kernel
theorem dX7_letMothGo_33 : decode cX7_letMothGo 33 = .ok (.dup, 1) := by decide +kernel
theorem dX7_letMothGo_34 : decode cX7_letMothGo 34 = .ok (.getfield 43, 3) := by decide +kernel
theorem dX7_letMothGo_37 : decode cX7_letMothGo 37 = .ok (.iconst 1, 1) := by decide +kernel
theorem dX7_letMothGo_38 : decode cX7_letMothGo 38 = .ok (.isub, 1) := by decide +kernel
theorem dX7_letMothGo_39 : decode cX7_letMothGo 39 = .ok (.putfield 43, 3) := by decide +kernel
theorem dX7_letMothGo_42 : decode cX7_letMothGo 42 = .ok (.aload_n 0, 1) := by decide +kernel
theorem dX7_letMothGo_43 : decode cX7_letMothGo 43 = .ok (.getfield 43, 3) := by decide +kernel
theorem dX7_letMothGo_46 : decode cX7_letMothGo 46 = .ok (.ireturn, 1) := by decide +kernel
theorem dX7_letNightPass_0 : decode cX7_letNightPass 0 = .ok (.aload_n 0, 1) := by decide +kernel
theorem dX7_letNightPass_1 : decode cX7_letNightPass 1 = .ok (.dup, 1) := by decide +kernel
theorem dX7_letNightPass_2 : decode cX7_letNightPass 2 = .ok (.getfield 47, 3) := by decide +kernel
theorem dX7_letNightPass_5 : decode cX7_letNightPass 5 = .ok (.iconst 1, 1) := by decide +kernel
theorem dX7_letNightPass_6 : decode cX7_letNightPass 6 = .ok (.iadd, 1) := by decide +kernel
theorem dX7_letNightPass_7 : decode cX7_letNightPass 7 = .ok (.putfield 47, 3) := by decide +kernel
theorem dX7_letNightPass_10 : decode cX7_letNightPass 10 = .ok (.iconst 0, 1) := by decide +kernel
theorem dX7_letNightPass_11 : decode cX7_letNightPass 11 = .ok (.istore_n 1, 1) := by decide +kernel
theorem dX7_letNightPass_12 : decode cX7_letNightPass 12 = .ok (.iconst 0, 1) := by decide +kernel
theorem dX7_letNightPass_13 : decode cX7_letNightPass 13 = .ok (.istore_n 2, 1) := by decide +kernel
theorem dX7_letNightPass_14 : decode cX7_letNightPass 14 = .ok (.iload_n 2, 1) := by decide +kernel
theorem dX7_letNightPass_15 : decode cX7_letNightPass 15 = .ok (.aload_n 0, 1) := by decide +kernel
theorem dX7_letNightPass_16 : decode cX7_letNightPass 16 = .ok (.getfield 43, 3) := by decide +kernel
theorem dX7_letNightPass_19 : decode cX7_letNightPass 19 = .ok (.if_icmp .ge 38, 3) := by decide +kernel
theorem dX7_letNightPass_22 : decode cX7_letNightPass 22 = .ok (.aload_n 0, 1) := by decide +kernel
theorem dX7_letNightPass_23 : decode cX7_letNightPass 23 = .ok (.getfield 28, 3) := by decide +kernel
theorem dX7_letNightPass_26 : decode cX7_letNightPass 26 = .ok (.iload_n 2, 1) := by decide +kernel
theorem dX7_letNightPass_27 : decode cX7_letNightPass 27 = .ok (.aload_n 0, 1) := by decide +kernel
theorem dX7_letNightPass_28 : decode cX7_letNightPass 28 = .ok (.aload_n 0, 1) := by decide +kernel
theorem dX7_letNightPass_29 : decode cX7_letNightPass 29 = .ok (.getfield 28, 3) := by decide +kernel
theorem dX7_letNightPass_32 : decode cX7_letNightPass 32 = .ok (.iload_n 2, 1) := by decide +kernel
theorem dX7_letNightPass_33 : decode cX7_letNightPass 33 = .ok (.iaload, 1) := by decide +kernel
theorem dX7_letNightPass_34 : decode cX7_letNightPass 34 = .ok (.invokevirtual 152, 3) := by decide +kernel
theorem dX7_letNightPass_37 : decode cX7_letNightPass 37 = .ok (.iastore, 1) := by decide +kernel
theorem dX7_letNightPass_38 : decode cX7_letNightPass 38 = .ok (.iload_n 1, 1) := by decide +kernel
theorem dX7_letNightPass_39 : decode cX7_letNightPass 39 = .ok (.aload_n 0, 1) := by decide +kernel
theorem dX7_letNightPass_40 : decode cX7_letNightPass 40 = .ok (.aload_n 0, 1) := by decide +kernel
theorem dX7_letNightPass_41 : decode cX7_letNightPass 41 = .ok (.getfield 28, 3) := by decide +kernel
theorem dX7_letNightPass_44 : decode cX7_letNightPass 44 = .ok (.iload_n 2, 1) := by decide +kernel
theorem dX7_letNightPass_45 : decode cX7_letNightPass 45 = .ok (.iaload, 1) := by decide +kernel
theorem dX7_letNightPass_46 : decode cX7_letNightPass 46 = .ok (.invokevirtual 155, 3) := by decide +kernel
theorem dX7_letNightPass_49 : decode cX7_letNightPass 49 = .ok (.iadd, 1) := by decide +kernel
theorem dX7_letNightPass_50 : decode cX7_letNightPass 50 = .ok (.istore_n 1, 1) := by decide +kernel
theorem dX7_letNightPass_51 : decode cX7_letNightPass 51 = .ok (.iinc 2 1, 3) := by decide +kernel
theorem dX7_letNightPass_54 : decode cX7_letNightPass 54 = .ok (.goto (-40), 3) := by decide +kernel
theorem dX7_letNightPass_57 : decode cX7_letNightPass 57 = .ok (.iload_n 1, 1) := by decide +kernel
theorem dX7_letNightPass_58 : decode cX7_letNightPass 58 = .ok (.ireturn, 1) := by decide +kernel
theorem dX7_flightEnd_0 : decode cX7_flightEnd 0 = .ok (.iconst (-1), 1) := by decide +kernel
theorem dX7_flightEnd_1 : decode cX7_flightEnd 1 = .ok (.istore_n 2, 1) := by decide +kernel
theorem dX7_flightEnd_2 : decode cX7_flightEnd 2 = .ok (.iconst 0, 1) := by decide +kernel
theorem dX7_flightEnd_3 : decode cX7_flightEnd 3 = .ok (.istore_n 3, 1) := by decide +kernel
theorem dX7_flightEnd_4 : decode cX7_flightEnd 4 = .ok (.iload_n 3, 1) := by decide +kernel
theorem dX7_flightEnd_5 : decode cX7_flightEnd 5 = .ok (.iconst 4, 1) := by decide +kernel
theorem dX7_flightEnd_6 : decode cX7_flightEnd 6 = .ok (.if_icmp .ge 65, 3) := by decide +kernel
theorem dX7_flightEnd_9 : decode cX7_flightEnd 9 = .ok (.iload_n 1, 1) := by decide +kernel
theorem dX7_flightEnd_10 : decode cX7_flightEnd 10 = .ok (.iload_n 3, 1) := by decide +kernel
theorem dX7_flightEnd_11 : decode cX7_flightEnd 11 = .ok (.invokestatic 143, 3) := by decide +kernel
theorem dX7_flightEnd_14 : decode cX7_flightEnd 14 = .ok (.istore 4, 2) := by decide +kernel
theorem dX7_flightEnd_16 : decode cX7_flightEnd 16 = .ok (.iload 4, 2) := by decide +kernel
theorem dX7_flightEnd_18 : decode cX7_flightEnd 18 = .ok (.iconst (-1), 1) := by decide +kernel
theorem dX7_flightEnd_19 : decode cX7_flightEnd 19 = .ok (.if_icmp .eq 46, 3) := by decide +kernel
theorem dX7_flightEnd_22 : decode cX7_flightEnd 22 = .ok (.aload_n 0, 1) := by decide +kernel
theorem dX7_flightEnd_23 : decode cX7_flightEnd 23 = .ok (.iload 4, 2) := by decide +kernel
theorem dX7_flightEnd_25 : decode cX7_flightEnd 25 = .ok (.invokevirtual 101, 3) := by decide +kernel
theorem dX7_flightEnd_28 : decode cX7_flightEnd 28 = .ok (.ifCond .ne 37, 3) := by decide +kernel
theorem dX7_flightEnd_31 : decode cX7_flightEnd 31 = .ok (.aload_n 0, 1) := by decide +kernel
theorem dX7_flightEnd_32 : decode cX7_flightEnd 32 = .ok (.iload 4, 2) := by decide +kernel
theorem dX7_flightEnd_34 : decode cX7_flightEnd 34 = .ok (.invokevirtual 104, 3) := by decide +kernel
theorem dX7_flightEnd_37 : decode cX7_flightEnd 37 = .ok (.iconst (-1), 1) := by decide +kernel
theorem dX7_flightEnd_38 : decode cX7_flightEnd 38 = .ok (.if_icmp .ne 27, 3) := by decide +kernel
theorem dX7_flightEnd_41 : decode cX7_flightEnd 41 = .ok (.iload_n 2, 1) := by decide +kernel
theorem dX7_flightEnd_42 : decode cX7_flightEnd 42 = .ok (.iconst (-1), 1) := by decide +kernel
theorem dX7_flightEnd_43 : decode cX7_flightEnd 43 = .ok (.if_icmp .eq 19, 3) := by decide +kernel
theorem dX7_flightEnd_46 : decode cX7_flightEnd 46 = .ok (.aload_n 0, 1) := by decide +kernel
theorem dX7_flightEnd_47 : decode cX7_flightEnd 47 = .ok (.getfield 9, 3) := by decide +kernel
theorem dX7_flightEnd_50 : decode cX7_flightEnd 50 = .ok (.iload 4, 2) := by decide +kernel
theorem dX7_flightEnd_52 : decode cX7_flightEnd 52 = .ok (.iaload, 1) := by decide +kernel
theorem dX7_flightEnd_53 : decode cX7_flightEnd 53 = .ok (.aload_n 0, 1) := by decide +kernel
theorem dX7_flightEnd_54 : decode cX7_flightEnd 54 = .ok (.getfield 9, 3) := by decide +kernel
theorem dX7_flightEnd_57 : decode cX7_flightEnd 57 = .ok (.iload_n 2, 1) := by decide +kernel
theorem dX7_flightEnd_58 : decode cX7_flightEnd 58 = .ok (.iaload, 1) := by decide +kernel
theorem dX7_flightEnd_59 : decode cX7_flightEnd 59 = .ok (.if_icmp .le 6, 3) := by decide +kernel
theorem dX7_flightEnd_62 : decode cX7_flightEnd 62 = .ok (.iload 4, 2) := by decide +kernel
theorem dX7_flightEnd_64 : decode cX7_flightEnd 64 = .ok (.istore_n 2, 1) := by decide +kernel
theorem dX7_flightEnd_65 : decode cX7_flightEnd 65 = .ok (.iinc 3 1, 3) := by decide +kernel
theorem dX7_flightEnd_68 : decode cX7_flightEnd 68 = .ok (.goto (-64), 3) := by decide +kernel
theorem dX7_flightEnd_71 : decode cX7_flightEnd 71 = .ok (.iload_n 2, 1) := by decide +kernel
theorem dX7_flightEnd_72 : decode cX7_flightEnd 72 = .ok (.iconst (-1), 1) := by decide +kernel
theorem dX7_flightEnd_73 : decode cX7_flightEnd 73 = .ok (.if_icmp .ne 7, 3) := by decide +kernel
theorem dX7_flightEnd_76 : decode cX7_flightEnd 76 = .ok (.iload_n 1, 1) := by decide +kernel
theorem dX7_flightEnd_77 : decode cX7_flightEnd 77 = .ok (.goto 4, 3) := by decide +kernel
theorem dX7_flightEnd_80 : decode cX7_flightEnd 80 = .ok (.iload_n 2, 1) := by decide +kernel
theorem dX7_flightEnd_81 : decode cX7_flightEnd 81 = .ok (.ireturn, 1) := by decide +kernel
theorem dX7_wearDown_0 : decode cX7_wearDown 0 = .ok (.aload_n 0, 1) := by decide +kernel
theorem dX7_wearDown_1 : decode cX7_wearDown 1 = .ok (.iload_n 1, 1) := by decide +kernel
theorem dX7_wearDown_2 : decode cX7_wearDown 2 = .ok (.invokevirtual 101, 3) := by decide +kernel
theorem dX7_wearDown_5 : decode cX7_wearDown 5 = .ok (.ifCond .eq 5, 3) := by decide +kernel
theorem dX7_wearDown_8 : decode cX7_wearDown 8 = .ok (.iconst 0, 1) := by decide +kernel
theorem dX7_wearDown_9 : decode cX7_wearDown 9 = .ok (.ireturn, 1) := by decide +kernel
theorem dX7_wearDown_10 : decode cX7_wearDown 10 = .ok (.aload_n 0, 1) := by decide +kernel
theorem dX7_wearDown_11 : decode cX7_wearDown 11 = .ok (.getfield 25, 3) := by decide +kernel
theorem dX7_wearDown_14 : decode cX7_wearDown 14 = .ok (.iload_n 1, 1) := by decide +kernel
theorem dX7_wearDown_15 : decode cX7_wearDown 15 = .ok (.dup2, 1) := by decide +kernel
theorem dX7_wearDown_16 : decode cX7_wearDown 16 = .ok (.iaload, 1) := by decide +kernel
theorem dX7_wearDown_17 : decode cX7_wearDown 17 = .ok (.iconst 1, 1) := by decide +kernel
theorem dX7_wearDown_18 : decode cX7_wearDown 18 = .ok (.iadd, 1) := by decide +kernel
theorem dX7_wearDown_19 : decode cX7_wearDown 19 = .ok (.iastore, 1) := by decide +kernel
theorem dX7_wearDown_20 : decode cX7_wearDown 20 = .ok (.aload_n 0, 1) := by decide +kernel
theorem dX7_wearDown_21 : decode cX7_wearDown 21 = .ok (.iload_n 1, 1) := by decide +kernel
theorem dX7_wearDown_22 : decode cX7_wearDown 22 = .ok (.invokevirtual 101, 3) := by decide +kernel
theorem dX7_wearDown_25 : decode cX7_wearDown 25 = .ok (.ifCond .eq 7, 3) := by decide +kernel
theorem dX7_wearDown_28 : decode cX7_wearDown 28 = .ok (.iconst 1, 1) := by decide +kernel
theorem dX7_wearDown_29 : decode cX7_wearDown 29 = .ok (.goto 4, 3) := by decide +kernel
theorem dX7_wearDown_32 : decode cX7_wearDown 32 = .ok (.iconst 0, 1) := by decide +kernel
theorem dX7_wearDown_33 : decode cX7_wearDown 33 = .ok (.ireturn, 1) := by decide +kernel
theorem dX7_patchUp_0 : decode cX7_patchUp 0 = .ok (.aload_n 0, 1) := by decide +kernel
theorem dX7_patchUp_1 : decode cX7_patchUp 1 = .ok (.getfield 25, 3) := by decide +kernel
theorem dX7_patchUp_4 : decode cX7_patchUp 4 = .ok (.iload_n 1, 1) := by decide +kernel
theorem dX7_patchUp_5 : decode cX7_patchUp 5 = .ok (.iaload, 1) := by decide +kernel
theorem dX7_patchUp_6 : decode cX7_patchUp 6 = .ok (.istore_n 2, 1) := by decide +kernel
theorem dX7_patchUp_7 : decode cX7_patchUp 7 = .ok (.aload_n 0, 1) := by decide +kernel
theorem dX7_patchUp_8 : decode cX7_patchUp 8 = .ok (.getfield 25, 3) := by decide +kernel
theorem dX7_patchUp_11 : decode cX7_patchUp 11 = .ok (.iload_n 1, 1) := by decide +kernel
theorem dX7_patchUp_12 : decode cX7_patchUp 12 = .ok (.iconst 0, 1) := by decide +kernel
theorem dX7_patchUp_13 : decode cX7_patchUp 13 = .ok (.iastore, 1) := by decide +kernel
theorem dX7_patchUp_14 : decode cX7_patchUp 14 = .ok (.iload_n 2, 1) := by decide +kernel
theorem dX7_patchUp_15 : decode cX7_patchUp 15 = .ok (.ireturn, 1) := by decide +kernel
theorem dX7_hasHole_0 : decode cX7_hasHole 0 = .ok (.aload_n 0, 1) := by decide +kernel
theorem dX7_hasHole_1 : decode cX7_hasHole 1 = .ok (.getfield 25, 3) := by decide +kernel
theorem dX7_hasHole_4 : decode cX7_hasHole 4 = .ok (.iload_n 1, 1) := by decide +kernel
theorem dX7_hasHole_5 : decode cX7_hasHole 5 = .ok (.iaload, 1) := by decide +kernel
theorem dX7_hasHole_6 : decode cX7_hasHole 6 = .ok (.iconst 3, 1) := by decide +kernel
theorem dX7_hasHole_7 : decode cX7_hasHole 7 = .ok (.if_icmp .lt 7, 3) := by decide +kernel
theorem dX7_hasHole_10 : decode cX7_hasHole 10 = .ok (.iconst 1, 1) := by decide +kernel
theorem dX7_hasHole_11 : decode cX7_hasHole 11 = .ok (.goto 4, 3) := by decide +kernel
theorem dX7_hasHole_14 : decode cX7_hasHole 14 = .ok (.iconst 0, 1) := by decide +kernel
theorem dX7_hasHole_15 : decode cX7_hasHole 15 = .ok (.ireturn, 1) := by decide +kernel
theorem dX7_isMoth_0 : decode cX7_isMoth 0 = .ok (.iload_n 1, 1) := by decide +kernel
theorem dX7_isMoth_1 : decode cX7_isMoth 1 = .ok (.ifCond .lt 15, 3) := by decide +kernel
theorem dX7_isMoth_4 : decode cX7_isMoth 4 = .ok (.iload_n 1, 1) := by decide +kernel
theorem dX7_isMoth_5 : decode cX7_isMoth 5 = .ok (.aload_n 0, 1) := by decide +kernel
theorem dX7_isMoth_6 : decode cX7_isMoth 6 = .ok (.getfield 43, 3) := by decide +kernel
theorem dX7_isMoth_9 : decode cX7_isMoth 9 = .ok (.if_icmp .ge 7, 3) := by decide +kernel
theorem dX7_isMoth_12 : decode cX7_isMoth 12 = .ok (.iconst 1, 1) := by decide +kernel
theorem dX7_isMoth_13 : decode cX7_isMoth 13 = .ok (.goto 4, 3) := by decide +kernel
theorem dX7_isMoth_16 : decode cX7_isMoth 16 = .ok (.iconst 0, 1) := by decide +kernel
theorem dX7_isMoth_17 : decode cX7_isMoth 17 = .ok (.ireturn, 1) := by decide +kernel
theorem dX7_mothOn_0 : decode cX7_mothOn 0 = .ok (.iconst 0, 1) := by decide +kernel
theorem dX7_mothOn_1 : decode cX7_mothOn 1 = .ok (.istore_n 2, 1) := by decide +kernel
theorem dX7_mothOn_2 : decode cX7_mothOn 2 = .ok (.iload_n 2, 1) := by decide +kernel
theorem dX7_mothOn_3 : decode cX7_mothOn 3 = .ok (.aload_n 0, 1) := by decide +kernel
theorem dX7_mothOn_4 : decode cX7_mothOn 4 = .ok (.getfield 43, 3) := by decide +kernel
theorem dX7_mothOn_7 : decode cX7_mothOn 7 = .ok (.if_icmp .ge 21, 3) := by decide +kernel
theorem dX7_mothOn_10 : decode cX7_mothOn 10 = .ok (.aload_n 0, 1) := by decide +kernel
theorem dX7_mothOn_11 : decode cX7_mothOn 11 = .ok (.getfield 28, 3) := by decide +kernel
theorem dX7_mothOn_14 : decode cX7_mothOn 14 = .ok (.iload_n 2, 1) := by decide +kernel
theorem dX7_mothOn_15 : decode cX7_mothOn 15 = .ok (.iaload, 1) := by decide +kernel
theorem dX7_mothOn_16 : decode cX7_mothOn 16 = .ok (.iload_n 1, 1) := by decide +kernel
theorem dX7_mothOn_17 : decode cX7_mothOn 17 = .ok (.if_icmp .ne 5, 3) := by decide +kernel
theorem dX7_mothOn_20 : decode cX7_mothOn 20 = .ok (.iload_n 2, 1) := by decide +kernel
theorem dX7_mothOn_21 : decode cX7_mothOn 21 = .ok (.ireturn, 1) := by decide +kernel
theorem dX7_mothOn_22 : decode cX7_mothOn 22 = .ok (.iinc 2 1, 3) := by decide +kernel
theorem dX7_mothOn_25 : decode cX7_mothOn 25 = .ok (.goto (-23), 3) := by decide +kernel
theorem dX7_mothOn_28 : decode cX7_mothOn 28 = .ok (.iconst (-1), 1) := by decide +kernel
theorem dX7_mothOn_29 : decode cX7_mothOn 29 = .ok (.ireturn, 1) := by decide +kernel
theorem dX7_flowOf_0 : decode cX7_flowOf 0 = .ok (.aload_n 0, 1) := by decide +kernel
theorem dX7_flowOf_1 : decode cX7_flowOf 1 = .ok (.iload_n 1, 1) := by decide +kernel
theorem dX7_flowOf_2 : decode cX7_flowOf 2 = .ok (.invokevirtual 101, 3) := by decide +kernel
theorem dX7_flowOf_5 : decode cX7_flowOf 5 = .ok (.ifCond .eq 5, 3) := by decide +kernel
theorem dX7_flowOf_8 : decode cX7_flowOf 8 = .ok (.iconst (-1), 1) := by decide +kernel
theorem dX7_flowOf_9 : decode cX7_flowOf 9 = .ok (.ireturn, 1) := by decide +kernel
theorem dX7_flowOf_10 : decode cX7_flowOf 10 = .ok (.iload_n 1, 1) := by decide +kernel
theorem dX7_flowOf_11 : decode cX7_flowOf 11 = .ok (.istore_n 2, 1) := by decide +kernel
theorem dX7_flowOf_12 : decode cX7_flowOf 12 = .ok (.iconst 0, 1) := by decide +kernel
theorem dX7_flowOf_13 : decode cX7_flowOf 13 = .ok (.istore_n 3, 1) := by decide +kernel
theorem dX7_flowOf_14 : decode cX7_flowOf 14 = .ok (.iload_n 3, 1) := by decide +kernel
theorem dX7_flowOf_15 : decode cX7_flowOf 15 = .ok (.iconst 4, 1) := by decide +kernel
theorem dX7_flowOf_16 : decode cX7_flowOf 16 = .ok (.if_icmp .ge 41, 3) := by decide +kernel
theorem dX7_flowOf_19 : decode cX7_flowOf 19 = .ok (.iload_n 1, 1) := by decide +kernel
theorem dX7_flowOf_20 : decode cX7_flowOf 20 = .ok (.iload_n 3, 1) := by decide +kernel
theorem dX7_flowOf_21 : decode cX7_flowOf 21 = .ok (.invokestatic 143, 3) := by decide +kernel
theorem dX7_flowOf_24 : decode cX7_flowOf 24 = .ok (.istore 4, 2) := by decide +kernel
theorem dX7_flowOf_26 : decode cX7_flowOf 26 = .ok (.iload 4, 2) := by decide +kernel
theorem dX7_flowOf_28 : decode cX7_flowOf 28 = .ok (.iconst (-1), 1) := by decide +kernel
theorem dX7_flowOf_29 : decode cX7_flowOf 29 = .ok (.if_icmp .eq 22, 3) := by decide +kernel
theorem dX7_flowOf_32 : decode cX7_flowOf 32 = .ok (.aload_n 0, 1) := by decide +kernel
theorem dX7_flowOf_33 : decode cX7_flowOf 33 = .ok (.getfield 9, 3) := by decide +kernel
theorem dX7_flowOf_36 : decode cX7_flowOf 36 = .ok (.iload 4, 2) := by decide +kernel
theorem dX7_flowOf_38 : decode cX7_flowOf 38 = .ok (.iaload, 1) := by decide +kernel
theorem dX7_flowOf_39 : decode cX7_flowOf 39 = .ok (.aload_n 0, 1) := by decide +kernel
theorem dX7_flowOf_40 : decode cX7_flowOf 40 = .ok (.getfield 9, 3) := by decide +kernel
theorem dX7_flowOf_43 : decode cX7_flowOf 43 = .ok (.iload_n 2, 1) := by decide +kernel
theorem dX7_flowOf_44 : decode cX7_flowOf 44 = .ok (.iaload, 1) := by decide +kernel
theorem dX7_flowOf_45 : decode cX7_flowOf 45 = .ok (.if_icmp .ge 6, 3) := by decide +kernel
theorem dX7_flowOf_48 : decode cX7_flowOf 48 = .ok (.iload 4, 2) := by decide +kernel
theorem dX7_flowOf_50 : decode cX7_flowOf 50 = .ok (.istore_n 2, 1) := by decide +kernel
theorem dX7_flowOf_51 : decode cX7_flowOf 51 = .ok (.iinc 3 1, 3) := by decide +kernel
theorem dX7_flowOf_54 : decode cX7_flowOf 54 = .ok (.goto (-40), 3) := by decide +kernel
theorem dX7_flowOf_57 : decode cX7_flowOf 57 = .ok (.iload_n 2, 1) := by decide +kernel
theorem dX7_flowOf_58 : decode cX7_flowOf 58 = .ok (.iload_n 1, 1) := by decide +kernel
theorem dX7_flowOf_59 : decode cX7_flowOf 59 = .ok (.if_icmp .ne 7, 3) := by decide +kernel
theorem dX7_flowOf_62 : decode cX7_flowOf 62 = .ok (.iconst (-1), 1) := by decide +kernel
theorem dX7_flowOf_63 : decode cX7_flowOf 63 = .ok (.goto 4, 3) := by decide +kernel
theorem dX7_flowOf_66 : decode cX7_flowOf 66 = .ok (.iload_n 2, 1) := by decide +kernel
theorem dX7_flowOf_67 : decode cX7_flowOf 67 = .ok (.ireturn, 1) := by decide +kernel
theorem dX7_endOf_0 : decode cX7_endOf 0 = .ok (.iload_n 1, 1) := by decide +kernel
theorem dX7_endOf_1 : decode cX7_endOf 1 = .ok (.istore_n 2, 1) := by decide +kernel
theorem dX7_endOf_2 : decode cX7_endOf 2 = .ok (.iconst 0, 1) := by decide +kernel
theorem dX7_endOf_3 : decode cX7_endOf 3 = .ok (.istore_n 3, 1) := by decide +kernel
theorem dX7_endOf_4 : decode cX7_endOf 4 = .ok (.iload_n 3, 1) := by decide +kernel
theorem dX7_endOf_5 : decode cX7_endOf 5 = .ok (.bipush 36, 2) := by decide +kernel
theorem dX7_endOf_7 : decode cX7_endOf 7 = .ok (.if_icmp .ge 27, 3) := by decide +kernel
theorem dX7_endOf_10 : decode cX7_endOf 10 = .ok (.aload_n 0, 1) := by decide +kernel
theorem dX7_endOf_11 : decode cX7_endOf 11 = .ok (.iload_n 2, 1) := by decide +kernel
theorem dX7_endOf_12 : decode cX7_endOf 12 = .ok (.invokevirtual 158, 3) := by decide +kernel
theorem dX7_endOf_15 : decode cX7_endOf 15 = .ok (.istore 4, 2) := by decide +kernel
theorem dX7_endOf_17 : decode cX7_endOf 17 = .ok (.iload 4, 2) := by decide +kernel
theorem dX7_endOf_19 : decode cX7_endOf 19 = .ok (.iconst (-1), 1) := by decide +kernel
theorem dX7_endOf_20 : decode cX7_endOf 20 = .ok (.if_icmp .ne 5, 3) := by decide +kernel
theorem dX7_endOf_23 : decode cX7_endOf 23 = .ok (.iload_n 2, 1) := by decide +kernel
theorem dX7_endOf_24 : decode cX7_endOf 24 = .ok (.ireturn, 1) := by decide +kernel
theorem dX7_endOf_25 : decode cX7_endOf 25 = .ok (.iload 4, 2) := by decide +kernel
theorem dX7_endOf_27 : decode cX7_endOf 27 = .ok (.istore_n 2, 1) := by decide +kernel
theorem dX7_endOf_28 : decode cX7_endOf 28 = .ok (.iinc 3 1, 3) := by decide +kernel
theorem dX7_endOf_31 : decode cX7_endOf 31 = .ok (.goto (-27), 3) := by decide +kernel
theorem dX7_endOf_34 : decode cX7_endOf 34 = .ok (.iload_n 2, 1) := by decide +kernel
theorem dX7_endOf_35 : decode cX7_endOf 35 = .ok (.ireturn, 1) := by decide +kernel
theorem dX7_difference_0 : decode cX7_difference 0 = .ok (.aload_n 0, 1) := by decide +kernel
theorem dX7_difference_1 : decode cX7_difference 1 = .ok (.getfield 9, 3) := by decide +kernel
theorem dX7_difference_4 : decode cX7_difference 4 = .ok (.iload_n 1, 1) := by decide +kernel
theorem dX7_difference_5 : decode cX7_difference 5 = .ok (.iaload, 1) := by decide +kernel
theorem dX7_difference_6 : decode cX7_difference 6 = .ok (.aload_n 0, 1) := by decide +kernel
theorem dX7_difference_7 : decode cX7_difference 7 = .ok (.getfield 9, 3) := by decide +kernel
theorem dX7_difference_10 : decode cX7_difference 10 = .ok (.iload_n 2, 1) := by decide +kernel
theorem dX7_difference_11 : decode cX7_difference 11 = .ok (.iaload, 1) := by decide +kernel
theorem dX7_difference_12 : decode cX7_difference 12 = .ok (.isub, 1) := by decide +kernel
theorem dX7_difference_13 : decode cX7_difference 13 = .ok (.invokestatic 161, 3) := by decide +kernel
theorem dX7_difference_16 : decode cX7_difference 16 = .ok (.ireturn, 1) := by decide +kernel
theorem dX7_meanDifference_0 : decode cX7_meanDifference 0 = .ok (.iconst 0, 1) := by decide +kernel
theorem dX7_meanDifference_1 : decode cX7_meanDifference 1 = .ok (.istore_n 2, 1) := by decide +kernel
theorem dX7_meanDifference_2 : decode cX7_meanDifference 2 = .ok (.iconst 0, 1) := by decide +kernel
theorem dX7_meanDifference_3 : decode cX7_meanDifference 3 = .ok (.istore_n 3, 1) := by decide +kernel
theorem dX7_meanDifference_4 : decode cX7_meanDifference 4 = .ok (.iconst 0, 1) := by decide +kernel
theorem dX7_meanDifference_5 : decode cX7_meanDifference 5 = .ok (.istore 4, 2) := by decide +kernel
theorem dX7_meanDifference_7 : decode cX7_meanDifference 7 = .ok (.iload 4, 2) := by decide +kernel
theorem dX7_meanDifference_9 : decode cX7_meanDifference 9 = .ok (.iconst 4, 1) := by decide +kernel
theorem dX7_meanDifference_10 : decode cX7_meanDifference 10 = .ok (.if_icmp .ge 36, 3) := by decide +kernel
theorem dX7_meanDifference_13 : decode cX7_meanDifference 13 = .ok (.iload_n 1, 1) := by decide +kernel
theorem dX7_meanDifference_14 : decode cX7_meanDifference 14 = .ok (.iload 4, 2) := by decide +kernel
theorem dX7_meanDifference_16 : decode cX7_meanDifference 16 = .ok (.invokestatic 143, 3) := by decide +kernel
theorem dX7_meanDifference_19 : decode cX7_meanDifference 19 = .ok (.istore 5, 2) := by decide +kernel
theorem dX7_meanDifference_21 : decode cX7_meanDifference 21 = .ok (.iload 5, 2) := by decide +kernel
theorem dX7_meanDifference_23 : decode cX7_meanDifference 23 = .ok (.iconst (-1), 1) := by decide +kernel
theorem dX7_meanDifference_24 : decode cX7_meanDifference 24 = .ok (.if_icmp .eq 16, 3) := by decide +kernel
theorem dX7_meanDifference_27 : decode cX7_meanDifference 27 = .ok (.iload_n 2, 1) := by decide +kernel
theorem dX7_meanDifference_28 : decode cX7_meanDifference 28 = .ok (.aload_n 0, 1) := by decide +kernel
theorem dX7_meanDifference_29 : decode cX7_meanDifference 29 = .ok (.iload_n 1, 1) := by decide +kernel
theorem dX7_meanDifference_30 : decode cX7_meanDifference 30 = .ok (.iload 5, 2) := by decide +kernel
theorem dX7_meanDifference_32 : decode cX7_meanDifference 32 = .ok (.invokevirtual 166, 3) := by decide +kernel
theorem dX7_meanDifference_35 : decode cX7_meanDifference 35 = .ok (.iadd, 1) := by decide +kernel
theorem dX7_meanDifference_36 : decode cX7_meanDifference 36 = .ok (.istore_n 2, 1) := by decide +kernel
theorem dX7_meanDifference_37 : decode cX7_meanDifference 37 = .ok (.iinc 3 1, 3) := by decide +kernel
theorem dX7_meanDifference_40 : decode cX7_meanDifference 40 = .ok (.iinc 4 1, 3) := by decide +kernel
theorem dX7_meanDifference_43 : decode cX7_meanDifference 43 = .ok (.goto (-36), 3) := by decide +kernel
theorem dX7_meanDifference_46 : decode cX7_meanDifference 46 = .ok (.iload_n 3, 1) := by decide +kernel
theorem dX7_meanDifference_47 : decode cX7_meanDifference 47 = .ok (.ifCond .ne 7, 3) := by decide +kernel
theorem dX7_meanDifference_50 : decode cX7_meanDifference 50 = .ok (.fconst 0, 1) := by decide +kernel
theorem dX7_meanDifference_51 : decode cX7_meanDifference 51 = .ok (.goto 8, 3) := by decide +kernel
theorem dX7_meanDifference_54 : decode cX7_meanDifference 54 = .ok (.iload_n 2, 1) := by decide +kernel
theorem dX7_meanDifference_55 : decode cX7_meanDifference 55 = .ok (.i2f, 1) := by decide +kernel
theorem dX7_meanDifference_56 : decode cX7_meanDifference 56 = .ok (.iload_n 3, 1) := by decide +kernel
theorem dX7_meanDifference_57 : decode cX7_meanDifference 57 = .ok (.i2f, 1) := by decide +kernel
theorem dX7_meanDifference_58 : decode cX7_meanDifference 58 = .ok (.fdiv, 1) := by decide +kernel
theorem dX7_meanDifference_59 : decode cX7_meanDifference 59 = .ok (.freturn, 1) := by decide +kernel
theorem dX7_countPegs_0 : decode cX7_countPegs 0 = .ok (.iconst 0, 1) := by decide +kernel
theorem dX7_countPegs_1 : decode cX7_countPegs 1 = .ok (.istore_n 1, 1) := by decide +kernel
theorem dX7_countPegs_2 : decode cX7_countPegs 2 = .ok (.iconst 0, 1) := by decide +kernel
theorem dX7_countPegs_3 : decode cX7_countPegs 3 = .ok (.istore_n 2, 1) := by decide +kernel
theorem dX7_countPegs_4 : decode cX7_countPegs 4 = .ok (.iload_n 2, 1) := by decide +kernel
theorem dX7_countPegs_5 : decode cX7_countPegs 5 = .ok (.bipush 36, 2) := by decide +kernel
theorem dX7_countPegs_7 : decode cX7_countPegs 7 = .ok (.if_icmp .ge 21, 3) := by decide +kernel
theorem dX7_countPegs_10 : decode cX7_countPegs 10 = .ok (.aload_n 0, 1) := by decide +kernel
theorem dX7_countPegs_11 : decode cX7_countPegs 11 = .ok (.getfield 18, 3) := by decide +kernel
theorem dX7_countPegs_14 : decode cX7_countPegs 14 = .ok (.iload_n 2, 1) := by decide +kernel
theorem dX7_countPegs_15 : decode cX7_countPegs 15 = .ok (.baload, 1) := by decide +kernel
theorem dX7_countPegs_16 : decode cX7_countPegs 16 = .ok (.ifCond .eq 6, 3) := by decide +kernel
theorem dX7_countPegs_19 : decode cX7_countPegs 19 = .ok (.iinc 1 1, 3) := by decide +kernel
theorem dX7_countPegs_22 : decode cX7_countPegs 22 = .ok (.iinc 2 1, 3) := by decide +kernel
theorem dX7_countPegs_25 : decode cX7_countPegs 25 = .ok (.goto (-21), 3) := by decide +kernel
theorem dX7_countPegs_28 : decode cX7_countPegs 28 = .ok (.iload_n 1, 1) := by decide +kernel
theorem dX7_countPegs_29 : decode cX7_countPegs 29 = .ok (.ireturn, 1) := by decide +kernel
theorem dX7_countHoles_0 : decode cX7_countHoles 0 = .ok (.iconst 0, 1) := by decide +kernel
theorem dX7_countHoles_1 : decode cX7_countHoles 1 = .ok (.istore_n 1, 1) := by decide +kernel
theorem dX7_countHoles_2 : decode cX7_countHoles 2 = .ok (.iconst 0, 1) := by decide +kernel
theorem dX7_countHoles_3 : decode cX7_countHoles 3 = .ok (.istore_n 2, 1) := by decide +kernel
theorem dX7_countHoles_4 : decode cX7_countHoles 4 = .ok (.iload_n 2, 1) := by decide +kernel
theorem dX7_countHoles_5 : decode cX7_countHoles 5 = .ok (.bipush 36, 2) := by decide +kernel
theorem dX7_countHoles_7 : decode cX7_countHoles 7 = .ok (.if_icmp .ge 20, 3) := by decide +kernel
theorem dX7_countHoles_10 : decode cX7_countHoles 10 = .ok (.aload_n 0, 1) := by decide +kernel
theorem dX7_countHoles_11 : decode cX7_countHoles 11 = .ok (.iload_n 2, 1) := by decide +kernel
theorem dX7_countHoles_12 : decode cX7_countHoles 12 = .ok (.invokevirtual 101, 3) := by decide +kernel
theorem dX7_countHoles_15 : decode cX7_countHoles 15 = .ok (.ifCond .eq 6, 3) := by decide +kernel
theorem dX7_countHoles_18 : decode cX7_countHoles 18 = .ok (.iinc 1 1, 3) := by decide +kernel
theorem dX7_countHoles_21 : decode cX7_countHoles 21 = .ok (.iinc 2 1, 3) := by decide +kernel
theorem dX7_countHoles_24 : decode cX7_countHoles 24 = .ok (.goto (-20), 3) := by decide +kernel
theorem dX7_countHoles_27 : decode cX7_countHoles 27 = .ok (.iload_n 1, 1) := by decide +kernel
theorem dX7_countHoles_28 : decode cX7_countHoles 28 = .ok (.ireturn, 1) := by decide +kernel
theorem dX7_sumOfWater_0 : decode cX7_sumOfWater 0 = .ok (.iconst 0, 1) := by decide +kernel
theorem dX7_sumOfWater_1 : decode cX7_sumOfWater 1 = .ok (.istore_n 1, 1) := by decide +kernel
theorem dX7_sumOfWater_2 : decode cX7_sumOfWater 2 = .ok (.iconst 0, 1) := by decide +kernel
theorem dX7_sumOfWater_3 : decode cX7_sumOfWater 3 = .ok (.istore_n 2, 1) := by decide +kernel
theorem dX7_sumOfWater_4 : decode cX7_sumOfWater 4 = .ok (.iload_n 2, 1) := by decide +kernel
theorem dX7_sumOfWater_5 : decode cX7_sumOfWater 5 = .ok (.bipush 36, 2) := by decide +kernel
theorem dX7_sumOfWater_7 : decode cX7_sumOfWater 7 = .ok (.if_icmp .ge 18, 3) := by decide +kernel
theorem dX7_sumOfWater_10 : decode cX7_sumOfWater 10 = .ok (.iload_n 1, 1) := by decide +kernel
theorem dX7_sumOfWater_11 : decode cX7_sumOfWater 11 = .ok (.aload_n 0, 1) := by decide +kernel
theorem dX7_sumOfWater_12 : decode cX7_sumOfWater 12 = .ok (.getfield 22, 3) := by decide +kernel
theorem dX7_sumOfWater_15 : decode cX7_sumOfWater 15 = .ok (.iload_n 2, 1) := by decide +kernel
theorem dX7_sumOfWater_16 : decode cX7_sumOfWater 16 = .ok (.iaload, 1) := by decide +kernel
theorem dX7_sumOfWater_17 : decode cX7_sumOfWater 17 = .ok (.iadd, 1) := by decide +kernel
theorem dX7_sumOfWater_18 : decode cX7_sumOfWater 18 = .ok (.istore_n 1, 1) := by decide +kernel
theorem dX7_sumOfWater_19 : decode cX7_sumOfWater 19 = .ok (.iinc 2 1, 3) := by decide +kernel
theorem dX7_sumOfWater_22 : decode cX7_sumOfWater 22 = .ok (.goto (-18), 3) := by decide +kernel
theorem dX7_sumOfWater_25 : decode cX7_sumOfWater 25 = .ok (.iload_n 1, 1) := by decide +kernel
theorem dX7_sumOfWater_26 : decode cX7_sumOfWater 26 = .ok (.ireturn, 1) := by decide +kernel
theorem dX7_sumOfHeights_0 : decode cX7_sumOfHeights 0 = .ok (.iconst 0, 1) := by decide +kernel
theorem dX7_sumOfHeights_1 : decode cX7_sumOfHeights 1 = .ok (.istore_n 1, 1) := by decide +kernel
theorem dX7_sumOfHeights_2 : decode cX7_sumOfHeights 2 = .ok (.iconst 0, 1) := by decide +kernel
theorem dX7_sumOfHeights_3 : decode cX7_sumOfHeights 3 = .ok (.istore_n 2, 1) := by decide +kernel
theorem dX7_sumOfHeights_4 : decode cX7_sumOfHeights 4 = .ok (.iload_n 2, 1) := by decide +kernel
theorem dX7_sumOfHeights_5 : decode cX7_sumOfHeights 5 = .ok (.bipush 36, 2) := by decide +kernel
theorem dX7_sumOfHeights_7 : decode cX7_sumOfHeights 7 = .ok (.if_icmp .ge 18, 3) := by decide +kernel
theorem dX7_sumOfHeights_10 : decode cX7_sumOfHeights 10 = .ok (.iload_n 1, 1) := by decide +kernel
theorem dX7_sumOfHeights_11 : decode cX7_sumOfHeights 11 = .ok (.aload_n 0, 1) := by decide +kernel
theorem dX7_sumOfHeights_12 : decode cX7_sumOfHeights 12 = .ok (.getfield 9, 3) := by decide +kernel
theorem dX7_sumOfHeights_15 : decode cX7_sumOfHeights 15 = .ok (.iload_n 2, 1) := by decide +kernel
theorem dX7_sumOfHeights_16 : decode cX7_sumOfHeights 16 = .ok (.iaload, 1) := by decide +kernel
theorem dX7_sumOfHeights_17 : decode cX7_sumOfHeights 17 = .ok (.iadd, 1) := by decide +kernel
theorem dX7_sumOfHeights_18 : decode cX7_sumOfHeights 18 = .ok (.istore_n 1, 1) := by decide +kernel
theorem dX7_sumOfHeights_19 : decode cX7_sumOfHeights 19 = .ok (.iinc 2 1, 3) := by decide +kernel
theorem dX7_sumOfHeights_22 : decode cX7_sumOfHeights 22 = .ok (.goto (-18), 3) := by decide +kernel
theorem dX7_sumOfHeights_25 : decode cX7_sumOfHeights 25 = .ok (.iload_n 1, 1) := by decide +kernel
theorem dX7_sumOfHeights_26 : decode cX7_sumOfHeights 26 = .ok (.ireturn, 1) := by decide +kernel
theorem dX8_init_0 : decode cX8_init 0 = .ok (.aload_n 0, 1) := by decide +kernel
theorem dX8_init_1 : decode cX8_init 1 = .ok (.invokespecial 3, 3) := by decide +kernel
theorem dX8_init_4 : decode cX8_init 4 = .ok (.aload_n 0, 1) := by decide +kernel
theorem dX8_init_5 : decode cX8_init 5 = .ok (.new 9, 3) := by decide +kernel
theorem dX8_init_8 : decode cX8_init 8 = .ok (.dup, 1) := by decide +kernel
theorem dX8_init_9 : decode cX8_init 9 = .ok (.invokespecial 11, 3) := by decide +kernel
theorem dX8_init_12 : decode cX8_init 12 = .ok (.putfield 12, 3) := by decide +kernel
theorem dX8_init_15 : decode cX8_init 15 = .ok (.aload_n 0, 1) := by decide +kernel
theorem dX8_init_16 : decode cX8_init 16 = .ok (.bipush 36, 2) := by decide +kernel
theorem dX8_init_18 : decode cX8_init 18 = .ok (.newarray .int, 2) := by decide +kernel
theorem dX8_init_20 : decode cX8_init 20 = .ok (.putfield 18, 3) := by decide +kernel
theorem dX8_init_23 : decode cX8_init 23 = .ok (.return_, 1) := by decide +kernel
theorem dX8_byQueue_0 : decode cX8_byQueue 0 = .ok (.aload_n 0, 1) := by decide +kernel
theorem dX8_byQueue_1 : decode cX8_byQueue 1 = .ok (.aload_n 1, 1) := by decide +kernel
theorem dX8_byQueue_2 : decode cX8_byQueue 2 = .ok (.invokevirtual 22, 3) := by decide +kernel
theorem dX8_byQueue_5 : decode cX8_byQueue 5 = .ok (.aload_n 0, 1) := by decide +kernel
theorem dX8_byQueue_6 : decode cX8_byQueue 6 = .ok (.getfield 18, 3) := by decide +kernel
theorem dX8_byQueue_9 : decode cX8_byQueue 9 = .ok (.iload_n 2, 1) := by decide +kernel
theorem dX8_byQueue_10 : decode cX8_byQueue 10 = .ok (.iaload, 1) := by decide +kernel
theorem dX8_byQueue_11 : decode cX8_byQueue 11 = .ok (.ireturn, 1) := by decide +kernel
theorem dX8_byRounds_0 : decode cX8_byRounds 0 = .ok (.aload_n 0, 1) := by decide +kernel
theorem dX8_byRounds_1 : decode cX8_byRounds 1 = .ok (.aload_n 1, 1) := by decide +kernel
theorem dX8_byRounds_2 : decode cX8_byRounds 2 = .ok (.invokevirtual 26, 3) := by decide +kernel
theorem dX8_byRounds_5 : decode cX8_byRounds 5 = .ok (.iconst 1, 1) := by decide +kernel
theorem dX8_byRounds_6 : decode cX8_byRounds 6 = .ok (.istore_n 3, 1) := by decide +kernel
theorem dX8_byRounds_7 : decode cX8_byRounds 7 = .ok (.iconst 0, 1) := by decide +kernel
theorem dX8_byRounds_8 : decode cX8_byRounds 8 = .ok (.istore 4, 2) := by decide +kernel
theorem dX8_byRounds_10 : decode cX8_byRounds 10 = .ok (.iload 4, 2) := by decide +kernel
theorem dX8_byRounds_12 : decode cX8_byRounds 12 = .ok (.bipush 36, 2) := by decide +kernel
theorem dX8_byRounds_14 : decode cX8_byRounds 14 = .ok (.if_icmp .ge 19, 3) := by decide +kernel
theorem dX8_byRounds_17 : decode cX8_byRounds 17 = .ok (.iload_n 3, 1) := by decide +kernel
theorem dX8_byRounds_18 : decode cX8_byRounds 18 = .ok (.ifCond .eq 15, 3) := by decide +kernel
theorem dX8_byRounds_21 : decode cX8_byRounds 21 = .ok (.aload_n 0, 1) := by decide +kernel
theorem dX8_byRounds_22 : decode cX8_byRounds 22 = .ok (.aload_n 1, 1) := by decide +kernel
theorem dX8_byRounds_23 : decode cX8_byRounds 23 = .ok (.invokevirtual 29, 3) := by decide +kernel
theorem dX8_byRounds_26 : decode cX8_byRounds 26 = .ok (.istore_n 3, 1) := by decide +kernel
theorem dX8_byRounds_27 : decode cX8_byRounds 27 = .ok (.iinc 4 1, 3) := by decide +kernel
theorem dX8_byRounds_30 : decode cX8_byRounds 30 = .ok (.goto (-20), 3) := by decide +kernel
theorem dX8_byRounds_33 : decode cX8_byRounds 33 = .ok (.aload_n 0, 1) := by decide +kernel
theorem dX8_byRounds_34 : decode cX8_byRounds 34 = .ok (.getfield 18, 3) := by decide +kernel
theorem dX8_byRounds_37 : decode cX8_byRounds 37 = .ok (.iload_n 2, 1) := by decide +kernel
theorem dX8_byRounds_38 : decode cX8_byRounds 38 = .ok (.iaload, 1) := by decide +kernel
theorem dX8_byRounds_39 : decode cX8_byRounds 39 = .ok (.ireturn, 1) := by decide +kernel
theorem dX8_volume_0 : decode cX8_volume 0 = .ok (.aload_n 0, 1) := by decide +kernel
theorem dX8_volume_1 : decode cX8_volume 1 = .ok (.aload_n 1, 1) := by decide +kernel
theorem dX8_volume_2 : decode cX8_volume 2 = .ok (.invokevirtual 22, 3) := by decide +kernel
theorem dX8_volume_5 : decode cX8_volume 5 = .ok (.iconst 0, 1) := by decide +kernel
theorem dX8_volume_6 : decode cX8_volume 6 = .ok (.istore_n 2, 1) := by decide +kernel
theorem dX8_volume_7 : decode cX8_volume 7 = .ok (.iconst 0, 1) := by decide +kernel
theorem dX8_volume_8 : decode cX8_volume 8 = .ok (.istore_n 3, 1) := by decide +kernel
theorem dX8_volume_9 : decode cX8_volume 9 = .ok (.iload_n 3, 1) := by decide +kernel
theorem dX8_volume_10 : decode cX8_volume 10 = .ok (.bipush 36, 2) := by decide +kernel
theorem dX8_volume_12 : decode cX8_volume 12 = .ok (.if_icmp .ge 25, 3) := by decide +kernel
theorem dX8_volume_15 : decode cX8_volume 15 = .ok (.iload_n 2, 1) := by decide +kernel
theorem dX8_volume_16 : decode cX8_volume 16 = .ok (.aload_n 0, 1) := by decide +kernel
theorem dX8_volume_17 : decode cX8_volume 17 = .ok (.getfield 18, 3) := by decide +kernel
theorem dX8_volume_20 : decode cX8_volume 20 = .ok (.iload_n 3, 1) := by decide +kernel
theorem dX8_volume_21 : decode cX8_volume 21 = .ok (.iaload, 1) := by decide +kernel
theorem dX8_volume_22 : decode cX8_volume 22 = .ok (.aload_n 1, 1) := by decide +kernel
theorem dX8_volume_23 : decode cX8_volume 23 = .ok (.getfield 33, 3) := by decide +kernel
theorem dX8_volume_26 : decode cX8_volume 26 = .ok (.iload_n 3, 1) := by decide +kernel
theorem dX8_volume_27 : decode cX8_volume 27 = .ok (.iaload, 1) := by decide +kernel
theorem dX8_volume_28 : decode cX8_volume 28 = .ok (.isub, 1) := by decide +kernel
theorem dX8_volume_29 : decode cX8_volume 29 = .ok (.iadd, 1) := by decide +kernel
theorem dX8_volume_30 : decode cX8_volume 30 = .ok (.istore_n 2, 1) := by decide +kernel
theorem dX8_volume_31 : decode cX8_volume 31 = .ok (.iinc 3 1, 3) := by decide +kernel
theorem dX8_volume_34 : decode cX8_volume 34 = .ok (.goto (-25), 3) := by decide +kernel
theorem dX8_volume_37 : decode cX8_volume 37 = .ok (.iload_n 2, 1) := by decide +kernel
theorem dX8_volume_38 : decode cX8_volume 38 = .ok (.ireturn, 1) := by decide +kernel
theorem dX8_beginAtExits_0 : decode cX8_beginAtExits 0 = .ok (.iconst 0, 1) := by decide +kernel
theorem dX8_beginAtExits_1 : decode cX8_beginAtExits 1 = .ok (.istore_n 2, 1) := by decide +kernel
theorem dX8_beginAtExits_2 : decode cX8_beginAtExits 2 = .ok (.iload_n 2, 1) := by decide +kernel
theorem dX8_beginAtExits_3 : decode cX8_beginAtExits 3 = .ok (.bipush 36, 2) := by decide +kernel
theorem dX8_beginAtExits_5 : decode cX8_beginAtExits 5 = .ok (.if_icmp .ge 51, 3) := by decide +kernel
theorem dX8_beginAtExits_8 : decode cX8_beginAtExits 8 = .ok (.iload_n 2, 1) := by decide +kernel
theorem dX8_beginAtExits_9 : decode cX8_beginAtExits 9 = .ok (.invokestatic 38, 3) := by decide +kernel
theorem dX8_beginAtExits_12 : decode cX8_beginAtExits 12 = .ok (.ifCond .ne 11, 3) := by decide +kernel
theorem dX8_beginAtExits_15 : decode cX8_beginAtExits 15 = .ok (.aload_n 1, 1) := by decide +kernel
theorem dX8_beginAtExits_16 : decode cX8_beginAtExits 16 = .ok (.iload_n 2, 1) := by decide +kernel
theorem dX8_beginAtExits_17 : decode cX8_beginAtExits 17 = .ok (.invokevirtual 42, 3) := by decide +kernel
theorem dX8_beginAtExits_20 : decode cX8_beginAtExits 20 = .ok (.ifCond .eq 7, 3) := by decide +kernel
theorem dX8_beginAtExits_23 : decode cX8_beginAtExits 23 = .ok (.iconst 1, 1) := by decide +kernel
theorem dX8_beginAtExits_24 : decode cX8_beginAtExits 24 = .ok (.goto 4, 3) := by decide +kernel
theorem dX8_beginAtExits_27 : decode cX8_beginAtExits 27 = .ok (.iconst 0, 1) := by decide +kernel
theorem dX8_beginAtExits_28 : decode cX8_beginAtExits 28 = .ok (.istore_n 3, 1) := by decide +kernel
theorem dX8_beginAtExits_29 : decode cX8_beginAtExits 29 = .ok (.aload_n 0, 1) := by decide +kernel
theorem dX8_beginAtExits_30 : decode cX8_beginAtExits 30 = .ok (.getfield 18, 3) := by decide +kernel
theorem dX8_beginAtExits_33 : decode cX8_beginAtExits 33 = .ok (.iload_n 2, 1) := by decide +kernel
theorem dX8_beginAtExits_34 : decode cX8_beginAtExits 34 = .ok (.iload_n 3, 1) := by decide +kernel
theorem dX8_beginAtExits_35 : decode cX8_beginAtExits 35 = .ok (.ifCond .eq 12, 3) := by decide +kernel
theorem dX8_beginAtExits_38 : decode cX8_beginAtExits 38 = .ok (.aload_n 1, 1) := by decide +kernel
theorem dX8_beginAtExits_39 : decode cX8_beginAtExits 39 = .ok (.getfield 33, 3) := by decide +kernel
theorem dX8_beginAtExits_42 : decode cX8_beginAtExits 42 = .ok (.iload_n 2, 1) := by decide +kernel
theorem dX8_beginAtExits_43 : decode cX8_beginAtExits 43 = .ok (.iaload, 1) := by decide +kernel
theorem dX8_beginAtExits_44 : decode cX8_beginAtExits 44 = .ok (.goto 5, 3) := by decide +kernel
theorem dX8_beginAtExits_47 : decode cX8_beginAtExits 47 = .ok (.bipush 100, 2) := by decide +kernel
theorem dX8_beginAtExits_49 : decode cX8_beginAtExits 49 = .ok (.iastore, 1) := by decide +kernel
theorem dX8_beginAtExits_50 : decode cX8_beginAtExits 50 = .ok (.iinc 2 1, 3) := by decide +kernel
theorem dX8_beginAtExits_53 : decode cX8_beginAtExits 53 = .ok (.goto (-51), 3) := by decide +kernel
theorem dX8_beginAtExits_56 : decode cX8_beginAtExits 56 = .ok (.return_, 1) := by decide +kernel
theorem dX8_fillByQueue_0 : decode cX8_fillByQueue 0 = .ok (.aload_n 0, 1) := by decide +kernel
theorem dX8_fillByQueue_1 : decode cX8_fillByQueue 1 = .ok (.aload_n 1, 1) := by decide +kernel
theorem dX8_fillByQueue_2 : decode cX8_fillByQueue 2 = .ok (.invokevirtual 26, 3) := by decide +kernel
theorem dX8_fillByQueue_5 : decode cX8_fillByQueue 5 = .ok (.iconst 0, 1) := by decide +kernel
theorem dX8_fillByQueue_6 : decode cX8_fillByQueue 6 = .ok (.istore_n 2, 1) := by decide +kernel
theorem dX8_fillByQueue_7 : decode cX8_fillByQueue 7 = .ok (.iload_n 2, 1) := by decide +kernel
theorem dX8_fillByQueue_8 : decode cX8_fillByQueue 8 = .ok (.bipush 36, 2) := by decide +kernel
theorem dX8_fillByQueue_10 : decode cX8_fillByQueue 10 = .ok (.if_icmp .ge 34, 3) := by decide +kernel
theorem dX8_fillByQueue_13 : decode cX8_fillByQueue 13 = .ok (.aload_n 0, 1) := by decide +kernel
theorem dX8_fillByQueue_14 : decode cX8_fillByQueue 14 = .ok (.getfield 18, 3) := by decide +kernel
theorem dX8_fillByQueue_17 : decode cX8_fillByQueue 17 = .ok (.iload_n 2, 1) := by decide +kernel
theorem dX8_fillByQueue_18 : decode cX8_fillByQueue 18 = .ok (.iaload, 1) := by decide +kernel
theorem dX8_fillByQueue_19 : decode cX8_fillByQueue 19 = .ok (.bipush 100, 2) := by decide +kernel
theorem dX8_fillByQueue_21 : decode cX8_fillByQueue 21 = .ok (.if_icmp .eq 17, 3) := by decide +kernel
theorem dX8_fillByQueue_24 : decode cX8_fillByQueue 24 = .ok (.aload_n 0, 1) := by decide +kernel
theorem dX8_fillByQueue_25 : decode cX8_fillByQueue 25 = .ok (.getfield 12, 3) := by decide +kernel
theorem dX8_fillByQueue_28 : decode cX8_fillByQueue 28 = .ok (.iload_n 2, 1) := by decide +kernel
theorem dX8_fillByQueue_29 : decode cX8_fillByQueue 29 = .ok (.aload_n 0, 1) := by decide +kernel
theorem dX8_fillByQueue_30 : decode cX8_fillByQueue 30 = .ok (.getfield 18, 3) := by decide +kernel
theorem dX8_fillByQueue_33 : decode cX8_fillByQueue 33 = .ok (.iload_n 2, 1) := by decide +kernel
theorem dX8_fillByQueue_34 : decode cX8_fillByQueue 34 = .ok (.iaload, 1) := by decide +kernel
theorem dX8_fillByQueue_35 : decode cX8_fillByQueue 35 = .ok (.invokevirtual 45, 3) := by decide +kernel
theorem dX8_fillByQueue_38 : decode cX8_fillByQueue 38 = .ok (.iinc 2 1, 3) := by decide +kernel
theorem dX8_fillByQueue_41 : decode cX8_fillByQueue 41 = .ok (.goto (-34), 3) := by decide +kernel
theorem dX8_fillByQueue_44 : decode cX8_fillByQueue 44 = .ok (.iconst 0, 1) := by decide +kernel
theorem dX8_fillByQueue_45 : decode cX8_fillByQueue 45 = .ok (.istore_n 2, 1) := by decide +kernel
theorem dX8_fillByQueue_46 : decode cX8_fillByQueue 46 = .ok (.iload_n 2, 1) := by decide +kernel
theorem dX8_fillByQueue_47 : decode cX8_fillByQueue 47 = .ok (.bipush 36, 2) := by decide +kernel
theorem dX8_fillByQueue_49 : decode cX8_fillByQueue 49 = .ok (.if_icmp .ge 29, 3) := by decide +kernel
theorem dX8_fillByQueue_52 : decode cX8_fillByQueue 52 = .ok (.aload_n 0, 1) := by decide +kernel
theorem dX8_fillByQueue_53 : decode cX8_fillByQueue 53 = .ok (.getfield 12, 3) := by decide +kernel
theorem dX8_fillByQueue_56 : decode cX8_fillByQueue 56 = .ok (.invokevirtual 49, 3) := by decide +kernel
theorem dX8_fillByQueue_59 : decode cX8_fillByQueue 59 = .ok (.istore_n 3, 1) := by decide +kernel
theorem dX8_fillByQueue_60 : decode cX8_fillByQueue 60 = .ok (.iload_n 3, 1) := by decide +kernel
theorem dX8_fillByQueue_61 : decode cX8_fillByQueue 61 = .ok (.iconst (-1), 1) := by decide +kernel
theorem dX8_fillByQueue_62 : decode cX8_fillByQueue 62 = .ok (.if_icmp .ne 4, 3) := by decide +kernel
theorem dX8_fillByQueue_65 : decode cX8_fillByQueue 65 = .ok (.return_, 1) := by decide +kernel
theorem dX8_fillByQueue_66 : decode cX8_fillByQueue 66 = .ok (.aload_n 0, 1) := by decide +kernel
theorem dX8_fillByQueue_67 : decode cX8_fillByQueue 67 = .ok (.aload_n 1, 1) := by decide +kernel
theorem dX8_fillByQueue_68 : decode cX8_fillByQueue 68 = .ok (.iload_n 3, 1) := by decide +kernel
theorem dX8_fillByQueue_69 : decode cX8_fillByQueue 69 = .ok (.invokevirtual 53, 3) := by decide +kernel
theorem dX8_fillByQueue_72 : decode cX8_fillByQueue 72 = .ok (.iinc 2 1, 3) := by decide +kernel
theorem dX8_fillByQueue_75 : decode cX8_fillByQueue 75 = .ok (.goto (-29), 3) := by decide +kernel
theorem dX8_fillByQueue_78 : decode cX8_fillByQueue 78 = .ok (.return_, 1) := by decide +kernel
theorem dX8_spread_0 : decode cX8_spread 0 = .ok (.iconst 0, 1) := by decide +kernel
theorem dX8_spread_1 : decode cX8_spread 1 = .ok (.istore_n 3, 1) := by decide +kernel
theorem dX8_spread_2 : decode cX8_spread 2 = .ok (.iload_n 3, 1) := by decide +kernel
theorem dX8_spread_3 : decode cX8_spread 3 = .ok (.iconst 4, 1) := by decide +kernel
theorem dX8_spread_4 : decode cX8_spread 4 = .ok (.if_icmp .ge 49, 3) := by decide +kernel
theorem dX8_spread_7 : decode cX8_spread 7 = .ok (.iload_n 2, 1) := by decide +kernel
theorem dX8_spread_8 : decode cX8_spread 8 = .ok (.iload_n 3, 1) := by decide +kernel
theorem dX8_spread_9 : decode cX8_spread 9 = .ok (.invokestatic 57, 3) := by decide +kernel
theorem dX8_spread_12 : decode cX8_spread 12 = .ok (.istore 4, 2) := by decide +kernel
theorem dX8_spread_14 : decode cX8_spread 14 = .ok (.iload 4, 2) := by decide +kernel
theorem dX8_spread_16 : decode cX8_spread 16 = .ok (.iconst (-1), 1) := by decide +kernel
theorem dX8_spread_17 : decode cX8_spread 17 = .ok (.if_icmp .eq 30, 3) := by decide +kernel
theorem dX8_spread_20 : decode cX8_spread 20 = .ok (.aload_n 0, 1) := by decide +kernel
theorem dX8_spread_21 : decode cX8_spread 21 = .ok (.aload_n 1, 1) := by decide +kernel
theorem dX8_spread_22 : decode cX8_spread 22 = .ok (.iload 4, 2) := by decide +kernel
theorem dX8_spread_24 : decode cX8_spread 24 = .ok (.iload_n 2, 1) := by decide +kernel
theorem dX8_spread_25 : decode cX8_spread 25 = .ok (.invokevirtual 61, 3) := by decide +kernel
theorem dX8_spread_28 : decode cX8_spread 28 = .ok (.ifCond .eq 19, 3) := by decide +kernel
theorem dX8_spread_31 : decode cX8_spread 31 = .ok (.aload_n 0, 1) := by decide +kernel
theorem dX8_spread_32 : decode cX8_spread 32 = .ok (.getfield 12, 3) := by decide +kernel
theorem dX8_spread_35 : decode cX8_spread 35 = .ok (.iload 4, 2) := by decide +kernel
theorem dX8_spread_37 : decode cX8_spread 37 = .ok (.aload_n 0, 1) := by decide +kernel
theorem dX8_spread_38 : decode cX8_spread 38 = .ok (.getfield 18, 3) := by decide +kernel
theorem dX8_spread_41 : decode cX8_spread 41 = .ok (.iload 4, 2) := by decide +kernel
theorem dX8_spread_43 : decode cX8_spread 43 = .ok (.iaload, 1) := by decide +kernel
theorem dX8_spread_44 : decode cX8_spread 44 = .ok (.invokevirtual 45, 3) := by decide +kernel
theorem dX8_spread_47 : decode cX8_spread 47 = .ok (.iinc 3 1, 3) := by decide +kernel
theorem dX8_spread_50 : decode cX8_spread 50 = .ok (.goto (-48), 3) := by decide +kernel
theorem dX8_spread_53 : decode cX8_spread 53 = .ok (.return_, 1) := by decide +kernel
theorem dX8_improveAll_0 : decode cX8_improveAll 0 = .ok (.iconst 0, 1) := by decide +kernel
theorem dX8_improveAll_1 : decode cX8_improveAll 1 = .ok (.istore_n 2, 1) := by decide +kernel
theorem dX8_improveAll_2 : decode cX8_improveAll 2 = .ok (.iconst 0, 1) := by decide +kernel
theorem dX8_improveAll_3 : decode cX8_improveAll 3 = .ok (.istore_n 3, 1) := by decide +kernel
theorem dX8_improveAll_4 : decode cX8_improveAll 4 = .ok (.iload_n 3, 1) := by decide +kernel
theorem dX8_improveAll_5 : decode cX8_improveAll 5 = .ok (.bipush 36, 2) := by decide +kernel
theorem dX8_improveAll_7 : decode cX8_improveAll 7 = .ok (.if_icmp .ge 51, 3) := by decide +kernel
theorem dX8_improveAll_10 : decode cX8_improveAll 10 = .ok (.iconst 0, 1) := by decide +kernel
theorem dX8_improveAll_11 : decode cX8_improveAll 11 = .ok (.istore 4, 2) := by decide +kernel
theorem dX8_improveAll_13 : decode cX8_improveAll 13 = .ok (.iload 4, 2) := by decide +kernel
theorem dX8_improveAll_15 : decode cX8_improveAll 15 = .ok (.iconst 4, 1) := by decide +kernel
theorem dX8_improveAll_16 : decode cX8_improveAll 16 = .ok (.if_icmp .ge 36, 3) := by decide +kernel
theorem dX8_improveAll_19 : decode cX8_improveAll 19 = .ok (.iload_n 3, 1) := by decide +kernel
theorem dX8_improveAll_20 : decode cX8_improveAll 20 = .ok (.iload 4, 2) := by decide +kernel
theorem dX8_improveAll_22 : decode cX8_improveAll 22 = .ok (.invokestatic 57, 3) := by decide +kernel
theorem dX8_improveAll_25 : decode cX8_improveAll 25 = .ok (.istore 5, 2) := by decide +kernel
theorem dX8_improveAll_27 : decode cX8_improveAll 27 = .ok (.iload 5, 2) := by decide +kernel
theorem dX8_improveAll_29 : decode cX8_improveAll 29 = .ok (.iconst (-1), 1) := by decide +kernel
theorem dX8_improveAll_30 : decode cX8_improveAll 30 = .ok (.if_icmp .eq 16, 3) := by decide +kernel
theorem dX8_improveAll_33 : decode cX8_improveAll 33 = .ok (.aload_n 0, 1) := by decide +kernel
theorem dX8_improveAll_34 : decode cX8_improveAll 34 = .ok (.aload_n 1, 1) := by decide +kernel
theorem dX8_improveAll_35 : decode cX8_improveAll 35 = .ok (.iload_n 3, 1) := by decide +kernel
theorem dX8_improveAll_36 : decode cX8_improveAll 36 = .ok (.iload 5, 2) := by decide +kernel
theorem dX8_improveAll_38 : decode cX8_improveAll 38 = .ok (.invokevirtual 61, 3) := by decide +kernel
theorem dX8_improveAll_41 : decode cX8_improveAll 41 = .ok (.ifCond .eq 5, 3) := by decide +kernel
theorem dX8_improveAll_44 : decode cX8_improveAll 44 = .ok (.iconst 1, 1) := by decide +kernel
theorem dX8_improveAll_45 : decode cX8_improveAll 45 = .ok (.istore_n 2, 1) := by decide +kernel
theorem dX8_improveAll_46 : decode cX8_improveAll 46 = .ok (.iinc 4 1, 3) := by decide +kernel
theorem dX8_improveAll_49 : decode cX8_improveAll 49 = .ok (.goto (-36), 3) := by decide +kernel
theorem dX8_improveAll_52 : decode cX8_improveAll 52 = .ok (.iinc 3 1, 3) := by decide +kernel
theorem dX8_improveAll_55 : decode cX8_improveAll 55 = .ok (.goto (-51), 3) := by decide +kernel
theorem dX8_improveAll_58 : decode cX8_improveAll 58 = .ok (.iload_n 2, 1) := by decide +kernel
theorem dX8_improveAll_59 : decode cX8_improveAll 59 = .ok (.ireturn, 1) := by decide +kernel
theorem dX8_improve_0 : decode cX8_improve 0 = .ok (.aload_n 1, 1) := by decide +kernel
theorem dX8_improve_1 : decode cX8_improve 1 = .ok (.getfield 33, 3) := by decide +kernel
theorem dX8_improve_4 : decode cX8_improve 4 = .ok (.iload_n 2, 1) := by decide +kernel
theorem dX8_improve_5 : decode cX8_improve 5 = .ok (.iaload, 1) := by decide +kernel
theorem dX8_improve_6 : decode cX8_improve 6 = .ok (.aload_n 0, 1) := by decide +kernel
theorem dX8_improve_7 : decode cX8_improve 7 = .ok (.getfield 18, 3) := by decide +kernel
theorem dX8_improve_10 : decode cX8_improve 10 = .ok (.iload_n 3, 1) := by decide +kernel
theorem dX8_improve_11 : decode cX8_improve 11 = .ok (.iaload, 1) := by decide +kernel
theorem dX8_improve_12 : decode cX8_improve 12 = .ok (.invokestatic 65, 3) := by decide +kernel
theorem dX8_improve_15 : decode cX8_improve 15 = .ok (.istore 4, 2) := by decide +kernel
theorem dX8_improve_17 : decode cX8_improve 17 = .ok (.iload 4, 2) := by decide +kernel
theorem dX8_improve_19 : decode cX8_improve 19 = .ok (.aload_n 0, 1) := by decide +kernel
theorem dX8_improve_20 : decode cX8_improve 20 = .ok (.getfield 18, 3) := by decide +kernel
theorem dX8_improve_23 : decode cX8_improve 23 = .ok (.iload_n 2, 1) := by decide +kernel
theorem dX8_improve_24 : decode cX8_improve 24 = .ok (.iaload, 1) := by decide +kernel
theorem dX8_improve_25 : decode cX8_improve 25 = .ok (.if_icmp .lt 5, 3) := by decide +kernel
theorem dX8_improve_28 : decode cX8_improve 28 = .ok (.iconst 0, 1) := by decide +kernel
theorem dX8_improve_29 : decode cX8_improve 29 = .ok (.ireturn, 1) := by decide +kernel
theorem dX8_improve_30 : decode cX8_improve 30 = .ok (.aload_n 0, 1) := by decide +kernel
theorem dX8_improve_31 : decode cX8_improve 31 = .ok (.getfield 18, 3) := by decide +kernel
theorem dX8_improve_34 : decode cX8_improve 34 = .ok (.iload_n 2, 1) := by decide +kernel
theorem dX8_improve_35 : decode cX8_improve 35 = .ok (.iload 4, 2) := by decide +kernel
theorem dX8_improve_37 : decode cX8_improve 37 = .ok (.iastore, 1) := by decide +kernel
theorem dX8_improve_38 : decode cX8_improve 38 = .ok (.iconst 1, 1) := by decide +kernel
theorem dX8_improve_39 : decode cX8_improve 39 = .ok (.ireturn, 1) := by decide +kernel
theorem dX9_init_0 : decode cX9_init 0 = .ok (.aload_n 0, 1) := by decide +kernel
theorem dX9_init_1 : decode cX9_init 1 = .ok (.invokespecial 3, 3) := by decide +kernel
theorem dX9_init_4 : decode cX9_init 4 = .ok (.aload_n 0, 1) := by decide +kernel
theorem dX9_init_5 : decode cX9_init 5 = .ok (.bipush 60, 2) := by decide +kernel
theorem dX9_init_7 : decode cX9_init 7 = .ok (.newarray .char, 2) := by decide +kernel
theorem dX9_init_9 : decode cX9_init 9 = .ok (.putfield 9, 3) := by decide +kernel
theorem dX9_init_12 : decode cX9_init 12 = .ok (.aload_n 0, 1) := by decide +kernel
theorem dX9_init_13 : decode cX9_init 13 = .ok (.new 15, 3) := by decide +kernel
theorem dX9_init_16 : decode cX9_init 16 = .ok (.dup, 1) := by decide +kernel
theorem dX9_init_17 : decode cX9_init 17 = .ok (.invokespecial 17, 3) := by decide +kernel
theorem dX9_init_20 : decode cX9_init 20 = .ok (.putfield 18, 3) := by decide +kernel
theorem dX9_init_23 : decode cX9_init 23 = .ok (.return_, 1) := by decide +kernel
theorem dX9_append_0 : decode cX9_append 0 = .ok (.aload_n 0, 1) := by decide +kernel
theorem dX9_append_1 : decode cX9_append 1 = .ok (.getfield 22, 3) := by decide +kernel
theorem dX9_append_4 : decode cX9_append 4 = .ok (.bipush 60, 2) := by decide +kernel
theorem dX9_append_6 : decode cX9_append 6 = .ok (.if_icmp .lt 5, 3) := by decide +kernel
theorem dX9_append_9 : decode cX9_append 9 = .ok (.iconst 0, 1) := by decide +kernel
theorem dX9_append_10 : decode cX9_append 10 = .ok (.ireturn, 1) := by decide +kernel
theorem dX9_append_11 : decode cX9_append 11 = .ok (.aload_n 0, 1) := by decide +kernel
theorem dX9_append_12 : decode cX9_append 12 = .ok (.getfield 9, 3) := by decide +kernel
theorem dX9_append_15 : decode cX9_append 15 = .ok (.aload_n 0, 1) := by decide +kernel
theorem dX9_append_16 : decode cX9_append 16 = .ok (.getfield 22, 3) := by decide +kernel
theorem dX9_append_19 : decode cX9_append 19 = .ok (.iload_n 1, 1) := by decide +kernel
theorem dX9_append_20 : decode cX9_append 20 = .ok (.castore, 1) := by decide +kernel
theorem dX9_append_21 : decode cX9_append 21 = .ok (.aload_n 0, 1) := by decide +kernel
theorem dX9_append_22 : decode cX9_append 22 = .ok (.dup, 1) := by decide +kernel
theorem dX9_append_23 : decode cX9_append 23 = .ok (.getfield 22, 3) := by decide +kernel
theorem dX9_append_26 : decode cX9_append 26 = .ok (.iconst 1, 1) := by decide +kernel
theorem dX9_append_27 : decode cX9_append 27 = .ok (.iadd, 1) := by decide +kernel
theorem dX9_append_28 : decode cX9_append 28 = .ok (.putfield 22, 3) := by decide +kernel
theorem dX9_append_31 : decode cX9_append 31 = .ok (.iconst 1, 1) := by decide +kernel
theorem dX9_append_32 : decode cX9_append 32 = .ok (.ireturn, 1) := by decide +kernel
theorem dX9_empty_0 : decode cX9_empty 0 = .ok (.aload_n 0, 1) := by decide +kernel
theorem dX9_empty_1 : decode cX9_empty 1 = .ok (.iconst 0, 1) := by decide +kernel
theorem dX9_empty_2 : decode cX9_empty 2 = .ok (.putfield 22, 3) := by decide +kernel
theorem dX9_empty_5 : decode cX9_empty 5 = .ok (.return_, 1) := by decide +kernel
theorem dX9_parse_0 : decode cX9_parse 0 = .ok (.aload_n 0, 1) := by decide +kernel
theorem dX9_parse_1 : decode cX9_parse 1 = .ok (.getfield 18, 3) := by decide +kernel
theorem dX9_parse_4 : decode cX9_parse 4 = .ok (.invokevirtual 26, 3) := by decide +kernel
theorem dX9_parse_7 : decode cX9_parse 7 = .ok (.aload_n 0, 1) := by decide +kernel
theorem dX9_parse_8 : decode cX9_parse 8 = .ok (.iconst 0, 1) := by decide +kernel
theorem dX9_parse_9 : decode cX9_parse 9 = .ok (.putfield 29, 3) := by decide +kernel
theorem dX9_parse_12 : decode cX9_parse 12 = .ok (.iconst 0, 1) := by decide +kernel
theorem dX9_parse_13 : decode cX9_parse 13 = .ok (.istore_n 1, 1) := by decide +kernel
theorem dX9_parse_14 : decode cX9_parse 14 = .ok (.iconst 0, 1) := by decide +kernel
theorem dX9_parse_15 : decode cX9_parse 15 = .ok (.istore_n 2, 1) := by decide +kernel
theorem dX9_parse_16 : decode cX9_parse 16 = .ok (.iload_n 2, 1) := by decide +kernel
theorem dX9_parse_17 : decode cX9_parse 17 = .ok (.bipush 60, 2) := by decide +kernel
theorem dX9_parse_19 : decode cX9_parse 19 = .ok (.if_icmp .ge 52, 3) := by decide +kernel
theorem dX9_parse_22 : decode cX9_parse 22 = .ok (.aload_n 0, 1) := by decide +kernel
theorem dX9_parse_23 : decode cX9_parse 23 = .ok (.iload_n 1, 1) := by decide +kernel
theorem dX9_parse_24 : decode cX9_parse 24 = .ok (.invokevirtual 32, 3) := by decide +kernel
theorem dX9_parse_27 : decode cX9_parse 27 = .ok (.istore_n 3, 1) := by decide +kernel
theorem dX9_parse_28 : decode cX9_parse 28 = .ok (.iload_n 3, 1) := by decide +kernel
theorem dX9_parse_29 : decode cX9_parse 29 = .ok (.iconst (-1), 1) := by decide +kernel
theorem dX9_parse_30 : decode cX9_parse 30 = .ok (.if_icmp .ne 8, 3) := by decide +kernel
theorem dX9_parse_33 : decode cX9_parse 33 = .ok (.aload_n 0, 1) := by decide +kernel
theorem dX9_parse_34 : decode cX9_parse 34 = .ok (.getfield 29, 3) := by decide +kernel
theorem dX9_parse_37 : decode cX9_parse 37 = .ok (.ireturn, 1) := by decide +kernel
theorem dX9_parse_38 : decode cX9_parse 38 = .ok (.iload_n 3, 1) := by decide +kernel
theorem dX9_parse_39 : decode cX9_parse 39 = .ok (.aload_n 0, 1) := by decide +kernel
theorem dX9_parse_40 : decode cX9_parse 40 = .ok (.getfield 22, 3) := by decide +kernel
theorem dX9_parse_43 : decode cX9_parse 43 = .ok (.if_icmp .lt 5, 3) := by decide +kernel
theorem dX9_parse_46 : decode cX9_parse 46 = .ok (.iconst (-1), 1) := by decide +kernel
theorem dX9_parse_47 : decode cX9_parse 47 = .ok (.ireturn, 1) := by decide +kernel
theorem dX9_parse_48 : decode cX9_parse 48 = .ok (.aload_n 0, 1) := by decide +kernel
theorem dX9_parse_49 : decode cX9_parse 49 = .ok (.getfield 9, 3) := by decide +kernel
theorem dX9_parse_52 : decode cX9_parse 52 = .ok (.iload_n 3, 1) := by decide +kernel
theorem dX9_parse_53 : decode cX9_parse 53 = .ok (.caload, 1) := by decide +kernel
theorem dX9_parse_54 : decode cX9_parse 54 = .ok (.bipush 59, 2) := by decide +kernel
theorem dX9_parse_56 : decode cX9_parse 56 = .ok (.if_icmp .eq 5, 3) := by decide +kernel
theorem dX9_parse_59 : decode cX9_parse 59 = .ok (.iload_n 3, 1) := by decide +kernel
theorem dX9_parse_60 : decode cX9_parse 60 = .ok (.ireturn, 1) := by decide +kernel
theorem dX9_parse_61 : decode cX9_parse 61 = .ok (.iload_n 3, 1) := by decide +kernel
theorem dX9_parse_62 : decode cX9_parse 62 = .ok (.iconst 1, 1) := by decide +kernel
theorem dX9_parse_63 : decode cX9_parse 63 = .ok (.iadd, 1) := by decide +kernel
theorem dX9_parse_64 : decode cX9_parse 64 = .ok (.istore_n 1, 1) := by decide +kernel
theorem dX9_parse_65 : decode cX9_parse 65 = .ok (.iinc 2 1, 3) := by decide +kernel
theorem dX9_parse_68 : decode cX9_parse 68 = .ok (.goto (-52), 3) := by decide +kernel
theorem dX9_parse_71 : decode cX9_parse 71 = .ok (.aload_n 0, 1) := by decide +kernel
theorem dX9_parse_72 : decode cX9_parse 72 = .ok (.getfield 29, 3) := by decide +kernel
theorem dX9_parse_75 : decode cX9_parse 75 = .ok (.ireturn, 1) := by decide +kernel
theorem dX9_readCommand_0 : decode cX9_readCommand 0 = .ok (.iconst 0, 1) := by decide +kernel
theorem dX9_readCommand_1 : decode cX9_readCommand 1 = .ok (.istore_n 2, 1) := by decide +kernel
theorem dX9_readCommand_2 : decode cX9_readCommand 2 = .ok (.iload_n 2, 1) := by decide +kernel
theorem dX9_readCommand_3 : decode cX9_readCommand 3 = .ok (.getstatic 36, 3) := by decide +kernel
theorem dX9_readCommand_6 : decode cX9_readCommand 6 = .ok (.arraylength, 1) := by decide +kernel
theorem dX9_readCommand_7 : decode cX9_readCommand 7 = .ok (.if_icmp .ge 27, 3) := by decide +kernel
theorem dX9_readCommand_10 : decode cX9_readCommand 10 = .ok (.aload_n 0, 1) := by decide +kernel
theorem dX9_readCommand_11 : decode cX9_readCommand 11 = .ok (.getstatic 36, 3) := by decide +kernel
theorem dX9_readCommand_14 : decode cX9_readCommand 14 = .ok (.iload_n 2, 1) := by decide +kernel
theorem dX9_readCommand_15 : decode cX9_readCommand 15 = .ok (.aaload, 1) := by decide +kernel
theorem dX9_readCommand_16 : decode cX9_readCommand 16 = .ok (.iload_n 1, 1) := by decide +kernel
theorem dX9_readCommand_17 : decode cX9_readCommand 17 = .ok (.invokevirtual 42, 3) := by decide +kernel
theorem dX9_readCommand_20 : decode cX9_readCommand 20 = .ok (.istore_n 3, 1) := by decide +kernel
theorem dX9_readCommand_21 : decode cX9_readCommand 21 = .ok (.iload_n 3, 1) := by decide +kernel
theorem dX9_readCommand_22 : decode cX9_readCommand 22 = .ok (.iconst (-1), 1) := by decide +kernel
theorem dX9_readCommand_23 : decode cX9_readCommand 23 = .ok (.if_icmp .eq 5, 3) := by decide +kernel
theorem dX9_readCommand_26 : decode cX9_readCommand 26 = .ok (.iload_n 3, 1) := by decide +kernel
theorem dX9_readCommand_27 : decode cX9_readCommand 27 = .ok (.ireturn, 1) := by decide +kernel
theorem dX9_readCommand_28 : decode cX9_readCommand 28 = .ok (.iinc 2 1, 3) := by decide +kernel
theorem dX9_readCommand_31 : decode cX9_readCommand 31 = .ok (.goto (-29), 3) := by decide +kernel
theorem dX9_readCommand_34 : decode cX9_readCommand 34 = .ok (.iconst (-1), 1) := by decide +kernel
theorem dX9_readCommand_35 : decode cX9_readCommand 35 = .ok (.ireturn, 1) := by decide +kernel
theorem dX9_readForm_0 : decode cX9_readForm 0 = .ok (.iload_n 2, 1) := by decide +kernel
theorem dX9_readForm_1 : decode cX9_readForm 1 = .ok (.istore_n 3, 1) := by decide +kernel
theorem dX9_readForm_2 : decode cX9_readForm 2 = .ok (.aload_n 0, 1) := by decide +kernel
theorem dX9_readForm_3 : decode cX9_readForm 3 = .ok (.iconst (-1), 1) := by decide +kernel
theorem dX9_readForm_4 : decode cX9_readForm 4 = .ok (.putfield 46, 3) := by decide +kernel
theorem dX9_readForm_7 : decode cX9_readForm 7 = .ok (.aload_n 0, 1) := by decide +kernel
theorem dX9_readForm_8 : decode cX9_readForm 8 = .ok (.iconst (-1), 1) := by decide +kernel
theorem dX9_readForm_9 : decode cX9_readForm 9 = .ok (.putfield 49, 3) := by decide +kernel
theorem dX9_readForm_12 : decode cX9_readForm 12 = .ok (.aload_n 0, 1) := by decide +kernel
theorem dX9_readForm_13 : decode cX9_readForm 13 = .ok (.iconst (-1), 1) := by decide +kernel
theorem dX9_readForm_14 : decode cX9_readForm 14 = .ok (.putfield 52, 3) := by decide +kernel
theorem dX9_readForm_17 : decode cX9_readForm 17 = .ok (.iconst 0, 1) := by decide +kernel
theorem dX9_readForm_18 : decode cX9_readForm 18 = .ok (.istore 4, 2) := by decide +kernel
theorem dX9_readForm_20 : decode cX9_readForm 20 = .ok (.iload 4, 2) := by decide +kernel
theorem dX9_readForm_22 : decode cX9_readForm 22 = .ok (.aload_n 1, 1) := by decide +kernel
theorem dX9_readForm_23 : decode cX9_readForm 23 = .ok (.getfield 55, 3) := by decide +kernel
theorem dX9_readForm_26 : decode cX9_readForm 26 = .ok (.invokevirtual 59, 3) := by decide +kernel
theorem dX9_readForm_29 : decode cX9_readForm 29 = .ok (.if_icmp .ge 49, 3) := by decide +kernel
theorem dX9_readForm_32 : decode cX9_readForm 32 = .ok (.aload_n 0, 1) := by decide +kernel
theorem dX9_readForm_33 : decode cX9_readForm 33 = .ok (.aload_n 1, 1) := by decide +kernel
theorem dX9_readForm_34 : decode cX9_readForm 34 = .ok (.getfield 55, 3) := by decide +kernel
theorem dX9_readForm_37 : decode cX9_readForm 37 = .ok (.iload 4, 2) := by decide +kernel
theorem dX9_readForm_39 : decode cX9_readForm 39 = .ok (.invokevirtual 64, 3) := by decide +kernel
theorem dX9_readForm_42 : decode cX9_readForm 42 = .ok (.iload_n 3, 1) := by decide +kernel
theorem dX9_readForm_43 : decode cX9_readForm 43 = .ok (.invokevirtual 68, 3) := by decide +kernel
theorem dX9_readForm_46 : decode cX9_readForm 46 = .ok (.istore 5, 2) := by decide +kernel
theorem dX9_readForm_48 : decode cX9_readForm 48 = .ok (.iload 5, 2) := by decide +kernel
theorem dX9_readForm_50 : decode cX9_readForm 50 = .ok (.ifCond .ne 17, 3) := by decide +kernel
theorem dX9_readForm_53 : decode cX9_readForm 53 = .ok (.aload_n 0, 1) := by decide +kernel
theorem dX9_readForm_54 : decode cX9_readForm 54 = .ok (.aload_n 0, 1) := by decide +kernel
theorem dX9_readForm_55 : decode cX9_readForm 55 = .ok (.getfield 29, 3) := by decide +kernel
theorem dX9_readForm_58 : decode cX9_readForm 58 = .ok (.iload_n 3, 1) := by decide +kernel
theorem dX9_readForm_59 : decode cX9_readForm 59 = .ok (.invokestatic 72, 3) := by decide +kernel
theorem dX9_readForm_62 : decode cX9_readForm 62 = .ok (.putfield 29, 3) := by decide +kernel
theorem dX9_readForm_65 : decode cX9_readForm 65 = .ok (.iconst (-1), 1) := by decide +kernel
theorem dX9_readForm_66 : decode cX9_readForm 66 = .ok (.ireturn, 1) := by decide +kernel
theorem dX9_readForm_67 : decode cX9_readForm 67 = .ok (.iload_n 3, 1) := by decide +kernel
theorem dX9_readForm_68 : decode cX9_readForm 68 = .ok (.iload 5, 2) := by decide +kernel
theorem dX9_readForm_70 : decode cX9_readForm 70 = .ok (.iadd, 1) := by decide +kernel
theorem dX9_readForm_71 : decode cX9_readForm 71 = .ok (.istore_n 3, 1) := by decide +kernel
theorem dX9_readForm_72 : decode cX9_readForm 72 = .ok (.iinc 4 1, 3) := by decide +kernel
theorem dX9_readForm_75 : decode cX9_readForm 75 = .ok (.goto (-55), 3) := by decide +kernel
theorem dX9_readForm_78 : decode cX9_readForm 78 = .ok (.aload_n 0, 1) := by decide +kernel
theorem dX9_readForm_79 : decode cX9_readForm 79 = .ok (.getfield 18, 3) := by decide +kernel
theorem dX9_readForm_82 : decode cX9_readForm 82 = .ok (.new 78, 3) := by decide +kernel
theorem dX9_readForm_85 : decode cX9_readForm 85 = .ok (.dup, 1) := by decide +kernel
theorem dX9_readForm_86 : decode cX9_readForm 86 = .ok (.aload_n 1, 1) := by decide +kernel
theorem dX9_readForm_87 : decode cX9_readForm 87 = .ok (.aload_n 0, 1) := by decide +kernel
theorem dX9_readForm_88 : decode cX9_readForm 88 = .ok (.getfield 46, 3) := by decide +kernel
theorem dX9_readForm_91 : decode cX9_readForm 91 = .ok (.aload_n 0, 1) := by decide +kernel
theorem dX9_readForm_92 : decode cX9_readForm 92 = .ok (.getfield 49, 3) := by decide +kernel
theorem dX9_readForm_95 : decode cX9_readForm 95 = .ok (.invokestatic 80, 3) := by decide +kernel
theorem dX9_readForm_98 : decode cX9_readForm 98 = .ok (.aload_n 0, 1) := by decide +kernel
theorem dX9_readForm_99 : decode cX9_readForm 99 = .ok (.getfield 52, 3) := by decide +kernel
theorem dX9_readForm_102 : decode cX9_readForm 102 = .ok (.invokespecial 83, 3) := by decide +kernel
theorem dX9_readForm_105 : decode cX9_readForm 105 = .ok (.invokevirtual 86, 3) := by decide +kernel
theorem dX9_readForm_108 : decode cX9_readForm 108 = .ok (.pop, 1) := by decide +kernel
theorem dX9_readForm_109 : decode cX9_readForm 109 = .ok (.iload_n 3, 1) := by decide +kernel
theorem dX9_readForm_110 : decode cX9_readForm 110 = .ok (.ireturn, 1) := by decide +kernel
theorem dX9_readSign_0 : decode cX9_readSign 0 = .ok (.aload_n 0, 1) := by decide +kernel
theorem dX9_readSign_1 : decode cX9_readSign 1 = .ok (.iload_n 2, 1) := by decide +kernel
theorem dX9_readSign_2 : decode cX9_readSign 2 = .ok (.invokevirtual 90, 3) := by decide +kernel
theorem dX9_readSign_5 : decode cX9_readSign 5 = .ok (.istore_n 3, 1) := by decide +kernel
theorem dX9_readSign_6 : decode cX9_readSign 6 = .ok (.iload_n 1, 1) := by decide +kernel
theorem dX9_readSign_7 : decode cX9_readSign 7 = .ok (.lookupswitch 95 #[(67, 57), (73, 73), (78, 89), (82, 41)], 41) := by decide +kernel
theorem dX9_readSign_48 : decode cX9_readSign 48 = .ok (.aload_n 0, 1) := by decide +kernel
theorem dX9_readSign_49 : decode cX9_readSign 49 = .ok (.iload_n 3, 1) := by decide +kernel
theorem dX9_readSign_50 : decode cX9_readSign 50 = .ok (.putfield 46, 3) := by decide +kernel
theorem dX9_readSign_53 : decode cX9_readSign 53 = .ok (.iload_n 3, 1) := by decide +kernel
theorem dX9_readSign_54 : decode cX9_readSign 54 = .ok (.iconst (-1), 1) := by decide +kernel
theorem dX9_readSign_55 : decode cX9_readSign 55 = .ok (.if_icmp .ne 7, 3) := by decide +kernel
theorem dX9_readSign_58 : decode cX9_readSign 58 = .ok (.iconst 0, 1) := by decide +kernel
theorem dX9_readSign_59 : decode cX9_readSign 59 = .ok (.goto 4, 3) := by decide +kernel
theorem dX9_readSign_62 : decode cX9_readSign 62 = .ok (.iconst 1, 1) := by decide +kernel
theorem dX9_readSign_63 : decode cX9_readSign 63 = .ok (.ireturn, 1) := by decide +kernel
theorem dX9_readSign_64 : decode cX9_readSign 64 = .ok (.aload_n 0, 1) := by decide +kernel
theorem dX9_readSign_65 : decode cX9_readSign 65 = .ok (.iload_n 3, 1) := by decide +kernel
theorem dX9_readSign_66 : decode cX9_readSign 66 = .ok (.putfield 49, 3) := by decide +kernel
theorem dX9_readSign_69 : decode cX9_readSign 69 = .ok (.iload_n 3, 1) := by decide +kernel
theorem dX9_readSign_70 : decode cX9_readSign 70 = .ok (.iconst (-1), 1) := by decide +kernel
theorem dX9_readSign_71 : decode cX9_readSign 71 = .ok (.if_icmp .ne 7, 3) := by decide +kernel
theorem dX9_readSign_74 : decode cX9_readSign 74 = .ok (.iconst 0, 1) := by decide +kernel
theorem dX9_readSign_75 : decode cX9_readSign 75 = .ok (.goto 4, 3) := by decide +kernel
theorem dX9_readSign_78 : decode cX9_readSign 78 = .ok (.iconst 1, 1) := by decide +kernel
theorem dX9_readSign_79 : decode cX9_readSign 79 = .ok (.ireturn, 1) := by decide +kernel
theorem dX9_readSign_80 : decode cX9_readSign 80 = .ok (.aload_n 0, 1) := by decide +kernel
theorem dX9_readSign_81 : decode cX9_readSign 81 = .ok (.iload_n 3, 1) := by decide +kernel
theorem dX9_readSign_82 : decode cX9_readSign 82 = .ok (.putfield 52, 3) := by decide +kernel
theorem dX9_readSign_85 : decode cX9_readSign 85 = .ok (.iload_n 3, 1) := by decide +kernel
theorem dX9_readSign_86 : decode cX9_readSign 86 = .ok (.iconst (-1), 1) := by decide +kernel
theorem dX9_readSign_87 : decode cX9_readSign 87 = .ok (.if_icmp .ne 7, 3) := by decide +kernel
theorem dX9_readSign_90 : decode cX9_readSign 90 = .ok (.iconst 0, 1) := by decide +kernel
theorem dX9_readSign_91 : decode cX9_readSign 91 = .ok (.goto 4, 3) := by decide +kernel
theorem dX9_readSign_94 : decode cX9_readSign 94 = .ok (.iconst 1, 1) := by decide +kernel
theorem dX9_readSign_95 : decode cX9_readSign 95 = .ok (.ireturn, 1) := by decide +kernel
theorem dX9_readSign_96 : decode cX9_readSign 96 = .ok (.aload_n 0, 1) := by decide +kernel
theorem dX9_readSign_97 : decode cX9_readSign 97 = .ok (.iload_n 2, 1) := by decide +kernel
theorem dX9_readSign_98 : decode cX9_readSign 98 = .ok (.invokevirtual 93, 3) := by decide +kernel
theorem dX9_readSign_101 : decode cX9_readSign 101 = .ok (.ireturn, 1) := by decide +kernel
theorem dX9_readSign_102 : decode cX9_readSign 102 = .ok (.iload_n 2, 1) := by decide +kernel
theorem dX9_readSign_103 : decode cX9_readSign 103 = .ok (.aload_n 0, 1) := by decide +kernel
theorem dX9_readSign_104 : decode cX9_readSign 104 = .ok (.getfield 22, 3) := by decide +kernel
theorem dX9_readSign_107 : decode cX9_readSign 107 = .ok (.if_icmp .ge 17, 3) := by decide +kernel
theorem dX9_readSign_110 : decode cX9_readSign 110 = .ok (.aload_n 0, 1) := by decide +kernel
theorem dX9_readSign_111 : decode cX9_readSign 111 = .ok (.getfield 9, 3) := by decide +kernel
theorem dX9_readSign_114 : decode cX9_readSign 114 = .ok (.iload_n 2, 1) := by decide +kernel
theorem dX9_readSign_115 : decode cX9_readSign 115 = .ok (.caload, 1) := by decide +kernel
theorem dX9_readSign_116 : decode cX9_readSign 116 = .ok (.iload_n 1, 1) := by decide +kernel
theorem dX9_readSign_117 : decode cX9_readSign 117 = .ok (.if_icmp .ne 7, 3) := by decide +kernel
theorem dX9_readSign_120 : decode cX9_readSign 120 = .ok (.iconst 1, 1) := by decide +kernel
theorem dX9_readSign_121 : decode cX9_readSign 121 = .ok (.goto 4, 3) := by decide +kernel
theorem dX9_readSign_124 : decode cX9_readSign 124 = .ok (.iconst 0, 1) := by decide +kernel
theorem dX9_readSign_125 : decode cX9_readSign 125 = .ok (.ireturn, 1) := by decide +kernel
theorem dX9_readNumber_0 : decode cX9_readNumber 0 = .ok (.aload_n 0, 1) := by decide +kernel
theorem dX9_readNumber_1 : decode cX9_readNumber 1 = .ok (.iload_n 1, 1) := by decide +kernel
theorem dX9_readNumber_2 : decode cX9_readNumber 2 = .ok (.invokevirtual 90, 3) := by decide +kernel
theorem dX9_readNumber_5 : decode cX9_readNumber 5 = .ok (.istore_n 2, 1) := by decide +kernel
theorem dX9_readNumber_6 : decode cX9_readNumber 6 = .ok (.iload_n 2, 1) := by decide +kernel
theorem dX9_readNumber_7 : decode cX9_readNumber 7 = .ok (.iconst (-1), 1) := by decide +kernel
theorem dX9_readNumber_8 : decode cX9_readNumber 8 = .ok (.if_icmp .ne 5, 3) := by decide +kernel
theorem dX9_readNumber_11 : decode cX9_readNumber 11 = .ok (.iconst 0, 1) := by decide +kernel
theorem dX9_readNumber_12 : decode cX9_readNumber 12 = .ok (.ireturn, 1) := by decide +kernel
theorem dX9_readNumber_13 : decode cX9_readNumber 13 = .ok (.aload_n 0, 1) := by decide +kernel
theorem dX9_readNumber_14 : decode cX9_readNumber 14 = .ok (.iload_n 1, 1) := by decide +kernel
theorem dX9_readNumber_15 : decode cX9_readNumber 15 = .ok (.iconst 1, 1) := by decide +kernel
theorem dX9_readNumber_16 : decode cX9_readNumber 16 = .ok (.iadd, 1) := by decide +kernel
theorem dX9_readNumber_17 : decode cX9_readNumber 17 = .ok (.invokevirtual 90, 3) := by decide +kernel
theorem dX9_readNumber_20 : decode cX9_readNumber 20 = .ok (.istore_n 3, 1) := by decide +kernel
theorem dX9_readNumber_21 : decode cX9_readNumber 21 = .ok (.iload_n 3, 1) := by decide +kernel
theorem dX9_readNumber_22 : decode cX9_readNumber 22 = .ok (.iconst (-1), 1) := by decide +kernel
theorem dX9_readNumber_23 : decode cX9_readNumber 23 = .ok (.if_icmp .ne 10, 3) := by decide +kernel
theorem dX9_readNumber_26 : decode cX9_readNumber 26 = .ok (.aload_n 0, 1) := by decide +kernel
theorem dX9_readNumber_27 : decode cX9_readNumber 27 = .ok (.iload_n 2, 1) := by decide +kernel
theorem dX9_readNumber_28 : decode cX9_readNumber 28 = .ok (.putfield 52, 3) := by decide +kernel
theorem dX9_readNumber_31 : decode cX9_readNumber 31 = .ok (.iconst 1, 1) := by decide +kernel
theorem dX9_readNumber_32 : decode cX9_readNumber 32 = .ok (.ireturn, 1) := by decide +kernel
theorem dX9_readNumber_33 : decode cX9_readNumber 33 = .ok (.aload_n 0, 1) := by decide +kernel
theorem dX9_readNumber_34 : decode cX9_readNumber 34 = .ok (.bipush 10, 2) := by decide +kernel
theorem dX9_readNumber_36 : decode cX9_readNumber 36 = .ok (.iload_n 2, 1) := by decide +kernel
theorem dX9_readNumber_37 : decode cX9_readNumber 37 = .ok (.imul, 1) := by decide +kernel
theorem dX9_readNumber_38 : decode cX9_readNumber 38 = .ok (.iload_n 3, 1) := by decide +kernel
theorem dX9_readNumber_39 : decode cX9_readNumber 39 = .ok (.iadd, 1) := by decide +kernel
theorem dX9_readNumber_40 : decode cX9_readNumber 40 = .ok (.putfield 52, 3) := by decide +kernel
theorem dX9_readNumber_43 : decode cX9_readNumber 43 = .ok (.iconst 2, 1) := by decide +kernel
theorem dX9_readNumber_44 : decode cX9_readNumber 44 = .ok (.ireturn, 1) := by decide +kernel
theorem dX9_digitAt_0 : decode cX9_digitAt 0 = .ok (.iload_n 1, 1) := by decide +kernel
theorem dX9_digitAt_1 : decode cX9_digitAt 1 = .ok (.ifCond .lt 33, 3) := by decide +kernel
theorem dX9_digitAt_4 : decode cX9_digitAt 4 = .ok (.iload_n 1, 1) := by decide +kernel
theorem dX9_digitAt_5 : decode cX9_digitAt 5 = .ok (.aload_n 0, 1) := by decide +kernel
theorem dX9_digitAt_6 : decode cX9_digitAt 6 = .ok (.getfield 22, 3) := by decide +kernel
theorem dX9_digitAt_9 : decode cX9_digitAt 9 = .ok (.if_icmp .ge 25, 3) := by decide +kernel
theorem dX9_digitAt_12 : decode cX9_digitAt 12 = .ok (.aload_n 0, 1) := by decide +kernel
theorem dX9_digitAt_13 : decode cX9_digitAt 13 = .ok (.getfield 9, 3) := by decide +kernel
theorem dX9_digitAt_16 : decode cX9_digitAt 16 = .ok (.iload_n 1, 1) := by decide +kernel
theorem dX9_digitAt_17 : decode cX9_digitAt 17 = .ok (.caload, 1) := by decide +kernel
theorem dX9_digitAt_18 : decode cX9_digitAt 18 = .ok (.bipush 48, 2) := by decide +kernel
theorem dX9_digitAt_20 : decode cX9_digitAt 20 = .ok (.if_icmp .lt 14, 3) := by decide +kernel
theorem dX9_digitAt_23 : decode cX9_digitAt 23 = .ok (.aload_n 0, 1) := by decide +kernel
theorem dX9_digitAt_24 : decode cX9_digitAt 24 = .ok (.getfield 9, 3) := by decide +kernel
theorem dX9_digitAt_27 : decode cX9_digitAt 27 = .ok (.iload_n 1, 1) := by decide +kernel
theorem dX9_digitAt_28 : decode cX9_digitAt 28 = .ok (.caload, 1) := by decide +kernel
theorem dX9_digitAt_29 : decode cX9_digitAt 29 = .ok (.bipush 57, 2) := by decide +kernel
theorem dX9_digitAt_31 : decode cX9_digitAt 31 = .ok (.if_icmp .le 5, 3) := by decide +kernel
theorem dX9_digitAt_34 : decode cX9_digitAt 34 = .ok (.iconst (-1), 1) := by decide +kernel
theorem dX9_digitAt_35 : decode cX9_digitAt 35 = .ok (.ireturn, 1) := by decide +kernel
theorem dX9_digitAt_36 : decode cX9_digitAt 36 = .ok (.aload_n 0, 1) := by decide +kernel
theorem dX9_digitAt_37 : decode cX9_digitAt 37 = .ok (.getfield 9, 3) := by decide +kernel
theorem dX9_digitAt_40 : decode cX9_digitAt 40 = .ok (.iload_n 1, 1) := by decide +kernel
theorem dX9_digitAt_41 : decode cX9_digitAt 41 = .ok (.caload, 1) := by decide +kernel
theorem dX9_digitAt_42 : decode cX9_digitAt 42 = .ok (.bipush 48, 2) := by decide +kernel
theorem dX9_digitAt_44 : decode cX9_digitAt 44 = .ok (.isub, 1) := by decide +kernel
theorem dX9_digitAt_45 : decode cX9_digitAt 45 = .ok (.ireturn, 1) := by decide +kernel
theorem dX10_init_0 : decode cX10_init 0 = .ok (.aload_n 0, 1) := by decide +kernel
theorem dX10_init_1 : decode cX10_init 1 = .ok (.invokespecial 3, 3) := by decide +kernel
theorem dX10_init_4 : decode cX10_init 4 = .ok (.aload_n 0, 1) := by decide +kernel
theorem dX10_init_5 : decode cX10_init 5 = .ok (.bipush 36, 2) := by decide +kernel
theorem dX10_init_7 : decode cX10_init 7 = .ok (.newarray .int, 2) := by decide +kernel
theorem dX10_init_9 : decode cX10_init 9 = .ok (.putfield 9, 3) := by decide +kernel
theorem dX10_init_12 : decode cX10_init 12 = .ok (.return_, 1) := by decide +kernel
theorem dX10_separate_0 : decode cX10_separate 0 = .ok (.iconst 0, 1) := by decide +kernel
theorem dX10_separate_1 : decode cX10_separate 1 = .ok (.istore_n 1, 1) := by decide +kernel
theorem dX10_separate_2 : decode cX10_separate 2 = .ok (.iload_n 1, 1) := by decide +kernel
theorem dX10_separate_3 : decode cX10_separate 3 = .ok (.bipush 36, 2) := by decide +kernel
theorem dX10_separate_5 : decode cX10_separate 5 = .ok (.if_icmp .ge 16, 3) := by decide +kernel
theorem dX10_separate_8 : decode cX10_separate 8 = .ok (.aload_n 0, 1) := by decide +kernel
theorem dX10_separate_9 : decode cX10_separate 9 = .ok (.getfield 9, 3) := by decide +kernel
theorem dX10_separate_12 : decode cX10_separate 12 = .ok (.iload_n 1, 1) := by decide +kernel
theorem dX10_separate_13 : decode cX10_separate 13 = .ok (.iload_n 1, 1) := by decide +kernel
theorem dX10_separate_14 : decode cX10_separate 14 = .ok (.iastore, 1) := by decide +kernel
theorem dX10_separate_15 : decode cX10_separate 15 = .ok (.iinc 1 1, 3) := by decide +kernel
theorem dX10_separate_18 : decode cX10_separate 18 = .ok (.goto (-16), 3) := by decide +kernel
theorem dX10_separate_21 : decode cX10_separate 21 = .ok (.return_, 1) := by decide +kernel
theorem dX10_rootOf_0 : decode cX10_rootOf 0 = .ok (.iload_n 1, 1) := by decide +kernel
theorem dX10_rootOf_1 : decode cX10_rootOf 1 = .ok (.istore_n 2, 1) := by decide +kernel
theorem dX10_rootOf_2 : decode cX10_rootOf 2 = .ok (.iconst 0, 1) := by decide +kernel
theorem dX10_rootOf_3 : decode cX10_rootOf 3 = .ok (.istore_n 3, 1) := by decide +kernel
theorem dX10_rootOf_4 : decode cX10_rootOf 4 = .ok (.iload_n 3, 1) := by decide +kernel
theorem dX10_rootOf_5 : decode cX10_rootOf 5 = .ok (.bipush 36, 2) := by decide +kernel
theorem dX10_rootOf_7 : decode cX10_rootOf 7 = .ok (.if_icmp .ge 26, 3) := by decide +kernel
theorem dX10_rootOf_10 : decode cX10_rootOf 10 = .ok (.aload_n 0, 1) := by decide +kernel
theorem dX10_rootOf_11 : decode cX10_rootOf 11 = .ok (.getfield 9, 3) := by decide +kernel
theorem dX10_rootOf_14 : decode cX10_rootOf 14 = .ok (.iload_n 2, 1) := by decide +kernel
theorem dX10_rootOf_15 : decode cX10_rootOf 15 = .ok (.iaload, 1) := by decide +kernel
theorem dX10_rootOf_16 : decode cX10_rootOf 16 = .ok (.iload_n 2, 1) := by decide +kernel
theorem dX10_rootOf_17 : decode cX10_rootOf 17 = .ok (.if_icmp .eq 16, 3) := by decide +kernel
theorem dX10_rootOf_20 : decode cX10_rootOf 20 = .ok (.aload_n 0, 1) := by decide +kernel
theorem dX10_rootOf_21 : decode cX10_rootOf 21 = .ok (.getfield 9, 3) := by decide +kernel
theorem dX10_rootOf_24 : decode cX10_rootOf 24 = .ok (.iload_n 2, 1) := by decide +kernel
theorem dX10_rootOf_25 : decode cX10_rootOf 25 = .ok (.iaload, 1) := by decide +kernel
theorem dX10_rootOf_26 : decode cX10_rootOf 26 = .ok (.istore_n 2, 1) := by decide +kernel
theorem dX10_rootOf_27 : decode cX10_rootOf 27 = .ok (.iinc 3 1, 3) := by decide +kernel
theorem dX10_rootOf_30 : decode cX10_rootOf 30 = .ok (.goto (-26), 3) := by decide +kernel
theorem dX10_rootOf_33 : decode cX10_rootOf 33 = .ok (.iload_n 2, 1) := by decide +kernel
theorem dX10_rootOf_34 : decode cX10_rootOf 34 = .ok (.ireturn, 1) := by decide +kernel
theorem dX10_unite_0 : decode cX10_unite 0 = .ok (.aload_n 0, 1) := by decide +kernel
theorem dX10_unite_1 : decode cX10_unite 1 = .ok (.iload_n 1, 1) := by decide +kernel
theorem dX10_unite_2 : decode cX10_unite 2 = .ok (.invokevirtual 15, 3) := by decide +kernel
theorem dX10_unite_5 : decode cX10_unite 5 = .ok (.istore_n 3, 1) := by decide +kernel
theorem dX10_unite_6 : decode cX10_unite 6 = .ok (.aload_n 0, 1) := by decide +kernel
theorem dX10_unite_7 : decode cX10_unite 7 = .ok (.iload_n 2, 1) := by decide +kernel
theorem dX10_unite_8 : decode cX10_unite 8 = .ok (.invokevirtual 15, 3) := by decide +kernel
theorem dX10_unite_11 : decode cX10_unite 11 = .ok (.istore 4, 2) := by decide +kernel
theorem dX10_unite_13 : decode cX10_unite 13 = .ok (.aload_n 0, 1) := by decide +kernel
theorem dX10_unite_14 : decode cX10_unite 14 = .ok (.getfield 9, 3) := by decide +kernel
theorem dX10_unite_17 : decode cX10_unite 17 = .ok (.iload 4, 2) := by decide +kernel
theorem dX10_unite_19 : decode cX10_unite 19 = .ok (.iload_n 3, 1) := by decide +kernel
theorem dX10_unite_20 : decode cX10_unite 20 = .ok (.iastore, 1) := by decide +kernel
theorem dX10_unite_21 : decode cX10_unite 21 = .ok (.iload_n 3, 1) := by decide +kernel
theorem dX10_unite_22 : decode cX10_unite 22 = .ok (.iload 4, 2) := by decide +kernel
theorem dX10_unite_24 : decode cX10_unite 24 = .ok (.if_icmp .eq 7, 3) := by decide +kernel
theorem dX10_unite_27 : decode cX10_unite 27 = .ok (.iconst 1, 1) := by decide +kernel
theorem dX10_unite_28 : decode cX10_unite 28 = .ok (.goto 4, 3) := by decide +kernel
theorem dX10_unite_31 : decode cX10_unite 31 = .ok (.iconst 0, 1) := by decide +kernel
theorem dX10_unite_32 : decode cX10_unite 32 = .ok (.ireturn, 1) := by decide +kernel
theorem dX12_init_0 : decode cX12_init 0 = .ok (.aload_n 0, 1) := by decide +kernel
theorem dX12_init_1 : decode cX12_init 1 = .ok (.invokespecial 3, 3) := by decide +kernel
theorem dX12_init_4 : decode cX12_init 4 = .ok (.aload_n 0, 1) := by decide +kernel
theorem dX12_init_5 : decode cX12_init 5 = .ok (.new 9, 3) := by decide +kernel
theorem dX12_init_8 : decode cX12_init 8 = .ok (.dup, 1) := by decide +kernel
theorem dX12_init_9 : decode cX12_init 9 = .ok (.invokespecial 11, 3) := by decide +kernel
theorem dX12_init_12 : decode cX12_init 12 = .ok (.putfield 12, 3) := by decide +kernel
theorem dX12_init_15 : decode cX12_init 15 = .ok (.aload_n 0, 1) := by decide +kernel
theorem dX12_init_16 : decode cX12_init 16 = .ok (.new 9, 3) := by decide +kernel
theorem dX12_init_19 : decode cX12_init 19 = .ok (.dup, 1) := by decide +kernel
theorem dX12_init_20 : decode cX12_init 20 = .ok (.invokespecial 11, 3) := by decide +kernel
theorem dX12_init_23 : decode cX12_init 23 = .ok (.putfield 16, 3) := by decide +kernel
theorem dX12_init_26 : decode cX12_init 26 = .ok (.aload_n 0, 1) := by decide +kernel
theorem dX12_init_27 : decode cX12_init 27 = .ok (.new 9, 3) := by decide +kernel
theorem dX12_init_30 : decode cX12_init 30 = .ok (.dup, 1) := by decide +kernel
theorem dX12_init_31 : decode cX12_init 31 = .ok (.invokespecial 11, 3) := by decide +kernel
theorem dX12_init_34 : decode cX12_init 34 = .ok (.putfield 19, 3) := by decide +kernel
theorem dX12_init_37 : decode cX12_init 37 = .ok (.aload_n 0, 1) := by decide +kernel
theorem dX12_init_38 : decode cX12_init 38 = .ok (.new 9, 3) := by decide +kernel
theorem dX12_init_41 : decode cX12_init 41 = .ok (.dup, 1) := by decide +kernel
theorem dX12_init_42 : decode cX12_init 42 = .ok (.invokespecial 11, 3) := by decide +kernel
theorem dX12_init_45 : decode cX12_init 45 = .ok (.putfield 22, 3) := by decide +kernel
theorem dX12_init_48 : decode cX12_init 48 = .ok (.aload_n 0, 1) := by decide +kernel
theorem dX12_init_49 : decode cX12_init 49 = .ok (.new 25, 3) := by decide +kernel
theorem dX12_init_52 : decode cX12_init 52 = .ok (.dup, 1) := by decide +kernel
theorem dX12_init_53 : decode cX12_init 53 = .ok (.invokespecial 27, 3) := by decide +kernel
theorem dX12_init_56 : decode cX12_init 56 = .ok (.putfield 28, 3) := by decide +kernel
theorem dX12_init_59 : decode cX12_init 59 = .ok (.aload_n 0, 1) := by decide +kernel
theorem dX12_init_60 : decode cX12_init 60 = .ok (.new 32, 3) := by decide +kernel
theorem dX12_init_63 : decode cX12_init 63 = .ok (.dup, 1) := by decide +kernel
theorem dX12_init_64 : decode cX12_init 64 = .ok (.invokespecial 34, 3) := by decide +kernel
theorem dX12_init_67 : decode cX12_init 67 = .ok (.putfield 35, 3) := by decide +kernel
theorem dX12_init_70 : decode cX12_init 70 = .ok (.aload_n 0, 1) := by decide +kernel
theorem dX12_init_71 : decode cX12_init 71 = .ok (.new 39, 3) := by decide +kernel
theorem dX12_init_74 : decode cX12_init 74 = .ok (.dup, 1) := by decide +kernel
theorem dX12_init_75 : decode cX12_init 75 = .ok (.invokespecial 41, 3) := by decide +kernel
theorem dX12_init_78 : decode cX12_init 78 = .ok (.putfield 42, 3) := by decide +kernel
theorem dX12_init_81 : decode cX12_init 81 = .ok (.aload_n 0, 1) := by decide +kernel
theorem dX12_init_82 : decode cX12_init 82 = .ok (.new 46, 3) := by decide +kernel
theorem dX12_init_85 : decode cX12_init 85 = .ok (.dup, 1) := by decide +kernel
theorem dX12_init_86 : decode cX12_init 86 = .ok (.invokespecial 48, 3) := by decide +kernel
theorem dX12_init_89 : decode cX12_init 89 = .ok (.putfield 49, 3) := by decide +kernel
theorem dX12_init_92 : decode cX12_init 92 = .ok (.aload_n 0, 1) := by decide +kernel
theorem dX12_init_93 : decode cX12_init 93 = .ok (.new 53, 3) := by decide +kernel
theorem dX12_init_96 : decode cX12_init 96 = .ok (.dup, 1) := by decide +kernel
theorem dX12_init_97 : decode cX12_init 97 = .ok (.invokespecial 55, 3) := by decide +kernel
theorem dX12_init_100 : decode cX12_init 100 = .ok (.putfield 56, 3) := by decide +kernel
theorem dX12_init_103 : decode cX12_init 103 = .ok (.aload_n 0, 1) := by decide +kernel
theorem dX12_init_104 : decode cX12_init 104 = .ok (.new 60, 3) := by decide +kernel
theorem dX12_init_107 : decode cX12_init 107 = .ok (.dup, 1) := by decide +kernel
theorem dX12_init_108 : decode cX12_init 108 = .ok (.invokespecial 62, 3) := by decide +kernel
theorem dX12_init_111 : decode cX12_init 111 = .ok (.putfield 63, 3) := by decide +kernel
theorem dX12_init_114 : decode cX12_init 114 = .ok (.aload_n 0, 1) := by decide +kernel
theorem dX12_init_115 : decode cX12_init 115 = .ok (.iconst (-1), 1) := by decide +kernel
theorem dX12_init_116 : decode cX12_init 116 = .ok (.putfield 67, 3) := by decide +kernel
theorem dX12_init_119 : decode cX12_init 119 = .ok (.aload_n 0, 1) := by decide +kernel
theorem dX12_init_120 : decode cX12_init 120 = .ok (.iconst (-1), 1) := by decide +kernel
theorem dX12_init_121 : decode cX12_init 121 = .ok (.putfield 71, 3) := by decide +kernel
theorem dX12_init_124 : decode cX12_init 124 = .ok (.aload_n 0, 1) := by decide +kernel
theorem dX12_init_125 : decode cX12_init 125 = .ok (.iconst (-1), 1) := by decide +kernel
theorem dX12_init_126 : decode cX12_init 126 = .ok (.putfield 74, 3) := by decide +kernel
theorem dX12_init_129 : decode cX12_init 129 = .ok (.aload_n 0, 1) := by decide +kernel
theorem dX12_init_130 : decode cX12_init 130 = .ok (.iconst (-1), 1) := by decide +kernel
theorem dX12_init_131 : decode cX12_init 131 = .ok (.putfield 77, 3) := by decide +kernel
theorem dX12_init_134 : decode cX12_init 134 = .ok (.return_, 1) := by decide +kernel
theorem dX12_setHeight_0 : decode cX12_setHeight 0 = .ok (.aload_n 0, 1) := by decide +kernel
theorem dX12_setHeight_1 : decode cX12_setHeight 1 = .ok (.new 80, 3) := by decide +kernel
theorem dX12_setHeight_4 : decode cX12_setHeight 4 = .ok (.dup, 1) := by decide +kernel
theorem dX12_setHeight_5 : decode cX12_setHeight 5 = .ok (.getstatic 82, 3) := by decide +kernel
theorem dX12_setHeight_8 : decode cX12_setHeight 8 = .ok (.iload_n 1, 1) := by decide +kernel
theorem dX12_setHeight_9 : decode cX12_setHeight 9 = .ok (.iload_n 2, 1) := by decide +kernel
theorem dX12_setHeight_10 : decode cX12_setHeight 10 = .ok (.invokestatic 88, 3) := by decide +kernel
theorem dX12_setHeight_13 : decode cX12_setHeight 13 = .ok (.iload_n 3, 1) := by decide +kernel
theorem dX12_setHeight_14 : decode cX12_setHeight 14 = .ok (.invokespecial 92, 3) := by decide +kernel
theorem dX12_setHeight_17 : decode cX12_setHeight 17 = .ok (.invokevirtual 95, 3) := by decide +kernel
theorem dX12_setHeight_20 : decode cX12_setHeight 20 = .ok (.ireturn, 1) := by decide +kernel
theorem dX12_peg_0 : decode cX12_peg 0 = .ok (.aload_n 0, 1) := by decide +kernel
theorem dX12_peg_1 : decode cX12_peg 1 = .ok (.new 80, 3) := by decide +kernel
theorem dX12_peg_4 : decode cX12_peg 4 = .ok (.dup, 1) := by decide +kernel
theorem dX12_peg_5 : decode cX12_peg 5 = .ok (.getstatic 99, 3) := by decide +kernel
theorem dX12_peg_8 : decode cX12_peg 8 = .ok (.iload_n 1, 1) := by decide +kernel
theorem dX12_peg_9 : decode cX12_peg 9 = .ok (.iload_n 2, 1) := by decide +kernel
theorem dX12_peg_10 : decode cX12_peg 10 = .ok (.invokestatic 88, 3) := by decide +kernel
theorem dX12_peg_13 : decode cX12_peg 13 = .ok (.iconst (-1), 1) := by decide +kernel
theorem dX12_peg_14 : decode cX12_peg 14 = .ok (.invokespecial 92, 3) := by decide +kernel
theorem dX12_peg_17 : decode cX12_peg 17 = .ok (.invokevirtual 95, 3) := by decide +kernel
theorem dX12_peg_20 : decode cX12_peg 20 = .ok (.ireturn, 1) := by decide +kernel
theorem dX12_unpeg_0 : decode cX12_unpeg 0 = .ok (.aload_n 0, 1) := by decide +kernel
theorem dX12_unpeg_1 : decode cX12_unpeg 1 = .ok (.new 80, 3) := by decide +kernel
theorem dX12_unpeg_4 : decode cX12_unpeg 4 = .ok (.dup, 1) := by decide +kernel
theorem dX12_unpeg_5 : decode cX12_unpeg 5 = .ok (.getstatic 102, 3) := by decide +kernel
theorem dX12_unpeg_8 : decode cX12_unpeg 8 = .ok (.iload_n 1, 1) := by decide +kernel
theorem dX12_unpeg_9 : decode cX12_unpeg 9 = .ok (.iload_n 2, 1) := by decide +kernel
theorem dX12_unpeg_10 : decode cX12_unpeg 10 = .ok (.invokestatic 88, 3) := by decide +kernel
theorem dX12_unpeg_13 : decode cX12_unpeg 13 = .ok (.iconst (-1), 1) := by decide +kernel
theorem dX12_unpeg_14 : decode cX12_unpeg 14 = .ok (.invokespecial 92, 3) := by decide +kernel
theorem dX12_unpeg_17 : decode cX12_unpeg 17 = .ok (.invokevirtual 95, 3) := by decide +kernel
theorem dX12_unpeg_20 : decode cX12_unpeg 20 = .ok (.ireturn, 1) := by decide +kernel
theorem dX12_drape_0 : decode cX12_drape 0 = .ok (.aload_n 0, 1) := by decide +kernel
theorem dX12_drape_1 : decode cX12_drape 1 = .ok (.new 80, 3) := by decide +kernel
theorem dX12_drape_4 : decode cX12_drape 4 = .ok (.dup, 1) := by decide +kernel
theorem dX12_drape_5 : decode cX12_drape 5 = .ok (.getstatic 105, 3) := by decide +kernel
theorem dX12_drape_8 : decode cX12_drape 8 = .ok (.iconst (-1), 1) := by decide +kernel
theorem dX12_drape_9 : decode cX12_drape 9 = .ok (.iconst (-1), 1) := by decide +kernel
theorem dX12_drape_10 : decode cX12_drape 10 = .ok (.invokespecial 92, 3) := by decide +kernel
theorem dX12_drape_13 : decode cX12_drape 13 = .ok (.invokevirtual 95, 3) := by decide +kernel
theorem dX12_drape_16 : decode cX12_drape 16 = .ok (.ireturn, 1) := by decide +kernel
theorem dX12_height_0 : decode cX12_height 0 = .ok (.aload_n 0, 1) := by decide +kernel
theorem dX12_height_1 : decode cX12_height 1 = .ok (.getfield 12, 3) := by decide +kernel
theorem dX12_height_4 : decode cX12_height 4 = .ok (.getfield 108, 3) := by decide +kernel
theorem dX12_height_7 : decode cX12_height 7 = .ok (.iload_n 1, 1) := by decide +kernel
theorem dX12_height_8 : decode cX12_height 8 = .ok (.iload_n 2, 1) := by decide +kernel
theorem dX12_height_9 : decode cX12_height 9 = .ok (.invokestatic 112, 3) := by decide +kernel
theorem dX12_height_12 : decode cX12_height 12 = .ok (.iaload, 1) := by decide +kernel
theorem dX12_height_13 : decode cX12_height 13 = .ok (.ireturn, 1) := by decide +kernel
theorem dX12_isPegged_0 : decode cX12_isPegged 0 = .ok (.aload_n 0, 1) := by decide +kernel
theorem dX12_isPegged_1 : decode cX12_isPegged 1 = .ok (.getfield 12, 3) := by decide +kernel
theorem dX12_isPegged_4 : decode cX12_isPegged 4 = .ok (.getfield 115, 3) := by decide +kernel
theorem dX12_isPegged_7 : decode cX12_isPegged 7 = .ok (.iload_n 1, 1) := by decide +kernel
theorem dX12_isPegged_8 : decode cX12_isPegged 8 = .ok (.iload_n 2, 1) := by decide +kernel
theorem dX12_isPegged_9 : decode cX12_isPegged 9 = .ok (.invokestatic 112, 3) := by decide +kernel
theorem dX12_isPegged_12 : decode cX12_isPegged 12 = .ok (.baload, 1) := by decide +kernel
theorem dX12_isPegged_13 : decode cX12_isPegged 13 = .ok (.ireturn, 1) := by decide +kernel
theorem dX12_rowByHeight_0 : decode cX12_rowByHeight 0 = .ok (.aload_n 0, 1) := by decide +kernel
theorem dX12_rowByHeight_1 : decode cX12_rowByHeight 1 = .ok (.iload_n 1, 1) := by decide +kernel
theorem dX12_rowByHeight_2 : decode cX12_rowByHeight 2 = .ok (.invokevirtual 119, 3) := by decide +kernel
theorem dX12_rowByHeight_5 : decode cX12_rowByHeight 5 = .ok (.bipush 6, 2) := by decide +kernel
theorem dX12_rowByHeight_7 : decode cX12_rowByHeight 7 = .ok (.idiv, 1) := by decide +kernel
theorem dX12_rowByHeight_8 : decode cX12_rowByHeight 8 = .ok (.ireturn, 1) := by decide +kernel
theorem dX12_columnByHeight_0 : decode cX12_columnByHeight 0 = .ok (.aload_n 0, 1) := by decide +kernel
theorem dX12_columnByHeight_1 : decode cX12_columnByHeight 1 = .ok (.iload_n 1, 1) := by decide +kernel
theorem dX12_columnByHeight_2 : decode cX12_columnByHeight 2 = .ok (.invokevirtual 119, 3) := by decide +kernel
theorem dX12_columnByHeight_5 : decode cX12_columnByHeight 5 = .ok (.bipush 6, 2) := by decide +kernel
theorem dX12_columnByHeight_7 : decode cX12_columnByHeight 7 = .ok (.irem, 1) := by decide +kernel
theorem dX12_columnByHeight_8 : decode cX12_columnByHeight 8 = .ok (.ireturn, 1) := by decide +kernel
theorem dX12_islands_0 : decode cX12_islands 0 = .ok (.iload_n 1, 1) := by decide +kernel
theorem dX12_islands_1 : decode cX12_islands 1 = .ok (.invokestatic 123, 3) := by decide +kernel
theorem dX12_islands_4 : decode cX12_islands 4 = .ok (.aload_n 0, 1) := by decide +kernel
theorem dX12_islands_5 : decode cX12_islands 5 = .ok (.getfield 35, 3) := by decide +kernel
theorem dX12_islands_8 : decode cX12_islands 8 = .ok (.aload_n 0, 1) := by decide +kernel
theorem dX12_islands_9 : decode cX12_islands 9 = .ok (.getfield 12, 3) := by decide +kernel
theorem dX12_islands_12 : decode cX12_islands 12 = .ok (.iload_n 1, 1) := by decide +kernel
theorem dX12_islands_13 : decode cX12_islands 13 = .ok (.invokevirtual 127, 3) := by decide +kernel
theorem dX12_islands_16 : decode cX12_islands 16 = .ok (.ireturn, 1) := by decide +kernel
theorem dX12_islandsByUnions_0 : decode cX12_islandsByUnions 0 = .ok (.iload_n 1, 1) := by decide +kernel
theorem dX12_islandsByUnions_1 : decode cX12_islandsByUnions 1 = .ok (.invokestatic 123, 3) := by decide +kernel
theorem dX12_islandsByUnions_4 : decode cX12_islandsByUnions 4 = .ok (.aload_n 0, 1) := by decide +kernel
theorem dX12_islandsByUnions_5 : decode cX12_islandsByUnions 5 = .ok (.getfield 35, 3) := by decide +kernel
theorem dX12_islandsByUnions_8 : decode cX12_islandsByUnions 8 = .ok (.aload_n 0, 1) := by decide +kernel
theorem dX12_islandsByUnions_9 : decode cX12_islandsByUnions 9 = .ok (.getfield 12, 3) := by decide +kernel
theorem dX12_islandsByUnions_12 : decode cX12_islandsByUnions 12 = .ok (.iload_n 1, 1) := by decide +kernel
theorem dX12_islandsByUnions_13 : decode cX12_islandsByUnions 13 = .ok (.invokevirtual 131, 3) := by decide +kernel
theorem dX12_islandsByUnions_16 : decode cX12_islandsByUnions 16 = .ok (.ireturn, 1) := by decide +kernel
theorem dX12_pour_0 : decode cX12_pour 0 = .ok (.aload_n 0, 1) := by decide +kernel
theorem dX12_pour_1 : decode cX12_pour 1 = .ok (.new 80, 3) := by decide +kernel
theorem dX12_pour_4 : decode cX12_pour 4 = .ok (.dup, 1) := by decide +kernel
theorem dX12_pour_5 : decode cX12_pour 5 = .ok (.getstatic 134, 3) := by decide +kernel
theorem dX12_pour_8 : decode cX12_pour 8 = .ok (.iload_n 1, 1) := by decide +kernel
theorem dX12_pour_9 : decode cX12_pour 9 = .ok (.iload_n 2, 1) := by decide +kernel
theorem dX12_pour_10 : decode cX12_pour 10 = .ok (.invokestatic 88, 3) := by decide +kernel
theorem dX12_pour_13 : decode cX12_pour 13 = .ok (.iload_n 3, 1) := by decide +kernel
theorem dX12_pour_14 : decode cX12_pour 14 = .ok (.invokespecial 92, 3) := by decide +kernel
theorem dX12_pour_17 : decode cX12_pour 17 = .ok (.invokevirtual 95, 3) := by decide +kernel
theorem dX12_pour_20 : decode cX12_pour 20 = .ok (.ireturn, 1) := by decide +kernel
theorem dX12_settle_0 : decode cX12_settle 0 = .ok (.aload_n 0, 1) := by decide +kernel
theorem dX12_settle_1 : decode cX12_settle 1 = .ok (.new 80, 3) := by decide +kernel
theorem dX12_settle_4 : decode cX12_settle 4 = .ok (.dup, 1) := by decide +kernel
theorem dX12_settle_5 : decode cX12_settle 5 = .ok (.getstatic 137, 3) := by decide +kernel
theorem dX12_settle_8 : decode cX12_settle 8 = .ok (.iconst (-1), 1) := by decide +kernel
theorem dX12_settle_9 : decode cX12_settle 9 = .ok (.iconst (-1), 1) := by decide +kernel
theorem dX12_settle_10 : decode cX12_settle 10 = .ok (.invokespecial 92, 3) := by decide +kernel
theorem dX12_settle_13 : decode cX12_settle 13 = .ok (.invokevirtual 95, 3) := by decide +kernel
theorem dX12_settle_16 : decode cX12_settle 16 = .ok (.ireturn, 1) := by decide +kernel
theorem dX12_water_0 : decode cX12_water 0 = .ok (.aload_n 0, 1) := by decide +kernel
theorem dX12_water_1 : decode cX12_water 1 = .ok (.getfield 12, 3) := by decide +kernel
theorem dX12_water_4 : decode cX12_water 4 = .ok (.getfield 140, 3) := by decide +kernel
theorem dX12_water_7 : decode cX12_water 7 = .ok (.iload_n 1, 1) := by decide +kernel
theorem dX12_water_8 : decode cX12_water 8 = .ok (.iload_n 2, 1) := by decide +kernel
theorem dX12_water_9 : decode cX12_water 9 = .ok (.invokestatic 112, 3) := by decide +kernel
theorem dX12_water_12 : decode cX12_water 12 = .ok (.iaload, 1) := by decide +kernel
theorem dX12_water_13 : decode cX12_water 13 = .ok (.ireturn, 1) := by decide +kernel
theorem dX12_endRow_0 : decode cX12_endRow 0 = .ok (.aload_n 0, 1) := by decide +kernel
theorem dX12_endRow_1 : decode cX12_endRow 1 = .ok (.getfield 12, 3) := by decide +kernel
theorem dX12_endRow_4 : decode cX12_endRow 4 = .ok (.iload_n 1, 1) := by decide +kernel
theorem dX12_endRow_5 : decode cX12_endRow 5 = .ok (.iload_n 2, 1) := by decide +kernel
theorem dX12_endRow_6 : decode cX12_endRow 6 = .ok (.invokestatic 112, 3) := by decide +kernel
theorem dX12_endRow_9 : decode cX12_endRow 9 = .ok (.invokevirtual 143, 3) := by decide +kernel
theorem dX12_endRow_12 : decode cX12_endRow 12 = .ok (.bipush 6, 2) := by decide +kernel
theorem dX12_endRow_14 : decode cX12_endRow 14 = .ok (.idiv, 1) := by decide +kernel
theorem dX12_endRow_15 : decode cX12_endRow 15 = .ok (.ireturn, 1) := by decide +kernel
theorem dX12_endColumn_0 : decode cX12_endColumn 0 = .ok (.aload_n 0, 1) := by decide +kernel
theorem dX12_endColumn_1 : decode cX12_endColumn 1 = .ok (.getfield 12, 3) := by decide +kernel
theorem dX12_endColumn_4 : decode cX12_endColumn 4 = .ok (.iload_n 1, 1) := by decide +kernel
theorem dX12_endColumn_5 : decode cX12_endColumn 5 = .ok (.iload_n 2, 1) := by decide +kernel
theorem dX12_endColumn_6 : decode cX12_endColumn 6 = .ok (.invokestatic 112, 3) := by decide +kernel
theorem dX12_endColumn_9 : decode cX12_endColumn 9 = .ok (.invokevirtual 143, 3) := by decide +kernel
theorem dX12_endColumn_12 : decode cX12_endColumn 12 = .ok (.bipush 6, 2) := by decide +kernel
theorem dX12_endColumn_14 : decode cX12_endColumn 14 = .ok (.irem, 1) := by decide +kernel
theorem dX12_endColumn_15 : decode cX12_endColumn 15 = .ok (.ireturn, 1) := by decide +kernel
theorem dX12_basins_0 : decode cX12_basins 0 = .ok (.aload_n 0, 1) := by decide +kernel
theorem dX12_basins_1 : decode cX12_basins 1 = .ok (.getfield 35, 3) := by decide +kernel
theorem dX12_basins_4 : decode cX12_basins 4 = .ok (.aload_n 0, 1) := by decide +kernel
theorem dX12_basins_5 : decode cX12_basins 5 = .ok (.getfield 12, 3) := by decide +kernel
theorem dX12_basins_8 : decode cX12_basins 8 = .ok (.invokevirtual 146, 3) := by decide +kernel
theorem dX12_basins_11 : decode cX12_basins 11 = .ok (.ireturn, 1) := by decide +kernel
theorem dX12_basinSize_0 : decode cX12_basinSize 0 = .ok (.aload_n 0, 1) := by decide +kernel
theorem dX12_basinSize_1 : decode cX12_basinSize 1 = .ok (.getfield 35, 3) := by decide +kernel
theorem dX12_basinSize_4 : decode cX12_basinSize 4 = .ok (.aload_n 0, 1) := by decide +kernel
theorem dX12_basinSize_5 : decode cX12_basinSize 5 = .ok (.getfield 12, 3) := by decide +kernel
theorem dX12_basinSize_8 : decode cX12_basinSize 8 = .ok (.iload_n 1, 1) := by decide +kernel
theorem dX12_basinSize_9 : decode cX12_basinSize 9 = .ok (.iload_n 2, 1) := by decide +kernel
theorem dX12_basinSize_10 : decode cX12_basinSize 10 = .ok (.invokestatic 112, 3) := by decide +kernel
theorem dX12_basinSize_13 : decode cX12_basinSize 13 = .ok (.invokevirtual 150, 3) := by decide +kernel
theorem dX12_basinSize_16 : decode cX12_basinSize 16 = .ok (.ireturn, 1) := by decide +kernel
theorem dX12_basinSizeUpwards_0 : decode cX12_basinSizeUpwards 0 = .ok (.aload_n 0, 1) := by decide +kernel
theorem dX12_basinSizeUpwards_1 : decode cX12_basinSizeUpwards 1 = .ok (.getfield 35, 3) := by decide +kernel
theorem dX12_basinSizeUpwards_4 : decode cX12_basinSizeUpwards 4 = .ok (.aload_n 0, 1) := by decide +kernel
theorem dX12_basinSizeUpwards_5 : decode cX12_basinSizeUpwards 5 = .ok (.getfield 12, 3) := by decide +kernel
theorem dX12_basinSizeUpwards_8 : decode cX12_basinSizeUpwards 8 = .ok (.iload_n 1, 1) := by decide +kernel
theorem dX12_basinSizeUpwards_9 : decode cX12_basinSizeUpwards 9 = .ok (.iload_n 2, 1) := by decide +kernel
theorem dX12_basinSizeUpwards_10 : decode cX12_basinSizeUpwards 10 = .ok (.invokestatic 112, 3) := by decide +kernel
theorem dX12_basinSizeUpwards_13 : decode cX12_basinSizeUpwards 13 = .ok (.invokevirtual 153, 3) := by decide +kernel
theorem dX12_basinSizeUpwards_16 : decode cX12_basinSizeUpwards 16 = .ok (.ireturn, 1) := by decide +kernel
theorem dX12_spillLevel_0 : decode cX12_spillLevel 0 = .ok (.aload_n 0, 1) := by decide +kernel
theorem dX12_spillLevel_1 : decode cX12_spillLevel 1 = .ok (.getfield 42, 3) := by decide +kernel
theorem dX12_spillLevel_4 : decode cX12_spillLevel 4 = .ok (.aload_n 0, 1) := by decide +kernel
theorem dX12_spillLevel_5 : decode cX12_spillLevel 5 = .ok (.getfield 12, 3) := by decide +kernel
theorem dX12_spillLevel_8 : decode cX12_spillLevel 8 = .ok (.iload_n 1, 1) := by decide +kernel
theorem dX12_spillLevel_9 : decode cX12_spillLevel 9 = .ok (.iload_n 2, 1) := by decide +kernel
theorem dX12_spillLevel_10 : decode cX12_spillLevel 10 = .ok (.invokestatic 112, 3) := by decide +kernel
theorem dX12_spillLevel_13 : decode cX12_spillLevel 13 = .ok (.invokevirtual 156, 3) := by decide +kernel
theorem dX12_spillLevel_16 : decode cX12_spillLevel 16 = .ok (.ireturn, 1) := by decide +kernel
theorem dX12_spillLevelByRounds_0 : decode cX12_spillLevelByRounds 0 = .ok (.aload_n 0, 1) := by decide +kernel
theorem dX12_spillLevelByRounds_1 : decode cX12_spillLevelByRounds 1 = .ok (.getfield 42, 3) := by decide +kernel
theorem dX12_spillLevelByRounds_4 : decode cX12_spillLevelByRounds 4 = .ok (.aload_n 0, 1) := by decide +kernel
theorem dX12_spillLevelByRounds_5 : decode cX12_spillLevelByRounds 5 = .ok (.getfield 12, 3) := by decide +kernel
theorem dX12_spillLevelByRounds_8 : decode cX12_spillLevelByRounds 8 = .ok (.iload_n 1, 1) := by decide +kernel
theorem dX12_spillLevelByRounds_9 : decode cX12_spillLevelByRounds 9 = .ok (.iload_n 2, 1) := by decide +kernel
theorem dX12_spillLevelByRounds_10 : decode cX12_spillLevelByRounds 10 = .ok (.invokestatic 112, 3) := by decide +kernel
theorem dX12_spillLevelByRounds_13 : decode cX12_spillLevelByRounds 13 = .ok (.invokevirtual 159, 3) := by decide +kernel
theorem dX12_spillLevelByRounds_16 : decode cX12_spillLevelByRounds 16 = .ok (.ireturn, 1) := by decide +kernel
theorem dX12_pondVolume_0 : decode cX12_pondVolume 0 = .ok (.aload_n 0, 1) := by decide +kernel
theorem dX12_pondVolume_1 : decode cX12_pondVolume 1 = .ok (.getfield 42, 3) := by decide +kernel
theorem dX12_pondVolume_4 : decode cX12_pondVolume 4 = .ok (.aload_n 0, 1) := by decide +kernel
theorem dX12_pondVolume_5 : decode cX12_pondVolume 5 = .ok (.getfield 12, 3) := by decide +kernel
theorem dX12_pondVolume_8 : decode cX12_pondVolume 8 = .ok (.invokevirtual 162, 3) := by decide +kernel
theorem dX12_pondVolume_11 : decode cX12_pondVolume 11 = .ok (.ireturn, 1) := by decide +kernel
theorem dX12_routeCost_0 : decode cX12_routeCost 0 = .ok (.iload_n 1, 1) := by decide +kernel
theorem dX12_routeCost_1 : decode cX12_routeCost 1 = .ok (.iload_n 2, 1) := by decide +kernel
theorem dX12_routeCost_2 : decode cX12_routeCost 2 = .ok (.invokestatic 112, 3) := by decide +kernel
theorem dX12_routeCost_5 : decode cX12_routeCost 5 = .ok (.istore 5, 2) := by decide +kernel
theorem dX12_routeCost_7 : decode cX12_routeCost 7 = .ok (.iload_n 3, 1) := by decide +kernel
theorem dX12_routeCost_8 : decode cX12_routeCost 8 = .ok (.iload 4, 2) := by decide +kernel
theorem dX12_routeCost_10 : decode cX12_routeCost 10 = .ok (.invokestatic 112, 3) := by decide +kernel
theorem dX12_routeCost_13 : decode cX12_routeCost 13 = .ok (.istore 6, 2) := by decide +kernel
theorem dX12_routeCost_15 : decode cX12_routeCost 15 = .ok (.aload_n 0, 1) := by decide +kernel
theorem dX12_routeCost_16 : decode cX12_routeCost 16 = .ok (.getfield 49, 3) := by decide +kernel
theorem dX12_routeCost_19 : decode cX12_routeCost 19 = .ok (.aload_n 0, 1) := by decide +kernel
theorem dX12_routeCost_20 : decode cX12_routeCost 20 = .ok (.getfield 12, 3) := by decide +kernel
theorem dX12_routeCost_23 : decode cX12_routeCost 23 = .ok (.iload 5, 2) := by decide +kernel
theorem dX12_routeCost_25 : decode cX12_routeCost 25 = .ok (.iload 6, 2) := by decide +kernel
theorem dX12_routeCost_27 : decode cX12_routeCost 27 = .ok (.invokevirtual 165, 3) := by decide +kernel
theorem dX12_routeCost_30 : decode cX12_routeCost 30 = .ok (.invokestatic 169, 3) := by decide +kernel
theorem dX12_routeCost_33 : decode cX12_routeCost 33 = .ok (.ireturn, 1) := by decide +kernel
theorem dX12_routeCostByRounds_0 : decode cX12_routeCostByRounds 0 = .ok (.iload_n 1, 1) := by decide +kernel
theorem dX12_routeCostByRounds_1 : decode cX12_routeCostByRounds 1 = .ok (.iload_n 2, 1) := by decide +kernel
theorem dX12_routeCostByRounds_2 : decode cX12_routeCostByRounds 2 = .ok (.invokestatic 112, 3) := by decide +kernel
theorem dX12_routeCostByRounds_5 : decode cX12_routeCostByRounds 5 = .ok (.istore 5, 2) := by decide +kernel
theorem dX12_routeCostByRounds_7 : decode cX12_routeCostByRounds 7 = .ok (.iload_n 3, 1) := by decide +kernel
theorem dX12_routeCostByRounds_8 : decode cX12_routeCostByRounds 8 = .ok (.iload 4, 2) := by decide +kernel
theorem dX12_routeCostByRounds_10 : decode cX12_routeCostByRounds 10 = .ok (.invokestatic 112, 3) := by decide +kernel
theorem dX12_routeCostByRounds_13 : decode cX12_routeCostByRounds 13 = .ok (.istore 6, 2) := by decide +kernel
theorem dX12_routeCostByRounds_15 : decode cX12_routeCostByRounds 15 = .ok (.aload_n 0, 1) := by decide +kernel
theorem dX12_routeCostByRounds_16 : decode cX12_routeCostByRounds 16 = .ok (.getfield 49, 3) := by decide +kernel
theorem dX12_routeCostByRounds_19 : decode cX12_routeCostByRounds 19 = .ok (.aload_n 0, 1) := by decide +kernel
theorem dX12_routeCostByRounds_20 : decode cX12_routeCostByRounds 20 = .ok (.getfield 12, 3) := by decide +kernel
theorem dX12_routeCostByRounds_23 : decode cX12_routeCostByRounds 23 = .ok (.iload 5, 2) := by decide +kernel
theorem dX12_routeCostByRounds_25 : decode cX12_routeCostByRounds 25 = .ok (.iload 6, 2) := by decide +kernel
theorem dX12_routeCostByRounds_27 : decode cX12_routeCostByRounds 27 = .ok (.invokevirtual 172, 3) := by decide +kernel
theorem dX12_routeCostByRounds_30 : decode cX12_routeCostByRounds 30 = .ok (.invokestatic 169, 3) := by decide +kernel
theorem dX12_routeCostByRounds_33 : decode cX12_routeCostByRounds 33 = .ok (.ireturn, 1) := by decide +kernel
theorem dX12_steepestStep_0 : decode cX12_steepestStep 0 = .ok (.iload_n 1, 1) := by decide +kernel
theorem dX12_steepestStep_1 : decode cX12_steepestStep 1 = .ok (.iload_n 2, 1) := by decide +kernel
theorem dX12_steepestStep_2 : decode cX12_steepestStep 2 = .ok (.invokestatic 112, 3) := by decide +kernel
theorem dX12_steepestStep_5 : decode cX12_steepestStep 5 = .ok (.istore 5, 2) := by decide +kernel
theorem dX12_steepestStep_7 : decode cX12_steepestStep 7 = .ok (.iload_n 3, 1) := by decide +kernel
theorem dX12_steepestStep_8 : decode cX12_steepestStep 8 = .ok (.iload 4, 2) := by decide +kernel
theorem dX12_steepestStep_10 : decode cX12_steepestStep 10 = .ok (.invokestatic 112, 3) := by decide +kernel
theorem dX12_steepestStep_13 : decode cX12_steepestStep 13 = .ok (.istore 6, 2) := by decide +kernel
theorem dX12_steepestStep_15 : decode cX12_steepestStep 15 = .ok (.aload_n 0, 1) := by decide +kernel
theorem dX12_steepestStep_16 : decode cX12_steepestStep 16 = .ok (.getfield 49, 3) := by decide +kernel
theorem dX12_steepestStep_19 : decode cX12_steepestStep 19 = .ok (.aload_n 0, 1) := by decide +kernel
theorem dX12_steepestStep_20 : decode cX12_steepestStep 20 = .ok (.getfield 12, 3) := by decide +kernel
theorem dX12_steepestStep_23 : decode cX12_steepestStep 23 = .ok (.iload 5, 2) := by decide +kernel
theorem dX12_steepestStep_25 : decode cX12_steepestStep 25 = .ok (.iload 6, 2) := by decide +kernel
theorem dX12_steepestStep_27 : decode cX12_steepestStep 27 = .ok (.invokevirtual 175, 3) := by decide +kernel
theorem dX12_steepestStep_30 : decode cX12_steepestStep 30 = .ok (.invokestatic 169, 3) := by decide +kernel
theorem dX12_steepestStep_33 : decode cX12_steepestStep 33 = .ok (.ireturn, 1) := by decide +kernel
theorem dX12_steepestStepByHalving_0 : decode cX12_steepestStepByHalving 0 = .ok (.iload_n 1, 1) := by decide +kernel
theorem dX12_steepestStepByHalving_1 : decode cX12_steepestStepByHalving 1 = .ok (.iload_n 2, 1) := by decide +kernel
theorem dX12_steepestStepByHalving_2 : decode cX12_steepestStepByHalving 2 = .ok (.invokestatic 112, 3) := by decide +kernel
theorem dX12_steepestStepByHalving_5 : decode cX12_steepestStepByHalving 5 = .ok (.istore 5, 2) := by decide +kernel
theorem dX12_steepestStepByHalving_7 : decode cX12_steepestStepByHalving 7 = .ok (.iload_n 3, 1) := by decide +kernel
theorem dX12_steepestStepByHalving_8 : decode cX12_steepestStepByHalving 8 = .ok (.iload 4, 2) := by decide +kernel
theorem dX12_steepestStepByHalving_10 : decode cX12_steepestStepByHalving 10 = .ok (.invokestatic 112, 3) := by decide +kernel
theorem dX12_steepestStepByHalving_13 : decode cX12_steepestStepByHalving 13 = .ok (.istore 6, 2) := by decide +kernel
theorem dX12_steepestStepByHalving_15 : decode cX12_steepestStepByHalving 15 = .ok (.aload_n 0, 1) := by decide +kernel
theorem dX12_steepestStepByHalving_16 : decode cX12_steepestStepByHalving 16 = .ok (.getfield 49, 3) := by decide +kernel
theorem dX12_steepestStepByHalving_19 : decode cX12_steepestStepByHalving 19 = .ok (.aload_n 0, 1) := by decide +kernel
theorem dX12_steepestStepByHalving_20 : decode cX12_steepestStepByHalving 20 = .ok (.getfield 12, 3) := by decide +kernel
theorem dX12_steepestStepByHalving_23 : decode cX12_steepestStepByHalving 23 = .ok (.iload 5, 2) := by decide +kernel
theorem dX12_steepestStepByHalving_25 : decode cX12_steepestStepByHalving 25 = .ok (.iload 6, 2) := by decide +kernel
theorem dX12_steepestStepByHalving_27 : decode cX12_steepestStepByHalving 27 = .ok (.invokevirtual 178, 3) := by decide +kernel
theorem dX12_steepestStepByHalving_30 : decode cX12_steepestStepByHalving 30 = .ok (.invokestatic 169, 3) := by decide +kernel
theorem dX12_steepestStepByHalving_33 : decode cX12_steepestStepByHalving 33 = .ok (.ireturn, 1) := by decide +kernel
theorem dX12_addMoth_0 : decode cX12_addMoth 0 = .ok (.aload_n 0, 1) := by decide +kernel
theorem dX12_addMoth_1 : decode cX12_addMoth 1 = .ok (.new 80, 3) := by decide +kernel
theorem dX12_addMoth_4 : decode cX12_addMoth 4 = .ok (.dup, 1) := by decide +kernel
theorem dX12_addMoth_5 : decode cX12_addMoth 5 = .ok (.getstatic 181, 3) := by decide +kernel
theorem dX12_addMoth_8 : decode cX12_addMoth 8 = .ok (.iload_n 1, 1) := by decide +kernel
theorem dX12_addMoth_9 : decode cX12_addMoth 9 = .ok (.iload_n 2, 1) := by decide +kernel
theorem dX12_addMoth_10 : decode cX12_addMoth 10 = .ok (.invokestatic 88, 3) := by decide +kernel
theorem dX12_addMoth_13 : decode cX12_addMoth 13 = .ok (.iconst (-1), 1) := by decide +kernel
theorem dX12_addMoth_14 : decode cX12_addMoth 14 = .ok (.invokespecial 92, 3) := by decide +kernel
theorem dX12_addMoth_17 : decode cX12_addMoth 17 = .ok (.invokevirtual 95, 3) := by decide +kernel
theorem dX12_addMoth_20 : decode cX12_addMoth 20 = .ok (.ireturn, 1) := by decide +kernel
theorem dX12_removeMoth_0 : decode cX12_removeMoth 0 = .ok (.aload_n 0, 1) := by decide +kernel
theorem dX12_removeMoth_1 : decode cX12_removeMoth 1 = .ok (.new 80, 3) := by decide +kernel
theorem dX12_removeMoth_4 : decode cX12_removeMoth 4 = .ok (.dup, 1) := by decide +kernel
theorem dX12_removeMoth_5 : decode cX12_removeMoth 5 = .ok (.getstatic 184, 3) := by decide +kernel
theorem dX12_removeMoth_8 : decode cX12_removeMoth 8 = .ok (.iconst (-1), 1) := by decide +kernel
theorem dX12_removeMoth_9 : decode cX12_removeMoth 9 = .ok (.iload_n 1, 1) := by decide +kernel
theorem dX12_removeMoth_10 : decode cX12_removeMoth 10 = .ok (.invokespecial 92, 3) := by decide +kernel
theorem dX12_removeMoth_13 : decode cX12_removeMoth 13 = .ok (.invokevirtual 95, 3) := by decide +kernel
theorem dX12_removeMoth_16 : decode cX12_removeMoth 16 = .ok (.ireturn, 1) := by decide +kernel
theorem dX12_passNight_0 : decode cX12_passNight 0 = .ok (.aload_n 0, 1) := by decide +kernel
theorem dX12_passNight_1 : decode cX12_passNight 1 = .ok (.new 80, 3) := by decide +kernel
theorem dX12_passNight_4 : decode cX12_passNight 4 = .ok (.dup, 1) := by decide +kernel
theorem dX12_passNight_5 : decode cX12_passNight 5 = .ok (.getstatic 187, 3) := by decide +kernel
theorem dX12_passNight_8 : decode cX12_passNight 8 = .ok (.iconst (-1), 1) := by decide +kernel
theorem dX12_passNight_9 : decode cX12_passNight 9 = .ok (.iconst (-1), 1) := by decide +kernel
theorem dX12_passNight_10 : decode cX12_passNight 10 = .ok (.invokespecial 92, 3) := by decide +kernel
theorem dX12_passNight_13 : decode cX12_passNight 13 = .ok (.invokevirtual 95, 3) := by decide +kernel
theorem dX12_passNight_16 : decode cX12_passNight 16 = .ok (.ireturn, 1) := by decide +kernel
theorem dX12_patch_0 : decode cX12_patch 0 = .ok (.aload_n 0, 1) := by decide +kernel
theorem dX12_patch_1 : decode cX12_patch 1 = .ok (.new 80, 3) := by decide +kernel
theorem dX12_patch_4 : decode cX12_patch 4 = .ok (.dup, 1) := by decide +kernel
theorem dX12_patch_5 : decode cX12_patch 5 = .ok (.getstatic 190, 3) := by decide +kernel
theorem dX12_patch_8 : decode cX12_patch 8 = .ok (.iload_n 1, 1) := by decide +kernel
theorem dX12_patch_9 : decode cX12_patch 9 = .ok (.iload_n 2, 1) := by decide +kernel
theorem dX12_patch_10 : decode cX12_patch 10 = .ok (.invokestatic 88, 3) := by decide +kernel
theorem dX12_patch_13 : decode cX12_patch 13 = .ok (.iconst (-1), 1) := by decide +kernel
theorem dX12_patch_14 : decode cX12_patch 14 = .ok (.invokespecial 92, 3) := by decide +kernel
theorem dX12_patch_17 : decode cX12_patch 17 = .ok (.invokevirtual 95, 3) := by decide +kernel
theorem dX12_patch_20 : decode cX12_patch 20 = .ok (.ireturn, 1) := by decide +kernel
theorem dX12_mothCount_0 : decode cX12_mothCount 0 = .ok (.aload_n 0, 1) := by decide +kernel
theorem dX12_mothCount_1 : decode cX12_mothCount 1 = .ok (.getfield 12, 3) := by decide +kernel
theorem dX12_mothCount_4 : decode cX12_mothCount 4 = .ok (.getfield 193, 3) := by decide +kernel
theorem dX12_mothCount_7 : decode cX12_mothCount 7 = .ok (.ireturn, 1) := by decide +kernel
theorem dX12_mothRow_0 : decode cX12_mothRow 0 = .ok (.aload_n 0, 1) := by decide +kernel
theorem dX12_mothRow_1 : decode cX12_mothRow 1 = .ok (.iload_n 1, 1) := by decide +kernel
theorem dX12_mothRow_2 : decode cX12_mothRow 2 = .ok (.invokevirtual 196, 3) := by decide +kernel
theorem dX12_mothRow_5 : decode cX12_mothRow 5 = .ok (.bipush 6, 2) := by decide +kernel
theorem dX12_mothRow_7 : decode cX12_mothRow 7 = .ok (.idiv, 1) := by decide +kernel
theorem dX12_mothRow_8 : decode cX12_mothRow 8 = .ok (.ireturn, 1) := by decide +kernel
theorem dX12_mothColumn_0 : decode cX12_mothColumn 0 = .ok (.aload_n 0, 1) := by decide +kernel
theorem dX12_mothColumn_1 : decode cX12_mothColumn 1 = .ok (.iload_n 1, 1) := by decide +kernel
theorem dX12_mothColumn_2 : decode cX12_mothColumn 2 = .ok (.invokevirtual 196, 3) := by decide +kernel
theorem dX12_mothColumn_5 : decode cX12_mothColumn 5 = .ok (.bipush 6, 2) := by decide +kernel
theorem dX12_mothColumn_7 : decode cX12_mothColumn 7 = .ok (.irem, 1) := by decide +kernel
theorem dX12_mothColumn_8 : decode cX12_mothColumn 8 = .ok (.ireturn, 1) := by decide +kernel
theorem dX12_wear_0 : decode cX12_wear 0 = .ok (.aload_n 0, 1) := by decide +kernel
theorem dX12_wear_1 : decode cX12_wear 1 = .ok (.getfield 12, 3) := by decide +kernel
theorem dX12_wear_4 : decode cX12_wear 4 = .ok (.getfield 199, 3) := by decide +kernel
theorem dX12_wear_7 : decode cX12_wear 7 = .ok (.iload_n 1, 1) := by decide +kernel
theorem dX12_wear_8 : decode cX12_wear 8 = .ok (.iload_n 2, 1) := by decide +kernel
theorem dX12_wear_9 : decode cX12_wear 9 = .ok (.invokestatic 112, 3) := by decide +kernel
theorem dX12_wear_12 : decode cX12_wear 12 = .ok (.iaload, 1) := by decide +kernel
theorem dX12_wear_13 : decode cX12_wear 13 = .ok (.ireturn, 1) := by decide +kernel
theorem dX12_holes_0 : decode cX12_holes 0 = .ok (.aload_n 0, 1) := by decide +kernel
theorem dX12_holes_1 : decode cX12_holes 1 = .ok (.getfield 12, 3) := by decide +kernel
theorem dX12_holes_4 : decode cX12_holes 4 = .ok (.invokevirtual 202, 3) := by decide +kernel
theorem dX12_holes_7 : decode cX12_holes 7 = .ok (.ireturn, 1) := by decide +kernel
theorem dX12_nightsUntilHole_0 : decode cX12_nightsUntilHole 0 = .ok (.iload_n 1, 1) := by decide +kernel
theorem dX12_nightsUntilHole_1 : decode cX12_nightsUntilHole 1 = .ok (.iload_n 2, 1) := by decide +kernel
theorem dX12_nightsUntilHole_2 : decode cX12_nightsUntilHole 2 = .ok (.invokestatic 112, 3) := by decide +kernel
theorem dX12_nightsUntilHole_5 : decode cX12_nightsUntilHole 5 = .ok (.istore_n 3, 1) := by decide +kernel
theorem dX12_nightsUntilHole_6 : decode cX12_nightsUntilHole 6 = .ok (.aload_n 0, 1) := by decide +kernel
theorem dX12_nightsUntilHole_7 : decode cX12_nightsUntilHole 7 = .ok (.getfield 22, 3) := by decide +kernel
theorem dX12_nightsUntilHole_10 : decode cX12_nightsUntilHole 10 = .ok (.aload_n 0, 1) := by decide +kernel
theorem dX12_nightsUntilHole_11 : decode cX12_nightsUntilHole 11 = .ok (.getfield 12, 3) := by decide +kernel
theorem dX12_nightsUntilHole_14 : decode cX12_nightsUntilHole 14 = .ok (.invokevirtual 206, 3) := by decide +kernel
theorem dX12_nightsUntilHole_17 : decode cX12_nightsUntilHole 17 = .ok (.iconst 0, 1) := by decide +kernel
theorem dX12_nightsUntilHole_18 : decode cX12_nightsUntilHole 18 = .ok (.istore 4, 2) := by decide +kernel
theorem dX12_nightsUntilHole_20 : decode cX12_nightsUntilHole 20 = .ok (.iload 4, 2) := by decide +kernel
theorem dX12_nightsUntilHole_22 : decode cX12_nightsUntilHole 22 = .ok (.bipush 30, 2) := by decide +kernel
theorem dX12_nightsUntilHole_24 : decode cX12_nightsUntilHole 24 = .ok (.if_icmp .gt 31, 3) := by decide +kernel
theorem dX12_nightsUntilHole_27 : decode cX12_nightsUntilHole 27 = .ok (.aload_n 0, 1) := by decide +kernel
theorem dX12_nightsUntilHole_28 : decode cX12_nightsUntilHole 28 = .ok (.getfield 22, 3) := by decide +kernel
theorem dX12_nightsUntilHole_31 : decode cX12_nightsUntilHole 31 = .ok (.iload_n 3, 1) := by decide +kernel
theorem dX12_nightsUntilHole_32 : decode cX12_nightsUntilHole 32 = .ok (.invokevirtual 210, 3) := by decide +kernel
theorem dX12_nightsUntilHole_35 : decode cX12_nightsUntilHole 35 = .ok (.ifCond .eq 6, 3) := by decide +kernel
theorem dX12_nightsUntilHole_38 : decode cX12_nightsUntilHole 38 = .ok (.iload 4, 2) := by decide +kernel
theorem dX12_nightsUntilHole_40 : decode cX12_nightsUntilHole 40 = .ok (.ireturn, 1) := by decide +kernel
theorem dX12_nightsUntilHole_41 : decode cX12_nightsUntilHole 41 = .ok (.aload_n 0, 1) := by decide +kernel
theorem dX12_nightsUntilHole_42 : decode cX12_nightsUntilHole 42 = .ok (.getfield 22, 3) := by decide +kernel
theorem dX12_nightsUntilHole_45 : decode cX12_nightsUntilHole 45 = .ok (.invokevirtual 214, 3) := by decide +kernel
theorem dX12_nightsUntilHole_48 : decode cX12_nightsUntilHole 48 = .ok (.pop, 1) := by decide +kernel
theorem dX12_nightsUntilHole_49 : decode cX12_nightsUntilHole 49 = .ok (.iinc 4 1, 3) := by decide +kernel
theorem dX12_nightsUntilHole_52 : decode cX12_nightsUntilHole 52 = .ok (.goto (-32), 3) := by decide +kernel
theorem dX12_nightsUntilHole_55 : decode cX12_nightsUntilHole 55 = .ok (.new 217, 3) := by decide +kernel
theorem dX12_nightsUntilHole_58 : decode cX12_nightsUntilHole 58 = .ok (.dup, 1) := by decide +kernel
theorem dX12_nightsUntilHole_59 : decode cX12_nightsUntilHole 59 = .ok (.ldc 219, 2) := by decide +kernel
theorem dX12_nightsUntilHole_61 : decode cX12_nightsUntilHole 61 = .ok (.invokespecial 221, 3) := by decide +kernel
theorem dX12_nightsUntilHole_64 : decode cX12_nightsUntilHole 64 = .ok (.athrow, 1) := by decide +kernel
theorem dX12_nights_0 : decode cX12_nights 0 = .ok (.aload_n 0, 1) := by decide +kernel
theorem dX12_nights_1 : decode cX12_nights 1 = .ok (.getfield 12, 3) := by decide +kernel
theorem dX12_nights_4 : decode cX12_nights 4 = .ok (.getfield 224, 3) := by decide +kernel
theorem dX12_nights_7 : decode cX12_nights 7 = .ok (.ireturn, 1) := by decide +kernel
theorem dX12_poured_0 : decode cX12_poured 0 = .ok (.aload_n 0, 1) := by decide +kernel
theorem dX12_poured_1 : decode cX12_poured 1 = .ok (.getfield 12, 3) := by decide +kernel
theorem dX12_poured_4 : decode cX12_poured 4 = .ok (.getfield 227, 3) := by decide +kernel
theorem dX12_poured_7 : decode cX12_poured 7 = .ok (.ireturn, 1) := by decide +kernel
theorem dX12_standing_0 : decode cX12_standing 0 = .ok (.aload_n 0, 1) := by decide +kernel
theorem dX12_standing_1 : decode cX12_standing 1 = .ok (.getfield 12, 3) := by decide +kernel
theorem dX12_standing_4 : decode cX12_standing 4 = .ok (.invokevirtual 230, 3) := by decide +kernel
theorem dX12_standing_7 : decode cX12_standing 7 = .ok (.ireturn, 1) := by decide +kernel
theorem dX12_drained_0 : decode cX12_drained 0 = .ok (.aload_n 0, 1) := by decide +kernel
theorem dX12_drained_1 : decode cX12_drained 1 = .ok (.getfield 12, 3) := by decide +kernel
theorem dX12_drained_4 : decode cX12_drained 4 = .ok (.getfield 233, 3) := by decide +kernel
theorem dX12_drained_7 : decode cX12_drained 7 = .ok (.ireturn, 1) := by decide +kernel
theorem dX12_meanHeight_0 : decode cX12_meanHeight 0 = .ok (.aload_n 0, 1) := by decide +kernel
theorem dX12_meanHeight_1 : decode cX12_meanHeight 1 = .ok (.getfield 12, 3) := by decide +kernel
theorem dX12_meanHeight_4 : decode cX12_meanHeight 4 = .ok (.invokevirtual 236, 3) := by decide +kernel
theorem dX12_meanHeight_7 : decode cX12_meanHeight 7 = .ok (.i2d, 1) := by decide +kernel
theorem dX12_meanHeight_8 : decode cX12_meanHeight 8 = .ok (.ldc2_w 239, 3) := by decide +kernel
theorem dX12_meanHeight_11 : decode cX12_meanHeight 11 = .ok (.ddiv, 1) := by decide +kernel
theorem dX12_meanHeight_12 : decode cX12_meanHeight 12 = .ok (.dreturn, 1) := by decide +kernel
theorem dX12_slope_0 : decode cX12_slope 0 = .ok (.aload_n 0, 1) := by decide +kernel
theorem dX12_slope_1 : decode cX12_slope 1 = .ok (.getfield 12, 3) := by decide +kernel
theorem dX12_slope_4 : decode cX12_slope 4 = .ok (.iload_n 1, 1) := by decide +kernel
theorem dX12_slope_5 : decode cX12_slope 5 = .ok (.iload_n 2, 1) := by decide +kernel
theorem dX12_slope_6 : decode cX12_slope 6 = .ok (.invokestatic 112, 3) := by decide +kernel
theorem dX12_slope_9 : decode cX12_slope 9 = .ok (.invokevirtual 241, 3) := by decide +kernel
theorem dX12_slope_12 : decode cX12_slope 12 = .ok (.freturn, 1) := by decide +kernel
theorem dX12_feed_0 : decode cX12_feed 0 = .ok (.aload_n 0, 1) := by decide +kernel
theorem dX12_feed_1 : decode cX12_feed 1 = .ok (.getfield 56, 3) := by decide +kernel
theorem dX12_feed_4 : decode cX12_feed 4 = .ok (.iload_n 1, 1) := by decide +kernel
theorem dX12_feed_5 : decode cX12_feed 5 = .ok (.invokevirtual 245, 3) := by decide +kernel
theorem dX12_feed_8 : decode cX12_feed 8 = .ok (.ifCond .ne 13, 3) := by decide +kernel
theorem dX12_feed_11 : decode cX12_feed 11 = .ok (.new 249, 3) := by decide +kernel
theorem dX12_feed_14 : decode cX12_feed 14 = .ok (.dup, 1) := by decide +kernel
theorem dX12_feed_15 : decode cX12_feed 15 = .ok (.ldc 251, 2) := by decide +kernel
theorem dX12_feed_17 : decode cX12_feed 17 = .ok (.invokespecial 253, 3) := by decide +kernel
theorem dX12_feed_20 : decode cX12_feed 20 = .ok (.athrow, 1) := by decide +kernel
theorem dX12_feed_21 : decode cX12_feed 21 = .ok (.aload_n 0, 1) := by decide +kernel
theorem dX12_feed_22 : decode cX12_feed 22 = .ok (.getfield 56, 3) := by decide +kernel
theorem dX12_feed_25 : decode cX12_feed 25 = .ok (.getfield 254, 3) := by decide +kernel
theorem dX12_feed_28 : decode cX12_feed 28 = .ok (.ireturn, 1) := by decide +kernel
theorem dX12_execute_0 : decode cX12_execute 0 = .ok (.aload_n 0, 1) := by decide +kernel
theorem dX12_execute_1 : decode cX12_execute 1 = .ok (.getfield 56, 3) := by decide +kernel
theorem dX12_execute_4 : decode cX12_execute 4 = .ok (.invokevirtual 257, 3) := by decide +kernel
theorem dX12_execute_7 : decode cX12_execute 7 = .ok (.istore_n 1, 1) := by decide +kernel
theorem dX12_execute_8 : decode cX12_execute 8 = .ok (.aload_n 0, 1) := by decide +kernel
theorem dX12_execute_9 : decode cX12_execute 9 = .ok (.getfield 56, 3) := by decide +kernel
theorem dX12_execute_12 : decode cX12_execute 12 = .ok (.invokevirtual 260, 3) := by decide +kernel
theorem dX12_execute_15 : decode cX12_execute 15 = .ok (.iload_n 1, 1) := by decide +kernel
theorem dX12_execute_16 : decode cX12_execute 16 = .ok (.iconst (-1), 1) := by decide +kernel
theorem dX12_execute_17 : decode cX12_execute 17 = .ok (.if_icmp .eq 19, 3) := by decide +kernel
theorem dX12_execute_20 : decode cX12_execute 20 = .ok (.aload_n 0, 1) := by decide +kernel
theorem dX12_execute_21 : decode cX12_execute 21 = .ok (.iload_n 1, 1) := by decide +kernel
theorem dX12_execute_22 : decode cX12_execute 22 = .ok (.putfield 67, 3) := by decide +kernel
theorem dX12_execute_25 : decode cX12_execute 25 = .ok (.new 263, 3) := by decide +kernel
theorem dX12_execute_28 : decode cX12_execute 28 = .ok (.dup, 1) := by decide +kernel
theorem dX12_execute_29 : decode cX12_execute 29 = .ok (.ldc_w 265, 3) := by decide +kernel
theorem dX12_execute_32 : decode cX12_execute 32 = .ok (.invokespecial 267, 3) := by decide +kernel
theorem dX12_execute_35 : decode cX12_execute 35 = .ok (.athrow, 1) := by decide +kernel
theorem dX12_execute_36 : decode cX12_execute 36 = .ok (.aload_n 0, 1) := by decide +kernel
theorem dX12_execute_37 : decode cX12_execute 37 = .ok (.aload_n 0, 1) := by decide +kernel
theorem dX12_execute_38 : decode cX12_execute 38 = .ok (.getfield 56, 3) := by decide +kernel
theorem dX12_execute_41 : decode cX12_execute 41 = .ok (.getfield 268, 3) := by decide +kernel
theorem dX12_execute_44 : decode cX12_execute 44 = .ok (.invokevirtual 272, 3) := by decide +kernel
theorem dX12_execute_47 : decode cX12_execute 47 = .ok (.aload_n 0, 1) := by decide +kernel
theorem dX12_execute_48 : decode cX12_execute 48 = .ok (.getfield 56, 3) := by decide +kernel
theorem dX12_execute_51 : decode cX12_execute 51 = .ok (.getfield 268, 3) := by decide +kernel
theorem dX12_execute_54 : decode cX12_execute 54 = .ok (.invokevirtual 276, 3) := by decide +kernel
theorem dX12_execute_57 : decode cX12_execute 57 = .ok (.ireturn, 1) := by decide +kernel
theorem dX12_faultPosition_0 : decode cX12_faultPosition 0 = .ok (.aload_n 0, 1) := by decide +kernel
theorem dX12_faultPosition_1 : decode cX12_faultPosition 1 = .ok (.getfield 67, 3) := by decide +kernel
theorem dX12_faultPosition_4 : decode cX12_faultPosition 4 = .ok (.iconst (-1), 1) := by decide +kernel
theorem dX12_faultPosition_5 : decode cX12_faultPosition 5 = .ok (.if_icmp .ne 14, 3) := by decide +kernel
theorem dX12_faultPosition_8 : decode cX12_faultPosition 8 = .ok (.new 217, 3) := by decide +kernel
theorem dX12_faultPosition_11 : decode cX12_faultPosition 11 = .ok (.dup, 1) := by decide +kernel
theorem dX12_faultPosition_12 : decode cX12_faultPosition 12 = .ok (.ldc_w 281, 3) := by decide +kernel
theorem dX12_faultPosition_15 : decode cX12_faultPosition 15 = .ok (.invokespecial 221, 3) := by decide +kernel
theorem dX12_faultPosition_18 : decode cX12_faultPosition 18 = .ok (.athrow, 1) := by decide +kernel
theorem dX12_faultPosition_19 : decode cX12_faultPosition 19 = .ok (.aload_n 0, 1) := by decide +kernel
theorem dX12_faultPosition_20 : decode cX12_faultPosition 20 = .ok (.getfield 67, 3) := by decide +kernel
theorem dX12_faultPosition_23 : decode cX12_faultPosition 23 = .ok (.ireturn, 1) := by decide +kernel
theorem dX12_writeRow_0 : decode cX12_writeRow 0 = .ok (.iload_n 1, 1) := by decide +kernel
theorem dX12_writeRow_1 : decode cX12_writeRow 1 = .ok (.iconst 0, 1) := by decide +kernel
theorem dX12_writeRow_2 : decode cX12_writeRow 2 = .ok (.invokestatic 112, 3) := by decide +kernel
theorem dX12_writeRow_5 : decode cX12_writeRow 5 = .ok (.istore_n 2, 1) := by decide +kernel
theorem dX12_writeRow_6 : decode cX12_writeRow 6 = .ok (.aload_n 0, 1) := by decide +kernel
theorem dX12_writeRow_7 : decode cX12_writeRow 7 = .ok (.getfield 63, 3) := by decide +kernel
theorem dX12_writeRow_10 : decode cX12_writeRow 10 = .ok (.iconst 0, 1) := by decide +kernel
theorem dX12_writeRow_11 : decode cX12_writeRow 11 = .ok (.invokevirtual 283, 3) := by decide +kernel
theorem dX12_writeRow_14 : decode cX12_writeRow 14 = .ok (.iconst 0, 1) := by decide +kernel
theorem dX12_writeRow_15 : decode cX12_writeRow 15 = .ok (.istore_n 3, 1) := by decide +kernel
theorem dX12_writeRow_16 : decode cX12_writeRow 16 = .ok (.iload_n 3, 1) := by decide +kernel
theorem dX12_writeRow_17 : decode cX12_writeRow 17 = .ok (.bipush 6, 2) := by decide +kernel
theorem dX12_writeRow_19 : decode cX12_writeRow 19 = .ok (.if_icmp .ge 30, 3) := by decide +kernel
theorem dX12_writeRow_22 : decode cX12_writeRow 22 = .ok (.iload_n 3, 1) := by decide +kernel
theorem dX12_writeRow_23 : decode cX12_writeRow 23 = .ok (.ifCond .le 13, 3) := by decide +kernel
theorem dX12_writeRow_26 : decode cX12_writeRow 26 = .ok (.aload_n 0, 1) := by decide +kernel
theorem dX12_writeRow_27 : decode cX12_writeRow 27 = .ok (.getfield 63, 3) := by decide +kernel
theorem dX12_writeRow_30 : decode cX12_writeRow 30 = .ok (.bipush 32, 2) := by decide +kernel
theorem dX12_writeRow_32 : decode cX12_writeRow 32 = .ok (.invokevirtual 286, 3) := by decide +kernel
theorem dX12_writeRow_35 : decode cX12_writeRow 35 = .ok (.pop, 1) := by decide +kernel
theorem dX12_writeRow_36 : decode cX12_writeRow 36 = .ok (.aload_n 0, 1) := by decide +kernel
theorem dX12_writeRow_37 : decode cX12_writeRow 37 = .ok (.iload_n 2, 1) := by decide +kernel
theorem dX12_writeRow_38 : decode cX12_writeRow 38 = .ok (.iload_n 3, 1) := by decide +kernel
theorem dX12_writeRow_39 : decode cX12_writeRow 39 = .ok (.iadd, 1) := by decide +kernel
theorem dX12_writeRow_40 : decode cX12_writeRow 40 = .ok (.invokevirtual 289, 3) := by decide +kernel
theorem dX12_writeRow_43 : decode cX12_writeRow 43 = .ok (.iinc 3 1, 3) := by decide +kernel
theorem dX12_writeRow_46 : decode cX12_writeRow 46 = .ok (.goto (-30), 3) := by decide +kernel
theorem dX12_writeRow_49 : decode cX12_writeRow 49 = .ok (.aload_n 0, 1) := by decide +kernel
theorem dX12_writeRow_50 : decode cX12_writeRow 50 = .ok (.getfield 63, 3) := by decide +kernel
theorem dX12_writeRow_53 : decode cX12_writeRow 53 = .ok (.invokevirtual 292, 3) := by decide +kernel
theorem dX12_writeRow_56 : decode cX12_writeRow 56 = .ok (.ireturn, 1) := by decide +kernel
theorem dX12_lineCharacter_0 : decode cX12_lineCharacter 0 = .ok (.iload_n 1, 1) := by decide +kernel
theorem dX12_lineCharacter_1 : decode cX12_lineCharacter 1 = .ok (.ifCond .lt 14, 3) := by decide +kernel
theorem dX12_lineCharacter_4 : decode cX12_lineCharacter 4 = .ok (.iload_n 1, 1) := by decide +kernel
theorem dX12_lineCharacter_5 : decode cX12_lineCharacter 5 = .ok (.aload_n 0, 1) := by decide +kernel
theorem dX12_lineCharacter_6 : decode cX12_lineCharacter 6 = .ok (.getfield 63, 3) := by decide +kernel
theorem dX12_lineCharacter_9 : decode cX12_lineCharacter 9 = .ok (.invokevirtual 292, 3) := by decide +kernel
theorem dX12_lineCharacter_12 : decode cX12_lineCharacter 12 = .ok (.if_icmp .lt 14, 3) := by decide +kernel
theorem dX12_lineCharacter_15 : decode cX12_lineCharacter 15 = .ok (.new 294, 3) := by decide +kernel
theorem dX12_lineCharacter_18 : decode cX12_lineCharacter 18 = .ok (.dup, 1) := by decide +kernel
theorem dX12_lineCharacter_19 : decode cX12_lineCharacter 19 = .ok (.ldc_w 296, 3) := by decide +kernel
theorem dX12_lineCharacter_22 : decode cX12_lineCharacter 22 = .ok (.invokespecial 298, 3) := by decide +kernel
theorem dX12_lineCharacter_25 : decode cX12_lineCharacter 25 = .ok (.athrow, 1) := by decide +kernel
theorem dX12_lineCharacter_26 : decode cX12_lineCharacter 26 = .ok (.aload_n 0, 1) := by decide +kernel
theorem dX12_lineCharacter_27 : decode cX12_lineCharacter 27 = .ok (.getfield 63, 3) := by decide +kernel
theorem dX12_lineCharacter_30 : decode cX12_lineCharacter 30 = .ok (.iload_n 1, 1) := by decide +kernel
theorem dX12_lineCharacter_31 : decode cX12_lineCharacter 31 = .ok (.invokevirtual 299, 3) := by decide +kernel
theorem dX12_lineCharacter_34 : decode cX12_lineCharacter 34 = .ok (.ireturn, 1) := by decide +kernel
theorem dX12_denial_0 : decode cX12_denial 0 = .ok (.aload_n 0, 1) := by decide +kernel
theorem dX12_denial_1 : decode cX12_denial 1 = .ok (.invokevirtual 303, 3) := by decide +kernel
theorem dX12_denial_4 : decode cX12_denial 4 = .ok (.aload_n 0, 1) := by decide +kernel
theorem dX12_denial_5 : decode cX12_denial 5 = .ok (.getfield 71, 3) := by decide +kernel
theorem dX12_denial_8 : decode cX12_denial 8 = .ok (.ireturn, 1) := by decide +kernel
theorem dX12_denialDetail_0 : decode cX12_denialDetail 0 = .ok (.aload_n 0, 1) := by decide +kernel
theorem dX12_denialDetail_1 : decode cX12_denialDetail 1 = .ok (.invokevirtual 303, 3) := by decide +kernel
theorem dX12_denialDetail_4 : decode cX12_denialDetail 4 = .ok (.aload_n 0, 1) := by decide +kernel
theorem dX12_denialDetail_5 : decode cX12_denialDetail 5 = .ok (.getfield 74, 3) := by decide +kernel
theorem dX12_denialDetail_8 : decode cX12_denialDetail 8 = .ok (.ireturn, 1) := by decide +kernel
theorem dX12_denialCause_0 : decode cX12_denialCause 0 = .ok (.aload_n 0, 1) := by decide +kernel
theorem dX12_denialCause_1 : decode cX12_denialCause 1 = .ok (.getfield 77, 3) := by decide +kernel
theorem dX12_denialCause_4 : decode cX12_denialCause 4 = .ok (.iconst (-1), 1) := by decide +kernel
theorem dX12_denialCause_5 : decode cX12_denialCause 5 = .ok (.if_icmp .ne 14, 3) := by decide +kernel
theorem dX12_denialCause_8 : decode cX12_denialCause 8 = .ok (.new 217, 3) := by decide +kernel
theorem dX12_denialCause_11 : decode cX12_denialCause 11 = .ok (.dup, 1) := by decide +kernel
theorem dX12_denialCause_12 : decode cX12_denialCause 12 = .ok (.ldc_w 306, 3) := by decide +kernel
theorem dX12_denialCause_15 : decode cX12_denialCause 15 = .ok (.invokespecial 221, 3) := by decide +kernel
theorem dX12_denialCause_18 : decode cX12_denialCause 18 = .ok (.athrow, 1) := by decide +kernel
theorem dX12_denialCause_19 : decode cX12_denialCause 19 = .ok (.aload_n 0, 1) := by decide +kernel
theorem dX12_denialCause_20 : decode cX12_denialCause 20 = .ok (.getfield 77, 3) := by decide +kernel
theorem dX12_denialCause_23 : decode cX12_denialCause 23 = .ok (.ireturn, 1) := by decide +kernel
theorem dX12_undo_0 : decode cX12_undo 0 = .ok (.aload_n 0, 1) := by decide +kernel
theorem dX12_undo_1 : decode cX12_undo 1 = .ok (.getfield 28, 3) := by decide +kernel
theorem dX12_undo_4 : decode cX12_undo 4 = .ok (.aload_n 0, 1) := by decide +kernel
theorem dX12_undo_5 : decode cX12_undo 5 = .ok (.getfield 12, 3) := by decide +kernel
theorem dX12_undo_8 : decode cX12_undo 8 = .ok (.invokevirtual 308, 3) := by decide +kernel
theorem dX12_undo_11 : decode cX12_undo 11 = .ok (.ifCond .ne 14, 3) := by decide +kernel
theorem dX12_undo_14 : decode cX12_undo 14 = .ok (.new 249, 3) := by decide +kernel
theorem dX12_undo_17 : decode cX12_undo 17 = .ok (.dup, 1) := by decide +kernel
theorem dX12_undo_18 : decode cX12_undo 18 = .ok (.ldc_w 312, 3) := by decide +kernel
theorem dX12_undo_21 : decode cX12_undo 21 = .ok (.invokespecial 253, 3) := by decide +kernel
theorem dX12_undo_24 : decode cX12_undo 24 = .ok (.athrow, 1) := by decide +kernel
theorem dX12_undo_25 : decode cX12_undo 25 = .ok (.aload_n 0, 1) := by decide +kernel
theorem dX12_undo_26 : decode cX12_undo 26 = .ok (.getfield 28, 3) := by decide +kernel
theorem dX12_undo_29 : decode cX12_undo 29 = .ok (.getfield 314, 3) := by decide +kernel
theorem dX12_undo_32 : decode cX12_undo 32 = .ok (.ireturn, 1) := by decide +kernel
theorem dX12_undoCount_0 : decode cX12_undoCount 0 = .ok (.aload_n 0, 1) := by decide +kernel
theorem dX12_undoCount_1 : decode cX12_undoCount 1 = .ok (.getfield 28, 3) := by decide +kernel
theorem dX12_undoCount_4 : decode cX12_undoCount 4 = .ok (.getfield 314, 3) := by decide +kernel
theorem dX12_undoCount_7 : decode cX12_undoCount 7 = .ok (.ireturn, 1) := by decide +kernel
theorem dX12_saveSnapshot_0 : decode cX12_saveSnapshot 0 = .ok (.aload_n 0, 1) := by decide +kernel
theorem dX12_saveSnapshot_1 : decode cX12_saveSnapshot 1 = .ok (.getfield 16, 3) := by decide +kernel
theorem dX12_saveSnapshot_4 : decode cX12_saveSnapshot 4 = .ok (.aload_n 0, 1) := by decide +kernel
theorem dX12_saveSnapshot_5 : decode cX12_saveSnapshot 5 = .ok (.getfield 12, 3) := by decide +kernel
theorem dX12_saveSnapshot_8 : decode cX12_saveSnapshot 8 = .ok (.invokevirtual 206, 3) := by decide +kernel
theorem dX12_saveSnapshot_11 : decode cX12_saveSnapshot 11 = .ok (.aload_n 0, 1) := by decide +kernel
theorem dX12_saveSnapshot_12 : decode cX12_saveSnapshot 12 = .ok (.iconst 1, 1) := by decide +kernel
theorem dX12_saveSnapshot_13 : decode cX12_saveSnapshot 13 = .ok (.putfield 317, 3) := by decide +kernel
theorem dX12_saveSnapshot_16 : decode cX12_saveSnapshot 16 = .ok (.aload_n 0, 1) := by decide +kernel
theorem dX12_saveSnapshot_17 : decode cX12_saveSnapshot 17 = .ok (.getfield 12, 3) := by decide +kernel
theorem dX12_saveSnapshot_20 : decode cX12_saveSnapshot 20 = .ok (.getfield 193, 3) := by decide +kernel
theorem dX12_saveSnapshot_23 : decode cX12_saveSnapshot 23 = .ok (.ireturn, 1) := by decide +kernel
theorem dX12_restoreSnapshot_0 : decode cX12_restoreSnapshot 0 = .ok (.aload_n 0, 1) := by decide +kernel
theorem dX12_restoreSnapshot_1 : decode cX12_restoreSnapshot 1 = .ok (.getfield 317, 3) := by decide +kernel
theorem dX12_restoreSnapshot_4 : decode cX12_restoreSnapshot 4 = .ok (.ifCond .ne 14, 3) := by decide +kernel
theorem dX12_restoreSnapshot_7 : decode cX12_restoreSnapshot 7 = .ok (.new 249, 3) := by decide +kernel
theorem dX12_restoreSnapshot_10 : decode cX12_restoreSnapshot 10 = .ok (.dup, 1) := by decide +kernel
theorem dX12_restoreSnapshot_11 : decode cX12_restoreSnapshot 11 = .ok (.ldc_w 321, 3) := by decide +kernel
theorem dX12_restoreSnapshot_14 : decode cX12_restoreSnapshot 14 = .ok (.invokespecial 253, 3) := by decide +kernel
theorem dX12_restoreSnapshot_17 : decode cX12_restoreSnapshot 17 = .ok (.athrow, 1) := by decide +kernel
theorem dX12_restoreSnapshot_18 : decode cX12_restoreSnapshot 18 = .ok (.aload_n 0, 1) := by decide +kernel
theorem dX12_restoreSnapshot_19 : decode cX12_restoreSnapshot 19 = .ok (.getfield 12, 3) := by decide +kernel
theorem dX12_restoreSnapshot_22 : decode cX12_restoreSnapshot 22 = .ok (.aload_n 0, 1) := by decide +kernel
theorem dX12_restoreSnapshot_23 : decode cX12_restoreSnapshot 23 = .ok (.getfield 16, 3) := by decide +kernel
theorem dX12_restoreSnapshot_26 : decode cX12_restoreSnapshot 26 = .ok (.invokevirtual 206, 3) := by decide +kernel
theorem dX12_restoreSnapshot_29 : decode cX12_restoreSnapshot 29 = .ok (.aload_n 0, 1) := by decide +kernel
theorem dX12_restoreSnapshot_30 : decode cX12_restoreSnapshot 30 = .ok (.getfield 28, 3) := by decide +kernel
theorem dX12_restoreSnapshot_33 : decode cX12_restoreSnapshot 33 = .ok (.invokevirtual 323, 3) := by decide +kernel
theorem dX12_restoreSnapshot_36 : decode cX12_restoreSnapshot 36 = .ok (.aload_n 0, 1) := by decide +kernel
theorem dX12_restoreSnapshot_37 : decode cX12_restoreSnapshot 37 = .ok (.getfield 12, 3) := by decide +kernel
theorem dX12_restoreSnapshot_40 : decode cX12_restoreSnapshot 40 = .ok (.getfield 193, 3) := by decide +kernel
theorem dX12_restoreSnapshot_43 : decode cX12_restoreSnapshot 43 = .ok (.ireturn, 1) := by decide +kernel
theorem dX12_change_0 : decode cX12_change 0 = .ok (.aload_n 0, 1) := by decide +kernel
theorem dX12_change_1 : decode cX12_change 1 = .ok (.getfield 12, 3) := by decide +kernel
theorem dX12_change_4 : decode cX12_change 4 = .ok (.aload_n 1, 1) := by decide +kernel
theorem dX12_change_5 : decode cX12_change 5 = .ok (.invokevirtual 326, 3) := by decide +kernel
theorem dX12_change_8 : decode cX12_change 8 = .ok (.istore_n 2, 1) := by decide +kernel
theorem dX12_change_9 : decode cX12_change 9 = .ok (.iload_n 2, 1) := by decide +kernel
theorem dX12_change_10 : decode cX12_change 10 = .ok (.iconst (-1), 1) := by decide +kernel
theorem dX12_change_11 : decode cX12_change 11 = .ok (.if_icmp .ne 14, 3) := by decide +kernel
theorem dX12_change_14 : decode cX12_change 14 = .ok (.new 294, 3) := by decide +kernel
theorem dX12_change_17 : decode cX12_change 17 = .ok (.dup, 1) := by decide +kernel
theorem dX12_change_18 : decode cX12_change 18 = .ok (.ldc_w 329, 3) := by decide +kernel
theorem dX12_change_21 : decode cX12_change 21 = .ok (.invokespecial 298, 3) := by decide +kernel
theorem dX12_change_24 : decode cX12_change 24 = .ok (.athrow, 1) := by decide +kernel
theorem dX12_change_25 : decode cX12_change 25 = .ok (.iload_n 2, 1) := by decide +kernel
theorem dX12_change_26 : decode cX12_change 26 = .ok (.bipush (-2), 2) := by decide +kernel
theorem dX12_change_28 : decode cX12_change 28 = .ok (.if_icmp .ne 14, 3) := by decide +kernel
theorem dX12_change_31 : decode cX12_change 31 = .ok (.new 263, 3) := by decide +kernel
theorem dX12_change_34 : decode cX12_change 34 = .ok (.dup, 1) := by decide +kernel
theorem dX12_change_35 : decode cX12_change 35 = .ok (.ldc_w 331, 3) := by decide +kernel
theorem dX12_change_38 : decode cX12_change 38 = .ok (.invokespecial 267, 3) := by decide +kernel
theorem dX12_change_41 : decode cX12_change 41 = .ok (.athrow, 1) := by decide +kernel
theorem dX12_change_42 : decode cX12_change 42 = .ok (.iload_n 2, 1) := by decide +kernel
theorem dX12_change_43 : decode cX12_change 43 = .ok (.ifCond .eq 29, 3) := by decide +kernel
theorem dX12_change_46 : decode cX12_change 46 = .ok (.aload_n 0, 1) := by decide +kernel
theorem dX12_change_47 : decode cX12_change 47 = .ok (.iload_n 2, 1) := by decide +kernel
theorem dX12_change_48 : decode cX12_change 48 = .ok (.aload_n 0, 1) := by decide +kernel
theorem dX12_change_49 : decode cX12_change 49 = .ok (.getfield 12, 3) := by decide +kernel
theorem dX12_change_52 : decode cX12_change 52 = .ok (.iload_n 2, 1) := by decide +kernel
theorem dX12_change_53 : decode cX12_change 53 = .ok (.aload_n 1, 1) := by decide +kernel
theorem dX12_change_54 : decode cX12_change 54 = .ok (.invokevirtual 333, 3) := by decide +kernel
theorem dX12_change_57 : decode cX12_change 57 = .ok (.iconst (-1), 1) := by decide +kernel
theorem dX12_change_58 : decode cX12_change 58 = .ok (.invokevirtual 337, 3) := by decide +kernel
theorem dX12_change_61 : decode cX12_change 61 = .ok (.new 341, 3) := by decide +kernel
theorem dX12_change_64 : decode cX12_change 64 = .ok (.dup, 1) := by decide +kernel
theorem dX12_change_65 : decode cX12_change 65 = .ok (.ldc_w 343, 3) := by decide +kernel
theorem dX12_change_68 : decode cX12_change 68 = .ok (.invokespecial 345, 3) := by decide +kernel
theorem dX12_change_71 : decode cX12_change 71 = .ok (.athrow, 1) := by decide +kernel
theorem dX12_change_72 : decode cX12_change 72 = .ok (.aload_n 0, 1) := by decide +kernel
theorem dX12_change_73 : decode cX12_change 73 = .ok (.getfield 28, 3) := by decide +kernel
theorem dX12_change_76 : decode cX12_change 76 = .ok (.aload_n 0, 1) := by decide +kernel
theorem dX12_change_77 : decode cX12_change 77 = .ok (.getfield 12, 3) := by decide +kernel
theorem dX12_change_80 : decode cX12_change 80 = .ok (.invokevirtual 346, 3) := by decide +kernel
theorem dX12_change_83 : decode cX12_change 83 = .ok (.aload_n 0, 1) := by decide +kernel
theorem dX12_change_84 : decode cX12_change 84 = .ok (.getfield 12, 3) := by decide +kernel
theorem dX12_change_87 : decode cX12_change 87 = .ok (.aload_n 1, 1) := by decide +kernel
theorem dX12_change_88 : decode cX12_change 88 = .ok (.invokevirtual 349, 3) := by decide +kernel
theorem dX12_change_91 : decode cX12_change 91 = .ok (.ireturn, 1) := by decide +kernel
theorem dX12_runAllOrNone_0 : decode cX12_runAllOrNone 0 = .ok (.aload_n 0, 1) := by decide +kernel
theorem dX12_runAllOrNone_1 : decode cX12_runAllOrNone 1 = .ok (.getfield 19, 3) := by decide +kernel
theorem dX12_runAllOrNone_4 : decode cX12_runAllOrNone 4 = .ok (.aload_n 0, 1) := by decide +kernel
theorem dX12_runAllOrNone_5 : decode cX12_runAllOrNone 5 = .ok (.getfield 12, 3) := by decide +kernel
theorem dX12_runAllOrNone_8 : decode cX12_runAllOrNone 8 = .ok (.invokevirtual 206, 3) := by decide +kernel
theorem dX12_runAllOrNone_11 : decode cX12_runAllOrNone 11 = .ok (.iconst 0, 1) := by decide +kernel
theorem dX12_runAllOrNone_12 : decode cX12_runAllOrNone 12 = .ok (.istore_n 2, 1) := by decide +kernel
theorem dX12_runAllOrNone_13 : decode cX12_runAllOrNone 13 = .ok (.iload_n 2, 1) := by decide +kernel
theorem dX12_runAllOrNone_14 : decode cX12_runAllOrNone 14 = .ok (.aload_n 1, 1) := by decide +kernel
theorem dX12_runAllOrNone_15 : decode cX12_runAllOrNone 15 = .ok (.invokevirtual 276, 3) := by decide +kernel
theorem dX12_runAllOrNone_18 : decode cX12_runAllOrNone 18 = .ok (.if_icmp .ge 83, 3) := by decide +kernel
theorem dX12_runAllOrNone_21 : decode cX12_runAllOrNone 21 = .ok (.aload_n 1, 1) := by decide +kernel
theorem dX12_runAllOrNone_22 : decode cX12_runAllOrNone 22 = .ok (.iload_n 2, 1) := by decide +kernel
theorem dX12_runAllOrNone_23 : decode cX12_runAllOrNone 23 = .ok (.invokevirtual 352, 3) := by decide +kernel
theorem dX12_runAllOrNone_26 : decode cX12_runAllOrNone 26 = .ok (.checkcast 80, 3) := by decide +kernel
theorem dX12_runAllOrNone_29 : decode cX12_runAllOrNone 29 = .ok (.astore_n 3, 1) := by decide +kernel
theorem dX12_runAllOrNone_30 : decode cX12_runAllOrNone 30 = .ok (.aload_n 0, 1) := by decide +kernel
theorem dX12_runAllOrNone_31 : decode cX12_runAllOrNone 31 = .ok (.getfield 12, 3) := by decide +kernel
theorem dX12_runAllOrNone_34 : decode cX12_runAllOrNone 34 = .ok (.aload_n 3, 1) := by decide +kernel
theorem dX12_runAllOrNone_35 : decode cX12_runAllOrNone 35 = .ok (.invokevirtual 326, 3) := by decide +kernel
theorem dX12_runAllOrNone_38 : decode cX12_runAllOrNone 38 = .ok (.istore 4, 2) := by decide +kernel
theorem dX12_runAllOrNone_40 : decode cX12_runAllOrNone 40 = .ok (.iload 4, 2) := by decide +kernel
theorem dX12_runAllOrNone_42 : decode cX12_runAllOrNone 42 = .ok (.ifCond .eq 44, 3) := by decide +kernel
theorem dX12_runAllOrNone_45 : decode cX12_runAllOrNone 45 = .ok (.aload_n 0, 1) := by decide +kernel
theorem dX12_runAllOrNone_46 : decode cX12_runAllOrNone 46 = .ok (.getfield 12, 3) := by decide +kernel
theorem dX12_runAllOrNone_49 : decode cX12_runAllOrNone 49 = .ok (.aload_n 0, 1) := by decide +kernel
theorem dX12_runAllOrNone_50 : decode cX12_runAllOrNone 50 = .ok (.getfield 19, 3) := by decide +kernel
theorem dX12_runAllOrNone_53 : decode cX12_runAllOrNone 53 = .ok (.invokevirtual 206, 3) := by decide +kernel
theorem dX12_runAllOrNone_56 : decode cX12_runAllOrNone 56 = .ok (.aload_n 0, 1) := by decide +kernel
theorem dX12_runAllOrNone_57 : decode cX12_runAllOrNone 57 = .ok (.bipush 7, 2) := by decide +kernel
theorem dX12_runAllOrNone_59 : decode cX12_runAllOrNone 59 = .ok (.iload_n 2, 1) := by decide +kernel
theorem dX12_runAllOrNone_60 : decode cX12_runAllOrNone 60 = .ok (.iload 4, 2) := by decide +kernel
theorem dX12_runAllOrNone_62 : decode cX12_runAllOrNone 62 = .ok (.ifCond .le 8, 3) := by decide +kernel
theorem dX12_runAllOrNone_65 : decode cX12_runAllOrNone 65 = .ok (.iload 4, 2) := by decide +kernel
theorem dX12_runAllOrNone_67 : decode cX12_runAllOrNone 67 = .ok (.goto 5, 3) := by decide +kernel
theorem dX12_runAllOrNone_70 : decode cX12_runAllOrNone 70 = .ok (.bipush 8, 2) := by decide +kernel
theorem dX12_runAllOrNone_72 : decode cX12_runAllOrNone 72 = .ok (.invokevirtual 337, 3) := by decide +kernel
theorem dX12_runAllOrNone_75 : decode cX12_runAllOrNone 75 = .ok (.new 341, 3) := by decide +kernel
theorem dX12_runAllOrNone_78 : decode cX12_runAllOrNone 78 = .ok (.dup, 1) := by decide +kernel
theorem dX12_runAllOrNone_79 : decode cX12_runAllOrNone 79 = .ok (.ldc_w 356, 3) := by decide +kernel
theorem dX12_runAllOrNone_82 : decode cX12_runAllOrNone 82 = .ok (.invokespecial 345, 3) := by decide +kernel
theorem dX12_runAllOrNone_85 : decode cX12_runAllOrNone 85 = .ok (.athrow, 1) := by decide +kernel
theorem dX12_runAllOrNone_86 : decode cX12_runAllOrNone 86 = .ok (.aload_n 0, 1) := by decide +kernel
theorem dX12_runAllOrNone_87 : decode cX12_runAllOrNone 87 = .ok (.getfield 12, 3) := by decide +kernel
theorem dX12_runAllOrNone_90 : decode cX12_runAllOrNone 90 = .ok (.aload_n 3, 1) := by decide +kernel
theorem dX12_runAllOrNone_91 : decode cX12_runAllOrNone 91 = .ok (.invokevirtual 349, 3) := by decide +kernel
theorem dX12_runAllOrNone_94 : decode cX12_runAllOrNone 94 = .ok (.pop, 1) := by decide +kernel
theorem dX12_runAllOrNone_95 : decode cX12_runAllOrNone 95 = .ok (.iinc 2 1, 3) := by decide +kernel
theorem dX12_runAllOrNone_98 : decode cX12_runAllOrNone 98 = .ok (.goto (-85), 3) := by decide +kernel
theorem dX12_runAllOrNone_101 : decode cX12_runAllOrNone 101 = .ok (.aload_n 0, 1) := by decide +kernel
theorem dX12_runAllOrNone_102 : decode cX12_runAllOrNone 102 = .ok (.getfield 28, 3) := by decide +kernel
theorem dX12_runAllOrNone_105 : decode cX12_runAllOrNone 105 = .ok (.aload_n 0, 1) := by decide +kernel
theorem dX12_runAllOrNone_106 : decode cX12_runAllOrNone 106 = .ok (.getfield 19, 3) := by decide +kernel
theorem dX12_runAllOrNone_109 : decode cX12_runAllOrNone 109 = .ok (.invokevirtual 346, 3) := by decide +kernel
theorem dX12_runAllOrNone_112 : decode cX12_runAllOrNone 112 = .ok (.return_, 1) := by decide +kernel
theorem dX12_keepDenial_0 : decode cX12_keepDenial 0 = .ok (.aload_n 0, 1) := by decide +kernel
theorem dX12_keepDenial_1 : decode cX12_keepDenial 1 = .ok (.iload_n 1, 1) := by decide +kernel
theorem dX12_keepDenial_2 : decode cX12_keepDenial 2 = .ok (.putfield 71, 3) := by decide +kernel
theorem dX12_keepDenial_5 : decode cX12_keepDenial 5 = .ok (.aload_n 0, 1) := by decide +kernel
theorem dX12_keepDenial_6 : decode cX12_keepDenial 6 = .ok (.iload_n 2, 1) := by decide +kernel
theorem dX12_keepDenial_7 : decode cX12_keepDenial 7 = .ok (.putfield 74, 3) := by decide +kernel
theorem dX12_keepDenial_10 : decode cX12_keepDenial 10 = .ok (.aload_n 0, 1) := by decide +kernel
theorem dX12_keepDenial_11 : decode cX12_keepDenial 11 = .ok (.iload_n 3, 1) := by decide +kernel
theorem dX12_keepDenial_12 : decode cX12_keepDenial 12 = .ok (.putfield 77, 3) := by decide +kernel
theorem dX12_keepDenial_15 : decode cX12_keepDenial 15 = .ok (.return_, 1) := by decide +kernel
theorem dX12_requireDenial_0 : decode cX12_requireDenial 0 = .ok (.aload_n 0, 1) := by decide +kernel
theorem dX12_requireDenial_1 : decode cX12_requireDenial 1 = .ok (.getfield 71, 3) := by decide +kernel
theorem dX12_requireDenial_4 : decode cX12_requireDenial 4 = .ok (.iconst (-1), 1) := by decide +kernel
theorem dX12_requireDenial_5 : decode cX12_requireDenial 5 = .ok (.if_icmp .ne 14, 3) := by decide +kernel
theorem dX12_requireDenial_8 : decode cX12_requireDenial 8 = .ok (.new 217, 3) := by decide +kernel
theorem dX12_requireDenial_11 : decode cX12_requireDenial 11 = .ok (.dup, 1) := by decide +kernel
theorem dX12_requireDenial_12 : decode cX12_requireDenial 12 = .ok (.ldc_w 358, 3) := by decide +kernel
theorem dX12_requireDenial_15 : decode cX12_requireDenial 15 = .ok (.invokespecial 221, 3) := by decide +kernel
theorem dX12_requireDenial_18 : decode cX12_requireDenial 18 = .ok (.athrow, 1) := by decide +kernel
theorem dX12_requireDenial_19 : decode cX12_requireDenial 19 = .ok (.return_, 1) := by decide +kernel
theorem dX12_writeCell_0 : decode cX12_writeCell 0 = .ok (.aload_n 0, 1) := by decide +kernel
theorem dX12_writeCell_1 : decode cX12_writeCell 1 = .ok (.getfield 63, 3) := by decide +kernel
theorem dX12_writeCell_4 : decode cX12_writeCell 4 = .ok (.aload_n 0, 1) := by decide +kernel
theorem dX12_writeCell_5 : decode cX12_writeCell 5 = .ok (.getfield 12, 3) := by decide +kernel
theorem dX12_writeCell_8 : decode cX12_writeCell 8 = .ok (.getfield 108, 3) := by decide +kernel
theorem dX12_writeCell_11 : decode cX12_writeCell 11 = .ok (.iload_n 1, 1) := by decide +kernel
theorem dX12_writeCell_12 : decode cX12_writeCell 12 = .ok (.iaload, 1) := by decide +kernel
theorem dX12_writeCell_13 : decode cX12_writeCell 13 = .ok (.invokevirtual 360, 3) := by decide +kernel
theorem dX12_writeCell_16 : decode cX12_writeCell 16 = .ok (.pop, 1) := by decide +kernel
theorem dX12_writeCell_17 : decode cX12_writeCell 17 = .ok (.aload_n 0, 1) := by decide +kernel
theorem dX12_writeCell_18 : decode cX12_writeCell 18 = .ok (.getfield 12, 3) := by decide +kernel
theorem dX12_writeCell_21 : decode cX12_writeCell 21 = .ok (.getfield 115, 3) := by decide +kernel
theorem dX12_writeCell_24 : decode cX12_writeCell 24 = .ok (.iload_n 1, 1) := by decide +kernel
theorem dX12_writeCell_25 : decode cX12_writeCell 25 = .ok (.baload, 1) := by decide +kernel
theorem dX12_writeCell_26 : decode cX12_writeCell 26 = .ok (.ifCond .eq 13, 3) := by decide +kernel
theorem dX12_writeCell_29 : decode cX12_writeCell 29 = .ok (.aload_n 0, 1) := by decide +kernel
theorem dX12_writeCell_30 : decode cX12_writeCell 30 = .ok (.getfield 63, 3) := by decide +kernel
theorem dX12_writeCell_33 : decode cX12_writeCell 33 = .ok (.bipush 94, 2) := by decide +kernel
theorem dX12_writeCell_35 : decode cX12_writeCell 35 = .ok (.invokevirtual 286, 3) := by decide +kernel
theorem dX12_writeCell_38 : decode cX12_writeCell 38 = .ok (.pop, 1) := by decide +kernel
theorem dX12_writeCell_39 : decode cX12_writeCell 39 = .ok (.aload_n 0, 1) := by decide +kernel
theorem dX12_writeCell_40 : decode cX12_writeCell 40 = .ok (.getfield 12, 3) := by decide +kernel
theorem dX12_writeCell_43 : decode cX12_writeCell 43 = .ok (.getfield 140, 3) := by decide +kernel
theorem dX12_writeCell_46 : decode cX12_writeCell 46 = .ok (.iload_n 1, 1) := by decide +kernel
theorem dX12_writeCell_47 : decode cX12_writeCell 47 = .ok (.iaload, 1) := by decide +kernel
theorem dX12_writeCell_48 : decode cX12_writeCell 48 = .ok (.ifCond .le 13, 3) := by decide +kernel
theorem dX12_writeCell_51 : decode cX12_writeCell 51 = .ok (.aload_n 0, 1) := by decide +kernel
theorem dX12_writeCell_52 : decode cX12_writeCell 52 = .ok (.getfield 63, 3) := by decide +kernel
theorem dX12_writeCell_55 : decode cX12_writeCell 55 = .ok (.bipush 126, 2) := by decide +kernel
theorem dX12_writeCell_57 : decode cX12_writeCell 57 = .ok (.invokevirtual 286, 3) := by decide +kernel
theorem dX12_writeCell_60 : decode cX12_writeCell 60 = .ok (.pop, 1) := by decide +kernel
theorem dX12_writeCell_61 : decode cX12_writeCell 61 = .ok (.aload_n 0, 1) := by decide +kernel
theorem dX12_writeCell_62 : decode cX12_writeCell 62 = .ok (.getfield 12, 3) := by decide +kernel
theorem dX12_writeCell_65 : decode cX12_writeCell 65 = .ok (.iload_n 1, 1) := by decide +kernel
theorem dX12_writeCell_66 : decode cX12_writeCell 66 = .ok (.invokevirtual 210, 3) := by decide +kernel
theorem dX12_writeCell_69 : decode cX12_writeCell 69 = .ok (.ifCond .eq 13, 3) := by decide +kernel
theorem dX12_writeCell_72 : decode cX12_writeCell 72 = .ok (.aload_n 0, 1) := by decide +kernel
theorem dX12_writeCell_73 : decode cX12_writeCell 73 = .ok (.getfield 63, 3) := by decide +kernel
theorem dX12_writeCell_76 : decode cX12_writeCell 76 = .ok (.bipush 111, 2) := by decide +kernel
theorem dX12_writeCell_78 : decode cX12_writeCell 78 = .ok (.invokevirtual 286, 3) := by decide +kernel
theorem dX12_writeCell_81 : decode cX12_writeCell 81 = .ok (.pop, 1) := by decide +kernel
theorem dX12_writeCell_82 : decode cX12_writeCell 82 = .ok (.aload_n 0, 1) := by decide +kernel
theorem dX12_writeCell_83 : decode cX12_writeCell 83 = .ok (.getfield 12, 3) := by decide +kernel
theorem dX12_writeCell_86 : decode cX12_writeCell 86 = .ok (.iload_n 1, 1) := by decide +kernel
theorem dX12_writeCell_87 : decode cX12_writeCell 87 = .ok (.invokevirtual 363, 3) := by decide +kernel
theorem dX12_writeCell_90 : decode cX12_writeCell 90 = .ok (.iconst (-1), 1) := by decide +kernel
theorem dX12_writeCell_91 : decode cX12_writeCell 91 = .ok (.if_icmp .eq 13, 3) := by decide +kernel
theorem dX12_writeCell_94 : decode cX12_writeCell 94 = .ok (.aload_n 0, 1) := by decide +kernel
theorem dX12_writeCell_95 : decode cX12_writeCell 95 = .ok (.getfield 63, 3) := by decide +kernel
theorem dX12_writeCell_98 : decode cX12_writeCell 98 = .ok (.bipush 109, 2) := by decide +kernel
theorem dX12_writeCell_100 : decode cX12_writeCell 100 = .ok (.invokevirtual 286, 3) := by decide +kernel
theorem dX12_writeCell_103 : decode cX12_writeCell 103 = .ok (.pop, 1) := by decide +kernel
theorem dX12_writeCell_104 : decode cX12_writeCell 104 = .ok (.return_, 1) := by decide +kernel
theorem dX12_cellByHeight_0 : decode cX12_cellByHeight 0 = .ok (.iload_n 1, 1) := by decide +kernel
theorem dX12_cellByHeight_1 : decode cX12_cellByHeight 1 = .ok (.ifCond .lt 9, 3) := by decide +kernel
theorem dX12_cellByHeight_4 : decode cX12_cellByHeight 4 = .ok (.iload_n 1, 1) := by decide +kernel
theorem dX12_cellByHeight_5 : decode cX12_cellByHeight 5 = .ok (.bipush 36, 2) := by decide +kernel
theorem dX12_cellByHeight_7 : decode cX12_cellByHeight 7 = .ok (.if_icmp .lt 14, 3) := by decide +kernel
theorem dX12_cellByHeight_10 : decode cX12_cellByHeight 10 = .ok (.new 217, 3) := by decide +kernel
theorem dX12_cellByHeight_13 : decode cX12_cellByHeight 13 = .ok (.dup, 1) := by decide +kernel
theorem dX12_cellByHeight_14 : decode cX12_cellByHeight 14 = .ok (.ldc_w 366, 3) := by decide +kernel
theorem dX12_cellByHeight_17 : decode cX12_cellByHeight 17 = .ok (.invokespecial 221, 3) := by decide +kernel
theorem dX12_cellByHeight_20 : decode cX12_cellByHeight 20 = .ok (.athrow, 1) := by decide +kernel
theorem dX12_cellByHeight_21 : decode cX12_cellByHeight 21 = .ok (.aload_n 0, 1) := by decide +kernel
theorem dX12_cellByHeight_22 : decode cX12_cellByHeight 22 = .ok (.getfield 35, 3) := by decide +kernel
theorem dX12_cellByHeight_25 : decode cX12_cellByHeight 25 = .ok (.aload_n 0, 1) := by decide +kernel
theorem dX12_cellByHeight_26 : decode cX12_cellByHeight 26 = .ok (.getfield 12, 3) := by decide +kernel
theorem dX12_cellByHeight_29 : decode cX12_cellByHeight 29 = .ok (.iload_n 1, 1) := by decide +kernel
theorem dX12_cellByHeight_30 : decode cX12_cellByHeight 30 = .ok (.invokevirtual 368, 3) := by decide +kernel
theorem dX12_cellByHeight_33 : decode cX12_cellByHeight 33 = .ok (.ireturn, 1) := by decide +kernel
theorem dX12_cellOfMoth_0 : decode cX12_cellOfMoth 0 = .ok (.aload_n 0, 1) := by decide +kernel
theorem dX12_cellOfMoth_1 : decode cX12_cellOfMoth 1 = .ok (.getfield 12, 3) := by decide +kernel
theorem dX12_cellOfMoth_4 : decode cX12_cellOfMoth 4 = .ok (.iload_n 1, 1) := by decide +kernel
theorem dX12_cellOfMoth_5 : decode cX12_cellOfMoth 5 = .ok (.invokevirtual 371, 3) := by decide +kernel
theorem dX12_cellOfMoth_8 : decode cX12_cellOfMoth 8 = .ok (.ifCond .ne 14, 3) := by decide +kernel
theorem dX12_cellOfMoth_11 : decode cX12_cellOfMoth 11 = .ok (.new 294, 3) := by decide +kernel
theorem dX12_cellOfMoth_14 : decode cX12_cellOfMoth 14 = .ok (.dup, 1) := by decide +kernel
theorem dX12_cellOfMoth_15 : decode cX12_cellOfMoth 15 = .ok (.ldc_w 374, 3) := by decide +kernel
theorem dX12_cellOfMoth_18 : decode cX12_cellOfMoth 18 = .ok (.invokespecial 298, 3) := by decide +kernel
theorem dX12_cellOfMoth_21 : decode cX12_cellOfMoth 21 = .ok (.athrow, 1) := by decide +kernel
theorem dX12_cellOfMoth_22 : decode cX12_cellOfMoth 22 = .ok (.aload_n 0, 1) := by decide +kernel
theorem dX12_cellOfMoth_23 : decode cX12_cellOfMoth 23 = .ok (.getfield 12, 3) := by decide +kernel
theorem dX12_cellOfMoth_26 : decode cX12_cellOfMoth 26 = .ok (.getfield 376, 3) := by decide +kernel
theorem dX12_cellOfMoth_29 : decode cX12_cellOfMoth 29 = .ok (.iload_n 1, 1) := by decide +kernel
theorem dX12_cellOfMoth_30 : decode cX12_cellOfMoth 30 = .ok (.iaload, 1) := by decide +kernel
theorem dX12_cellOfMoth_31 : decode cX12_cellOfMoth 31 = .ok (.ireturn, 1) := by decide +kernel
theorem dX12_requireLevel_0 : decode cX12_requireLevel 0 = .ok (.iload_n 0, 1) := by decide +kernel
theorem dX12_requireLevel_1 : decode cX12_requireLevel 1 = .ok (.ifCond .lt 9, 3) := by decide +kernel
theorem dX12_requireLevel_4 : decode cX12_requireLevel 4 = .ok (.iload_n 0, 1) := by decide +kernel
theorem dX12_requireLevel_5 : decode cX12_requireLevel 5 = .ok (.bipush 99, 2) := by decide +kernel
theorem dX12_requireLevel_7 : decode cX12_requireLevel 7 = .ok (.if_icmp .le 14, 3) := by decide +kernel
theorem dX12_requireLevel_10 : decode cX12_requireLevel 10 = .ok (.new 263, 3) := by decide +kernel
theorem dX12_requireLevel_13 : decode cX12_requireLevel 13 = .ok (.dup, 1) := by decide +kernel
theorem dX12_requireLevel_14 : decode cX12_requireLevel 14 = .ok (.ldc_w 379, 3) := by decide +kernel
theorem dX12_requireLevel_17 : decode cX12_requireLevel 17 = .ok (.invokespecial 267, 3) := by decide +kernel
theorem dX12_requireLevel_20 : decode cX12_requireLevel 20 = .ok (.athrow, 1) := by decide +kernel
theorem dX12_requireLevel_21 : decode cX12_requireLevel 21 = .ok (.return_, 1) := by decide +kernel
theorem dX12_requiredCell_0 : decode cX12_requiredCell 0 = .ok (.iload_n 0, 1) := by decide +kernel
theorem dX12_requiredCell_1 : decode cX12_requiredCell 1 = .ok (.iload_n 1, 1) := by decide +kernel
theorem dX12_requiredCell_2 : decode cX12_requiredCell 2 = .ok (.invokestatic 88, 3) := by decide +kernel
theorem dX12_requiredCell_5 : decode cX12_requiredCell 5 = .ok (.istore_n 2, 1) := by decide +kernel
theorem dX12_requiredCell_6 : decode cX12_requiredCell 6 = .ok (.iload_n 2, 1) := by decide +kernel
theorem dX12_requiredCell_7 : decode cX12_requiredCell 7 = .ok (.iconst (-1), 1) := by decide +kernel
theorem dX12_requiredCell_8 : decode cX12_requiredCell 8 = .ok (.if_icmp .ne 14, 3) := by decide +kernel
theorem dX12_requiredCell_11 : decode cX12_requiredCell 11 = .ok (.new 294, 3) := by decide +kernel
theorem dX12_requiredCell_14 : decode cX12_requiredCell 14 = .ok (.dup, 1) := by decide +kernel
theorem dX12_requiredCell_15 : decode cX12_requiredCell 15 = .ok (.ldc_w 381, 3) := by decide +kernel
theorem dX12_requiredCell_18 : decode cX12_requiredCell 18 = .ok (.invokespecial 298, 3) := by decide +kernel
theorem dX12_requiredCell_21 : decode cX12_requiredCell 21 = .ok (.athrow, 1) := by decide +kernel
theorem dX12_requiredCell_22 : decode cX12_requiredCell 22 = .ok (.iload_n 2, 1) := by decide +kernel
theorem dX12_requiredCell_23 : decode cX12_requiredCell 23 = .ok (.ireturn, 1) := by decide +kernel
theorem dX12_requiredOfRoute_0 : decode cX12_requiredOfRoute 0 = .ok (.iload_n 0, 1) := by decide +kernel
theorem dX12_requiredOfRoute_1 : decode cX12_requiredOfRoute 1 = .ok (.iconst (-1), 1) := by decide +kernel
theorem dX12_requiredOfRoute_2 : decode cX12_requiredOfRoute 2 = .ok (.if_icmp .ne 14, 3) := by decide +kernel
theorem dX12_requiredOfRoute_5 : decode cX12_requiredOfRoute 5 = .ok (.new 217, 3) := by decide +kernel
theorem dX12_requiredOfRoute_8 : decode cX12_requiredOfRoute 8 = .ok (.dup, 1) := by decide +kernel
theorem dX12_requiredOfRoute_9 : decode cX12_requiredOfRoute 9 = .ok (.ldc_w 383, 3) := by decide +kernel
theorem dX12_requiredOfRoute_12 : decode cX12_requiredOfRoute 12 = .ok (.invokespecial 221, 3) := by decide +kernel
theorem dX12_requiredOfRoute_15 : decode cX12_requiredOfRoute 15 = .ok (.athrow, 1) := by decide +kernel
theorem dX12_requiredOfRoute_16 : decode cX12_requiredOfRoute 16 = .ok (.iload_n 0, 1) := by decide +kernel
theorem dX12_requiredOfRoute_17 : decode cX12_requiredOfRoute 17 = .ok (.ireturn, 1) := by decide +kernel
theorem dX12_cellOf_0 : decode cX12_cellOf 0 = .ok (.iload_n 0, 1) := by decide +kernel
theorem dX12_cellOf_1 : decode cX12_cellOf 1 = .ok (.ifCond .lt 19, 3) := by decide +kernel
theorem dX12_cellOf_4 : decode cX12_cellOf 4 = .ok (.iload_n 0, 1) := by decide +kernel
theorem dX12_cellOf_5 : decode cX12_cellOf 5 = .ok (.bipush 6, 2) := by decide +kernel
theorem dX12_cellOf_7 : decode cX12_cellOf 7 = .ok (.if_icmp .ge 13, 3) := by decide +kernel
theorem dX12_cellOf_10 : decode cX12_cellOf 10 = .ok (.iload_n 1, 1) := by decide +kernel
theorem dX12_cellOf_11 : decode cX12_cellOf 11 = .ok (.ifCond .lt 9, 3) := by decide +kernel
theorem dX12_cellOf_14 : decode cX12_cellOf 14 = .ok (.iload_n 1, 1) := by decide +kernel
theorem dX12_cellOf_15 : decode cX12_cellOf 15 = .ok (.bipush 6, 2) := by decide +kernel
theorem dX12_cellOf_17 : decode cX12_cellOf 17 = .ok (.if_icmp .lt 5, 3) := by decide +kernel
theorem dX12_cellOf_20 : decode cX12_cellOf 20 = .ok (.iconst (-1), 1) := by decide +kernel
theorem dX12_cellOf_21 : decode cX12_cellOf 21 = .ok (.ireturn, 1) := by decide +kernel
theorem dX12_cellOf_22 : decode cX12_cellOf 22 = .ok (.iload_n 0, 1) := by decide +kernel
theorem dX12_cellOf_23 : decode cX12_cellOf 23 = .ok (.bipush 6, 2) := by decide +kernel
theorem dX12_cellOf_25 : decode cX12_cellOf 25 = .ok (.imul, 1) := by decide +kernel
theorem dX12_cellOf_26 : decode cX12_cellOf 26 = .ok (.iload_n 1, 1) := by decide +kernel
theorem dX12_cellOf_27 : decode cX12_cellOf 27 = .ok (.iadd, 1) := by decide +kernel
theorem dX12_cellOf_28 : decode cX12_cellOf 28 = .ok (.ireturn, 1) := by decide +kernel
theorem dX12_neighbour_0 : decode cX12_neighbour 0 = .ok (.iload_n 0, 1) := by decide +kernel
theorem dX12_neighbour_1 : decode cX12_neighbour 1 = .ok (.bipush 6, 2) := by decide +kernel
theorem dX12_neighbour_3 : decode cX12_neighbour 3 = .ok (.idiv, 1) := by decide +kernel
theorem dX12_neighbour_4 : decode cX12_neighbour 4 = .ok (.istore_n 2, 1) := by decide +kernel
theorem dX12_neighbour_5 : decode cX12_neighbour 5 = .ok (.iload_n 0, 1) := by decide +kernel
theorem dX12_neighbour_6 : decode cX12_neighbour 6 = .ok (.bipush 6, 2) := by decide +kernel
theorem dX12_neighbour_8 : decode cX12_neighbour 8 = .ok (.irem, 1) := by decide +kernel
theorem dX12_neighbour_9 : decode cX12_neighbour 9 = .ok (.istore_n 3, 1) := by decide +kernel
theorem dX12_neighbour_10 : decode cX12_neighbour 10 = .ok (.iload_n 1, 1) := by decide +kernel
theorem dX12_neighbour_11 : decode cX12_neighbour 11 = .ok (.tableswitch 65 0 2 #[25, 38, 51], 25) := by decide +kernel
theorem dX12_neighbour_36 : decode cX12_neighbour 36 = .ok (.iload_n 2, 1) := by decide +kernel
theorem dX12_neighbour_37 : decode cX12_neighbour 37 = .ok (.ifCond .ne 7, 3) := by decide +kernel
theorem dX12_neighbour_40 : decode cX12_neighbour 40 = .ok (.iconst (-1), 1) := by decide +kernel
theorem dX12_neighbour_41 : decode cX12_neighbour 41 = .ok (.goto 7, 3) := by decide +kernel
theorem dX12_neighbour_44 : decode cX12_neighbour 44 = .ok (.iload_n 0, 1) := by decide +kernel
theorem dX12_neighbour_45 : decode cX12_neighbour 45 = .ok (.bipush 6, 2) := by decide +kernel
theorem dX12_neighbour_47 : decode cX12_neighbour 47 = .ok (.isub, 1) := by decide +kernel
theorem dX12_neighbour_48 : decode cX12_neighbour 48 = .ok (.ireturn, 1) := by decide +kernel
theorem dX12_neighbour_49 : decode cX12_neighbour 49 = .ok (.iload_n 3, 1) := by decide +kernel
theorem dX12_neighbour_50 : decode cX12_neighbour 50 = .ok (.iconst 5, 1) := by decide +kernel
theorem dX12_neighbour_51 : decode cX12_neighbour 51 = .ok (.if_icmp .ne 7, 3) := by decide +kernel
theorem dX12_neighbour_54 : decode cX12_neighbour 54 = .ok (.iconst (-1), 1) := by decide +kernel
theorem dX12_neighbour_55 : decode cX12_neighbour 55 = .ok (.goto 6, 3) := by decide +kernel
theorem dX12_neighbour_58 : decode cX12_neighbour 58 = .ok (.iload_n 0, 1) := by decide +kernel
theorem dX12_neighbour_59 : decode cX12_neighbour 59 = .ok (.iconst 1, 1) := by decide +kernel
theorem dX12_neighbour_60 : decode cX12_neighbour 60 = .ok (.iadd, 1) := by decide +kernel
theorem dX12_neighbour_61 : decode cX12_neighbour 61 = .ok (.ireturn, 1) := by decide +kernel
theorem dX12_neighbour_62 : decode cX12_neighbour 62 = .ok (.iload_n 2, 1) := by decide +kernel
theorem dX12_neighbour_63 : decode cX12_neighbour 63 = .ok (.iconst 5, 1) := by decide +kernel
theorem dX12_neighbour_64 : decode cX12_neighbour 64 = .ok (.if_icmp .ne 7, 3) := by decide +kernel
theorem dX12_neighbour_67 : decode cX12_neighbour 67 = .ok (.iconst (-1), 1) := by decide +kernel
theorem dX12_neighbour_68 : decode cX12_neighbour 68 = .ok (.goto 7, 3) := by decide +kernel
theorem dX12_neighbour_71 : decode cX12_neighbour 71 = .ok (.iload_n 0, 1) := by decide +kernel
theorem dX12_neighbour_72 : decode cX12_neighbour 72 = .ok (.bipush 6, 2) := by decide +kernel
theorem dX12_neighbour_74 : decode cX12_neighbour 74 = .ok (.iadd, 1) := by decide +kernel
theorem dX12_neighbour_75 : decode cX12_neighbour 75 = .ok (.ireturn, 1) := by decide +kernel
theorem dX12_neighbour_76 : decode cX12_neighbour 76 = .ok (.iload_n 3, 1) := by decide +kernel
theorem dX12_neighbour_77 : decode cX12_neighbour 77 = .ok (.ifCond .ne 7, 3) := by decide +kernel
theorem dX12_neighbour_80 : decode cX12_neighbour 80 = .ok (.iconst (-1), 1) := by decide +kernel
theorem dX12_neighbour_81 : decode cX12_neighbour 81 = .ok (.goto 6, 3) := by decide +kernel
theorem dX12_neighbour_84 : decode cX12_neighbour 84 = .ok (.iload_n 0, 1) := by decide +kernel
theorem dX12_neighbour_85 : decode cX12_neighbour 85 = .ok (.iconst 1, 1) := by decide +kernel
theorem dX12_neighbour_86 : decode cX12_neighbour 86 = .ok (.isub, 1) := by decide +kernel
theorem dX12_neighbour_87 : decode cX12_neighbour 87 = .ok (.ireturn, 1) := by decide +kernel
theorem dX12_isOnBorder_0 : decode cX12_isOnBorder 0 = .ok (.iload_n 0, 1) := by decide +kernel
theorem dX12_isOnBorder_1 : decode cX12_isOnBorder 1 = .ok (.bipush 6, 2) := by decide +kernel
theorem dX12_isOnBorder_3 : decode cX12_isOnBorder 3 = .ok (.idiv, 1) := by decide +kernel
theorem dX12_isOnBorder_4 : decode cX12_isOnBorder 4 = .ok (.istore_n 1, 1) := by decide +kernel
theorem dX12_isOnBorder_5 : decode cX12_isOnBorder 5 = .ok (.iload_n 0, 1) := by decide +kernel
theorem dX12_isOnBorder_6 : decode cX12_isOnBorder 6 = .ok (.bipush 6, 2) := by decide +kernel
theorem dX12_isOnBorder_8 : decode cX12_isOnBorder 8 = .ok (.irem, 1) := by decide +kernel
theorem dX12_isOnBorder_9 : decode cX12_isOnBorder 9 = .ok (.istore_n 2, 1) := by decide +kernel
theorem dX12_isOnBorder_10 : decode cX12_isOnBorder 10 = .ok (.iload_n 1, 1) := by decide +kernel
theorem dX12_isOnBorder_11 : decode cX12_isOnBorder 11 = .ok (.ifCond .eq 17, 3) := by decide +kernel
theorem dX12_isOnBorder_14 : decode cX12_isOnBorder 14 = .ok (.iload_n 1, 1) := by decide +kernel
theorem dX12_isOnBorder_15 : decode cX12_isOnBorder 15 = .ok (.iconst 5, 1) := by decide +kernel
theorem dX12_isOnBorder_16 : decode cX12_isOnBorder 16 = .ok (.if_icmp .eq 12, 3) := by decide +kernel
theorem dX12_isOnBorder_19 : decode cX12_isOnBorder 19 = .ok (.iload_n 2, 1) := by decide +kernel
theorem dX12_isOnBorder_20 : decode cX12_isOnBorder 20 = .ok (.ifCond .eq 8, 3) := by decide +kernel
theorem dX12_isOnBorder_23 : decode cX12_isOnBorder 23 = .ok (.iload_n 2, 1) := by decide +kernel
theorem dX12_isOnBorder_24 : decode cX12_isOnBorder 24 = .ok (.iconst 5, 1) := by decide +kernel
theorem dX12_isOnBorder_25 : decode cX12_isOnBorder 25 = .ok (.if_icmp .ne 7, 3) := by decide +kernel
theorem dX12_isOnBorder_28 : decode cX12_isOnBorder 28 = .ok (.iconst 1, 1) := by decide +kernel
theorem dX12_isOnBorder_29 : decode cX12_isOnBorder 29 = .ok (.goto 4, 3) := by decide +kernel
theorem dX12_isOnBorder_32 : decode cX12_isOnBorder 32 = .ok (.iconst 0, 1) := by decide +kernel
theorem dX12_isOnBorder_33 : decode cX12_isOnBorder 33 = .ok (.ireturn, 1) := by decide +kernel
