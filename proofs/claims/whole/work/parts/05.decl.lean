theorem dL_setHeight_0 : decode cL_setHeight 0 = .ok (.aload 4, 2) := by decide +kernel
theorem dL_setHeight_2 : decode cL_setHeight 2 = .ok (.iconst 0, 1) := by decide +kernel
theorem dL_setHeight_3 : decode cL_setHeight 3 = .ok (.aload_n 0, 1) := by decide +kernel
theorem dL_setHeight_4 : decode cL_setHeight 4 = .ok (.iload_n 1, 1) := by decide +kernel
theorem dL_setHeight_5 : decode cL_setHeight 5 = .ok (.iload_n 2, 1) := by decide +kernel
theorem dL_setHeight_6 : decode cL_setHeight 6 = .ok (.iload_n 3, 1) := by decide +kernel
theorem dL_setHeight_7 : decode cL_setHeight 7 = .ok (.invokevirtual 7, 3) := by decide +kernel
theorem dL_setHeight_10 : decode cL_setHeight 10 = .ok (.i2l, 1) := by decide +kernel
theorem dL_setHeight_11 : decode cL_setHeight 11 = .ok (.lastore, 1) := by decide +kernel
theorem dL_setHeight_12 : decode cL_setHeight 12 = .ok (.goto 15, 3) := by decide +kernel
theorem dL_setHeight_15 : decode cL_setHeight 15 = .ok (.astore 5, 2) := by decide +kernel
theorem dL_setHeight_17 : decode cL_setHeight 17 = .ok (.iconst 1, 1) := by decide +kernel
theorem dL_setHeight_18 : decode cL_setHeight 18 = .ok (.ireturn, 1) := by decide +kernel
theorem dL_setHeight_19 : decode cL_setHeight 19 = .ok (.astore 5, 2) := by decide +kernel
theorem dL_setHeight_21 : decode cL_setHeight 21 = .ok (.iconst 2, 1) := by decide +kernel
theorem dL_setHeight_22 : decode cL_setHeight 22 = .ok (.ireturn, 1) := by decide +kernel
theorem dL_setHeight_23 : decode cL_setHeight 23 = .ok (.astore 5, 2) := by decide +kernel
theorem dL_setHeight_25 : decode cL_setHeight 25 = .ok (.iconst 3, 1) := by decide +kernel
theorem dL_setHeight_26 : decode cL_setHeight 26 = .ok (.ireturn, 1) := by decide +kernel
theorem dL_setHeight_27 : decode cL_setHeight 27 = .ok (.iconst 0, 1) := by decide +kernel
theorem dL_setHeight_28 : decode cL_setHeight 28 = .ok (.ireturn, 1) := by decide +kernel
theorem dL_peg_0 : decode cL_peg 0 = .ok (.aload_n 3, 1) := by decide +kernel
theorem dL_peg_1 : decode cL_peg 1 = .ok (.iconst 0, 1) := by decide +kernel
theorem dL_peg_2 : decode cL_peg 2 = .ok (.aload_n 0, 1) := by decide +kernel
theorem dL_peg_3 : decode cL_peg 3 = .ok (.iload_n 1, 1) := by decide +kernel
theorem dL_peg_4 : decode cL_peg 4 = .ok (.iload_n 2, 1) := by decide +kernel
theorem dL_peg_5 : decode cL_peg 5 = .ok (.invokevirtual 19, 3) := by decide +kernel
theorem dL_peg_8 : decode cL_peg 8 = .ok (.i2l, 1) := by decide +kernel
theorem dL_peg_9 : decode cL_peg 9 = .ok (.lastore, 1) := by decide +kernel
theorem dL_peg_10 : decode cL_peg 10 = .ok (.goto 11, 3) := by decide +kernel
theorem dL_peg_13 : decode cL_peg 13 = .ok (.astore 4, 2) := by decide +kernel
theorem dL_peg_15 : decode cL_peg 15 = .ok (.iconst 1, 1) := by decide +kernel
theorem dL_peg_16 : decode cL_peg 16 = .ok (.ireturn, 1) := by decide +kernel
theorem dL_peg_17 : decode cL_peg 17 = .ok (.astore 4, 2) := by decide +kernel
theorem dL_peg_19 : decode cL_peg 19 = .ok (.iconst 2, 1) := by decide +kernel
theorem dL_peg_20 : decode cL_peg 20 = .ok (.ireturn, 1) := by decide +kernel
theorem dL_peg_21 : decode cL_peg 21 = .ok (.iconst 0, 1) := by decide +kernel
theorem dL_peg_22 : decode cL_peg 22 = .ok (.ireturn, 1) := by decide +kernel
theorem dL_unpeg_0 : decode cL_unpeg 0 = .ok (.aload_n 3, 1) := by decide +kernel
theorem dL_unpeg_1 : decode cL_unpeg 1 = .ok (.iconst 0, 1) := by decide +kernel
theorem dL_unpeg_2 : decode cL_unpeg 2 = .ok (.aload_n 0, 1) := by decide +kernel
theorem dL_unpeg_3 : decode cL_unpeg 3 = .ok (.iload_n 1, 1) := by decide +kernel
theorem dL_unpeg_4 : decode cL_unpeg 4 = .ok (.iload_n 2, 1) := by decide +kernel
theorem dL_unpeg_5 : decode cL_unpeg 5 = .ok (.invokevirtual 23, 3) := by decide +kernel
theorem dL_unpeg_8 : decode cL_unpeg 8 = .ok (.i2l, 1) := by decide +kernel
theorem dL_unpeg_9 : decode cL_unpeg 9 = .ok (.lastore, 1) := by decide +kernel
theorem dL_unpeg_10 : decode cL_unpeg 10 = .ok (.goto 11, 3) := by decide +kernel
theorem dL_unpeg_13 : decode cL_unpeg 13 = .ok (.astore 4, 2) := by decide +kernel
theorem dL_unpeg_15 : decode cL_unpeg 15 = .ok (.iconst 1, 1) := by decide +kernel
theorem dL_unpeg_16 : decode cL_unpeg 16 = .ok (.ireturn, 1) := by decide +kernel
theorem dL_unpeg_17 : decode cL_unpeg 17 = .ok (.astore 4, 2) := by decide +kernel
theorem dL_unpeg_19 : decode cL_unpeg 19 = .ok (.iconst 2, 1) := by decide +kernel
theorem dL_unpeg_20 : decode cL_unpeg 20 = .ok (.ireturn, 1) := by decide +kernel
theorem dL_unpeg_21 : decode cL_unpeg 21 = .ok (.iconst 0, 1) := by decide +kernel
theorem dL_unpeg_22 : decode cL_unpeg 22 = .ok (.ireturn, 1) := by decide +kernel
theorem dL_height_0 : decode cL_height 0 = .ok (.aload_n 3, 1) := by decide +kernel
theorem dL_height_1 : decode cL_height 1 = .ok (.iconst 0, 1) := by decide +kernel
theorem dL_height_2 : decode cL_height 2 = .ok (.aload_n 0, 1) := by decide +kernel
theorem dL_height_3 : decode cL_height 3 = .ok (.iload_n 1, 1) := by decide +kernel
theorem dL_height_4 : decode cL_height 4 = .ok (.iload_n 2, 1) := by decide +kernel
theorem dL_height_5 : decode cL_height 5 = .ok (.invokevirtual 26, 3) := by decide +kernel
theorem dL_height_8 : decode cL_height 8 = .ok (.i2l, 1) := by decide +kernel
theorem dL_height_9 : decode cL_height 9 = .ok (.lastore, 1) := by decide +kernel
theorem dL_height_10 : decode cL_height 10 = .ok (.goto 7, 3) := by decide +kernel
theorem dL_height_13 : decode cL_height 13 = .ok (.astore 4, 2) := by decide +kernel
theorem dL_height_15 : decode cL_height 15 = .ok (.iconst 1, 1) := by decide +kernel
theorem dL_height_16 : decode cL_height 16 = .ok (.ireturn, 1) := by decide +kernel
theorem dL_height_17 : decode cL_height 17 = .ok (.iconst 0, 1) := by decide +kernel
theorem dL_height_18 : decode cL_height 18 = .ok (.ireturn, 1) := by decide +kernel
theorem dL_isPegged_0 : decode cL_isPegged 0 = .ok (.aload_n 3, 1) := by decide +kernel
theorem dL_isPegged_1 : decode cL_isPegged 1 = .ok (.iconst 0, 1) := by decide +kernel
theorem dL_isPegged_2 : decode cL_isPegged 2 = .ok (.aload_n 0, 1) := by decide +kernel
theorem dL_isPegged_3 : decode cL_isPegged 3 = .ok (.iload_n 1, 1) := by decide +kernel
theorem dL_isPegged_4 : decode cL_isPegged 4 = .ok (.iload_n 2, 1) := by decide +kernel
theorem dL_isPegged_5 : decode cL_isPegged 5 = .ok (.invokevirtual 29, 3) := by decide +kernel
theorem dL_isPegged_8 : decode cL_isPegged 8 = .ok (.ifCond .eq 7, 3) := by decide +kernel
theorem dL_isPegged_11 : decode cL_isPegged 11 = .ok (.lconst 1, 1) := by decide +kernel
theorem dL_isPegged_12 : decode cL_isPegged 12 = .ok (.goto 4, 3) := by decide +kernel
theorem dL_isPegged_15 : decode cL_isPegged 15 = .ok (.lconst 0, 1) := by decide +kernel
theorem dL_isPegged_16 : decode cL_isPegged 16 = .ok (.lastore, 1) := by decide +kernel
theorem dL_isPegged_17 : decode cL_isPegged 17 = .ok (.goto 7, 3) := by decide +kernel
theorem dL_isPegged_20 : decode cL_isPegged 20 = .ok (.astore 4, 2) := by decide +kernel
theorem dL_isPegged_22 : decode cL_isPegged 22 = .ok (.iconst 1, 1) := by decide +kernel
theorem dL_isPegged_23 : decode cL_isPegged 23 = .ok (.ireturn, 1) := by decide +kernel
theorem dL_isPegged_24 : decode cL_isPegged 24 = .ok (.iconst 0, 1) := by decide +kernel
theorem dL_isPegged_25 : decode cL_isPegged 25 = .ok (.ireturn, 1) := by decide +kernel
theorem dL_rowByHeight_0 : decode cL_rowByHeight 0 = .ok (.aload_n 2, 1) := by decide +kernel
theorem dL_rowByHeight_1 : decode cL_rowByHeight 1 = .ok (.iconst 0, 1) := by decide +kernel
theorem dL_rowByHeight_2 : decode cL_rowByHeight 2 = .ok (.aload_n 0, 1) := by decide +kernel
theorem dL_rowByHeight_3 : decode cL_rowByHeight 3 = .ok (.iload_n 1, 1) := by decide +kernel
theorem dL_rowByHeight_4 : decode cL_rowByHeight 4 = .ok (.invokevirtual 33, 3) := by decide +kernel
theorem dL_rowByHeight_7 : decode cL_rowByHeight 7 = .ok (.i2l, 1) := by decide +kernel
theorem dL_rowByHeight_8 : decode cL_rowByHeight 8 = .ok (.lastore, 1) := by decide +kernel
theorem dL_rowByHeight_9 : decode cL_rowByHeight 9 = .ok (.goto 6, 3) := by decide +kernel
theorem dL_rowByHeight_12 : decode cL_rowByHeight 12 = .ok (.astore_n 3, 1) := by decide +kernel
theorem dL_rowByHeight_13 : decode cL_rowByHeight 13 = .ok (.iconst 1, 1) := by decide +kernel
theorem dL_rowByHeight_14 : decode cL_rowByHeight 14 = .ok (.ireturn, 1) := by decide +kernel
theorem dL_rowByHeight_15 : decode cL_rowByHeight 15 = .ok (.iconst 0, 1) := by decide +kernel
theorem dL_rowByHeight_16 : decode cL_rowByHeight 16 = .ok (.ireturn, 1) := by decide +kernel
theorem dL_columnByHeight_0 : decode cL_columnByHeight 0 = .ok (.aload_n 2, 1) := by decide +kernel
theorem dL_columnByHeight_1 : decode cL_columnByHeight 1 = .ok (.iconst 0, 1) := by decide +kernel
theorem dL_columnByHeight_2 : decode cL_columnByHeight 2 = .ok (.aload_n 0, 1) := by decide +kernel
theorem dL_columnByHeight_3 : decode cL_columnByHeight 3 = .ok (.iload_n 1, 1) := by decide +kernel
theorem dL_columnByHeight_4 : decode cL_columnByHeight 4 = .ok (.invokevirtual 39, 3) := by decide +kernel
theorem dL_columnByHeight_7 : decode cL_columnByHeight 7 = .ok (.i2l, 1) := by decide +kernel
theorem dL_columnByHeight_8 : decode cL_columnByHeight 8 = .ok (.lastore, 1) := by decide +kernel
theorem dL_columnByHeight_9 : decode cL_columnByHeight 9 = .ok (.goto 6, 3) := by decide +kernel
theorem dL_columnByHeight_12 : decode cL_columnByHeight 12 = .ok (.astore_n 3, 1) := by decide +kernel
theorem dL_columnByHeight_13 : decode cL_columnByHeight 13 = .ok (.iconst 1, 1) := by decide +kernel
theorem dL_columnByHeight_14 : decode cL_columnByHeight 14 = .ok (.ireturn, 1) := by decide +kernel
theorem dL_columnByHeight_15 : decode cL_columnByHeight 15 = .ok (.iconst 0, 1) := by decide +kernel
theorem dL_columnByHeight_16 : decode cL_columnByHeight 16 = .ok (.ireturn, 1) := by decide +kernel
theorem dL_islands_0 : decode cL_islands 0 = .ok (.aload_n 2, 1) := by decide +kernel
theorem dL_islands_1 : decode cL_islands 1 = .ok (.iconst 0, 1) := by decide +kernel
theorem dL_islands_2 : decode cL_islands 2 = .ok (.aload_n 0, 1) := by decide +kernel
theorem dL_islands_3 : decode cL_islands 3 = .ok (.iload_n 1, 1) := by decide +kernel
theorem dL_islands_4 : decode cL_islands 4 = .ok (.invokevirtual 42, 3) := by decide +kernel
theorem dL_islands_7 : decode cL_islands 7 = .ok (.i2l, 1) := by decide +kernel
theorem dL_islands_8 : decode cL_islands 8 = .ok (.lastore, 1) := by decide +kernel
theorem dL_islands_9 : decode cL_islands 9 = .ok (.goto 6, 3) := by decide +kernel
theorem dL_islands_12 : decode cL_islands 12 = .ok (.astore_n 3, 1) := by decide +kernel
theorem dL_islands_13 : decode cL_islands 13 = .ok (.iconst 1, 1) := by decide +kernel
theorem dL_islands_14 : decode cL_islands 14 = .ok (.ireturn, 1) := by decide +kernel
theorem dL_islands_15 : decode cL_islands 15 = .ok (.iconst 0, 1) := by decide +kernel
theorem dL_islands_16 : decode cL_islands 16 = .ok (.ireturn, 1) := by decide +kernel
theorem dL_islandsByUnions_0 : decode cL_islandsByUnions 0 = .ok (.aload_n 2, 1) := by decide +kernel
theorem dL_islandsByUnions_1 : decode cL_islandsByUnions 1 = .ok (.iconst 0, 1) := by decide +kernel
theorem dL_islandsByUnions_2 : decode cL_islandsByUnions 2 = .ok (.aload_n 0, 1) := by decide +kernel
theorem dL_islandsByUnions_3 : decode cL_islandsByUnions 3 = .ok (.iload_n 1, 1) := by decide +kernel
theorem dL_islandsByUnions_4 : decode cL_islandsByUnions 4 = .ok (.invokevirtual 45, 3) := by decide +kernel
theorem dL_islandsByUnions_7 : decode cL_islandsByUnions 7 = .ok (.i2l, 1) := by decide +kernel
theorem dL_islandsByUnions_8 : decode cL_islandsByUnions 8 = .ok (.lastore, 1) := by decide +kernel
theorem dL_islandsByUnions_9 : decode cL_islandsByUnions 9 = .ok (.goto 6, 3) := by decide +kernel
theorem dL_islandsByUnions_12 : decode cL_islandsByUnions 12 = .ok (.astore_n 3, 1) := by decide +kernel
theorem dL_islandsByUnions_13 : decode cL_islandsByUnions 13 = .ok (.iconst 1, 1) := by decide +kernel
theorem dL_islandsByUnions_14 : decode cL_islandsByUnions 14 = .ok (.ireturn, 1) := by decide +kernel
theorem dL_islandsByUnions_15 : decode cL_islandsByUnions 15 = .ok (.iconst 0, 1) := by decide +kernel
theorem dL_islandsByUnions_16 : decode cL_islandsByUnions 16 = .ok (.ireturn, 1) := by decide +kernel
theorem dL_pour_0 : decode cL_pour 0 = .ok (.aload 4, 2) := by decide +kernel
theorem dL_pour_2 : decode cL_pour 2 = .ok (.iconst 0, 1) := by decide +kernel
theorem dL_pour_3 : decode cL_pour 3 = .ok (.aload_n 0, 1) := by decide +kernel
theorem dL_pour_4 : decode cL_pour 4 = .ok (.iload_n 1, 1) := by decide +kernel
theorem dL_pour_5 : decode cL_pour 5 = .ok (.iload_n 2, 1) := by decide +kernel
theorem dL_pour_6 : decode cL_pour 6 = .ok (.iload_n 3, 1) := by decide +kernel
theorem dL_pour_7 : decode cL_pour 7 = .ok (.invokevirtual 48, 3) := by decide +kernel
theorem dL_pour_10 : decode cL_pour 10 = .ok (.i2l, 1) := by decide +kernel
theorem dL_pour_11 : decode cL_pour 11 = .ok (.lastore, 1) := by decide +kernel
theorem dL_pour_12 : decode cL_pour 12 = .ok (.goto 11, 3) := by decide +kernel
theorem dL_pour_15 : decode cL_pour 15 = .ok (.astore 5, 2) := by decide +kernel
theorem dL_pour_17 : decode cL_pour 17 = .ok (.iconst 1, 1) := by decide +kernel
theorem dL_pour_18 : decode cL_pour 18 = .ok (.ireturn, 1) := by decide +kernel
theorem dL_pour_19 : decode cL_pour 19 = .ok (.astore 5, 2) := by decide +kernel
theorem dL_pour_21 : decode cL_pour 21 = .ok (.iconst 2, 1) := by decide +kernel
theorem dL_pour_22 : decode cL_pour 22 = .ok (.ireturn, 1) := by decide +kernel
theorem dL_pour_23 : decode cL_pour 23 = .ok (.iconst 0, 1) := by decide +kernel
theorem dL_pour_24 : decode cL_pour 24 = .ok (.ireturn, 1) := by decide +kernel
theorem dL_water_0 : decode cL_water 0 = .ok (.aload_n 3, 1) := by decide +kernel
theorem dL_water_1 : decode cL_water 1 = .ok (.iconst 0, 1) := by decide +kernel
theorem dL_water_2 : decode cL_water 2 = .ok (.aload_n 0, 1) := by decide +kernel
theorem dL_water_3 : decode cL_water 3 = .ok (.iload_n 1, 1) := by decide +kernel
theorem dL_water_4 : decode cL_water 4 = .ok (.iload_n 2, 1) := by decide +kernel
theorem dL_water_5 : decode cL_water 5 = .ok (.invokevirtual 51, 3) := by decide +kernel
theorem dL_water_8 : decode cL_water 8 = .ok (.i2l, 1) := by decide +kernel
theorem dL_water_9 : decode cL_water 9 = .ok (.lastore, 1) := by decide +kernel
theorem dL_water_10 : decode cL_water 10 = .ok (.goto 7, 3) := by decide +kernel
theorem dL_water_13 : decode cL_water 13 = .ok (.astore 4, 2) := by decide +kernel
theorem dL_water_15 : decode cL_water 15 = .ok (.iconst 1, 1) := by decide +kernel
theorem dL_water_16 : decode cL_water 16 = .ok (.ireturn, 1) := by decide +kernel
theorem dL_water_17 : decode cL_water 17 = .ok (.iconst 0, 1) := by decide +kernel
theorem dL_water_18 : decode cL_water 18 = .ok (.ireturn, 1) := by decide +kernel
theorem dL_endRow_0 : decode cL_endRow 0 = .ok (.aload_n 3, 1) := by decide +kernel
theorem dL_endRow_1 : decode cL_endRow 1 = .ok (.iconst 0, 1) := by decide +kernel
theorem dL_endRow_2 : decode cL_endRow 2 = .ok (.aload_n 0, 1) := by decide +kernel
theorem dL_endRow_3 : decode cL_endRow 3 = .ok (.iload_n 1, 1) := by decide +kernel
theorem dL_endRow_4 : decode cL_endRow 4 = .ok (.iload_n 2, 1) := by decide +kernel
theorem dL_endRow_5 : decode cL_endRow 5 = .ok (.invokevirtual 54, 3) := by decide +kernel
theorem dL_endRow_8 : decode cL_endRow 8 = .ok (.i2l, 1) := by decide +kernel
theorem dL_endRow_9 : decode cL_endRow 9 = .ok (.lastore, 1) := by decide +kernel
theorem dL_endRow_10 : decode cL_endRow 10 = .ok (.goto 7, 3) := by decide +kernel
theorem dL_endRow_13 : decode cL_endRow 13 = .ok (.astore 4, 2) := by decide +kernel
theorem dL_endRow_15 : decode cL_endRow 15 = .ok (.iconst 1, 1) := by decide +kernel
theorem dL_endRow_16 : decode cL_endRow 16 = .ok (.ireturn, 1) := by decide +kernel
theorem dL_endRow_17 : decode cL_endRow 17 = .ok (.iconst 0, 1) := by decide +kernel
theorem dL_endRow_18 : decode cL_endRow 18 = .ok (.ireturn, 1) := by decide +kernel
theorem dL_endColumn_0 : decode cL_endColumn 0 = .ok (.aload_n 3, 1) := by decide +kernel
theorem dL_endColumn_1 : decode cL_endColumn 1 = .ok (.iconst 0, 1) := by decide +kernel
theorem dL_endColumn_2 : decode cL_endColumn 2 = .ok (.aload_n 0, 1) := by decide +kernel
theorem dL_endColumn_3 : decode cL_endColumn 3 = .ok (.iload_n 1, 1) := by decide +kernel
theorem dL_endColumn_4 : decode cL_endColumn 4 = .ok (.iload_n 2, 1) := by decide +kernel
theorem dL_endColumn_5 : decode cL_endColumn 5 = .ok (.invokevirtual 57, 3) := by decide +kernel
theorem dL_endColumn_8 : decode cL_endColumn 8 = .ok (.i2l, 1) := by decide +kernel
theorem dL_endColumn_9 : decode cL_endColumn 9 = .ok (.lastore, 1) := by decide +kernel
theorem dL_endColumn_10 : decode cL_endColumn 10 = .ok (.goto 7, 3) := by decide +kernel
theorem dL_endColumn_13 : decode cL_endColumn 13 = .ok (.astore 4, 2) := by decide +kernel
theorem dL_endColumn_15 : decode cL_endColumn 15 = .ok (.iconst 1, 1) := by decide +kernel
theorem dL_endColumn_16 : decode cL_endColumn 16 = .ok (.ireturn, 1) := by decide +kernel
theorem dL_endColumn_17 : decode cL_endColumn 17 = .ok (.iconst 0, 1) := by decide +kernel
theorem dL_endColumn_18 : decode cL_endColumn 18 = .ok (.ireturn, 1) := by decide +kernel
theorem dL_basinSize_0 : decode cL_basinSize 0 = .ok (.aload_n 3, 1) := by decide +kernel
theorem dL_basinSize_1 : decode cL_basinSize 1 = .ok (.iconst 0, 1) := by decide +kernel
theorem dL_basinSize_2 : decode cL_basinSize 2 = .ok (.aload_n 0, 1) := by decide +kernel
theorem dL_basinSize_3 : decode cL_basinSize 3 = .ok (.iload_n 1, 1) := by decide +kernel
theorem dL_basinSize_4 : decode cL_basinSize 4 = .ok (.iload_n 2, 1) := by decide +kernel
theorem dL_basinSize_5 : decode cL_basinSize 5 = .ok (.invokevirtual 60, 3) := by decide +kernel
theorem dL_basinSize_8 : decode cL_basinSize 8 = .ok (.i2l, 1) := by decide +kernel
theorem dL_basinSize_9 : decode cL_basinSize 9 = .ok (.lastore, 1) := by decide +kernel
theorem dL_basinSize_10 : decode cL_basinSize 10 = .ok (.goto 7, 3) := by decide +kernel
theorem dL_basinSize_13 : decode cL_basinSize 13 = .ok (.astore 4, 2) := by decide +kernel
theorem dL_basinSize_15 : decode cL_basinSize 15 = .ok (.iconst 1, 1) := by decide +kernel
theorem dL_basinSize_16 : decode cL_basinSize 16 = .ok (.ireturn, 1) := by decide +kernel
theorem dL_basinSize_17 : decode cL_basinSize 17 = .ok (.iconst 0, 1) := by decide +kernel
theorem dL_basinSize_18 : decode cL_basinSize 18 = .ok (.ireturn, 1) := by decide +kernel
theorem dL_basinSizeUpwards_0 : decode cL_basinSizeUpwards 0 = .ok (.aload_n 3, 1) := by decide +kernel
theorem dL_basinSizeUpwards_1 : decode cL_basinSizeUpwards 1 = .ok (.iconst 0, 1) := by decide +kernel
theorem dL_basinSizeUpwards_2 : decode cL_basinSizeUpwards 2 = .ok (.aload_n 0, 1) := by decide +kernel
theorem dL_basinSizeUpwards_3 : decode cL_basinSizeUpwards 3 = .ok (.iload_n 1, 1) := by decide +kernel
theorem dL_basinSizeUpwards_4 : decode cL_basinSizeUpwards 4 = .ok (.iload_n 2, 1) := by decide +kernel
theorem dL_basinSizeUpwards_5 : decode cL_basinSizeUpwards 5 = .ok (.invokevirtual 63, 3) := by decide +kernel
theorem dL_basinSizeUpwards_8 : decode cL_basinSizeUpwards 8 = .ok (.i2l, 1) := by decide +kernel
theorem dL_basinSizeUpwards_9 : decode cL_basinSizeUpwards 9 = .ok (.lastore, 1) := by decide +kernel
theorem dL_basinSizeUpwards_10 : decode cL_basinSizeUpwards 10 = .ok (.goto 7, 3) := by decide +kernel
theorem dL_basinSizeUpwards_13 : decode cL_basinSizeUpwards 13 = .ok (.astore 4, 2) := by decide +kernel
theorem dL_basinSizeUpwards_15 : decode cL_basinSizeUpwards 15 = .ok (.iconst 1, 1) := by decide +kernel
theorem dL_basinSizeUpwards_16 : decode cL_basinSizeUpwards 16 = .ok (.ireturn, 1) := by decide +kernel
theorem dL_basinSizeUpwards_17 : decode cL_basinSizeUpwards 17 = .ok (.iconst 0, 1) := by decide +kernel
theorem dL_basinSizeUpwards_18 : decode cL_basinSizeUpwards 18 = .ok (.ireturn, 1) := by decide +kernel
theorem dL_spillLevel_0 : decode cL_spillLevel 0 = .ok (.aload_n 3, 1) := by decide +kernel
theorem dL_spillLevel_1 : decode cL_spillLevel 1 = .ok (.iconst 0, 1) := by decide +kernel
theorem dL_spillLevel_2 : decode cL_spillLevel 2 = .ok (.aload_n 0, 1) := by decide +kernel
theorem dL_spillLevel_3 : decode cL_spillLevel 3 = .ok (.iload_n 1, 1) := by decide +kernel
theorem dL_spillLevel_4 : decode cL_spillLevel 4 = .ok (.iload_n 2, 1) := by decide +kernel
theorem dL_spillLevel_5 : decode cL_spillLevel 5 = .ok (.invokevirtual 66, 3) := by decide +kernel
theorem dL_spillLevel_8 : decode cL_spillLevel 8 = .ok (.i2l, 1) := by decide +kernel
theorem dL_spillLevel_9 : decode cL_spillLevel 9 = .ok (.lastore, 1) := by decide +kernel
theorem dL_spillLevel_10 : decode cL_spillLevel 10 = .ok (.goto 7, 3) := by decide +kernel
theorem dL_spillLevel_13 : decode cL_spillLevel 13 = .ok (.astore 4, 2) := by decide +kernel
theorem dL_spillLevel_15 : decode cL_spillLevel 15 = .ok (.iconst 1, 1) := by decide +kernel
theorem dL_spillLevel_16 : decode cL_spillLevel 16 = .ok (.ireturn, 1) := by decide +kernel
theorem dL_spillLevel_17 : decode cL_spillLevel 17 = .ok (.iconst 0, 1) := by decide +kernel
theorem dL_spillLevel_18 : decode cL_spillLevel 18 = .ok (.ireturn, 1) := by decide +kernel
theorem dL_spillLevelByRounds_0 : decode cL_spillLevelByRounds 0 = .ok (.aload_n 3, 1) := by decide +kernel
theorem dL_spillLevelByRounds_1 : decode cL_spillLevelByRounds 1 = .ok (.iconst 0, 1) := by decide +kernel
theorem dL_spillLevelByRounds_2 : decode cL_spillLevelByRounds 2 = .ok (.aload_n 0, 1) := by decide +kernel
theorem dL_spillLevelByRounds_3 : decode cL_spillLevelByRounds 3 = .ok (.iload_n 1, 1) := by decide +kernel
theorem dL_spillLevelByRounds_4 : decode cL_spillLevelByRounds 4 = .ok (.iload_n 2, 1) := by decide +kernel
theorem dL_spillLevelByRounds_5 : decode cL_spillLevelByRounds 5 = .ok (.invokevirtual 69, 3) := by decide +kernel
theorem dL_spillLevelByRounds_8 : decode cL_spillLevelByRounds 8 = .ok (.i2l, 1) := by decide +kernel
theorem dL_spillLevelByRounds_9 : decode cL_spillLevelByRounds 9 = .ok (.lastore, 1) := by decide +kernel
theorem dL_spillLevelByRounds_10 : decode cL_spillLevelByRounds 10 = .ok (.goto 7, 3) := by decide +kernel
theorem dL_spillLevelByRounds_13 : decode cL_spillLevelByRounds 13 = .ok (.astore 4, 2) := by decide +kernel
theorem dL_spillLevelByRounds_15 : decode cL_spillLevelByRounds 15 = .ok (.iconst 1, 1) := by decide +kernel
theorem dL_spillLevelByRounds_16 : decode cL_spillLevelByRounds 16 = .ok (.ireturn, 1) := by decide +kernel
theorem dL_spillLevelByRounds_17 : decode cL_spillLevelByRounds 17 = .ok (.iconst 0, 1) := by decide +kernel
theorem dL_spillLevelByRounds_18 : decode cL_spillLevelByRounds 18 = .ok (.ireturn, 1) := by decide +kernel
theorem dL_routeCost_0 : decode cL_routeCost 0 = .ok (.aload 5, 2) := by decide +kernel
theorem dL_routeCost_2 : decode cL_routeCost 2 = .ok (.iconst 0, 1) := by decide +kernel
theorem dL_routeCost_3 : decode cL_routeCost 3 = .ok (.aload_n 0, 1) := by decide +kernel
theorem dL_routeCost_4 : decode cL_routeCost 4 = .ok (.iload_n 1, 1) := by decide +kernel
theorem dL_routeCost_5 : decode cL_routeCost 5 = .ok (.iload_n 2, 1) := by decide +kernel
theorem dL_routeCost_6 : decode cL_routeCost 6 = .ok (.iload_n 3, 1) := by decide +kernel
theorem dL_routeCost_7 : decode cL_routeCost 7 = .ok (.iload 4, 2) := by decide +kernel
theorem dL_routeCost_9 : decode cL_routeCost 9 = .ok (.invokevirtual 72, 3) := by decide +kernel
theorem dL_routeCost_12 : decode cL_routeCost 12 = .ok (.i2l, 1) := by decide +kernel
theorem dL_routeCost_13 : decode cL_routeCost 13 = .ok (.lastore, 1) := by decide +kernel
theorem dL_routeCost_14 : decode cL_routeCost 14 = .ok (.goto 11, 3) := by decide +kernel
theorem dL_routeCost_17 : decode cL_routeCost 17 = .ok (.astore 6, 2) := by decide +kernel
theorem dL_routeCost_19 : decode cL_routeCost 19 = .ok (.iconst 1, 1) := by decide +kernel
theorem dL_routeCost_20 : decode cL_routeCost 20 = .ok (.ireturn, 1) := by decide +kernel
theorem dL_routeCost_21 : decode cL_routeCost 21 = .ok (.astore 6, 2) := by decide +kernel
theorem dL_routeCost_23 : decode cL_routeCost 23 = .ok (.iconst 2, 1) := by decide +kernel
theorem dL_routeCost_24 : decode cL_routeCost 24 = .ok (.ireturn, 1) := by decide +kernel
theorem dL_routeCost_25 : decode cL_routeCost 25 = .ok (.iconst 0, 1) := by decide +kernel
theorem dL_routeCost_26 : decode cL_routeCost 26 = .ok (.ireturn, 1) := by decide +kernel
theorem dL_routeCostByRounds_0 : decode cL_routeCostByRounds 0 = .ok (.aload 5, 2) := by decide +kernel
theorem dL_routeCostByRounds_2 : decode cL_routeCostByRounds 2 = .ok (.iconst 0, 1) := by decide +kernel
theorem dL_routeCostByRounds_3 : decode cL_routeCostByRounds 3 = .ok (.aload_n 0, 1) := by decide +kernel
theorem dL_routeCostByRounds_4 : decode cL_routeCostByRounds 4 = .ok (.iload_n 1, 1) := by decide +kernel
theorem dL_routeCostByRounds_5 : decode cL_routeCostByRounds 5 = .ok (.iload_n 2, 1) := by decide +kernel
theorem dL_routeCostByRounds_6 : decode cL_routeCostByRounds 6 = .ok (.iload_n 3, 1) := by decide +kernel
theorem dL_routeCostByRounds_7 : decode cL_routeCostByRounds 7 = .ok (.iload 4, 2) := by decide +kernel
theorem dL_routeCostByRounds_9 : decode cL_routeCostByRounds 9 = .ok (.invokevirtual 76, 3) := by decide +kernel
theorem dL_routeCostByRounds_12 : decode cL_routeCostByRounds 12 = .ok (.i2l, 1) := by decide +kernel
theorem dL_routeCostByRounds_13 : decode cL_routeCostByRounds 13 = .ok (.lastore, 1) := by decide +kernel
theorem dL_routeCostByRounds_14 : decode cL_routeCostByRounds 14 = .ok (.goto 11, 3) := by decide +kernel
theorem dL_routeCostByRounds_17 : decode cL_routeCostByRounds 17 = .ok (.astore 6, 2) := by decide +kernel
theorem dL_routeCostByRounds_19 : decode cL_routeCostByRounds 19 = .ok (.iconst 1, 1) := by decide +kernel
theorem dL_routeCostByRounds_20 : decode cL_routeCostByRounds 20 = .ok (.ireturn, 1) := by decide +kernel
theorem dL_routeCostByRounds_21 : decode cL_routeCostByRounds 21 = .ok (.astore 6, 2) := by decide +kernel
theorem dL_routeCostByRounds_23 : decode cL_routeCostByRounds 23 = .ok (.iconst 2, 1) := by decide +kernel
theorem dL_routeCostByRounds_24 : decode cL_routeCostByRounds 24 = .ok (.ireturn, 1) := by decide +kernel
theorem dL_routeCostByRounds_25 : decode cL_routeCostByRounds 25 = .ok (.iconst 0, 1) := by decide +kernel
theorem dL_routeCostByRounds_26 : decode cL_routeCostByRounds 26 = .ok (.ireturn, 1) := by decide +kernel
theorem dL_steepestStep_0 : decode cL_steepestStep 0 = .ok (.aload 5, 2) := by decide +kernel
theorem dL_steepestStep_2 : decode cL_steepestStep 2 = .ok (.iconst 0, 1) := by decide +kernel
theorem dL_steepestStep_3 : decode cL_steepestStep 3 = .ok (.aload_n 0, 1) := by decide +kernel
theorem dL_steepestStep_4 : decode cL_steepestStep 4 = .ok (.iload_n 1, 1) := by decide +kernel
theorem dL_steepestStep_5 : decode cL_steepestStep 5 = .ok (.iload_n 2, 1) := by decide +kernel
theorem dL_steepestStep_6 : decode cL_steepestStep 6 = .ok (.iload_n 3, 1) := by decide +kernel
theorem dL_steepestStep_7 : decode cL_steepestStep 7 = .ok (.iload 4, 2) := by decide +kernel
theorem dL_steepestStep_9 : decode cL_steepestStep 9 = .ok (.invokevirtual 79, 3) := by decide +kernel
theorem dL_steepestStep_12 : decode cL_steepestStep 12 = .ok (.i2l, 1) := by decide +kernel
theorem dL_steepestStep_13 : decode cL_steepestStep 13 = .ok (.lastore, 1) := by decide +kernel
theorem dL_steepestStep_14 : decode cL_steepestStep 14 = .ok (.goto 11, 3) := by decide +kernel
theorem dL_steepestStep_17 : decode cL_steepestStep 17 = .ok (.astore 6, 2) := by decide +kernel
theorem dL_steepestStep_19 : decode cL_steepestStep 19 = .ok (.iconst 1, 1) := by decide +kernel
theorem dL_steepestStep_20 : decode cL_steepestStep 20 = .ok (.ireturn, 1) := by decide +kernel
theorem dL_steepestStep_21 : decode cL_steepestStep 21 = .ok (.astore 6, 2) := by decide +kernel
theorem dL_steepestStep_23 : decode cL_steepestStep 23 = .ok (.iconst 2, 1) := by decide +kernel
theorem dL_steepestStep_24 : decode cL_steepestStep 24 = .ok (.ireturn, 1) := by decide +kernel
theorem dL_steepestStep_25 : decode cL_steepestStep 25 = .ok (.iconst 0, 1) := by decide +kernel
theorem dL_steepestStep_26 : decode cL_steepestStep 26 = .ok (.ireturn, 1) := by decide +kernel
theorem dL_steepestStepByHalving_0 : decode cL_steepestStepByHalving 0 = .ok (.aload 5, 2) := by decide +kernel
theorem dL_steepestStepByHalving_2 : decode cL_steepestStepByHalving 2 = .ok (.iconst 0, 1) := by decide +kernel
theorem dL_steepestStepByHalving_3 : decode cL_steepestStepByHalving 3 = .ok (.aload_n 0, 1) := by decide +kernel
theorem dL_steepestStepByHalving_4 : decode cL_steepestStepByHalving 4 = .ok (.iload_n 1, 1) := by decide +kernel
theorem dL_steepestStepByHalving_5 : decode cL_steepestStepByHalving 5 = .ok (.iload_n 2, 1) := by decide +kernel
theorem dL_steepestStepByHalving_6 : decode cL_steepestStepByHalving 6 = .ok (.iload_n 3, 1) := by decide +kernel
theorem dL_steepestStepByHalving_7 : decode cL_steepestStepByHalving 7 = .ok (.iload 4, 2) := by decide +kernel
theorem dL_steepestStepByHalving_9 : decode cL_steepestStepByHalving 9 = .ok (.invokevirtual 82, 3) := by decide +kernel
theorem dL_steepestStepByHalving_12 : decode cL_steepestStepByHalving 12 = .ok (.i2l, 1) := by decide +kernel
theorem dL_steepestStepByHalving_13 : decode cL_steepestStepByHalving 13 = .ok (.lastore, 1) := by decide +kernel
theorem dL_steepestStepByHalving_14 : decode cL_steepestStepByHalving 14 = .ok (.goto 11, 3) := by decide +kernel
theorem dL_steepestStepByHalving_17 : decode cL_steepestStepByHalving 17 = .ok (.astore 6, 2) := by decide +kernel
theorem dL_steepestStepByHalving_19 : decode cL_steepestStepByHalving 19 = .ok (.iconst 1, 1) := by decide +kernel
theorem dL_steepestStepByHalving_20 : decode cL_steepestStepByHalving 20 = .ok (.ireturn, 1) := by decide +kernel
theorem dL_steepestStepByHalving_21 : decode cL_steepestStepByHalving 21 = .ok (.astore 6, 2) := by decide +kernel
theorem dL_steepestStepByHalving_23 : decode cL_steepestStepByHalving 23 = .ok (.iconst 2, 1) := by decide +kernel
theorem dL_steepestStepByHalving_24 : decode cL_steepestStepByHalving 24 = .ok (.ireturn, 1) := by decide +kernel
theorem dL_steepestStepByHalving_25 : decode cL_steepestStepByHalving 25 = .ok (.iconst 0, 1) := by decide +kernel
theorem dL_steepestStepByHalving_26 : decode cL_steepestStepByHalving 26 = .ok (.ireturn, 1) := by decide +kernel
theorem dL_addMoth_0 : decode cL_addMoth 0 = .ok (.aload_n 3, 1) := by decide +kernel
theorem dL_addMoth_1 : decode cL_addMoth 1 = .ok (.iconst 0, 1) := by decide +kernel
theorem dL_addMoth_2 : decode cL_addMoth 2 = .ok (.aload_n 0, 1) := by decide +kernel
theorem dL_addMoth_3 : decode cL_addMoth 3 = .ok (.iload_n 1, 1) := by decide +kernel
theorem dL_addMoth_4 : decode cL_addMoth 4 = .ok (.iload_n 2, 1) := by decide +kernel
theorem dL_addMoth_5 : decode cL_addMoth 5 = .ok (.invokevirtual 85, 3) := by decide +kernel
theorem dL_addMoth_8 : decode cL_addMoth 8 = .ok (.i2l, 1) := by decide +kernel
theorem dL_addMoth_9 : decode cL_addMoth 9 = .ok (.lastore, 1) := by decide +kernel
theorem dL_addMoth_10 : decode cL_addMoth 10 = .ok (.goto 11, 3) := by decide +kernel
theorem dL_addMoth_13 : decode cL_addMoth 13 = .ok (.astore 4, 2) := by decide +kernel
theorem dL_addMoth_15 : decode cL_addMoth 15 = .ok (.iconst 1, 1) := by decide +kernel
theorem dL_addMoth_16 : decode cL_addMoth 16 = .ok (.ireturn, 1) := by decide +kernel
theorem dL_addMoth_17 : decode cL_addMoth 17 = .ok (.astore 4, 2) := by decide +kernel
theorem dL_addMoth_19 : decode cL_addMoth 19 = .ok (.iconst 2, 1) := by decide +kernel
theorem dL_addMoth_20 : decode cL_addMoth 20 = .ok (.ireturn, 1) := by decide +kernel
theorem dL_addMoth_21 : decode cL_addMoth 21 = .ok (.iconst 0, 1) := by decide +kernel
theorem dL_addMoth_22 : decode cL_addMoth 22 = .ok (.ireturn, 1) := by decide +kernel
theorem dL_removeMoth_0 : decode cL_removeMoth 0 = .ok (.aload_n 2, 1) := by decide +kernel
theorem dL_removeMoth_1 : decode cL_removeMoth 1 = .ok (.iconst 0, 1) := by decide +kernel
theorem dL_removeMoth_2 : decode cL_removeMoth 2 = .ok (.aload_n 0, 1) := by decide +kernel
theorem dL_removeMoth_3 : decode cL_removeMoth 3 = .ok (.iload_n 1, 1) := by decide +kernel
theorem dL_removeMoth_4 : decode cL_removeMoth 4 = .ok (.invokevirtual 88, 3) := by decide +kernel
theorem dL_removeMoth_7 : decode cL_removeMoth 7 = .ok (.i2l, 1) := by decide +kernel
theorem dL_removeMoth_8 : decode cL_removeMoth 8 = .ok (.lastore, 1) := by decide +kernel
theorem dL_removeMoth_9 : decode cL_removeMoth 9 = .ok (.goto 6, 3) := by decide +kernel
theorem dL_removeMoth_12 : decode cL_removeMoth 12 = .ok (.astore_n 3, 1) := by decide +kernel
theorem dL_removeMoth_13 : decode cL_removeMoth 13 = .ok (.iconst 1, 1) := by decide +kernel
theorem dL_removeMoth_14 : decode cL_removeMoth 14 = .ok (.ireturn, 1) := by decide +kernel
theorem dL_removeMoth_15 : decode cL_removeMoth 15 = .ok (.iconst 0, 1) := by decide +kernel
theorem dL_removeMoth_16 : decode cL_removeMoth 16 = .ok (.ireturn, 1) := by decide +kernel
theorem dL_patch_0 : decode cL_patch 0 = .ok (.aload_n 3, 1) := by decide +kernel
theorem dL_patch_1 : decode cL_patch 1 = .ok (.iconst 0, 1) := by decide +kernel
theorem dL_patch_2 : decode cL_patch 2 = .ok (.aload_n 0, 1) := by decide +kernel
theorem dL_patch_3 : decode cL_patch 3 = .ok (.iload_n 1, 1) := by decide +kernel
theorem dL_patch_4 : decode cL_patch 4 = .ok (.iload_n 2, 1) := by decide +kernel
theorem dL_patch_5 : decode cL_patch 5 = .ok (.invokevirtual 91, 3) := by decide +kernel
theorem dL_patch_8 : decode cL_patch 8 = .ok (.i2l, 1) := by decide +kernel
theorem dL_patch_9 : decode cL_patch 9 = .ok (.lastore, 1) := by decide +kernel
theorem dL_patch_10 : decode cL_patch 10 = .ok (.goto 11, 3) := by decide +kernel
theorem dL_patch_13 : decode cL_patch 13 = .ok (.astore 4, 2) := by decide +kernel
theorem dL_patch_15 : decode cL_patch 15 = .ok (.iconst 1, 1) := by decide +kernel
theorem dL_patch_16 : decode cL_patch 16 = .ok (.ireturn, 1) := by decide +kernel
theorem dL_patch_17 : decode cL_patch 17 = .ok (.astore 4, 2) := by decide +kernel
theorem dL_patch_19 : decode cL_patch 19 = .ok (.iconst 2, 1) := by decide +kernel
theorem dL_patch_20 : decode cL_patch 20 = .ok (.ireturn, 1) := by decide +kernel
theorem dL_patch_21 : decode cL_patch 21 = .ok (.iconst 0, 1) := by decide +kernel
theorem dL_patch_22 : decode cL_patch 22 = .ok (.ireturn, 1) := by decide +kernel
theorem dL_mothRow_0 : decode cL_mothRow 0 = .ok (.aload_n 2, 1) := by decide +kernel
theorem dL_mothRow_1 : decode cL_mothRow 1 = .ok (.iconst 0, 1) := by decide +kernel
theorem dL_mothRow_2 : decode cL_mothRow 2 = .ok (.aload_n 0, 1) := by decide +kernel
theorem dL_mothRow_3 : decode cL_mothRow 3 = .ok (.iload_n 1, 1) := by decide +kernel
theorem dL_mothRow_4 : decode cL_mothRow 4 = .ok (.invokevirtual 94, 3) := by decide +kernel
theorem dL_mothRow_7 : decode cL_mothRow 7 = .ok (.i2l, 1) := by decide +kernel
theorem dL_mothRow_8 : decode cL_mothRow 8 = .ok (.lastore, 1) := by decide +kernel
theorem dL_mothRow_9 : decode cL_mothRow 9 = .ok (.goto 6, 3) := by decide +kernel
theorem dL_mothRow_12 : decode cL_mothRow 12 = .ok (.astore_n 3, 1) := by decide +kernel
theorem dL_mothRow_13 : decode cL_mothRow 13 = .ok (.iconst 1, 1) := by decide +kernel
theorem dL_mothRow_14 : decode cL_mothRow 14 = .ok (.ireturn, 1) := by decide +kernel
theorem dL_mothRow_15 : decode cL_mothRow 15 = .ok (.iconst 0, 1) := by decide +kernel
theorem dL_mothRow_16 : decode cL_mothRow 16 = .ok (.ireturn, 1) := by decide +kernel
theorem dL_mothColumn_0 : decode cL_mothColumn 0 = .ok (.aload_n 2, 1) := by decide +kernel
theorem dL_mothColumn_1 : decode cL_mothColumn 1 = .ok (.iconst 0, 1) := by decide +kernel
theorem dL_mothColumn_2 : decode cL_mothColumn 2 = .ok (.aload_n 0, 1) := by decide +kernel
theorem dL_mothColumn_3 : decode cL_mothColumn 3 = .ok (.iload_n 1, 1) := by decide +kernel
theorem dL_mothColumn_4 : decode cL_mothColumn 4 = .ok (.invokevirtual 97, 3) := by decide +kernel
theorem dL_mothColumn_7 : decode cL_mothColumn 7 = .ok (.i2l, 1) := by decide +kernel
theorem dL_mothColumn_8 : decode cL_mothColumn 8 = .ok (.lastore, 1) := by decide +kernel
theorem dL_mothColumn_9 : decode cL_mothColumn 9 = .ok (.goto 6, 3) := by decide +kernel
theorem dL_mothColumn_12 : decode cL_mothColumn 12 = .ok (.astore_n 3, 1) := by decide +kernel
theorem dL_mothColumn_13 : decode cL_mothColumn 13 = .ok (.iconst 1, 1) := by decide +kernel
theorem dL_mothColumn_14 : decode cL_mothColumn 14 = .ok (.ireturn, 1) := by decide +kernel
theorem dL_mothColumn_15 : decode cL_mothColumn 15 = .ok (.iconst 0, 1) := by decide +kernel
theorem dL_mothColumn_16 : decode cL_mothColumn 16 = .ok (.ireturn, 1) := by decide +kernel
theorem dL_wear_0 : decode cL_wear 0 = .ok (.aload_n 3, 1) := by decide +kernel
theorem dL_wear_1 : decode cL_wear 1 = .ok (.iconst 0, 1) := by decide +kernel
theorem dL_wear_2 : decode cL_wear 2 = .ok (.aload_n 0, 1) := by decide +kernel
theorem dL_wear_3 : decode cL_wear 3 = .ok (.iload_n 1, 1) := by decide +kernel
theorem dL_wear_4 : decode cL_wear 4 = .ok (.iload_n 2, 1) := by decide +kernel
theorem dL_wear_5 : decode cL_wear 5 = .ok (.invokevirtual 100, 3) := by decide +kernel
theorem dL_wear_8 : decode cL_wear 8 = .ok (.i2l, 1) := by decide +kernel
theorem dL_wear_9 : decode cL_wear 9 = .ok (.lastore, 1) := by decide +kernel
theorem dL_wear_10 : decode cL_wear 10 = .ok (.goto 7, 3) := by decide +kernel
theorem dL_wear_13 : decode cL_wear 13 = .ok (.astore 4, 2) := by decide +kernel
theorem dL_wear_15 : decode cL_wear 15 = .ok (.iconst 1, 1) := by decide +kernel
theorem dL_wear_16 : decode cL_wear 16 = .ok (.ireturn, 1) := by decide +kernel
theorem dL_wear_17 : decode cL_wear 17 = .ok (.iconst 0, 1) := by decide +kernel
theorem dL_wear_18 : decode cL_wear 18 = .ok (.ireturn, 1) := by decide +kernel
theorem dL_nightsUntilHole_0 : decode cL_nightsUntilHole 0 = .ok (.aload_n 3, 1) := by decide +kernel
theorem dL_nightsUntilHole_1 : decode cL_nightsUntilHole 1 = .ok (.iconst 0, 1) := by decide +kernel
theorem dL_nightsUntilHole_2 : decode cL_nightsUntilHole 2 = .ok (.aload_n 0, 1) := by decide +kernel
theorem dL_nightsUntilHole_3 : decode cL_nightsUntilHole 3 = .ok (.iload_n 1, 1) := by decide +kernel
theorem dL_nightsUntilHole_4 : decode cL_nightsUntilHole 4 = .ok (.iload_n 2, 1) := by decide +kernel
theorem dL_nightsUntilHole_5 : decode cL_nightsUntilHole 5 = .ok (.invokevirtual 103, 3) := by decide +kernel
theorem dL_nightsUntilHole_8 : decode cL_nightsUntilHole 8 = .ok (.i2l, 1) := by decide +kernel
theorem dL_nightsUntilHole_9 : decode cL_nightsUntilHole 9 = .ok (.lastore, 1) := by decide +kernel
theorem dL_nightsUntilHole_10 : decode cL_nightsUntilHole 10 = .ok (.goto 11, 3) := by decide +kernel
theorem dL_nightsUntilHole_13 : decode cL_nightsUntilHole 13 = .ok (.astore 4, 2) := by decide +kernel
theorem dL_nightsUntilHole_15 : decode cL_nightsUntilHole 15 = .ok (.iconst 1, 1) := by decide +kernel
theorem dL_nightsUntilHole_16 : decode cL_nightsUntilHole 16 = .ok (.ireturn, 1) := by decide +kernel
theorem dL_nightsUntilHole_17 : decode cL_nightsUntilHole 17 = .ok (.astore 4, 2) := by decide +kernel
theorem dL_nightsUntilHole_19 : decode cL_nightsUntilHole 19 = .ok (.iconst 2, 1) := by decide +kernel
theorem dL_nightsUntilHole_20 : decode cL_nightsUntilHole 20 = .ok (.ireturn, 1) := by decide +kernel
theorem dL_nightsUntilHole_21 : decode cL_nightsUntilHole 21 = .ok (.iconst 0, 1) := by decide +kernel
theorem dL_nightsUntilHole_22 : decode cL_nightsUntilHole 22 = .ok (.ireturn, 1) := by decide +kernel
theorem dL_slope_0 : decode cL_slope 0 = .ok (.aload_n 3, 1) := by decide +kernel
theorem dL_slope_1 : decode cL_slope 1 = .ok (.iconst 0, 1) := by decide +kernel
theorem dL_slope_2 : decode cL_slope 2 = .ok (.aload_n 0, 1) := by decide +kernel
theorem dL_slope_3 : decode cL_slope 3 = .ok (.iload_n 1, 1) := by decide +kernel
theorem dL_slope_4 : decode cL_slope 4 = .ok (.iload_n 2, 1) := by decide +kernel
theorem dL_slope_5 : decode cL_slope 5 = .ok (.invokevirtual 106, 3) := by decide +kernel
theorem dL_slope_8 : decode cL_slope 8 = .ok (.f2d, 1) := by decide +kernel
theorem dL_slope_9 : decode cL_slope 9 = .ok (.dastore, 1) := by decide +kernel
theorem dL_slope_10 : decode cL_slope 10 = .ok (.goto 7, 3) := by decide +kernel
theorem dL_slope_13 : decode cL_slope 13 = .ok (.astore 4, 2) := by decide +kernel
theorem dL_slope_15 : decode cL_slope 15 = .ok (.iconst 1, 1) := by decide +kernel
theorem dL_slope_16 : decode cL_slope 16 = .ok (.ireturn, 1) := by decide +kernel
theorem dL_slope_17 : decode cL_slope 17 = .ok (.iconst 0, 1) := by decide +kernel
theorem dL_slope_18 : decode cL_slope 18 = .ok (.ireturn, 1) := by decide +kernel
theorem dL_feed_0 : decode cL_feed 0 = .ok (.aload_n 2, 1) := by decide +kernel
theorem dL_feed_1 : decode cL_feed 1 = .ok (.iconst 0, 1) := by decide +kernel
theorem dL_feed_2 : decode cL_feed 2 = .ok (.aload_n 0, 1) := by decide +kernel
theorem dL_feed_3 : decode cL_feed 3 = .ok (.iload_n 1, 1) := by decide +kernel
theorem dL_feed_4 : decode cL_feed 4 = .ok (.invokevirtual 110, 3) := by decide +kernel
theorem dL_feed_7 : decode cL_feed 7 = .ok (.i2l, 1) := by decide +kernel
theorem dL_feed_8 : decode cL_feed 8 = .ok (.lastore, 1) := by decide +kernel
theorem dL_feed_9 : decode cL_feed 9 = .ok (.goto 6, 3) := by decide +kernel
theorem dL_feed_12 : decode cL_feed 12 = .ok (.astore_n 3, 1) := by decide +kernel
theorem dL_feed_13 : decode cL_feed 13 = .ok (.iconst 1, 1) := by decide +kernel
theorem dL_feed_14 : decode cL_feed 14 = .ok (.ireturn, 1) := by decide +kernel
theorem dL_feed_15 : decode cL_feed 15 = .ok (.iconst 0, 1) := by decide +kernel
theorem dL_feed_16 : decode cL_feed 16 = .ok (.ireturn, 1) := by decide +kernel
theorem dL_execute_0 : decode cL_execute 0 = .ok (.aload_n 1, 1) := by decide +kernel
theorem dL_execute_1 : decode cL_execute 1 = .ok (.iconst 0, 1) := by decide +kernel
theorem dL_execute_2 : decode cL_execute 2 = .ok (.aload_n 0, 1) := by decide +kernel
theorem dL_execute_3 : decode cL_execute 3 = .ok (.invokevirtual 116, 3) := by decide +kernel
theorem dL_execute_6 : decode cL_execute 6 = .ok (.i2l, 1) := by decide +kernel
theorem dL_execute_7 : decode cL_execute 7 = .ok (.lastore, 1) := by decide +kernel
theorem dL_execute_8 : decode cL_execute 8 = .ok (.goto 9, 3) := by decide +kernel
theorem dL_execute_11 : decode cL_execute 11 = .ok (.astore_n 2, 1) := by decide +kernel
theorem dL_execute_12 : decode cL_execute 12 = .ok (.iconst 1, 1) := by decide +kernel
theorem dL_execute_13 : decode cL_execute 13 = .ok (.ireturn, 1) := by decide +kernel
theorem dL_execute_14 : decode cL_execute 14 = .ok (.astore_n 2, 1) := by decide +kernel
theorem dL_execute_15 : decode cL_execute 15 = .ok (.iconst 2, 1) := by decide +kernel
theorem dL_execute_16 : decode cL_execute 16 = .ok (.ireturn, 1) := by decide +kernel
theorem dL_execute_17 : decode cL_execute 17 = .ok (.iconst 0, 1) := by decide +kernel
theorem dL_execute_18 : decode cL_execute 18 = .ok (.ireturn, 1) := by decide +kernel
theorem dL_faultPosition_0 : decode cL_faultPosition 0 = .ok (.aload_n 1, 1) := by decide +kernel
theorem dL_faultPosition_1 : decode cL_faultPosition 1 = .ok (.iconst 0, 1) := by decide +kernel
theorem dL_faultPosition_2 : decode cL_faultPosition 2 = .ok (.aload_n 0, 1) := by decide +kernel
theorem dL_faultPosition_3 : decode cL_faultPosition 3 = .ok (.invokevirtual 120, 3) := by decide +kernel
theorem dL_faultPosition_6 : decode cL_faultPosition 6 = .ok (.i2l, 1) := by decide +kernel
theorem dL_faultPosition_7 : decode cL_faultPosition 7 = .ok (.lastore, 1) := by decide +kernel
theorem dL_faultPosition_8 : decode cL_faultPosition 8 = .ok (.goto 6, 3) := by decide +kernel
theorem dL_faultPosition_11 : decode cL_faultPosition 11 = .ok (.astore_n 2, 1) := by decide +kernel
theorem dL_faultPosition_12 : decode cL_faultPosition 12 = .ok (.iconst 1, 1) := by decide +kernel
theorem dL_faultPosition_13 : decode cL_faultPosition 13 = .ok (.ireturn, 1) := by decide +kernel
theorem dL_faultPosition_14 : decode cL_faultPosition 14 = .ok (.iconst 0, 1) := by decide +kernel
theorem dL_faultPosition_15 : decode cL_faultPosition 15 = .ok (.ireturn, 1) := by decide +kernel
theorem dL_writeRow_0 : decode cL_writeRow 0 = .ok (.aload_n 2, 1) := by decide +kernel
theorem dL_writeRow_1 : decode cL_writeRow 1 = .ok (.iconst 0, 1) := by decide +kernel
theorem dL_writeRow_2 : decode cL_writeRow 2 = .ok (.aload_n 0, 1) := by decide +kernel
theorem dL_writeRow_3 : decode cL_writeRow 3 = .ok (.iload_n 1, 1) := by decide +kernel
theorem dL_writeRow_4 : decode cL_writeRow 4 = .ok (.invokevirtual 123, 3) := by decide +kernel
theorem dL_writeRow_7 : decode cL_writeRow 7 = .ok (.i2l, 1) := by decide +kernel
theorem dL_writeRow_8 : decode cL_writeRow 8 = .ok (.lastore, 1) := by decide +kernel
theorem dL_writeRow_9 : decode cL_writeRow 9 = .ok (.goto 6, 3) := by decide +kernel
theorem dL_writeRow_12 : decode cL_writeRow 12 = .ok (.astore_n 3, 1) := by decide +kernel
theorem dL_writeRow_13 : decode cL_writeRow 13 = .ok (.iconst 1, 1) := by decide +kernel
theorem dL_writeRow_14 : decode cL_writeRow 14 = .ok (.ireturn, 1) := by decide +kernel
theorem dL_writeRow_15 : decode cL_writeRow 15 = .ok (.iconst 0, 1) := by decide +kernel
theorem dL_writeRow_16 : decode cL_writeRow 16 = .ok (.ireturn, 1) := by decide +kernel
theorem dL_lineCharacter_0 : decode cL_lineCharacter 0 = .ok (.aload_n 2, 1) := by decide +kernel
theorem dL_lineCharacter_1 : decode cL_lineCharacter 1 = .ok (.iconst 0, 1) := by decide +kernel
theorem dL_lineCharacter_2 : decode cL_lineCharacter 2 = .ok (.aload_n 0, 1) := by decide +kernel
theorem dL_lineCharacter_3 : decode cL_lineCharacter 3 = .ok (.iload_n 1, 1) := by decide +kernel
theorem dL_lineCharacter_4 : decode cL_lineCharacter 4 = .ok (.invokevirtual 126, 3) := by decide +kernel
theorem dL_lineCharacter_7 : decode cL_lineCharacter 7 = .ok (.i2l, 1) := by decide +kernel
theorem dL_lineCharacter_8 : decode cL_lineCharacter 8 = .ok (.lastore, 1) := by decide +kernel
theorem dL_lineCharacter_9 : decode cL_lineCharacter 9 = .ok (.goto 6, 3) := by decide +kernel
theorem dL_lineCharacter_12 : decode cL_lineCharacter 12 = .ok (.astore_n 3, 1) := by decide +kernel
theorem dL_lineCharacter_13 : decode cL_lineCharacter 13 = .ok (.iconst 1, 1) := by decide +kernel
theorem dL_lineCharacter_14 : decode cL_lineCharacter 14 = .ok (.ireturn, 1) := by decide +kernel
theorem dL_lineCharacter_15 : decode cL_lineCharacter 15 = .ok (.iconst 0, 1) := by decide +kernel
theorem dL_lineCharacter_16 : decode cL_lineCharacter 16 = .ok (.ireturn, 1) := by decide +kernel
theorem dL_denial_0 : decode cL_denial 0 = .ok (.aload_n 1, 1) := by decide +kernel
theorem dL_denial_1 : decode cL_denial 1 = .ok (.iconst 0, 1) := by decide +kernel
theorem dL_denial_2 : decode cL_denial 2 = .ok (.aload_n 0, 1) := by decide +kernel
theorem dL_denial_3 : decode cL_denial 3 = .ok (.invokevirtual 130, 3) := by decide +kernel
theorem dL_denial_6 : decode cL_denial 6 = .ok (.i2l, 1) := by decide +kernel
theorem dL_denial_7 : decode cL_denial 7 = .ok (.lastore, 1) := by decide +kernel
theorem dL_denial_8 : decode cL_denial 8 = .ok (.goto 6, 3) := by decide +kernel
theorem dL_denial_11 : decode cL_denial 11 = .ok (.astore_n 2, 1) := by decide +kernel
theorem dL_denial_12 : decode cL_denial 12 = .ok (.iconst 1, 1) := by decide +kernel
theorem dL_denial_13 : decode cL_denial 13 = .ok (.ireturn, 1) := by decide +kernel
theorem dL_denial_14 : decode cL_denial 14 = .ok (.iconst 0, 1) := by decide +kernel
theorem dL_denial_15 : decode cL_denial 15 = .ok (.ireturn, 1) := by decide +kernel
theorem dL_denialDetail_0 : decode cL_denialDetail 0 = .ok (.aload_n 1, 1) := by decide +kernel
theorem dL_denialDetail_1 : decode cL_denialDetail 1 = .ok (.iconst 0, 1) := by decide +kernel
theorem dL_denialDetail_2 : decode cL_denialDetail 2 = .ok (.aload_n 0, 1) := by decide +kernel
theorem dL_denialDetail_3 : decode cL_denialDetail 3 = .ok (.invokevirtual 133, 3) := by decide +kernel
theorem dL_denialDetail_6 : decode cL_denialDetail 6 = .ok (.i2l, 1) := by decide +kernel
theorem dL_denialDetail_7 : decode cL_denialDetail 7 = .ok (.lastore, 1) := by decide +kernel
theorem dL_denialDetail_8 : decode cL_denialDetail 8 = .ok (.goto 6, 3) := by decide +kernel
theorem dL_denialDetail_11 : decode cL_denialDetail 11 = .ok (.astore_n 2, 1) := by decide +kernel
theorem dL_denialDetail_12 : decode cL_denialDetail 12 = .ok (.iconst 1, 1) := by decide +kernel
theorem dL_denialDetail_13 : decode cL_denialDetail 13 = .ok (.ireturn, 1) := by decide +kernel
theorem dL_denialDetail_14 : decode cL_denialDetail 14 = .ok (.iconst 0, 1) := by decide +kernel
theorem dL_denialDetail_15 : decode cL_denialDetail 15 = .ok (.ireturn, 1) := by decide +kernel
theorem dL_denialCause_0 : decode cL_denialCause 0 = .ok (.aload_n 1, 1) := by decide +kernel
theorem dL_denialCause_1 : decode cL_denialCause 1 = .ok (.iconst 0, 1) := by decide +kernel
theorem dL_denialCause_2 : decode cL_denialCause 2 = .ok (.aload_n 0, 1) := by decide +kernel
theorem dL_denialCause_3 : decode cL_denialCause 3 = .ok (.invokevirtual 136, 3) := by decide +kernel
theorem dL_denialCause_6 : decode cL_denialCause 6 = .ok (.i2l, 1) := by decide +kernel
theorem dL_denialCause_7 : decode cL_denialCause 7 = .ok (.lastore, 1) := by decide +kernel
theorem dL_denialCause_8 : decode cL_denialCause 8 = .ok (.goto 6, 3) := by decide +kernel
theorem dL_denialCause_11 : decode cL_denialCause 11 = .ok (.astore_n 2, 1) := by decide +kernel
theorem dL_denialCause_12 : decode cL_denialCause 12 = .ok (.iconst 1, 1) := by decide +kernel
theorem dL_denialCause_13 : decode cL_denialCause 13 = .ok (.ireturn, 1) := by decide +kernel
theorem dL_denialCause_14 : decode cL_denialCause 14 = .ok (.iconst 0, 1) := by decide +kernel
theorem dL_denialCause_15 : decode cL_denialCause 15 = .ok (.ireturn, 1) := by decide +kernel
theorem dL_undo_0 : decode cL_undo 0 = .ok (.aload_n 1, 1) := by decide +kernel
theorem dL_undo_1 : decode cL_undo 1 = .ok (.iconst 0, 1) := by decide +kernel
theorem dL_undo_2 : decode cL_undo 2 = .ok (.aload_n 0, 1) := by decide +kernel
theorem dL_undo_3 : decode cL_undo 3 = .ok (.invokevirtual 139, 3) := by decide +kernel
theorem dL_undo_6 : decode cL_undo 6 = .ok (.i2l, 1) := by decide +kernel
theorem dL_undo_7 : decode cL_undo 7 = .ok (.lastore, 1) := by decide +kernel
theorem dL_undo_8 : decode cL_undo 8 = .ok (.goto 6, 3) := by decide +kernel
theorem dL_undo_11 : decode cL_undo 11 = .ok (.astore_n 2, 1) := by decide +kernel
theorem dL_undo_12 : decode cL_undo 12 = .ok (.iconst 1, 1) := by decide +kernel
theorem dL_undo_13 : decode cL_undo 13 = .ok (.ireturn, 1) := by decide +kernel
theorem dL_undo_14 : decode cL_undo 14 = .ok (.iconst 0, 1) := by decide +kernel
theorem dL_undo_15 : decode cL_undo 15 = .ok (.ireturn, 1) := by decide +kernel
theorem dL_restoreSnapshot_0 : decode cL_restoreSnapshot 0 = .ok (.aload_n 1, 1) := by decide +kernel
theorem dL_restoreSnapshot_1 : decode cL_restoreSnapshot 1 = .ok (.iconst 0, 1) := by decide +kernel
theorem dL_restoreSnapshot_2 : decode cL_restoreSnapshot 2 = .ok (.aload_n 0, 1) := by decide +kernel
theorem dL_restoreSnapshot_3 : decode cL_restoreSnapshot 3 = .ok (.invokevirtual 142, 3) := by decide +kernel
theorem dL_restoreSnapshot_6 : decode cL_restoreSnapshot 6 = .ok (.i2l, 1) := by decide +kernel
theorem dL_restoreSnapshot_7 : decode cL_restoreSnapshot 7 = .ok (.lastore, 1) := by decide +kernel
theorem dL_restoreSnapshot_8 : decode cL_restoreSnapshot 8 = .ok (.goto 6, 3) := by decide +kernel
theorem dL_restoreSnapshot_11 : decode cL_restoreSnapshot 11 = .ok (.astore_n 2, 1) := by decide +kernel
theorem dL_restoreSnapshot_12 : decode cL_restoreSnapshot 12 = .ok (.iconst 1, 1) := by decide +kernel
theorem dL_restoreSnapshot_13 : decode cL_restoreSnapshot 13 = .ok (.ireturn, 1) := by decide +kernel
theorem dL_restoreSnapshot_14 : decode cL_restoreSnapshot 14 = .ok (.iconst 0, 1) := by decide +kernel
theorem dL_restoreSnapshot_15 : decode cL_restoreSnapshot 15 = .ok (.ireturn, 1) := by decide +kernel
