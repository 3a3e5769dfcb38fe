/-! words that are not good but stand by themselves; the words of each throw; methods with a table of their own -/
def lw_isOth : Cond → Bool
  | .castable .. => true
  | .declares _ => true
  | _ => false
def lw_oth : List Cond := lw_tbl.filter lw_isOth
theorem lw_qo {w : Cond} (k : Nat) (h : lw_tbl[k]? = some w) (hg : lw_isOth w = true) : w ∈ lw_oth := List.mem_filter.mpr ⟨List.mem_of_getElem? h, hg⟩
theorem lw_oth_tab {w : Cond} (hw : w ∈ lw_oth) : w.onTables = true := by
  have h := (List.mem_filter.mp hw).2
  cases w <;> first | rfl | cases h
theorem lw_oth_warm {w : Cond} {s U : State} (hw : w ∈ lw_oth) (hW : s.WarmedH U.vm) (h : va_Nw w s) : va_Nw w U := by
  have h1 := (List.mem_filter.mp hw).2
  cases w <;> first | exact va_Nw.warmC hW h | exact va_Nw.warmD hW h | cases h1
theorem lw_pick {L : List Cond} (ps : List Nat) (hp : L = ps.filterMap (fun i => lw_tbl[i]?)) (h : L.all (fun w => goodWord w || lw_isOth w) = true) : ∀ w ∈ L, w ∈ lw_all ∨ w ∈ lw_oth := by
  intro w hw
  have h1 := List.all_eq_true.mp h w hw
  rw [hp] at hw
  obtain ⟨i, -, hi⟩ := List.mem_filterMap.mp hw
  have h2 := List.mem_of_getElem? hi
  rcases Bool.or_eq_true_iff.mp h1 with r | r
  · exact Or.inl (List.mem_filter.mpr ⟨h2, r⟩)
  · exact Or.inr (List.mem_filter.mpr ⟨h2, r⟩)
abbrev gUp : List String := ["java/lang/RuntimeException", "java/lang/Exception"]
theorem tx_253 : ∀ w ∈ vx_atS RX12 253 "java/lang/IllegalStateException" gUp, w ∈ lw_all ∨ w ∈ lw_oth := lw_pick [105, 543, 552, 560, 563, 565, 544, 545, 129, 130, 546, 551, 561, 581, 533, 582, 535, 583, 537, 547, 549, 539, 577, 578, 580, 539, 1256, 1257, 1258, 571, 525, 571, 572, 573, 574, 527, 574, 575, 576, 577, 529, 1255, 1246, 1247, 1248, 556, 1249, 1250, 1251, 1252, 542, 541, 1253] (by decide +kernel) (by decide +kernel)
theorem tx_267 : ∀ w ∈ vx_atS RX12 267 "java/lang/IllegalArgumentException" gUp, w ∈ lw_all ∨ w ∈ lw_oth := lw_pick [105, 543, 552, 560, 563, 565, 544, 545, 129, 130, 546, 551, 561, 581, 533, 582, 535, 583, 537, 547, 549, 539, 577, 578, 580, 539, 603, 604, 605, 571, 525, 571, 572, 573, 574, 527, 574, 575, 576, 577, 529, 602, 593, 594, 595, 555, 596, 597, 598, 599, 542, 541, 600] (by decide +kernel) (by decide +kernel)
theorem tx_298 : ∀ w ∈ vx_atS RX12 298 "java/lang/IndexOutOfBoundsException" gUp, w ∈ lw_all ∨ w ∈ lw_oth := lw_pick [105, 543, 552, 560, 563, 565, 544, 545, 129, 130, 546, 551, 561, 581, 533, 582, 535, 583, 537, 547, 549, 539, 577, 578, 580, 539, 568, 569, 570, 571, 525, 571, 572, 573, 574, 527, 574, 575, 576, 577, 529, 567, 522, 523, 530, 531, 532, 534, 536, 538, 542, 541, 540] (by decide +kernel) (by decide +kernel)
theorem tx_345 : ∀ w ∈ vx_atS RX12 345 "java/lang/UnsupportedOperationException" gUp, w ∈ lw_all ∨ w ∈ lw_oth := lw_pick [105, 543, 552, 560, 563, 565, 544, 545, 129, 130, 546, 551, 561, 581, 533, 582, 535, 583, 537, 547, 549, 539, 577, 578, 580, 539, 635, 636, 637, 571, 525, 571, 572, 573, 574, 527, 574, 575, 576, 577, 529, 634, 625, 626, 627, 558, 628, 629, 630, 631, 542, 541, 632] (by decide +kernel) (by decide +kernel)
theorem o523 : (Jvm.Cond.castable "java/lang/IndexOutOfBoundsException" "java/lang/IndexOutOfBoundsException") ∈ lw_oth := lw_qo 523 (by decide +kernel) rfl
theorem o594 : (Jvm.Cond.castable "java/lang/IllegalArgumentException" "java/lang/IllegalArgumentException") ∈ lw_oth := lw_qo 594 (by decide +kernel) rfl
theorem o626 : (Jvm.Cond.castable "java/lang/UnsupportedOperationException" "java/lang/UnsupportedOperationException") ∈ lw_oth := lw_qo 626 (by decide +kernel) rfl
theorem q834 : (Jvm.Cond.codeWith yL_setHeight cL_setHeight (6 : Nat) (Option.some Jvm.ClassFile.FieldType.int) [((0 : Nat), (12 : Nat), (15 : Nat), (13 : Nat)), ((0 : Nat), (12 : Nat), (19 : Nat), (15 : Nat)), ((0 : Nat), (12 : Nat), (23 : Nat), (17 : Nat))]) ∈ lw_all := lw_q 831 (by decide +kernel) rfl
theorem q846 : (Jvm.Cond.codeWith yL_peg cL_peg (5 : Nat) (Option.some Jvm.ClassFile.FieldType.int) [((0 : Nat), (10 : Nat), (13 : Nat), (13 : Nat)), ((0 : Nat), (10 : Nat), (17 : Nat), (17 : Nat))]) ∈ lw_all := lw_q 846 (by decide +kernel) rfl
theorem q855 : (Jvm.Cond.codeWith yL_unpeg cL_unpeg (5 : Nat) (Option.some Jvm.ClassFile.FieldType.int) [((0 : Nat), (10 : Nat), (13 : Nat), (13 : Nat)), ((0 : Nat), (10 : Nat), (17 : Nat), (17 : Nat))]) ∈ lw_all := lw_q 855 (by decide +kernel) rfl
theorem q864 : (Jvm.Cond.codeWith yL_height cL_height (5 : Nat) (Option.some Jvm.ClassFile.FieldType.int) [((0 : Nat), (10 : Nat), (13 : Nat), (13 : Nat))]) ∈ lw_all := lw_q 864 (by decide +kernel) rfl
theorem q875 : (Jvm.Cond.codeWith yL_isPegged cL_isPegged (5 : Nat) (Option.some Jvm.ClassFile.FieldType.int) [((0 : Nat), (17 : Nat), (20 : Nat), (13 : Nat))]) ∈ lw_all := lw_q 875 (by decide +kernel) rfl
theorem q882 : (Jvm.Cond.codeWith yL_rowByHeight cL_rowByHeight (4 : Nat) (Option.some Jvm.ClassFile.FieldType.int) [((0 : Nat), (9 : Nat), (12 : Nat), (37 : Nat))]) ∈ lw_all := lw_q 882 (by decide +kernel) rfl
theorem o894 : (Jvm.Cond.castable "java/util/NoSuchElementException" "java/util/NoSuchElementException") ∈ lw_oth := lw_qo 894 (by decide +kernel) rfl
theorem q918 : (Jvm.Cond.codeWith yL_columnByHeight cL_columnByHeight (4 : Nat) (Option.some Jvm.ClassFile.FieldType.int) [((0 : Nat), (9 : Nat), (12 : Nat), (37 : Nat))]) ∈ lw_all := lw_q 918 (by decide +kernel) rfl
theorem q925 : (Jvm.Cond.codeWith yL_islands cL_islands (4 : Nat) (Option.some Jvm.ClassFile.FieldType.int) [((0 : Nat), (9 : Nat), (12 : Nat), (15 : Nat))]) ∈ lw_all := lw_q 925 (by decide +kernel) rfl
theorem q957 : (Jvm.Cond.codeWith yL_islandsByUnions cL_islandsByUnions (4 : Nat) (Option.some Jvm.ClassFile.FieldType.int) [((0 : Nat), (9 : Nat), (12 : Nat), (15 : Nat))]) ∈ lw_all := lw_q 957 (by decide +kernel) rfl
theorem q984 : (Jvm.Cond.codeWith yL_pour cL_pour (6 : Nat) (Option.some Jvm.ClassFile.FieldType.int) [((0 : Nat), (12 : Nat), (15 : Nat), (13 : Nat)), ((0 : Nat), (12 : Nat), (19 : Nat), (15 : Nat))]) ∈ lw_all := lw_q 984 (by decide +kernel) rfl
theorem q993 : (Jvm.Cond.codeWith yL_water cL_water (5 : Nat) (Option.some Jvm.ClassFile.FieldType.int) [((0 : Nat), (10 : Nat), (13 : Nat), (13 : Nat))]) ∈ lw_all := lw_q 993 (by decide +kernel) rfl
theorem q1000 : (Jvm.Cond.codeWith yL_endRow cL_endRow (5 : Nat) (Option.some Jvm.ClassFile.FieldType.int) [((0 : Nat), (10 : Nat), (13 : Nat), (13 : Nat))]) ∈ lw_all := lw_q 1000 (by decide +kernel) rfl
theorem q1008 : (Jvm.Cond.codeWith yL_endColumn cL_endColumn (5 : Nat) (Option.some Jvm.ClassFile.FieldType.int) [((0 : Nat), (10 : Nat), (13 : Nat), (13 : Nat))]) ∈ lw_all := lw_q 1008 (by decide +kernel) rfl
theorem q1015 : (Jvm.Cond.codeWith yL_basinSize cL_basinSize (5 : Nat) (Option.some Jvm.ClassFile.FieldType.int) [((0 : Nat), (10 : Nat), (13 : Nat), (13 : Nat))]) ∈ lw_all := lw_q 1015 (by decide +kernel) rfl
theorem q1027 : (Jvm.Cond.codeWith yL_basinSizeUpwards cL_basinSizeUpwards (5 : Nat) (Option.some Jvm.ClassFile.FieldType.int) [((0 : Nat), (10 : Nat), (13 : Nat), (13 : Nat))]) ∈ lw_all := lw_q 1027 (by decide +kernel) rfl
theorem q1038 : (Jvm.Cond.codeWith yL_spillLevel cL_spillLevel (5 : Nat) (Option.some Jvm.ClassFile.FieldType.int) [((0 : Nat), (10 : Nat), (13 : Nat), (13 : Nat))]) ∈ lw_all := lw_q 1038 (by decide +kernel) rfl
theorem q1049 : (Jvm.Cond.codeWith yL_spillLevelByRounds cL_spillLevelByRounds (5 : Nat) (Option.some Jvm.ClassFile.FieldType.int) [((0 : Nat), (10 : Nat), (13 : Nat), (13 : Nat))]) ∈ lw_all := lw_q 1049 (by decide +kernel) rfl
theorem q1064 : (Jvm.Cond.codeWith yL_routeCost cL_routeCost (7 : Nat) (Option.some Jvm.ClassFile.FieldType.int) [((0 : Nat), (14 : Nat), (17 : Nat), (13 : Nat)), ((0 : Nat), (14 : Nat), (21 : Nat), (37 : Nat))]) ∈ lw_all := lw_q 1064 (by decide +kernel) rfl
theorem q1104 : (Jvm.Cond.codeWith yL_routeCostByRounds cL_routeCostByRounds (7 : Nat) (Option.some Jvm.ClassFile.FieldType.int) [((0 : Nat), (14 : Nat), (17 : Nat), (13 : Nat)), ((0 : Nat), (14 : Nat), (21 : Nat), (37 : Nat))]) ∈ lw_all := lw_q 1104 (by decide +kernel) rfl
theorem q1119 : (Jvm.Cond.codeWith yL_steepestStep cL_steepestStep (7 : Nat) (Option.some Jvm.ClassFile.FieldType.int) [((0 : Nat), (14 : Nat), (17 : Nat), (13 : Nat)), ((0 : Nat), (14 : Nat), (21 : Nat), (37 : Nat))]) ∈ lw_all := lw_q 1119 (by decide +kernel) rfl
theorem q1141 : (Jvm.Cond.codeWith yL_steepestStepByHalving cL_steepestStepByHalving (7 : Nat) (Option.some Jvm.ClassFile.FieldType.int) [((0 : Nat), (14 : Nat), (17 : Nat), (13 : Nat)), ((0 : Nat), (14 : Nat), (21 : Nat), (37 : Nat))]) ∈ lw_all := lw_q 1141 (by decide +kernel) rfl
theorem q1159 : (Jvm.Cond.codeWith yL_addMoth cL_addMoth (5 : Nat) (Option.some Jvm.ClassFile.FieldType.int) [((0 : Nat), (10 : Nat), (13 : Nat), (13 : Nat)), ((0 : Nat), (10 : Nat), (17 : Nat), (17 : Nat))]) ∈ lw_all := lw_q 1159 (by decide +kernel) rfl
theorem q1168 : (Jvm.Cond.codeWith yL_removeMoth cL_removeMoth (4 : Nat) (Option.some Jvm.ClassFile.FieldType.int) [((0 : Nat), (9 : Nat), (12 : Nat), (13 : Nat))]) ∈ lw_all := lw_q 1168 (by decide +kernel) rfl
theorem q1177 : (Jvm.Cond.codeWith yL_patch cL_patch (5 : Nat) (Option.some Jvm.ClassFile.FieldType.int) [((0 : Nat), (10 : Nat), (13 : Nat), (13 : Nat)), ((0 : Nat), (10 : Nat), (17 : Nat), (17 : Nat))]) ∈ lw_all := lw_q 1177 (by decide +kernel) rfl
theorem q1186 : (Jvm.Cond.codeWith yL_mothRow cL_mothRow (4 : Nat) (Option.some Jvm.ClassFile.FieldType.int) [((0 : Nat), (9 : Nat), (12 : Nat), (13 : Nat))]) ∈ lw_all := lw_q 1186 (by decide +kernel) rfl
theorem q1199 : (Jvm.Cond.codeWith yL_mothColumn cL_mothColumn (4 : Nat) (Option.some Jvm.ClassFile.FieldType.int) [((0 : Nat), (9 : Nat), (12 : Nat), (13 : Nat))]) ∈ lw_all := lw_q 1199 (by decide +kernel) rfl
theorem q1206 : (Jvm.Cond.codeWith yL_wear cL_wear (5 : Nat) (Option.some Jvm.ClassFile.FieldType.int) [((0 : Nat), (10 : Nat), (13 : Nat), (13 : Nat))]) ∈ lw_all := lw_q 1206 (by decide +kernel) rfl
theorem q1213 : (Jvm.Cond.codeWith yL_nightsUntilHole cL_nightsUntilHole (5 : Nat) (Option.some Jvm.ClassFile.FieldType.int) [((0 : Nat), (10 : Nat), (13 : Nat), (13 : Nat)), ((0 : Nat), (10 : Nat), (17 : Nat), (37 : Nat))]) ∈ lw_all := lw_q 1213 (by decide +kernel) rfl
theorem q1223 : (Jvm.Cond.codeWith yL_slope cL_slope (5 : Nat) (Option.some Jvm.ClassFile.FieldType.int) [((0 : Nat), (10 : Nat), (13 : Nat), (13 : Nat))]) ∈ lw_all := lw_q 1223 (by decide +kernel) rfl
theorem q1235 : (Jvm.Cond.codeWith yL_feed cL_feed (4 : Nat) (Option.some Jvm.ClassFile.FieldType.int) [((0 : Nat), (9 : Nat), (12 : Nat), (114 : Nat))]) ∈ lw_all := lw_q 1235 (by decide +kernel) rfl
theorem o1247 : (Jvm.Cond.castable "java/lang/IllegalStateException" "java/lang/IllegalStateException") ∈ lw_oth := lw_qo 1247 (by decide +kernel) rfl
theorem q1263 : (Jvm.Cond.codeWith yL_execute cL_execute (3 : Nat) (Option.some Jvm.ClassFile.FieldType.int) [((0 : Nat), (8 : Nat), (11 : Nat), (15 : Nat)), ((0 : Nat), (8 : Nat), (14 : Nat), (17 : Nat))]) ∈ lw_all := lw_q 1263 (by decide +kernel) rfl
theorem q1441 : (Jvm.Cond.codeWith yL_faultPosition cL_faultPosition (3 : Nat) (Option.some Jvm.ClassFile.FieldType.int) [((0 : Nat), (8 : Nat), (11 : Nat), (37 : Nat))]) ∈ lw_all := lw_q 1441 (by decide +kernel) rfl
theorem q1449 : (Jvm.Cond.codeWith yL_writeRow cL_writeRow (4 : Nat) (Option.some Jvm.ClassFile.FieldType.int) [((0 : Nat), (9 : Nat), (12 : Nat), (13 : Nat))]) ∈ lw_all := lw_q 1449 (by decide +kernel) rfl
theorem o1498 : (Jvm.Cond.castable "[B" "java/lang/Cloneable") ∈ lw_oth := lw_qo 1498 (by decide +kernel) rfl
theorem o1667 : (Jvm.Cond.castable "java/lang/ArrayIndexOutOfBoundsException" "java/lang/ArrayIndexOutOfBoundsException") ∈ lw_oth := lw_qo 1667 (by decide +kernel) rfl
theorem q1714 : (Jvm.Cond.codeWith yL_lineCharacter cL_lineCharacter (4 : Nat) (Option.some Jvm.ClassFile.FieldType.int) [((0 : Nat), (9 : Nat), (12 : Nat), (13 : Nat))]) ∈ lw_all := lw_q 1714 (by decide +kernel) rfl
theorem q1732 : (Jvm.Cond.codeWith yL_denial cL_denial (3 : Nat) (Option.some Jvm.ClassFile.FieldType.int) [((0 : Nat), (8 : Nat), (11 : Nat), (37 : Nat))]) ∈ lw_all := lw_q 1732 (by decide +kernel) rfl
theorem q1744 : (Jvm.Cond.codeWith yL_denialDetail cL_denialDetail (3 : Nat) (Option.some Jvm.ClassFile.FieldType.int) [((0 : Nat), (8 : Nat), (11 : Nat), (37 : Nat))]) ∈ lw_all := lw_q 1744 (by decide +kernel) rfl
theorem q1751 : (Jvm.Cond.codeWith yL_denialCause cL_denialCause (3 : Nat) (Option.some Jvm.ClassFile.FieldType.int) [((0 : Nat), (8 : Nat), (11 : Nat), (37 : Nat))]) ∈ lw_all := lw_q 1751 (by decide +kernel) rfl
theorem q1759 : (Jvm.Cond.codeWith yL_undo cL_undo (3 : Nat) (Option.some Jvm.ClassFile.FieldType.int) [((0 : Nat), (8 : Nat), (11 : Nat), (114 : Nat))]) ∈ lw_all := lw_q 1759 (by decide +kernel) rfl
theorem q1771 : (Jvm.Cond.codeWith yL_restoreSnapshot cL_restoreSnapshot (3 : Nat) (Option.some Jvm.ClassFile.FieldType.int) [((0 : Nat), (8 : Nat), (11 : Nat), (114 : Nat))]) ∈ lw_all := lw_q 1771 (by decide +kernel) rfl
theorem o2265 : (Jvm.Cond.castable "java/lang/ArrayIndexOutOfBoundsException" "java/lang/IndexOutOfBoundsException") ∈ lw_oth := lw_qo 2265 (by decide +kernel) rfl
theorem o2266 : (Jvm.Cond.castable "java/lang/StringIndexOutOfBoundsException" "java/lang/IndexOutOfBoundsException") ∈ lw_oth := lw_qo 2266 (by decide +kernel) rfl
theorem o2267 : (Jvm.Cond.castable "DustSheetMap$Sheet" "java/lang/Object") ∈ lw_oth := lw_qo 2267 (by decide +kernel) rfl
theorem o2268 : (Jvm.Cond.castable "DustSheetMap$Verb" "java/lang/Object") ∈ lw_oth := lw_qo 2268 (by decide +kernel) rfl
theorem o2269 : (Jvm.Cond.castable "DustSheetMap" "java/lang/Object") ∈ lw_oth := lw_qo 2269 (by decide +kernel) rfl
theorem o2270 : (Jvm.Cond.castable "DustSheetMap$History" "java/lang/Object") ∈ lw_oth := lw_qo 2270 (by decide +kernel) rfl
theorem o2271 : (Jvm.Cond.castable "DustSheetMap$Regions" "java/lang/Object") ∈ lw_oth := lw_qo 2271 (by decide +kernel) rfl
theorem o2272 : (Jvm.Cond.castable "DustSheetMap$Flood" "java/lang/Object") ∈ lw_oth := lw_qo 2272 (by decide +kernel) rfl
theorem o2273 : (Jvm.Cond.castable "DustSheetMap$Unions" "java/lang/Object") ∈ lw_oth := lw_qo 2273 (by decide +kernel) rfl
theorem o2274 : (Jvm.Cond.castable "DustSheetMap$SpillLevels" "java/lang/Object") ∈ lw_oth := lw_qo 2274 (by decide +kernel) rfl
theorem o2275 : (Jvm.Cond.castable "DustSheetMap$CellQueue" "java/lang/Object") ∈ lw_oth := lw_qo 2275 (by decide +kernel) rfl
theorem o2276 : (Jvm.Cond.castable "DustSheetMap$Routes" "java/lang/Object") ∈ lw_oth := lw_qo 2276 (by decide +kernel) rfl
theorem o2277 : (Jvm.Cond.castable "DustSheetMap$TextParser" "java/lang/Object") ∈ lw_oth := lw_qo 2277 (by decide +kernel) rfl
theorem o2278 : (Jvm.Cond.castable "java/util/ArrayList" "java/lang/Object") ∈ lw_oth := lw_qo 2278 (by decide +kernel) rfl
theorem o2279 : (Jvm.Cond.castable "java/lang/StringBuilder" "java/lang/Object") ∈ lw_oth := lw_qo 2279 (by decide +kernel) rfl
theorem o2280 : (Jvm.Cond.castable "DustSheetMapModel" "java/lang/Object") ∈ lw_oth := lw_qo 2280 (by decide +kernel) rfl
theorem o2281 : (Jvm.Cond.castable "DustSheetMap$Command" "java/lang/Object") ∈ lw_oth := lw_qo 2281 (by decide +kernel) rfl
theorem o2282 : (Jvm.Cond.castable "java/lang/IndexOutOfBoundsException" "java/lang/Object") ∈ lw_oth := lw_qo 2282 (by decide +kernel) rfl
theorem o2283 : (Jvm.Cond.castable "java/lang/IllegalArgumentException" "java/lang/Object") ∈ lw_oth := lw_qo 2283 (by decide +kernel) rfl
theorem o2284 : (Jvm.Cond.castable "java/lang/UnsupportedOperationException" "java/lang/Object") ∈ lw_oth := lw_qo 2284 (by decide +kernel) rfl
theorem o2285 : (Jvm.Cond.castable "java/util/NoSuchElementException" "java/lang/Object") ∈ lw_oth := lw_qo 2285 (by decide +kernel) rfl
theorem o2286 : (Jvm.Cond.castable "java/lang/IllegalStateException" "java/lang/Object") ∈ lw_oth := lw_qo 2286 (by decide +kernel) rfl
theorem o2287 : (Jvm.Cond.castable "java/lang/StringIndexOutOfBoundsException" "java/lang/Object") ∈ lw_oth := lw_qo 2287 (by decide +kernel) rfl
theorem o2288 : (Jvm.Cond.castable "java/lang/String" "java/lang/Object") ∈ lw_oth := lw_qo 2288 (by decide +kernel) rfl
theorem o2289 : (Jvm.Cond.castable "java/lang/ArrayIndexOutOfBoundsException" "java/lang/Object") ∈ lw_oth := lw_qo 2289 (by decide +kernel) rfl
theorem o2290 : (Jvm.Cond.castable "java/lang/Throwable" "java/lang/Object") ∈ lw_oth := lw_qo 2290 (by decide +kernel) rfl
theorem o2294 : (Jvm.Cond.castable "[I" "java/lang/Object") ∈ lw_oth := lw_qo 2294 (by decide +kernel) rfl
theorem o2295 : (Jvm.Cond.castable "[Z" "java/lang/Object") ∈ lw_oth := lw_qo 2295 (by decide +kernel) rfl
theorem o2296 : (Jvm.Cond.castable "[LDustSheetMap$Sheet;" "java/lang/Object") ∈ lw_oth := lw_qo 2296 (by decide +kernel) rfl
theorem o2297 : (Jvm.Cond.castable "[C" "java/lang/Object") ∈ lw_oth := lw_qo 2297 (by decide +kernel) rfl
theorem o2298 : (Jvm.Cond.castable "[B" "java/lang/Object") ∈ lw_oth := lw_qo 2298 (by decide +kernel) rfl
theorem o2299 : (Jvm.Cond.castable "[Ljava/lang/Object;" "java/lang/Object") ∈ lw_oth := lw_qo 2299 (by decide +kernel) rfl
theorem o2300 : (Jvm.Cond.castable "[J" "java/lang/Object") ∈ lw_oth := lw_qo 2300 (by decide +kernel) rfl
theorem o2301 : (Jvm.Cond.castable "[D" "java/lang/Object") ∈ lw_oth := lw_qo 2301 (by decide +kernel) rfl
theorem o2302 : (Jvm.Cond.castable "[LDustSheetMap$Verb;" "java/lang/Object") ∈ lw_oth := lw_qo 2302 (by decide +kernel) rfl
