/-! THE START: what is given of statics, by their places -/
def nrw : List Cond := flatC (Jvm.Cond.and given_1 narrow_1)
theorem nrw_q {w : Cond} {k : Nat} (h : nrw[k]? = some w) : w ∈ nrw := List.mem_of_getElem? h
theorem tbl_q {w : Cond} {k : Nat} (h : lw_tbl[k]? = some w) : w ∈ lw_tbl := List.mem_of_getElem? h
theorem va_eqq {args : Array Value} {s : State} {t u : Term} {a : Nat} (h : (Cond.eq t u).before args s = true) (hu : u.eval args s none [] s = some (.ref a)) : t.eval args s none [] s = some (.ref a) := by
  cases hv : t.eval args s none [] s with
  | none => simp [Cond.before, Cond.holds, Cond.value, hv] at h
  | some w =>
    simp only [Cond.before, Cond.holds, Cond.value, hv, hu] at h
    cases w <;> simp_all
theorem va_T.cong {ty : FieldType} {t N : Nat} {f g : Nat → Value} {A : Nat → Prop} {U : State} {H : Heap} (h : va_T ty t N f A U H) (hfg : ∀ j, j < N → f j = g j) : va_T ty t N g A U H := by
  obtain ⟨cell, h1, h2, h3, h4, h5, h6, h7⟩ := h
  exact ⟨cell, h1, h2, h3, h4, h5, fun j hj => by rw [h6 j hj, hfg j hj], h7⟩
/-- a constant text at place k of what is given -/
abbrev nStr (k : Nat) (tm : Term) (l : List Nat) : Prop := nrw[k]? = some (.exactly tm "java/lang/String") ∧ nrw[k + 1]? = some (.eq (.field tm "java/lang/String" "coder" "B") (.int 0)) ∧ nrw[k + 2]? = some (.arrayOf (.field tm "java/lang/String" "value" "[B") .byte) ∧ nrw[k + 3]? = some (.eq (.length (.field tm "java/lang/String" "value" "[B")) (.int (Int32.ofNat l.length))) ∧ ∀ j, j < l.length → nrw[k + 4 + j]? = some (.eq (.elem (.field tm "java/lang/String" "value" "[B") (.int (Int32.ofNat j))) (.int (nI (l.getD j 0))))
theorem gS_of {args : Array Value} {s : State} {A : Nat → Prop} (hn : ∀ w ∈ nrw, w.before args s = true) (hA : ∀ a : Nat, a < s.heap.size → ¬ A a) {k : Nat} {tm : Term} {l : List Nat} (hl : l.length < 2 ^ 31) (h : nStr k tm l) : ∃ q : Nat × Nat, tm.eval args s none [] s = some (.ref q.1) ∧ gStr A q.1 q.2 l s s.heap := by
  obtain ⟨h1, h2, h3, h4, h5⟩ := h
  have e1 := hn _ (nrw_q h1)
  obtain ⟨a, c, cA, kA, q1, q2, q3, q4, q5, q6, -⟩ := Cond.exactly_spec (args := args) (first := s) (o := none) (s := s) (idx := []) (t := tm) (cls := "java/lang/String") e1
  obtain ⟨t, ht, hT⟩ := va_Tof (f := fun j => .int (nI (l.getD j 0))) (A := A) hl (hn _ (nrw_q h3)) (va_eqt (hn _ (nrw_q h4))) (fun j hj => va_eqt (hn _ (nrw_q (h5 j hj)))) hA
  exact ⟨(a, t), q1, va_Oof e1 q1 hA, vk_OFof q1 (va_eqt (hn _ (nrw_q h2))) hA, vk_OFof q1 ht hA, hT⟩
abbrev vbT (i : Nat) : Term := .static gVb (vbN i) "LDustSheetMap$Verb;"
def vbP (i : Nat) : Nat := [36, 42, 49, 9, 57, 27, 66, 76, 31, 87].getD i 0
def frI (i : Nat) : Nat := [58, 64, 67, 70, 73, 76, 79, 82, 85, 88].getD i 0
def frP (i : Nat) : Nat := [1101, 1116, 1126, 1073, 1137, 1082, 1150, 1161, 1092, 1171].getD i 0
def wrP (i : Nat) : Nat := [1000, 1009, 1016, 1024, 1031, 1039, 1047, 1054, 1059, 1065].getD i 0
def lyP (i : Nat) : Nat := [840, 852, 861, 455, 990, 726, 1165, 1174, 781, 1183].getD i 0
def wtP (i : Nat) : Nat := [2160, 2175, 2176, 2177, 2178, 2179, 2180, 2181, 2182, 2183].getD i 0
theorem n_verb : ∀ i, i < 10 → nrw[vbP i]? = some (.exactly (vbT i) gVb) ∧ nrw[vbP i + 1]? = some (.eq (.field (vbT i) "java/lang/Enum" "ordinal" "I") (.int (nI i))) ∧ nrw[vbP i + 2]? = some (.eq (.field (vbT i) gVb "form" "Ljava/lang/String;") (.string gVb (frI i))) := by decide +kernel
theorem n_lays : ∀ i, i < 10 → lw_tbl[lyP i]? = some (.laysStatic gVb (vbN i) "LDustSheetMap$Verb;") := by decide +kernel
theorem n_form : ∀ i, i < 10 → (frm i).length < 2 ^ 31 ∧ nStr (frP i) (.string gVb (frI i)) (frm i) := by decide +kernel
theorem n_word : ∀ i, i < 10 → (wrd i).length < 2 ^ 31 ∧ nStr (wrP i) (.string "DustSheetMapModel" (wrdI i)) (wrd i) := by decide +kernel
theorem n_text : ∀ i, i < 10 → lw_tbl[wtP i]? = some (.stringRef "DustSheetMapModel" (wrdI i) (wrdT i)) := by decide +kernel
abbrev nRow (k : Nat) (tm : Term) (ty : FieldType) (n : Nat) : Prop := nrw[k]? = some (.arrayOf tm ty) ∧ nrw[k + 1]? = some (.eq (.length tm) (.int (Int32.ofNat n)))
theorem n_all : nRow 101 (.static gVb "ALL" "[LDustSheetMap$Verb;") (.object gVb) 10 ∧ ∀ j, j < 10 → nrw[104 + j]? = some (.eq (.elem (.static gVb "ALL" "[LDustSheetMap$Verb;") (.int (Int32.ofNat j))) (vbT j)) := by decide +kernel
abbrev swT : Term := .static "DustSheetMap$1" "$SwitchMap$DustSheetMap$Verb" "[I"
theorem n_sw : nRow 13 swT .int 10 ∧ ∀ j, j < 10 → nrw[15 + j]? = some (.eq (.elem swT (.int (Int32.ofNat j))) (.int (nI (swm j)))) := by decide +kernel
abbrev emT : Term := .static "java/util/ArrayList" "DEFAULTCAPACITY_EMPTY_ELEMENTDATA" "[Ljava/lang/Object;"
theorem n_em : nrw[5]? = some (.arrayOf emT (.object "java/lang/Object")) ∧ nrw[7]? = some (.eq (.length emT) (.int (Int32.ofNat 0))) := by decide +kernel
abbrev dtT : Term := .static "java/lang/Integer" "DigitTens" "[B"
theorem n_dt : nRow 222 dtT .byte 100 ∧ ∀ j, j < 100 → nrw[224 + j]? = some (.eq (.elem dtT (.int (Int32.ofNat j))) (.int (nI (48 + j / 10)))) := by decide +kernel
abbrev doT : Term := .static "java/lang/Integer" "DigitOnes" "[B"
theorem n_do : nRow 119 doT .byte 100 ∧ ∀ j, j < 100 → nrw[121 + j]? = some (.eq (.elem doT (.int (Int32.ofNat j))) (.int (nI (48 + j % 10)))) := by decide +kernel
theorem n_ref : nrw[25]? = some (.isRef (.static Bundle.tN "UNASSIGNED_STACK" Bundle.steD)) ∧ nrw[26]? = some (.isRef (.static Bundle.tN "SUPPRESSED_SENTINEL" Bundle.listD)) ∧ nrw[114]? = some (.isRef (.static "jdk/internal/util/Preconditions" "SIOOBE_FORMATTER" "Ljava/util/function/BiFunction;")) ∧ nrw[8]? = some (.eq (.static "java/lang/String" "COMPACT_STRINGS" "Z") (.int 1)) := by decide +kernel
theorem n_gTx : ∀ t ∈ gTx, Cond.stringRef t.1 t.2.1 t.2.2 ∈ lw_tbl ∧ Cond.exactly (.string t.1 t.2.1) "java/lang/String" ∈ nrw := by decide +kernel
theorem n_gNl : ∀ t ∈ gNl, Cond.not (.castable t.1 t.2) ∈ nrw := by decide +kernel
/-- all addresses that the statics name, in one row -/
def kkF (a b c d e t : Nat → Nat) (n : Nat) : Nat := if n < 10 then a n else if n < 20 then b (n - 10) else if n < 30 then c (n - 20) else if n < 40 then t (n - 30) else if n < 50 then d (n - 40) else e (n - 50)
section KKF
variable {a b c d e t : Nat → Nat} {i : Nat}
theorem kkF0 (hi : i < 10) : kkF a b c d e t i = a i := if_pos hi
theorem kkF1 (hi : i < 10) : kkF a b c d e t (10 + i) = b i := by
  unfold kkF; rw [if_neg (by omega), if_pos (by omega), Nat.add_sub_cancel_left]
theorem kkF2 (hi : i < 10) : kkF a b c d e t (20 + i) = c i := by
  unfold kkF; rw [if_neg (by omega), if_neg (by omega), if_pos (by omega), Nat.add_sub_cancel_left]
theorem kkF4 (hi : i < 10) : kkF a b c d e t (40 + i) = d i := by
  unfold kkF; rw [if_neg (by omega), if_neg (by omega), if_neg (by omega), if_neg (by omega), if_pos (by omega), Nat.add_sub_cancel_left]
theorem kkF5 (hi : i < 10) : kkF a b c d e t (50 + i) = e i := by
  unfold kkF; rw [if_neg (by omega), if_neg (by omega), if_neg (by omega), if_neg (by omega), if_neg (by omega), Nat.add_sub_cancel_left]
end KKF
def tt5 (a b c d e : Nat) (j : Nat) : Nat := match j with | 0 => a | 1 => b | 2 => c | 3 => d | _ => e
/-- a row of a static, with what it holds -/
theorem gT_of {args : Array Value} {s : State} {A : Nat → Prop} (hts : ∀ w ∈ lw_tbl, w.before args s = true) (hn : ∀ w ∈ nrw, w.before args s = true) (hA : ∀ a : Nat, a < s.heap.size → ¬ A a) {C n dd : String} {k1 k2 m1 m2 : Nat} {ty : FieldType} {N : Nat} {f : Nat → Value} (hN : N < 2 ^ 31)
    (hl : lw_tbl[k1]? = some (.laysStatic C n dd)) (hi : lw_tbl[k2]? = some (.initialized C)) (h1 : nrw[m1]? = some (.arrayOf (.static C n dd) ty)) (h2 : nrw[m2]? = some (.eq (.length (.static C n dd)) (.int (Int32.ofNat N))))
    (hel : ∀ j : Nat, j < N → (Term.elem (.static C n dd) (.int (Int32.ofNat j))).eval args s none [] s = some (f j)) : ∃ t : Nat, va_Z C n dd (.ref t) A s s.heap ∧ va_T ty t N f A s s.heap := by
  obtain ⟨t, ht, hT⟩ := va_Tof (f := f) (A := A) hN (hn _ (nrw_q h1)) (va_eqt (hn _ (nrw_q h2))) hel hA
  exact ⟨t, va_Zref (hts _ (tbl_q hl)) (hts _ (tbl_q hi)) ht hA, hT⟩
theorem gZ9_of {s : State} {args : Array Value} (hts : ∀ w ∈ lw_tbl, w.before args s = true) (hn : ∀ w ∈ nrw, w.before args s = true) : ∃ kk : Nat → Nat, gZ9 s.heap.size kk s s.heap := by
  have hA : ∀ a : Nat, a < s.heap.size → ¬ (fun q : Nat => s.heap.size ≤ q) a := fun a h => Nat.not_le_of_lt h
  have hF0 : ∀ i : Nat, ∃ q : Nat × Nat, i < 10 → (Term.string gVb (frI i)).eval args s none [] s = some (.ref q.1) ∧ gStr (fun q => s.heap.size ≤ q) q.1 q.2 (frm i) s s.heap := by
    intro i
    by_cases hi : i < 10
    · obtain ⟨q, h⟩ := gS_of (A := fun q => s.heap.size ≤ q) hn hA (n_form i hi).1 (n_form i hi).2
      exact ⟨q, fun _ => h⟩
    · exact ⟨(0, 0), fun h => absurd h hi⟩
  obtain ⟨fa, hF⟩ := Classical.axiomOfChoice hF0
  have hW0 : ∀ i : Nat, ∃ q : Nat × Nat, i < 10 → (Term.string "DustSheetMapModel" (wrdI i)).eval args s none [] s = some (.ref q.1) ∧ gStr (fun q => s.heap.size ≤ q) q.1 q.2 (wrd i) s s.heap := by
    intro i
    by_cases hi : i < 10
    · obtain ⟨q, h⟩ := gS_of (A := fun q => s.heap.size ≤ q) hn hA (n_word i hi).1 (n_word i hi).2
      exact ⟨q, fun _ => h⟩
    · exact ⟨(0, 0), fun h => absurd h hi⟩
  obtain ⟨wa, hW⟩ := Classical.axiomOfChoice hW0
  have hV0 : ∀ i : Nat, ∃ q : Nat, i < 10 → (vbT i).eval args s none [] s = some (.ref q) ∧ va_Z gVb (vbN i) "LDustSheetMap$Verb;" (.ref q) (fun q => s.heap.size ≤ q) s s.heap ∧ va_O gVb q (fun q => s.heap.size ≤ q) s s.heap ∧ va_OF "java/lang/Enum" "ordinal" "I" (.int (nI i)) q (fun q => s.heap.size ≤ q) s s.heap ∧ va_OF gVb "form" "Ljava/lang/String;" (.ref (fa i).1) q (fun q => s.heap.size ≤ q) s s.heap := by
    intro i
    by_cases hi : i < 10
    · obtain ⟨h1, h2, h3⟩ := n_verb i hi
      have e1 := hn _ (nrw_q h1)
      obtain ⟨a, c, cA, kA, q1, -⟩ := Cond.exactly_spec (args := args) (first := s) (o := none) (s := s) (idx := []) (t := vbT i) (cls := gVb) e1
      exact ⟨a, fun _ => ⟨q1, va_Zref (hts _ (tbl_q (n_lays i hi))) (hts _ (tbl_q (k := 103) (by decide +kernel))) q1 hA, va_Oof e1 q1 hA, vk_OFof q1 (va_eqt (hn _ (nrw_q h2))) hA, vk_OFof q1 (va_eqq (hn _ (nrw_q h3)) (hF i hi).1) hA⟩⟩
    · exact ⟨0, fun h => absurd h hi⟩
  obtain ⟨va, hV⟩ := Classical.axiomOfChoice hV0
  obtain ⟨t0, hA0, hA1⟩ := gT_of (A := fun q => s.heap.size ≤ q) (N := 10) (f := fun j => .ref (va j)) hts hn hA (by decide) (k1 := 1281) (k2 := 103) (by decide +kernel) (by decide +kernel) n_all.1.1 n_all.1.2 (fun j hj => va_eqq (hn _ (nrw_q (n_all.2 j hj))) (hV j hj).1)
  obtain ⟨t1, hB0, hB1⟩ := gT_of (A := fun q => s.heap.size ≤ q) (N := 10) (f := fun j => .int (nI (swm j))) hts hn hA (by decide) (k1 := 482) (k2 := 104) (by decide +kernel) (by decide +kernel) n_sw.1.1 n_sw.1.2 (fun j hj => va_eqt (hn _ (nrw_q (n_sw.2 j hj))))
  obtain ⟨t2, hC0, hC1⟩ := gT_of (A := fun q => s.heap.size ≤ q) (N := 0) (f := fun _ => .null) hts hn hA (by decide) (k1 := 331) (k2 := 95) (by decide +kernel) (by decide +kernel) n_em.1 n_em.2 (fun j hj => absurd hj (Nat.not_lt_zero j))
  obtain ⟨t3, hD0, hD1⟩ := gT_of (A := fun q => s.heap.size ≤ q) (N := 100) (f := fun j => .int (nI (48 + j / 10))) hts hn hA (by decide) (k1 := 1571) (k2 := 121) (by decide +kernel) (by decide +kernel) n_dt.1.1 n_dt.1.2 (fun j hj => va_eqt (hn _ (nrw_q (n_dt.2 j hj))))
  obtain ⟨t4, hE0, hE1⟩ := gT_of (A := fun q => s.heap.size ≤ q) (N := 100) (f := fun j => .int (nI (48 + j % 10))) hts hn hA (by decide) (k1 := 1569) (k2 := 121) (by decide +kernel) (by decide +kernel) n_do.1.1 n_do.1.2 (fun j hj => va_eqt (hn _ (nrw_q (n_do.2 j hj))))
  refine ⟨kkF va (fun i => (fa i).1) (fun i => (wa i).1) (fun i => (fa i).2) (fun i => (wa i).2) (tt5 t0 t1 t2 t3 t4), ⟨?_, ?_, fun t ht => ?_, fun x hx => va_Nw.of (lw_oth_tab hx) (hts x (List.mem_filter.mp hx).1)⟩, ⟨fun i hi => ?_, ⟨hB0, hB1⟩, ⟨hA0, ?_⟩, fun i hi => ?_, ?_, ⟨hC0, hC1⟩, ⟨hD0, hD1⟩, ⟨hE0, hE1⟩, ?_, ?_, ?_, ?_⟩, fun t ht => va_Nc.of (args := args) (hn _ (n_gNl t ht))⟩
  · exact vx_Zqof (hts _ (tbl_q (k := 548) (by decide +kernel))) (hts _ (tbl_q (k := 105) (by decide +kernel))) (hn _ (nrw_q n_ref.1)) hA
  · exact vx_Zqof (hts _ (tbl_q (k := 550) (by decide +kernel))) (hts _ (tbl_q (k := 105) (by decide +kernel))) (hn _ (nrw_q n_ref.2.1)) hA
  · obtain ⟨a, c, cA, kA, q1, -⟩ := Cond.exactly_spec (args := args) (first := s) (o := none) (s := s) (idx := []) (hn _ (n_gTx t ht).2)
    exact ⟨a, vk_R.of (hts _ (n_gTx t ht).1) q1⟩
  · obtain ⟨-, h1, h2, h3, h4⟩ := hV i hi
    unfold gVc
    rw [kkF0 hi, kkF1 hi, kkF4 hi]
    exact ⟨⟨h1, h2, h3, h4⟩, (hF i hi).2⟩
  · exact hA1.cong (fun j hj => by rw [kkF0 hj])
  · rw [kkF2 hi, kkF5 hi]
    exact ⟨vk_R.of (hts _ (tbl_q (n_text i hi))) (hW i hi).1, (hW i hi).2⟩
  · exact va_Zof (hts _ (tbl_q (k := 379) (by decide +kernel))) (hts _ (tbl_q (k := 98) (by decide +kernel))) (va_eqi (hn _ (nrw_q n_ref.2.2.2))) hA
  · exact va_Zqof (hts _ (tbl_q (k := 1310) (by decide +kernel))) (hts _ (tbl_q (k := 116) (by decide +kernel))) (hn _ (nrw_q n_ref.2.2.1)) hA
  · exact va_Nw.of rfl (hts _ (tbl_q (k := 2281) (by decide +kernel)))
  · exact va_AO.of (hts _ (tbl_q (k := 1407) (by decide +kernel)))
  · exact va_AO.of (hts _ (tbl_q (k := 191) (by decide +kernel)))
