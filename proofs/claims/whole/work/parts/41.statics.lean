/-! STATICS: the constants of Verb, their forms, the row behind the switch, the Model's words, tables of digits; what is said of them stays -/
def vbN (i : Nat) : String := ["HEIGHT", "PEG", "FREE", "DRAPE", "POUR", "SETTLE", "MOTH", "SWAT", "NIGHT", "PATCH"].getD i ""
def frmL : List (List Nat) := [[104, 101, 105, 103, 104, 116, 32, 82, 67, 61, 78], [112, 101, 103, 32, 82, 67], [102, 114, 101, 101, 32, 82, 67], [100, 114, 97, 112, 101], [112, 111, 117, 114, 32, 82, 67, 32, 78], [115, 101, 116, 116, 108, 101], [109, 111, 116, 104, 32, 82, 67], [115, 119, 97, 116, 32, 73], [110, 105, 103, 104, 116], [112, 97, 116, 99, 104, 32, 82, 67]]
def frm (i : Nat) : List Nat := frmL.getD i []
def wrdL : List (List Nat) := [[101, 105, 103, 104, 116], [114, 101, 101], [114, 97, 112, 101], [111, 116, 104], [105, 103, 104, 116], [116, 116, 108, 101], [119, 97, 116], [103], [117, 114], [97, 116, 99, 104]]
def wrd (i : Nat) : List Nat := wrdL.getD i []
def wrdI (i : Nat) : Nat := [194, 203, 205, 207, 209, 211, 213, 215, 216, 218].getD i 0
def wrdT (i : Nat) : String := ["eight", "ree", "rape", "oth", "ight", "ttle", "wat", "g", "ur", "atch"].getD i ""
def swm (j : Nat) : Nat := [1, 2, 3, 8, 4, 9, 5, 6, 10, 7].getD j 0
abbrev gVb : String := "DustSheetMap$Verb"
def gStr (A : Nat → Prop) (a v : Nat) (l : List Nat) (U : State) (H : Heap) : Prop := va_O "java/lang/String" a A U H ∧ va_OF "java/lang/String" "coder" "B" (.int 0) a A U H ∧ va_OF "java/lang/String" "value" "[B" (.ref v) a A U H ∧ va_T .byte v l.length (fun j => .int (nI (l.getD j 0))) A U H
theorem gStr.go {A : Nat → Prop} {a v : Nat} {l : List Nat} {u U : State} {H H1 : Heap} (h : gStr A a v l u H) (hal : u.vm.Alike U.vm) (hk : ∀ q : Nat, q < H.size → ¬ A q → H1[q]? = H[q]?) : gStr A a v l U H1 :=
  ⟨(h.1.moved hal).kept hk, (h.2.1.moved hal).kept hk, (h.2.2.1.moved hal).kept hk, (h.2.2.2.moved hal).kept hk⟩
def gVc (A : Nat → Prop) (kk : Nat → Nat) (i : Nat) (U : State) (H : Heap) : Prop := va_Z gVb (vbN i) "LDustSheetMap$Verb;" (.ref (kk i)) A U H ∧ va_O gVb (kk i) A U H ∧ va_OF "java/lang/Enum" "ordinal" "I" (.int (nI i)) (kk i) A U H ∧ va_OF gVb "form" "Ljava/lang/String;" (.ref (kk (10 + i))) (kk i) A U H
theorem gVc.go {A : Nat → Prop} {kk : Nat → Nat} {i : Nat} {u U : State} {H H1 : Heap} (h : gVc A kk i u H) (hal : u.vm.Alike U.vm) (hk : ∀ q : Nat, q < H.size → ¬ A q → H1[q]? = H[q]?) : gVc A kk i U H1 :=
  ⟨(h.1.moved hal).kept hk, (h.2.1.moved hal).kept hk, (h.2.2.1.moved hal).kept hk, (h.2.2.2.moved hal).kept hk⟩
def gZv (lo : Nat) (kk : Nat → Nat) (U : State) (H : Heap) : Prop :=
  (∀ i, i < 10 → gVc (fun q => lo ≤ q) kk i U H ∧ gStr (fun q => lo ≤ q) (kk (10 + i)) (kk (40 + i)) (frm i) U H) ∧
  (va_Z "DustSheetMap$1" "$SwitchMap$DustSheetMap$Verb" "[I" (.ref (kk 31)) (fun q => lo ≤ q) U H ∧ va_T .int (kk 31) 10 (fun j => .int (nI (swm j))) (fun q => lo ≤ q) U H) ∧
  (va_Z gVb "ALL" "[LDustSheetMap$Verb;" (.ref (kk 30)) (fun q => lo ≤ q) U H ∧ va_T (.object gVb) (kk 30) 10 (fun j => .ref (kk j)) (fun q => lo ≤ q) U H) ∧
  (∀ i, i < 10 → vk_R "DustSheetMapModel" (wrdI i) (wrdT i) (kk (20 + i)) U ∧ gStr (fun q => lo ≤ q) (kk (20 + i)) (kk (50 + i)) (wrd i) U H) ∧
  va_Z "java/lang/String" "COMPACT_STRINGS" "Z" (.int 1) (fun q => lo ≤ q) U H ∧
  (va_Z "java/util/ArrayList" "DEFAULTCAPACITY_EMPTY_ELEMENTDATA" "[Ljava/lang/Object;" (.ref (kk 32)) (fun q => lo ≤ q) U H ∧ va_T (.object "java/lang/Object") (kk 32) 0 (fun _ => .null) (fun q => lo ≤ q) U H) ∧
  (va_Z "java/lang/Integer" "DigitTens" "[B" (.ref (kk 33)) (fun q => lo ≤ q) U H ∧ va_T .byte (kk 33) 100 (fun j => .int (nI (48 + j / 10))) (fun q => lo ≤ q) U H) ∧
  (va_Z "java/lang/Integer" "DigitOnes" "[B" (.ref (kk 34)) (fun q => lo ≤ q) U H ∧ va_T .byte (kk 34) 100 (fun j => .int (nI (48 + j % 10))) (fun q => lo ≤ q) U H) ∧
  va_Zq "jdk/internal/util/Preconditions" "SIOOBE_FORMATTER" "Ljava/util/function/BiFunction;" (fun q => lo ≤ q) U H ∧
  va_Nw (.castable "DustSheetMap$Command" "java/lang/Object") U ∧ va_AO "java/lang/Object" U ∧ va_AO "DustSheetMap$Sheet" U
theorem gZv.go {lo : Nat} {kk : Nat → Nat} {u U : State} {H H1 : Heap} (h : gZv lo kk u H) (hv : u.WarmedH U.vm ∨ U.vm = u.vm) (hk : ∀ a : Nat, a < H.size → ¬ lo ≤ a → H1[a]? = H[a]?) : gZv lo kk U H1 := by
  have hal : u.vm.Alike U.vm := by
    rcases hv with q | q
    · exact q.alike
    · rw [q]; exact Vm.Alike.refl _
  obtain ⟨h1, h2, h3, h4, h5, h6, h7, h8, h9, h10, h11, h12⟩ := h
  refine ⟨fun i hi => ⟨(h1 i hi).1.go hal hk, (h1 i hi).2.go hal hk⟩, ⟨(h2.1.moved hal).kept hk, (h2.2.moved hal).kept hk⟩, ⟨(h3.1.moved hal).kept hk, (h3.2.moved hal).kept hk⟩, fun i hi => ⟨?_, (h4 i hi).2.go hal hk⟩, (h5.moved hal).kept hk, ⟨(h6.1.moved hal).kept hk, (h6.2.moved hal).kept hk⟩, ⟨(h7.1.moved hal).kept hk, (h7.2.moved hal).kept hk⟩, ⟨(h8.1.moved hal).kept hk, (h8.2.moved hal).kept hk⟩, (h9.moved hal).kept hk, ?_, h11.moved hal, h12.moved hal⟩
  · rcases hv with q | q
    · exact (h4 i hi).1.warm q
    · exact (h4 i hi).1.same q
  · rcases hv with q | q
    · exact va_Nw.warmC q h10
    · exact va_Nw.same rfl q.symm h10
/-- what a run's E may say of statics: throws and constants -/
abbrev gHv (E : gE) (kk : Nat → Nat) : Prop := ∀ (U : State) (H : Heap), E.2.2.2 U H → gZv E.2.2.1 kk U H
section GROW6
variable {p : Program} {l : Launch} {e : Env} {R : Room} {s : State} {m : MethodId} {args : Array Value} {below : List Frame} {meth : Method} {c : Code} {H : Heap} {locs : List Loc} {cells slots : Nat} {Q : State → Prop}
variable {cc : ByteArray} {pc nL : Nat} {ls : Array Slot} {rest st0 : List Value} {own : String} {E : gE} {ad : Nat → Nat} {N : Nat} {w : Nat → va_E} {kk0 : Nat → Nat}
theorem g_gets (S : gFix p m c cc nL s args own) (hS : va_S (gA E) s.heap H locs) {C n d : String} {v : Value} {index : Nat} (hZ : va_Z C n d v (gA E) s s.heap) (q1 : Cond.fieldLink own index C n d ∈ lw_all) (hdg : decode cc pc = .ok (.getstatic index, 3))
    (kk : W p l e R s m args below meth c H locs cells slots Q (F0 m (pc + 3) ls (v :: rest))) : W p l e R s m args below meth c H locs cells slots Q (F0 m pc ls rest) :=
  va_gets S.1 S.2.1 hZ hS S.2.2.2.1 (S.2.2.2.2 _ q1) (fun _ h => h) hdg kk
theorem g_getsN (S : gFix p m c cc nL s args own) (hI : gI E s s.heap) (hS : va_S (gA E) s.heap H locs) {C n d host : String} {v : Value} {index : Nat} (hZ : va_Z C n d v (gA E) s s.heap) (q1 : Cond.fieldLinkNest own index C n d host ∈ lw_nest) (hdg : decode cc pc = .ok (.getstatic index, 3))
    (kk : W p l e R s m args below meth c H locs cells slots Q (F0 m (pc + 3) ls (v :: rest))) : W p l e R s m args below meth c H locs cells slots Q (F0 m pc ls rest) :=
  va_getsN S.1 S.2.1 hZ hS S.2.2.2.1 (va_Nw.use rfl (hI.2.1 _ q1)) (fun _ h => h) hdg kk
theorem g_getc (S : gFix p m c cc nL s args own) (hS : va_S (gA E) s.heap H locs) {o n d ref : String} {v : Value} {index q : Nat} (hZ : va_OF o n d v q (gA E) s s.heap) (q1 : Cond.fieldLink own index ref n d ∈ lw_all) (href : o = ref) (hdg : decode cc pc = .ok (.getfield index, 3))
    (kk : W p l e R s m args below meth c H locs cells slots Q (F0 m (pc + 3) ls (v :: rest))) : W p l e R s m args below meth c H locs cells slots Q (F0 m pc ls (.ref q :: rest)) :=
  vk_getf S.1 S.2.1 hZ hS S.2.2.2.1 (S.2.2.2.2 _ q1) (fun _ h => by rw [← href]; exact h) hdg kk
theorem g_getcN (S : gFix p m c cc nL s args own) (hI : gI E s s.heap) (hS : va_S (gA E) s.heap H locs) {o n d host : String} {v : Value} {index q : Nat} (hZ : va_OF o n d v q (gA E) s s.heap) (q1 : Cond.fieldLinkNest own index o n d host ∈ lw_nest) (hdg : decode cc pc = .ok (.getfield index, 3))
    (kk : W p l e R s m args below meth c H locs cells slots Q (F0 m (pc + 3) ls (v :: rest))) : W p l e R s m args below meth c H locs cells slots Q (F0 m pc ls (.ref q :: rest)) := by
  obtain ⟨cf, k, fi, f, cell, h1, h2, h3, h4, h5, h6⟩ := hZ.kept hS.2.1
  exact va_Wgetf S.1 S.2.1 S.2.2.2.1 (va_Nw.use rfl (hI.2.1 _ q1)) h1 h2 h3 h4 (v := v) h5 rfl rfl hdg kk
/-- an element of a static row of ints -/
theorem g_sti (S : gFix p m c cc nL s args own) (hS : va_S (gA E) s.heap H locs) {t n : Nat} {f : Nat → Value} (hT : va_T .int t n f (gA E) s s.heap) (i : Nat) (hi : i < n) (hn : n < 2 ^ 31) (hdg : decode cc pc = .ok (.iaload, 1))
    (kk : W p l e R s m args below meth c H locs cells slots Q (F0 m (pc + 1) ls (f i :: rest))) : W p l e R s m args below meth c H locs cells slots Q (F0 m pc ls (.int (nI i) :: .ref t :: rest)) :=
  va_ti S.1 S.2.1 hT hS (vp_in_nI hi hn) (by rw [nI_clamp (Nat.lt_trans hi hn)]) hdg kk
theorem g_stb (S : gFix p m c cc nL s args own) (hS : va_S (gA E) s.heap H locs) {t n : Nat} {f : Nat → Value} (hT : va_T .byte t n f (gA E) s s.heap) (i : Nat) (hi : i < n) (hn : n < 2 ^ 31) (hdg : decode cc pc = .ok (.baload, 1))
    (kk : W p l e R s m args below meth c H locs cells slots Q (F0 m (pc + 1) ls (f i :: rest))) : W p l e R s m args below meth c H locs cells slots Q (F0 m pc ls (.int (nI i) :: .ref t :: rest)) :=
  va_tb S.1 S.2.1 hT hS (vp_in_nI hi hn) (by rw [nI_clamp (Nat.lt_trans hi hn)]) hdg kk
theorem g_sta (S : gFix p m c cc nL s args own) (hS : va_S (gA E) s.heap H locs) {C : String} {t n : Nat} {f : Nat → Value} (hT : va_T (.object C) t n f (gA E) s s.heap) (i : Nat) (hi : i < n) (hn : n < 2 ^ 31) (hdg : decode cc pc = .ok (.aaload, 1))
    (kk : W p l e R s m args below meth c H locs cells slots Q (F0 m (pc + 1) ls (f i :: rest))) : W p l e R s m args below meth c H locs cells slots Q (F0 m pc ls (.int (nI i) :: .ref t :: rest)) :=
  vb_tq S.1 S.2.1 hT hS (vp_in_nI hi hn) (by rw [nI_clamp (Nat.lt_trans hi hn)]) hdg kk
theorem g_stl (S : gFix p m c cc nL s args own) (hS : va_S (gA E) s.heap H locs) {ty : FieldType} {t n : Nat} {f : Nat → Value} (hT : va_T ty t n f (gA E) s s.heap) (hdg : decode cc pc = .ok (.arraylength, 1))
    (kk : W p l e R s m args below meth c H locs cells slots Q (F0 m (pc + 1) ls (.int (nI n) :: rest))) : W p l e R s m args below meth c H locs cells slots Q (F0 m pc ls (.ref t :: rest)) :=
  va_tlen S.1 S.2.1 hT hS rfl hdg kk
/-- a method of a constant -/
theorem g_preC {as : List Value} {C : String} {q : Nat} (hI : gI E s s.heap) (hP : gP E ad N w H) (hS : va_S (gA E) s.heap H locs) (hO : va_O C q (gA E) s s.heap) : PreV s H C q (gPc E ad N w (.ref q :: as)) as :=
  ⟨gPc_blind, va_Orecv hO hS, fun U hU hW => ⟨rfl, by rw [hU]; exact hI.go hS hW, by rw [hU]; exact hP⟩⟩
theorem g_runC (S : gFix p m c cc nL s args own) (hI : gI E s s.heap) (hP : gP E ad N w H) (hS : va_S (gA E) s.heap H locs) {y : MethodName} {bytes : ByteArray} {maxL index mc ms k : Nat} {ret : Option FieldType} {rm : Room} {C : String} {q : Nat} {As : List Value} {Qc : Array Value → State → Outcome → State → Prop} (hO : va_O C q (gA E) s s.heap)
    (hM : Met l y (lw_ws y bytes maxL ret) rm (gPc E ad N w (.ref q :: As)) Qc mc ms (gA E)) (q1 : Cond.methodLink own index y ∈ lw_all) (q2 : Cond.instanceMethod y ∈ lw_all) (q3 : Cond.selects C y y ∈ lw_all) (q4 : Cond.initialized C ∈ lw_all) (q5 : Cond.code y bytes maxL ret ∈ lw_all) (hrc : rm.cells = mc) (hrs : rm.slots = ms)
    (hd : y.cls = C ∧ y.cls ≠ "java/lang/invoke/MethodHandle" ∧ y.cls ≠ "java/lang/invoke/VarHandle" ∧ (parseMethodDescriptor y.desc).map (fun d => d.parameters.length) = some k) (hR : rm.frames + 1 ≤ R.frames ∧ 8 + (maxL + 11) + rm.locals ≤ R.locals)
    (hn : As.length = k) (hsize : ls.size = nL) (hst : st0 = As.reverse ++ .ref q :: rest) (hW : (rest.map fun v => v.category).sum ≤ 8) (hf : cells + mc ≤ R.cells ∧ slots + ms ≤ R.slots) (hdg : decode cc pc = .ok (.invokevirtual index, 3)) :
    va_Run p l e R s m args below meth c H locs cells slots mc ms (F0 m pc ls st0) rest (Qc (Value.ref q :: As).toArray) (gA E) :=
  va_runV (As := As) (rest := rest) S hM (g_cwV S q1 q2 q3 q4 q5 hrc hrs hd hR) (g_preC hI hP hS hO) rfl hn hsize hst (lv_room hW) hdg hf
/-- Enum.ordinal of a constant, by Verb's name -/
theorem g_runO (S : gFix p m c cc nL s args own) (hI : gI E s s.heap) (hP : gP E ad N w H) (hS : va_S (gA E) s.heap H locs) {x y : MethodName} {bytes : ByteArray} {maxL index mc ms k : Nat} {ret : Option FieldType} {rm : Room} {C owner : String} {q : Nat} {As : List Value} {Qc : Array Value → State → Outcome → State → Prop} (hO : va_O C q (gA E) s s.heap)
    (hM : Met l y (lw_ws y bytes maxL ret) rm (gPc E ad N w (.ref q :: As)) Qc mc ms (gA E)) (q1 : Cond.methodLink own index x ∈ lw_all) (q6 : Cond.sameMethod x.cls owner x.name x.desc ∈ lw_all) (q2 : Cond.instanceMethod y ∈ lw_all) (q3 : Cond.selects C x y ∈ lw_all) (q4 : Cond.initialized y.cls ∈ lw_all) (q5 : Cond.code y bytes maxL ret ∈ lw_all) (hrc : rm.cells = mc) (hrs : rm.slots = ms)
    (hyx : y = ⟨owner, x.name, x.desc⟩) (hd : owner ≠ "java/lang/invoke/MethodHandle" ∧ owner ≠ "java/lang/invoke/VarHandle" ∧ (parseMethodDescriptor x.desc).map (fun d => d.parameters.length) = some k) (hR : rm.frames + 1 ≤ R.frames ∧ 8 + (maxL + 11) + rm.locals ≤ R.locals)
    (hn : As.length = k) (hsize : ls.size = nL) (hst : st0 = As.reverse ++ .ref q :: rest) (hW : (rest.map fun v => v.category).sum ≤ 8) (hf : cells + mc ≤ R.cells ∧ slots + ms ≤ R.slots) (hdg : decode cc pc = .ok (.invokevirtual index, 3)) :
    va_Run p l e R s m args below meth c H locs cells slots mc ms (F0 m pc ls st0) rest (Qc (Value.ref q :: As).toArray) (gA E) :=
  va_runU (As := As) (rest := rest) S hM (va_cwU k S.2.2.2.2 (fun w hw => by
    rcases List.mem_append.mp hw with h | h
    · have hq : w ∈ lw_all := by
        simp only [List.mem_cons, List.not_mem_nil, or_false] at h
        rcases h with rfl | rfl | rfl | rfl | rfl <;> assumption
      exact ⟨hq, good_of_word (lw_good _ hq)⟩
    · exact lw_goodIn q5 w h) rfl hrc hrs hyx hd hR) (g_preC hI hP hS hO) rfl hn hsize hst (lv_room hW) hdg hf
/-- switches over naturals -/
theorem g_tabIn (S : gFix p m c cc nL s args own) {dflt lo hi : Int} {offs : Array Int} {len a : Nat} (ha : a < 2 ^ 31) {off : Int} {tgt : Nat} (hdg : decode cc pc = .ok (.tableswitch dflt lo hi offs, len)) (h1 : ¬ (a : Int) < lo) (h2 : ¬ hi < (a : Int)) (ho : offs[((a : Int) - lo).toNat]? = some off) (ht : (pc : Int) + off = (tgt : Int))
    (kk : W p l e R s m args below meth c H locs cells slots Q (F0 m tgt ls rest)) : W p l e R s m args below meth c H locs cells slots Q (F0 m pc ls (.int (nI a) :: rest)) :=
  lv_tableIn S.1 S.2.1 hdg (by rw [nI_toInt ha]; exact h1) (by rw [nI_toInt ha]; exact h2) (by rw [nI_toInt ha]; exact ho) ht kk
theorem g_tabOut (S : gFix p m c cc nL s args own) {dflt lo hi : Int} {offs : Array Int} {len a : Nat} (ha : a < 2 ^ 31) {tgt : Nat} (hdg : decode cc pc = .ok (.tableswitch dflt lo hi offs, len)) (h : (a : Int) < lo ∨ hi < (a : Int)) (ht : (pc : Int) + dflt = (tgt : Int))
    (kk : W p l e R s m args below meth c H locs cells slots Q (F0 m tgt ls rest)) : W p l e R s m args below meth c H locs cells slots Q (F0 m pc ls (.int (nI a) :: rest)) :=
  lv_tableOut S.1 S.2.1 hdg (by rw [nI_toInt ha]; exact h) ht kk
/-- Object's constructor -/
theorem g_oinit (S : gFix p m c cc nL s args own) (hsize : ls.size = nL) {idx a : Nat} (q1 : Cond.methodLink own idx Lib.objectInit ∈ lw_all) (q2 : Cond.instanceMethod Lib.objectInit ∈ lw_all) (q3 : Cond.code Lib.objectInit ⟨#[0xb1]⟩ 1 none ∈ lw_all) (hdg : decode cc pc = .ok (.invokespecial idx, 3)) (hf : 1 ≤ R.frames) (hl : (rest.map fun v => v.category).sum + 12 ≤ R.locals)
    (kk : W p l e R s m args below meth c H locs cells slots Q (F0 m (pc + 3) ls rest)) : W p l e R s m args below meth c H locs cells slots Q (F0 m pc ls (.ref a :: rest)) :=
  W.objInit S.1 S.2.1 S.2.2.2.1 (S.2.2.2.2 _ q1) (S.2.2.2.2 _ q2) (S.2.2.2.2 _ q3) rfl (hsize.trans S.2.2.1.symm) rfl hdg hf (by show 2 * 0 + _ + 12 ≤ _; omega) kk
end GROW6
