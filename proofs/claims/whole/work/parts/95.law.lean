/-! THE LAW's OWN METHODS: bodies with a table of handlers; rows of one long or one double -/
section GLAW
variable {p : Program} {l : Launch} {e : Env} {R : Room} {s : State} {m : MethodId} {args : Array Value} {below : List Frame} {meth : Method} {c : Code} {H : Heap} {locs : List Loc} {cells slots : Nat} {Q : State → Prop}
variable {cc : ByteArray} {pc nL : Nat} {ls : Array Slot} {rest st0 : List Value} {own : String} {E : gE} {ad : Nat → Nat} {N : Nat} {w : Nat → va_E}
abbrev lwH (y : MethodName) (c : ByteArray) (n : Nat) (r : Option FieldType) (hh : List (Nat × Nat × Nat × Nat)) : List Cond := .codeWith y c n r hh :: lw_all
theorem ofWH {y : MethodName} {ws ws' : List Cond} {rm : Room} {Pc : Array Value → State → Prop} {Qc : Array Value → State → Outcome → State → Prop} {mc ms : Nat} {free : Addr → Prop} {maxL : Nat} {ret : Option FieldType} {hh : List (Nat × Nat × Nat × Nat)}
    (hy : plainName y.cls = true) (hw : ws = Cond.codeWith y cc maxL ret hh :: ws')
    (body : ∀ p e s m args below meth c s₁, BodyLoose p l y (headSpec ws rm) cc maxL ret e s m args below meth c s₁ → c.maxLocals = maxL → Pc args s →
      W p l e (headSpec ws rm).room s m args below meth c s.heap [] 0 0 (MQ below Qc args s mc ms free) (entryFrame m args maxL)) : Met l y ws rm Pc Qc mc ms free := by
  refine MetFree.of_bodyS (code := cc) (maxLocals := maxL) (ret := ret) hy ?_ ?_
  · intro args s m h hn
    obtain ⟨m9, meth, c, hn9, h1, h2, h3, h4, -, h5, h6, -⟩ := Cond.codeWith_spec (atoms_spec (ws := ws) h _ (by rw [hw]; exact List.mem_cons_self))
    cases hn.symm.trans hn9
    exact ⟨meth, c, h1, h2, h3, h4, h5, h6⟩
  · intro p e s m args below meth c s₁ B hml hP _
    have hh0 : s₁.heap = s.heap := by rw [B.state]; rfl
    obtain ⟨t, a1, o, b1, b2, b3⟩ := body p e s m args below meth c s₁ B hml hP s₁ hh0 (Stand.of_body B)
    exact ⟨t, o, a1, b1, b2, ⟨b3.1, b3.2⟩⟩
theorem gPreH {y : MethodName} {rm : Room} {bytes : ByteArray} {maxL : Nat} {ret : Option FieldType} {hh : List (Nat × Nat × Nat × Nat)} {s1 : State} (B : BodyLoose p l y (headSpec (lwH y bytes maxL ret hh) rm) bytes maxL ret e s m args below meth c s1) (hml : c.maxLocals = maxL) {C n d : String} (hy : y = ⟨C, n, d⟩) : gFix p m c bytes maxL s args C ∧ meth.sig.returnType = ret ∧ meth.locks = false ∧ c.exceptionTable.toList = tableOf hh := by
  subst hy
  exact ⟨⟨B.exec, B.bytes, hml, findClass_of_methodNamed B.named, fun w h => atoms_spec (ws := lwH _ bytes maxL ret hh) B.pre w (List.mem_cons_of_mem _ h)⟩, B.returns, B.notSynchronized, vx_table (x := ⟨C, n, d⟩) B (atoms_spec (ws := lwH _ bytes maxL ret hh) B.pre _ List.mem_cons_self)⟩
theorem g_runSW (S : gFix p m c cc nL s args own) (hI : gI E s s.heap) (hP : gP E ad N w H) (hS : va_S (gA E) s.heap H locs) {y : MethodName} {bytes : ByteArray} {maxL index mc ms k : Nat} {ret : Option FieldType} {hh : List (Nat × Nat × Nat × Nat)} {rm : Room} {As : List Value} {Qc : Array Value → State → Outcome → State → Prop}
    (hM : Met l y (lwH y bytes maxL ret hh) rm (gPc E ad N w As) Qc mc ms (gA E)) (q1 : Cond.methodLink own index y ∈ lw_all) (q2 : Cond.static y ∈ lw_all) (q4 : Cond.initialized y.cls ∈ lw_all) (q5 : Cond.codeWith y bytes maxL ret hh ∈ lw_all) (hrc : rm.cells = mc) (hrs : rm.slots = ms)
    (hd : y.cls ≠ "java/lang/invoke/MethodHandle" ∧ y.cls ≠ "java/lang/invoke/VarHandle" ∧ (parseMethodDescriptor y.desc).map (fun d => d.parameters.length) = some k) (hR : rm.frames + 1 ≤ R.frames ∧ 8 + (maxL + 11) + rm.locals ≤ R.locals)
    (hn : As.length = k) (hsize : ls.size = nL) (hst : st0 = As.reverse ++ rest) (hW : (rest.map fun v => v.category).sum ≤ 8) (hf : cells + mc ≤ R.cells ∧ slots + ms ≤ R.slots) (hdg : decode cc pc = .ok (.invokestatic index, 3)) :
    va_Run p l e R s m args below meth c H locs cells slots mc ms (F0 m pc ls st0) rest (Qc As.toArray) (gA E) := by
  refine vx_runSW (As := As) (rest := rest) S hM (vx_cwSW (ws' := lw_all) k S.2.2.2.2 (fun w hw => ?_) rfl hrc hrs hd hR) (g_preS hI hP hS) rfl hn hsize hst (lv_room hW) hdg hf
  rcases List.mem_append.mp hw with h | h
  · have hq : w ∈ lw_all := by
      simp only [List.mem_cons, List.not_mem_nil, or_false] at h
      rcases h with rfl | rfl | rfl <;> assumption
    exact ⟨hq, good_of_word (lw_good _ hq)⟩
  · rcases List.mem_cons.mp h with e | h
    · subst e; exact ⟨q5, good_of_word (lw_good _ q5)⟩
    · exact ⟨h, good_of_word (lw_good _ h)⟩
/-- classes of which the first is no kind of the second -/
def gNl : List (String × String) := [("java/lang/IllegalArgumentException", "java/lang/IndexOutOfBoundsException"), ("java/lang/UnsupportedOperationException", "java/lang/IndexOutOfBoundsException"), ("java/lang/UnsupportedOperationException", "java/lang/IllegalArgumentException"), ("java/util/NoSuchElementException", "java/lang/IndexOutOfBoundsException")]
def gNc (U : State) : Prop := ∀ t ∈ gNl, va_Nc t.1 t.2 U
abbrev gHn (E : gE) : Prop := ∀ (U : State) (H : Heap), E.2.2.2 U H → gNc U
/-- the row of the table that takes it -/
theorem g_catch (S : gFix p m c cc nL s args own) (hI : gI E s s.heap) (hz : gHx E) {hh : List (Nat × Nat × Nat × Nat)} (ht : c.exceptionTable.toList = tableOf hh) (L : List ((Nat × Nat × Nat × Nat) × String)) (x : Nat × Nat × Nat × Nat) (suf : List (Nat × Nat × Nat × Nat)) (hs : hh = L.map (fun t => t.1) ++ x :: suf) {name E0 : String} {ce : Cell} {q : Addr}
    (hL : ∀ t ∈ L, t.1.2.2.2 ≠ 0 ∧ Cond.classLink own t.1.2.2.2 t.2 ∈ lw_all ∧ va_Nc E0 t.2 s) (h0 : x.2.2.2 ≠ 0) (hcov : x.1 ≤ pc ∧ pc < x.2.1) (hlink : Cond.classLink own x.2.2.2 name ∈ lw_all) (hcast : Cond.castable E0 name ∈ lw_oth)
    (hcell : H[q]? = some ce) (hv : ce.vm = .none) (hcl : s.vm.findClass E0 = some ce.cls)
    (kk : W p l e R s m args below meth c H locs cells slots Q (F0 m x.2.2.1 ls [.ref q])) : vx_W p l e R s m args below meth c H locs cells slots Q (F0 m pc ls rest) q := by
  refine vx_catch (own := own) (name := name) (E := E0) S.2.2.2.1 ((L.map (fun t => t.1)).map fun q => ⟨q.1, q.2.1, q.2.2.1, q.2.2.2⟩) ⟨x.1, x.2.1, x.2.2.1, x.2.2.2⟩ (suf.map fun q => ⟨q.1, q.2.1, q.2.2.1, q.2.2.2⟩) (by rw [ht, hs, tableOf, List.map_append, List.map_cons]) (fun z hz9 => ?_) ?_ h0 (S.2.2.2.2 _ hlink) ((hz s s.heap hI.2.2.2.2).2.2.2 _ hcast) hcell hv hcl kk
  · obtain ⟨y, hy, e⟩ := List.mem_map.mp hz9
    obtain ⟨t, ht9, e2⟩ := List.mem_map.mp hy
    obtain ⟨a1, a2, a3⟩ := hL t ht9
    subst e; subst e2
    exact Or.inr ⟨a1, t.2, S.2.2.2.2 _ a2, a3⟩
  · simp only [covers, decide_eq_true_eq, Bool.and_eq_true]; exact hcov
abbrev loE (E : gE) (f : Nat → Int64) : va_E := .inl (E.2.1 6, 1, .inr (.inl f))
abbrev doE (E : gE) (f : Nat → UInt64) : va_E := .inl (E.2.1 7, 1, .inr (.inr (.inr (.inl f))))
theorem g_last (S : gFix p m c cc nL s args own) (hI : gI E s s.heap) (hP : gP E ad N w H) (hS : va_S (gA E) s.heap H locs) {o : Nat} {f : Nat → Int64} (hq : o < N) (he : w o = loE E f) {x : Int64} (hdg : decode cc pc = .ok (.lastore, 1))
    (kk : ∀ (g : Nat → Int64) (H1 : Heap) (locs1 : List Loc), g 0 = x → gP E ad N (va_up w o (loE E g)) H1 → va_S (gA E) s.heap H1 locs1 → W p l e R s m args below meth c H1 locs1 cells slots Q (F0 m (pc + 1) ls rest)) : W p l e R s m args below meth c H locs cells slots Q (F0 m pc ls (.long x :: .int (nI 0) :: .ref (ad o) :: rest)) := by
  refine va_last (D := E.1) (cl := vwCl) (tys := gT E) (ws := gl ad N w) (A := gA E) S.1 S.2.1 hI.1 hP.1 hP.2 hS o 6 (by rw [gl_get hq, he]) rfl (show vp_in (nI 0) 1 from vp_in_nI (by decide) (by decide)) hdg (fun H1 locs1 a b c => ?_)
  rw [gl_set hq] at a b
  exact kk _ H1 locs1 (by rw [nI_clamp (by decide)]; simp [vp_updL]) ⟨a, b⟩ c
theorem g_dast (S : gFix p m c cc nL s args own) (hI : gI E s s.heap) (hP : gP E ad N w H) (hS : va_S (gA E) s.heap H locs) {o : Nat} {f : Nat → UInt64} (hq : o < N) (he : w o = doE E f) {x : UInt64} (hdg : decode cc pc = .ok (.dastore, 1))
    (kk : ∀ (g : Nat → UInt64) (H1 : Heap) (locs1 : List Loc), g 0 = x → gP E ad N (va_up w o (doE E g)) H1 → va_S (gA E) s.heap H1 locs1 → W p l e R s m args below meth c H1 locs1 cells slots Q (F0 m (pc + 1) ls rest)) : W p l e R s m args below meth c H locs cells slots Q (F0 m pc ls (.double x :: .int (nI 0) :: .ref (ad o) :: rest)) := by
  refine va_dast (D := E.1) (cl := vwCl) (tys := gT E) (ws := gl ad N w) (A := gA E) S.1 S.2.1 hI.1 hP.1 hP.2 hS o 7 (by rw [gl_get hq, he]) rfl (show vp_in (nI 0) 1 from vp_in_nI (by decide) (by decide)) hdg (fun H1 locs1 a b c => ?_)
  rw [gl_set hq] at a b
  exact kk _ H1 locs1 (by rw [nI_clamp (by decide)]; simp [vf_upd]) ⟨a, b⟩ c
theorem g_lald (S : gFix p m c cc nL s args own) (hI : gI E s s.heap) (hP : gP E ad N w H) {o : Nat} {f : Nat → Int64} (hq : o < N) (he : w o = loE E f) (hdg : decode cc pc = .ok (.laload, 1))
    (kk : W p l e R s m args below meth c H locs cells slots Q (F0 m (pc + 1) ls (.long (f 0) :: rest))) : W p l e R s m args below meth c H locs cells slots Q (F0 m pc ls (.int (nI 0) :: .ref (ad o) :: rest)) := by
  refine va_lald (D := E.1) (cl := vwCl) (tys := gT E) (ws := gl ad N w) S.1 S.2.1 hI.1 hP.1 o 6 (by rw [gl_get hq, he]) rfl (show vp_in (nI 0) 1 from vp_in_nI (by decide) (by decide)) hdg ?_
  rw [nI_clamp (by decide)]
  exact kk
theorem g_dald (S : gFix p m c cc nL s args own) (hI : gI E s s.heap) (hP : gP E ad N w H) {o : Nat} {f : Nat → UInt64} (hq : o < N) (he : w o = doE E f) (hdg : decode cc pc = .ok (.daload, 1))
    (kk : W p l e R s m args below meth c H locs cells slots Q (F0 m (pc + 1) ls (.double (f 0) :: rest))) : W p l e R s m args below meth c H locs cells slots Q (F0 m pc ls (.int (nI 0) :: .ref (ad o) :: rest)) := by
  refine va_dald (D := E.1) (cl := vwCl) (tys := gT E) (ws := gl ad N w) S.1 S.2.1 hI.1 hP.1 o 7 (by rw [gl_get hq, he]) rfl (show vp_in (nI 0) 1 from vp_in_nI (by decide) (by decide)) hdg ?_
  rw [nI_clamp (by decide)]
  exact kk
end GLAW
