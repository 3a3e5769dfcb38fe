/-! NoSuchElementException: its constructor's link lies at another place than the chain that the kit's row of a throw wants; so its throw is walked here, over the library's chain from RuntimeException on (in the steps of the library's Stand.ctorThrowS and of the kit's vx_throwS, less what they say of the fields) -/
abbrev gNS : String := "java/util/NoSuchElementException"
abbrev cNS : ByteArray := prog_49_method_4_code
theorem dNS_0 : decode cNS 0 = .ok (.aload_n 0, 1) := by decide +kernel
theorem dNS_1 : decode cNS 1 = .ok (.aload_n 1, 1) := by decide +kernel
theorem dNS_2 : decode cNS 2 = .ok (.invokespecial 13, 3) := by decide +kernel
theorem dNS_5 : decode cNS 5 = .ok (.return_, 1) := by decide +kernel
def gAtN (own : String) (ic : Nat) : List Cond :=
  Bundle.throwableAtoms ++ Bundle.throwableSAtoms ++ Bundle.passSAtoms gNS "java/lang/RuntimeException" 13 cNS ++ Bundle.chainSAtoms "java/lang/RuntimeException" ["java/lang/Exception"] ++
  [.methodLink own ic (Bundle.initS gNS), .instantiable gNS 6, .selects gNS Bundle.tFill0 Bundle.tFill0, .selects gNS Bundle.tFill Bundle.tFill,
   .lays gNS Bundle.tN "cause" "Ljava/lang/Throwable;", .lays gNS Bundle.tN "stackTrace" Bundle.steD, .lays gNS Bundle.tN "suppressedExceptions" Bundle.listD, .lays gNS Bundle.tN "detailMessage" "Ljava/lang/String;",
   .isRef (.static Bundle.tN "UNASSIGNED_STACK" Bundle.steD), .isRef (.static Bundle.tN "SUPPRESSED_SENTINEL" Bundle.listD),
   .fieldLink Bundle.tN 198 Bundle.tN "backtrace" "Ljava/lang/Object;", .lays Bundle.tN Bundle.tN "backtrace" "Ljava/lang/Object;", .lays gNS Bundle.tN "backtrace" "Ljava/lang/Object;"]
section NSEE
variable {p : Program} {l : Launch} {e : Env} {R : Room} {s : State} {m₀ : MethodId} {args : Array Value} {below : List Frame} {meth : Method} {c : Code} {W : State} {locs : List Loc} {cells slots : Nat}
set_option maxHeartbeats 4000000 in
set_option maxRecDepth 100000 in
theorem gx_ctorN (X : Stand p l e R s m₀ args below meth c W locs cells slots) (hexec : p.tables.exec = Jvm.exec) (htr : e.platform.stackTraces = false) {own : String} {ic : Nat}
    (hown : s.vm.findClass own = some m₀.cls) (h : ∀ a ∈ gAtN own ic, a.before args s = true)
    (hlocs : ∀ x ∈ locs, ∀ cell, s.heap[x.base]? = some cell → cell.vm.isStatics = false)
    {a : Addr} {cX : ClassId} {kX : Class} (hfoundX : s.vm.findClass gNS = some cX) (hkX : s.vm.classes[cX]? = some kX) (hcell : W.heap[a]? = some (freshCell cX kX)) (hnew : s.heap.size ≤ a)
    {msg : Value} (hmsg : msg.isRef = true)
    {g : JFrame} (hg : g.method = m₀) (hsize : g.locals.size = c.maxLocals) (hlocked : g.locked = none) (hentered : g.entered = []) {rest : List Value} (hstack : g.stack = msg :: .ref a :: .ref a :: rest)
    (hd6 : decode c.code g.pc = .ok (.invokespecial ic, 3)) (hd9 : decode c.code (g.pc + 3) = .ok (.athrow, 1)) (hout : ∀ x ∈ c.exceptionTable.toList, covers x (g.pc + 3) = false)
    (hRframes : 5 < R.frames) (hRlocals : 2 * g.monitorRoom + ((Value.ref a :: rest).map fun v => v.category).sum + 81 ≤ R.locals) (hlocks : meth.locks = false) :
    ∃ U : State, Steps p.tables e below (W.setTop g) U ∧ U.status = .running ∧ Ended U below (.threw a) ∧ s.WarmedH U.vm ∧ s.sameButNew ({ U with vm := s.vm } : State) locs cells slots ∧
      ∃ ce, U.heap[a]? = some ce ∧ s.vm.findClass gNS = some ce.cls ∧ ce.vm = .none := by
  have howns : e.platform.frameOwnsMonitors = true := by rw [X.admits.platform]
  have hfin : e.platform.finalization = false := by rw [X.admits.platform]
  have hpl : e.platform.magicAccessors = ({} : Platform).magicAccessors := by rw [X.admits.platform]
  have t1 : ∀ x ∈ Bundle.throwableAtoms, x.before args s = true := fun x hx => h x (by simp only [gAtN, List.mem_append]; exact Or.inl (Or.inl (Or.inl (Or.inl hx))))
  have t2 : ∀ x ∈ Bundle.throwableSAtoms, x.before args s = true := fun x hx => h x (by simp only [gAtN, List.mem_append]; exact Or.inl (Or.inl (Or.inl (Or.inr hx))))
  have t3 : ∀ x ∈ Bundle.passSAtoms gNS "java/lang/RuntimeException" 13 cNS, x.before args s = true := fun x hx => h x (by simp only [gAtN, List.mem_append]; exact Or.inl (Or.inl (Or.inr hx)))
  have t4 : ∀ x ∈ Bundle.chainSAtoms "java/lang/RuntimeException" ["java/lang/Exception"], x.before args s = true := fun x hx => h x (by simp only [gAtN, List.mem_append]; exact Or.inl (Or.inr hx))
  have t5 : ∀ x ∈ ([.methodLink own ic (Bundle.initS gNS), .instantiable gNS 6, .selects gNS Bundle.tFill0 Bundle.tFill0, .selects gNS Bundle.tFill Bundle.tFill,
   .lays gNS Bundle.tN "cause" "Ljava/lang/Throwable;", .lays gNS Bundle.tN "stackTrace" Bundle.steD, .lays gNS Bundle.tN "suppressedExceptions" Bundle.listD, .lays gNS Bundle.tN "detailMessage" "Ljava/lang/String;",
   .isRef (.static Bundle.tN "UNASSIGNED_STACK" Bundle.steD), .isRef (.static Bundle.tN "SUPPRESSED_SENTINEL" Bundle.listD),
   .fieldLink Bundle.tN 198 Bundle.tN "backtrace" "Ljava/lang/Object;", .lays Bundle.tN Bundle.tN "backtrace" "Ljava/lang/Object;", .lays gNS Bundle.tN "backtrace" "Ljava/lang/Object;"] : List Cond), x.holds args s none s [] = true := fun x hx => h x (by simp only [gAtN, List.mem_append]; exact Or.inr hx)
  obtain ⟨T, Z0, L, -, Y⟩ := ThrowableC.of_atoms (args := args) howns hfin hpl t1
  obtain ⟨Z, M, LZ, LM, hnZ⟩ := Init0T.ofS_atoms (args := args) hpl L Y t2
  obtain ⟨P2, Ps, hlen, L2, hL, hP2m, hlink2, hlink⟩ := Bundle.chainS (args := args) hpl hnZ ["java/lang/Exception"] "java/lang/RuntimeException" (by decide +kernel) (by decide +kernel) t4
  obtain ⟨P1, L1, hP1m, hP1s⟩ := PassC.ofS_atoms (args := args) (s := s) hpl (X := gNS) (Y := "java/lang/RuntimeException") (by decide +kernel) (by decide +kernel) dNS_0 dNS_1 dNS_2 dNS_5 t3
  have hlink1 : P1.sup = P2.m := Option.some.inj (hP1s.symm.trans hP2m)
  have hfound : s.vm.findClass gNS = some P1.m.cls := findClass_of_methodNamed hP1m
  cases Option.some.inj (hfoundX.symm.trans hfound)
  obtain ⟨c1, kX', hc1, hk, hord, -, -, hn6⟩ := Cond.instantiable_spec (t5 (.instantiable gNS 6) (by simp))
  cases Option.some.inj (hc1.symm.trans hfound)
  cases Option.some.inj (hkX.symm.trans hk)
  have hsel0 : selectMethod e.platform s.vm P1.m.cls T.fill0 = .method T.fill0 := by
    obtain ⟨c2, r2, m2, q1, q2, q3, q4, -⟩ := Cond.selects_spec (t5 (.selects gNS Bundle.tFill0 Bundle.tFill0) (by simp))
    cases Option.some.inj (q1.symm.trans hfound)
    cases Option.some.inj (q2.symm.trans (State.methodFound?_of_named Y.fill0 (by decide)))
    cases Option.some.inj (q3.symm.trans Y.fill0)
    rw [Launch.admits_selectMethod X.admits]; exact q4
  have hselF : selectMethod e.platform s.vm P1.m.cls T.fill = .method T.fill := by
    obtain ⟨c2, r2, m2, q1, q2, q3, q4, -⟩ := Cond.selects_spec (t5 (.selects gNS Bundle.tFill Bundle.tFill) (by simp))
    cases Option.some.inj (q1.symm.trans hfound)
    cases Option.some.inj (q2.symm.trans (State.methodFound?_of_named Y.fill (by decide)))
    cases Option.some.inj (q3.symm.trans Y.fill)
    rw [Launch.admits_selectMethod X.admits]; exact q4
  obtain ⟨cellS0, hcS0, hiss⟩ := Y.statics
  obtain ⟨u0, hu0⟩ := Cond.staticRefV Y.unassigned L.unassignedStatic L.statics hcS0 hiss (t5 (.isRef (.static Bundle.tN "UNASSIGNED_STACK" Bundle.steD)) (by simp))
  obtain ⟨sen, hsen⟩ := Cond.staticRefV Y.sentinel L.sentinelStatic L.statics hcS0 hiss (t5 (.isRef (.static Bundle.tN "SUPPRESSED_SENTINEL" Bundle.listD)) (by simp))
  obtain ⟨ci198, i198, fB, hk198, hg198, ha198, hsB, -, hnB, htB, hffB⟩ := Cond.ownField (t := .object "java/lang/Object") Y.found L.cls (by decide +kernel) (t5 (.fieldLink Bundle.tN 198 Bundle.tN "backtrace" "Ljava/lang/Object;") (by simp)) (t5 (.lays Bundle.tN Bundle.tN "backtrace" "Ljava/lang/Object;") (by simp)) e.platform hpl
  obtain ⟨cellS, hcS', heS, -, hkeep⟩ := X.same.2.2.2.2.2 T.aS cellS0 hcS0
  have hcellS : W.heap[T.aS]? = some cellS := hcS'
  have hout' : ∀ i, (⟨T.aS, i⟩ : Loc) ∉ locs := fun i hmem => by
    have := hlocs _ hmem cellS0 hcS0
    rw [hiss] at this; cases this
  have hknownS : cellS.vm ≠ .unknown := by
    rw [heS]; intro hu
    rw [show cellS0.vm = .unknown from hu] at hiss
    cases hiss
  have hneS : T.aS ≠ a := Nat.ne_of_lt (Nat.lt_of_lt_of_le (Array.getElem?_eq_some_iff.mp hcS0).1 hnew)
  obtain ⟨iM, hffM⟩ := Y.msg
  obtain ⟨tyC, dC, hdC, hdnC⟩ := Cond.laysAt hfound hk Y.cause (t5 (.lays gNS Bundle.tN "cause" "Ljava/lang/Throwable;") (by simp))
  obtain ⟨tyS, dS, hdS, hdnS⟩ := Cond.laysAt hfound hk Y.stack (t5 (.lays gNS Bundle.tN "stackTrace" Bundle.steD) (by simp))
  obtain ⟨tyP, dP, hdP, hdnP⟩ := Cond.laysAt hfound hk Y.supp (t5 (.lays gNS Bundle.tN "suppressedExceptions" Bundle.listD) (by simp))
  obtain ⟨tyM, dM, hdM, hdnM⟩ := Cond.laysAt hfound hk hffM (t5 (.lays gNS Bundle.tN "detailMessage" "Ljava/lang/String;") (by simp))
  obtain ⟨tyB, dB, hdB, hdnB⟩ := Cond.laysAt hfound hk hffB (t5 (.lays gNS Bundle.tN "backtrace" "Ljava/lang/Object;") (by simp))
  have bC := Cond.laysApart hdB hdC hdnB hdnC (by rw [hnB, Y.causeName]; decide)
  have bS := Cond.laysApart hdB hdS hdnB hdnS (by rw [hnB, Y.stackName]; decide)
  have bP := Cond.laysApart hdB hdP hdnB hdnP (by rw [hnB, Y.suppName]; decide)
  have hskip : SkipFacts T e.platform s (fun u => u) u0 ((preparedCellV T.toThrowableT (freshCell P1.m.cls kX) a u0 sen).withEntry W.cur) :=
    ⟨{ ci198 := ci198, i198 := i198, fBack := fB }, ⟨hk198, hg198, ha198, hsB⟩, by
      have := fresh_default (c := P1.m.cls) tyB
      rw [htB] at this
      simpa [preparedCellV, Cell.setSlot, Cell.withEntry, Array.getElem?_setIfInBounds, bC, bS, bP, bC.symm, bS.symm, bP.symm, defaultValue] using this, fun _ _ => rfl⟩
  obtain ⟨tm, methC, cdC, kC, vm₁, hnC, -, -, -, -, -, -, -, hW₁, st1⟩ := Steps.initColdS (tb := p.tables) (e := e) (below := below) (s := s) (U := W) X.here hexec X.warmed hpl hown (t := Bundle.initS gNS) rfl rfl (by decide +kernel)
    (t5 (.methodLink own ic (Bundle.initS gNS)) (by simp)) (t3 (.instanceMethod (Bundle.initS gNS)) (by simp [Bundle.passSAtoms])) (bytes := cNS) (maxL := 2) (t3 (.code (Bundle.initS gNS) cNS 2 none) (by simp [Bundle.passSAtoms]))
    (f := g) hg (a := a) (msg := msg) (rest := .ref a :: rest) hstack hd6
  cases Option.some.inj (hnC.symm.trans hP1m)
  have X₁ := X.noted hW₁
  obtain ⟨vm₂, X₂, st2⟩ := X₁.ctorMessageOffV hexec (g := { g with stack := .ref a :: rest }) hg hsize T L Z LZ M LM (P1 :: P2 :: Ps)
    (fun P hP => by
      rcases List.mem_cons.mp hP with rfl | hP
      · exact L1
      · rcases List.mem_cons.mp hP with rfl | hP
        · exact L2
        · exact hL P hP) ⟨hlink1, hlink2, hlink⟩ (u0 := u0) (sen := sen) (self := a) hmsg (cell := freshCell P1.m.cls kX) (cellS := cellS)
    hcell (fun _ => by simp) (by simp) rfl rfl hsel0 hselF hcellS hneS hknownS (by rw [hkeep _ (hout' _)]; exact hu0) (by rw [hkeep _ (hout' _)]; exact hsen)
    (Takes.of_laid hk hord tyC (by rw [Y.causeType]; rfl)) (Takes.of_laid hk hord tyS (by rw [Y.stackType]; exact fits_refV_array _ u0)) (Takes.of_laid hk hord tyP (by rw [Y.suppType]; exact fits_refV_object _ sen))
    (Takes.of_laid hk hord tyM (by rw [Y.msgType]; exact fits_refV_object _ ⟨msg, hmsg⟩)) Y.objLocals hskip htr [] hd6
    (by simp only [List.length_cons, hlen, List.length_nil]; omega) (by simp only [List.length_cons, hlen, List.length_nil]; exact hRlocals)
  obtain ⟨hwalk, hrun, hended, hWU, hsame⟩ := X₂.athrowLeaves hexec (g := { g with stack := .ref a :: rest, pc := g.pc + 3 }) hg hlocked hentered hout (a := a) (rest := rest) rfl hd9 hlocks
  have hlt : a < ((W.setVm vm₁).setVm vm₂).heap.size := (Array.getElem?_eq_some_iff.mp hcell).1
  have hU := heapAt_setCell_self (s := (W.setVm vm₁).setVm vm₂) (plainBareV T.toThrowableT (freshCell P1.m.cls kX) a u0 sen msg) hlt
  refine ⟨_, st1 _ (fun acts => ?_), hrun, hended, hWU, hsame.weaken (fun y hy hlt' => ?_) (Nat.le_refl _) (Nat.le_refl _), _, hU, hfound, rfl⟩
  · rw [doInvoke_state]
    exact st2 _ hwalk
  · rcases List.mem_append.mp hy with h1 | h1
    · exact h1
    · exfalso
      have hb : y.base = a := by
        simp only [List.mem_cons, List.not_mem_nil, or_false] at h1
        rcases h1 with rfl | rfl | rfl | rfl | rfl <;> rfl
      rw [hb] at hlt'
      exact Nat.not_lt.mpr hnew hlt'
end NSEE
section NSEE2
variable {p : Program} {l : Launch} {e : Env} {R : Room} {s : State} {m : MethodId} {args : Array Value} {below : List Frame} {meth : Method} {c : Code} {H : Heap} {locs : List Loc} {cells slots : Nat} {Q : State → Prop}
variable {cc : ByteArray} {pc nL : Nat} {ls : Array Slot} {rest st0 : List Value} {own : String} {E : gE} {ad : Nat → Nat} {N : Nat} {w : Nat → va_E}
set_option maxHeartbeats 4000000 in
set_option maxRecDepth 100000 in
theorem g_throwN (S : gFix p m c cc nL s args own) (hI : gI E s s.heap) (hP : gP E ad N w H) (hS : va_S (gA E) s.heap H locs) (hsize : ls.size = nL) (htab : ∀ x ∈ c.exceptionTable.toList, False) (hlocks : meth.locks = false) (hlt : l.stackTraces = false) (hz : gHx E) {text : String} {ik is ic mc ms : Nat} {Qc : Array Value → State → Outcome → State → Prop} {px : String → (Nat → va_E) → Prop}
    (q1 : Cond.classLink own ik gNS ∈ lw_all) (q2 : Cond.initialized gNS ∈ lw_all) (htx : (own, is, text) ∈ gTx) (hg : ∀ w ∈ (gAtN own ic).filter vx_no, w ∈ lw_all ∨ w ∈ lw_oth)
    (d0 : decode cc pc = .ok (.new ik, 3)) (d3 : decode cc (pc + 3) = .ok (.dup, 1)) (d4 : decode cc (pc + 4) = .ok (.ldc is, 2)) (d6 : decode cc (pc + 6) = .ok (.invokespecial ic, 3)) (d9 : decode cc (pc + 9) = .ok (.athrow, 1))
    (hRf : 5 < R.frames) (hRl : (rest.map fun v => v.category).sum + 82 ≤ R.locals) (hRc : cells + 1 ≤ R.cells) (hRs : slots + 6 ≤ R.slots) (hmc : cells + 1 ≤ mc) (hms : slots + 6 ≤ ms) (hpx : px gNS w) :
    W p l e R s m args below meth c H locs cells slots (vx_MQ below Qc (gXC E ad N px) args s mc ms (gA E)) (F0 m pc ls rest) := by
  obtain ⟨z1, z2, z3, z4⟩ := hz s s.heap hI.2.2.2.2
  obtain ⟨sa, hsa⟩ := z3 _ htx
  intro T hT X
  have htr : e.platform.stackTraces = false := (show e.platform.stackTraces = l.stackTraces by rw [X.admits.platform]).trans hlt
  have Y := vx_rebase X (R' := { frames := R.frames, locals := R.locals, cells := 1, slots := 6 }) (Nat.le_refl _) (Nat.le_refl _) hRc hRs
  obtain ⟨s', hA⟩ : ∃ z, z = (T.setVm s.vm).setFrames (.invoking m args :: below) := ⟨_, rfl⟩
  rw [← hA] at Y
  have hvm : s'.vm = s.vm := by rw [hA]; rfl
  have hhp : s'.heap = H := by rw [hA]; exact hT
  have hW0 : s.WarmedH s'.vm := by rw [hvm]; exact State.WarmedH.refl s
  have hat' : ∀ w ∈ (gAtN own ic).filter vx_no, w.before args s' = true := fun w hw => by
    rcases hg w hw with r | r
    · exact vx_ot_at hW0 hvm.symm (by show (w.onTables || goodWord w) = true; rw [lw_good w r, Bool.or_true]) (S.2.2.2.2 w r)
    · exact va_Nw.use (lw_oth_tab r) (va_Nw.same (lw_oth_tab r) hvm.symm (z4 w r))
  have hk' : (Cond.classLink own ik gNS).before args s' = true := vx_ot_at hW0 hvm.symm (by show (Cond.onTables _ || goodWord _) = true; rw [lw_good _ q1, Bool.or_true]) (S.2.2.2.2 _ q1)
  have hini' : (Cond.initialized gNS).before args s' = true := vx_ot_at hW0 hvm.symm (by show (Cond.onTables _ || goodWord _) = true; rw [lw_good _ q2, Bool.or_true]) (S.2.2.2.2 _ q2)
  have hU' : vx_Zq Bundle.tN "UNASSIGNED_STACK" Bundle.steD (gA E) s' s'.heap := by rw [hhp]; exact vx_Zq.moved hW0.alike (z1.kept hS.2.1)
  have hN' : vx_Zq Bundle.tN "SUPPRESSED_SENTINEL" Bundle.listD (gA E) s' s'.heap := by rw [hhp]; exact vx_Zq.moved hW0.alike (z2.kept hS.2.1)
  have h : ∀ w ∈ gAtN own ic, w.before args s' = true := vx_own hat' (vx_isRefq hU'.1) (vx_isRefq hN'.1) hU'.2.word hN'.2.word
  have hown' : s'.vm.findClass own = some m.cls := by rw [hvm]; exact S.2.2.2.1
  have hins : (Cond.instantiable gNS 6).before args s' = true := h _ (by simp [gAtN])
  obtain ⟨vm₁, cX, kX, hfX, hkX, -, -, X₁, st1⟩ := Y.newCold S.1 (own := own) (C := gNS) (index := ik) (n := 6) hown' hk' hins hini'
    (g := F0 m pc ls rest) rfl (by rw [S.2.1]; exact d0) (Nat.le_refl _) (Nat.le_refl _)
  generalize hT1 : (T.setVm vm₁).pushCell { cls := cX, slots := kX.instanceTypes.map defaultValue, vm := .none } = T1 at X₁ st1
  have hcat : (Value.ref T.heap.size).category = 1 := rfl
  have hcellA : T1.heap[T.heap.size]? = some (freshCell cX kX) := by rw [← hT1]; exact State.heap_pushCell_size _ _
  have d3' : decode c.code (pc + 3) = .ok (.dup, 1) := by rw [S.2.1]; exact d3
  have d4' : decode c.code (pc + 4) = .ok (.ldc is, 2) := by rw [S.2.1]; exact d4
  have hstr' : vk_R own is text sa s' := vk_R.warm hW0 hsa
  have hexec := S.1
  obtain ⟨U, hsteps, hrun, hend, hW, hsame, ce, hce, hcls, hcvm⟩ := gx_ctorN X₁ S.1 htr (own := own) (ic := ic) hown' h (fun x hx => nomatch hx) hfX hkX hcellA (by rw [hhp, hT]; exact Nat.le_refl _) (msg := .ref sa) rfl
    (g := { method := m, pc := pc + 6, locals := ls, stack := .ref sa :: .ref T.heap.size :: .ref T.heap.size :: rest, locked := none }) rfl (hsize.trans S.2.2.1.symm) rfl rfl (rest := rest) rfl
    (by rw [S.2.1]; exact d6) (by rw [S.2.1]; exact d9) (fun x hx => (htab x hx).elim) hRf (by simp only [List.map_cons, List.sum_cons, hcat]; show 2 * 0 + _ + 81 ≤ _; omega) hlocks
  obtain ⟨f1, f2⟩ := vx_frame hsame
  rw [hhp] at f1 f2
  have hkp : ∀ q : Nat, q < H.size → U.heap[q]? = H[q]? := fun q hq => f2 q hq (fun z hz => nomatch hz)
  have hWs : s.WarmedH U.vm := State.WarmedH.trans hW0 hW
  have hcl : s.vm.findClass gNS = some ce.cls := by
    rw [hvm] at hcls
    exact hcls
  have hall : s.sameButNew ({ U with vm := s.vm } : State) locs mc ms := by
    subst hA
    obtain ⟨e1, e2⟩ := hsame
    rw [State.setFrames_setFrames] at e1
    have h2 : (T.setVm s.vm).sameButNew ({ U with vm := s.vm } : State) [] (0 + 1) (0 + 6) := ⟨e1, e2⟩
    have h3 := X.same.trans h2
    rw [List.append_nil] at h3
    exact h3.mono hmc hms
  have hxc : gXC E ad N px gNS s U := ⟨(gNS, w), hpx, ⟨rfl, hP.kept hkp⟩, Nat.le_trans hS.1 f1, fun q hq hn => by
    rw [hkp q (Nat.lt_of_lt_of_le hq hS.1)]
    exact hS.2.1 q hq hn⟩
  refine ⟨U, ?_, .threw T.heap.size, hrun, hend, Or.inr ⟨T.heap.size, rfl, gNS, ce, locs, hxc, hce, hcvm, hcl, hWs, hall, hS.2.2⟩⟩
  refine st1 _ ?_
  show Steps p.tables e below (T1.setTop { method := m, pc := pc + 3, locals := ls, stack := .ref T.heap.size :: rest, locked := none }) _
  jvm_step X₁.here [X₁.here.top, hexec, d3', Value.category]
  exact X₁.ldcString S.1 (own := own) (text := text) (index := is) (a := sa) hown' hstr'.1 hstr'.2
    (g := { method := m, pc := pc + 4, locals := ls, stack := .ref T.heap.size :: .ref T.heap.size :: rest, locked := none }) rfl d4' _ hsteps
set_option maxHeartbeats 4000000 in
set_option maxRecDepth 100000 in
theorem g_throwNW (S : gFix p m c cc nL s args own) (hI : gI E s s.heap) (hP : gP E ad N w H) (hS : va_S (gA E) s.heap H locs) (hsize : ls.size = nL) (htab : ∀ x ∈ c.exceptionTable.toList, False) (hlocks : meth.locks = false) (hlt : l.stackTraces = false) (hz : gHx E) {text : String} {ik is ic mc ms : Nat} {Qc : Array Value → State → Outcome → State → Prop} {px : String → (Nat → va_E) → Prop}
    (q1 : Cond.classLink own ik gNS ∈ lw_all) (q2 : Cond.initialized gNS ∈ lw_all) (htx : (own, is, text) ∈ gTx) (hg : ∀ w ∈ (gAtN own ic).filter vx_no, w ∈ lw_all ∨ w ∈ lw_oth)
    (d0 : decode cc pc = .ok (.new ik, 3)) (d3 : decode cc (pc + 3) = .ok (.dup, 1)) (d4 : decode cc (pc + 4) = .ok (.ldc_w is, 3)) (d6 : decode cc (pc + 7) = .ok (.invokespecial ic, 3)) (d9 : decode cc (pc + 10) = .ok (.athrow, 1))
    (hRf : 5 < R.frames) (hRl : (rest.map fun v => v.category).sum + 82 ≤ R.locals) (hRc : cells + 1 ≤ R.cells) (hRs : slots + 6 ≤ R.slots) (hmc : cells + 1 ≤ mc) (hms : slots + 6 ≤ ms) (hpx : px gNS w) :
    W p l e R s m args below meth c H locs cells slots (vx_MQ below Qc (gXC E ad N px) args s mc ms (gA E)) (F0 m pc ls rest) := by
  obtain ⟨z1, z2, z3, z4⟩ := hz s s.heap hI.2.2.2.2
  obtain ⟨sa, hsa⟩ := z3 _ htx
  intro T hT X
  have htr : e.platform.stackTraces = false := (show e.platform.stackTraces = l.stackTraces by rw [X.admits.platform]).trans hlt
  have Y := vx_rebase X (R' := { frames := R.frames, locals := R.locals, cells := 1, slots := 6 }) (Nat.le_refl _) (Nat.le_refl _) hRc hRs
  obtain ⟨s', hA⟩ : ∃ z, z = (T.setVm s.vm).setFrames (.invoking m args :: below) := ⟨_, rfl⟩
  rw [← hA] at Y
  have hvm : s'.vm = s.vm := by rw [hA]; rfl
  have hhp : s'.heap = H := by rw [hA]; exact hT
  have hW0 : s.WarmedH s'.vm := by rw [hvm]; exact State.WarmedH.refl s
  have hat' : ∀ w ∈ (gAtN own ic).filter vx_no, w.before args s' = true := fun w hw => by
    rcases hg w hw with r | r
    · exact vx_ot_at hW0 hvm.symm (by show (w.onTables || goodWord w) = true; rw [lw_good w r, Bool.or_true]) (S.2.2.2.2 w r)
    · exact va_Nw.use (lw_oth_tab r) (va_Nw.same (lw_oth_tab r) hvm.symm (z4 w r))
  have hk' : (Cond.classLink own ik gNS).before args s' = true := vx_ot_at hW0 hvm.symm (by show (Cond.onTables _ || goodWord _) = true; rw [lw_good _ q1, Bool.or_true]) (S.2.2.2.2 _ q1)
  have hini' : (Cond.initialized gNS).before args s' = true := vx_ot_at hW0 hvm.symm (by show (Cond.onTables _ || goodWord _) = true; rw [lw_good _ q2, Bool.or_true]) (S.2.2.2.2 _ q2)
  have hU' : vx_Zq Bundle.tN "UNASSIGNED_STACK" Bundle.steD (gA E) s' s'.heap := by rw [hhp]; exact vx_Zq.moved hW0.alike (z1.kept hS.2.1)
  have hN' : vx_Zq Bundle.tN "SUPPRESSED_SENTINEL" Bundle.listD (gA E) s' s'.heap := by rw [hhp]; exact vx_Zq.moved hW0.alike (z2.kept hS.2.1)
  have h : ∀ w ∈ gAtN own ic, w.before args s' = true := vx_own hat' (vx_isRefq hU'.1) (vx_isRefq hN'.1) hU'.2.word hN'.2.word
  have hown' : s'.vm.findClass own = some m.cls := by rw [hvm]; exact S.2.2.2.1
  have hins : (Cond.instantiable gNS 6).before args s' = true := h _ (by simp [gAtN])
  obtain ⟨vm₁, cX, kX, hfX, hkX, -, -, X₁, st1⟩ := Y.newCold S.1 (own := own) (C := gNS) (index := ik) (n := 6) hown' hk' hins hini'
    (g := F0 m pc ls rest) rfl (by rw [S.2.1]; exact d0) (Nat.le_refl _) (Nat.le_refl _)
  generalize hT1 : (T.setVm vm₁).pushCell { cls := cX, slots := kX.instanceTypes.map defaultValue, vm := .none } = T1 at X₁ st1
  have hcat : (Value.ref T.heap.size).category = 1 := rfl
  have hcellA : T1.heap[T.heap.size]? = some (freshCell cX kX) := by rw [← hT1]; exact State.heap_pushCell_size _ _
  have d3' : decode c.code (pc + 3) = .ok (.dup, 1) := by rw [S.2.1]; exact d3
  have d4' : decode c.code (pc + 4) = .ok (.ldc_w is, 3) := by rw [S.2.1]; exact d4
  have hstr' : vk_R own is text sa s' := vk_R.warm hW0 hsa
  have hexec := S.1
  obtain ⟨U, hsteps, hrun, hend, hW, hsame, ce, hce, hcls, hcvm⟩ := gx_ctorN X₁ S.1 htr (own := own) (ic := ic) hown' h (fun x hx => nomatch hx) hfX hkX hcellA (by rw [hhp, hT]; exact Nat.le_refl _) (msg := .ref sa) rfl
    (g := { method := m, pc := pc + 7, locals := ls, stack := .ref sa :: .ref T.heap.size :: .ref T.heap.size :: rest, locked := none }) rfl (hsize.trans S.2.2.1.symm) rfl rfl (rest := rest) rfl
    (by rw [S.2.1]; exact d6) (by rw [S.2.1]; exact d9) (fun x hx => (htab x hx).elim) hRf (by simp only [List.map_cons, List.sum_cons, hcat]; show 2 * 0 + _ + 81 ≤ _; omega) hlocks
  obtain ⟨f1, f2⟩ := vx_frame hsame
  rw [hhp] at f1 f2
  have hkp : ∀ q : Nat, q < H.size → U.heap[q]? = H[q]? := fun q hq => f2 q hq (fun z hz => nomatch hz)
  have hWs : s.WarmedH U.vm := State.WarmedH.trans hW0 hW
  have hcl : s.vm.findClass gNS = some ce.cls := by
    rw [hvm] at hcls
    exact hcls
  have hall : s.sameButNew ({ U with vm := s.vm } : State) locs mc ms := by
    subst hA
    obtain ⟨e1, e2⟩ := hsame
    rw [State.setFrames_setFrames] at e1
    have h2 : (T.setVm s.vm).sameButNew ({ U with vm := s.vm } : State) [] (0 + 1) (0 + 6) := ⟨e1, e2⟩
    have h3 := X.same.trans h2
    rw [List.append_nil] at h3
    exact h3.mono hmc hms
  have hxc : gXC E ad N px gNS s U := ⟨(gNS, w), hpx, ⟨rfl, hP.kept hkp⟩, Nat.le_trans hS.1 f1, fun q hq hn => by
    rw [hkp q (Nat.lt_of_lt_of_le hq hS.1)]
    exact hS.2.1 q hq hn⟩
  refine ⟨U, ?_, .threw T.heap.size, hrun, hend, Or.inr ⟨T.heap.size, rfl, gNS, ce, locs, hxc, hce, hcvm, hcl, hWs, hall, hS.2.2⟩⟩
  refine st1 _ ?_
  show Steps p.tables e below (T1.setTop { method := m, pc := pc + 3, locals := ls, stack := .ref T.heap.size :: rest, locked := none }) _
  jvm_step X₁.here [X₁.here.top, hexec, d3', Value.category]
  exact X₁.ldcStringW S.1 (own := own) (text := text) (index := is) (a := sa) hown' hstr'.1 hstr'.2
    (g := { method := m, pc := pc + 4, locals := ls, stack := .ref T.heap.size :: .ref T.heap.size :: rest, locked := none }) rfl d4' _ hsteps
end NSEE2
theorem tn_221 : ∀ w ∈ (gAtN RX12 221).filter vx_no, w ∈ lw_all ∨ w ∈ lw_oth := lw_pick [105, 543, 552, 560, 563, 565, 544, 545, 129, 130, 546, 551, 561, 581, 533, 582, 535, 583, 537, 547, 549, 539, 577, 578, 580, 539, 903, 904, 905, 571, 525, 571, 572, 573, 574, 527, 574, 575, 576, 577, 529, 902, 893, 895, 559, 896, 897, 898, 899, 542, 541, 900] (by decide +kernel) (by decide +kernel)
