/-! THE START: the two words behind the tables -/
theorem sup_sel {C : String} {x0 y0 y : MethodName} {s : State} {args : Array Value} (h0 : (Cond.selects C x0 y0).before args s = true) (hcl : y0.cls = y.cls) (hy : y.cls ≠ "java/lang/invoke/MethodHandle" ∧ y.cls ≠ "java/lang/invoke/VarHandle")
    (hpriv : (Cond.privateMethod y).before args s = true) (hinst : (Cond.instanceMethod y).before args s = true) : (Cond.selects C y y).before args s = true := by
  obtain ⟨c, r, m0, hc, hr, hm0, hsel0, k, hk, hki⟩ := Cond.selects_spec (args := args) (first := s) (o := none) (s := s) (idx := []) h0
  obtain ⟨mk, methM, hnamed, hmethM, -, -⟩ := Cond.instanceMethod_spec hinst
  have hfound : s.methodFound? y.cls y.name y.desc = some mk := State.methodFound?_of_named hnamed hy
  have hcls : mk.cls = m0.cls := by
    have e1 := findClass_of_methodNamed hnamed
    have e2 := findClass_of_methodNamed hm0
    rw [hcl] at e2
    exact Option.some.inj (e1.symm.trans e2)
  have hsel : selectMethod {} s.vm c mk = .method mk := selectMethod_private hmethM (Cond.privateMethod_at hpriv mk methM hnamed hmethM)
  simp only [Cond.before, Cond.holds, Cond.value, hc, hfound, hnamed, hsel, hcls, hk]
  simp; exact hki
theorem lw_sup_ok {s : State} {args : Array Value} (hts : ∀ w ∈ tables_1, w.before args s = true) : ∀ w ∈ lw_sup, w.before args s = true := by
  have h0 : (Cond.selects "java/lang/StringBuilder" ⟨"java/lang/AbstractStringBuilder", "isLatin1", "()Z"⟩ ⟨"java/lang/AbstractStringBuilder", "isLatin1", "()Z"⟩).before args s = true := hts _ (List.mem_of_getElem? (i := 1422) (by decide +kernel))
  intro w hw
  rcases List.mem_cons.mp hw with rfl | hw
  · exact sup_sel h0 rfl ⟨by decide +kernel, by decide +kernel⟩ (hts _ (List.mem_of_getElem? (i := 1400) (by decide +kernel))) (hts _ (List.mem_of_getElem? (i := 1401) (by decide +kernel)))
  · rcases List.mem_cons.mp hw with rfl | hw
    · exact sup_sel h0 rfl ⟨by decide +kernel, by decide +kernel⟩ (hts _ (List.mem_of_getElem? (i := 1404) (by decide +kernel))) (hts _ (List.mem_of_getElem? (i := 1405) (by decide +kernel)))
    · exact absurd hw List.not_mem_nil
/-- all words of the tables here -/
theorem lw_tbl_ok {s : State} {args : Array Value} (hts0 : ∀ w ∈ tables_1, w.before args s = true) : ∀ w ∈ lw_tbl, w.before args s = true := by
  intro w hw
  rcases List.mem_append.mp hw with h | h
  · exact k2_hts_sels lw_privs hts0 lw_privs_ok w h
  · exact lw_sup_ok hts0 w h
