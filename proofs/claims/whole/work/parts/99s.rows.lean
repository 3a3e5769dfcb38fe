/-! THE START: rows -/
theorem gK_arrP {s : State} {args : Array Value} {ty : FieldType} (h : (Cond.arrayClass ty).before args s = true) : ∃ cA : ClassId, ArrOfT s cA ty ∧ s.vm.findClass ("[" ++ ty.toString) = some cA := by
  obtain ⟨c, k, comp, h1, h2, h3⟩ := Cond.arrayClass_spec h
  exact ⟨c, fun n z => ⟨fun k h => (by cases h), k, h2, comp, h3⟩, h1⟩
theorem gK_arrO {s : State} {C : String} (h : va_AO C s) : ∃ cA : ClassId, ArrOfT s cA (.object C) ∧ va_RA s cA (.object C) := by
  obtain ⟨comp, c, k, h1, -, h3, h4, h5⟩ := Cond.arrayOver_spec h
  exact ⟨c, fun n z => ⟨fun k h => (by cases h), k, h3, comp, h4⟩, k, comp, h3, h4, h1, h5⟩
theorem gK_arr {s : State} {args : Array Value} (hts : ∀ w ∈ lw_all, w.before args s = true) (hS : va_AO "DustSheetMap$Sheet" s) (hO : va_AO "java/lang/Object" s) : ∃ f : Nat → ClassId, ∀ (k : Nat) (q : ClassId × FieldType), ([(f 0, .int), (f 1, .boolean), (f 2, .char), (f 3, .byte), (f 4, .object "DustSheetMap$Sheet"), (f 5, .object "java/lang/Object"), (f 6, .long), (f 7, .double)] : List (ClassId × FieldType))[k]? = some q → ArrOfT s q.1 q.2 ∧ va_RA s q.1 q.2 := by
  obtain ⟨a0, b0, c0⟩ := gK_arrP (hts _ (show Cond.arrayClass .int ∈ lw_all from lw_q 182 (by decide +kernel) rfl))
  obtain ⟨a1, b1, c1⟩ := gK_arrP (hts _ (show Cond.arrayClass .boolean ∈ lw_all from lw_q 183 (by decide +kernel) rfl))
  obtain ⟨a2, b2, c2⟩ := gK_arrP (hts _ (show Cond.arrayClass .char ∈ lw_all from lw_q 344 (by decide +kernel) rfl))
  obtain ⟨a3, b3, c3⟩ := gK_arrP (hts _ (show Cond.arrayClass .byte ∈ lw_all from lw_q 401 (by decide +kernel) rfl))
  obtain ⟨a4, b4, c4⟩ := gK_arrP (hts _ (show Cond.arrayClass .long ∈ lw_all from lw_q 2250 (by decide +kernel) rfl))
  obtain ⟨a5, b5, c5⟩ := gK_arrP (hts _ (show Cond.arrayClass .double ∈ lw_all from lw_q 2251 (by decide +kernel) rfl))
  obtain ⟨a6, b6, c6⟩ := gK_arrO hS
  obtain ⟨a7, b7, c7⟩ := gK_arrO hO
  refine ⟨fun j => match j with | 0 => a0 | 1 => a1 | 2 => a2 | 3 => a3 | 4 => a6 | 5 => a7 | 6 => a4 | _ => a5, fun k q hq => ?_⟩
  match k, hq with
  | 0, hq => have e := Option.some.inj hq; subst e; exact ⟨b0, c0⟩
  | 1, hq => have e := Option.some.inj hq; subst e; exact ⟨b1, c1⟩
  | 2, hq => have e := Option.some.inj hq; subst e; exact ⟨b2, c2⟩
  | 3, hq => have e := Option.some.inj hq; subst e; exact ⟨b3, c3⟩
  | 4, hq => have e := Option.some.inj hq; subst e; exact ⟨b6, c6⟩
  | 5, hq => have e := Option.some.inj hq; subst e; exact ⟨b7, c7⟩
  | 6, hq => have e := Option.some.inj hq; subst e; exact ⟨b4, c4⟩
  | 7, hq => have e := Option.some.inj hq; subst e; exact ⟨b5, c5⟩
  | k + 8, hq => simp at hq
