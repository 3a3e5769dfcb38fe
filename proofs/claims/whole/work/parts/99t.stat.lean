/-! THE START: what is said of statics stays -/
def gZ9 (lo : Nat) (kk : Nat → Nat) (U : State) (H : Heap) : Prop := gZx lo U H ∧ gZv lo kk U H ∧ gNc U
theorem gNc.go {u U : State} (h : gNc u) (hv : u.WarmedH U.vm ∨ U.vm = u.vm) : gNc U := by
  have hal : u.vm.Alike U.vm := by
    rcases hv with q | q
    · exact q.alike
    · rw [q]; exact Vm.Alike.refl _
  exact fun t ht => (h t ht).moved hal
theorem gSt9 (lo : Nat) (kk : Nat → Nat) : gSt lo (gZ9 lo kk) :=
  ⟨fun u U H hv h => ⟨h.1.go hv (fun _ _ _ => rfl), h.2.1.go hv (fun _ _ _ => rfl), h.2.2.go hv⟩, fun U H H1 hk h => ⟨h.1.go (Or.inr rfl) hk, h.2.1.go (Or.inr rfl) hk, h.2.2⟩⟩
theorem nest_any {w : Cond} {s : State} {args : Array Value} (hw : lw_isNest w = true) (h : w.before args s = true) : va_Nw w s := by
  cases w <;> first | exact h | cases hw
theorem gI9 {s : State} {args : Array Value} (hts : ∀ w ∈ lw_tbl, w.before args s = true) {kk : Nat → Nat} (hZ : gZ9 s.heap.size kk s s.heap) : ∃ (D : va_G) (f : Nat → ClassId), gI (D, f, s.heap.size, gZ9 s.heap.size kk) s s.heap := by
  have h1 : ∀ w ∈ lw_all, w.before args s = true := fun w hw => hts w (List.mem_filter.mp hw).1
  obtain ⟨D, hD⟩ := gK_cls h1
  obtain ⟨f, hf⟩ := gK_arr h1 hZ.2.1.2.2.2.2.2.2.2.2.2.2.2 hZ.2.1.2.2.2.2.2.2.2.2.2.2.1
  exact ⟨D, f, ⟨hD, hf⟩, fun w hw => nest_any (List.mem_filter.mp hw).2 (hts w (List.mem_filter.mp hw).1), Nat.le_refl _, gSt9 _ _, hZ⟩
/-- the whole law where the statics are known -/
theorem law_9 {p : Program} {l : Launch} {e : Env} {R : Room} {s : State} {m : MethodId} {args : Array Value} {below : List Frame} {meth : Method} {c : Code} {Q : State → Prop} {ls : Array Slot} {kk : Nat → Nat} (hlt : l.stackTraces = false) (hx : p.tables.exec = Jvm.exec) (hb : c.code = cL_law) (hml : c.maxLocals = 10) (hown : s.vm.findClass RL = some m.cls) (hts : ∀ w ∈ lw_tbl, w.before args s = true) (hZ : gZ9 s.heap.size kk s s.heap)
    (hRf : 64 ≤ R.frames) (hRl : 2000 ≤ R.locals) (hRc : 130000 ≤ R.cells) (hRs : 1500000 ≤ R.slots) {sa L : Nat} {xs : Nat → Int32} (hX : va_X sa L xs s s.heap) (hsa : sa < s.heap.size) (hL : L ≤ 2560) (hl : lv_has ls 10 [(0, .ref (sa))])
    (kkE : ∀ (H' : Heap) (ls' : Array Slot), W p l e R s m args below meth c H' [] R.cells R.slots Q (F0 m 3003 ls' [])) : W p l e R s m args below meth c s.heap [] 0 0 Q (F0 m 0 ls []) := by
  obtain ⟨D, f, hI⟩ := gI9 hts hZ
  exact law_all (E := (D, f, s.heap.size, gZ9 s.heap.size kk)) kk hlt (fun _ _ h => h.1) (fun _ _ h => h.2.1) (fun _ _ h => h.2.2) ⟨hx, hb, hml, hown, fun w hw => hts w (List.mem_filter.mp hw).1⟩ hI rfl hRf hRl hRc hRs hX hsa hL hl kkE
