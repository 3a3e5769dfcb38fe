/-! GROWTH: cells that are made; the world by other places; rows outside their range; what is thrown -/
theorem gP.ad {E : gE} {ad ad' : Nat → Nat} {N : Nat} {w : Nat → va_E} {H : Heap} (h : gP E ad N w H) (e : ∀ p, p < N → ad p = ad' p) : gP E ad' N w H := by
  have e1 := gl_congr (ad := ad) (ad' := ad') (w := w) (w' := w) e (fun _ _ => rfl)
  exact ⟨e1 ▸ h.1, e1 ▸ h.2⟩
/-- chosen places of it -/
theorem gP.pick {E : gE} {ad : Nat → Nat} {N : Nat} {w : Nat → va_E} {H : Heap} (h : gP E ad N w H) (M : Nat) (g : Nat → Nat) (hg : ∀ p, p < M → g p < N) (hi : ∀ i j, i < M → j < M → g i = g j → i = j) : gP E (fun p => ad (g p)) M (fun p => w (g p)) H := by
  refine ⟨fun k q hk => ?_, fun i j a b hia hjb e => ?_, fun k q hk => ?_⟩
  · obtain ⟨h1, rfl⟩ := gl_lt hk
    exact h.1 (g k) _ (gl_get (hg k h1))
  · obtain ⟨h1, rfl⟩ := gl_lt hia
    obtain ⟨h2, rfl⟩ := gl_lt hjb
    exact hi i j h1 h2 (h.2.1 (g i) (g j) _ _ (gl_get (hg i h1)) (gl_get (hg j h2)) e)
  · obtain ⟨h1, rfl⟩ := gl_lt hk
    exact h.2.2 (g k) _ (gl_get (hg k h1))
theorem arrV_cong (cA : ClassId) {n : Nat} {f g : Nat → Value} (h : ∀ j, j < n → f j = g j) : arrV cA n f = arrV cA n g := by
  unfold arrV
  congr 1
  apply congrArg
  funext j
  exact h j.val j.isLt
/-- entries that differ outside the range of a row alone -/
def eqE (e e' : va_E) : Prop := e = e' ∨ ∃ (c : ClassId) (n : Nat) (f g : Nat → Int32), e = .inl (c, n, .inl f) ∧ e' = .inl (c, n, .inl g) ∧ ∀ j, j < n → f j = g j
theorem eqE.rf (e : va_E) : eqE e e := Or.inl rfl
theorem eqE.ar (c : ClassId) {n : Nat} {f g : Nat → Nat} (h : ∀ j, j < n → f j = g j) : eqE (gAr c n f) (gAr c n g) := Or.inr ⟨c, n, _, _, rfl, rfl, fun j hj => by show nI (f j) = nI (g j); rw [h j hj]⟩
theorem gP.norm {E : gE} {ad : Nat → Nat} {N : Nat} {w w' : Nat → va_E} {H : Heap} (h : gP E ad N w H) (e : ∀ p, p < N → eqE (w p) (w' p)) : gP E ad N w' H := by
  refine ⟨fun k q hk => ?_, fun i j a b hia hjb ee => ?_, fun k q hk => ?_⟩
  · obtain ⟨h1, rfl⟩ := gl_lt hk
    have h2 := h.1 k _ (gl_get h1)
    rcases e k h1 with r | ⟨c, n, f, g, r1, r2, r3⟩
    · rw [← r]; exact h2
    · rw [r1] at h2; rw [r2]
      have h3 : H[ad k]? = some (vp_cell c (n, .inl f)) := h2
      show H[ad k]? = some (vp_cell c (n, .inl g))
      rw [h3, vp_cell_i, vp_cell_i, arrV_cong c (fun j hj => by rw [r3 j hj])]
  · obtain ⟨h1, rfl⟩ := gl_lt hia
    obtain ⟨h2, rfl⟩ := gl_lt hjb
    exact h.2.1 i j _ _ (gl_get h1) (gl_get h2) ee
  · obtain ⟨h1, rfl⟩ := gl_lt hk
    exact h.2.2 k (ad k, w k) (gl_get h1)
/-- a heap that keeps what was there keeps the world -/
theorem gP.kept {E : gE} {ad : Nat → Nat} {N : Nat} {w : Nat → va_E} {H H1 : Heap} (h : gP E ad N w H) (hk : ∀ q : Nat, q < H.size → H1[q]? = H[q]?) : gP E ad N w H1 := by
  refine ⟨fun k q hq => ?_, h.2⟩
  have h1 := h.1 k q hq
  have hin : q.1 < H.size := by
    obtain ⟨a, e⟩ := q
    cases e with
    | inl x =>
      have h2 : H[a]? = some (vp_cell x.1 x.2) := h1
      exact (Array.getElem?_eq_some_iff.mp h2).1
    | inr x =>
      obtain ⟨r, hr, cell, g1, -⟩ := h1
      exact (Array.getElem?_eq_some_iff.mp g1).1
  exact va_P.kept (ws := [q]) (fun k' q' hk' => by
    have e : q' = q := by cases k' with
      | zero => exact (Option.some.inj hk').symm
      | succ n => cases hk'
    rw [e]; exact h1) (fun k' q' hk' => by
    have e : q' = q := by cases k' with
      | zero => exact (Option.some.inj hk').symm
      | succ n => cases hk'
    rw [e]; exact hk q.1 hin) 0 q rfl
/-- the statics that a throw reads, the texts, the classes of what is thrown -/
def gTx : List (String × Nat × String) := [(RX12, 329, "no such cell or moth"), (RX12, 331, "the number is out of range"), (RX12, 343, "denied"), (RX12, 381, "no such cell"), (RX12, 366, "no such rank"), (RX12, 379, "the level is out of range"), (RX12, 383, "there is no route"), (RX12, 374, "no such moth"), (RX12, 219, "no hole within 30 nights"), (RX12, 251, "the text buffer is full"), (RX12, 265, "the text does not match the grammar"), (RX12, 356, "a command of the text failed"), (RX12, 281, "no fault position was kept yet"), (RX12, 296, "no such character"), (RX12, 358, "nothing was denied yet"), (RX12, 306, "there is no cause"), (RX12, 312, "no change can be undone"), (RX12, 321, "there is no snapshot")]
def gZx (lo : Nat) (U : State) (H : Heap) : Prop := vx_Zq Bundle.tN "UNASSIGNED_STACK" Bundle.steD (fun q => lo ≤ q) U H ∧ vx_Zq Bundle.tN "SUPPRESSED_SENTINEL" Bundle.listD (fun q => lo ≤ q) U H ∧ (∀ t ∈ gTx, ∃ a, vk_R t.1 t.2.1 t.2.2 a U) ∧ ∀ x ∈ lw_oth, va_Nw x U
theorem gZx.go {lo : Nat} {u U : State} {H H1 : Heap} (h : gZx lo u H) (hv : u.WarmedH U.vm ∨ U.vm = u.vm) (hk : ∀ a : Nat, a < H.size → ¬ lo ≤ a → H1[a]? = H[a]?) : gZx lo U H1 := by
  have hal : u.vm.Alike U.vm := by
    rcases hv with q | q
    · exact q.alike
    · rw [q]; exact Vm.Alike.refl _
  refine ⟨(h.1.moved hal).kept hk, (h.2.1.moved hal).kept hk, fun t ht => ?_, fun x hx => ?_⟩
  · obtain ⟨a, ha⟩ := h.2.2.1 t ht
    rcases hv with q | q
    · exact ⟨a, ha.warm q⟩
    · exact ⟨a, ha.same q⟩
  · rcases hv with q | q
    · exact lw_oth_warm hx q (h.2.2.2 x hx)
    · exact va_Nw.same (lw_oth_tab hx) q.symm (h.2.2.2 x hx)
abbrev gHx (E : gE) : Prop := ∀ (U : State) (H : Heap), E.2.2.2 U H → gZx E.2.2.1 U H
/-- contracts of methods that return or throw: what is thrown, and the world then -/
def gXB (E : gE) (ad : Nat → Nat) (N : Nat) : String → String × (Nat → va_E) → State → Prop := fun e u t => e = u.1 ∧ gP E ad N u.2 t.heap
abbrev gXC (E : gE) (ad : Nat → Nat) (N : Nat) (px : String → (Nat → va_E) → Prop) : String → State → State → Prop := vx_X (fun u : String × (Nat → va_E) => px u.1 u.2) (gXB E ad N) (gA E)
abbrev gXi (l : Launch) (y : MethodName) (ws : List Cond) (rm : Room) (E : gE) (ad : Nat → Nat) (N : Nat) (w : Nat → va_E) (as : List Value) (post : Int32 → (Nat → va_E) → Prop) (px : String → (Nat → va_E) → Prop) (mc ms : Nat) : Prop := vx_Met l y ws rm (gPc E ad N w as) (va_Qi post (gB E ad N) (gA E)) (gXC E ad N px) mc ms (gA E)
abbrev gXv (l : Launch) (y : MethodName) (ws : List Cond) (rm : Room) (E : gE) (ad : Nat → Nat) (N : Nat) (w : Nat → va_E) (as : List Value) (post : (Nat → va_E) → Prop) (px : String → (Nat → va_E) → Prop) (mc ms : Nat) : Prop := vx_Met l y ws rm (gPc E ad N w as) (va_Qv post (gB E ad N) (gA E)) (gXC E ad N px) mc ms (gA E)
abbrev gXf (l : Launch) (y : MethodName) (ws : List Cond) (rm : Room) (E : gE) (ad : Nat → Nat) (N : Nat) (w : Nat → va_E) (as : List Value) (post : UInt32 → (Nat → va_E) → Prop) (px : String → (Nat → va_E) → Prop) (mc ms : Nat) : Prop := vx_Met l y ws rm (gPc E ad N w as) (va_Qf post (gB E ad N) (gA E)) (gXC E ad N px) mc ms (gA E)
section GROW4
variable {p : Program} {l : Launch} {e : Env} {R : Room} {s : State} {m : MethodId} {args : Array Value} {below : List Frame} {meth : Method} {c : Code} {H : Heap} {locs : List Loc} {cells slots : Nat} {Q : State → Prop}
variable {cc : ByteArray} {pc nL : Nat} {ls : Array Slot} {rest st0 : List Value} {own : String} {E : gE} {ad : Nat → Nat} {N : Nat} {w : Nat → va_E}
theorem g_new (S : gFix p m c cc nL s args own) (hI : gI E s s.heap) (hP : gP E ad N w H) (hS : va_S (gA E) s.heap H locs) {C : String} {T : u_T} {n ci index : Nat} (hin : ∀ w ∈ u_ws C T n, w ∈ lw_all) (hc : vwCl[ci]? = some (C, T, n)) (ty : Nat → FieldType) (hty : ∀ k, k < n → parseFieldDescriptor (T k).2.2.1 = some (ty k)) (q1 : Cond.classLink own index C ∈ lw_all) (q2 : Cond.instantiable C n ∈ lw_all) (q3 : Cond.initialized C ∈ lw_all) {fs : List Value} (hfs : ∀ j, j < n → defaultValue (ty j) = vp_V fs j) (hcells : cells + 1 ≤ R.cells) (hslots : slots + n ≤ R.slots) (hdg : decode cc pc = .ok (.new index, 3))
    (kk : ∀ (q : Nat) (H1 : Heap), gP E (va_up ad N q) (N + 1) (va_up w N (.inr (ci, fs))) H1 → va_S (gA E) s.heap H1 locs → W p l e R s m args below meth c H1 locs (cells + 1) (slots + n) Q (F0 m (pc + 3) ls (.ref q :: rest))) : W p l e R s m args below meth c H locs cells slots Q (F0 m pc ls rest) := by
  refine va_new (D := E.1) (cl := vwCl) (tys := gT E) (ws := gl ad N w) (A := gA E) S.1 S.2.1 S.2.2.2.2 hin ty hty S.2.2.2.1 (S.2.2.2.2 _ q1) (S.2.2.2.2 _ q2) (S.2.2.2.2 _ q3) hI.1 hP.1 hP.2 hS (fun q hq => Nat.le_trans hI.2.2.1 hq) hc hfs hcells hslots hdg (fun q H1 a b d => ?_)
  rw [gl_push] at a b
  exact kk q H1 ⟨a, b⟩ d
theorem g_newa (S : gFix p m c cc nL s args own) (hI : gI E s s.heap) (hP : gP E ad N w H) (hS : va_S (gA E) s.heap H locs) {atype : ArrayType} {ty : FieldType} (t : Nat) {cA0 : ClassId} (ht : (gT E)[t]? = some (cA0, ty)) (hra : ∀ (U : State) (cA : ClassId), va_RA U cA ty → U.vm.findClass ("[" ++ ty.toString) = some cA) (hty : newarray.typeOf atype = ty) (q1 : Cond.arrayClass (newarray.typeOf atype) ∈ lw_all) (k : Nat) {a0 : vp_A} (ha : ∀ cA : ClassId, vp_cell cA a0 = arrV cA k (fun _ => defaultValue ty)) (hk : k < 2 ^ 31) (hbytes : k * componentBytes ty ≤ 536870912) (hcells : cells + 1 ≤ R.cells) (hslots : slots + k ≤ R.slots) (hdg : decode cc pc = .ok (.newarray atype, 2))
    (kk : ∀ (q : Nat) (H1 : Heap), gP E (va_up ad N q) (N + 1) (va_up w N (.inl (cA0, a0))) H1 → va_S (gA E) s.heap H1 locs → W p l e R s m args below meth c H1 locs (cells + 1) (slots + k) Q (F0 m (pc + 2) ls (.ref q :: rest))) : W p l e R s m args below meth c H locs cells slots Q (F0 m pc ls (.int (nI k) :: rest)) := by
  refine va_newa (D := E.1) (cl := vwCl) (tys := gT E) (ws := gl ad N w) (A := gA E) S.1 S.2.1 (S.2.2.2.2 _ q1) hty hI.1 hP.1 hP.2 hS (fun q hq => Nat.le_trans hI.2.2.1 hq) ha (nI_pos hk) (nI_clamp hk) hbytes hcells hslots hdg (fun q cA H1 hK1 a b d => ?_)
  have e1 := hra _ _ (hI.1.2 t _ ht).2
  have e2 := hra _ _ (hK1.2 (gT E).length (cA, ty) (by rw [List.getElem?_append_right (Nat.le_refl _)]; simp)).2
  have e3 : cA0 = cA := Option.some.inj (e1.symm.trans e2)
  subst e3
  rw [gl_push] at a b
  exact kk q H1 ⟨a, b⟩ d
/-- a throw of an own exception with its text -/
theorem g_throw (S : gFix p m c cc nL s args own) (hI : gI E s s.heap) (hP : gP E ad N w H) (hS : va_S (gA E) s.heap H locs) (hsize : ls.size = nL) (htab : ∀ x ∈ c.exceptionTable.toList, False) (hlocks : meth.locks = false) (hlt : l.stackTraces = false) (hz : gHx E) {cls text : String} {ik is ic mc ms : Nat} {Qc : Array Value → State → Outcome → State → Prop} {px : String → (Nat → va_E) → Prop}
    (q1 : Cond.classLink own ik cls ∈ lw_all) (q2 : Cond.initialized cls ∈ lw_all) (htx : (own, is, text) ∈ gTx) (hg : ∀ w ∈ vx_atS own ic cls gUp, w ∈ lw_all ∨ w ∈ lw_oth) (hcls : Bundle.fit cls = true)
    (d0 : decode cc pc = .ok (.new ik, 3)) (d3 : decode cc (pc + 3) = .ok (.dup, 1)) (d4 : decode cc (pc + 4) = .ok (.ldc is, 2)) (d6 : decode cc (pc + 6) = .ok (.invokespecial ic, 3)) (d9 : decode cc (pc + 9) = .ok (.athrow, 1))
    (hRf : 5 < R.frames) (hRl : (rest.map fun v => v.category).sum + 82 ≤ R.locals) (hRc : cells + 1 ≤ R.cells) (hRs : slots + 6 ≤ R.slots) (hmc : cells + 1 ≤ mc) (hms : slots + 6 ≤ ms) (hpx : px cls w) :
    W p l e R s m args below meth c H locs cells slots (vx_MQ below Qc (gXC E ad N px) args s mc ms (gA E)) (F0 m pc ls rest) := by
  obtain ⟨z1, z2, z3, z4⟩ := hz s s.heap hI.2.2.2.2
  obtain ⟨sa, hsa⟩ := z3 _ htx
  refine vx_throwS S.1 S.2.1 hlt (own := own) (cls := cls) (text := text) (names := gUp) (ik := ik) (is := is) (ic := ic) (sa := sa) (A := gA E) S.2.2.2.1 hcls (by decide +kernel) (S.2.2.2.2 _ q1) (S.2.2.2.2 _ q2) hsa ?_ ?_ z1 z2 hS (hsize.trans S.2.2.1.symm) d0 d3 d4 d6 d9 (fun x hx => (htab x hx).elim) hRf hRl hRc hRs hlocks ?_ hS.2.2 hmc hms
  · intro w hw
    rcases hg w hw with r | r
    · exact S.2.2.2.2 w r
    · exact va_Nw.use (lw_oth_tab r) (z4 w r)
  · intro w hw
    rcases List.mem_cons.mp hw with r | hw
    · subst r; simp [vx_ot, Cond.onTables]
    · rcases List.mem_cons.mp hw with r | hw
      · subst r; simp [vx_ot, Cond.onTables]
      · rcases hg w hw with r | r
        · show (w.onTables || goodWord w) = true
          rw [lw_good w r, Bool.or_true]
        · show (w.onTables || goodWord w) = true
          rw [lw_oth_tab r, Bool.true_or]
  · intro t hal hsz hkp
    refine ⟨(cls, w), hpx, ⟨rfl, hP.kept hkp⟩, Nat.le_trans hS.1 hsz, fun q hq hn => ?_⟩
    rw [hkp q (Nat.lt_of_lt_of_le hq hS.1)]
    exact hS.2.1 q hq hn
/-- .. its text by a wide index -/
theorem g_throwW (S : gFix p m c cc nL s args own) (hI : gI E s s.heap) (hP : gP E ad N w H) (hS : va_S (gA E) s.heap H locs) (hsize : ls.size = nL) (htab : ∀ x ∈ c.exceptionTable.toList, False) (hlocks : meth.locks = false) (hlt : l.stackTraces = false) (hz : gHx E) {cls text : String} {ik is ic mc ms : Nat} {Qc : Array Value → State → Outcome → State → Prop} {px : String → (Nat → va_E) → Prop}
    (q1 : Cond.classLink own ik cls ∈ lw_all) (q2 : Cond.initialized cls ∈ lw_all) (htx : (own, is, text) ∈ gTx) (hg : ∀ w ∈ vx_atS own ic cls gUp, w ∈ lw_all ∨ w ∈ lw_oth) (hcls : Bundle.fit cls = true)
    (d0 : decode cc pc = .ok (.new ik, 3)) (d3 : decode cc (pc + 3) = .ok (.dup, 1)) (d4 : decode cc (pc + 4) = .ok (.ldc_w is, 3)) (d6 : decode cc (pc + 7) = .ok (.invokespecial ic, 3)) (d9 : decode cc (pc + 10) = .ok (.athrow, 1))
    (hRf : 5 < R.frames) (hRl : (rest.map fun v => v.category).sum + 82 ≤ R.locals) (hRc : cells + 1 ≤ R.cells) (hRs : slots + 6 ≤ R.slots) (hmc : cells + 1 ≤ mc) (hms : slots + 6 ≤ ms) (hpx : px cls w) :
    W p l e R s m args below meth c H locs cells slots (vx_MQ below Qc (gXC E ad N px) args s mc ms (gA E)) (F0 m pc ls rest) := by
  obtain ⟨z1, z2, z3, z4⟩ := hz s s.heap hI.2.2.2.2
  obtain ⟨sa, hsa⟩ := z3 _ htx
  refine vx_throwSW S.1 S.2.1 hlt (own := own) (cls := cls) (text := text) (names := gUp) (ik := ik) (is := is) (ic := ic) (sa := sa) (A := gA E) S.2.2.2.1 hcls (by decide +kernel) (S.2.2.2.2 _ q1) (S.2.2.2.2 _ q2) hsa ?_ ?_ z1 z2 hS (hsize.trans S.2.2.1.symm) d0 d3 d4 d6 d9 (fun x hx => (htab x hx).elim) hRf hRl hRc hRs hlocks ?_ hS.2.2 hmc hms
  · intro w hw
    rcases hg w hw with r | r
    · exact S.2.2.2.2 w r
    · exact va_Nw.use (lw_oth_tab r) (z4 w r)
  · intro w hw
    rcases List.mem_cons.mp hw with r | hw
    · subst r; simp [vx_ot, Cond.onTables]
    · rcases List.mem_cons.mp hw with r | hw
      · subst r; simp [vx_ot, Cond.onTables]
      · rcases hg w hw with r | r
        · show (w.onTables || goodWord w) = true
          rw [lw_good w r, Bool.or_true]
        · show (w.onTables || goodWord w) = true
          rw [lw_oth_tab r, Bool.true_or]
  · intro t hal hsz hkp
    refine ⟨(cls, w), hpx, ⟨rfl, hP.kept hkp⟩, Nat.le_trans hS.1 hsz, fun q hq hn => ?_⟩
    rw [hkp q (Nat.lt_of_lt_of_le hq hS.1)]
    exact hS.2.1 q hq hn
/-- what was thrown by a callee goes on to the caller -/
theorem g_xout (S : gFix p m c cc nL s args own) (hI : gI E s s.heap) (hS : va_S (gA E) s.heap H locs) (htab : ∀ x ∈ c.exceptionTable.toList, False) (hlocks : meth.locks = false) {Qc : Array Value → State → Outcome → State → Prop} {px : String → (Nat → va_E) → Prop} {mc ms q : Nat} {ce : Cell} {x : String} (hP : gP E ad N w H) (hcell : H[q]? = some ce) (hv : ce.vm = .none) (hcl : s.vm.findClass x = some ce.cls) (hpx : px x w) (hmc : cells ≤ mc) (hms : slots ≤ ms) :
    vx_W p l e R s m args below meth c H locs cells slots (vx_MQ below Qc (gXC E ad N px) args s mc ms (gA E)) (F0 m pc ls rest) q :=
  vx_out (fun x hx => (htab x hx).elim) hlocks hcell hv hcl (fun t ht _ => ⟨(x, w), hpx, ⟨rfl, by rw [ht]; exact hP⟩, hS.F ht⟩) hS.2.2 hmc hms
theorem g_xrunV (S : gFix p m c cc nL s args own) (hI : gI E s s.heap) (hP : gP E ad N w H) (hS : va_S (gA E) s.heap H locs) {y : MethodName} {bytes : ByteArray} {maxL index mc ms k : Nat} {ret : Option FieldType} {rm : Room} {C : String} {T : u_T} {n ci q0 : Nat} {fs As : List Value} {Qc : Array Value → State → Outcome → State → Prop} {XC : String → State → State → Prop}
    (hM : vx_Met l y (lw_ws y bytes maxL ret) rm (gPc E ad N w (.ref (ad q0) :: As)) Qc XC mc ms (gA E)) (q1 : Cond.methodLink own index y ∈ lw_all) (q2 : Cond.instanceMethod y ∈ lw_all) (q3 : Cond.selects C y y ∈ lw_all) (q4 : Cond.initialized C ∈ lw_all) (q5 : Cond.code y bytes maxL ret ∈ lw_all) (hrc : rm.cells = mc) (hrs : rm.slots = ms)
    (hd : y.cls = C ∧ y.cls ≠ "java/lang/invoke/MethodHandle" ∧ y.cls ≠ "java/lang/invoke/VarHandle" ∧ (parseMethodDescriptor y.desc).map (fun d => d.parameters.length) = some k) (hR : rm.frames + 1 ≤ R.frames ∧ 8 + (maxL + 11) + rm.locals ≤ R.locals)
    (hc : vwCl[ci]? = some (C, T, n)) (hq : q0 < N) (he : w q0 = .inr (ci, fs)) (hn : As.length = k) (hsize : ls.size = nL) (hst : st0 = As.reverse ++ .ref (ad q0) :: rest) (hW : (rest.map fun v => v.category).sum ≤ 8) (hf : cells + mc ≤ R.cells ∧ slots + ms ≤ R.slots) (hdg : decode cc pc = .ok (.invokevirtual index, 3)) :
    vx_Run p l e R s m args below meth c H locs cells slots mc ms (F0 m pc ls st0) rest (Qc (Value.ref (ad q0) :: As).toArray) XC (gA E) :=
  vx_runV (As := As) (rest := rest) S hM (g_cwV S q1 q2 q3 q4 q5 hrc hrs hd hR) (g_preV hI hP hS hc hq he) rfl hn hsize hst (lv_room hW) hdg hf
theorem g_xrunS (S : gFix p m c cc nL s args own) (hI : gI E s s.heap) (hP : gP E ad N w H) (hS : va_S (gA E) s.heap H locs) {y : MethodName} {bytes : ByteArray} {maxL index mc ms k : Nat} {ret : Option FieldType} {rm : Room} {As : List Value} {Qc : Array Value → State → Outcome → State → Prop} {XC : String → State → State → Prop}
    (hM : vx_Met l y (lw_ws y bytes maxL ret) rm (gPc E ad N w As) Qc XC mc ms (gA E)) (q1 : Cond.methodLink own index y ∈ lw_all) (q2 : Cond.static y ∈ lw_all) (q4 : Cond.initialized y.cls ∈ lw_all) (q5 : Cond.code y bytes maxL ret ∈ lw_all) (hrc : rm.cells = mc) (hrs : rm.slots = ms)
    (hd : y.cls ≠ "java/lang/invoke/MethodHandle" ∧ y.cls ≠ "java/lang/invoke/VarHandle" ∧ (parseMethodDescriptor y.desc).map (fun d => d.parameters.length) = some k) (hR : rm.frames + 1 ≤ R.frames ∧ 8 + (maxL + 11) + rm.locals ≤ R.locals)
    (hn : As.length = k) (hsize : ls.size = nL) (hst : st0 = As.reverse ++ rest) (hW : (rest.map fun v => v.category).sum ≤ 8) (hf : cells + mc ≤ R.cells ∧ slots + ms ≤ R.slots) (hdg : decode cc pc = .ok (.invokestatic index, 3)) :
    vx_Run p l e R s m args below meth c H locs cells slots mc ms (F0 m pc ls st0) rest (Qc As.toArray) XC (gA E) :=
  vx_runS (As := As) (rest := rest) S hM (g_cwSX S q1 q2 q4 q5 hrc hrs hd hR) (g_preS hI hP hS) rfl hn hsize hst (lv_room hW) hdg hf
theorem g_xafi {a : Array Value} {mc ms : Nat} {post : Int32 → (Nat → va_E) → Prop} {px : String → (Nat → va_E) → Prop} (hr : vx_Run p l e R s m args below meth c H locs cells slots mc ms (F0 m pc ls st0) rest (va_Qi post (gB E ad N) (gA E) a) (gXC E ad N px) (gA E)) (hS : va_S (gA E) s.heap H locs)
    (kx : ∀ (x : String) (w' : Nat → va_E) (q : Nat) (ce : Cell) (H1 : Heap) (locs1 : List Loc), px x w' → gP E ad N w' H1 → va_S (gA E) s.heap H1 locs1 → H1[q]? = some ce → ce.vm = .none → s.vm.findClass x = some ce.cls → vx_W p l e R s m args below meth c H1 locs1 (cells + mc) (slots + ms) Q (F0 m pc ls rest) q)
    (kk : ∀ (r : Int32) (w' : Nat → va_E) (H1 : Heap) (locs1 : List Loc), post r w' → gP E ad N w' H1 → va_S (gA E) s.heap H1 locs1 → W p l e R s m args below meth c H1 locs1 (cells + mc) (slots + ms) Q (F0 m (pc + 3) ls (.int r :: rest))) : W p l e R s m args below meth c H locs cells slots Q (F0 m pc ls st0) :=
  vx_calli hr hS (fun _ _ h => h) (fun _ h => h) (fun _ _ h => h) (fun x ce q u t H1 locs1 ht _ hp hB _ _ hS1 hc hv hcl => by obtain ⟨rfl, hB⟩ := hB; exact kx _ u.2 q ce H1 locs1 hp (by rw [← ht]; exact hB) hS1 hc hv hcl) (fun r w' t H1 locs1 ht _ hp hB _ _ hS1 => kk r w' H1 locs1 hp (by rw [← ht]; exact hB) hS1)
theorem g_xaff {a : Array Value} {mc ms : Nat} {post : UInt32 → (Nat → va_E) → Prop} {px : String → (Nat → va_E) → Prop} (hr : vx_Run p l e R s m args below meth c H locs cells slots mc ms (F0 m pc ls st0) rest (va_Qf post (gB E ad N) (gA E) a) (gXC E ad N px) (gA E)) (hS : va_S (gA E) s.heap H locs)
    (kx : ∀ (x : String) (w' : Nat → va_E) (q : Nat) (ce : Cell) (H1 : Heap) (locs1 : List Loc), px x w' → gP E ad N w' H1 → va_S (gA E) s.heap H1 locs1 → H1[q]? = some ce → ce.vm = .none → s.vm.findClass x = some ce.cls → vx_W p l e R s m args below meth c H1 locs1 (cells + mc) (slots + ms) Q (F0 m pc ls rest) q)
    (kk : ∀ (r : UInt32) (w' : Nat → va_E) (H1 : Heap) (locs1 : List Loc), post r w' → gP E ad N w' H1 → va_S (gA E) s.heap H1 locs1 → W p l e R s m args below meth c H1 locs1 (cells + mc) (slots + ms) Q (F0 m (pc + 3) ls (.float r :: rest))) : W p l e R s m args below meth c H locs cells slots Q (F0 m pc ls st0) :=
  vx_callf hr hS (fun _ _ h => h) (fun _ h => h) (fun _ _ h => h) (fun x ce q u t H1 locs1 ht _ hp hB _ _ hS1 hc hv hcl => by obtain ⟨rfl, hB⟩ := hB; exact kx _ u.2 q ce H1 locs1 hp (by rw [← ht]; exact hB) hS1 hc hv hcl) (fun r w' t H1 locs1 ht _ hp hB _ _ hS1 => kk r w' H1 locs1 hp (by rw [← ht]; exact hB) hS1)
theorem g_xafv {a : Array Value} {mc ms : Nat} {post : (Nat → va_E) → Prop} {px : String → (Nat → va_E) → Prop} (hr : vx_Run p l e R s m args below meth c H locs cells slots mc ms (F0 m pc ls st0) rest (va_Qv post (gB E ad N) (gA E) a) (gXC E ad N px) (gA E)) (hS : va_S (gA E) s.heap H locs)
    (kx : ∀ (x : String) (w' : Nat → va_E) (q : Nat) (ce : Cell) (H1 : Heap) (locs1 : List Loc), px x w' → gP E ad N w' H1 → va_S (gA E) s.heap H1 locs1 → H1[q]? = some ce → ce.vm = .none → s.vm.findClass x = some ce.cls → vx_W p l e R s m args below meth c H1 locs1 (cells + mc) (slots + ms) Q (F0 m pc ls rest) q)
    (kk : ∀ (w' : Nat → va_E) (H1 : Heap) (locs1 : List Loc), post w' → gP E ad N w' H1 → va_S (gA E) s.heap H1 locs1 → W p l e R s m args below meth c H1 locs1 (cells + mc) (slots + ms) Q (F0 m (pc + 3) ls rest)) : W p l e R s m args below meth c H locs cells slots Q (F0 m pc ls st0) :=
  vx_callv hr hS (fun _ _ h => h) (fun _ h => h) (fun _ _ h => h) (fun x ce q u t H1 locs1 ht _ hp hB _ _ hS1 hc hv hcl => by obtain ⟨rfl, hB⟩ := hB; exact kx _ u.2 q ce H1 locs1 hp (by rw [← ht]; exact hB) hS1 hc hv hcl) (fun w' t H1 locs1 ht _ hp hB _ _ hS1 => kk w' H1 locs1 hp (by rw [← ht]; exact hB) hS1)
/-- a constructor -/
theorem g_runI (S : gFix p m c cc nL s args own) (hI : gI E s s.heap) (hP : gP E ad N w H) (hS : va_S (gA E) s.heap H locs) {y : MethodName} {bytes : ByteArray} {maxL index mc ms k b : Nat} {rm : Room} {As : List Value} {Qc : Array Value → State → Outcome → State → Prop}
    (hM : Met l y (lw_ws y bytes maxL none) rm (gPc E ad N w (.ref (ad b) :: As)) Qc mc ms (gA E)) (q1 : Cond.methodLink own index y ∈ lw_all) (q2 : Cond.instanceMethod y ∈ lw_all) (q4 : Cond.initialized y.cls ∈ lw_all) (q5 : Cond.code y bytes maxL none ∈ lw_all) (hrc : rm.cells = mc) (hrs : rm.slots = ms) (hy1 : y.name = "<init>")
    (hd : y.cls ≠ "java/lang/invoke/MethodHandle" ∧ y.cls ≠ "java/lang/invoke/VarHandle" ∧ (parseMethodDescriptor y.desc).map (fun d => d.parameters.length) = some k) (hR : rm.frames + 1 ≤ R.frames ∧ 8 + (maxL + 11) + rm.locals ≤ R.locals)
    (hn : As.length = k) (hsize : ls.size = nL) (hst : st0 = As.reverse ++ .ref (ad b) :: rest) (hW : (rest.map fun v => v.category).sum ≤ 8) (hf : cells + mc ≤ R.cells ∧ slots + ms ≤ R.slots) (hdg : decode cc pc = .ok (.invokespecial index, 3)) :
    va_Run p l e R s m args below meth c H locs cells slots mc ms (F0 m pc ls st0) rest (Qc (Value.ref (ad b) :: As).toArray) (gA E) :=
  va_runI (As := As) (rest := rest) S hM (cwI k S.2.2.2.2 (lw_goodIn q5) rfl hrc hrs (S.2.2.2.2 _ q4) (S.2.2.2.2 _ q1) (S.2.2.2.2 _ q2) hy1 hd hR) (g_preS hI hP hS) rfl hn hsize hst (lv_room hW) hdg hf
/-- the end of a method that may throw -/
theorem g_xpre {y : MethodName} {ws : List Cond} {rm : Room} {bytes : ByteArray} {maxL : Nat} {ret : Option FieldType} {s1 : State} (B : BodyLoose p l y (headSpec (lw_ws y bytes maxL ret) rm) bytes maxL ret e s m args below meth c s1) (hml : c.maxLocals = maxL) {C n d : String} (hy : y = ⟨C, n, d⟩) : gFix p m c bytes maxL s args C ∧ meth.sig.returnType = ret ∧ meth.locks = false := gPre (ws := ws) B hml hy
end GROW4
