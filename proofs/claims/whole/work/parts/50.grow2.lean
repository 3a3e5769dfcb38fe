/-! WORLDS THAT GROW: contracts whose world has more places behind; objects returned; rows of an ArrayList, a StringBuilder, constant texts -/
abbrev gW3 : Type := (Nat → Nat) × Nat × (Nat → va_E)
abbrev gBU (E : gE) : gW3 → State → Prop := fun u t => gP E u.1 u.2.1 u.2.2 t.heap
abbrev gQUi (E : gE) (post : Int32 → (Nat → Nat) → Nat → (Nat → va_E) → Prop) : Array Value → State → Outcome → State → Prop := va_Qi (fun r (u : gW3) => post r u.1 u.2.1 u.2.2) (gBU E) (gA E)
abbrev gQUv (E : gE) (post : (Nat → Nat) → Nat → (Nat → va_E) → Prop) : Array Value → State → Outcome → State → Prop := va_Qv (fun (u : gW3) => post u.1 u.2.1 u.2.2) (gBU E) (gA E)
abbrev gQUr (E : gE) (post : Nat → (Nat → Nat) → Nat → (Nat → va_E) → Prop) : Array Value → State → Outcome → State → Prop := va_Qr (fun (u : Nat × gW3) => post u.1 u.2.1 u.2.2.1 u.2.2.2) (fun u a t => a = u.1 ∧ gBU E u.2 t) (gA E)
abbrev gQr (E : gE) (ad : Nat → Nat) (N : Nat) (post : Nat → (Nat → va_E) → Prop) : Array Value → State → Outcome → State → Prop := va_Qr (fun (u : Nat × (Nat → va_E)) => post u.1 u.2) (fun u a t => a = u.1 ∧ gB E ad N u.2 t) (gA E)
abbrev gXU (E : gE) (px : String → (Nat → Nat) → Nat → (Nat → va_E) → Prop) : String → State → State → Prop := vx_X (fun (u : String × gW3) => px u.1 u.2.1 u.2.2.1 u.2.2.2) (fun e u t => e = u.1 ∧ gBU E u.2 t) (gA E)
abbrev gUi (l : Launch) (y : MethodName) (ws : List Cond) (rm : Room) (E : gE) (ad : Nat → Nat) (N : Nat) (w : Nat → va_E) (as : List Value) (post : Int32 → (Nat → Nat) → Nat → (Nat → va_E) → Prop) (mc ms : Nat) : Prop := Met l y ws rm (gPc E ad N w as) (gQUi E post) mc ms (gA E)
abbrev gUv (l : Launch) (y : MethodName) (ws : List Cond) (rm : Room) (E : gE) (ad : Nat → Nat) (N : Nat) (w : Nat → va_E) (as : List Value) (post : (Nat → Nat) → Nat → (Nat → va_E) → Prop) (mc ms : Nat) : Prop := Met l y ws rm (gPc E ad N w as) (gQUv E post) mc ms (gA E)
abbrev gUr (l : Launch) (y : MethodName) (ws : List Cond) (rm : Room) (E : gE) (ad : Nat → Nat) (N : Nat) (w : Nat → va_E) (as : List Value) (post : Nat → (Nat → Nat) → Nat → (Nat → va_E) → Prop) (mc ms : Nat) : Prop := Met l y ws rm (gPc E ad N w as) (gQUr E post) mc ms (gA E)
abbrev gMr (l : Launch) (y : MethodName) (ws : List Cond) (rm : Room) (E : gE) (ad : Nat → Nat) (N : Nat) (w : Nat → va_E) (as : List Value) (post : Nat → (Nat → va_E) → Prop) (mc ms : Nat) : Prop := Met l y ws rm (gPc E ad N w as) (gQr E ad N post) mc ms (gA E)
abbrev gUXi (l : Launch) (y : MethodName) (ws : List Cond) (rm : Room) (E : gE) (ad : Nat → Nat) (N : Nat) (w : Nat → va_E) (as : List Value) (post : Int32 → (Nat → Nat) → Nat → (Nat → va_E) → Prop) (px : String → (Nat → Nat) → Nat → (Nat → va_E) → Prop) (mc ms : Nat) : Prop := vx_Met l y ws rm (gPc E ad N w as) (gQUi E post) (gXU E px) mc ms (gA E)
theorem q400 : (Cond.superclass "java/lang/StringBuilder" "java/lang/AbstractStringBuilder") ∈ lw_all := lw_q 400 (by decide +kernel) rfl
theorem q343 : (Cond.superclass "java/util/ArrayList" "java/util/AbstractList") ∈ lw_all := lw_q 343 (by decide +kernel) rfl
theorem uJ4 : ∀ w ∈ u_ws RJ4 TJ4 4, w ∈ lw_all := by decide +kernel
theorem uJx4a65c : ∀ w ∈ u_ws RJx4a65c TJx4a65c 3, w ∈ lw_all := by decide +kernel
theorem nI_and255 : ∀ a, a < 256 → nI a &&& nI 255 = nI a := by decide +kernel
theorem nI_i2c {a : Nat} (h : a < 65536) : ((nI a).toUInt32 % 65536).toInt32 = nI a := by
  have h1 := (pk_charN h).1
  have h2 : narrow .char (.int (nI a)) = .int ((nI a).toUInt32 % 65536).toInt32 := rfl
  rw [h2] at h1
  exact Value.int.inj h1
theorem nI_i2b : ∀ a, a < 128 → (nI a).toInt8.toInt32 = nI a := by decide +kernel
theorem nI_shr0 (x : Int32) : x >>> ((nI 0) &&& 31) = x := by
  rw [show (nI 0 : Int32) &&& 31 = 0 from by decide +kernel]
  simp
theorem nI_shl0 (x : Int32) : x <<< ((nI 0) &&& 31) = x := by
  rw [show (nI 0 : Int32) &&& 31 = 0 from by decide +kernel]
  simp
/-- a row of references to objects -/
abbrev rwA (cA : ClassId) (n : Nat) (f : Nat → Option Nat) : va_E := .inl (cA, n, .inr (.inr (.inr (.inr f))))
section GROW8
variable {p : Program} {l : Launch} {e : Env} {R : Room} {s : State} {m : MethodId} {args : Array Value} {below : List Frame} {meth : Method} {c : Code} {H : Heap} {locs : List Loc} {cells slots : Nat} {Q : State → Prop}
variable {cc : ByteArray} {pc nL : Nat} {ls : Array Slot} {rest st0 : List Value} {own : String} {E : gE} {ad : Nat → Nat} {N : Nat} {w : Nat → va_E}
theorem g_bret {v : Int32} {w' : Nat → va_E} {post : Int32 → (Nat → va_E) → Prop} (S : gFix p m c cc nL s args own) (hr : meth.sig.returnType = some .byte) (hlocks : meth.locks = false) (hv : v.toInt8.toInt32 = v) (hP : gP E ad N w H) (hS : va_S (gA E) s.heap H locs) (hpost : post v w') (hw : ∀ q, q < N → w q = w' q) {mc ms : Nat} (hmc : cells ≤ mc) (hms : slots ≤ ms) (hdg : decode cc pc = .ok (.ireturn, 1)) : W p l e R s m args below meth c H locs cells slots (MQ below (va_Qi post (gB E ad N) (gA E)) args s mc ms (gA E)) (F0 m pc ls [.int v]) := by
  refine W.widen (k := mc) (n := ms) hmc hms ?_
  exact W.zret (ty := .byte) S.1 S.2.1 hr (by show Value.int v.toInt8.toInt32 = _; rw [hv]) (fun t ht _ => ⟨⟨v, w', rfl, hpost, by show gP E ad N w' t.heap; rw [ht]; exact hP.to hw⟩, hS.F ht⟩) hS.2.2 hdg hlocks
theorem g_rret {v : Nat} {w' : Nat → va_E} {rt : FieldType} {post : Nat → (Nat → va_E) → Prop} (S : gFix p m c cc nL s args own) (hr : meth.sig.returnType = some rt) (hrt : (∃ n, rt = .object n) ∨ ∃ t, rt = .array t) (hlocks : meth.locks = false) (hP : gP E ad N w H) (hS : va_S (gA E) s.heap H locs) (hpost : post v w') (hw : ∀ q, q < N → w q = w' q) {mc ms : Nat} (hmc : cells ≤ mc) (hms : slots ≤ ms) (hdg : decode cc pc = .ok (.areturn, 1)) : W p l e R s m args below meth c H locs cells slots (MQ below (gQr E ad N post) args s mc ms (gA E)) (F0 m pc ls [.ref v]) := by
  refine W.widen (k := mc) (n := ms) hmc hms ?_
  exact W.aret S.1 S.2.1 hr hrt (Or.inr ⟨v, rfl⟩) (fun t ht _ => ⟨⟨(v, w'), v, rfl, hpost, rfl, by show gP E ad N w' t.heap; rw [ht]; exact hP.to hw⟩, hS.F ht⟩) hS.2.2 hdg hlocks
theorem g_afr {a : Array Value} {mc ms : Nat} {post : Nat → (Nat → va_E) → Prop} (hr : va_Run p l e R s m args below meth c H locs cells slots mc ms (F0 m pc ls st0) rest (gQr E ad N post a) (gA E)) (hS : va_S (gA E) s.heap H locs)
    (kk : ∀ (r : Nat) (w' : Nat → va_E) (H1 : Heap) (locs1 : List Loc), post r w' → gP E ad N w' H1 → va_S (gA E) s.heap H1 locs1 → W p l e R s m args below meth c H1 locs1 (cells + mc) (slots + ms) Q (F0 m (pc + 3) ls (.ref r :: rest))) : W p l e R s m args below meth c H locs cells slots Q (F0 m pc ls st0) :=
  va_callr hr hS (fun _ _ h => h) (fun _ h => h) (fun u ra t H1 locs1 ht _ hp hB _ _ hS1 => by obtain ⟨rfl, hB⟩ := hB; exact kk _ u.2 H1 locs1 hp (by rw [← ht]; exact hB) hS1)
/-- the ends of methods whose world grows -/
theorem g_uiret {v : Int32} {post : Int32 → (Nat → Nat) → Nat → (Nat → va_E) → Prop} (S : gFix p m c cc nL s args own) (hr : meth.sig.returnType = some .int) (hlocks : meth.locks = false) (hP : gP E ad N w H) (hS : va_S (gA E) s.heap H locs) (hpost : post v ad N w) {mc ms : Nat} (hmc : cells ≤ mc) (hms : slots ≤ ms) (hdg : decode cc pc = .ok (.ireturn, 1)) : W p l e R s m args below meth c H locs cells slots (MQ below (gQUi E post) args s mc ms (gA E)) (F0 m pc ls [.int v]) := by
  refine W.widen (k := mc) (n := ms) hmc hms ?_
  exact W.iret S.1 S.2.1 hr (fun t ht _ => ⟨⟨v, (ad, N, w), rfl, hpost, by show gP E ad N w t.heap; rw [ht]; exact hP⟩, hS.F ht⟩) hS.2.2 hdg hlocks
theorem g_uzret {v : Int32} {post : Int32 → (Nat → Nat) → Nat → (Nat → va_E) → Prop} (S : gFix p m c cc nL s args own) (hr : meth.sig.returnType = some .boolean) (hlocks : meth.locks = false) (hv : v = 0 ∨ v = 1) (hP : gP E ad N w H) (hS : va_S (gA E) s.heap H locs) (hpost : post v ad N w) {mc ms : Nat} (hmc : cells ≤ mc) (hms : slots ≤ ms) (hdg : decode cc pc = .ok (.ireturn, 1)) : W p l e R s m args below meth c H locs cells slots (MQ below (gQUi E post) args s mc ms (gA E)) (F0 m pc ls [.int v]) := by
  refine W.widen (k := mc) (n := ms) hmc hms ?_
  exact W.zret (ty := .boolean) S.1 S.2.1 hr (by rcases hv with rfl | rfl <;> decide +kernel) (fun t ht _ => ⟨⟨v, (ad, N, w), rfl, hpost, by show gP E ad N w t.heap; rw [ht]; exact hP⟩, hS.F ht⟩) hS.2.2 hdg hlocks
theorem g_uvret {post : (Nat → Nat) → Nat → (Nat → va_E) → Prop} (S : gFix p m c cc nL s args own) (hr : meth.sig.returnType = none) (hlocks : meth.locks = false) (hP : gP E ad N w H) (hS : va_S (gA E) s.heap H locs) (hpost : post ad N w) {mc ms : Nat} (hmc : cells ≤ mc) (hms : slots ≤ ms) (hdg : decode cc pc = .ok (.return_, 1)) : W p l e R s m args below meth c H locs cells slots (MQ below (gQUv E post) args s mc ms (gA E)) (F0 m pc ls []) := by
  refine W.widen (k := mc) (n := ms) hmc hms ?_
  exact W.vret S.1 S.2.1 hr (fun t ht _ => ⟨⟨(ad, N, w), rfl, hpost, by show gP E ad N w t.heap; rw [ht]; exact hP⟩, hS.F ht⟩) hS.2.2 hdg hlocks
theorem g_urret {v : Nat} {rt : FieldType} {post : Nat → (Nat → Nat) → Nat → (Nat → va_E) → Prop} (S : gFix p m c cc nL s args own) (hr : meth.sig.returnType = some rt) (hrt : (∃ n, rt = .object n) ∨ ∃ t, rt = .array t) (hlocks : meth.locks = false) (hP : gP E ad N w H) (hS : va_S (gA E) s.heap H locs) (hpost : post v ad N w) {mc ms : Nat} (hmc : cells ≤ mc) (hms : slots ≤ ms) (hdg : decode cc pc = .ok (.areturn, 1)) : W p l e R s m args below meth c H locs cells slots (MQ below (gQUr E post) args s mc ms (gA E)) (F0 m pc ls [.ref v]) := by
  refine W.widen (k := mc) (n := ms) hmc hms ?_
  exact W.aret S.1 S.2.1 hr hrt (Or.inr ⟨v, rfl⟩) (fun t ht _ => ⟨⟨(v, (ad, N, w)), v, rfl, hpost, rfl, by show gP E ad N w t.heap; rw [ht]; exact hP⟩, hS.F ht⟩) hS.2.2 hdg hlocks
theorem g_uafi {a : Array Value} {mc ms : Nat} {post : Int32 → (Nat → Nat) → Nat → (Nat → va_E) → Prop} (hr : va_Run p l e R s m args below meth c H locs cells slots mc ms (F0 m pc ls st0) rest (gQUi E post a) (gA E)) (hS : va_S (gA E) s.heap H locs)
    (kk : ∀ (r : Int32) (a' : Nat → Nat) (N' : Nat) (w' : Nat → va_E) (H1 : Heap) (locs1 : List Loc), post r a' N' w' → gP E a' N' w' H1 → va_S (gA E) s.heap H1 locs1 → W p l e R s m args below meth c H1 locs1 (cells + mc) (slots + ms) Q (F0 m (pc + 3) ls (.int r :: rest))) : W p l e R s m args below meth c H locs cells slots Q (F0 m pc ls st0) :=
  va_calli hr hS (fun _ _ h => h) (fun _ h => h) (fun r u t H1 locs1 ht _ hp hB _ _ hS1 => kk r u.1 u.2.1 u.2.2 H1 locs1 hp (by rw [← ht]; exact hB) hS1)
theorem g_uafv {a : Array Value} {mc ms : Nat} {post : (Nat → Nat) → Nat → (Nat → va_E) → Prop} (hr : va_Run p l e R s m args below meth c H locs cells slots mc ms (F0 m pc ls st0) rest (gQUv E post a) (gA E)) (hS : va_S (gA E) s.heap H locs)
    (kk : ∀ (a' : Nat → Nat) (N' : Nat) (w' : Nat → va_E) (H1 : Heap) (locs1 : List Loc), post a' N' w' → gP E a' N' w' H1 → va_S (gA E) s.heap H1 locs1 → W p l e R s m args below meth c H1 locs1 (cells + mc) (slots + ms) Q (F0 m (pc + 3) ls rest)) : W p l e R s m args below meth c H locs cells slots Q (F0 m pc ls st0) :=
  va_callv hr hS (fun _ _ h => h) (fun _ h => h) (fun u t H1 locs1 ht _ hp hB _ _ hS1 => kk u.1 u.2.1 u.2.2 H1 locs1 hp (by rw [← ht]; exact hB) hS1)
theorem g_uafr {a : Array Value} {mc ms : Nat} {post : Nat → (Nat → Nat) → Nat → (Nat → va_E) → Prop} (hr : va_Run p l e R s m args below meth c H locs cells slots mc ms (F0 m pc ls st0) rest (gQUr E post a) (gA E)) (hS : va_S (gA E) s.heap H locs)
    (kk : ∀ (r : Nat) (a' : Nat → Nat) (N' : Nat) (w' : Nat → va_E) (H1 : Heap) (locs1 : List Loc), post r a' N' w' → gP E a' N' w' H1 → va_S (gA E) s.heap H1 locs1 → W p l e R s m args below meth c H1 locs1 (cells + mc) (slots + ms) Q (F0 m (pc + 3) ls (.ref r :: rest))) : W p l e R s m args below meth c H locs cells slots Q (F0 m pc ls st0) :=
  va_callr hr hS (fun _ _ h => h) (fun _ h => h) (fun u ra t H1 locs1 ht _ hp hB _ _ hS1 => by obtain ⟨rfl, hB⟩ := hB; exact kk _ u.2.1 u.2.2.1 u.2.2.2 H1 locs1 hp (by rw [← ht]; exact hB) hS1)
theorem g_uxafi {a : Array Value} {mc ms : Nat} {post : Int32 → (Nat → Nat) → Nat → (Nat → va_E) → Prop} {px : String → (Nat → Nat) → Nat → (Nat → va_E) → Prop} (hr : vx_Run p l e R s m args below meth c H locs cells slots mc ms (F0 m pc ls st0) rest (gQUi E post a) (gXU E px) (gA E)) (hS : va_S (gA E) s.heap H locs)
    (kx : ∀ (x : String) (a' : Nat → Nat) (N' : Nat) (w' : Nat → va_E) (q : Nat) (ce : Cell) (H1 : Heap) (locs1 : List Loc), px x a' N' w' → gP E a' N' w' H1 → va_S (gA E) s.heap H1 locs1 → H1[q]? = some ce → ce.vm = .none → s.vm.findClass x = some ce.cls → vx_W p l e R s m args below meth c H1 locs1 (cells + mc) (slots + ms) Q (F0 m pc ls rest) q)
    (kk : ∀ (r : Int32) (a' : Nat → Nat) (N' : Nat) (w' : Nat → va_E) (H1 : Heap) (locs1 : List Loc), post r a' N' w' → gP E a' N' w' H1 → va_S (gA E) s.heap H1 locs1 → W p l e R s m args below meth c H1 locs1 (cells + mc) (slots + ms) Q (F0 m (pc + 3) ls (.int r :: rest))) : W p l e R s m args below meth c H locs cells slots Q (F0 m pc ls st0) :=
  vx_calli hr hS (fun _ _ h => h) (fun _ h => h) (fun _ _ h => h) (fun x ce q u t H1 locs1 ht _ hp hB _ _ hS1 hc hv hcl => by obtain ⟨rfl, hB⟩ := hB; exact kx _ u.2.1 u.2.2.1 u.2.2.2 q ce H1 locs1 hp (by rw [← ht]; exact hB) hS1 hc hv hcl) (fun r u t H1 locs1 ht _ hp hB _ _ hS1 => kk r u.1 u.2.1 u.2.2 H1 locs1 hp (by rw [← ht]; exact hB) hS1)
theorem g_uthrow (S : gFix p m c cc nL s args own) (hI : gI E s s.heap) (hP : gP E ad N w H) (hS : va_S (gA E) s.heap H locs) (hsize : ls.size = nL) (htab : ∀ x ∈ c.exceptionTable.toList, False) (hlocks : meth.locks = false) (hlt : l.stackTraces = false) (hz : gHx E) {cls text : String} {ik is ic mc ms : Nat} {Qc : Array Value → State → Outcome → State → Prop} {px : String → (Nat → Nat) → Nat → (Nat → va_E) → Prop}
    (q1 : Cond.classLink own ik cls ∈ lw_all) (q2 : Cond.initialized cls ∈ lw_all) (htx : (own, is, text) ∈ gTx) (hg : ∀ w ∈ vx_atS own ic cls gUp, w ∈ lw_all ∨ w ∈ lw_oth) (hcls : Bundle.fit cls = true)
    (d0 : decode cc pc = .ok (.new ik, 3)) (d3 : decode cc (pc + 3) = .ok (.dup, 1)) (d4 : decode cc (pc + 4) = .ok (.ldc is, 2)) (d6 : decode cc (pc + 6) = .ok (.invokespecial ic, 3)) (d9 : decode cc (pc + 9) = .ok (.athrow, 1))
    (hRf : 5 < R.frames) (hRl : (rest.map fun v => v.category).sum + 82 ≤ R.locals) (hRc : cells + 1 ≤ R.cells) (hRs : slots + 6 ≤ R.slots) (hmc : cells + 1 ≤ mc) (hms : slots + 6 ≤ ms) (hpx : px cls ad N w) :
    W p l e R s m args below meth c H locs cells slots (vx_MQ below Qc (gXU E px) args s mc ms (gA E)) (F0 m pc ls rest) := by
  obtain ⟨z1, z2, z3, z4⟩ := hz s s.heap hI.2.2.2.2
  obtain ⟨sa, hsa⟩ := z3 _ htx
  refine vx_throwS S.1 S.2.1 hlt (own := own) (cls := cls) (text := text) (names := gUp) (ik := ik) (is := is) (ic := ic) (sa := sa) (A := gA E) S.2.2.2.1 hcls (by decide +kernel) (S.2.2.2.2 _ q1) (S.2.2.2.2 _ q2) hsa ?_ ?_ z1 z2 hS (hsize.trans S.2.2.1.symm) d0 d3 d4 d6 d9 (fun x hx => (htab x hx).elim) hRf hRl hRc hRs hlocks ?_ hS.2.2 hmc hms
  · intro w hw
    rcases hg w hw with r | r
    · exact S.2.2.2.2 w r
    · exact va_Nw.use (lw_oth_tab r) (z4 w r)
  · intro w hw
    rcases List.mem_cons.mp hw with r | hw
    · subst r; simp [vx_ot, Cond.onTables]
    · rcases List.mem_cons.mp hw with r | hw
      · subst r; simp [vx_ot, Cond.onTables]
      · rcases hg w hw with r | r
        · show (w.onTables || goodWord w) = true
          rw [lw_good w r, Bool.or_true]
        · show (w.onTables || goodWord w) = true
          rw [lw_oth_tab r, Bool.true_or]
  · intro t hal hsz hkp
    refine ⟨(cls, (ad, N, w)), hpx, ⟨rfl, hP.kept hkp⟩, Nat.le_trans hS.1 hsz, fun q hq hn => ?_⟩
    rw [hkp q (Nat.lt_of_lt_of_le hq hS.1)]
    exact hS.2.1 q hq hn
theorem g_uthrowW (S : gFix p m c cc nL s args own) (hI : gI E s s.heap) (hP : gP E ad N w H) (hS : va_S (gA E) s.heap H locs) (hsize : ls.size = nL) (htab : ∀ x ∈ c.exceptionTable.toList, False) (hlocks : meth.locks = false) (hlt : l.stackTraces = false) (hz : gHx E) {cls text : String} {ik is ic mc ms : Nat} {Qc : Array Value → State → Outcome → State → Prop} {px : String → (Nat → Nat) → Nat → (Nat → va_E) → Prop}
    (q1 : Cond.classLink own ik cls ∈ lw_all) (q2 : Cond.initialized cls ∈ lw_all) (htx : (own, is, text) ∈ gTx) (hg : ∀ w ∈ vx_atS own ic cls gUp, w ∈ lw_all ∨ w ∈ lw_oth) (hcls : Bundle.fit cls = true)
    (d0 : decode cc pc = .ok (.new ik, 3)) (d3 : decode cc (pc + 3) = .ok (.dup, 1)) (d4 : decode cc (pc + 4) = .ok (.ldc_w is, 3)) (d6 : decode cc (pc + 7) = .ok (.invokespecial ic, 3)) (d9 : decode cc (pc + 10) = .ok (.athrow, 1))
    (hRf : 5 < R.frames) (hRl : (rest.map fun v => v.category).sum + 82 ≤ R.locals) (hRc : cells + 1 ≤ R.cells) (hRs : slots + 6 ≤ R.slots) (hmc : cells + 1 ≤ mc) (hms : slots + 6 ≤ ms) (hpx : px cls ad N w) :
    W p l e R s m args below meth c H locs cells slots (vx_MQ below Qc (gXU E px) args s mc ms (gA E)) (F0 m pc ls rest) := by
  obtain ⟨z1, z2, z3, z4⟩ := hz s s.heap hI.2.2.2.2
  obtain ⟨sa, hsa⟩ := z3 _ htx
  refine vx_throwSW S.1 S.2.1 hlt (own := own) (cls := cls) (text := text) (names := gUp) (ik := ik) (is := is) (ic := ic) (sa := sa) (A := gA E) S.2.2.2.1 hcls (by decide +kernel) (S.2.2.2.2 _ q1) (S.2.2.2.2 _ q2) hsa ?_ ?_ z1 z2 hS (hsize.trans S.2.2.1.symm) d0 d3 d4 d6 d9 (fun x hx => (htab x hx).elim) hRf hRl hRc hRs hlocks ?_ hS.2.2 hmc hms
  · intro w hw
    rcases hg w hw with r | r
    · exact S.2.2.2.2 w r
    · exact va_Nw.use (lw_oth_tab r) (z4 w r)
  · intro w hw
    rcases List.mem_cons.mp hw with r | hw
    · subst r; simp [vx_ot, Cond.onTables]
    · rcases List.mem_cons.mp hw with r | hw
      · subst r; simp [vx_ot, Cond.onTables]
      · rcases hg w hw with r | r
        · show (w.onTables || goodWord w) = true
          rw [lw_good w r, Bool.or_true]
        · show (w.onTables || goodWord w) = true
          rw [lw_oth_tab r, Bool.true_or]
  · intro t hal hsz hkp
    refine ⟨(cls, (ad, N, w)), hpx, ⟨rfl, hP.kept hkp⟩, Nat.le_trans hS.1 hsz, fun q hq hn => ?_⟩
    rw [hkp q (Nat.lt_of_lt_of_le hq hS.1)]
    exact hS.2.1 q hq hn
theorem g_uxout (S : gFix p m c cc nL s args own) (hI : gI E s s.heap) (hS : va_S (gA E) s.heap H locs) (htab : ∀ x ∈ c.exceptionTable.toList, False) (hlocks : meth.locks = false) {Qc : Array Value → State → Outcome → State → Prop} {px : String → (Nat → Nat) → Nat → (Nat → va_E) → Prop} {mc ms q : Nat} {ce : Cell} {x : String} (hP : gP E ad N w H) (hcell : H[q]? = some ce) (hv : ce.vm = .none) (hcl : s.vm.findClass x = some ce.cls) (hpx : px x ad N w) (hmc : cells ≤ mc) (hms : slots ≤ ms) :
    vx_W p l e R s m args below meth c H locs cells slots (vx_MQ below Qc (gXU E px) args s mc ms (gA E)) (F0 m pc ls rest) q :=
  vx_out (fun x hx => (htab x hx).elim) hlocks hcell hv hcl (fun t ht _ => ⟨(x, (ad, N, w)), hpx, ⟨rfl, by show gP E ad N w t.heap; rw [ht]; exact hP⟩, hS.F ht⟩) hS.2.2 hmc hms
/-- a call of a superclass's method: by the object's class; with super -/
theorem g_runU (S : gFix p m c cc nL s args own) (hI : gI E s s.heap) (hP : gP E ad N w H) (hS : va_S (gA E) s.heap H locs) {y : MethodName} {bytes : ByteArray} {maxL index mc ms k : Nat} {ret : Option FieldType} {rm : Room} {C : String} {T : u_T} {n ci q0 : Nat} {fs As : List Value} {Qc : Array Value → State → Outcome → State → Prop}
    (hM : Met l y (lw_ws y bytes maxL ret) rm (gPc E ad N w (.ref (ad q0) :: As)) Qc mc ms (gA E)) (q1 : Cond.methodLink own index y ∈ lw_all) (q6 : Cond.sameMethod y.cls y.cls y.name y.desc ∈ lw_all) (q2 : Cond.instanceMethod y ∈ lw_all) (q3 : Cond.selects C y y ∈ lw_all) (q4 : Cond.initialized y.cls ∈ lw_all) (q5 : Cond.code y bytes maxL ret ∈ lw_all) (hrc : rm.cells = mc) (hrs : rm.slots = ms)
    (hd : y.cls ≠ "java/lang/invoke/MethodHandle" ∧ y.cls ≠ "java/lang/invoke/VarHandle" ∧ (parseMethodDescriptor y.desc).map (fun d => d.parameters.length) = some k) (hR : rm.frames + 1 ≤ R.frames ∧ 8 + (maxL + 11) + rm.locals ≤ R.locals)
    (hc : vwCl[ci]? = some (C, T, n)) (hq : q0 < N) (he : w q0 = .inr (ci, fs)) (hn : As.length = k) (hsize : ls.size = nL) (hst : st0 = As.reverse ++ .ref (ad q0) :: rest) (hW : (rest.map fun v => v.category).sum ≤ 8) (hf : cells + mc ≤ R.cells ∧ slots + ms ≤ R.slots) (hdg : decode cc pc = .ok (.invokevirtual index, 3)) :
    va_Run p l e R s m args below meth c H locs cells slots mc ms (F0 m pc ls st0) rest (Qc (Value.ref (ad q0) :: As).toArray) (gA E) :=
  va_runU (As := As) (rest := rest) (x := y) (owner := y.cls) S hM (va_cwU k S.2.2.2.2 (fun w hw => by
    rcases List.mem_append.mp hw with h | h
    · have hq : w ∈ lw_all := by
        simp only [List.mem_cons, List.not_mem_nil, or_false] at h
        rcases h with rfl | rfl | rfl | rfl | rfl <;> assumption
      exact ⟨hq, good_of_word (lw_good _ hq)⟩
    · exact lw_goodIn q5 w h) rfl hrc hrs rfl hd hR) (g_preV hI hP hS hc hq he) rfl hn hsize hst (lv_room hW) hdg hf
theorem g_runSU (S : gFix p m c cc nL s args own) (hI : gI E s s.heap) (hP : gP E ad N w H) (hS : va_S (gA E) s.heap H locs) {y : MethodName} {bytes : ByteArray} {maxL index mc ms k : Nat} {ret : Option FieldType} {rm : Room} {C : String} {T : u_T} {n ci q0 : Nat} {fs As : List Value} {Qc : Array Value → State → Outcome → State → Prop}
    (hM : Met l y (lw_ws y bytes maxL ret) rm (gPc E ad N w (.ref (ad q0) :: As)) Qc mc ms (gA E)) (q1 : Cond.methodLink own index y ∈ lw_all) (q6 : Cond.sameMethod y.cls y.cls y.name y.desc ∈ lw_all) (q7 : Cond.superclass own y.cls ∈ lw_all) (q2 : Cond.instanceMethod y ∈ lw_all) (q4 : Cond.initialized y.cls ∈ lw_all) (q5 : Cond.code y bytes maxL ret ∈ lw_all) (hrc : rm.cells = mc) (hrs : rm.slots = ms)
    (hd : y.name ≠ "<init>" ∧ (parseMethodDescriptor y.desc).map (fun d => d.parameters.length) = some k) (hR : rm.frames + 1 ≤ R.frames ∧ 8 + (maxL + 11) + rm.locals ≤ R.locals)
    (hc : vwCl[ci]? = some (C, T, n)) (hq : q0 < N) (he : w q0 = .inr (ci, fs)) (hn : As.length = k) (hsize : ls.size = nL) (hst : st0 = As.reverse ++ .ref (ad q0) :: rest) (hW : (rest.map fun v => v.category).sum ≤ 8) (hf : cells + mc ≤ R.cells ∧ slots + ms ≤ R.slots) (hdg : decode cc pc = .ok (.invokespecial index, 3)) :
    va_Run p l e R s m args below meth c H locs cells slots mc ms (F0 m pc ls st0) rest (Qc (Value.ref (ad q0) :: As).toArray) (gA E) :=
  va_runSU (As := As) (rest := rest) (hI.1.1 ci _ hc).2 S hM (va_cwSU k S.2.2.2.2 (fun w hw => by
    rcases List.mem_append.mp hw with h | h
    · have hq : w ∈ lw_all := by
        simp only [List.mem_cons, List.not_mem_nil, or_false] at h
        rcases h with rfl | rfl | rfl | rfl | rfl <;> assumption
      exact ⟨hq, good_of_word (lw_good _ hq)⟩
    · exact lw_goodIn q5 w h) rfl hrc hrs hd hR) (g_preV hI hP hS hc hq he) rfl hn hsize hst (lv_room hW) hdg hf
/-- bytes -/
theorem g_bald (S : gFix p m c cc nL s args own) (hI : gI E s s.heap) (hP : gP E ad N w H) {q0 n : Nat} {f : Nat → Nat} (hq : q0 < N) (he : w q0 = gAr (E.2.1 3) n f) (i : Nat) (hi : i < n) (hn : n < 2 ^ 31) (hdg : decode cc pc = .ok (.baload, 1))
    (kk : W p l e R s m args below meth c H locs cells slots Q (F0 m (pc + 1) ls (.int (nI (f i)) :: rest))) : W p l e R s m args below meth c H locs cells slots Q (F0 m pc ls (.int (nI i) :: .ref (ad q0) :: rest)) := by
  refine va_bald (D := E.1) (cl := vwCl) (tys := gT E) (ws := gl ad N w) S.1 S.2.1 hI.1 hP.1 q0 3 (f := fun j => nI (f j)) (by rw [gl_get hq, he]) rfl (vp_in_nI hi hn) hdg ?_
  rw [nI_clamp (Nat.lt_trans hi hn)]
  exact kk
theorem g_bast (S : gFix p m c cc nL s args own) (hI : gI E s s.heap) (hP : gP E ad N w H) (hS : va_S (gA E) s.heap H locs) {q0 n : Nat} {f : Nat → Nat} (hq : q0 < N) (he : w q0 = gAr (E.2.1 3) n f) (i : Nat) (hi : i < n) (hn : n < 2 ^ 31) {x : Nat} (hx : x < 128) (hdg : decode cc pc = .ok (.bastore, 1))
    (kk : ∀ (H1 : Heap) (locs1 : List Loc), gP E ad N (va_up w q0 (gAr (E.2.1 3) n (va_up f i x))) H1 → va_S (gA E) s.heap H1 locs1 → W p l e R s m args below meth c H1 locs1 cells slots Q (F0 m (pc + 1) ls rest)) : W p l e R s m args below meth c H locs cells slots Q (F0 m pc ls (.int (nI x) :: .int (nI i) :: .ref (ad q0) :: rest)) := by
  refine va_bast (D := E.1) (cl := vwCl) (tys := gT E) (ws := gl ad N w) (A := gA E) S.1 S.2.1 hI.1 hP.1 hP.2 hS q0 3 (f := fun j => nI (f j)) (by rw [gl_get hq, he]) rfl (vp_in_nI hi hn) hdg (fun H1 locs1 a b d => ?_)
  rw [gl_set hq, nI_clamp (Nat.lt_trans hi hn), show vp_nar .byte (nI x) = nI x from nI_i2b x hx, upd_nI] at a b
  exact kk H1 locs1 ⟨a, b⟩ d
/-- rows of objects: made, written, emptied -/
theorem g_anew (S : gFix p m c cc nL s args own) (hI : gI E s s.heap) (hP : gP E ad N w H) (hS : va_S (gA E) s.heap H locs) {C : String} {index : Nat} (t : Nat) {cA0 : ClassId} (ht : (gT E)[t]? = some (cA0, .object C)) (q1 : Cond.classLink own index C ∈ lw_all) (hao : va_AO C s) (k : Nat) (hk : k < 2 ^ 27) (hcells : cells + 1 ≤ R.cells) (hslots : slots + k ≤ R.slots) (hdg : decode cc pc = .ok (.anewarray index, 3))
    (kk : ∀ (a1 : Nat → Nat) (w1 : Nat → va_E) (H1 : Heap), gP E a1 (N + 1) w1 H1 → va_S (gA E) s.heap H1 locs → (∀ p, p < N → a1 p = ad p) → (∀ p, p < N → w1 p = w p) → w1 N = rwA cA0 k (fun _ => none) → W p l e R s m args below meth c H1 locs (cells + 1) (slots + k) Q (F0 m (pc + 3) ls (.ref (a1 N) :: rest))) : W p l e R s m args below meth c H locs cells slots Q (F0 m pc ls (.int (nI k) :: rest)) := by
  refine va_newq (D := E.1) (cl := vwCl) (tys := gT E) (ws := gl ad N w) (A := gA E) S.1 S.2.1 S.2.2.2.1 (S.2.2.2.2 _ q1) hao hI.1 hP.1 hP.2 hS (fun q hq => Nat.le_trans hI.2.2.1 hq) (nI_pos (by omega)) (nI_clamp (by omega)) (by omega) hcells hslots hdg (fun q cA H1 hK1 a b d => ?_)
  obtain ⟨kA1, c1, -, -, -, e1⟩ := (hI.1.2 t _ ht).2
  obtain ⟨kA2, c2, -, -, -, e2⟩ := (hK1.2 (gT E).length (cA, .object C) (by rw [List.getElem?_append_right (Nat.le_refl _)]; simp)).2
  have e3 : cA0 = cA := Option.some.inj (e1.symm.trans e2)
  subst e3
  rw [gl_push] at a b
  have h := kk (va_up ad N q) (va_up w N (rwA cA0 k (fun _ => none))) H1 ⟨a, b⟩ d (fun p hp => va_up_ne _ _ (Nat.ne_of_lt hp)) (fun p hp => va_up_ne _ _ (Nat.ne_of_lt hp)) (va_up_self _ _ _)
  rw [va_up_self] at h
  exact h
theorem g_astO (S : gFix p m c cc nL s args own) (hI : gI E s s.heap) (hP : gP E ad N w H) (hS : va_S (gA E) s.heap H locs) {q0 n t qk ci nk : Nat} {Ck C : String} {Tk : u_T} {fs : List Value} {f : Nat → Option Nat} {cA : ClassId} (hq : q0 < N) (he : w q0 = rwA cA n f) (ht : (gT E)[t]? = some (cA, .object C)) (hca : va_Nw (.castable Ck C) s) (hqk : qk < N) (hek : w qk = .inr (ci, fs)) (hc : vwCl[ci]? = some (Ck, Tk, nk)) (i : Nat) (hi : i < n) (hn : n < 2 ^ 31) (hdg : decode cc pc = .ok (.aastore, 1))
    (kk : ∀ (H1 : Heap) (locs1 : List Loc), gP E ad N (va_up w q0 (rwA cA n (va_up f i (some (ad qk))))) H1 → va_S (gA E) s.heap H1 locs1 → W p l e R s m args below meth c H1 locs1 cells slots Q (F0 m (pc + 1) ls rest)) : W p l e R s m args below meth c H locs cells slots Q (F0 m pc ls (.ref (ad qk) :: .int (nI i) :: .ref (ad q0) :: rest)) := by
  refine va_astqO (D := E.1) (cl := vwCl) (tys := gT E) (ws := gl ad N w) (A := gA E) S.1 S.2.1 hI.1 hP.1 hP.2 hS q0 t qk ci (by rw [gl_get hq, he]) ht hca (by rw [gl_get hqk, hek]) hc (vp_in_nI hi hn) hdg (fun H1 locs1 a b d => ?_)
  rw [gl_set hq, nI_clamp (Nat.lt_trans hi hn)] at a b
  exact kk H1 locs1 ⟨a, b⟩ d
theorem g_astN (S : gFix p m c cc nL s args own) (hI : gI E s s.heap) (hP : gP E ad N w H) (hS : va_S (gA E) s.heap H locs) {q0 n t : Nat} {C : String} {f : Nat → Option Nat} {cA : ClassId} (hq : q0 < N) (he : w q0 = rwA cA n f) (ht : (gT E)[t]? = some (cA, .object C)) (i : Nat) (hi : i < n) (hn : n < 2 ^ 31) (hdg : decode cc pc = .ok (.aastore, 1))
    (kk : ∀ (H1 : Heap) (locs1 : List Loc), gP E ad N (va_up w q0 (rwA cA n (va_up f i none))) H1 → va_S (gA E) s.heap H1 locs1 → W p l e R s m args below meth c H1 locs1 cells slots Q (F0 m (pc + 1) ls rest)) : W p l e R s m args below meth c H locs cells slots Q (F0 m pc ls (.null :: .int (nI i) :: .ref (ad q0) :: rest)) := by
  refine va_astqN (D := E.1) (cl := vwCl) (tys := gT E) (ws := gl ad N w) (A := gA E) S.1 S.2.1 hI.1 hP.1 hP.2 hS q0 t (by rw [gl_get hq, he]) ht (vp_in_nI hi hn) hdg (fun H1 locs1 a b d => ?_)
  rw [gl_set hq, nI_clamp (Nat.lt_trans hi hn)] at a b
  exact kk H1 locs1 ⟨a, b⟩ d
/-- a row of bytes is made -/
theorem g_newaM (S : gFix p m c cc nL s args own) (hI : gI E s s.heap) (hP : gP E ad N w H) (hS : va_S (gA E) s.heap H locs) {atype : ArrayType} {ty : FieldType} (t : Nat) {cA0 : ClassId} (ht : (gT E)[t]? = some (cA0, ty)) (hra : ∀ (U : State) (cA : ClassId), va_RA U cA ty → U.vm.findClass ("[" ++ ty.toString) = some cA) (hty : newarray.typeOf atype = ty) (q1 : Cond.arrayClass (newarray.typeOf atype) ∈ lw_all) (k : Nat) (hdv : defaultValue ty = .int (nI 0)) (hk : k < 2 ^ 31) (hbytes : k * componentBytes ty ≤ 536870912) (hcells : cells + 1 ≤ R.cells) (hslots : slots + k ≤ R.slots) (hdg : decode cc pc = .ok (.newarray atype, 2))
    (kk : ∀ (a1 : Nat → Nat) (w1 : Nat → va_E) (H1 : Heap), gP E a1 (N + 1) w1 H1 → va_S (gA E) s.heap H1 locs → (∀ p, p < N → a1 p = ad p) → (∀ p, p < N → w1 p = w p) → w1 N = gAr cA0 k (fun _ => 0) → W p l e R s m args below meth c H1 locs (cells + 1) (slots + k) Q (F0 m (pc + 2) ls (.ref (a1 N) :: rest))) : W p l e R s m args below meth c H locs cells slots Q (F0 m pc ls (.int (nI k) :: rest)) := by
  refine g_newa S hI hP hS t ht hra hty q1 k (a0 := (k, .inl (fun _ => nI 0))) (fun cA => by rw [vp_cell_i, hdv]) hk hbytes hcells hslots hdg (fun q H1 hP1 hS1 => ?_)
  have h := kk (va_up ad N q) (va_up w N (gAr cA0 k (fun _ => 0))) H1 hP1 hS1 (fun p hp => va_up_ne _ _ (Nat.ne_of_lt hp)) (fun p hp => va_up_ne _ _ (Nat.ne_of_lt hp)) (va_up_self _ _ _)
  rw [va_up_self] at h
  exact h
end GROW8
