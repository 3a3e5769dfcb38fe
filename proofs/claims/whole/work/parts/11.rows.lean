/-! BLOCKS OF THE WORLD: an object and its arrays side by side; frames by places; rows over naturals -/
abbrev gAr (c : ClassId) (n : Nat) (f : Nat → Nat) : va_E := .inl (c, n, .inl (fun j => nI (f j)))
def bkP (N : Nat) (w : Nat → va_E) (b n : Nat) (C : Nat → va_E) : Prop := b + n ≤ N ∧ ∀ k, k < n → w (b + k) = C k
theorem bkP.lt {N b n : Nat} {w C : Nat → va_E} (h : bkP N w b n C) (k : Nat) (hk : k < n) : b + k < N := by have := h.1; omega
theorem bkP.to {N b n : Nat} {w C C' : Nat → va_E} (h : bkP N w b n C) (e : ∀ k, k < n → C k = C' k) : bkP N w b n C' := ⟨h.1, fun k hk => (h.2 k hk).trans (e k hk)⟩
theorem bkP.set {N b n : Nat} {w C : Nat → va_E} (h : bkP N w b n C) (j : Nat) (hj : j < n) (e : va_E) : bkP N (va_up w (b + j) e) b n (va_up C j e) := by
  refine ⟨h.1, fun k hk => ?_⟩
  by_cases hkj : k = j
  · subst hkj; rw [va_up_self, va_up_self]
  · rw [va_up_ne _ _ hkj, va_up_ne _ _ (by omega)]; exact h.2 k hk
theorem bkP.keep {N b n : Nat} {w C : Nat → va_E} (h : bkP N w b n C) {p : Nat} {e : va_E} (hp : p < b ∨ b + n ≤ p) : bkP N (va_up w p e) b n C :=
  ⟨h.1, fun k hk => by rw [va_up_ne _ _ (by omega)]; exact h.2 k hk⟩
def gFr (P : Nat → Prop) (w w' : Nat → va_E) : Prop := ∀ q, ¬ P q → w' q = w q
theorem gFr.rf {P : Nat → Prop} {w : Nat → va_E} : gFr P w w := fun _ _ => rfl
theorem gFr.up {P : Nat → Prop} {w w' : Nat → va_E} (h : gFr P w w') {p : Nat} {e : va_E} (hp : P p) : gFr P w (va_up w' p e) := fun q hq => by
  rw [va_up_ne _ _ (fun x => hq (by rw [x]; exact hp))]; exact h q hq
theorem gFr.trans {P P1 : Nat → Prop} {w w1 w2 : Nat → va_E} (h : gFr P w w1) (h1 : gFr P1 w1 w2) (hP : ∀ q, P1 q → P q) : gFr P w w2 := fun q hq => (h1 q (fun x => hq (hP q x))).trans (h q hq)
theorem bkP.fr {N b n : Nat} {w w' C : Nat → va_E} {P : Nat → Prop} (h : bkP N w b n C) (hf : gFr P w w') (hP : ∀ k, k < n → ¬ P (b + k)) : bkP N w' b n C := ⟨h.1, fun k hk => (hf _ (hP k hk)).trans (h.2 k hk)⟩
abbrev gIn (b n : Nat) : Nat → Prop := fun q => b ≤ q ∧ q < b + n
/-- a boolean and an optional number as the machine has them -/
def bI (b : Bool) : Int32 := if b = true then nI 1 else nI 0
def oI (o : Option Nat) : Int32 := match o with
  | none => -1
  | some k => nI k
theorem bI_01 (b : Bool) : bI b = 0 ∨ bI b = 1 := by cases b <;> decide +kernel
theorem g_inc (t : Nat) {n : Int} (k : Nat) (h : Int32.ofInt n = nI k) : nI t + Int32.ofInt n = nI (t + k) := by rw [h, nI_add]
theorem g_dec1 {t : Nat} (h : 1 ≤ t) : nI t + Int32.ofInt (-1) = nI (t - 1) := by
  have e : t = (t - 1) + 1 := by omega
  rw [e, show Int32.ofInt (-1) = (-1 : Int32) from by decide +kernel, pk_m1]
  rfl
theorem upd_nI (f : Nat → Nat) (i v : Nat) : upd (fun j => nI (f j)) i (nI v) = fun j => nI (va_up f i v j) := by
  funext j
  by_cases h : j = i
  · subst h; simp [upd, va_up]
  · simp [upd, va_up, h]
theorem nI_m1 {a : Nat} (h : a < 2 ^ 31) : ¬ nI a = (-1 : Int32) := fun e => by
  have h1 := nI_toInt h
  rw [e] at h1
  have h2 : ((-1 : Int32)).toInt = -1 := by decide +kernel
  omega
section GROW2
variable {p : Program} {l : Launch} {e : Env} {R : Room} {s : State} {m : MethodId} {args : Array Value} {below : List Frame} {meth : Method} {c : Code} {H : Heap} {locs : List Loc} {cells slots : Nat} {Q : State → Prop}
variable {cc : ByteArray} {pc nL : Nat} {ls : Array Slot} {rest st0 : List Value} {own : String} {E : gE} {ad : Nat → Nat} {N : Nat} {w : Nat → va_E}
theorem g_iastN (S : gFix p m c cc nL s args own) (hI : gI E s s.heap) (hP : gP E ad N w H) (hS : va_S (gA E) s.heap H locs) {q0 n : Nat} {f : Nat → Nat} (hq : q0 < N) (he : w q0 = gAr (E.2.1 0) n f) (i : Nat) (hi : i < n) (hn : n < 2 ^ 31) {x : Nat} (hdg : decode cc pc = .ok (.iastore, 1))
    (kk : ∀ (H1 : Heap) (locs1 : List Loc), gP E ad N (va_up w q0 (gAr (E.2.1 0) n (va_up f i x))) H1 → va_S (gA E) s.heap H1 locs1 → W p l e R s m args below meth c H1 locs1 cells slots Q (F0 m (pc + 1) ls rest)) : W p l e R s m args below meth c H locs cells slots Q (F0 m pc ls (.int (nI x) :: .int (nI i) :: .ref (ad q0) :: rest)) := by
  refine g_iast S hI hP hS hq he i hi hn hdg (fun H1 locs1 a b => ?_)
  rw [upd_nI] at a
  exact kk H1 locs1 a b
theorem g_zastN (S : gFix p m c cc nL s args own) (hI : gI E s s.heap) (hP : gP E ad N w H) (hS : va_S (gA E) s.heap H locs) {q0 n : Nat} {f : Nat → Nat} (hq : q0 < N) (he : w q0 = gAr (E.2.1 1) n f) (i : Nat) (hi : i < n) (hn : n < 2 ^ 31) {x : Nat} (hx : x = 0 ∨ x = 1) (hdg : decode cc pc = .ok (.bastore, 1))
    (kk : ∀ (H1 : Heap) (locs1 : List Loc), gP E ad N (va_up w q0 (gAr (E.2.1 1) n (va_up f i x))) H1 → va_S (gA E) s.heap H1 locs1 → W p l e R s m args below meth c H1 locs1 cells slots Q (F0 m (pc + 1) ls rest)) : W p l e R s m args below meth c H locs cells slots Q (F0 m pc ls (.int (nI x) :: .int (nI i) :: .ref (ad q0) :: rest)) := by
  refine g_zast S hI hP hS hq he i hi hn (by rcases hx with rfl | rfl <;> decide +kernel) hdg (fun H1 locs1 a b => ?_)
  rw [upd_nI] at a
  exact kk H1 locs1 a b
theorem g_castN (S : gFix p m c cc nL s args own) (hI : gI E s s.heap) (hP : gP E ad N w H) (hS : va_S (gA E) s.heap H locs) {q0 n : Nat} {f : Nat → Nat} (hq : q0 < N) (he : w q0 = gAr (E.2.1 2) n f) (i : Nat) (hi : i < n) (hn : n < 2 ^ 31) {x : Nat} (hx : x < 65536) (hdg : decode cc pc = .ok (.castore, 1))
    (kk : ∀ (H1 : Heap) (locs1 : List Loc), gP E ad N (va_up w q0 (gAr (E.2.1 2) n (va_up f i x))) H1 → va_S (gA E) s.heap H1 locs1 → W p l e R s m args below meth c H1 locs1 cells slots Q (F0 m (pc + 1) ls rest)) : W p l e R s m args below meth c H locs cells slots Q (F0 m pc ls (.int (nI x) :: .int (nI i) :: .ref (ad q0) :: rest)) := by
  refine g_cast S hI hP hS hq he i hi hn hx hdg (fun H1 locs1 a b => ?_)
  rw [upd_nI] at a
  exact kk H1 locs1 a b
theorem g_alen (S : gFix p m c cc nL s args own) (hI : gI E s s.heap) (hP : gP E ad N w H) {q0 n t0 : Nat} {cA : ClassId} {f : Nat → Nat} {ty : FieldType} (hq : q0 < N) (he : w q0 = gAr cA n f) (ht : (gT E)[t0]? = some (cA, ty)) (hdg : decode cc pc = .ok (.arraylength, 1))
    (kk : W p l e R s m args below meth c H locs cells slots Q (F0 m (pc + 1) ls (.int (nI n) :: rest))) : W p l e R s m args below meth c H locs cells slots Q (F0 m pc ls (.ref (ad q0) :: rest)) :=
  va_alen (D := E.1) (cl := vwCl) (tys := gT E) (ws := gl ad N w) (x := (n, .inl (fun j => nI (f j)))) S.1 S.2.1 hI.1 hP.1 q0 t0 (by rw [gl_get hq, he]) ht rfl hdg kk
/-- a call of a method of the world's own: by its receiver's class; static; of a nest mate -/
theorem g_runV (S : gFix p m c cc nL s args own) (hI : gI E s s.heap) (hP : gP E ad N w H) (hS : va_S (gA E) s.heap H locs) {y : MethodName} {bytes : ByteArray} {maxL index mc ms k : Nat} {ret : Option FieldType} {rm : Room} {C : String} {T : u_T} {n ci q0 : Nat} {fs As : List Value} {Qc : Array Value → State → Outcome → State → Prop}
    (hM : Met l y (lw_ws y bytes maxL ret) rm (gPc E ad N w (.ref (ad q0) :: As)) Qc mc ms (gA E)) (q1 : Cond.methodLink own index y ∈ lw_all) (q2 : Cond.instanceMethod y ∈ lw_all) (q3 : Cond.selects C y y ∈ lw_all) (q4 : Cond.initialized C ∈ lw_all) (q5 : Cond.code y bytes maxL ret ∈ lw_all) (hrc : rm.cells = mc) (hrs : rm.slots = ms)
    (hd : y.cls = C ∧ y.cls ≠ "java/lang/invoke/MethodHandle" ∧ y.cls ≠ "java/lang/invoke/VarHandle" ∧ (parseMethodDescriptor y.desc).map (fun d => d.parameters.length) = some k) (hR : rm.frames + 1 ≤ R.frames ∧ 8 + (maxL + 11) + rm.locals ≤ R.locals)
    (hc : vwCl[ci]? = some (C, T, n)) (hq : q0 < N) (he : w q0 = .inr (ci, fs)) (hn : As.length = k) (hsize : ls.size = nL) (hst : st0 = As.reverse ++ .ref (ad q0) :: rest) (hW : (rest.map fun v => v.category).sum ≤ 8) (hf : cells + mc ≤ R.cells ∧ slots + ms ≤ R.slots) (hdg : decode cc pc = .ok (.invokevirtual index, 3)) :
    va_Run p l e R s m args below meth c H locs cells slots mc ms (F0 m pc ls st0) rest (Qc (Value.ref (ad q0) :: As).toArray) (gA E) :=
  va_runV (As := As) (rest := rest) S hM (g_cwV S q1 q2 q3 q4 q5 hrc hrs hd hR) (g_preV hI hP hS hc hq he) rfl hn hsize hst (lv_room hW) hdg hf
theorem g_runS (S : gFix p m c cc nL s args own) (hI : gI E s s.heap) (hP : gP E ad N w H) (hS : va_S (gA E) s.heap H locs) {y : MethodName} {bytes : ByteArray} {maxL index mc ms k : Nat} {ret : Option FieldType} {rm : Room} {As : List Value} {Qc : Array Value → State → Outcome → State → Prop}
    (hM : Met l y (lw_ws y bytes maxL ret) rm (gPc E ad N w As) Qc mc ms (gA E)) (q1 : Cond.methodLink own index y ∈ lw_all) (q2 : Cond.static y ∈ lw_all) (q4 : Cond.initialized own ∈ lw_all) (q5 : Cond.code y bytes maxL ret ∈ lw_all) (hrc : rm.cells = mc) (hrs : rm.slots = ms)
    (hd : y.cls = own ∧ y.cls ≠ "java/lang/invoke/MethodHandle" ∧ y.cls ≠ "java/lang/invoke/VarHandle" ∧ (parseMethodDescriptor y.desc).map (fun d => d.parameters.length) = some k) (hR : rm.frames + 1 ≤ R.frames ∧ 8 + (maxL + 11) + rm.locals ≤ R.locals)
    (hn : As.length = k) (hsize : ls.size = nL) (hst : st0 = As.reverse ++ rest) (hW : (rest.map fun v => v.category).sum ≤ 8) (hf : cells + mc ≤ R.cells ∧ slots + ms ≤ R.slots) (hdg : decode cc pc = .ok (.invokestatic index, 3)) :
    va_Run p l e R s m args below meth c H locs cells slots mc ms (F0 m pc ls st0) rest (Qc As.toArray) (gA E) :=
  va_runS (As := As) (rest := rest) S hM (g_cwS S q1 q2 q4 q5 hrc hrs hd hR) (g_preS hI hP hS) rfl hn hsize hst (lv_room hW) hdg hf
theorem g_runSN (S : gFix p m c cc nL s args own) (hI : gI E s s.heap) (hP : gP E ad N w H) (hS : va_S (gA E) s.heap H locs) {y : MethodName} {bytes : ByteArray} {maxL index mc ms k : Nat} {ret : Option FieldType} {rm : Room} {host : String} {As : List Value} {Qc : Array Value → State → Outcome → State → Prop}
    (hM : Met l y (lw_ws y bytes maxL ret) rm (gPc E ad N w As) Qc mc ms (gA E)) (q1 : Cond.methodLinkNest own index y host ∈ lw_nest) (q2 : Cond.static y ∈ lw_all) (q4 : Cond.initialized y.cls ∈ lw_all) (q5 : Cond.code y bytes maxL ret ∈ lw_all) (hrc : rm.cells = mc) (hrs : rm.slots = ms)
    (hd : y.cls ≠ "java/lang/invoke/MethodHandle" ∧ y.cls ≠ "java/lang/invoke/VarHandle" ∧ (parseMethodDescriptor y.desc).map (fun d => d.parameters.length) = some k) (hR : rm.frames + 1 ≤ R.frames ∧ 8 + (maxL + 11) + rm.locals ≤ R.locals)
    (hn : As.length = k) (hsize : ls.size = nL) (hst : st0 = As.reverse ++ rest) (hW : (rest.map fun v => v.category).sum ≤ 8) (hf : cells + mc ≤ R.cells ∧ slots + ms ≤ R.slots) (hdg : decode cc pc = .ok (.invokestatic index, 3)) :
    va_Run p l e R s m args below meth c H locs cells slots mc ms (F0 m pc ls st0) rest (Qc As.toArray) (gA E) :=
  va_runSN (As := As) (rest := rest) S hM (have h := g_cwSN S hI q1 q2 q4 q5 hrc hrs hd hR; ⟨h.1, h.2, trivial⟩) (g_preS hI hP hS) rfl hn hsize hst (lv_room hW) hdg hf
/-- branches: a natural against nought, a boolean, an optional number -/
theorem g_ifeq {a : Nat} (S : gFix p m c cc nL s args own) (ha : a < 2 ^ 31) {off : Int} {tgt : Nat} (hdg : decode cc pc = .ok (.ifCond .eq off, 3)) (ht : (pc : Int) + off = (tgt : Int)) (k1 : a = 0 → W p l e R s m args below meth c H locs cells slots Q (F0 m tgt ls rest)) (k2 : 0 < a → W p l e R s m args below meth c H locs cells slots Q (F0 m (pc + 3) ls rest)) : W p l e R s m args below meth c H locs cells slots Q (F0 m pc ls (.int (nI a) :: rest)) :=
  lv_if_eq S.1 S.2.1 hdg ht (fun h => k1 ((nI_eq ha (by decide)).mp (h.trans nI_0.symm))) (fun h => k2 (Nat.pos_of_ne_zero (fun q => h (by rw [q]; exact nI_0))))
theorem g_ifne {a : Nat} (S : gFix p m c cc nL s args own) (ha : a < 2 ^ 31) {off : Int} {tgt : Nat} (hdg : decode cc pc = .ok (.ifCond .ne off, 3)) (ht : (pc : Int) + off = (tgt : Int)) (k1 : 0 < a → W p l e R s m args below meth c H locs cells slots Q (F0 m tgt ls rest)) (k2 : a = 0 → W p l e R s m args below meth c H locs cells slots Q (F0 m (pc + 3) ls rest)) : W p l e R s m args below meth c H locs cells slots Q (F0 m pc ls (.int (nI a) :: rest)) :=
  lv_if_ne S.1 S.2.1 hdg ht (fun h => k1 (Nat.pos_of_ne_zero (fun q => h (by rw [q]; exact nI_0)))) (fun h => k2 ((nI_eq ha (by decide)).mp (h.trans nI_0.symm)))
theorem g_ifle {a : Nat} (S : gFix p m c cc nL s args own) (ha : a < 2 ^ 31) {off : Int} {tgt : Nat} (hdg : decode cc pc = .ok (.ifCond .le off, 3)) (ht : (pc : Int) + off = (tgt : Int)) (k1 : a = 0 → W p l e R s m args below meth c H locs cells slots Q (F0 m tgt ls rest)) (k2 : 0 < a → W p l e R s m args below meth c H locs cells slots Q (F0 m (pc + 3) ls rest)) : W p l e R s m args below meth c H locs cells slots Q (F0 m pc ls (.int (nI a) :: rest)) :=
  lv_if_le S.1 S.2.1 hdg ht (fun h => k1 (by rw [← nI_0, nI_leI ha (by decide)] at h; omega)) (fun h => k2 (Nat.pos_of_ne_zero (fun q => h (by rw [q, nI_0]; decide +kernel))))
theorem g_ifgt {a : Nat} (S : gFix p m c cc nL s args own) (ha : a < 2 ^ 31) {off : Int} {tgt : Nat} (hdg : decode cc pc = .ok (.ifCond .gt off, 3)) (ht : (pc : Int) + off = (tgt : Int)) (k1 : 0 < a → W p l e R s m args below meth c H locs cells slots Q (F0 m tgt ls rest)) (k2 : a = 0 → W p l e R s m args below meth c H locs cells slots Q (F0 m (pc + 3) ls rest)) : W p l e R s m args below meth c H locs cells slots Q (F0 m pc ls (.int (nI a) :: rest)) :=
  lv_if_gt S.1 S.2.1 hdg ht (fun h => k1 (by rw [← nI_0, nI_ltI (by decide) ha] at h; exact h)) (fun h => k2 (Nat.eq_zero_of_not_pos (fun q => h (by rw [← nI_0, nI_ltI (by decide) ha]; exact q))))
theorem g_iflt {a : Nat} (S : gFix p m c cc nL s args own) (ha : a < 2 ^ 31) {off : Int} {tgt : Nat} (hdg : decode cc pc = .ok (.ifCond .lt off, 3)) (ht : (pc : Int) + off = (tgt : Int)) (k2 : W p l e R s m args below meth c H locs cells slots Q (F0 m (pc + 3) ls rest)) : W p l e R s m args below meth c H locs cells slots Q (F0 m pc ls (.int (nI a) :: rest)) :=
  lv_if_lt S.1 S.2.1 hdg ht (fun h => absurd h (nI_pos ha)) (fun _ => k2)
theorem g_ifge {a : Nat} (S : gFix p m c cc nL s args own) (ha : a < 2 ^ 31) {off : Int} {tgt : Nat} (hdg : decode cc pc = .ok (.ifCond .ge off, 3)) (ht : (pc : Int) + off = (tgt : Int)) (k1 : W p l e R s m args below meth c H locs cells slots Q (F0 m tgt ls rest)) : W p l e R s m args below meth c H locs cells slots Q (F0 m pc ls (.int (nI a) :: rest)) :=
  lv_if_ge S.1 S.2.1 hdg ht (fun _ => k1) (fun h => absurd (nI_pos' ha) h)
theorem g_beq {b : Bool} (S : gFix p m c cc nL s args own) {off : Int} {tgt : Nat} (hdg : decode cc pc = .ok (.ifCond .eq off, 3)) (ht : (pc : Int) + off = (tgt : Int)) (k1 : b = false → W p l e R s m args below meth c H locs cells slots Q (F0 m tgt ls rest)) (k2 : b = true → W p l e R s m args below meth c H locs cells slots Q (F0 m (pc + 3) ls rest)) : W p l e R s m args below meth c H locs cells slots Q (F0 m pc ls (.int (bI b) :: rest)) := by
  cases b
  · exact lv_if_eq S.1 S.2.1 hdg ht (fun _ => k1 rfl) (fun h => absurd (by decide +kernel) h)
  · exact lv_if_eq S.1 S.2.1 hdg ht (fun h => absurd h (by decide +kernel)) (fun _ => k2 rfl)
theorem g_bne {b : Bool} (S : gFix p m c cc nL s args own) {off : Int} {tgt : Nat} (hdg : decode cc pc = .ok (.ifCond .ne off, 3)) (ht : (pc : Int) + off = (tgt : Int)) (k1 : b = true → W p l e R s m args below meth c H locs cells slots Q (F0 m tgt ls rest)) (k2 : b = false → W p l e R s m args below meth c H locs cells slots Q (F0 m (pc + 3) ls rest)) : W p l e R s m args below meth c H locs cells slots Q (F0 m pc ls (.int (bI b) :: rest)) := by
  cases b
  · exact lv_if_ne S.1 S.2.1 hdg ht (fun h => absurd (by decide +kernel) h) (fun _ => k2 rfl)
  · exact lv_if_ne S.1 S.2.1 hdg ht (fun _ => k1 rfl) (fun h => absurd h (by decide +kernel))
theorem g_oeq {o : Option Nat} (S : gFix p m c cc nL s args own) (ho : ∀ k, o = some k → k < 2 ^ 31) {off : Int} {tgt : Nat} (hdg : decode cc pc = .ok (.if_icmp .eq off, 3)) (ht : (pc : Int) + off = (tgt : Int)) (k1 : o = none → W p l e R s m args below meth c H locs cells slots Q (F0 m tgt ls rest)) (k2 : ∀ k, o = some k → W p l e R s m args below meth c H locs cells slots Q (F0 m (pc + 3) ls rest)) : W p l e R s m args below meth c H locs cells slots Q (F0 m pc ls (.int (-1) :: .int (oI o) :: rest)) := by
  cases o with
  | none => exact lv_icmp_eq S.1 S.2.1 hdg ht (fun _ => k1 rfl) (fun h => absurd rfl h)
  | some k => exact lv_icmp_eq S.1 S.2.1 hdg ht (fun h => absurd h (nI_m1 (ho k rfl))) (fun _ => k2 k rfl)
theorem g_one {o : Option Nat} (S : gFix p m c cc nL s args own) (ho : ∀ k, o = some k → k < 2 ^ 31) {off : Int} {tgt : Nat} (hdg : decode cc pc = .ok (.if_icmp .ne off, 3)) (ht : (pc : Int) + off = (tgt : Int)) (k1 : ∀ k, o = some k → W p l e R s m args below meth c H locs cells slots Q (F0 m tgt ls rest)) (k2 : o = none → W p l e R s m args below meth c H locs cells slots Q (F0 m (pc + 3) ls rest)) : W p l e R s m args below meth c H locs cells slots Q (F0 m pc ls (.int (-1) :: .int (oI o) :: rest)) := by
  cases o with
  | none => exact lv_icmp_ne S.1 S.2.1 hdg ht (fun h => absurd rfl h) (fun _ => k2 rfl)
  | some k => exact lv_icmp_ne S.1 S.2.1 hdg ht (fun _ => k1 k rfl) (fun h => absurd h (nI_m1 (ho k rfl)))
end GROW2
