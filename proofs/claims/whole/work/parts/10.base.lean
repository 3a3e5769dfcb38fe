/-! THE WORLD OF THIS CLAIM: a row of cells by their places; every cell that is made behind the law's entry lies at lo or above; all words in one list -/
def lw_all : List Cond := lw_tbl.filter goodWord
theorem lw_good : ∀ w ∈ lw_all, goodWord w = true := fun w h => (List.mem_filter.mp h).2
theorem lw_q {w : Cond} (k : Nat) (h : lw_tbl[k]? = some w) (hg : goodWord w = true) : w ∈ lw_all := List.mem_filter.mpr ⟨List.mem_of_getElem? h, hg⟩
def lw_isNest : Cond → Bool
  | .fieldLinkNest .. => true
  | .methodLinkNest .. => true
  | _ => false
def lw_nest : List Cond := lw_tbl.filter lw_isNest
theorem lw_qn {w : Cond} (k : Nat) (h : lw_tbl[k]? = some w) (hg : lw_isNest w = true) : w ∈ lw_nest := List.mem_filter.mpr ⟨List.mem_of_getElem? h, hg⟩
theorem lw_nest_same {w : Cond} {s U : State} (hw : lw_isNest w = true) (hv : s.vm = U.vm) (h : va_Nw w s) : va_Nw w U := by
  cases w <;> first | exact va_Nw.same rfl hv h | cases hw
theorem lw_nest_warm {w : Cond} {s U : State} (hw : lw_isNest w = true) (hW : s.WarmedH U.vm) (h : va_Nw w s) : va_Nw w U := by
  cases w <;> first | exact va_Nw.warmF hW h | exact va_Nw.warmM hW h | cases hw
abbrev lw_ws (y : MethodName) (c : ByteArray) (n : Nat) (r : Option FieldType) : List Cond := .code y c n r :: lw_all
theorem lw_goodIn {y : MethodName} {c : ByteArray} {n : Nat} {r : Option FieldType} (h : Cond.code y c n r ∈ lw_all) : GoodIn lw_all (lw_ws y c n r) := by
  intro w hw
  rcases List.mem_cons.mp hw with e | hw
  · subst e; exact ⟨h, good_of_word (lw_good _ h)⟩
  · exact ⟨hw, good_of_word (lw_good _ hw)⟩
/-- the parameters of a run: the classes, the array classes, where the law's cells begin, what is said of the statics -/
abbrev gE : Type := va_G × (Nat → ClassId) × Nat × (State → Heap → Prop)
abbrev gT (E : gE) : List (ClassId × FieldType) := [(E.2.1 0, .int), (E.2.1 1, .boolean), (E.2.1 2, .char), (E.2.1 3, .byte), (E.2.1 4, .object "DustSheetMap$Sheet"), (E.2.1 5, .object "java/lang/Object"), (E.2.1 6, .long), (E.2.1 7, .double)]
abbrev gA (E : gE) : Nat → Prop := fun q => E.2.2.1 ≤ q
def gSt (lo : Nat) (Z : State → Heap → Prop) : Prop := (∀ (u U : State) (H : Heap), (u.WarmedH U.vm ∨ U.vm = u.vm) → Z u H → Z U H) ∧ ∀ (U : State) (H H1 : Heap), (∀ a : Nat, a < H.size → ¬ lo ≤ a → H1[a]? = H[a]?) → Z U H → Z U H1
def gI (E : gE) (U : State) (H : Heap) : Prop := va_K E.1 vwCl (gT E) U ∧ (∀ w ∈ lw_nest, va_Nw w U) ∧ E.2.2.1 ≤ H.size ∧ gSt E.2.2.1 E.2.2.2 ∧ E.2.2.2 U H
theorem gI.go {E : gE} {s U : State} {H : Heap} {locs : List Loc} (h : gI E s s.heap) (hS : va_S (gA E) s.heap H locs) (hW : s.WarmedH U.vm) : gI E U H := by
  obtain ⟨h1, h2, h3, h4, h5⟩ := h
  refine ⟨va_K.moved hW.alike h1, fun w hw => lw_nest_warm (List.mem_filter.mp hw).2 hW (h2 w hw), Nat.le_trans h3 hS.1, h4, ?_⟩
  exact h4.1 _ _ _ (Or.inl hW) (h4.2 _ _ _ (fun a ha hn => hS.2.1 a ha hn) h5)
def gl (ad : Nat → Nat) (N : Nat) (w : Nat → va_E) : va_W := (List.range N).map (fun p => (ad p, w p))
theorem gl_get {ad : Nat → Nat} {N : Nat} {w : Nat → va_E} {p : Nat} (h : p < N) : (gl ad N w)[p]? = some (ad p, w p) := by
  simp [gl, h]
theorem gl_lt {ad : Nat → Nat} {N : Nat} {w : Nat → va_E} {p : Nat} {q : Nat × va_E} (h : (gl ad N w)[p]? = some q) : p < N ∧ q = (ad p, w p) := by
  have hl : p < (gl ad N w).length := (List.getElem?_eq_some_iff.mp h).1
  have hN : p < N := by simpa [gl] using hl
  exact ⟨hN, (Option.some.inj ((gl_get hN).symm.trans h)).symm⟩
theorem gl_set {ad : Nat → Nat} {N : Nat} {w : Nat → va_E} {p : Nat} (h : p < N) (e : va_E) : (gl ad N w).set p (ad p, e) = gl ad N (va_up w p e) := by
  apply List.ext_getElem?
  intro k
  by_cases hk : k = p
  · subst hk
    rw [List.getElem?_set_self (by simpa [gl] using h), gl_get h, va_up_self]
  · rw [List.getElem?_set_ne (Ne.symm hk)]
    by_cases hkN : k < N
    · rw [gl_get hkN, gl_get hkN, va_up_ne _ _ hk]
    · rw [List.getElem?_eq_none (by simpa [gl] using hkN), List.getElem?_eq_none (by simpa [gl] using hkN)]
theorem gl_push {ad : Nat → Nat} {N : Nat} {w : Nat → va_E} (q : Nat) (e : va_E) : gl ad N w ++ [(q, e)] = gl (va_up ad N q) (N + 1) (va_up w N e) := by
  have h : ∀ p ∈ List.range N, (ad p, w p) = (va_up ad N q p, va_up w N e p) := fun p hp => by
    have hne : p ≠ N := Nat.ne_of_lt (List.mem_range.mp hp)
    rw [va_up_ne _ _ hne, va_up_ne _ _ hne]
  rw [gl, gl, List.range_succ, List.map_append, List.map_congr_left h]
  simp [va_up_self]
theorem gl_congr {ad ad' : Nat → Nat} {N : Nat} {w w' : Nat → va_E} (h1 : ∀ p, p < N → ad p = ad' p) (h2 : ∀ p, p < N → w p = w' p) : gl ad N w = gl ad' N w' := by
  rw [gl, gl]
  exact List.map_congr_left (fun p hp => by rw [h1 p (List.mem_range.mp hp), h2 p (List.mem_range.mp hp)])
/-- the world: the cells by their places, apart from one another, all of them the law's own -/
def gP (E : gE) (ad : Nat → Nat) (N : Nat) (w : Nat → va_E) (H : Heap) : Prop := va_P E.1 vwCl (gl ad N w) H ∧ va_D (gA E) (gl ad N w)
theorem gP.to {E : gE} {ad : Nat → Nat} {N : Nat} {w w' : Nat → va_E} {H : Heap} (h : gP E ad N w H) (e : ∀ p, p < N → w p = w' p) : gP E ad N w' H := by
  have e1 := gl_congr (ad := ad) (ad' := ad) (fun _ _ => rfl) e
  exact ⟨e1 ▸ h.1, e1 ▸ h.2⟩
/-- the first M places of it -/
theorem gP.cut {E : gE} {ad : Nat → Nat} {N : Nat} {w : Nat → va_E} {H : Heap} (h : gP E ad N w H) (M : Nat) (hM : M ≤ N) : gP E ad M w H := by
  refine ⟨fun k q hk => ?_, fun i j a b hi hj e => ?_, fun k q hk => ?_⟩
  · obtain ⟨h1, rfl⟩ := gl_lt hk
    exact h.1 k _ (gl_get (Nat.lt_of_lt_of_le h1 hM))
  · obtain ⟨h1, rfl⟩ := gl_lt hi
    obtain ⟨h2, rfl⟩ := gl_lt hj
    exact h.2.1 i j _ _ (gl_get (Nat.lt_of_lt_of_le h1 hM)) (gl_get (Nat.lt_of_lt_of_le h2 hM)) e
  · obtain ⟨h1, rfl⟩ := gl_lt hk
    exact h.2.2 k _ (gl_get (Nat.lt_of_lt_of_le h1 hM))
/-- a method's start -/
abbrev gPc (E : gE) (ad : Nat → Nat) (N : Nat) (w : Nat → va_E) (as : List Value) : Array Value → State → Prop := va_Pc as (fun U => gI E U U.heap ∧ gP E ad N w U.heap)
abbrev gB (E : gE) (ad : Nat → Nat) (N : Nat) (w' : Nat → va_E) (t : State) : Prop := gP E ad N w' t.heap
/-- contracts: an int, nothing, a float, a double; the world's places stay -/
abbrev gMi (l : Launch) (y : MethodName) (ws : List Cond) (rm : Room) (E : gE) (ad : Nat → Nat) (N : Nat) (w : Nat → va_E) (as : List Value) (post : Int32 → (Nat → va_E) → Prop) (mc ms : Nat) : Prop := Met l y ws rm (gPc E ad N w as) (va_Qi post (gB E ad N) (gA E)) mc ms (gA E)
abbrev gMv (l : Launch) (y : MethodName) (ws : List Cond) (rm : Room) (E : gE) (ad : Nat → Nat) (N : Nat) (w : Nat → va_E) (as : List Value) (post : (Nat → va_E) → Prop) (mc ms : Nat) : Prop := Met l y ws rm (gPc E ad N w as) (va_Qv post (gB E ad N) (gA E)) mc ms (gA E)
abbrev gMf (l : Launch) (y : MethodName) (ws : List Cond) (rm : Room) (E : gE) (ad : Nat → Nat) (N : Nat) (w : Nat → va_E) (as : List Value) (post : UInt32 → (Nat → va_E) → Prop) (mc ms : Nat) : Prop := Met l y ws rm (gPc E ad N w as) (va_Qf post (gB E ad N) (gA E)) mc ms (gA E)
abbrev gMd (l : Launch) (y : MethodName) (ws : List Cond) (rm : Room) (E : gE) (ad : Nat → Nat) (N : Nat) (w : Nat → va_E) (as : List Value) (post : UInt64 → (Nat → va_E) → Prop) (mc ms : Nat) : Prop := Met l y ws rm (gPc E ad N w as) (va_Qd post (gB E ad N) (gA E)) mc ms (gA E)
theorem gPc_blind {E : gE} {ad : Nat → Nat} {N : Nat} {w : Nat → va_E} {as : List Value} : FrameBlind (gPc E ad N w as) := by
  intro a U g mk q
  obtain ⟨h1, ⟨k1, k2, k3, k4, k5⟩, h3⟩ := q
  exact ⟨h1, ⟨va_K.moved (u := U) (U := U.calling g mk a) (Vm.Alike.refl U.vm) k1, fun w hw => lw_nest_same (s := U) (List.mem_filter.mp hw).2 rfl (k2 w hw), k3, k4, k4.1 U (U.calling g mk a) U.heap (Or.inr rfl) k5⟩, h3⟩
section GROW
variable {p : Program} {l : Launch} {e : Env} {R : Room} {s : State} {m : MethodId} {args : Array Value} {below : List Frame} {meth : Method} {c : Code} {H : Heap} {locs : List Loc} {cells slots : Nat} {Q : State → Prop}
variable {cc : ByteArray} {pc nL : Nat} {ls : Array Slot} {rest : List Value} {own : String} {E : gE} {ad : Nat → Nat} {N : Nat} {w : Nat → va_E}
abbrev gFix (p : Program) (m : MethodId) (c : Code) (cc : ByteArray) (nL : Nat) (s : State) (args : Array Value) (own : String) : Prop := CallFix p m c cc nL s args lw_all own
theorem gPre {y : MethodName} {ws : List Cond} {rm : Room} {bytes : ByteArray} {maxL : Nat} {ret : Option FieldType} {s1 : State} (B : BodyLoose p l y (headSpec (lw_ws y bytes maxL ret) rm) bytes maxL ret e s m args below meth c s1) (hml : c.maxLocals = maxL) {C n d : String} (hy : y = ⟨C, n, d⟩) : gFix p m c bytes maxL s args C ∧ meth.sig.returnType = ret ∧ meth.locks = false := by
  subst hy
  exact ⟨⟨B.exec, B.bytes, hml, findClass_of_methodNamed B.named, fun w h => atoms_spec (ws := lw_ws _ bytes maxL ret) B.pre w (List.mem_cons_of_mem _ h)⟩, B.returns, B.notSynchronized⟩
theorem g_get (S : gFix p m c cc nL s args own) (hI : gI E s s.heap) (hP : gP E ad N w H) {ref C : String} {T : u_T} {n ci index q0 : Nat} (hin : ∀ w ∈ u_ws C T n, w ∈ lw_all) (hc : vwCl[ci]? = some (C, T, n)) {fs : List Value} (hq : q0 < N) (he : w q0 = .inr (ci, fs)) (k : Nat) (hk : k < n) (hlink : Cond.fieldLink own index ref (T k).2.1 (T k).2.2.1 ∈ lw_all) (href : (T k).1 = ref) {v : Value} (hv : fs[k]? = some v) (hdg : decode cc pc = .ok (.getfield index, 3))
    (kk : W p l e R s m args below meth c H locs cells slots Q (F0 m (pc + 3) ls (v :: rest))) : W p l e R s m args below meth c H locs cells slots Q (F0 m pc ls (.ref (ad q0) :: rest)) := by
  refine va_get (D := E.1) (cl := vwCl) (tys := gT E) (ws := gl ad N w) S.1 S.2.1 S.2.2.2.2 hin S.2.2.2.1 hI.1 hP.1 q0 (by rw [gl_get hq, he]) hc k hk (S.2.2.2.2 _ hlink) (fun _ h => by rw [← href]; exact h) hv hdg kk
theorem g_getN (S : gFix p m c cc nL s args own) (hI : gI E s s.heap) (hP : gP E ad N w H) {ref C host : String} {T : u_T} {n ci index q0 : Nat} (hin : ∀ w ∈ u_ws C T n, w ∈ lw_all) (hc : vwCl[ci]? = some (C, T, n)) {fs : List Value} (hq : q0 < N) (he : w q0 = .inr (ci, fs)) (k : Nat) (hk : k < n) (hlink : Cond.fieldLinkNest own index ref (T k).2.1 (T k).2.2.1 host ∈ lw_nest) (href : (T k).1 = ref) {v : Value} (hv : fs[k]? = some v) (hdg : decode cc pc = .ok (.getfield index, 3))
    (kk : W p l e R s m args below meth c H locs cells slots Q (F0 m (pc + 3) ls (v :: rest))) : W p l e R s m args below meth c H locs cells slots Q (F0 m pc ls (.ref (ad q0) :: rest)) := by
  refine va_getN (D := E.1) (cl := vwCl) (tys := gT E) (ws := gl ad N w) (host := host) S.1 S.2.1 S.2.2.2.2 hin S.2.2.2.1 hI.1 hP.1 q0 (by rw [gl_get hq, he]) hc k hk (va_Nw.use rfl (hI.2.1 _ hlink)) (fun _ h => by rw [← href]; exact h) hv hdg kk
theorem g_put (S : gFix p m c cc nL s args own) (hI : gI E s s.heap) (hP : gP E ad N w H) (hS : va_S (gA E) s.heap H locs) {ref C : String} {T : u_T} {n ci index q0 : Nat} (hin : ∀ w ∈ u_ws C T n, w ∈ lw_all) (hc : vwCl[ci]? = some (C, T, n)) (ty0 : Nat → FieldType) (hty : ∀ k, k < n → parseFieldDescriptor (T k).2.2.1 = some (ty0 k)) (hnm : ∀ a, a < n → ∀ b, b < n → a ≠ b → (T a).2.1 ≠ (T b).2.1) {fs : List Value} (hq : q0 < N) (he : w q0 = .inr (ci, fs)) (k : Nat) (hk : k < n) (hlink : Cond.fieldLink own index ref (T k).2.1 (T k).2.2.1 ∈ lw_all) (href : (T k).1 = ref) (hfin : (T k).2.2.2 = false) {v : Value} (hn : narrow (ty0 k) v = v) (hfit : fits (ty0 k) v = true) (hl : k < fs.length)
    (hdg : decode cc pc = .ok (.putfield index, 3)) (kk : ∀ (H1 : Heap) (locs1 : List Loc), gP E ad N (va_up w q0 (.inr (ci, fs.set k v))) H1 → va_S (gA E) s.heap H1 locs1 → W p l e R s m args below meth c H1 locs1 cells slots Q (F0 m (pc + 3) ls rest)) : W p l e R s m args below meth c H locs cells slots Q (F0 m pc ls (v :: .ref (ad q0) :: rest)) := by
  refine va_put (D := E.1) (cl := vwCl) (tys := gT E) (ws := gl ad N w) (A := gA E) S.1 S.2.1 S.2.2.2.2 hin ty0 hty hnm S.2.2.2.1 hI.1 hP.1 hP.2 hS q0 (by rw [gl_get hq, he]) hc k hk (S.2.2.2.2 _ hlink) (fun _ h => by rw [← href]; exact h) hfin (hty k hk) hn hfit hl hdg (fun H1 locs1 a b c => ?_)
  rw [gl_set hq] at a b
  exact kk H1 locs1 ⟨a, b⟩ c
theorem g_putF (S : gFix p m c cc nL s args own) (hI : gI E s s.heap) (hP : gP E ad N w H) (hS : va_S (gA E) s.heap H locs) (hin2 : meth.name = "<init>") {ref C : String} {T : u_T} {n ci index q0 : Nat} (hin : ∀ w ∈ u_ws C T n, w ∈ lw_all) (hc : vwCl[ci]? = some (C, T, n)) (ty0 : Nat → FieldType) (hty : ∀ k, k < n → parseFieldDescriptor (T k).2.2.1 = some (ty0 k)) (hnm : ∀ a, a < n → ∀ b, b < n → a ≠ b → (T a).2.1 ≠ (T b).2.1) {fs : List Value} (hq : q0 < N) (he : w q0 = .inr (ci, fs)) (k : Nat) (hk : k < n) (hlink : Cond.fieldLink own index ref (T k).2.1 (T k).2.2.1 ∈ lw_all) (href : (T k).1 = ref) (hfin : (T k).2.2.2 = true) (hdecl : (T k).1 = own) {v : Value} (hn : narrow (ty0 k) v = v) (hfit : fits (ty0 k) v = true) (hl : k < fs.length)
    (hdg : decode cc pc = .ok (.putfield index, 3)) (kk : ∀ (H1 : Heap) (locs1 : List Loc), gP E ad N (va_up w q0 (.inr (ci, fs.set k v))) H1 → va_S (gA E) s.heap H1 locs1 → W p l e R s m args below meth c H1 locs1 cells slots Q (F0 m (pc + 3) ls rest)) : W p l e R s m args below meth c H locs cells slots Q (F0 m pc ls (v :: .ref (ad q0) :: rest)) := by
  refine va_putF (D := E.1) (cl := vwCl) (tys := gT E) (ws := gl ad N w) (A := gA E) S.1 S.2.1 S.2.2.2.2 hin ty0 hty hnm S.2.2.2.1 hI.1 hP.1 hP.2 hS q0 (by rw [gl_get hq, he]) hc k hk (S.2.2.2.2 _ hlink) (fun _ h => by rw [← href]; exact h) hfin hin2 hdecl (hty k hk) hn hfit hl hdg (fun H1 locs1 a b c => ?_)
  rw [gl_set hq] at a b
  exact kk H1 locs1 ⟨a, b⟩ c
theorem g_iald (S : gFix p m c cc nL s args own) (hI : gI E s s.heap) (hP : gP E ad N w H) {q0 n : Nat} {f : Nat → Int32} (hq : q0 < N) (he : w q0 = .inl (E.2.1 0, n, .inl f)) (i : Nat) (hi : i < n) (hn : n < 2 ^ 31) (hdg : decode cc pc = .ok (.iaload, 1))
    (kk : W p l e R s m args below meth c H locs cells slots Q (F0 m (pc + 1) ls (.int (f i) :: rest))) : W p l e R s m args below meth c H locs cells slots Q (F0 m pc ls (.int (nI i) :: .ref (ad q0) :: rest)) := by
  refine va_iald (D := E.1) (cl := vwCl) (tys := gT E) (ws := gl ad N w) S.1 S.2.1 hI.1 hP.1 q0 0 (by rw [gl_get hq, he]) rfl (vp_in_nI hi hn) hdg ?_
  rw [nI_clamp (Nat.lt_trans hi hn)]
  exact kk
theorem g_zald (S : gFix p m c cc nL s args own) (hI : gI E s s.heap) (hP : gP E ad N w H) {q0 n : Nat} {f : Nat → Int32} (hq : q0 < N) (he : w q0 = .inl (E.2.1 1, n, .inl f)) (i : Nat) (hi : i < n) (hn : n < 2 ^ 31) (hdg : decode cc pc = .ok (.baload, 1))
    (kk : W p l e R s m args below meth c H locs cells slots Q (F0 m (pc + 1) ls (.int (f i) :: rest))) : W p l e R s m args below meth c H locs cells slots Q (F0 m pc ls (.int (nI i) :: .ref (ad q0) :: rest)) := by
  refine va_zald (D := E.1) (cl := vwCl) (tys := gT E) (ws := gl ad N w) S.1 S.2.1 hI.1 hP.1 q0 1 (by rw [gl_get hq, he]) rfl (vp_in_nI hi hn) hdg ?_
  rw [nI_clamp (Nat.lt_trans hi hn)]
  exact kk
theorem g_cald (S : gFix p m c cc nL s args own) (hI : gI E s s.heap) (hP : gP E ad N w H) {q0 n : Nat} {f : Nat → Int32} (hq : q0 < N) (he : w q0 = .inl (E.2.1 2, n, .inl f)) (i : Nat) (hi : i < n) (hn : n < 2 ^ 31) (hdg : decode cc pc = .ok (.caload, 1))
    (kk : W p l e R s m args below meth c H locs cells slots Q (F0 m (pc + 1) ls (.int (f i) :: rest))) : W p l e R s m args below meth c H locs cells slots Q (F0 m pc ls (.int (nI i) :: .ref (ad q0) :: rest)) := by
  refine va_cald (D := E.1) (cl := vwCl) (tys := gT E) (ws := gl ad N w) S.1 S.2.1 hI.1 hP.1 q0 2 (by rw [gl_get hq, he]) rfl (vp_in_nI hi hn) hdg ?_
  rw [nI_clamp (Nat.lt_trans hi hn)]
  exact kk
theorem g_iast (S : gFix p m c cc nL s args own) (hI : gI E s s.heap) (hP : gP E ad N w H) (hS : va_S (gA E) s.heap H locs) {q0 n : Nat} {f : Nat → Int32} (hq : q0 < N) (he : w q0 = .inl (E.2.1 0, n, .inl f)) (i : Nat) (hi : i < n) (hn : n < 2 ^ 31) {x : Int32} (hdg : decode cc pc = .ok (.iastore, 1))
    (kk : ∀ (H1 : Heap) (locs1 : List Loc), gP E ad N (va_up w q0 (.inl (E.2.1 0, n, .inl (upd f i x)))) H1 → va_S (gA E) s.heap H1 locs1 → W p l e R s m args below meth c H1 locs1 cells slots Q (F0 m (pc + 1) ls rest)) : W p l e R s m args below meth c H locs cells slots Q (F0 m pc ls (.int x :: .int (nI i) :: .ref (ad q0) :: rest)) := by
  refine va_iast (D := E.1) (cl := vwCl) (tys := gT E) (ws := gl ad N w) (A := gA E) S.1 S.2.1 hI.1 hP.1 hP.2 hS q0 0 (by rw [gl_get hq, he]) rfl (vp_in_nI hi hn) hdg (fun H1 locs1 a b c => ?_)
  rw [gl_set hq, nI_clamp (Nat.lt_trans hi hn)] at a b
  exact kk H1 locs1 ⟨a, b⟩ c
theorem g_zast (S : gFix p m c cc nL s args own) (hI : gI E s s.heap) (hP : gP E ad N w H) (hS : va_S (gA E) s.heap H locs) {q0 n : Nat} {f : Nat → Int32} (hq : q0 < N) (he : w q0 = .inl (E.2.1 1, n, .inl f)) (i : Nat) (hi : i < n) (hn : n < 2 ^ 31) {x : Int32} (hx : x = 0 ∨ x = 1) (hdg : decode cc pc = .ok (.bastore, 1))
    (kk : ∀ (H1 : Heap) (locs1 : List Loc), gP E ad N (va_up w q0 (.inl (E.2.1 1, n, .inl (upd f i x)))) H1 → va_S (gA E) s.heap H1 locs1 → W p l e R s m args below meth c H1 locs1 cells slots Q (F0 m (pc + 1) ls rest)) : W p l e R s m args below meth c H locs cells slots Q (F0 m pc ls (.int x :: .int (nI i) :: .ref (ad q0) :: rest)) := by
  have hxx : vp_nar .boolean x = x := by rcases hx with rfl | rfl <;> decide +kernel
  refine va_zast (D := E.1) (cl := vwCl) (tys := gT E) (ws := gl ad N w) (A := gA E) S.1 S.2.1 hI.1 hP.1 hP.2 hS q0 1 (by rw [gl_get hq, he]) rfl (vp_in_nI hi hn) hdg (fun H1 locs1 a b c => ?_)
  rw [gl_set hq, nI_clamp (Nat.lt_trans hi hn), hxx] at a b
  exact kk H1 locs1 ⟨a, b⟩ c
theorem g_cast (S : gFix p m c cc nL s args own) (hI : gI E s s.heap) (hP : gP E ad N w H) (hS : va_S (gA E) s.heap H locs) {q0 n : Nat} {f : Nat → Int32} (hq : q0 < N) (he : w q0 = .inl (E.2.1 2, n, .inl f)) (i : Nat) (hi : i < n) (hn : n < 2 ^ 31) {x : Nat} (hx : x < 65536) (hdg : decode cc pc = .ok (.castore, 1))
    (kk : ∀ (H1 : Heap) (locs1 : List Loc), gP E ad N (va_up w q0 (.inl (E.2.1 2, n, .inl (upd f i (nI x))))) H1 → va_S (gA E) s.heap H1 locs1 → W p l e R s m args below meth c H1 locs1 cells slots Q (F0 m (pc + 1) ls rest)) : W p l e R s m args below meth c H locs cells slots Q (F0 m pc ls (.int (nI x) :: .int (nI i) :: .ref (ad q0) :: rest)) := by
  have hxx : vp_nar .char (nI x) = nI x := by rw [vp_nar, (pk_charN hx).1]
  refine va_cast (D := E.1) (cl := vwCl) (tys := gT E) (ws := gl ad N w) (A := gA E) S.1 S.2.1 hI.1 hP.1 hP.2 hS q0 2 (by rw [gl_get hq, he]) rfl (vp_in_nI hi hn) hdg (fun H1 locs1 a b c => ?_)
  rw [gl_set hq, nI_clamp (Nat.lt_trans hi hn), hxx] at a b
  exact kk H1 locs1 ⟨a, b⟩ c
/-- calls: the words -/
theorem g_cwV {y : MethodName} {bytes : ByteArray} {maxL index mc ms n : Nat} {ret : Option FieldType} {rm : Room} {C : String} (S : gFix p m c cc nL s args own) (q1 : Cond.methodLink own index y ∈ lw_all) (q2 : Cond.instanceMethod y ∈ lw_all) (q3 : Cond.selects C y y ∈ lw_all) (q4 : Cond.initialized C ∈ lw_all) (q5 : Cond.code y bytes maxL ret ∈ lw_all) (hrc : rm.cells = mc) (hrs : rm.slots = ms)
    (hd : y.cls = C ∧ y.cls ≠ "java/lang/invoke/MethodHandle" ∧ y.cls ≠ "java/lang/invoke/VarHandle" ∧ (parseMethodDescriptor y.desc).map (fun d => d.parameters.length) = some n) (hR : rm.frames + 1 ≤ R.frames ∧ 8 + (maxL + 11) + rm.locals ≤ R.locals) : CallW R s args own C index y bytes maxL ret (lw_ws y bytes maxL ret) rm mc ms n := by
  refine cwV n S.2.2.2.2 (fun w hw => ?_) rfl hrc hrs hd hR
  rcases List.mem_append.mp hw with h | h
  · have hq : w ∈ lw_all := by
      simp only [List.mem_cons, List.not_mem_nil, or_false] at h
      rcases h with rfl | rfl | rfl | rfl <;> assumption
    exact ⟨hq, good_of_word (lw_good _ hq)⟩
  · exact lw_goodIn q5 w h
theorem g_cwS {y : MethodName} {bytes : ByteArray} {maxL index mc ms n : Nat} {ret : Option FieldType} {rm : Room} (S : gFix p m c cc nL s args own) (q1 : Cond.methodLink own index y ∈ lw_all) (q2 : Cond.static y ∈ lw_all) (q4 : Cond.initialized own ∈ lw_all) (q5 : Cond.code y bytes maxL ret ∈ lw_all) (hrc : rm.cells = mc) (hrs : rm.slots = ms)
    (hd : y.cls = own ∧ y.cls ≠ "java/lang/invoke/MethodHandle" ∧ y.cls ≠ "java/lang/invoke/VarHandle" ∧ (parseMethodDescriptor y.desc).map (fun d => d.parameters.length) = some n) (hR : rm.frames + 1 ≤ R.frames ∧ 8 + (maxL + 11) + rm.locals ≤ R.locals) : CallB R s args own index y bytes maxL ret (lw_ws y bytes maxL ret) rm mc ms n ∧ (Cond.static y).before args s = true := by
  refine cwS n S.2.2.2.2 (fun w hw => ?_) rfl hrc hrs hd hR
  rcases List.mem_append.mp hw with h | h
  · have hq : w ∈ lw_all := by
      simp only [List.mem_cons, List.not_mem_nil, or_false] at h
      rcases h with rfl | rfl | rfl <;> assumption
    exact ⟨hq, good_of_word (lw_good _ hq)⟩
  · exact lw_goodIn q5 w h
/-- a private static method of a nest mate -/
theorem g_cwSN {y : MethodName} {bytes : ByteArray} {maxL index mc ms n : Nat} {ret : Option FieldType} {rm : Room} {host : String} (S : gFix p m c cc nL s args own) (hI : gI E s s.heap) (q1 : Cond.methodLinkNest own index y host ∈ lw_nest) (q2 : Cond.static y ∈ lw_all) (q4 : Cond.initialized y.cls ∈ lw_all) (q5 : Cond.code y bytes maxL ret ∈ lw_all) (hrc : rm.cells = mc) (hrs : rm.slots = ms)
    (hd : y.cls ≠ "java/lang/invoke/MethodHandle" ∧ y.cls ≠ "java/lang/invoke/VarHandle" ∧ (parseMethodDescriptor y.desc).map (fun d => d.parameters.length) = some n) (hR : rm.frames + 1 ≤ R.frames ∧ 8 + (maxL + 11) + rm.locals ≤ R.locals) : va_CN R s args own index y host bytes maxL ret (lw_ws y bytes maxL ret) rm mc ms n ∧ (Cond.static y).before args s = true :=
  ⟨va_cnB n S.2.2.2.2 (lw_goodIn q5) rfl hrc hrs (hI.2.1 _ q1) (S.2.2.2.2 _ q4) hd hR, S.2.2.2.2 _ q2⟩
theorem g_preS {as : List Value} (hI : gI E s s.heap) (hP : gP E ad N w H) (hS : va_S (gA E) s.heap H locs) : PreS s H (gPc E ad N w as) as :=
  ⟨gPc_blind, fun U hU hW => ⟨rfl, by rw [hU]; exact hI.go hS hW, by rw [hU]; exact hP⟩⟩
theorem g_preV {as : List Value} {C : String} {T : u_T} {n ci q0 : Nat} {fs : List Value} (hI : gI E s s.heap) (hP : gP E ad N w H) (hS : va_S (gA E) s.heap H locs) (hc : vwCl[ci]? = some (C, T, n)) (hq : q0 < N) (he : w q0 = .inr (ci, fs)) : PreV s H C (ad q0) (gPc E ad N w (.ref (ad q0) :: as)) as :=
  ⟨gPc_blind, va_recv hI.1 hP.1 (ci := ci) (q0 := q0) hc (by rw [gl_get hq, he]), fun U hU hW => ⟨rfl, by rw [hU]; exact hI.go hS hW, by rw [hU]; exact hP⟩⟩
theorem g_afi {st0 : List Value} {a : Array Value} {mc ms : Nat} {post : Int32 → (Nat → va_E) → Prop} (hr : va_Run p l e R s m args below meth c H locs cells slots mc ms (F0 m pc ls st0) rest (va_Qi post (gB E ad N) (gA E) a) (gA E)) (hS : va_S (gA E) s.heap H locs)
    (kk : ∀ (r : Int32) (w' : Nat → va_E) (H1 : Heap) (locs1 : List Loc), post r w' → gP E ad N w' H1 → va_S (gA E) s.heap H1 locs1 → W p l e R s m args below meth c H1 locs1 (cells + mc) (slots + ms) Q (F0 m (pc + 3) ls (.int r :: rest))) : W p l e R s m args below meth c H locs cells slots Q (F0 m pc ls st0) :=
  va_calli hr hS (fun _ _ h => h) (fun _ h => h) (fun r w' t H1 locs1 ht _ hp hB _ _ hS1 => kk r w' H1 locs1 hp (by rw [← ht]; exact hB) hS1)
theorem g_aff {st0 : List Value} {a : Array Value} {mc ms : Nat} {post : UInt32 → (Nat → va_E) → Prop} (hr : va_Run p l e R s m args below meth c H locs cells slots mc ms (F0 m pc ls st0) rest (va_Qf post (gB E ad N) (gA E) a) (gA E)) (hS : va_S (gA E) s.heap H locs)
    (kk : ∀ (r : UInt32) (w' : Nat → va_E) (H1 : Heap) (locs1 : List Loc), post r w' → gP E ad N w' H1 → va_S (gA E) s.heap H1 locs1 → W p l e R s m args below meth c H1 locs1 (cells + mc) (slots + ms) Q (F0 m (pc + 3) ls (.float r :: rest))) : W p l e R s m args below meth c H locs cells slots Q (F0 m pc ls st0) :=
  va_callf hr hS (fun _ _ h => h) (fun _ h => h) (fun r w' t H1 locs1 ht _ hp hB _ _ hS1 => kk r w' H1 locs1 hp (by rw [← ht]; exact hB) hS1)
theorem g_afd {st0 : List Value} {a : Array Value} {mc ms : Nat} {post : UInt64 → (Nat → va_E) → Prop} (hr : va_Run p l e R s m args below meth c H locs cells slots mc ms (F0 m pc ls st0) rest (va_Qd post (gB E ad N) (gA E) a) (gA E)) (hS : va_S (gA E) s.heap H locs)
    (kk : ∀ (r : UInt64) (w' : Nat → va_E) (H1 : Heap) (locs1 : List Loc), post r w' → gP E ad N w' H1 → va_S (gA E) s.heap H1 locs1 → W p l e R s m args below meth c H1 locs1 (cells + mc) (slots + ms) Q (F0 m (pc + 3) ls (.double r :: rest))) : W p l e R s m args below meth c H locs cells slots Q (F0 m pc ls st0) :=
  va_calld hr hS (fun _ _ h => h) (fun _ h => h) (fun r w' t H1 locs1 ht _ hp hB _ _ hS1 => kk r w' H1 locs1 hp (by rw [← ht]; exact hB) hS1)
theorem g_afv {st0 : List Value} {a : Array Value} {mc ms : Nat} {post : (Nat → va_E) → Prop} (hr : va_Run p l e R s m args below meth c H locs cells slots mc ms (F0 m pc ls st0) rest (va_Qv post (gB E ad N) (gA E) a) (gA E)) (hS : va_S (gA E) s.heap H locs)
    (kk : ∀ (w' : Nat → va_E) (H1 : Heap) (locs1 : List Loc), post w' → gP E ad N w' H1 → va_S (gA E) s.heap H1 locs1 → W p l e R s m args below meth c H1 locs1 (cells + mc) (slots + ms) Q (F0 m (pc + 3) ls rest)) : W p l e R s m args below meth c H locs cells slots Q (F0 m pc ls st0) :=
  va_callv hr hS (fun _ _ h => h) (fun _ h => h) (fun w' t H1 locs1 ht _ hp hB _ _ hS1 => kk w' H1 locs1 hp (by rw [← ht]; exact hB) hS1)
/-- the ends -/
theorem g_iret {v : Int32} {w' : Nat → va_E} {post : Int32 → (Nat → va_E) → Prop} (S : gFix p m c cc nL s args own) (hr : meth.sig.returnType = some .int) (hlocks : meth.locks = false) (hP : gP E ad N w H) (hS : va_S (gA E) s.heap H locs) (hpost : post v w') (hw : ∀ q, q < N → w q = w' q) {mc ms : Nat} (hmc : cells ≤ mc) (hms : slots ≤ ms) (hdg : decode cc pc = .ok (.ireturn, 1)) : W p l e R s m args below meth c H locs cells slots (MQ below (va_Qi post (gB E ad N) (gA E)) args s mc ms (gA E)) (F0 m pc ls [.int v]) := by
  refine W.widen (k := mc) (n := ms) hmc hms ?_
  exact W.iret S.1 S.2.1 hr (fun t ht _ => ⟨⟨v, w', rfl, hpost, by show gP E ad N w' t.heap; rw [ht]; exact hP.to hw⟩, hS.F ht⟩) hS.2.2 hdg hlocks
theorem g_zret {v : Int32} {w' : Nat → va_E} {post : Int32 → (Nat → va_E) → Prop} (S : gFix p m c cc nL s args own) (hr : meth.sig.returnType = some .boolean) (hlocks : meth.locks = false) (hv : v = 0 ∨ v = 1) (hP : gP E ad N w H) (hS : va_S (gA E) s.heap H locs) (hpost : post v w') (hw : ∀ q, q < N → w q = w' q) {mc ms : Nat} (hmc : cells ≤ mc) (hms : slots ≤ ms) (hdg : decode cc pc = .ok (.ireturn, 1)) : W p l e R s m args below meth c H locs cells slots (MQ below (va_Qi post (gB E ad N) (gA E)) args s mc ms (gA E)) (F0 m pc ls [.int v]) := by
  refine W.widen (k := mc) (n := ms) hmc hms ?_
  exact W.zret (ty := .boolean) S.1 S.2.1 hr (by rcases hv with rfl | rfl <;> decide +kernel) (fun t ht _ => ⟨⟨v, w', rfl, hpost, by show gP E ad N w' t.heap; rw [ht]; exact hP.to hw⟩, hS.F ht⟩) hS.2.2 hdg hlocks
theorem g_vret {w' : Nat → va_E} {post : (Nat → va_E) → Prop} (S : gFix p m c cc nL s args own) (hr : meth.sig.returnType = none) (hlocks : meth.locks = false) (hP : gP E ad N w H) (hS : va_S (gA E) s.heap H locs) (hpost : post w') (hw : ∀ q, q < N → w q = w' q) {mc ms : Nat} (hmc : cells ≤ mc) (hms : slots ≤ ms) (hdg : decode cc pc = .ok (.return_, 1)) : W p l e R s m args below meth c H locs cells slots (MQ below (va_Qv post (gB E ad N) (gA E)) args s mc ms (gA E)) (F0 m pc ls []) := by
  refine W.widen (k := mc) (n := ms) hmc hms ?_
  exact W.vret S.1 S.2.1 hr (fun t ht _ => ⟨⟨w', rfl, hpost, by show gP E ad N w' t.heap; rw [ht]; exact hP.to hw⟩, hS.F ht⟩) hS.2.2 hdg hlocks
/-- branches over numbers that are naturals -/
theorem g_lt {a b : Nat} (S : gFix p m c cc nL s args own) (ha : a < 2 ^ 31) (hb : b < 2 ^ 31) {off : Int} {tgt : Nat} (hdg : decode cc pc = .ok (.if_icmp .lt off, 3)) (ht : (pc : Int) + off = (tgt : Int)) (k1 : a < b → W p l e R s m args below meth c H locs cells slots Q (F0 m tgt ls rest)) (k2 : b ≤ a → W p l e R s m args below meth c H locs cells slots Q (F0 m (pc + 3) ls rest)) : W p l e R s m args below meth c H locs cells slots Q (F0 m pc ls (.int (nI b) :: .int (nI a) :: rest)) :=
  lv_icmp_lt S.1 S.2.1 hdg ht (fun h => k1 ((nI_ltI ha hb).mp h)) (fun h => k2 (Nat.le_of_not_lt (fun q => h ((nI_ltI ha hb).mpr q))))
theorem g_ge {a b : Nat} (S : gFix p m c cc nL s args own) (ha : a < 2 ^ 31) (hb : b < 2 ^ 31) {off : Int} {tgt : Nat} (hdg : decode cc pc = .ok (.if_icmp .ge off, 3)) (ht : (pc : Int) + off = (tgt : Int)) (k1 : b ≤ a → W p l e R s m args below meth c H locs cells slots Q (F0 m tgt ls rest)) (k2 : a < b → W p l e R s m args below meth c H locs cells slots Q (F0 m (pc + 3) ls rest)) : W p l e R s m args below meth c H locs cells slots Q (F0 m pc ls (.int (nI b) :: .int (nI a) :: rest)) :=
  lv_icmp_ge S.1 S.2.1 hdg ht (fun h => k1 ((nI_leI hb ha).mp h)) (fun h => k2 (Nat.lt_of_not_le (fun q => h ((nI_leI hb ha).mpr q))))
theorem g_gt {a b : Nat} (S : gFix p m c cc nL s args own) (ha : a < 2 ^ 31) (hb : b < 2 ^ 31) {off : Int} {tgt : Nat} (hdg : decode cc pc = .ok (.if_icmp .gt off, 3)) (ht : (pc : Int) + off = (tgt : Int)) (k1 : b < a → W p l e R s m args below meth c H locs cells slots Q (F0 m tgt ls rest)) (k2 : a ≤ b → W p l e R s m args below meth c H locs cells slots Q (F0 m (pc + 3) ls rest)) : W p l e R s m args below meth c H locs cells slots Q (F0 m pc ls (.int (nI b) :: .int (nI a) :: rest)) :=
  lv_icmp_gt S.1 S.2.1 hdg ht (fun h => k1 ((nI_ltI hb ha).mp h)) (fun h => k2 (Nat.le_of_not_lt (fun q => h ((nI_ltI hb ha).mpr q))))
theorem g_le {a b : Nat} (S : gFix p m c cc nL s args own) (ha : a < 2 ^ 31) (hb : b < 2 ^ 31) {off : Int} {tgt : Nat} (hdg : decode cc pc = .ok (.if_icmp .le off, 3)) (ht : (pc : Int) + off = (tgt : Int)) (k1 : a ≤ b → W p l e R s m args below meth c H locs cells slots Q (F0 m tgt ls rest)) (k2 : b < a → W p l e R s m args below meth c H locs cells slots Q (F0 m (pc + 3) ls rest)) : W p l e R s m args below meth c H locs cells slots Q (F0 m pc ls (.int (nI b) :: .int (nI a) :: rest)) :=
  lv_icmp_le S.1 S.2.1 hdg ht (fun h => k1 ((nI_leI ha hb).mp h)) (fun h => k2 (Nat.lt_of_not_le (fun q => h ((nI_leI ha hb).mpr q))))
theorem g_eq {a b : Nat} (S : gFix p m c cc nL s args own) (ha : a < 2 ^ 31) (hb : b < 2 ^ 31) {off : Int} {tgt : Nat} (hdg : decode cc pc = .ok (.if_icmp .eq off, 3)) (ht : (pc : Int) + off = (tgt : Int)) (k1 : a = b → W p l e R s m args below meth c H locs cells slots Q (F0 m tgt ls rest)) (k2 : a ≠ b → W p l e R s m args below meth c H locs cells slots Q (F0 m (pc + 3) ls rest)) : W p l e R s m args below meth c H locs cells slots Q (F0 m pc ls (.int (nI b) :: .int (nI a) :: rest)) :=
  lv_icmp_eq S.1 S.2.1 hdg ht (fun h => k1 ((nI_eq ha hb).mp h)) (fun h => k2 (fun q => h ((nI_eq ha hb).mpr q)))
theorem g_ne {a b : Nat} (S : gFix p m c cc nL s args own) (ha : a < 2 ^ 31) (hb : b < 2 ^ 31) {off : Int} {tgt : Nat} (hdg : decode cc pc = .ok (.if_icmp .ne off, 3)) (ht : (pc : Int) + off = (tgt : Int)) (k1 : a ≠ b → W p l e R s m args below meth c H locs cells slots Q (F0 m tgt ls rest)) (k2 : a = b → W p l e R s m args below meth c H locs cells slots Q (F0 m (pc + 3) ls rest)) : W p l e R s m args below meth c H locs cells slots Q (F0 m pc ls (.int (nI b) :: .int (nI a) :: rest)) :=
  lv_icmp_ne S.1 S.2.1 hdg ht (fun h => k1 (fun q => h ((nI_eq ha hb).mpr q))) (fun h => k2 ((nI_eq ha hb).mp h))
/-- numbers -/
theorem g_iconst (S : gFix p m c cc nL s args own) {n : Int} (k : Nat) (hdg : decode cc pc = .ok (.iconst n, 1)) (hv : Int32.ofInt n = nI k) (kk : W p l e R s m args below meth c H locs cells slots Q (F0 m (pc + 1) ls (.int (nI k) :: rest))) : W p l e R s m args below meth c H locs cells slots Q (F0 m pc ls rest) := lv_iconst S.1 S.2.1 hdg hv kk
theorem g_bipush (S : gFix p m c cc nL s args own) {n : Int} (k : Nat) (hdg : decode cc pc = .ok (.bipush n, 2)) (hv : (Int8.ofInt n).toInt32 = nI k) (kk : W p l e R s m args below meth c H locs cells slots Q (F0 m (pc + 2) ls (.int (nI k) :: rest))) : W p l e R s m args below meth c H locs cells slots Q (F0 m pc ls rest) := lv_bipush S.1 S.2.1 hdg hv kk
theorem g_sipush (S : gFix p m c cc nL s args own) {n : Int} (k : Nat) (hdg : decode cc pc = .ok (.sipush n, 3)) (hv : (Int16.ofInt n).toInt32 = nI k) (kk : W p l e R s m args below meth c H locs cells slots Q (F0 m (pc + 3) ls (.int (nI k) :: rest))) : W p l e R s m args below meth c H locs cells slots Q (F0 m pc ls rest) := lv_sipush S.1 S.2.1 hdg hv kk
theorem g_iadd (S : gFix p m c cc nL s args own) {a b : Nat} (hdg : decode cc pc = .ok (.iadd, 1)) (kk : W p l e R s m args below meth c H locs cells slots Q (F0 m (pc + 1) ls (.int (nI (a + b)) :: rest))) : W p l e R s m args below meth c H locs cells slots Q (F0 m pc ls (.int (nI b) :: .int (nI a) :: rest)) := lv_iadd S.1 S.2.1 hdg (by rw [nI_add]; exact kk)
theorem g_imul (S : gFix p m c cc nL s args own) {a b : Nat} (hdg : decode cc pc = .ok (.imul, 1)) (kk : W p l e R s m args below meth c H locs cells slots Q (F0 m (pc + 1) ls (.int (nI (a * b)) :: rest))) : W p l e R s m args below meth c H locs cells slots Q (F0 m pc ls (.int (nI b) :: .int (nI a) :: rest)) := lv_imul S.1 S.2.1 hdg (by rw [pk_mul]; exact kk)
theorem g_isub (S : gFix p m c cc nL s args own) {a b : Nat} (h : b ≤ a) (hdg : decode cc pc = .ok (.isub, 1)) (kk : W p l e R s m args below meth c H locs cells slots Q (F0 m (pc + 1) ls (.int (nI (a - b)) :: rest))) : W p l e R s m args below meth c H locs cells slots Q (F0 m pc ls (.int (nI b) :: .int (nI a) :: rest)) := lv_isub S.1 S.2.1 hdg (by rw [pk_sub h]; exact kk)
theorem g_idiv (S : gFix p m c cc nL s args own) {a b : Nat} (ha : a < 2 ^ 31) (h0 : 0 < b) (hb : b < 2 ^ 31) (hdg : decode cc pc = .ok (.idiv, 1)) (kk : W p l e R s m args below meth c H locs cells slots Q (F0 m (pc + 1) ls (.int (nI (a / b)) :: rest))) : W p l e R s m args below meth c H locs cells slots Q (F0 m pc ls (.int (nI b) :: .int (nI a) :: rest)) := lv_idiv S.1 S.2.1 hdg (nI_ne0 h0 hb) (by rw [pk_div ha h0 hb]; exact kk)
theorem g_irem (S : gFix p m c cc nL s args own) {a b : Nat} (ha : a < 2 ^ 31) (h0 : 0 < b) (hb : b < 2 ^ 31) (hdg : decode cc pc = .ok (.irem, 1)) (kk : W p l e R s m args below meth c H locs cells slots Q (F0 m (pc + 1) ls (.int (nI (a % b)) :: rest))) : W p l e R s m args below meth c H locs cells slots Q (F0 m pc ls (.int (nI b) :: .int (nI a) :: rest)) := lv_irem S.1 S.2.1 hdg (nI_ne0 h0 hb) (by rw [pk_rem ha h0 hb]; exact kk)
end GROW
