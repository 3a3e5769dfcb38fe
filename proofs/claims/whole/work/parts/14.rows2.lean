/-! Math and arraycopy over naturals -/
theorem c_abs : Lib.Math.abs.code = cJ9_abs_0f7a4 := by decide +kernel
theorem c_max : Lib.Math.max.code = cJ9_max_7cf53 := by decide +kernel
theorem c_min : Lib.Math.min.code = cJ9_min_7cf53 := by decide +kernel
theorem max_nI {a b : Nat} (ha : a < 2 ^ 31) (hb : b < 2 ^ 31) : (if nI a < nI b then nI b else nI a) = nI (max a b) := by
  by_cases h : a < b
  · rw [if_pos ((nI_ltI ha hb).mpr h), Nat.max_eq_right (by omega)]
  · rw [if_neg (fun q => h ((nI_ltI ha hb).mp q)), Nat.max_eq_left (by omega)]
theorem min_nI {a b : Nat} (ha : a < 2 ^ 31) (hb : b < 2 ^ 31) : (if nI b < nI a then nI b else nI a) = nI (min a b) := by
  by_cases h : b < a
  · rw [if_pos ((nI_ltI hb ha).mpr h), Nat.min_eq_right (by omega)]
  · rw [if_neg (fun q => h ((nI_ltI hb ha).mp q)), Nat.min_eq_left (by omega)]
section GROW3
variable {p : Program} {l : Launch} {e : Env} {R : Room} {s : State} {m : MethodId} {args : Array Value} {below : List Frame} {meth : Method} {c : Code} {H : Heap} {locs : List Loc} {cells slots : Nat} {Q : State → Prop}
variable {cc : ByteArray} {pc nL : Nat} {ls : Array Slot} {rest st0 : List Value} {own : String} {E : gE} {ad : Nat → Nat} {N : Nat} {w : Nat → va_E}
theorem g_abs (S : gFix p m c cc nL s args own) (hsz : ls.size = nL) {index a b : Nat} (ha : a < 2 ^ 30) (hb : b < 2 ^ 30) (q1 : Cond.methodLink own index yJ9_abs_0f7a4 ∈ lw_all) (q2 : Cond.static yJ9_abs_0f7a4 ∈ lw_all) (q3 : Cond.initialized "java/lang/Math" ∈ lw_all) (q4 : Cond.code yJ9_abs_0f7a4 cJ9_abs_0f7a4 1 (some .int) ∈ lw_all) (hf : 1 ≤ R.frames) (hl : (rest.map fun v => v.category).sum + 13 ≤ R.locals) (hc : cells ≤ R.cells) (hs : slots ≤ R.slots) (hdg : decode cc pc = .ok (.invokestatic index, 3))
    (kk : W p l e R s m args below meth c H locs cells slots Q (F0 m (pc + 3) ls (.int (nI (dif a b)) :: rest))) : W p l e R s m args below meth c H locs cells slots Q (F0 m pc ls (.int (nI a - nI b) :: rest)) := by
  refine va_mabs S.1 S.2.1 (S.2.2.1.trans hsz.symm) S.2.2.2.1 (S.2.2.2.2 _ q1) (S.2.2.2.2 _ q2) (S.2.2.2.2 _ q3) (by rw [c_abs]; exact S.2.2.2.2 _ q4) hf hl hc hs hdg ?_
  rw [dif_abs ha hb]
  exact kk
theorem g_max (S : gFix p m c cc nL s args own) (hsz : ls.size = nL) {index a b : Nat} (ha : a < 2 ^ 31) (hb : b < 2 ^ 31) (q1 : Cond.methodLink own index yJ9_max_7cf53 ∈ lw_all) (q2 : Cond.static yJ9_max_7cf53 ∈ lw_all) (q3 : Cond.initialized "java/lang/Math" ∈ lw_all) (q4 : Cond.code yJ9_max_7cf53 cJ9_max_7cf53 2 (some .int) ∈ lw_all) (hf : 1 ≤ R.frames) (hl : (rest.map fun v => v.category).sum + 13 ≤ R.locals) (hc : cells ≤ R.cells) (hs : slots ≤ R.slots) (hdg : decode cc pc = .ok (.invokestatic index, 3))
    (kk : W p l e R s m args below meth c H locs cells slots Q (F0 m (pc + 3) ls (.int (nI (max a b)) :: rest))) : W p l e R s m args below meth c H locs cells slots Q (F0 m pc ls (.int (nI b) :: .int (nI a) :: rest)) := by
  refine va_mmax S.1 S.2.1 (S.2.2.1.trans hsz.symm) S.2.2.2.1 (S.2.2.2.2 _ q1) (S.2.2.2.2 _ q2) (S.2.2.2.2 _ q3) (by rw [c_max]; exact S.2.2.2.2 _ q4) hf hl hc hs hdg ?_
  rw [max_nI ha hb]
  exact kk
theorem g_min (S : gFix p m c cc nL s args own) (hsz : ls.size = nL) {index a b : Nat} (ha : a < 2 ^ 31) (hb : b < 2 ^ 31) (q1 : Cond.methodLink own index yJ9_min_7cf53 ∈ lw_all) (q2 : Cond.static yJ9_min_7cf53 ∈ lw_all) (q3 : Cond.initialized "java/lang/Math" ∈ lw_all) (q4 : Cond.code yJ9_min_7cf53 cJ9_min_7cf53 2 (some .int) ∈ lw_all) (hf : 1 ≤ R.frames) (hl : (rest.map fun v => v.category).sum + 13 ≤ R.locals) (hc : cells ≤ R.cells) (hs : slots ≤ R.slots) (hdg : decode cc pc = .ok (.invokestatic index, 3))
    (kk : W p l e R s m args below meth c H locs cells slots Q (F0 m (pc + 3) ls (.int (nI (min a b)) :: rest))) : W p l e R s m args below meth c H locs cells slots Q (F0 m pc ls (.int (nI b) :: .int (nI a) :: rest)) := by
  refine va_mmin S.1 S.2.1 (S.2.2.1.trans hsz.symm) S.2.2.2.1 (S.2.2.2.2 _ q1) (S.2.2.2.2 _ q2) (S.2.2.2.2 _ q3) (by rw [c_min]; exact S.2.2.2.2 _ q4) hf hl hc hs hdg ?_
  rw [min_nI ha hb]
  exact kk
theorem cpy_nI (f g : Nat → Nat) (n : Nat) : va_cpy (fun j => nI (f j)) (fun j => nI (g j)) 0 0 n = fun j => nI (fil n f g j) := by
  funext j
  by_cases h : j < n
  · simp [va_cpy, fil, h]
  · simp [va_cpy, fil, h]
/-- arraycopy of the first k, of ints or booleans -/
theorem g_copy (S : gFix p m c cc nL s args own) (hsz : ls.size = nL) (hI : gI E s s.heap) (hP : gP E ad N w H) (hS : va_S (gA E) s.heap H locs) {index q0 q1 t k n0 n1 : Nat} {cA : ClassId} {ty : FieldType} {f g : Nat → Nat} (hq0 : q0 < N) (he0 : w q0 = gAr cA n0 f) (hq1 : q1 < N) (he1 : w q1 = gAr cA n1 g) (ht : (gT E)[t]? = some (cA, ty)) (hprim : refKind ty = false) (hk0 : k ≤ n0) (hk1 : k ≤ n1) (hk : k < 2 ^ 31) (hfit : ∀ i, i < k → fits ty (.int (nI (f i))) = true)
    (w1 : Cond.methodLink own index arraycopyName ∈ lw_all) (w2 : Cond.native arraycopyName ∈ lw_all) (w3 : Cond.static arraycopyName ∈ lw_all) (w4 : Cond.initialized "java/lang/System" ∈ lw_all) (hf : 1 ≤ R.frames) (hl : (rest.map fun v => v.category).sum + 18 ≤ R.locals) (hdg : decode cc pc = .ok (.invokestatic index, 3))
    (kk : ∀ (H1 : Heap) (locs1 : List Loc), gP E ad N (va_up w q1 (gAr cA n1 (fil k f g))) H1 → va_S (gA E) s.heap H1 locs1 → W p l e R s m args below meth c H1 locs1 cells slots Q (F0 m (pc + 3) ls rest)) : W p l e R s m args below meth c H locs cells slots Q (F0 m pc ls (.int (nI k) :: .int (nI 0) :: .ref (ad q1) :: .int (nI 0) :: .ref (ad q0) :: rest)) := by
  refine va_copyi (D := E.1) (cl := vwCl) (tys := gT E) (ws := gl ad N w) (A := gA E) S.1 S.2.1 (S.2.2.1.trans hsz.symm) S.2.2.2.1 (S.2.2.2.2 _ w1) (S.2.2.2.2 _ w2) (S.2.2.2.2 _ w3) (S.2.2.2.2 _ w4) hI.1 hP.1 hP.2 hS q0 q1 t t (by rw [gl_get hq0, he0]) (by rw [gl_get hq1, he1]) ht ht hprim (nI_pos (by decide)) (nI_pos (by decide)) (nI_pos hk) (by rw [nI_clamp hk, nI_clamp (by decide)]; omega) (by rw [nI_clamp hk, nI_clamp (by decide)]; omega) (fun i hi => by rw [nI_clamp hk] at hi; rw [nI_clamp (by decide), Nat.zero_add]; exact hfit i hi) hf hl hdg (fun H1 locs1 a b d => ?_)
  rw [gl_set hq1, nI_clamp hk, nI_clamp (by decide), cpy_nI] at a b
  exact kk H1 locs1 ⟨a, b⟩ d
theorem fits_z {v : Nat} (h : v ≤ 1) : fits .boolean (.int (nI v)) = true := by
  rcases (show v = 0 ∨ v = 1 by omega) with rfl | rfl <;> decide +kernel
/-- calls that only read -/
theorem g_roi {a : Array Value} {mc ms : Nat} {v : Int32} (hr : va_Run p l e R s m args below meth c H locs cells slots mc ms (F0 m pc ls st0) rest (va_Qi (fun r w' => r = v ∧ w' = w) (gB E ad N) (gA E) a) (gA E)) (hS : va_S (gA E) s.heap H locs)
    (kk : ∀ (H1 : Heap) (locs1 : List Loc), gP E ad N w H1 → va_S (gA E) s.heap H1 locs1 → W p l e R s m args below meth c H1 locs1 (cells + mc) (slots + ms) Q (F0 m (pc + 3) ls (.int v :: rest))) : W p l e R s m args below meth c H locs cells slots Q (F0 m pc ls st0) :=
  g_afi hr hS (fun r w' H1 locs1 hq hP1 hS1 => by obtain ⟨rfl, hw⟩ := hq; rw [hw] at hP1; exact kk H1 locs1 hP1 hS1)
theorem g_rof {a : Array Value} {mc ms : Nat} {v : UInt32} (hr : va_Run p l e R s m args below meth c H locs cells slots mc ms (F0 m pc ls st0) rest (va_Qf (fun r w' => r = v ∧ w' = w) (gB E ad N) (gA E) a) (gA E)) (hS : va_S (gA E) s.heap H locs)
    (kk : ∀ (H1 : Heap) (locs1 : List Loc), gP E ad N w H1 → va_S (gA E) s.heap H1 locs1 → W p l e R s m args below meth c H1 locs1 (cells + mc) (slots + ms) Q (F0 m (pc + 3) ls (.float v :: rest))) : W p l e R s m args below meth c H locs cells slots Q (F0 m pc ls st0) :=
  g_aff hr hS (fun r w' H1 locs1 hq hP1 hS1 => by obtain ⟨rfl, hw⟩ := hq; rw [hw] at hP1; exact kk H1 locs1 hP1 hS1)
theorem g_rod {a : Array Value} {mc ms : Nat} {v : UInt64} (hr : va_Run p l e R s m args below meth c H locs cells slots mc ms (F0 m pc ls st0) rest (va_Qd (fun r w' => r = v ∧ w' = w) (gB E ad N) (gA E) a) (gA E)) (hS : va_S (gA E) s.heap H locs)
    (kk : ∀ (H1 : Heap) (locs1 : List Loc), gP E ad N w H1 → va_S (gA E) s.heap H1 locs1 → W p l e R s m args below meth c H1 locs1 (cells + mc) (slots + ms) Q (F0 m (pc + 3) ls (.double v :: rest))) : W p l e R s m args below meth c H locs cells slots Q (F0 m pc ls st0) :=
  g_afd hr hS (fun r w' H1 locs1 hq hP1 hS1 => by obtain ⟨rfl, hw⟩ := hq; rw [hw] at hP1; exact kk H1 locs1 hP1 hS1)
end GROW3
