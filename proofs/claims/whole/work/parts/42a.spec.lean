/-! a change that is asked for: why it is refused, the denial's detail, what it does; slopes -/
abbrev Sh : Type := (Nat → Nat) × (Nat → Nat) × (Nat → Nat) × (Nat → Nat) × (Nat → Nat) × (Nat → Nat) × Nat × Nat × Nat × Nat
def cmR (ht pg wr mo : Nat → Nat) (mc vb : Nat) (o : Option Nat) (v : Int32) : Int32 := match vb with
  | 0 => rfH ht o v
  | 1 => rfP pg o 1
  | 2 => rfP pg o 0
  | 4 => rfU o v
  | 6 => rfM wr mo mc o
  | 7 => if (inR v mc).isSome = true then nI 0 else -1
  | 9 => rfC wr mo mc o
  | _ => nI 0
def cmT (pg wr mo : Nat → Nat) (mc dq : Nat) (o : Option Nat) (v : Int32) : Int32 := match dq with
  | 1 => nI 4
  | 2 => nI (cnt (fun k => pg k == 1) 36)
  | 3 => nI (cnt (fun k => decide (3 ≤ wr k)) 36)
  | 4 => nI (cnt (fun k => decide (3 ≤ wr k)) 36)
  | 5 => oI (fstN (fun j => mo j == o.getD 0) mc)
  | _ => v
/-- vb's command over the cell k with the number u: the answer, the sheet -/
def cmS (vb k u : Nat) (ht dr pg wt wr mo : Nat → Nat) (mc ni po dn : Nat) : Int32 × Sh := match vb with
  | 0 => (nI (ht k), va_up ht k u, dr, pg, wt, wr, mo, mc, ni, po, dn)
  | 1 => (nI (cnt (fun j => va_up pg k 1 j == 1) 36), ht, dr, va_up pg k 1, wt, wr, mo, mc, ni, po, dn)
  | 2 => (nI (cnt (fun j => va_up pg k 0 j == 1) 36), ht, dr, va_up pg k 0, wt, wr, mo, mc, ni, po, dn)
  | 3 => (nI (cnt (fun k => !(drA ht pg k == ht k)) 36), fil 36 (fil 36 (drA ht pg) dr) ht, fil 36 (drA ht pg) dr, pg, wt, wr, mo, mc, ni, po, dn)
  | 4 => (nI (if 3 ≤ wr (endN ht wr 36 k) then u else 0), ht, dr, pg, if 3 ≤ wr (endN ht wr 36 k) then wt else va_up wt (endN ht wr 36 k) (wt (endN ht wr 36 k) + u), wr, mo, mc, ni, po + u, if 3 ≤ wr (endN ht wr 36 k) then dn + u else dn)
  | 5 => (nI (stl ht wr wt dn 36).2.2, ht, dr, pg, (stl ht wr wt dn 36).1, wr, mo, mc, ni, po, (stl ht wr wt dn 36).2.1)
  | 6 => (nI mc, ht, dr, pg, wt, wr, va_up mo mc k, mc + 1, ni, po, dn)
  | 7 => (nI (mc - 1), ht, dr, pg, wt, wr, shf mo u (mc - 1), mc - 1, ni, po, dn)
  | 8 => (nI (night ht wr mo mc mc).2.2, ht, dr, pg, wt, (night ht wr mo mc mc).2.1, (night ht wr mo mc mc).1, mc, ni + 1, po, dn)
  | _ => (nI (wr k), ht, dr, pg, wt, va_up wr k 0, mo, mc, ni, po, dn)
/-- a command that isn't refused, over k and u -/
def cmK (vb : Nat) (o : Option Nat) (v : Int32) (k u mc : Nat) : Prop := k < 36 ∧ u < 2 ^ 31 ∧ (vb = 0 ∨ vb = 1 ∨ vb = 2 ∨ vb = 4 ∨ vb = 6 ∨ vb = 9 → o = some k) ∧ (vb = 0 ∨ vb = 4 ∨ vb = 7 → v = nI u) ∧ (vb = 6 → mc < 4) ∧ (vb = 7 → u < mc)
def slS (ht : Nat → Nat) (c : Nat) : Nat → Nat
  | 0 => 0
  | d + 1 => match nb c d with
    | some k => slS ht c d + dif (ht c) (ht k)
    | none => slS ht c d
def slC (c : Nat) : Nat → Nat
  | 0 => 0
  | d + 1 => match nb c d with
    | some _ => slC c d + 1
    | none => slC c d
theorem slS_b {ht : Nat → Nat} {c : Nat} (hc : c < 36) (hh : ∀ k, k < 36 → ht k ≤ 99) : ∀ d, slS ht c d ≤ 99 * d
  | 0 => Nat.le_refl _
  | d + 1 => by
    have h := slS_b hc hh d
    simp only [slS]
    split
    · rename_i k hk
      have := dif_le (hh c hc) (hh k (nb_lt hc hk))
      omega
    · omega
theorem slC_le (c : Nat) : ∀ d, slC c d ≤ d
  | 0 => Nat.le_refl _
  | d + 1 => by have h := slC_le c d; simp only [slC]; split <;> omega
theorem slC_4 : ∀ c, c < 36 → 2 ≤ slC c 4 := by decide +kernel
theorem sl_num : ∀ a, a < 397 → ∀ b, b < 5 → 2 ≤ b → FP.fdiv (FP.i2f (nI a)) (FP.i2f (nI b)) &&& 0x7fffffff ≤ 0x7f800000 := by decide +kernel
theorem mh_num2 : ∀ a, a < 60 → ∀ b, b < 60 → FP.ddiv (FP.i2d (nI (a * 60 + b))) (FP.i2d (nI 36)) &&& 0x7fffffffffffffff ≤ 0x7ff0000000000000 := by decide +kernel
theorem mh_num (a : Nat) (h : a < 3565) : FP.ddiv (FP.i2d (nI a)) (FP.i2d (nI 36)) &&& 0x7fffffffffffffff ≤ 0x7ff0000000000000 := by
  have h1 := mh_num2 (a / 60) (by omega) (a % 60) (by omega)
  rw [show a / 60 * 60 + a % 60 = a by omega] at h1
  exact h1
section GROW7
variable {p : Program} {l : Launch} {e : Env} {R : Room} {s : State} {m : MethodId} {args : Array Value} {below : List Frame} {meth : Method} {c : Code} {H : Heap} {locs : List Loc} {cells slots : Nat} {Q : State → Prop}
variable {cc : ByteArray} {pc nL : Nat} {ls : Array Slot} {rest st0 : List Value} {own : String} {E : gE} {ad : Nat → Nat} {N : Nat} {w : Nat → va_E}
theorem g_fret {v : UInt32} {w' : Nat → va_E} {post : UInt32 → (Nat → va_E) → Prop} (S : gFix p m c cc nL s args own) (hr : meth.sig.returnType = some .float) (hlocks : meth.locks = false) (hP : gP E ad N w H) (hS : va_S (gA E) s.heap H locs) (hpost : post v w') (hw : ∀ q, q < N → w q = w' q) {mc ms : Nat} (hmc : cells ≤ mc) (hms : slots ≤ ms) (hdg : decode cc pc = .ok (.freturn, 1)) : W p l e R s m args below meth c H locs cells slots (MQ below (va_Qf post (gB E ad N) (gA E)) args s mc ms (gA E)) (F0 m pc ls [.float v]) := by
  refine W.widen (k := mc) (n := ms) hmc hms ?_
  exact W.fret S.1 S.2.1 hr (fun t ht _ => ⟨⟨v, w', rfl, hpost, by show gP E ad N w' t.heap; rw [ht]; exact hP.to hw⟩, hS.F ht⟩) hS.2.2 hdg hlocks
theorem g_dret {v : UInt64} {w' : Nat → va_E} {post : UInt64 → (Nat → va_E) → Prop} (S : gFix p m c cc nL s args own) (hr : meth.sig.returnType = some .double) (hlocks : meth.locks = false) (hP : gP E ad N w H) (hS : va_S (gA E) s.heap H locs) (hpost : post v w') (hw : ∀ q, q < N → w q = w' q) {mc ms : Nat} (hmc : cells ≤ mc) (hms : slots ≤ ms) (hdg : decode cc pc = .ok (.dreturn, 1)) : W p l e R s m args below meth c H locs cells slots (MQ below (va_Qd post (gB E ad N) (gA E)) args s mc ms (gA E)) (F0 m pc ls [.double v]) := by
  refine W.widen (k := mc) (n := ms) hmc hms ?_
  exact W.dret S.1 S.2.1 hr (fun t ht _ => ⟨⟨v, w', rfl, hpost, by show gP E ad N w' t.heap; rw [ht]; exact hP.to hw⟩, hS.F ht⟩) hS.2.2 hdg hlocks
theorem g_cret {v : Int32} {w' : Nat → va_E} {post : Int32 → (Nat → va_E) → Prop} (S : gFix p m c cc nL s args own) (hr : meth.sig.returnType = some .char) (hlocks : meth.locks = false) (hv : ∃ q, q < 65536 ∧ v = nI q) (hP : gP E ad N w H) (hS : va_S (gA E) s.heap H locs) (hpost : post v w') (hw : ∀ q, q < N → w q = w' q) {mc ms : Nat} (hmc : cells ≤ mc) (hms : slots ≤ ms) (hdg : decode cc pc = .ok (.ireturn, 1)) : W p l e R s m args below meth c H locs cells slots (MQ below (va_Qi post (gB E ad N) (gA E)) args s mc ms (gA E)) (F0 m pc ls [.int v]) := by
  refine W.widen (k := mc) (n := ms) hmc hms ?_
  exact W.zret (ty := .char) S.1 S.2.1 hr (by obtain ⟨q, hq, rfl⟩ := hv; exact (pk_charN hq).1) (fun t ht _ => ⟨⟨v, w', rfl, hpost, by show gP E ad N w' t.heap; rw [ht]; exact hP.to hw⟩, hS.F ht⟩) hS.2.2 hdg hlocks
end GROW7
