/-! pairs of neighbours by their differences; routes by unions and by halving -/
def kcI (x : Nat) : Int32 := if x = 1000000 then -1 else nI x
def volI (lv ht : Nat → Nat) : Nat → Int32
  | 0 => nI 0
  | n + 1 => volI lv ht n + (nI (lv n) - nI (ht n))
/-- a number is put into its place among the first -/
def insP (v : Nat) : Nat → (Nat → Nat) → Nat → Nat
  | 0, f => va_up f 0 v
  | p + 1, f => if v < f p then insP v p (va_up f (p + 1) (f p)) else va_up f (p + 1) v
theorem insP_le {v m B : Nat} (hv : v ≤ B) : ∀ {p : Nat} {f : Nat → Nat}, p ≤ m → (∀ j, j < m + 1 → j ≠ p → f j ≤ B) → ∀ j, j < m + 1 → insP v p f j ≤ B
  | 0, f, _, h, j, hj => by
    simp only [insP]
    by_cases q : j = 0
    · rw [q, va_up_self]; exact hv
    · rw [va_up_ne _ _ q]; exact h j hj q
  | p + 1, f, hp, h, j, hj => by
    simp only [insP]
    split
    · refine insP_le hv (by omega) (fun i hi hip => ?_) j hj
      by_cases q : i = p + 1
      · rw [q, va_up_self]; exact h p (by omega) (by omega)
      · rw [va_up_ne _ _ q]; exact h i hi q
    · by_cases q : j = p + 1
      · rw [q, va_up_self]; exact hv
      · rw [va_up_ne _ _ q]; exact h j hj q
def prV (ht : Nat → Nat) (c k d : Nat) : Nat := dif (ht c) (ht k) * 144 + c * 4 + d
def prP (ht wr : Nat → Nat) (c d : Nat) (s : (Nat → Nat) × Nat) : (Nat → Nat) × Nat := match nb c d with
  | none => s
  | some k => if 3 ≤ wr c then s else if 3 ≤ wr k then s else if 60 ≤ s.2 then s else (insP (prV ht c k d) s.2 s.1, s.2 + 1)
def prOk (s : (Nat → Nat) × Nat) : Prop := s.2 ≤ 60 ∧ ∀ j, j < s.2 → s.1 j ≤ 14399
theorem dif_le {a b B : Nat} (ha : a ≤ B) (hb : b ≤ B) : dif a b ≤ B := by unfold dif; split <;> omega
theorem prV_le {ht : Nat → Nat} {c k d : Nat} (hht : ∀ k, k < 36 → ht k ≤ 99) (hc : c < 36) (hk : k < 36) (hd : d < 4) : prV ht c k d ≤ 14399 := by
  have h := dif_le (hht c hc) (hht k hk)
  unfold prV; omega
theorem prP_ok {ht wr : Nat → Nat} {c d : Nat} {s : (Nat → Nat) × Nat} (hht : ∀ k, k < 36 → ht k ≤ 99) (hc : c < 36) (hd : d < 4) (h : prOk s) : prOk (prP ht wr c d s) := by
  unfold prP
  split
  · exact h
  · rename_i k hk
    split
    · exact h
    · split
      · exact h
      · split
        · exact h
        · exact ⟨by show s.2 + 1 ≤ 60; omega, fun j hj => insP_le (prV_le hht hc (nb_lt hc hk) hd) (Nat.le_refl _) (fun i hi hne => h.2 i (by omega)) j hj⟩
def prN (ht wr pq : Nat → Nat) : Nat → (Nat → Nat) × Nat
  | 0 => (pq, 0)
  | n + 1 => prP ht wr n 2 (prP ht wr n 1 (prN ht wr pq n))
theorem prN_ok {ht wr pq : Nat → Nat} (hht : ∀ k, k < 36 → ht k ≤ 99) : ∀ {n : Nat}, n ≤ 36 → prOk (prN ht wr pq n)
  | 0, _ => ⟨Nat.zero_le _, fun j hj => absurd hj (Nat.not_lt_zero _)⟩
  | n + 1, hn => prP_ok hht (by omega) (by omega) (prP_ok hht (by omega) (by omega) (prN_ok hht (by omega)))
/-- a pair's cells are united -/
def suP (pa : Nat → Nat) (v : Nat) : Nat → Nat := match nb (v % 144 / 4) (v % 4) with
  | none => pa
  | some k => unU pa (v % 144 / 4) k
theorem suP_lt {pa : Nat → Nat} {v : Nat} (h : ∀ k, k < 36 → pa k < 36) : ∀ k, k < 36 → suP pa v k < 36 := by
  unfold suP
  cases hn : nb (v % 144 / 4) (v % 4) with
  | none => exact h
  | some k => exact unU_lt h (by omega)
/-- pairs are united from a rank on, till two cells are in one set -/
def suG (pq : Nat → Nat) (pn a b : Nat) : Nat → Nat → (Nat → Nat) → (Nat → Nat) × Int32
  | 0, _, pa => (pa, -1)
  | n + 1, q, pa => if q < pn then (if rtN (suP pa (pq q)) 36 a = rtN (suP pa (pq q)) 36 b then (suP pa (pq q), nI (pq q / 144)) else suG pq pn a b n (q + 1) (suP pa (pq q))) else (pa, -1)
theorem suG_z (pq : Nat → Nat) (pn a b q : Nat) (pa : Nat → Nat) : suG pq pn a b 0 q pa = (pa, -1) := rfl
theorem suG_s (pq : Nat → Nat) (pn a b n q : Nat) (pa : Nat → Nat) : suG pq pn a b (n + 1) q pa = if q < pn then (if rtN (suP pa (pq q)) 36 a = rtN (suP pa (pq q)) 36 b then (suP pa (pq q), nI (pq q / 144)) else suG pq pn a b n (q + 1) (suP pa (pq q))) else (pa, -1) := rfl
abbrev ldOk (ht wr : Nat → Nat) (st : Nat) : Nat → Nat → Bool := fun c k => decide (¬ 3 ≤ wr k ∧ dif (ht c) (ht k) ≤ st)
/-- the range of steps is halved -/
def hvG (ht wr : Nat → Nat) (a b : Nat) : Nat → Nat → Nat → Nat
  | 0, _, mx => mx
  | n + 1, mn, mx => if mn < mx then (if ldB (ldOk ht wr ((mn + mx) / 2)) a b = true then hvG ht wr a b n mn ((mn + mx) / 2) else hvG ht wr a b n ((mn + mx) / 2 + 1) mx) else mx
theorem hvG_z (ht wr : Nat → Nat) (a b mn mx : Nat) : hvG ht wr a b 0 mn mx = mx := rfl
theorem hvG_s (ht wr : Nat → Nat) (a b n mn mx : Nat) : hvG ht wr a b (n + 1) mn mx = if mn < mx then (if ldB (ldOk ht wr ((mn + mx) / 2)) a b = true then hvG ht wr a b n mn ((mn + mx) / 2) else hvG ht wr a b n ((mn + mx) / 2 + 1) mx) else mx := rfl
section GROW5
variable {p : Program} {l : Launch} {e : Env} {R : Room} {s : State} {m : MethodId} {args : Array Value} {below : List Frame} {meth : Method} {c : Code} {H : Heap} {locs : List Loc} {cells slots : Nat} {Q : State → Prop}
variable {cc : ByteArray} {pc nL : Nat} {ls : Array Slot} {rest st0 : List Value} {own : String} {E : gE} {ad : Nat → Nat} {N : Nat} {w : Nat → va_E}
/-- a static method of another class -/
theorem g_cwSX {y : MethodName} {bytes : ByteArray} {maxL index mc ms n : Nat} {ret : Option FieldType} {rm : Room} (S : gFix p m c cc nL s args own) (q1 : Cond.methodLink own index y ∈ lw_all) (q2 : Cond.static y ∈ lw_all) (q4 : Cond.initialized y.cls ∈ lw_all) (q5 : Cond.code y bytes maxL ret ∈ lw_all) (hrc : rm.cells = mc) (hrs : rm.slots = ms)
    (hd : y.cls ≠ "java/lang/invoke/MethodHandle" ∧ y.cls ≠ "java/lang/invoke/VarHandle" ∧ (parseMethodDescriptor y.desc).map (fun d => d.parameters.length) = some n) (hR : rm.frames + 1 ≤ R.frames ∧ 8 + (maxL + 11) + rm.locals ≤ R.locals) : CallB R s args own index y bytes maxL ret (lw_ws y bytes maxL ret) rm mc ms n ∧ (Cond.static y).before args s = true :=
  ⟨callB_of n S.2.2.2.2 (lw_goodIn q5) rfl hrc hrs (S.2.2.2.2 _ q4) (S.2.2.2.2 _ q1) hd hR, S.2.2.2.2 _ q2⟩
theorem g_runSX (S : gFix p m c cc nL s args own) (hI : gI E s s.heap) (hP : gP E ad N w H) (hS : va_S (gA E) s.heap H locs) {y : MethodName} {bytes : ByteArray} {maxL index mc ms k : Nat} {ret : Option FieldType} {rm : Room} {As : List Value} {Qc : Array Value → State → Outcome → State → Prop}
    (hM : Met l y (lw_ws y bytes maxL ret) rm (gPc E ad N w As) Qc mc ms (gA E)) (q1 : Cond.methodLink own index y ∈ lw_all) (q2 : Cond.static y ∈ lw_all) (q4 : Cond.initialized y.cls ∈ lw_all) (q5 : Cond.code y bytes maxL ret ∈ lw_all) (hrc : rm.cells = mc) (hrs : rm.slots = ms)
    (hd : y.cls ≠ "java/lang/invoke/MethodHandle" ∧ y.cls ≠ "java/lang/invoke/VarHandle" ∧ (parseMethodDescriptor y.desc).map (fun d => d.parameters.length) = some k) (hR : rm.frames + 1 ≤ R.frames ∧ 8 + (maxL + 11) + rm.locals ≤ R.locals)
    (hn : As.length = k) (hsize : ls.size = nL) (hst : st0 = As.reverse ++ rest) (hW : (rest.map fun v => v.category).sum ≤ 8) (hf : cells + mc ≤ R.cells ∧ slots + ms ≤ R.slots) (hdg : decode cc pc = .ok (.invokestatic index, 3)) :
    va_Run p l e R s m args below meth c H locs cells slots mc ms (F0 m pc ls st0) rest (Qc As.toArray) (gA E) :=
  va_runS (As := As) (rest := rest) S hM (g_cwSX S q1 q2 q4 q5 hrc hrs hd hR) (g_preS hI hP hS) rfl hn hsize hst (lv_room hW) hdg hf
/-- an optional number against a number -/
theorem g_onN {o : Option Nat} {a : Nat} (S : gFix p m c cc nL s args own) (ho : ∀ k, o = some k → k < 2 ^ 31) (ha : a < 2 ^ 31) {off : Int} {tgt : Nat} (hdg : decode cc pc = .ok (.if_icmp .ne off, 3)) (ht : (pc : Int) + off = (tgt : Int)) (k1 : ¬ o = some a → W p l e R s m args below meth c H locs cells slots Q (F0 m tgt ls rest)) (k2 : o = some a → W p l e R s m args below meth c H locs cells slots Q (F0 m (pc + 3) ls rest)) : W p l e R s m args below meth c H locs cells slots Q (F0 m pc ls (.int (nI a) :: .int (oI o) :: rest)) := by
  cases o with
  | none => exact lv_icmp_ne S.1 S.2.1 hdg ht (fun _ => k1 (fun h => by cases h)) (fun h => absurd (Eq.symm h) (nI_m1 ha))
  | some k => exact lv_icmp_ne S.1 S.2.1 hdg ht (fun h => k1 (fun q => h (by rw [Option.some.inj q]; rfl))) (fun h => k2 (by rw [(nI_eq (ho k rfl) ha).mp h]))
end GROW5
