/-! THE MODEL'S TEXTS -/
def herO (ip : Nat → Nat) (ln p : Nat) : Option Nat := if p < ln then some (ip p) else none
def ht1 (ln : Nat) (bf : Nat → Nat) (p c : Nat) : Bool := decide (p < ln ∧ bf p = c)
theorem herO_31 {ip : Nat → Nat} {ln p : Nat} (hln : ln ≤ 60) (hip : ∀ j, j < 60 → ip j < 65536) : ∀ k, herO ip ln p = some k → k < 2 ^ 31 := fun k h => by
  unfold herO at h
  split at h
  · have := hip p (by omega); cases h; omega
  · cases h
theorem herO_y {ip : Nat → Nat} {ln p c : Nat} (h : herO ip ln p = some c) : ht1 ln ip p c = true := by
  unfold herO at h
  split at h
  · cases h; exact decide_eq_true ⟨by assumption, rfl⟩
  · cases h
theorem herO_n {ip : Nat → Nat} {ln p c : Nat} (h : ¬ herO ip ln p = some c) : ht1 ln ip p c = false := by
  unfold herO at h
  refine decide_eq_false (fun q => h ?_)
  rw [if_pos q.1, q.2]
def litN (ln : Nat) (bf : Nat → Nat) : List Nat → Nat → Nat × Bool
  | [], p => (p, true)
  | c :: l, p => if ht1 ln bf p c = true then litN ln bf l (p + 1) else (p, false)
def nspc (c : Nat) : Bool := !(c == 67) && !(c == 73) && !(c == 78) && !(c == 82)
theorem rdS_lit {ln : Nat} {bf : Nat → Nat} {c p : Nat} {t : Tp} (hc : nspc c = true) : rdS ln bf c p t = (if ht1 ln bf p c = true then 1 else 0, t) := by
  simp only [nspc, Bool.and_eq_true, Bool.not_eq_true', beq_eq_false_iff_ne] at hc
  obtain ⟨⟨⟨h1, h2⟩, h3⟩, h4⟩ := hc
  unfold rdS
  rw [if_neg h1, if_neg h2, if_neg h3, if_neg h4]
  unfold ht1
  by_cases q : p < ln ∧ bf p = c
  · rw [if_pos q, if_pos (decide_eq_true q)]
  · rw [if_neg q, if_neg (by rw [decide_eq_false q]; decide)]
theorem rdF_lit {ln : Nat} {bf : Nat → Nat} {c p : Nat} {l : List Nat} {t : Tp} (hc : nspc c = true) : rdF ln bf (c :: l) p t = if ht1 ln bf p c = true then rdF ln bf l (p + 1) t else (p, none) := by
  show (if (rdS ln bf c p t).1 = 0 then _ else _) = _
  rw [rdS_lit hc]
  by_cases q : ht1 ln bf p c = true
  · rw [if_pos q, if_pos q, if_neg (show ¬ (1 : Nat) = 0 by decide)]
  · rw [if_neg q, if_neg q, if_pos rfl]
theorem rdF_lits {ln : Nat} {bf : Nat → Nat} {l : List Nat} {t : Tp} : ∀ (w : List Nat) (p : Nat), w.all nspc = true → rdF ln bf (w ++ l) p t = if (litN ln bf w p).2 = true then rdF ln bf l (litN ln bf w p).1 t else ((litN ln bf w p).1, none)
  | [], p, _ => rfl
  | c :: w, p, h => by
    rw [List.all_cons, Bool.and_eq_true] at h
    rw [List.cons_append, rdF_lit h.1]
    by_cases q : ht1 ln bf p c = true
    · rw [if_pos q, rdF_lits w (p + 1) h.2, show litN ln bf (c :: w) p = litN ln bf w (p + 1) from if_pos q]
    · rw [if_neg q, show litN ln bf (c :: w) p = (p, false) from if_neg q]; rfl
theorem rdF_R {ln : Nat} {bf : Nat → Nat} {p : Nat} {l : List Nat} {t : Tp} : rdF ln bf (82 :: l) p t = if dgt ln bf p = none then (p, none) else rdF ln bf l (p + 1) (dgt ln bf p, t.2.1, t.2.2) := by
  show (if (rdS ln bf 82 p t).1 = 0 then _ else _) = _
  rw [show rdS ln bf 82 p t = (wdO (dgt ln bf p), (dgt ln bf p, t.2.1, t.2.2)) from rfl]
  cases dgt ln bf p <;> rfl
theorem rdF_C {ln : Nat} {bf : Nat → Nat} {p : Nat} {l : List Nat} {t : Tp} : rdF ln bf (67 :: l) p t = if dgt ln bf p = none then (p, none) else rdF ln bf l (p + 1) (t.1, dgt ln bf p, t.2.2) := by
  show (if (rdS ln bf 67 p t).1 = 0 then _ else _) = _
  rw [show rdS ln bf 67 p t = (wdO (dgt ln bf p), (t.1, dgt ln bf p, t.2.2)) from rfl]
  cases dgt ln bf p <;> rfl
theorem rdF_I {ln : Nat} {bf : Nat → Nat} {p : Nat} {l : List Nat} {t : Tp} : rdF ln bf (73 :: l) p t = if dgt ln bf p = none then (p, none) else rdF ln bf l (p + 1) (t.1, t.2.1, dgt ln bf p) := by
  show (if (rdS ln bf 73 p t).1 = 0 then _ else _) = _
  rw [show rdS ln bf 73 p t = (wdO (dgt ln bf p), (t.1, t.2.1, dgt ln bf p)) from rfl]
  cases dgt ln bf p <;> rfl
theorem rdF_N0 {ln : Nat} {bf : Nat → Nat} {p : Nat} {l : List Nat} {t : Tp} (h : dgt ln bf p = none) : rdF ln bf (78 :: l) p t = (p, none) := by
  show (if (rdS ln bf 78 p t).1 = 0 then _ else _) = _
  rw [show rdS ln bf 78 p t = ((rdN ln bf p t.2.2).1, (t.1, t.2.1, (rdN ln bf p t.2.2).2)) from rfl]
  unfold rdN
  rw [h]; rfl
theorem rdF_N1 {ln : Nat} {bf : Nat → Nat} {p a : Nat} {l : List Nat} {t : Tp} (h : dgt ln bf p = some a) (h2 : dgt ln bf (p + 1) = none) : rdF ln bf (78 :: l) p t = rdF ln bf l (p + 1) (t.1, t.2.1, some a) := by
  show (if (rdS ln bf 78 p t).1 = 0 then _ else _) = _
  rw [show rdS ln bf 78 p t = ((rdN ln bf p t.2.2).1, (t.1, t.2.1, (rdN ln bf p t.2.2).2)) from rfl]
  unfold rdN
  rw [h, h2]; rfl
theorem rdF_N2 {ln : Nat} {bf : Nat → Nat} {p a c : Nat} {l : List Nat} {t : Tp} (h : dgt ln bf p = some a) (h2 : dgt ln bf (p + 1) = some c) : rdF ln bf (78 :: l) p t = rdF ln bf l (p + 2) (t.1, t.2.1, some (10 * a + c)) := by
  show (if (rdS ln bf 78 p t).1 = 0 then _ else _) = _
  rw [show rdS ln bf 78 p t = ((rdN ln bf p t.2.2).1, (t.1, t.2.1, (rdN ln bf p t.2.2).2)) from rfl]
  unfold rdN
  rw [h, h2]; rfl
theorem dgt_ip {ln : Nat} {bf : Nat → Nat} {p k : Nat} (h : dgt ln bf p = some k) : p < ln ∧ k ≤ 9 ∧ bf p = 48 + k := by
  unfold dgt at h
  split at h
  · rename_i q; cases h; omega
  · cases h
theorem in_dg {ip : Nat → Nat} {ln p : Nat} (hln : ln ≤ 60) (hip : ∀ j, j < 60 → ip j < 65536) : decide (nI 48 ≤ oI (herO ip ln p) ∧ oI (herO ip ln p) ≤ nI 57) = (dgt ln ip p).isSome := by
  unfold herO dgt
  by_cases q : p < ln
  · have hp := hip p (by omega)
    rw [if_pos q]
    by_cases z : 48 ≤ ip p ∧ ip p ≤ 57
    · rw [if_pos ⟨q, z⟩, decide_eq_true ⟨(nI_leI (by decide) (by omega)).mpr z.1, (nI_leI (by omega) (by decide)).mpr z.2⟩]; rfl
    · rw [if_neg (fun y => z y.2), decide_eq_false (fun y => z ⟨(nI_leI (by decide) (by omega)).mp y.1, (nI_leI (by omega) (by decide)).mp y.2⟩)]; rfl
  · rw [if_neg q, if_neg (fun y => q y.1), decide_eq_false (fun y => absurd y.1 (by decide +kernel))]; rfl
theorem hTw {E : gE} {kk : Nat → Nat} (hzv : gHv E kk) {i : Nat} (hi : i < 10) : ∀ (U : State) (H : Heap), E.2.2.2 U H → gStr (fun q => E.2.2.1 ≤ q) (kk (20 + i)) (kk (50 + i)) (wrd i) U H := fun U H h => ((hzv U H h).2.2.2.1 i hi).2
theorem wrd_len : ∀ i, i < 10 → (wrd i).length ≤ 11 := by decide
theorem wrd_nspc : ∀ i, i < 10 → (wrd i).all nspc = true := by decide
theorem wrd_128 : ∀ i, i < 10 → ∀ j, (wrd i).getD j 0 < 128 := fun i hi j => by
  have h : ∀ i, i < 10 → (wrd i).all (fun c => decide (c < 128)) = true := by decide
  by_cases q : j < (wrd i).length
  · have : (wrd i).getD j 0 = (wrd i)[j] := by simp [List.getD, q]
    rw [this]
    exact of_decide_eq_true (List.all_eq_true.mp (h i hi) _ (List.getElem_mem q))
  · have : (wrd i).getD j 0 = 0 := by simp [List.getD, List.getElem?_eq_none (Nat.le_of_not_lt q)]
    rw [this]
    decide
/-- which form can begin at a place -/
def selV (ln : Nat) (bf : Nat → Nat) (p : Nat) : Nat :=
  if ht1 ln bf p 104 = true then 0 else if ht1 ln bf p 102 = true then 2 else if ht1 ln bf p 100 = true then 3 else if ht1 ln bf p 109 = true then 6 else if ht1 ln bf p 110 = true then 8 else if ht1 ln bf p 115 = true then (if ht1 ln bf (p + 1) 101 = true then 5 else 7) else if ht1 ln bf p 112 = true then (if ht1 ln bf (p + 1) 101 = true then 1 else if ht1 ln bf (p + 1) 111 = true then 4 else 9) else 9
/-- what is told of a command -/
def tRel (tl : Nat → Nat) (i v : Nat) (t : Tp) : Prop := tl (4 * i) = v ∧ (v = 0 ∨ v = 1 ∨ v = 2 ∨ v = 4 ∨ v = 6 ∨ v = 9 → t.1 = some (tl (4 * i + 1)) ∧ t.2.1 = some (tl (4 * i + 2))) ∧ (v = 3 ∨ v = 5 ∨ v = 7 ∨ v = 8 → t.1 = none ∧ t.2.1 = none) ∧ (v = 0 ∨ v = 4 → t.2.2 = some (tl (4 * i + 3))) ∧ (v = 7 → t.2.2 = some (tl (4 * i + 1))) ∧ (v = 1 ∨ v = 2 ∨ v = 3 ∨ v = 5 ∨ v = 6 ∨ v = 8 ∨ v = 9 → t.2.2 = none) ∧ ∀ j, j < 4 → tl (4 * i + j) < 1000 ∨ (v = 3 ∨ v = 5 ∨ v = 8) ∨ (v = 7 ∧ 2 ≤ j) ∨ (j = 3 ∧ ¬ v = 0 ∧ ¬ v = 4)
section GLDC
variable {p : Program} {l : Launch} {e : Env} {R : Room} {s : State} {m : MethodId} {args : Array Value} {below : List Frame} {meth : Method} {c : Code} {H : Heap} {locs : List Loc} {cells slots : Nat} {Q : State → Prop}
variable {cc : ByteArray} {pc nL : Nat} {ls : Array Slot} {rest st0 : List Value} {own : String} {E : gE} {ad : Nat → Nat} {N : Nat} {w : Nat → va_E}
theorem g_ldcW (S : gFix p m c cc nL s args own) (hI : gI E s s.heap) (kk : Nat → Nat) (hzv : gHv E kk) (hown : own = "DustSheetMapModel") (i : Nat) (hi : i < 10) {index : Nat} (hix : index = wrdI i) (hdg : decode cc pc = .ok (.ldc index, 2))
    (k : W p l e R s m args below meth c H locs cells slots Q (F0 m (pc + 2) ls (.ref (kk (20 + i)) :: rest))) : W p l e R s m args below meth c H locs cells slots Q (F0 m pc ls rest) := by
  subst hown; subst hix
  exact va_ldcS S.1 S.2.1 S.2.2.2.1 ((hzv s s.heap hI.2.2.2.2).2.2.2.1 i hi).1 hdg k
end GLDC
theorem litN_le (ln : Nat) (bf : Nat → Nat) : ∀ (w : List Nat) (p : Nat), p ≤ (litN ln bf w p).1 ∧ (litN ln bf w p).1 ≤ p + w.length
  | [], p => ⟨Nat.le_refl _, Nat.le_refl _⟩
  | c :: w, p => by
    have ih := litN_le ln bf w (p + 1)
    simp only [litN]
    split
    · simp only [List.length_cons]; omega
    · simp only [List.length_cons]; omega
theorem tRel_0 {tl : Nat → Nat} {i v : Nat} (hv : v = 3 ∨ v = 5 ∨ v = 8) : tRel (va_up tl (4 * i) v) i v F0t :=
  ⟨va_up_self _ _ _, fun q => by omega, fun _ => ⟨rfl, rfl⟩, fun q => by omega, fun q => by omega, fun _ => rfl, fun j hj => Or.inr (Or.inl hv)⟩
theorem tRel_c {tl : Nat → Nat} {i v a c : Nat} (hv : v = 1 ∨ v = 2 ∨ v = 6 ∨ v = 9) (ha : a ≤ 9) (hc : c ≤ 9) : tRel (va_up (va_up (va_up tl (4 * i) v) (4 * i + 1) a) (4 * i + 1 + 1) c) i v (some a, some c, none) := by
  refine ⟨?_, fun _ => ⟨?_, ?_⟩, fun q => by omega, fun q => by omega, fun q => by omega, fun _ => rfl, fun j hj => ?_⟩
  · rw [va_up_ne _ _ (by omega), va_up_ne _ _ (by omega), va_up_self]
  · show some a = _; rw [va_up_ne _ _ (by omega), va_up_self]
  · show some c = _; rw [show 4 * i + 2 = 4 * i + 1 + 1 from rfl, va_up_self]
  · rcases (show j = 0 ∨ j = 1 ∨ j = 2 ∨ j = 3 by omega) with rfl | rfl | rfl | rfl
    · left; rw [va_up_ne _ _ (by omega), va_up_ne _ _ (by omega), show 4 * i + 0 = 4 * i from rfl, va_up_self]; omega
    · left; rw [va_up_ne _ _ (by omega), va_up_self]; omega
    · left; rw [show 4 * i + 2 = 4 * i + 1 + 1 from rfl, va_up_self]; omega
    · right; right; right; omega
theorem tRel_n {tl : Nat → Nat} {i v a c u : Nat} (hv : v = 0 ∨ v = 4) (ha : a ≤ 9) (hc : c ≤ 9) (hu : u < 1000) : tRel (va_up (va_up (va_up (va_up tl (4 * i) v) (4 * i + 1) a) (4 * i + 1 + 1) c) (4 * i + 1 + 2) u) i v (some a, some c, some u) := by
  refine ⟨?_, fun _ => ⟨?_, ?_⟩, fun q => by omega, fun _ => ?_, fun q => by omega, fun q => by omega, fun j hj => ?_⟩
  · rw [va_up_ne _ _ (by omega), va_up_ne _ _ (by omega), va_up_ne _ _ (by omega), va_up_self]
  · show some a = _; rw [va_up_ne _ _ (by omega), va_up_ne _ _ (by omega), va_up_self]
  · show some c = _; rw [va_up_ne _ _ (by omega), show 4 * i + 2 = 4 * i + 1 + 1 from rfl, va_up_self]
  · show some u = _; rw [show 4 * i + 3 = 4 * i + 1 + 2 from rfl, va_up_self]
  · rcases (show j = 0 ∨ j = 1 ∨ j = 2 ∨ j = 3 by omega) with rfl | rfl | rfl | rfl
    · left; rw [va_up_ne _ _ (by omega), va_up_ne _ _ (by omega), va_up_ne _ _ (by omega), show 4 * i + 0 = 4 * i from rfl, va_up_self]; omega
    · left; rw [va_up_ne _ _ (by omega), va_up_ne _ _ (by omega), va_up_self]; omega
    · left; rw [va_up_ne _ _ (by omega), show 4 * i + 2 = 4 * i + 1 + 1 from rfl, va_up_self]; omega
    · left; rw [show 4 * i + 3 = 4 * i + 1 + 2 from rfl, va_up_self]; exact hu
theorem tRel_i {tl : Nat → Nat} {i a : Nat} (ha : a ≤ 9) : tRel (va_up (va_up tl (4 * i) 7) (4 * i + 1) a) i 7 (none, none, some a) := by
  refine ⟨?_, fun q => by omega, fun _ => ⟨rfl, rfl⟩, fun q => by omega, fun _ => ?_, fun q => by omega, fun j hj => ?_⟩
  · rw [va_up_ne _ _ (by omega), va_up_self]
  · show some a = _; rw [va_up_self]
  · rcases (show j = 0 ∨ j = 1 ∨ 2 ≤ j by omega) with rfl | rfl | h
    · left; rw [va_up_ne _ _ (by omega), show 4 * i + 0 = 4 * i from rfl, va_up_self]; decide
    · left; rw [va_up_self]; omega
    · right; right; left; exact ⟨rfl, h⟩
section GOEN
variable {p : Program} {l : Launch} {e : Env} {R : Room} {s : State} {m : MethodId} {args : Array Value} {below : List Frame} {meth : Method} {c : Code} {H : Heap} {locs : List Loc} {cells slots : Nat} {Q : State → Prop}
variable {cc : ByteArray} {pc nL : Nat} {ls : Array Slot} {rest st0 : List Value} {own : String} {E : gE} {ad : Nat → Nat} {N : Nat} {w : Nat → va_E}
theorem g_oeN {o : Option Nat} {a : Nat} (S : gFix p m c cc nL s args own) (ho : ∀ k, o = some k → k < 2 ^ 31) (ha : a < 2 ^ 31) {off : Int} {tgt : Nat} (hdg : decode cc pc = .ok (.if_icmp .eq off, 3)) (ht : (pc : Int) + off = (tgt : Int)) (k1 : o = some a → W p l e R s m args below meth c H locs cells slots Q (F0 m tgt ls rest)) (k2 : ¬ o = some a → W p l e R s m args below meth c H locs cells slots Q (F0 m (pc + 3) ls rest)) : W p l e R s m args below meth c H locs cells slots Q (F0 m pc ls (.int (nI a) :: .int (oI o) :: rest)) := by
  cases o with
  | none => exact lv_icmp_eq S.1 S.2.1 hdg ht (fun h => absurd h.symm (nI_m1 ha)) (fun _ => k2 (fun q => by cases q))
  | some k => exact lv_icmp_eq S.1 S.2.1 hdg ht (fun h => k1 (by rw [(nI_eq (ho k rfl) ha).mp h])) (fun h => k2 (fun q => h (by rw [Option.some.inj q]; rfl)))
end GOEN
set_option maxHeartbeats 4000000 in
set_option maxRecDepth 100000 in
/-- the sign here -/
theorem mX13_here (l : Launch) {E : gE} {ad : Nat → Nat} {N : Nat} {w : Nat → va_E} (b : Nat) (g kp sv bf sd ip sg mk td lv tl : Nat → Nat) (qs qc qw qd co wy : Nat) (de : Int32) (ca ln : Nat) (fa : Option Nat) (sm pa tm : Nat)  (hb_m : bkP N w b 12 (MDC E ad b g kp sv bf sd ip sg mk td lv tl qs qc qw qd co wy de ca ln fa sm pa tm)) (hpa9 : pa < 2 ^ 31) (hln : ln ≤ 60) (hip : ∀ j, j < 60 → ip j < 65536) : gMi l yX13_here (lw_ws yX13_here cX13_here 1 (some .int)) ({ frames := 0, cells := 0, slots := 0, locals := 0 } : Room) E ad N w [.ref (ad (b))] (fun r w' => r = oI (herO ip ln pa) ∧ w' = w) 0 0 := by
  refine Met.ofW (cc := cX13_here) (maxL := 1) (ret := (some .int)) (by decide) rfl ?_
  intro p e s m args below meth cd s₁ B hml hv
  obtain ⟨rfl, hI, hP⟩ := hv
  obtain ⟨S, hr, hlocks⟩ := gPre (ws := []) B hml (C := RX13) rfl
  have hx := S.1
  have hb := S.2.1
  have hS : va_S (gA E) s.heap s.heap [] := va_S.rf
  have hl := lv_entry ([.ref (ad (b))]) (n := 1) (Nat.le_of_ble_eq_true rfl)
  rw [lg_entry_eq]
  generalize (lg_sl ([.ref (ad (b))]) ++ List.replicate (1 - (lg_sl ([.ref (ad (b))])).length) Slot.unset).toArray = ls at hl ⊢
  have hl : lv_has ls 1 [(0, .ref (ad (b)))] := hl
  by_cases hp0 : pa < ln
  · have hpi := hip pa (by omega)
    have hp2 : pa < 2 ^ 31 := by omega
    refine lv_aload_n hx hb dX13_here_0 rfl (lv_at hl 0 rfl) ?_
    refine g_get S hI hP uX13 rfl (fs := _) (hb_m.lt 0 (by decide)) (hb_m.2 0 (by decide)) 21 (by decide) q1808 rfl (v := .int (nI (pa))) rfl dX13_here_1 ?_
    refine lv_aload_n hx hb dX13_here_4 rfl (lv_at hl 0 rfl) ?_
    refine g_get S hI hP uX13 rfl (fs := _) (hb_m.lt 0 (by decide)) (hb_m.2 0 (by decide)) 14 (by decide) q1801 rfl (v := .int (nI (ln))) rfl dX13_here_5 ?_
    refine g_ge S (a := pa) (b := ln) (by omega) (by omega) (tgt := 23) dX13_here_8 (by decide) (fun h => ?_) (fun h => ?_)
    · omega
    · refine lv_aload_n hx hb dX13_here_11 rfl (lv_at hl 0 rfl) ?_
      refine g_get S hI hP uX13 rfl (fs := _) (hb_m.lt 0 (by decide)) (hb_m.2 0 (by decide)) 13 (by decide) q1800 rfl (v := .ref (ad (b + 6))) rfl dX13_here_12 ?_
      refine lv_aload_n hx hb dX13_here_15 rfl (lv_at hl 0 rfl) ?_
      refine g_get S hI hP uX13 rfl (fs := _) (hb_m.lt 0 (by decide)) (hb_m.2 0 (by decide)) 21 (by decide) q1808 rfl (v := .int (nI (pa))) rfl dX13_here_16 ?_
      refine g_iald S hI hP (f := fun j => nI (ip j)) (hb_m.lt 6 (by decide)) (hb_m.2 6 (by decide)) (pa) (by omega) (by decide) dX13_here_19 ?_
      refine lv_goto (tgt := 24) hx hb dX13_here_20 (by decide) ?_
      exact g_iret S hr hlocks hP hS (⟨by unfold herO; rw [if_pos hp0]; rfl, rfl⟩) (fun _ _ => rfl) (Nat.le_of_ble_eq_true rfl) (Nat.le_of_ble_eq_true rfl) dX13_here_24
  · by_cases hp9 : pa < 2 ^ 31
    · refine lv_aload_n hx hb dX13_here_0 rfl (lv_at hl 0 rfl) ?_
      refine g_get S hI hP uX13 rfl (fs := _) (hb_m.lt 0 (by decide)) (hb_m.2 0 (by decide)) 21 (by decide) q1808 rfl (v := .int (nI (pa))) rfl dX13_here_1 ?_
      refine lv_aload_n hx hb dX13_here_4 rfl (lv_at hl 0 rfl) ?_
      refine g_get S hI hP uX13 rfl (fs := _) (hb_m.lt 0 (by decide)) (hb_m.2 0 (by decide)) 14 (by decide) q1801 rfl (v := .int (nI (ln))) rfl dX13_here_5 ?_
      refine g_ge S (a := pa) (b := ln) (by omega) (by omega) (tgt := 23) dX13_here_8 (by decide) (fun h => ?_) (fun h => ?_)
      · refine lv_iconst (v := -1) hx hb dX13_here_23 (by decide +kernel) ?_
        exact g_iret S hr hlocks hP hS (⟨by unfold herO; rw [if_neg hp0]; rfl, rfl⟩) (fun _ _ => rfl) (Nat.le_of_ble_eq_true rfl) (Nat.le_of_ble_eq_true rfl) dX13_here_24
      · omega
    · exact absurd hpa9 hp9
set_option maxHeartbeats 4000000 in
set_option maxRecDepth 100000 in
/-- a sign is skipped -/
theorem mX13_skips (l : Launch) {E : gE} {ad : Nat → Nat} {N : Nat} {w : Nat → va_E} (b : Nat) (g kp sv bf sd ip sg mk td lv tl : Nat → Nat) (qs qc qw qd co wy : Nat) (de : Int32) (ca ln : Nat) (fa : Option Nat) (sm pa tm : Nat) (ch : Nat) (hb_m : bkP N w b 12 (MDC E ad b g kp sv bf sd ip sg mk td lv tl qs qc qw qd co wy de ca ln fa sm pa tm)) (hpa : pa ≤ 1000) (hln : ln ≤ 60) (hip : ∀ j, j < 60 → ip j < 65536) (hch : ch < 65536) : gMi l yX13_skips (lw_ws yX13_skips cX13_skips 2 (some .boolean)) ({ frames := 1, cells := 0, slots := 0, locals := 20 } : Room) E ad N w [.ref (ad (b)), .int (nI (ch))] (fun r w' => r = bI (ht1 ln ip pa ch) ∧ bkP N w' b 12 (MDC E ad b g kp sv bf sd ip sg mk td lv tl qs qc qw qd co wy de ca ln fa sm (if ht1 ln ip pa ch = true then pa + 1 else pa) tm) ∧ gFr (gIn b 12) w w') 0 0 := by
  refine Met.ofW (cc := cX13_skips) (maxL := 2) (ret := (some .boolean)) (by decide) rfl ?_
  intro p e s m args below meth cd s₁ B hml hv
  obtain ⟨rfl, hI, hP⟩ := hv
  obtain ⟨S, hr, hlocks⟩ := gPre (ws := []) B hml (C := RX13) rfl
  have hx := S.1
  have hb := S.2.1
  have hS : va_S (gA E) s.heap s.heap [] := va_S.rf
  have hfr : gFr (gIn b 12) w w := gFr.rf
  have hl := lv_entry ([.ref (ad (b)), .int (nI (ch))]) (n := 2) (Nat.le_of_ble_eq_true rfl)
  rw [lg_entry_eq]
  generalize (lg_sl ([.ref (ad (b)), .int (nI (ch))]) ++ List.replicate (2 - (lg_sl ([.ref (ad (b)), .int (nI (ch))])).length) Slot.unset).toArray = ls at hl ⊢
  have hl : lv_has ls 2 [(0, .ref (ad (b))), (1, .int (nI (ch)))] := hl
  refine lv_aload_n hx hb dX13_skips_0 rfl (lv_at hl 0 rfl) ?_
  refine g_roi (g_runV S hI hP hS (k := 0) (As := []) (rest := []) (mX13_here l b g kp sv bf sd ip sg mk td lv tl qs qc qw qd co wy de ca ln fa sm pa tm  hb_m (by omega) hln hip) q2156 q2158 q73 q100 q2159 rfl rfl (by decide +kernel) ⟨Nat.le_of_ble_eq_true rfl, Nat.le_of_ble_eq_true rfl⟩ rfl (hb_m.lt 0 (by decide)) (hb_m.2 0 (by decide)) rfl hl.1 rfl (Nat.le_of_ble_eq_true rfl) ⟨(Nat.le_of_ble_eq_true rfl), (Nat.le_of_ble_eq_true rfl)⟩ dX13_skips_1) hS (fun H locs hP hS => ?_)
  refine lv_iload_n hx hb dX13_skips_4 rfl (lv_at hl 1 rfl) ?_
  refine g_oeN S (o := herO ip ln pa) (a := ch) (herO_31 hln hip) (by omega) (tgt := 10) dX13_skips_5 (by decide) (fun hq => ?_) (fun hq => ?_)
  · have hq1 := herO_y hq
    rw [if_pos hq1]
    refine lv_aload_n hx hb dX13_skips_10 rfl (lv_at hl 0 rfl) ?_
    refine lv_dup hx hb dX13_skips_11 rfl ?_
    refine g_get S hI hP uX13 rfl (fs := _) (hb_m.lt 0 (by decide)) (hb_m.2 0 (by decide)) 21 (by decide) q1808 rfl (v := .int (nI (pa))) rfl dX13_skips_12 ?_
    refine g_iconst S 1 dX13_skips_15 (by decide +kernel) ?_
    refine g_iadd S dX13_skips_16 ?_
    refine g_put S hI hP hS uX13 rfl tyX13 tyX13_ok nmX13 (fs := _) (hb_m.lt 0 (by decide)) (hb_m.2 0 (by decide)) 21 (by decide) q1808 rfl rfl (v := .int (nI (pa + 1))) rfl rfl (Nat.le_of_ble_eq_true rfl) dX13_skips_17 (fun H locs hP hS => ?_)
    have hP : gP E ad N (va_up _ (b) (MDC E ad b g kp sv bf sd ip sg mk td lv tl qs qc qw qd co wy de ca ln fa sm (pa + 1) tm 0)) H := hP
    have hb1 : bkP N (va_up _ (b) (MDC E ad b g kp sv bf sd ip sg mk td lv tl qs qc qw qd co wy de ca ln fa sm (pa + 1) tm 0)) b 12 (MDC E ad b g kp sv bf sd ip sg mk td lv tl qs qc qw qd co wy de ca ln fa sm (pa + 1) tm) := MD_setO hb_m _ _ _ _ _ _ _ _ _ _ _ _ _
    have hfr := hfr.up (p := b) (e := MDC E ad b g kp sv bf sd ip sg mk td lv tl qs qc qw qd co wy de ca ln fa sm (pa + 1) tm 0) (by show _ ∧ _; omega)
    refine g_iconst S 1 dX13_skips_20 (by decide +kernel) ?_
    exact g_zret S hr hlocks (Or.inr (by decide +kernel)) hP hS (⟨by rw [hq1]; rfl, hb1, hfr⟩) (fun _ _ => rfl) (Nat.le_of_ble_eq_true rfl) (Nat.le_of_ble_eq_true rfl) dX13_skips_21
  · have hq1 := herO_n hq
    rw [if_neg (by rw [hq1]; decide)]
    refine g_iconst S 0 dX13_skips_8 (by decide +kernel) ?_
    exact g_zret S hr hlocks (Or.inl nI_0) hP hS (⟨by rw [hq1]; rfl, hb_m, hfr⟩) (fun _ _ => rfl) (Nat.le_of_ble_eq_true rfl) (Nat.le_of_ble_eq_true rfl) dX13_skips_9
set_option maxHeartbeats 4000000 in
set_option maxRecDepth 100000 in
/-- a word -/
theorem mX13_isWord (l : Launch) {E : gE} {ad : Nat → Nat} {N : Nat} {w : Nat → va_E} (kk : Nat → Nat) (hzv : gHv E kk) (b : Nat) (g kp sv bf sd ip sg mk td lv tl : Nat → Nat) (qs qc qw qd co wy : Nat) (de : Int32) (ca ln : Nat) (fa : Option Nat) (sm pa tm : Nat) (v wi : Nat) (hb_m : bkP N w b 12 (MDC E ad b g kp sv bf sd ip sg mk td lv tl qs qc qw qd co wy de ca ln fa sm pa tm)) (hpa : pa ≤ 900) (hln : ln ≤ 60) (hip : ∀ j, j < 60 → ip j < 65536) (hwi : wi < 10) (htm : tm ≤ 20) : gMi l yX13_isWord (lw_ws yX13_isWord cX13_isWord 4 (some .boolean)) ({ frames := 4, cells := 0, slots := 0, locals := 85 } : Room) E ad N w [.ref (ad (b)), .int (nI (v)), .ref (kk (20 + wi))] (fun r w' => r = bI (litN ln ip (wrd wi) pa).2 ∧ bkP N w' b 12 (MDC E ad b g kp sv bf sd ip sg mk td lv (va_up tl (4 * tm) v) qs qc qw qd co wy de ca ln fa sm ((litN ln ip (wrd wi) pa).1) tm) ∧ gFr (gIn b 12) w w') 0 0 := by
  refine Met.ofW (cc := cX13_isWord) (maxL := 4) (ret := (some .boolean)) (by decide) rfl ?_
  intro p e s m args below meth cd s₁ B hml hv
  obtain ⟨rfl, hI, hP⟩ := hv
  obtain ⟨S, hr, hlocks⟩ := gPre (ws := []) B hml (C := RX13) rfl
  have hx := S.1
  have hb := S.2.1
  have hzk := hzv s s.heap hI.2.2.2.2
  have hS : va_S (gA E) s.heap s.heap [] := va_S.rf
  have hfr : gFr (gIn b 12) w w := gFr.rf
  have hl := lv_entry ([.ref (ad (b)), .int (nI (v)), .ref (kk (20 + wi))]) (n := 4) (Nat.le_of_ble_eq_true rfl)
  rw [lg_entry_eq]
  generalize (lg_sl ([.ref (ad (b)), .int (nI (v)), .ref (kk (20 + wi))]) ++ List.replicate (4 - (lg_sl ([.ref (ad (b)), .int (nI (v)), .ref (kk (20 + wi))])).length) Slot.unset).toArray = ls at hl ⊢
  have hl : lv_has ls 4 [(0, .ref (ad (b))), (1, .int (nI (v))), (2, .ref (kk (20 + wi)))] := hl
  have hwl := wrd_len wi hwi
  have hst := hTw hzv hwi s s.heap hI.2.2.2.2
  refine lv_aload_n hx hb dX13_isWord_0 rfl (lv_at hl 0 rfl) ?_
  refine g_get S hI hP uX13 rfl (fs := _) (hb_m.lt 0 (by decide)) (hb_m.2 0 (by decide)) 22 (by decide) q1809 rfl (v := .ref (ad (b + 11))) rfl dX13_isWord_1 ?_
  refine g_iconst S 4 dX13_isWord_4 (by decide +kernel) ?_
  refine lv_aload_n hx hb dX13_isWord_5 rfl (lv_at hl 0 rfl) ?_
  refine g_get S hI hP uX13 rfl (fs := _) (hb_m.lt 0 (by decide)) (hb_m.2 0 (by decide)) 23 (by decide) q1810 rfl (v := .int (nI (tm))) rfl dX13_isWord_6 ?_
  refine g_imul S dX13_isWord_9 ?_
  refine lv_iload_n hx hb dX13_isWord_10 rfl (lv_at hl 1 rfl) ?_
  refine g_iastN S hI hP hS (f := tl) (x := v) (hb_m.lt 11 (by decide)) (hb_m.2 11 (by decide)) (4 * tm) (by omega) (by decide) dX13_isWord_11 (fun H locs hP hS => ?_)
  have hP : gP E ad N (va_up _ (b + 11) (MDC E ad b g kp sv bf sd ip sg mk td lv (va_up tl (4 * tm) v) qs qc qw qd co wy de ca ln fa sm pa tm 11)) H := hP
  have hb1 : bkP N (va_up _ (b + 11) (MDC E ad b g kp sv bf sd ip sg mk td lv (va_up tl (4 * tm) v) qs qc qw qd co wy de ca ln fa sm pa tm 11)) b 12 (MDC E ad b g kp sv bf sd ip sg mk td lv (va_up tl (4 * tm) v) qs qc qw qd co wy de ca ln fa sm pa tm) := MD_setA10 hb_m _
  have hfr := hfr.up (p := b + 11) (e := MDC E ad b g kp sv bf sd ip sg mk td lv (va_up tl (4 * tm) v) qs qc qw qd co wy de ca ln fa sm pa tm 11) (by show _ ∧ _; omega)
  refine g_iconst S 0 dX13_isWord_12 (by decide +kernel) ?_
  refine lv_istore_n (lv' := [(3, .int (nI (0))), (0, .ref (ad (b))), (1, .int (nI (v))), (2, .ref (kk (20 + wi)))]) hx hb dX13_isWord_13 rfl hl (by decide) rfl (fun ls hl => ?_)
  have loop2 : ∀ (n : Nat) (i : Nat), (wrd wi).length + 1 - i < n → (i ≤ (wrd wi).length) → (litN ln ip (wrd wi) pa = litN ln ip ((wrd wi).drop i) (pa + i)) → ∀ (w1 : Nat → va_E) (H : Heap) (locs : List Loc), gP E ad N w1 H → va_S (gA E) s.heap H locs → bkP N w1 b 12 (MDC E ad b g kp sv bf sd ip sg mk td lv (va_up tl (4 * tm) v) qs qc qw qd co wy de ca ln fa sm (pa + i) tm) → gFr (gIn b 12) w w1 → ∀ (ls : Array Slot), lv_has ls 4 [(3, .int (nI (i))), (2, .ref (kk (20 + wi))), (0, .ref (ad (b)))] → W p l e (headSpec (lw_ws yX13_isWord cX13_isWord 4 (some .boolean)) ({ frames := 4, cells := 0, slots := 0, locals := 85 } : Room)).room s m ([.ref (ad (b)), .int (nI (v)), .ref (kk (20 + wi))] : List Value).toArray below meth cd H locs 0 0 (MQ below (va_Qi (fun r w' => r = bI (litN ln ip (wrd wi) pa).2 ∧ bkP N w' b 12 (MDC E ad b g kp sv bf sd ip sg mk td lv (va_up tl (4 * tm) v) qs qc qw qd co wy de ca ln fa sm ((litN ln ip (wrd wi) pa).1) tm) ∧ gFr (gIn b 12) w w') (gB E ad N) (gA E)) ([.ref (ad (b)), .int (nI (v)), .ref (kk (20 + wi))] : List Value).toArray s 0 0 (gA E)) (F0 m 14 ls []) := by
    intro n
    induction n with
    | zero => intro i hmeas; omega
    | succ n ih_loop2 =>
      intro i hmeas hi hlw w1 H locs hP hS hb3 hfr ls hl
      refine lv_iload_n hx hb dX13_isWord_14 rfl (lv_at hl 0 rfl) ?_
      refine lv_aload_n hx hb dX13_isWord_15 rfl (lv_at hl 1 rfl) ?_
      refine g_roi (g_runC S hI hP hS (k := 0) (q := kk (20 + wi)) (As := []) (rest := [.int (nI (i))]) hst.1 (mJ0_length_8abf5 l kk hzv (kk (20 + wi)) (kk (50 + wi)) (wrd wi) (hTw hzv hwi) (by omega) (wrd_128 wi hwi)) q2165 q1287 q1288 q98 q1289 rfl rfl (by decide +kernel) ⟨(Nat.le_of_ble_eq_true rfl), (Nat.le_of_ble_eq_true rfl)⟩ rfl hl.1 rfl (Nat.le_of_ble_eq_true rfl) ⟨(Nat.le_of_ble_eq_true rfl), (Nat.le_of_ble_eq_true rfl)⟩ dX13_isWord_16) hS (fun H locs hP hS => ?_)
      refine g_ge S (a := i) (b := (wrd wi).length) (by omega) (by omega) (tgt := 42) dX13_isWord_19 (by decide) (fun h => ?_) (fun h => ?_)
      · have hdr : (wrd wi).drop i = [] := List.drop_eq_nil_of_le h
        rw [hdr] at hlw
        have hl1 : (litN ln ip (wrd wi) pa).1 = pa + i := by rw [hlw]; rfl
        have hl2 : (litN ln ip (wrd wi) pa).2 = true := by rw [hlw]; rfl
        rw [hl1, hl2]
        refine g_iconst S 1 dX13_isWord_42 (by decide +kernel) ?_
        exact g_zret S hr hlocks (Or.inr (by decide +kernel)) hP hS (⟨rfl, hb3, hfr⟩) (fun _ _ => rfl) (Nat.le_of_ble_eq_true rfl) (Nat.le_of_ble_eq_true rfl) dX13_isWord_43
      · have hch := wrd_128 wi hwi i
        have hdr := lsD_cons h
        refine lv_aload_n hx hb dX13_isWord_22 rfl (lv_at hl 2 rfl) ?_
        refine lv_aload_n hx hb dX13_isWord_23 rfl (lv_at hl 1 rfl) ?_
        refine lv_iload_n hx hb dX13_isWord_24 rfl (lv_at hl 0 rfl) ?_
        refine g_roi (g_runC S hI hP hS (k := 1) (q := kk (20 + wi)) (As := [.int (nI (i))]) (rest := [.ref (ad (b))]) hst.1 (mJ0_charAt_5068e l kk hzv (kk (20 + wi)) (kk (50 + wi)) (wrd wi) i (hTw hzv hwi) (by omega) (wrd_128 wi hwi) h) q2166 q1296 q1297 q98 q1298 rfl rfl (by decide +kernel) ⟨(Nat.le_of_ble_eq_true rfl), (Nat.le_of_ble_eq_true rfl)⟩ rfl hl.1 rfl (Nat.le_of_ble_eq_true rfl) ⟨(Nat.le_of_ble_eq_true rfl), (Nat.le_of_ble_eq_true rfl)⟩ dX13_isWord_25) hS (fun H locs hP hS => ?_)
        refine g_afi (g_runV S hI hP hS (k := 1) (As := [.int (nI ((wrd wi).getD i 0))]) (rest := []) (mX13_skips l b g kp sv bf sd ip sg mk td lv (va_up tl (4 * tm) v) qs qc qw qd co wy de ca ln fa sm (pa + i) tm ((wrd wi).getD i 0) hb3 (by omega) hln hip (by omega)) q2152 q2154 q72 q100 q2155 rfl rfl (by decide +kernel) ⟨Nat.le_of_ble_eq_true rfl, Nat.le_of_ble_eq_true rfl⟩ rfl (hb3.lt 0 (by decide)) (hb3.2 0 (by decide)) rfl hl.1 rfl (Nat.le_of_ble_eq_true rfl) ⟨(Nat.le_of_ble_eq_true rfl), (Nat.le_of_ble_eq_true rfl)⟩ dX13_isWord_28) hS (fun rz w1 H locs hq hP hS => ?_)
        obtain ⟨hr6, hb4, hf5⟩ := hq
        rw [hr6]
        have hfr := hfr.trans hf5 (fun q hq => by (try simp only [gIn] at hq ⊢); (try dsimp only at hq ⊢); omega)
        refine g_bne S (b := ht1 ln ip (pa + i) ((wrd wi).getD i 0)) (tgt := 36) dX13_isWord_31 (by decide) (fun h2 => ?_) (fun h2 => ?_)
        · rw [if_pos h2] at hb4
          (try rw [if_pos h2] at hP)
          (try rw [if_pos h2] at hfr)
          refine lv_iinc (v := nI (i + 1)) (lv' := [(3, .int (nI (i + 1))), (2, .ref (kk (20 + wi))), (0, .ref (ad (b)))]) hx hb dX13_isWord_36 hl (k := 0) rfl (g_inc _ 1 (by decide +kernel)) (by decide) rfl (fun ls hl => ?_)
          refine lv_goto (tgt := 14) hx hb dX13_isWord_39 (by decide) ?_
          have hl3 : litN ln ip (wrd wi) pa = litN ln ip ((wrd wi).drop (i + 1)) (pa + (i + 1)) := by rw [hlw, hdr]; exact if_pos h2
          exact ih_loop2 (i + 1) (by omega) (by omega) (hl3) _ _ _ hP hS hb4 hfr ls (lv_sub hl [0, 1, 2] rfl)
        · rw [if_neg (show ¬ ht1 ln ip (pa + i) ((wrd wi).getD i 0) = true by rw [h2]; decide)] at hb4
          (try rw [if_neg (show ¬ ht1 ln ip (pa + i) ((wrd wi).getD i 0) = true by rw [h2]; decide)] at hP)
          (try rw [if_neg (show ¬ ht1 ln ip (pa + i) ((wrd wi).getD i 0) = true by rw [h2]; decide)] at hfr)
          have hl3 : litN ln ip (wrd wi) pa = (pa + i, false) := by rw [hlw, hdr]; exact if_neg (by rw [h2]; decide)
          rw [hl3]
          refine g_iconst S 0 dX13_isWord_34 (by decide +kernel) ?_
          exact g_zret S hr hlocks (Or.inl nI_0) hP hS (⟨rfl, hb4, hfr⟩) (fun _ _ => rfl) (Nat.le_of_ble_eq_true rfl) (Nat.le_of_ble_eq_true rfl) dX13_isWord_35
  exact loop2 ((wrd wi).length + 1 - (0) + 1) (0) (Nat.lt_succ_self _) (Nat.zero_le _) (rfl) _ _ _ hP hS hb1 hfr ls (lv_sub hl [0, 3, 1] rfl)
set_option maxHeartbeats 4000000 in
set_option maxRecDepth 100000 in
/-- digits -/
theorem mX13_digits1 (l : Launch) {E : gE} {ad : Nat → Nat} {N : Nat} {w : Nat → va_E} (b : Nat) (g kp sv bf sd ip sg mk td lv tl : Nat → Nat) (qs qc qw qd co wy : Nat) (de : Int32) (ca ln : Nat) (fa : Option Nat) (sm pa tm : Nat) (q : Nat) (hb_m : bkP N w b 12 (MDC E ad b g kp sv bf sd ip sg mk td lv tl qs qc qw qd co wy de ca ln fa sm pa tm)) (hpa : pa ≤ 1000) (hln : ln ≤ 60) (hip : ∀ j, j < 60 → ip j < 65536) (hq3 : q < 124) : gMi l yX13_digits (lw_ws yX13_digits cX13_digits 4 (some .boolean)) ({ frames := 1, cells := 0, slots := 0, locals := 22 } : Room) E ad N w [.ref (ad (b)), .int (nI (q)), .int (nI (1))] (fun r w' => ((dgt ln ip pa = none ∧ r = nI 0 ∧ bkP N w' b 12 (MDC E ad b g kp sv bf sd ip sg mk td lv tl qs qc qw qd co wy de ca ln fa sm pa tm)) ∨ (∃ a, dgt ln ip pa = some a ∧ r = nI 1 ∧ bkP N w' b 12 (MDC E ad b g kp sv bf sd ip sg mk td lv (va_up tl q a) qs qc qw qd co wy de ca ln fa sm (pa + 1) tm))) ∧ gFr (gIn b 12) w w') 0 0 := by
  refine Met.ofW (cc := cX13_digits) (maxL := 4) (ret := (some .boolean)) (by decide) rfl ?_
  intro p e s m args below meth cd s₁ B hml hv
  obtain ⟨rfl, hI, hP⟩ := hv
  obtain ⟨S, hr, hlocks⟩ := gPre (ws := []) B hml (C := RX13) rfl
  have hx := S.1
  have hb := S.2.1
  have hS : va_S (gA E) s.heap s.heap [] := va_S.rf
  have hfr : gFr (gIn b 12) w w := gFr.rf
  have hl := lv_entry ([.ref (ad (b)), .int (nI (q)), .int (nI (1))]) (n := 4) (Nat.le_of_ble_eq_true rfl)
  rw [lg_entry_eq]
  generalize (lg_sl ([.ref (ad (b)), .int (nI (q)), .int (nI (1))]) ++ List.replicate (4 - (lg_sl ([.ref (ad (b)), .int (nI (q)), .int (nI (1))])).length) Slot.unset).toArray = ls at hl ⊢
  have hl : lv_has ls 4 [(0, .ref (ad (b))), (1, .int (nI (q))), (2, .int (nI (1)))] := hl
  refine lv_aload_n hx hb dX13_digits_0 rfl (lv_at hl 0 rfl) ?_
  refine g_roi (g_runV S hI hP hS (k := 0) (As := []) (rest := []) (mX13_here l b g kp sv bf sd ip sg mk td lv tl qs qc qw qd co wy de ca ln fa sm pa tm  hb_m (by omega) hln hip) q2156 q2158 q73 q100 q2159 rfl rfl (by decide +kernel) ⟨Nat.le_of_ble_eq_true rfl, Nat.le_of_ble_eq_true rfl⟩ rfl (hb_m.lt 0 (by decide)) (hb_m.2 0 (by decide)) rfl hl.1 rfl (Nat.le_of_ble_eq_true rfl) ⟨(Nat.le_of_ble_eq_true rfl), (Nat.le_of_ble_eq_true rfl)⟩ dX13_digits_1) hS (fun H locs hP hS => ?_)
  refine g_bipush S 48 dX13_digits_4 (by decide +kernel) ?_
  refine g_bipush S 57 dX13_digits_6 (by decide +kernel) ?_
  refine g_roi (g_runS S hI hP hS (k := 3) (As := [.int (oI (herO ip ln pa)), .int (nI (48)), .int (nI (57))]) (rest := []) (mX13_in l (oI (herO ip ln pa)) (nI (48)) (nI (57))) q1875 q1876 q100 q1877 rfl rfl (by decide +kernel) ⟨Nat.le_of_ble_eq_true rfl, Nat.le_of_ble_eq_true rfl⟩ rfl hl.1 rfl (Nat.le_of_ble_eq_true rfl) ⟨(Nat.le_of_ble_eq_true rfl), (Nat.le_of_ble_eq_true rfl)⟩ dX13_digits_8) hS (fun H locs hP hS => ?_)
  rw [in_dg hln hip]
  refine g_bne S (b := (dgt ln ip pa).isSome) (tgt := 16) dX13_digits_11 (by decide) (fun h1 => ?_) (fun h1 => ?_)
  · obtain ⟨a, ha⟩ := Option.isSome_iff_exists.mp h1
    obtain ⟨hpl, ha9, hpa1⟩ := dgt_ip ha
    have hhe : herO ip ln pa = some (ip pa) := if_pos hpl
    refine lv_aload_n hx hb dX13_digits_16 rfl (lv_at hl 0 rfl) ?_
    refine g_get S hI hP uX13 rfl (fs := _) (hb_m.lt 0 (by decide)) (hb_m.2 0 (by decide)) 22 (by decide) q1809 rfl (v := .ref (ad (b + 11))) rfl dX13_digits_17 ?_
    refine lv_iload_n hx hb dX13_digits_20 rfl (lv_at hl 1 rfl) ?_
    refine g_iconst S 0 dX13_digits_21 (by decide +kernel) ?_
    refine g_iastN S hI hP hS (f := tl) (x := 0) (hb_m.lt 11 (by decide)) (hb_m.2 11 (by decide)) (q) (hq3) (by decide) dX13_digits_22 (fun H locs hP hS => ?_)
    have hP : gP E ad N (va_up _ (b + 11) (MDC E ad b g kp sv bf sd ip sg mk td lv (va_up tl q 0) qs qc qw qd co wy de ca ln fa sm pa tm 11)) H := hP
    have hb1 : bkP N (va_up _ (b + 11) (MDC E ad b g kp sv bf sd ip sg mk td lv (va_up tl q 0) qs qc qw qd co wy de ca ln fa sm pa tm 11)) b 12 (MDC E ad b g kp sv bf sd ip sg mk td lv (va_up tl q 0) qs qc qw qd co wy de ca ln fa sm pa tm) := MD_setA10 hb_m _
    have hfr := hfr.up (p := b + 11) (e := MDC E ad b g kp sv bf sd ip sg mk td lv (va_up tl q 0) qs qc qw qd co wy de ca ln fa sm pa tm 11) (by show _ ∧ _; omega)
    refine g_iconst S 0 dX13_digits_23 (by decide +kernel) ?_
    refine lv_istore_n (lv' := [(3, .int (nI (0))), (0, .ref (ad (b))), (1, .int (nI (q))), (2, .int (nI (1)))]) hx hb dX13_digits_24 rfl hl (by decide) rfl (fun ls hl => ?_)
    refine lv_iload_n hx hb dX13_digits_25 rfl (lv_at hl 0 rfl) ?_
    refine lv_iload_n hx hb dX13_digits_26 rfl (lv_at hl 3 rfl) ?_
    refine g_ge S (a := 0) (b := 1) (by omega) (by omega) (tgt := 83) dX13_digits_27 (by decide) (fun h2 => ?_) (fun h2 => ?_)
    · omega
    · refine lv_aload_n hx hb dX13_digits_30 rfl (lv_at hl 1 rfl) ?_
      refine g_roi (g_runV S hI hP hS (k := 0) (As := []) (rest := []) (mX13_here l b g kp sv bf sd ip sg mk td lv (va_up tl q 0) qs qc qw qd co wy de ca ln fa sm pa tm  hb1 (by omega) hln hip) q2156 q2158 q73 q100 q2159 rfl rfl (by decide +kernel) ⟨Nat.le_of_ble_eq_true rfl, Nat.le_of_ble_eq_true rfl⟩ rfl (hb1.lt 0 (by decide)) (hb1.2 0 (by decide)) rfl hl.1 rfl (Nat.le_of_ble_eq_true rfl) ⟨(Nat.le_of_ble_eq_true rfl), (Nat.le_of_ble_eq_true rfl)⟩ dX13_digits_31) hS (fun H locs hP hS => ?_)
      refine g_bipush S 48 dX13_digits_34 (by decide +kernel) ?_
      refine g_bipush S 57 dX13_digits_36 (by decide +kernel) ?_
      refine g_roi (g_runS S hI hP hS (k := 3) (As := [.int (oI (herO ip ln pa)), .int (nI (48)), .int (nI (57))]) (rest := []) (mX13_in l (oI (herO ip ln pa)) (nI (48)) (nI (57))) q1875 q1876 q100 q1877 rfl rfl (by decide +kernel) ⟨Nat.le_of_ble_eq_true rfl, Nat.le_of_ble_eq_true rfl⟩ rfl hl.1 rfl (Nat.le_of_ble_eq_true rfl) ⟨(Nat.le_of_ble_eq_true rfl), (Nat.le_of_ble_eq_true rfl)⟩ dX13_digits_38) hS (fun H locs hP hS => ?_)
      rw [in_dg hln hip]
      refine g_beq S (b := (dgt ln ip pa).isSome) (tgt := 83) dX13_digits_41 (by decide) (fun h3 => ?_) (fun h3 => ?_)
      · rw [h1] at h3; cases h3
      · refine lv_aload_n hx hb dX13_digits_44 rfl (lv_at hl 1 rfl) ?_
        refine g_get S hI hP uX13 rfl (fs := _) (hb1.lt 0 (by decide)) (hb1.2 0 (by decide)) 22 (by decide) q1809 rfl (v := .ref (ad (b + 11))) rfl dX13_digits_45 ?_
        refine lv_iload_n hx hb dX13_digits_48 rfl (lv_at hl 2 rfl) ?_
        refine g_bipush S 10 dX13_digits_49 (by decide +kernel) ?_
        refine lv_aload_n hx hb dX13_digits_51 rfl (lv_at hl 1 rfl) ?_
        refine g_get S hI hP uX13 rfl (fs := _) (hb1.lt 0 (by decide)) (hb1.2 0 (by decide)) 22 (by decide) q1809 rfl (v := .ref (ad (b + 11))) rfl dX13_digits_52 ?_
        refine lv_iload_n hx hb dX13_digits_55 rfl (lv_at hl 2 rfl) ?_
        refine g_iald S hI hP (f := fun j => nI ((va_up tl q 0) j)) (hb1.lt 11 (by decide)) (hb1.2 11 (by decide)) (q) (hq3) (by decide) dX13_digits_56 ?_
        rw [va_up_self tl q 0]
        refine g_imul S dX13_digits_57 ?_
        refine lv_aload_n hx hb dX13_digits_58 rfl (lv_at hl 1 rfl) ?_
        refine g_roi (g_runV S hI hP hS (k := 0) (As := []) (rest := [.int (nI (10 * 0)), .int (nI (q)), .ref (ad (b + 11))]) (mX13_here l b g kp sv bf sd ip sg mk td lv (va_up tl q 0) qs qc qw qd co wy de ca ln fa sm pa tm  hb1 (by omega) hln hip) q2156 q2158 q73 q100 q2159 rfl rfl (by decide +kernel) ⟨Nat.le_of_ble_eq_true rfl, Nat.le_of_ble_eq_true rfl⟩ rfl (hb1.lt 0 (by decide)) (hb1.2 0 (by decide)) rfl hl.1 rfl (Nat.le_of_ble_eq_true rfl) ⟨(Nat.le_of_ble_eq_true rfl), (Nat.le_of_ble_eq_true rfl)⟩ dX13_digits_59) hS (fun H locs hP hS => ?_)
        rw [hhe, show oI (some (ip pa)) = nI (ip pa) from rfl]
        refine g_iadd S dX13_digits_62 ?_
        refine g_bipush S 48 dX13_digits_63 (by decide +kernel) ?_
        refine g_isub S (by omega) dX13_digits_65 ?_
        rw [show 10 * 0 + ip pa - 48 = a by omega]
        refine g_iastN S hI hP hS (f := va_up tl q 0) (x := a) (hb1.lt 11 (by decide)) (hb1.2 11 (by decide)) (q) (hq3) (by decide) dX13_digits_66 (fun H locs hP hS => ?_)
        have hP : gP E ad N (va_up _ (b + 11) (MDC E ad b g kp sv bf sd ip sg mk td lv (va_up (va_up tl q 0) q a) qs qc qw qd co wy de ca ln fa sm pa tm 11)) H := hP
        have hb2 : bkP N (va_up _ (b + 11) (MDC E ad b g kp sv bf sd ip sg mk td lv (va_up (va_up tl q 0) q a) qs qc qw qd co wy de ca ln fa sm pa tm 11)) b 12 (MDC E ad b g kp sv bf sd ip sg mk td lv (va_up (va_up tl q 0) q a) qs qc qw qd co wy de ca ln fa sm pa tm) := MD_setA10 hb1 _
        have hfr := hfr.up (p := b + 11) (e := MDC E ad b g kp sv bf sd ip sg mk td lv (va_up (va_up tl q 0) q a) qs qc qw qd co wy de ca ln fa sm pa tm 11) (by show _ ∧ _; omega)
        rw [va_up_up tl q 0 a] at hb2
        (try rw [va_up_up tl q 0 a] at hP)
        (try rw [va_up_up tl q 0 a] at hfr)
        refine lv_aload_n hx hb dX13_digits_67 rfl (lv_at hl 1 rfl) ?_
        refine lv_dup hx hb dX13_digits_68 rfl ?_
        refine g_get S hI hP uX13 rfl (fs := _) (hb2.lt 0 (by decide)) (hb2.2 0 (by decide)) 21 (by decide) q1808 rfl (v := .int (nI (pa))) rfl dX13_digits_69 ?_
        refine g_iconst S 1 dX13_digits_72 (by decide +kernel) ?_
        refine g_iadd S dX13_digits_73 ?_
        refine g_put S hI hP hS uX13 rfl tyX13 tyX13_ok nmX13 (fs := _) (hb2.lt 0 (by decide)) (hb2.2 0 (by decide)) 21 (by decide) q1808 rfl rfl (v := .int (nI (pa + 1))) rfl rfl (Nat.le_of_ble_eq_true rfl) dX13_digits_74 (fun H locs hP hS => ?_)
        have hP : gP E ad N (va_up _ (b) (MDC E ad b g kp sv bf sd ip sg mk td lv (va_up tl q a) qs qc qw qd co wy de ca ln fa sm (pa + 1) tm 0)) H := hP
        have hb3 : bkP N (va_up _ (b) (MDC E ad b g kp sv bf sd ip sg mk td lv (va_up tl q a) qs qc qw qd co wy de ca ln fa sm (pa + 1) tm 0)) b 12 (MDC E ad b g kp sv bf sd ip sg mk td lv (va_up tl q a) qs qc qw qd co wy de ca ln fa sm (pa + 1) tm) := MD_setO hb2 _ _ _ _ _ _ _ _ _ _ _ _ _
        have hfr := hfr.up (p := b) (e := MDC E ad b g kp sv bf sd ip sg mk td lv (va_up tl q a) qs qc qw qd co wy de ca ln fa sm (pa + 1) tm 0) (by show _ ∧ _; omega)
        refine lv_iinc (v := nI (0 + 1)) (lv' := [(3, .int (nI (0 + 1))), (0, .ref (ad (b))), (1, .int (nI (q))), (2, .int (nI (1)))]) hx hb dX13_digits_77 hl (k := 0) rfl (g_inc _ 1 (by decide +kernel)) (by decide) rfl (fun ls hl => ?_)
        refine lv_goto (tgt := 25) hx hb dX13_digits_80 (by decide) ?_
        refine lv_iload_n hx hb dX13_digits_25 rfl (lv_at hl 0 rfl) ?_
        refine lv_iload_n hx hb dX13_digits_26 rfl (lv_at hl 3 rfl) ?_
        refine g_ge S (a := 0 + 1) (b := 1) (by omega) (by omega) (tgt := 83) dX13_digits_27 (by decide) (fun h4 => ?_) (fun h4 => ?_)
        · refine g_iconst S 1 dX13_digits_83 (by decide +kernel) ?_
          exact g_zret S hr hlocks (Or.inr (by decide +kernel)) hP hS (⟨Or.inr ⟨a, ha, rfl, hb3⟩, hfr⟩) (fun _ _ => rfl) (Nat.le_of_ble_eq_true rfl) (Nat.le_of_ble_eq_true rfl) dX13_digits_84
        · omega
  · refine g_iconst S 0 dX13_digits_14 (by decide +kernel) ?_
    exact g_zret S hr hlocks (Or.inl nI_0) hP hS (⟨Or.inl ⟨Option.not_isSome_iff_eq_none.mp (by rw [h1]; decide), rfl, hb_m⟩, hfr⟩) (fun _ _ => rfl) (Nat.le_of_ble_eq_true rfl) (Nat.le_of_ble_eq_true rfl) dX13_digits_15
set_option maxHeartbeats 4000000 in
set_option maxRecDepth 100000 in
/-- digits -/
theorem mX13_digits2 (l : Launch) {E : gE} {ad : Nat → Nat} {N : Nat} {w : Nat → va_E} (b : Nat) (g kp sv bf sd ip sg mk td lv tl : Nat → Nat) (qs qc qw qd co wy : Nat) (de : Int32) (ca ln : Nat) (fa : Option Nat) (sm pa tm : Nat) (q : Nat) (hb_m : bkP N w b 12 (MDC E ad b g kp sv bf sd ip sg mk td lv tl qs qc qw qd co wy de ca ln fa sm pa tm)) (hpa : pa ≤ 1000) (hln : ln ≤ 60) (hip : ∀ j, j < 60 → ip j < 65536) (hq3 : q < 124) : gMi l yX13_digits (lw_ws yX13_digits cX13_digits 4 (some .boolean)) ({ frames := 1, cells := 0, slots := 0, locals := 22 } : Room) E ad N w [.ref (ad (b)), .int (nI (q)), .int (nI (2))] (fun r w' => ((dgt ln ip pa = none ∧ r = nI 0 ∧ bkP N w' b 12 (MDC E ad b g kp sv bf sd ip sg mk td lv tl qs qc qw qd co wy de ca ln fa sm pa tm)) ∨ (∃ a, dgt ln ip pa = some a ∧ dgt ln ip (pa + 1) = none ∧ r = nI 1 ∧ bkP N w' b 12 (MDC E ad b g kp sv bf sd ip sg mk td lv (va_up tl q a) qs qc qw qd co wy de ca ln fa sm (pa + 1) tm)) ∨ (∃ a c, dgt ln ip pa = some a ∧ dgt ln ip (pa + 1) = some c ∧ r = nI 1 ∧ bkP N w' b 12 (MDC E ad b g kp sv bf sd ip sg mk td lv (va_up tl q (10 * a + c)) qs qc qw qd co wy de ca ln fa sm (pa + 2) tm))) ∧ gFr (gIn b 12) w w') 0 0 := by
  refine Met.ofW (cc := cX13_digits) (maxL := 4) (ret := (some .boolean)) (by decide) rfl ?_
  intro p e s m args below meth cd s₁ B hml hv
  obtain ⟨rfl, hI, hP⟩ := hv
  obtain ⟨S, hr, hlocks⟩ := gPre (ws := []) B hml (C := RX13) rfl
  have hx := S.1
  have hb := S.2.1
  have hS : va_S (gA E) s.heap s.heap [] := va_S.rf
  have hfr : gFr (gIn b 12) w w := gFr.rf
  have hl := lv_entry ([.ref (ad (b)), .int (nI (q)), .int (nI (2))]) (n := 4) (Nat.le_of_ble_eq_true rfl)
  rw [lg_entry_eq]
  generalize (lg_sl ([.ref (ad (b)), .int (nI (q)), .int (nI (2))]) ++ List.replicate (4 - (lg_sl ([.ref (ad (b)), .int (nI (q)), .int (nI (2))])).length) Slot.unset).toArray = ls at hl ⊢
  have hl : lv_has ls 4 [(0, .ref (ad (b))), (1, .int (nI (q))), (2, .int (nI (2)))] := hl
  refine lv_aload_n hx hb dX13_digits_0 rfl (lv_at hl 0 rfl) ?_
  refine g_roi (g_runV S hI hP hS (k := 0) (As := []) (rest := []) (mX13_here l b g kp sv bf sd ip sg mk td lv tl qs qc qw qd co wy de ca ln fa sm pa tm  hb_m (by omega) hln hip) q2156 q2158 q73 q100 q2159 rfl rfl (by decide +kernel) ⟨Nat.le_of_ble_eq_true rfl, Nat.le_of_ble_eq_true rfl⟩ rfl (hb_m.lt 0 (by decide)) (hb_m.2 0 (by decide)) rfl hl.1 rfl (Nat.le_of_ble_eq_true rfl) ⟨(Nat.le_of_ble_eq_true rfl), (Nat.le_of_ble_eq_true rfl)⟩ dX13_digits_1) hS (fun H locs hP hS => ?_)
  refine g_bipush S 48 dX13_digits_4 (by decide +kernel) ?_
  refine g_bipush S 57 dX13_digits_6 (by decide +kernel) ?_
  refine g_roi (g_runS S hI hP hS (k := 3) (As := [.int (oI (herO ip ln pa)), .int (nI (48)), .int (nI (57))]) (rest := []) (mX13_in l (oI (herO ip ln pa)) (nI (48)) (nI (57))) q1875 q1876 q100 q1877 rfl rfl (by decide +kernel) ⟨Nat.le_of_ble_eq_true rfl, Nat.le_of_ble_eq_true rfl⟩ rfl hl.1 rfl (Nat.le_of_ble_eq_true rfl) ⟨(Nat.le_of_ble_eq_true rfl), (Nat.le_of_ble_eq_true rfl)⟩ dX13_digits_8) hS (fun H locs hP hS => ?_)
  rw [in_dg hln hip]
  refine g_bne S (b := (dgt ln ip pa).isSome) (tgt := 16) dX13_digits_11 (by decide) (fun h1 => ?_) (fun h1 => ?_)
  · obtain ⟨a, ha⟩ := Option.isSome_iff_exists.mp h1
    obtain ⟨hpl, ha9, hpa1⟩ := dgt_ip ha
    have hhe : herO ip ln pa = some (ip pa) := if_pos hpl
    refine lv_aload_n hx hb dX13_digits_16 rfl (lv_at hl 0 rfl) ?_
    refine g_get S hI hP uX13 rfl (fs := _) (hb_m.lt 0 (by decide)) (hb_m.2 0 (by decide)) 22 (by decide) q1809 rfl (v := .ref (ad (b + 11))) rfl dX13_digits_17 ?_
    refine lv_iload_n hx hb dX13_digits_20 rfl (lv_at hl 1 rfl) ?_
    refine g_iconst S 0 dX13_digits_21 (by decide +kernel) ?_
    refine g_iastN S hI hP hS (f := tl) (x := 0) (hb_m.lt 11 (by decide)) (hb_m.2 11 (by decide)) (q) (hq3) (by decide) dX13_digits_22 (fun H locs hP hS => ?_)
    have hP : gP E ad N (va_up _ (b + 11) (MDC E ad b g kp sv bf sd ip sg mk td lv (va_up tl q 0) qs qc qw qd co wy de ca ln fa sm pa tm 11)) H := hP
    have hb1 : bkP N (va_up _ (b + 11) (MDC E ad b g kp sv bf sd ip sg mk td lv (va_up tl q 0) qs qc qw qd co wy de ca ln fa sm pa tm 11)) b 12 (MDC E ad b g kp sv bf sd ip sg mk td lv (va_up tl q 0) qs qc qw qd co wy de ca ln fa sm pa tm) := MD_setA10 hb_m _
    have hfr := hfr.up (p := b + 11) (e := MDC E ad b g kp sv bf sd ip sg mk td lv (va_up tl q 0) qs qc qw qd co wy de ca ln fa sm pa tm 11) (by show _ ∧ _; omega)
    refine g_iconst S 0 dX13_digits_23 (by decide +kernel) ?_
    refine lv_istore_n (lv' := [(3, .int (nI (0))), (0, .ref (ad (b))), (1, .int (nI (q))), (2, .int (nI (2)))]) hx hb dX13_digits_24 rfl hl (by decide) rfl (fun ls hl => ?_)
    refine lv_iload_n hx hb dX13_digits_25 rfl (lv_at hl 0 rfl) ?_
    refine lv_iload_n hx hb dX13_digits_26 rfl (lv_at hl 3 rfl) ?_
    refine g_ge S (a := 0) (b := 2) (by omega) (by omega) (tgt := 83) dX13_digits_27 (by decide) (fun h2 => ?_) (fun h2 => ?_)
    · omega
    · refine lv_aload_n hx hb dX13_digits_30 rfl (lv_at hl 1 rfl) ?_
      refine g_roi (g_runV S hI hP hS (k := 0) (As := []) (rest := []) (mX13_here l b g kp sv bf sd ip sg mk td lv (va_up tl q 0) qs qc qw qd co wy de ca ln fa sm pa tm  hb1 (by omega) hln hip) q2156 q2158 q73 q100 q2159 rfl rfl (by decide +kernel) ⟨Nat.le_of_ble_eq_true rfl, Nat.le_of_ble_eq_true rfl⟩ rfl (hb1.lt 0 (by decide)) (hb1.2 0 (by decide)) rfl hl.1 rfl (Nat.le_of_ble_eq_true rfl) ⟨(Nat.le_of_ble_eq_true rfl), (Nat.le_of_ble_eq_true rfl)⟩ dX13_digits_31) hS (fun H locs hP hS => ?_)
      refine g_bipush S 48 dX13_digits_34 (by decide +kernel) ?_
      refine g_bipush S 57 dX13_digits_36 (by decide +kernel) ?_
      refine g_roi (g_runS S hI hP hS (k := 3) (As := [.int (oI (herO ip ln pa)), .int (nI (48)), .int (nI (57))]) (rest := []) (mX13_in l (oI (herO ip ln pa)) (nI (48)) (nI (57))) q1875 q1876 q100 q1877 rfl rfl (by decide +kernel) ⟨Nat.le_of_ble_eq_true rfl, Nat.le_of_ble_eq_true rfl⟩ rfl hl.1 rfl (Nat.le_of_ble_eq_true rfl) ⟨(Nat.le_of_ble_eq_true rfl), (Nat.le_of_ble_eq_true rfl)⟩ dX13_digits_38) hS (fun H locs hP hS => ?_)
      rw [in_dg hln hip]
      refine g_beq S (b := (dgt ln ip pa).isSome) (tgt := 83) dX13_digits_41 (by decide) (fun h3 => ?_) (fun h3 => ?_)
      · rw [h1] at h3; cases h3
      · refine lv_aload_n hx hb dX13_digits_44 rfl (lv_at hl 1 rfl) ?_
        refine g_get S hI hP uX13 rfl (fs := _) (hb1.lt 0 (by decide)) (hb1.2 0 (by decide)) 22 (by decide) q1809 rfl (v := .ref (ad (b + 11))) rfl dX13_digits_45 ?_
        refine lv_iload_n hx hb dX13_digits_48 rfl (lv_at hl 2 rfl) ?_
        refine g_bipush S 10 dX13_digits_49 (by decide +kernel) ?_
        refine lv_aload_n hx hb dX13_digits_51 rfl (lv_at hl 1 rfl) ?_
        refine g_get S hI hP uX13 rfl (fs := _) (hb1.lt 0 (by decide)) (hb1.2 0 (by decide)) 22 (by decide) q1809 rfl (v := .ref (ad (b + 11))) rfl dX13_digits_52 ?_
        refine lv_iload_n hx hb dX13_digits_55 rfl (lv_at hl 2 rfl) ?_
        refine g_iald S hI hP (f := fun j => nI ((va_up tl q 0) j)) (hb1.lt 11 (by decide)) (hb1.2 11 (by decide)) (q) (hq3) (by decide) dX13_digits_56 ?_
        rw [va_up_self tl q 0]
        refine g_imul S dX13_digits_57 ?_
        refine lv_aload_n hx hb dX13_digits_58 rfl (lv_at hl 1 rfl) ?_
        refine g_roi (g_runV S hI hP hS (k := 0) (As := []) (rest := [.int (nI (10 * 0)), .int (nI (q)), .ref (ad (b + 11))]) (mX13_here l b g kp sv bf sd ip sg mk td lv (va_up tl q 0) qs qc qw qd co wy de ca ln fa sm pa tm  hb1 (by omega) hln hip) q2156 q2158 q73 q100 q2159 rfl rfl (by decide +kernel) ⟨Nat.le_of_ble_eq_true rfl, Nat.le_of_ble_eq_true rfl⟩ rfl (hb1.lt 0 (by decide)) (hb1.2 0 (by decide)) rfl hl.1 rfl (Nat.le_of_ble_eq_true rfl) ⟨(Nat.le_of_ble_eq_true rfl), (Nat.le_of_ble_eq_true rfl)⟩ dX13_digits_59) hS (fun H locs hP hS => ?_)
        rw [hhe, show oI (some (ip pa)) = nI (ip pa) from rfl]
        refine g_iadd S dX13_digits_62 ?_
        refine g_bipush S 48 dX13_digits_63 (by decide +kernel) ?_
        refine g_isub S (by omega) dX13_digits_65 ?_
        rw [show 10 * 0 + ip pa - 48 = a by omega]
        refine g_iastN S hI hP hS (f := va_up tl q 0) (x := a) (hb1.lt 11 (by decide)) (hb1.2 11 (by decide)) (q) (hq3) (by decide) dX13_digits_66 (fun H locs hP hS => ?_)
        have hP : gP E ad N (va_up _ (b + 11) (MDC E ad b g kp sv bf sd ip sg mk td lv (va_up (va_up tl q 0) q a) qs qc qw qd co wy de ca ln fa sm pa tm 11)) H := hP
        have hb2 : bkP N (va_up _ (b + 11) (MDC E ad b g kp sv bf sd ip sg mk td lv (va_up (va_up tl q 0) q a) qs qc qw qd co wy de ca ln fa sm pa tm 11)) b 12 (MDC E ad b g kp sv bf sd ip sg mk td lv (va_up (va_up tl q 0) q a) qs qc qw qd co wy de ca ln fa sm pa tm) := MD_setA10 hb1 _
        have hfr := hfr.up (p := b + 11) (e := MDC E ad b g kp sv bf sd ip sg mk td lv (va_up (va_up tl q 0) q a) qs qc qw qd co wy de ca ln fa sm pa tm 11) (by show _ ∧ _; omega)
        rw [va_up_up tl q 0 a] at hb2
        (try rw [va_up_up tl q 0 a] at hP)
        (try rw [va_up_up tl q 0 a] at hfr)
        refine lv_aload_n hx hb dX13_digits_67 rfl (lv_at hl 1 rfl) ?_
        refine lv_dup hx hb dX13_digits_68 rfl ?_
        refine g_get S hI hP uX13 rfl (fs := _) (hb2.lt 0 (by decide)) (hb2.2 0 (by decide)) 21 (by decide) q1808 rfl (v := .int (nI (pa))) rfl dX13_digits_69 ?_
        refine g_iconst S 1 dX13_digits_72 (by decide +kernel) ?_
        refine g_iadd S dX13_digits_73 ?_
        refine g_put S hI hP hS uX13 rfl tyX13 tyX13_ok nmX13 (fs := _) (hb2.lt 0 (by decide)) (hb2.2 0 (by decide)) 21 (by decide) q1808 rfl rfl (v := .int (nI (pa + 1))) rfl rfl (Nat.le_of_ble_eq_true rfl) dX13_digits_74 (fun H locs hP hS => ?_)
        have hP : gP E ad N (va_up _ (b) (MDC E ad b g kp sv bf sd ip sg mk td lv (va_up tl q a) qs qc qw qd co wy de ca ln fa sm (pa + 1) tm 0)) H := hP
        have hb3 : bkP N (va_up _ (b) (MDC E ad b g kp sv bf sd ip sg mk td lv (va_up tl q a) qs qc qw qd co wy de ca ln fa sm (pa + 1) tm 0)) b 12 (MDC E ad b g kp sv bf sd ip sg mk td lv (va_up tl q a) qs qc qw qd co wy de ca ln fa sm (pa + 1) tm) := MD_setO hb2 _ _ _ _ _ _ _ _ _ _ _ _ _
        have hfr := hfr.up (p := b) (e := MDC E ad b g kp sv bf sd ip sg mk td lv (va_up tl q a) qs qc qw qd co wy de ca ln fa sm (pa + 1) tm 0) (by show _ ∧ _; omega)
        refine lv_iinc (v := nI (0 + 1)) (lv' := [(3, .int (nI (0 + 1))), (0, .ref (ad (b))), (1, .int (nI (q))), (2, .int (nI (2)))]) hx hb dX13_digits_77 hl (k := 0) rfl (g_inc _ 1 (by decide +kernel)) (by decide) rfl (fun ls hl => ?_)
        refine lv_goto (tgt := 25) hx hb dX13_digits_80 (by decide) ?_
        refine lv_iload_n hx hb dX13_digits_25 rfl (lv_at hl 0 rfl) ?_
        refine lv_iload_n hx hb dX13_digits_26 rfl (lv_at hl 3 rfl) ?_
        refine g_ge S (a := 0 + 1) (b := 2) (by omega) (by omega) (tgt := 83) dX13_digits_27 (by decide) (fun h4 => ?_) (fun h4 => ?_)
        · omega
        · refine lv_aload_n hx hb dX13_digits_30 rfl (lv_at hl 1 rfl) ?_
          refine g_roi (g_runV S hI hP hS (k := 0) (As := []) (rest := []) (mX13_here l b g kp sv bf sd ip sg mk td lv (va_up tl q a) qs qc qw qd co wy de ca ln fa sm (pa + 1) tm  hb3 (by omega) hln hip) q2156 q2158 q73 q100 q2159 rfl rfl (by decide +kernel) ⟨Nat.le_of_ble_eq_true rfl, Nat.le_of_ble_eq_true rfl⟩ rfl (hb3.lt 0 (by decide)) (hb3.2 0 (by decide)) rfl hl.1 rfl (Nat.le_of_ble_eq_true rfl) ⟨(Nat.le_of_ble_eq_true rfl), (Nat.le_of_ble_eq_true rfl)⟩ dX13_digits_31) hS (fun H locs hP hS => ?_)
          refine g_bipush S 48 dX13_digits_34 (by decide +kernel) ?_
          refine g_bipush S 57 dX13_digits_36 (by decide +kernel) ?_
          refine g_roi (g_runS S hI hP hS (k := 3) (As := [.int (oI (herO ip ln (pa + 1))), .int (nI (48)), .int (nI (57))]) (rest := []) (mX13_in l (oI (herO ip ln (pa + 1))) (nI (48)) (nI (57))) q1875 q1876 q100 q1877 rfl rfl (by decide +kernel) ⟨Nat.le_of_ble_eq_true rfl, Nat.le_of_ble_eq_true rfl⟩ rfl hl.1 rfl (Nat.le_of_ble_eq_true rfl) ⟨(Nat.le_of_ble_eq_true rfl), (Nat.le_of_ble_eq_true rfl)⟩ dX13_digits_38) hS (fun H locs hP hS => ?_)
          rw [in_dg hln hip]
          refine g_beq S (b := (dgt ln ip (pa + 1)).isSome) (tgt := 83) dX13_digits_41 (by decide) (fun h5 => ?_) (fun h5 => ?_)
          · refine g_iconst S 1 dX13_digits_83 (by decide +kernel) ?_
            exact g_zret S hr hlocks (Or.inr (by decide +kernel)) hP hS (⟨Or.inr (Or.inl ⟨a, ha, Option.not_isSome_iff_eq_none.mp (by rw [h5]; decide), rfl, hb3⟩), hfr⟩) (fun _ _ => rfl) (Nat.le_of_ble_eq_true rfl) (Nat.le_of_ble_eq_true rfl) dX13_digits_84
          · obtain ⟨c, hc⟩ := Option.isSome_iff_exists.mp h5
            obtain ⟨hpl2, hc9, hpa2⟩ := dgt_ip hc
            have hhe2 : herO ip ln (pa + 1) = some (ip (pa + 1)) := if_pos hpl2
            refine lv_aload_n hx hb dX13_digits_44 rfl (lv_at hl 1 rfl) ?_
            refine g_get S hI hP uX13 rfl (fs := _) (hb3.lt 0 (by decide)) (hb3.2 0 (by decide)) 22 (by decide) q1809 rfl (v := .ref (ad (b + 11))) rfl dX13_digits_45 ?_
            refine lv_iload_n hx hb dX13_digits_48 rfl (lv_at hl 2 rfl) ?_
            refine g_bipush S 10 dX13_digits_49 (by decide +kernel) ?_
            refine lv_aload_n hx hb dX13_digits_51 rfl (lv_at hl 1 rfl) ?_
            refine g_get S hI hP uX13 rfl (fs := _) (hb3.lt 0 (by decide)) (hb3.2 0 (by decide)) 22 (by decide) q1809 rfl (v := .ref (ad (b + 11))) rfl dX13_digits_52 ?_
            refine lv_iload_n hx hb dX13_digits_55 rfl (lv_at hl 2 rfl) ?_
            refine g_iald S hI hP (f := fun j => nI ((va_up tl q a) j)) (hb3.lt 11 (by decide)) (hb3.2 11 (by decide)) (q) (hq3) (by decide) dX13_digits_56 ?_
            rw [va_up_self tl q a]
            refine g_imul S dX13_digits_57 ?_
            refine lv_aload_n hx hb dX13_digits_58 rfl (lv_at hl 1 rfl) ?_
            refine g_roi (g_runV S hI hP hS (k := 0) (As := []) (rest := [.int (nI (10 * a)), .int (nI (q)), .ref (ad (b + 11))]) (mX13_here l b g kp sv bf sd ip sg mk td lv (va_up tl q a) qs qc qw qd co wy de ca ln fa sm (pa + 1) tm  hb3 (by omega) hln hip) q2156 q2158 q73 q100 q2159 rfl rfl (by decide +kernel) ⟨Nat.le_of_ble_eq_true rfl, Nat.le_of_ble_eq_true rfl⟩ rfl (hb3.lt 0 (by decide)) (hb3.2 0 (by decide)) rfl hl.1 rfl (Nat.le_of_ble_eq_true rfl) ⟨(Nat.le_of_ble_eq_true rfl), (Nat.le_of_ble_eq_true rfl)⟩ dX13_digits_59) hS (fun H locs hP hS => ?_)
            rw [hhe2, show oI (some (ip (pa + 1))) = nI (ip (pa + 1)) from rfl]
            refine g_iadd S dX13_digits_62 ?_
            refine g_bipush S 48 dX13_digits_63 (by decide +kernel) ?_
            refine g_isub S (by omega) dX13_digits_65 ?_
            rw [show 10 * a + ip (pa + 1) - 48 = 10 * a + c by omega]
            refine g_iastN S hI hP hS (f := (va_up tl q a)) (x := 10 * a + c) (hb3.lt 11 (by decide)) (hb3.2 11 (by decide)) (q) (hq3) (by decide) dX13_digits_66 (fun H locs hP hS => ?_)
            have hP : gP E ad N (va_up _ (b + 11) (MDC E ad b g kp sv bf sd ip sg mk td lv (va_up (va_up tl q a) q (10 * a + c)) qs qc qw qd co wy de ca ln fa sm (pa + 1) tm 11)) H := hP
            have hb4 : bkP N (va_up _ (b + 11) (MDC E ad b g kp sv bf sd ip sg mk td lv (va_up (va_up tl q a) q (10 * a + c)) qs qc qw qd co wy de ca ln fa sm (pa + 1) tm 11)) b 12 (MDC E ad b g kp sv bf sd ip sg mk td lv (va_up (va_up tl q a) q (10 * a + c)) qs qc qw qd co wy de ca ln fa sm (pa + 1) tm) := MD_setA10 hb3 _
            have hfr := hfr.up (p := b + 11) (e := MDC E ad b g kp sv bf sd ip sg mk td lv (va_up (va_up tl q a) q (10 * a + c)) qs qc qw qd co wy de ca ln fa sm (pa + 1) tm 11) (by show _ ∧ _; omega)
            rw [va_up_up tl q a (10 * a + c)] at hb4
            (try rw [va_up_up tl q a (10 * a + c)] at hP)
            (try rw [va_up_up tl q a (10 * a + c)] at hfr)
            refine lv_aload_n hx hb dX13_digits_67 rfl (lv_at hl 1 rfl) ?_
            refine lv_dup hx hb dX13_digits_68 rfl ?_
            refine g_get S hI hP uX13 rfl (fs := _) (hb4.lt 0 (by decide)) (hb4.2 0 (by decide)) 21 (by decide) q1808 rfl (v := .int (nI (pa + 1))) rfl dX13_digits_69 ?_
            refine g_iconst S 1 dX13_digits_72 (by decide +kernel) ?_
            refine g_iadd S dX13_digits_73 ?_
            refine g_put S hI hP hS uX13 rfl tyX13 tyX13_ok nmX13 (fs := _) (hb4.lt 0 (by decide)) (hb4.2 0 (by decide)) 21 (by decide) q1808 rfl rfl (v := .int (nI (pa + 1 + 1))) rfl rfl (Nat.le_of_ble_eq_true rfl) dX13_digits_74 (fun H locs hP hS => ?_)
            have hP : gP E ad N (va_up _ (b) (MDC E ad b g kp sv bf sd ip sg mk td lv (va_up tl q (10 * a + c)) qs qc qw qd co wy de ca ln fa sm (pa + 1 + 1) tm 0)) H := hP
            have hb5 : bkP N (va_up _ (b) (MDC E ad b g kp sv bf sd ip sg mk td lv (va_up tl q (10 * a + c)) qs qc qw qd co wy de ca ln fa sm (pa + 1 + 1) tm 0)) b 12 (MDC E ad b g kp sv bf sd ip sg mk td lv (va_up tl q (10 * a + c)) qs qc qw qd co wy de ca ln fa sm (pa + 1 + 1) tm) := MD_setO hb4 _ _ _ _ _ _ _ _ _ _ _ _ _
            have hfr := hfr.up (p := b) (e := MDC E ad b g kp sv bf sd ip sg mk td lv (va_up tl q (10 * a + c)) qs qc qw qd co wy de ca ln fa sm (pa + 1 + 1) tm 0) (by show _ ∧ _; omega)
            refine lv_iinc (v := nI (0 + 1 + 1)) (lv' := [(3, .int (nI (0 + 1 + 1))), (0, .ref (ad (b))), (1, .int (nI (q))), (2, .int (nI (2)))]) hx hb dX13_digits_77 hl (k := 0) rfl (g_inc _ 1 (by decide +kernel)) (by decide) rfl (fun ls hl => ?_)
            refine lv_goto (tgt := 25) hx hb dX13_digits_80 (by decide) ?_
            refine lv_iload_n hx hb dX13_digits_25 rfl (lv_at hl 0 rfl) ?_
            refine lv_iload_n hx hb dX13_digits_26 rfl (lv_at hl 3 rfl) ?_
            refine g_ge S (a := 0 + 1 + 1) (b := 2) (by omega) (by omega) (tgt := 83) dX13_digits_27 (by decide) (fun h6 => ?_) (fun h6 => ?_)
            · refine g_iconst S 1 dX13_digits_83 (by decide +kernel) ?_
              exact g_zret S hr hlocks (Or.inr (by decide +kernel)) hP hS (⟨Or.inr (Or.inr ⟨a, c, ha, hc, rfl, hb5⟩), hfr⟩) (fun _ _ => rfl) (Nat.le_of_ble_eq_true rfl) (Nat.le_of_ble_eq_true rfl) dX13_digits_84
            · omega
  · refine g_iconst S 0 dX13_digits_14 (by decide +kernel) ?_
    exact g_zret S hr hlocks (Or.inl nI_0) hP hS (⟨Or.inl ⟨Option.not_isSome_iff_eq_none.mp (by rw [h1]; decide), rfl, hb_m⟩, hfr⟩) (fun _ _ => rfl) (Nat.le_of_ble_eq_true rfl) (Nat.le_of_ble_eq_true rfl) dX13_digits_15
set_option maxHeartbeats 4000000 in
set_option maxRecDepth 100000 in
/-- a cell -/
theorem mX13_cellHere (l : Launch) {E : gE} {ad : Nat → Nat} {N : Nat} {w : Nat → va_E} (b : Nat) (g kp sv bf sd ip sg mk td lv tl : Nat → Nat) (qs qc qw qd co wy : Nat) (de : Int32) (ca ln : Nat) (fa : Option Nat) (sm pa tm : Nat) (q : Nat) (hb_m : bkP N w b 12 (MDC E ad b g kp sv bf sd ip sg mk td lv tl qs qc qw qd co wy de ca ln fa sm pa tm)) (hpa : pa ≤ 900) (hln : ln ≤ 60) (hip : ∀ j, j < 60 → ip j < 65536) (hq3 : q + 1 < 124) : gMi l yX13_cellHere (lw_ws yX13_cellHere cX13_cellHere 2 (some .boolean)) ({ frames := 2, cells := 0, slots := 0, locals := 45 } : Room) E ad N w [.ref (ad (b)), .int (nI (q))] (fun r w' => ((∃ a c, ht1 ln ip pa 32 = true ∧ dgt ln ip (pa + 1) = some a ∧ dgt ln ip (pa + 2) = some c ∧ r = nI 1 ∧ bkP N w' b 12 (MDC E ad b g kp sv bf sd ip sg mk td lv (va_up (va_up tl q a) (q + 1) c) qs qc qw qd co wy de ca ln fa sm (pa + 3) tm)) ∨ (∃ (y : Nat) (tl' : Nat → Nat), (∀ l t, rdF ln ip (32 :: 82 :: 67 :: l) pa t = (y, none)) ∧ (∀ j, j < q → tl' j = tl j) ∧ r = nI 0 ∧ bkP N w' b 12 (MDC E ad b g kp sv bf sd ip sg mk td lv tl' qs qc qw qd co wy de ca ln fa sm y tm))) ∧ gFr (gIn b 12) w w') 0 0 := by
  refine Met.ofW (cc := cX13_cellHere) (maxL := 2) (ret := (some .boolean)) (by decide) rfl ?_
  intro p e s m args below meth cd s₁ B hml hv
  obtain ⟨rfl, hI, hP⟩ := hv
  obtain ⟨S, hr, hlocks⟩ := gPre (ws := []) B hml (C := RX13) rfl
  have hx := S.1
  have hb := S.2.1
  have hS : va_S (gA E) s.heap s.heap [] := va_S.rf
  have hfr : gFr (gIn b 12) w w := gFr.rf
  have hl := lv_entry ([.ref (ad (b)), .int (nI (q))]) (n := 2) (Nat.le_of_ble_eq_true rfl)
  rw [lg_entry_eq]
  generalize (lg_sl ([.ref (ad (b)), .int (nI (q))]) ++ List.replicate (2 - (lg_sl ([.ref (ad (b)), .int (nI (q))])).length) Slot.unset).toArray = ls at hl ⊢
  have hl : lv_has ls 2 [(0, .ref (ad (b))), (1, .int (nI (q)))] := hl
  refine lv_aload_n hx hb dX13_cellHere_0 rfl (lv_at hl 0 rfl) ?_
  refine g_bipush S 32 dX13_cellHere_1 (by decide +kernel) ?_
  refine g_afi (g_runV S hI hP hS (k := 1) (As := [.int (nI (32))]) (rest := []) (mX13_skips l b g kp sv bf sd ip sg mk td lv tl qs qc qw qd co wy de ca ln fa sm pa tm 32 hb_m (by omega) hln hip (by decide)) q2152 q2154 q72 q100 q2155 rfl rfl (by decide +kernel) ⟨Nat.le_of_ble_eq_true rfl, Nat.le_of_ble_eq_true rfl⟩ rfl (hb_m.lt 0 (by decide)) (hb_m.2 0 (by decide)) rfl hl.1 rfl (Nat.le_of_ble_eq_true rfl) ⟨(Nat.le_of_ble_eq_true rfl), (Nat.le_of_ble_eq_true rfl)⟩ dX13_cellHere_3) hS (fun rz w1 H locs hq hP hS => ?_)
  obtain ⟨hr3, hb1, hf2⟩ := hq
  rw [hr3]
  have hfr := hfr.trans hf2 (fun q hq => by (try simp only [gIn] at hq ⊢); (try dsimp only at hq ⊢); omega)
  refine g_beq S (b := ht1 ln ip pa 32) (tgt := 33) dX13_cellHere_6 (by decide) (fun h1 => ?_) (fun h1 => ?_)
  · rw [if_neg (show ¬ ht1 ln ip pa 32 = true by rw [h1]; decide)] at hb1
    (try rw [if_neg (show ¬ ht1 ln ip pa 32 = true by rw [h1]; decide)] at hP)
    (try rw [if_neg (show ¬ ht1 ln ip pa 32 = true by rw [h1]; decide)] at hfr)
    refine g_iconst S 0 dX13_cellHere_33 (by decide +kernel) ?_
    exact g_zret S hr hlocks (Or.inl nI_0) hP hS (⟨Or.inr ⟨pa, tl, fun l t => by rw [rdF_lit (c := 32) (by decide), if_neg (by rw [h1]; decide)], fun _ _ => rfl, rfl, hb1⟩, hfr⟩) (fun _ _ => rfl) (Nat.le_of_ble_eq_true rfl) (Nat.le_of_ble_eq_true rfl) dX13_cellHere_34
  · rw [if_pos h1] at hb1
    (try rw [if_pos h1] at hP)
    (try rw [if_pos h1] at hfr)
    refine lv_aload_n hx hb dX13_cellHere_9 rfl (lv_at hl 0 rfl) ?_
    refine lv_iload_n hx hb dX13_cellHere_10 rfl (lv_at hl 1 rfl) ?_
    refine g_iconst S 1 dX13_cellHere_11 (by decide +kernel) ?_
    refine g_afi (g_runV S hI hP hS (k := 2) (As := [.int (nI (q)), .int (nI (1))]) (rest := []) (mX13_digits1 l b g kp sv bf sd ip sg mk td lv tl qs qc qw qd co wy de ca ln fa sm (pa + 1) tm q hb1 (by omega) hln hip (by omega)) q2171 q2173 q76 q100 q2174 rfl rfl (by decide +kernel) ⟨Nat.le_of_ble_eq_true rfl, Nat.le_of_ble_eq_true rfl⟩ rfl (hb1.lt 0 (by decide)) (hb1.2 0 (by decide)) rfl hl.1 rfl (Nat.le_of_ble_eq_true rfl) ⟨(Nat.le_of_ble_eq_true rfl), (Nat.le_of_ble_eq_true rfl)⟩ dX13_cellHere_12) hS (fun rz w1 H locs hq hP hS => ?_)
    obtain ⟨hq9, hf9⟩ := hq
    have hfr := hfr.trans hf9 (fun q hq => hq)
    rcases hq9 with ⟨hd1, hr9, hb9⟩ | ⟨a, hd1, hr9, hb9⟩
    · rw [hr9]
      refine g_ifeq S (a := 0) (by omega) (tgt := 33) dX13_cellHere_15 (by decide) (fun hz => ?_) (fun hz => ?_)
      · refine g_iconst S 0 dX13_cellHere_33 (by decide +kernel) ?_
        exact g_zret S hr hlocks (Or.inl nI_0) hP hS (⟨Or.inr ⟨pa + 1, tl, fun l t => by rw [rdF_lit (c := 32) (by decide), if_pos h1, rdF_R, if_pos hd1], fun _ _ => rfl, rfl, hb9⟩, hfr⟩) (fun _ _ => rfl) (Nat.le_of_ble_eq_true rfl) (Nat.le_of_ble_eq_true rfl) dX13_cellHere_34
      · omega
    · rw [hr9]
      refine g_ifeq S (a := 1) (by omega) (tgt := 33) dX13_cellHere_15 (by decide) (fun hz => ?_) (fun hz => ?_)
      · omega
      · refine lv_aload_n hx hb dX13_cellHere_18 rfl (lv_at hl 0 rfl) ?_
        refine lv_iload_n hx hb dX13_cellHere_19 rfl (lv_at hl 1 rfl) ?_
        refine g_iconst S 1 dX13_cellHere_20 (by decide +kernel) ?_
        refine g_iadd S dX13_cellHere_21 ?_
        refine g_iconst S 1 dX13_cellHere_22 (by decide +kernel) ?_
        refine g_afi (g_runV S hI hP hS (k := 2) (As := [.int (nI (q + 1)), .int (nI (1))]) (rest := []) (mX13_digits1 l b g kp sv bf sd ip sg mk td lv (va_up tl q a) qs qc qw qd co wy de ca ln fa sm (pa + 1 + 1) tm (q + 1) hb9 (by omega) hln hip hq3) q2171 q2173 q76 q100 q2174 rfl rfl (by decide +kernel) ⟨Nat.le_of_ble_eq_true rfl, Nat.le_of_ble_eq_true rfl⟩ rfl (hb9.lt 0 (by decide)) (hb9.2 0 (by decide)) rfl hl.1 rfl (Nat.le_of_ble_eq_true rfl) ⟨(Nat.le_of_ble_eq_true rfl), (Nat.le_of_ble_eq_true rfl)⟩ dX13_cellHere_23) hS (fun rz w1 H locs hq hP hS => ?_)
        obtain ⟨hq8, hf8⟩ := hq
        have hfr := hfr.trans hf8 (fun q hq => hq)
        have hna : ¬ dgt ln ip (pa + 1) = none := by rw [hd1]; intro z; cases z
        rcases hq8 with ⟨hd2, hr8, hb8⟩ | ⟨c, hd2, hr8, hb8⟩
        · rw [hr8]
          refine g_ifeq S (a := 0) (by omega) (tgt := 33) dX13_cellHere_26 (by decide) (fun hz => ?_) (fun hz => ?_)
          · refine g_iconst S 0 dX13_cellHere_33 (by decide +kernel) ?_
            exact g_zret S hr hlocks (Or.inl nI_0) hP hS (⟨Or.inr ⟨pa + 1 + 1, _, fun l t => by rw [rdF_lit (c := 32) (by decide), if_pos h1, rdF_R, if_neg hna, rdF_C, if_pos hd2], fun j hj => va_up_ne _ _ (by omega), rfl, hb8⟩, hfr⟩) (fun _ _ => rfl) (Nat.le_of_ble_eq_true rfl) (Nat.le_of_ble_eq_true rfl) dX13_cellHere_34
          · omega
        · rw [hr8]
          refine g_ifeq S (a := 1) (by omega) (tgt := 33) dX13_cellHere_26 (by decide) (fun hz => ?_) (fun hz => ?_)
          · omega
          · refine g_iconst S 1 dX13_cellHere_29 (by decide +kernel) ?_
            refine lv_goto (tgt := 34) hx hb dX13_cellHere_30 (by decide) ?_
            exact g_zret S hr hlocks (Or.inr (by decide +kernel)) hP hS (⟨Or.inl ⟨a, c, h1, hd1, hd2, rfl, hb8⟩, hfr⟩) (fun _ _ => rfl) (Nat.le_of_ble_eq_true rfl) (Nat.le_of_ble_eq_true rfl) dX13_cellHere_34
set_option maxHeartbeats 4000000 in
set_option maxRecDepth 100000 in
/-- a command -/
theorem mX13_commandHere (l : Launch) {E : gE} {ad : Nat → Nat} {N : Nat} {w : Nat → va_E} (kk : Nat → Nat) (hzv : gHv E kk) (b : Nat) (g kp sv bf sd ip sg mk td lv tl : Nat → Nat) (qs qc qw qd co wy : Nat) (de : Int32) (ca ln : Nat) (fa : Option Nat) (sm pa tm : Nat)  (hb_m : bkP N w b 12 (MDC E ad b g kp sv bf sd ip sg mk td lv tl qs qc qw qd co wy de ca ln fa sm pa tm)) (hpa : pa ≤ 700) (hln : ln ≤ 60) (hip : ∀ j, j < 60 → ip j < 65536) (htm : tm ≤ 20) : gMi l yX13_commandHere (lw_ws yX13_commandHere cX13_commandHere 2 (some .boolean)) ({ frames := 5, cells := 0, slots := 0, locals := 108 } : Room) E ad N w [.ref (ad (b))] (fun r w' => ((∃ (x : Nat) (t : Tp) (tl' : Nat → Nat), rdF ln ip (frm (selV ln ip pa)) pa F0t = (x, some t) ∧ tRel tl' tm (selV ln ip pa) t ∧ (∀ j, j < 4 * tm → tl' j = tl j) ∧ r = nI 1 ∧ bkP N w' b 12 (MDC E ad b g kp sv bf sd ip sg mk td lv tl' qs qc qw qd co wy de ca ln fa sm x tm)) ∨ (∃ (x : Nat) (tl' : Nat → Nat), rdF ln ip (frm (selV ln ip pa)) pa F0t = (x, none) ∧ (∀ j, j < 4 * tm → tl' j = tl j) ∧ r = nI 0 ∧ bkP N w' b 12 (MDC E ad b g kp sv bf sd ip sg mk td lv tl' qs qc qw qd co wy de ca ln fa sm x tm))) ∧ gFr (gIn b 12) w w') 0 0 := by
  refine Met.ofW (cc := cX13_commandHere) (maxL := 2) (ret := (some .boolean)) (by decide) rfl ?_
  intro p e s m args below meth cd s₁ B hml hv
  obtain ⟨rfl, hI, hP⟩ := hv
  obtain ⟨S, hr, hlocks⟩ := gPre (ws := []) B hml (C := RX13) rfl
  have hx := S.1
  have hb := S.2.1
  have hzk := hzv s s.heap hI.2.2.2.2
  have hS : va_S (gA E) s.heap s.heap [] := va_S.rf
  have hfr : gFr (gIn b 12) w w := gFr.rf
  have hl := lv_entry ([.ref (ad (b))]) (n := 2) (Nat.le_of_ble_eq_true rfl)
  rw [lg_entry_eq]
  generalize (lg_sl ([.ref (ad (b))]) ++ List.replicate (2 - (lg_sl ([.ref (ad (b))])).length) Slot.unset).toArray = ls at hl ⊢
  have hl : lv_has ls 2 [(0, .ref (ad (b)))] := hl
  refine g_iconst S 4 dX13_commandHere_0 (by decide +kernel) ?_
  refine lv_aload_n hx hb dX13_commandHere_1 rfl (lv_at hl 0 rfl) ?_
  refine g_get S hI hP uX13 rfl (fs := _) (hb_m.lt 0 (by decide)) (hb_m.2 0 (by decide)) 23 (by decide) q1810 rfl (v := .int (nI (tm))) rfl dX13_commandHere_2 ?_
  refine g_imul S dX13_commandHere_5 ?_
  refine g_iconst S 1 dX13_commandHere_6 (by decide +kernel) ?_
  refine g_iadd S dX13_commandHere_7 ?_
  refine lv_istore_n (lv' := [(1, .int (nI (4 * tm + 1))), (0, .ref (ad (b)))]) hx hb dX13_commandHere_8 rfl hl (by decide) rfl (fun ls hl => ?_)
  refine lv_aload_n hx hb dX13_commandHere_9 rfl (lv_at hl 1 rfl) ?_
  refine g_bipush S 104 dX13_commandHere_10 (by decide +kernel) ?_
  refine g_afi (g_runV S hI hP hS (k := 1) (As := [.int (nI (104))]) (rest := []) (mX13_skips l b g kp sv bf sd ip sg mk td lv tl qs qc qw qd co wy de ca ln fa sm pa tm 104 hb_m (by omega) hln hip (by decide)) q2152 q2154 q72 q100 q2155 rfl rfl (by decide +kernel) ⟨Nat.le_of_ble_eq_true rfl, Nat.le_of_ble_eq_true rfl⟩ rfl (hb_m.lt 0 (by decide)) (hb_m.2 0 (by decide)) rfl hl.1 rfl (Nat.le_of_ble_eq_true rfl) ⟨(Nat.le_of_ble_eq_true rfl), (Nat.le_of_ble_eq_true rfl)⟩ dX13_commandHere_12) hS (fun rz w1 H locs hq hP hS => ?_)
  obtain ⟨hr3, hb1, hf2⟩ := hq
  rw [hr3]
  have hfr := hfr.trans hf2 (fun q hq => by (try simp only [gIn] at hq ⊢); (try dsimp only at hq ⊢); omega)
  refine g_beq S (b := ht1 ln ip pa 104) (tgt := 62) dX13_commandHere_15 (by decide) (fun e1 => ?_) (fun e1 => ?_)
  · rw [if_neg (show ¬ ht1 ln ip pa 104 = true by rw [e1]; decide)] at hb1
    (try rw [if_neg (show ¬ ht1 ln ip pa 104 = true by rw [e1]; decide)] at hP)
    (try rw [if_neg (show ¬ ht1 ln ip pa 104 = true by rw [e1]; decide)] at hfr)
    refine lv_aload_n hx hb dX13_commandHere_62 rfl (lv_at hl 1 rfl) ?_
    refine g_bipush S 102 dX13_commandHere_63 (by decide +kernel) ?_
    refine g_afi (g_runV S hI hP hS (k := 1) (As := [.int (nI (102))]) (rest := []) (mX13_skips l b g kp sv bf sd ip sg mk td lv tl qs qc qw qd co wy de ca ln fa sm pa tm 102 hb1 (by omega) hln hip (by decide)) q2152 q2154 q72 q100 q2155 rfl rfl (by decide +kernel) ⟨Nat.le_of_ble_eq_true rfl, Nat.le_of_ble_eq_true rfl⟩ rfl (hb1.lt 0 (by decide)) (hb1.2 0 (by decide)) rfl hl.1 rfl (Nat.le_of_ble_eq_true rfl) ⟨(Nat.le_of_ble_eq_true rfl), (Nat.le_of_ble_eq_true rfl)⟩ dX13_commandHere_65) hS (fun rz w1 H locs hq hP hS => ?_)
    obtain ⟨hr6, hb4, hf5⟩ := hq
    rw [hr6]
    have hfr := hfr.trans hf5 (fun q hq => by (try simp only [gIn] at hq ⊢); (try dsimp only at hq ⊢); omega)
    refine g_beq S (b := ht1 ln ip pa 102) (tgt := 95) dX13_commandHere_68 (by decide) (fun e2 => ?_) (fun e2 => ?_)
    · rw [if_neg (show ¬ ht1 ln ip pa 102 = true by rw [e2]; decide)] at hb4
      (try rw [if_neg (show ¬ ht1 ln ip pa 102 = true by rw [e2]; decide)] at hP)
      (try rw [if_neg (show ¬ ht1 ln ip pa 102 = true by rw [e2]; decide)] at hfr)
      refine lv_aload_n hx hb dX13_commandHere_95 rfl (lv_at hl 1 rfl) ?_
      refine g_bipush S 100 dX13_commandHere_96 (by decide +kernel) ?_
      refine g_afi (g_runV S hI hP hS (k := 1) (As := [.int (nI (100))]) (rest := []) (mX13_skips l b g kp sv bf sd ip sg mk td lv tl qs qc qw qd co wy de ca ln fa sm pa tm 100 hb4 (by omega) hln hip (by decide)) q2152 q2154 q72 q100 q2155 rfl rfl (by decide +kernel) ⟨Nat.le_of_ble_eq_true rfl, Nat.le_of_ble_eq_true rfl⟩ rfl (hb4.lt 0 (by decide)) (hb4.2 0 (by decide)) rfl hl.1 rfl (Nat.le_of_ble_eq_true rfl) ⟨(Nat.le_of_ble_eq_true rfl), (Nat.le_of_ble_eq_true rfl)⟩ dX13_commandHere_98) hS (fun rz w1 H locs hq hP hS => ?_)
      obtain ⟨hr9, hb7, hf8⟩ := hq
      rw [hr9]
      have hfr := hfr.trans hf8 (fun q hq => by (try simp only [gIn] at hq ⊢); (try dsimp only at hq ⊢); omega)
      refine g_beq S (b := ht1 ln ip pa 100) (tgt := 112) dX13_commandHere_101 (by decide) (fun e3 => ?_) (fun e3 => ?_)
      · rw [if_neg (show ¬ ht1 ln ip pa 100 = true by rw [e3]; decide)] at hb7
        (try rw [if_neg (show ¬ ht1 ln ip pa 100 = true by rw [e3]; decide)] at hP)
        (try rw [if_neg (show ¬ ht1 ln ip pa 100 = true by rw [e3]; decide)] at hfr)
        refine lv_aload_n hx hb dX13_commandHere_112 rfl (lv_at hl 1 rfl) ?_
        refine g_bipush S 109 dX13_commandHere_113 (by decide +kernel) ?_
        refine g_afi (g_runV S hI hP hS (k := 1) (As := [.int (nI (109))]) (rest := []) (mX13_skips l b g kp sv bf sd ip sg mk td lv tl qs qc qw qd co wy de ca ln fa sm pa tm 109 hb7 (by omega) hln hip (by decide)) q2152 q2154 q72 q100 q2155 rfl rfl (by decide +kernel) ⟨Nat.le_of_ble_eq_true rfl, Nat.le_of_ble_eq_true rfl⟩ rfl (hb7.lt 0 (by decide)) (hb7.2 0 (by decide)) rfl hl.1 rfl (Nat.le_of_ble_eq_true rfl) ⟨(Nat.le_of_ble_eq_true rfl), (Nat.le_of_ble_eq_true rfl)⟩ dX13_commandHere_115) hS (fun rz w1 H locs hq hP hS => ?_)
        obtain ⟨hr12, hb10, hf11⟩ := hq
        rw [hr12]
        have hfr := hfr.trans hf11 (fun q hq => by (try simp only [gIn] at hq ⊢); (try dsimp only at hq ⊢); omega)
        refine g_beq S (b := ht1 ln ip pa 109) (tgt := 146) dX13_commandHere_118 (by decide) (fun e4 => ?_) (fun e4 => ?_)
        · rw [if_neg (show ¬ ht1 ln ip pa 109 = true by rw [e4]; decide)] at hb10
          (try rw [if_neg (show ¬ ht1 ln ip pa 109 = true by rw [e4]; decide)] at hP)
          (try rw [if_neg (show ¬ ht1 ln ip pa 109 = true by rw [e4]; decide)] at hfr)
          refine lv_aload_n hx hb dX13_commandHere_146 rfl (lv_at hl 1 rfl) ?_
          refine g_bipush S 110 dX13_commandHere_147 (by decide +kernel) ?_
          refine g_afi (g_runV S hI hP hS (k := 1) (As := [.int (nI (110))]) (rest := []) (mX13_skips l b g kp sv bf sd ip sg mk td lv tl qs qc qw qd co wy de ca ln fa sm pa tm 110 hb10 (by omega) hln hip (by decide)) q2152 q2154 q72 q100 q2155 rfl rfl (by decide +kernel) ⟨Nat.le_of_ble_eq_true rfl, Nat.le_of_ble_eq_true rfl⟩ rfl (hb10.lt 0 (by decide)) (hb10.2 0 (by decide)) rfl hl.1 rfl (Nat.le_of_ble_eq_true rfl) ⟨(Nat.le_of_ble_eq_true rfl), (Nat.le_of_ble_eq_true rfl)⟩ dX13_commandHere_149) hS (fun rz w1 H locs hq hP hS => ?_)
          obtain ⟨hr15, hb13, hf14⟩ := hq
          rw [hr15]
          have hfr := hfr.trans hf14 (fun q hq => by (try simp only [gIn] at hq ⊢); (try dsimp only at hq ⊢); omega)
          refine g_beq S (b := ht1 ln ip pa 110) (tgt := 164) dX13_commandHere_152 (by decide) (fun e5 => ?_) (fun e5 => ?_)
          · rw [if_neg (show ¬ ht1 ln ip pa 110 = true by rw [e5]; decide)] at hb13
            (try rw [if_neg (show ¬ ht1 ln ip pa 110 = true by rw [e5]; decide)] at hP)
            (try rw [if_neg (show ¬ ht1 ln ip pa 110 = true by rw [e5]; decide)] at hfr)
            refine lv_aload_n hx hb dX13_commandHere_164 rfl (lv_at hl 1 rfl) ?_
            refine g_bipush S 115 dX13_commandHere_165 (by decide +kernel) ?_
            refine g_afi (g_runV S hI hP hS (k := 1) (As := [.int (nI (115))]) (rest := []) (mX13_skips l b g kp sv bf sd ip sg mk td lv tl qs qc qw qd co wy de ca ln fa sm pa tm 115 hb13 (by omega) hln hip (by decide)) q2152 q2154 q72 q100 q2155 rfl rfl (by decide +kernel) ⟨Nat.le_of_ble_eq_true rfl, Nat.le_of_ble_eq_true rfl⟩ rfl (hb13.lt 0 (by decide)) (hb13.2 0 (by decide)) rfl hl.1 rfl (Nat.le_of_ble_eq_true rfl) ⟨(Nat.le_of_ble_eq_true rfl), (Nat.le_of_ble_eq_true rfl)⟩ dX13_commandHere_167) hS (fun rz w1 H locs hq hP hS => ?_)
            obtain ⟨hr18, hb16, hf17⟩ := hq
            rw [hr18]
            have hfr := hfr.trans hf17 (fun q hq => by (try simp only [gIn] at hq ⊢); (try dsimp only at hq ⊢); omega)
            refine g_beq S (b := ht1 ln ip pa 115) (tgt := 227) dX13_commandHere_170 (by decide) (fun e6 => ?_) (fun e6 => ?_)
            · rw [if_neg (show ¬ ht1 ln ip pa 115 = true by rw [e6]; decide)] at hb16
              (try rw [if_neg (show ¬ ht1 ln ip pa 115 = true by rw [e6]; decide)] at hP)
              (try rw [if_neg (show ¬ ht1 ln ip pa 115 = true by rw [e6]; decide)] at hfr)
              refine lv_aload_n hx hb dX13_commandHere_227 rfl (lv_at hl 1 rfl) ?_
              refine g_bipush S 112 dX13_commandHere_228 (by decide +kernel) ?_
              refine g_afi (g_runV S hI hP hS (k := 1) (As := [.int (nI (112))]) (rest := []) (mX13_skips l b g kp sv bf sd ip sg mk td lv tl qs qc qw qd co wy de ca ln fa sm pa tm 112 hb16 (by omega) hln hip (by decide)) q2152 q2154 q72 q100 q2155 rfl rfl (by decide +kernel) ⟨Nat.le_of_ble_eq_true rfl, Nat.le_of_ble_eq_true rfl⟩ rfl (hb16.lt 0 (by decide)) (hb16.2 0 (by decide)) rfl hl.1 rfl (Nat.le_of_ble_eq_true rfl) ⟨(Nat.le_of_ble_eq_true rfl), (Nat.le_of_ble_eq_true rfl)⟩ dX13_commandHere_230) hS (fun rz w1 H locs hq hP hS => ?_)
              obtain ⟨hr21, hb19, hf20⟩ := hq
              rw [hr21]
              have hfr := hfr.trans hf20 (fun q hq => by (try simp only [gIn] at hq ⊢); (try dsimp only at hq ⊢); omega)
              refine g_bne S (b := ht1 ln ip pa 112) (tgt := 238) dX13_commandHere_233 (by decide) (fun e7 => ?_) (fun e7 => ?_)
              · rw [if_pos e7] at hb19
                (try rw [if_pos e7] at hP)
                (try rw [if_pos e7] at hfr)
                refine lv_aload_n hx hb dX13_commandHere_238 rfl (lv_at hl 1 rfl) ?_
                refine g_bipush S 101 dX13_commandHere_239 (by decide +kernel) ?_
                refine g_afi (g_runV S hI hP hS (k := 1) (As := [.int (nI (101))]) (rest := []) (mX13_skips l b g kp sv bf sd ip sg mk td lv tl qs qc qw qd co wy de ca ln fa sm (pa + 1) tm 101 hb19 (by omega) hln hip (by decide)) q2152 q2154 q72 q100 q2155 rfl rfl (by decide +kernel) ⟨Nat.le_of_ble_eq_true rfl, Nat.le_of_ble_eq_true rfl⟩ rfl (hb19.lt 0 (by decide)) (hb19.2 0 (by decide)) rfl hl.1 rfl (Nat.le_of_ble_eq_true rfl) ⟨(Nat.le_of_ble_eq_true rfl), (Nat.le_of_ble_eq_true rfl)⟩ dX13_commandHere_241) hS (fun rz w1 H locs hq hP hS => ?_)
                obtain ⟨hr24, hb22, hf23⟩ := hq
                rw [hr24]
                have hfr := hfr.trans hf23 (fun q hq => by (try simp only [gIn] at hq ⊢); (try dsimp only at hq ⊢); omega)
                refine g_beq S (b := ht1 ln ip (pa + 1) 101) (tgt := 271) dX13_commandHere_244 (by decide) (fun e8 => ?_) (fun e8 => ?_)
                · rw [if_neg (show ¬ ht1 ln ip (pa + 1) 101 = true by rw [e8]; decide)] at hb22
                  (try rw [if_neg (show ¬ ht1 ln ip (pa + 1) 101 = true by rw [e8]; decide)] at hP)
                  (try rw [if_neg (show ¬ ht1 ln ip (pa + 1) 101 = true by rw [e8]; decide)] at hfr)
                  refine lv_aload_n hx hb dX13_commandHere_271 rfl (lv_at hl 1 rfl) ?_
                  refine g_bipush S 111 dX13_commandHere_272 (by decide +kernel) ?_
                  refine g_afi (g_runV S hI hP hS (k := 1) (As := [.int (nI (111))]) (rest := []) (mX13_skips l b g kp sv bf sd ip sg mk td lv tl qs qc qw qd co wy de ca ln fa sm (pa + 1) tm 111 hb22 (by omega) hln hip (by decide)) q2152 q2154 q72 q100 q2155 rfl rfl (by decide +kernel) ⟨Nat.le_of_ble_eq_true rfl, Nat.le_of_ble_eq_true rfl⟩ rfl (hb22.lt 0 (by decide)) (hb22.2 0 (by decide)) rfl hl.1 rfl (Nat.le_of_ble_eq_true rfl) ⟨(Nat.le_of_ble_eq_true rfl), (Nat.le_of_ble_eq_true rfl)⟩ dX13_commandHere_274) hS (fun rz w1 H locs hq hP hS => ?_)
                  obtain ⟨hr27, hb25, hf26⟩ := hq
                  rw [hr27]
                  have hfr := hfr.trans hf26 (fun q hq => by (try simp only [gIn] at hq ⊢); (try dsimp only at hq ⊢); omega)
                  refine g_beq S (b := ht1 ln ip (pa + 1) 111) (tgt := 324) dX13_commandHere_277 (by decide) (fun e9 => ?_) (fun e9 => ?_)
                  · rw [if_neg (show ¬ ht1 ln ip (pa + 1) 111 = true by rw [e9]; decide)] at hb25
                    (try rw [if_neg (show ¬ ht1 ln ip (pa + 1) 111 = true by rw [e9]; decide)] at hP)
                    (try rw [if_neg (show ¬ ht1 ln ip (pa + 1) 111 = true by rw [e9]; decide)] at hfr)
                    have hsel : selV ln ip pa = 9 := by unfold selV; rw [if_neg (by rw [e1]; decide), if_neg (by rw [e2]; decide), if_neg (by rw [e3]; decide), if_neg (by rw [e4]; decide), if_neg (by rw [e5]; decide), if_neg (by rw [e6]; decide), if_pos e7, if_neg (by rw [e8]; decide), if_neg (by rw [e9]; decide)]
                    rw [hsel]
                    have hR : rdF ln ip (frm 9) pa F0t = rdF ln ip (112 :: (wrd 9 ++ (32 :: 82 :: 67 :: []))) pa F0t := rfl
                    rw [rdF_lit (c := 112) (by decide), if_pos e7] at hR
                    refine lv_aload_n hx hb dX13_commandHere_324 rfl (lv_at hl 1 rfl) ?_
                    refine g_bipush S 9 dX13_commandHere_325 (by decide +kernel) ?_
                    refine g_ldcW S hI kk hzv rfl 9 (by decide) rfl dX13_commandHere_327 ?_
                    refine g_afi (g_runV S hI hP hS (k := 2) (As := [.int (nI (9)), .ref (kk (20 + 9))]) (rest := []) (mX13_isWord l kk hzv b g kp sv bf sd ip sg mk td lv tl qs qc qw qd co wy de ca ln fa sm (pa + 1) tm 9 9 hb25 (by omega) hln hip (by decide) htm) q2161 q2163 q74 q100 q2164 rfl rfl (by decide +kernel) ⟨Nat.le_of_ble_eq_true rfl, Nat.le_of_ble_eq_true rfl⟩ rfl (hb25.lt 0 (by decide)) (hb25.2 0 (by decide)) rfl hl.1 rfl (Nat.le_of_ble_eq_true rfl) ⟨(Nat.le_of_ble_eq_true rfl), (Nat.le_of_ble_eq_true rfl)⟩ dX13_commandHere_329) hS (fun rz w1 H locs hq hP hS => ?_)
                    obtain ⟨hr30, hb28, hf29⟩ := hq
                    rw [hr30]
                    have hfr := hfr.trans hf29 (fun q hq => by (try simp only [gIn] at hq ⊢); (try dsimp only at hq ⊢); omega)
                    rw [rdF_lits (wrd 9) _ (wrd_nspc 9 (by decide))] at hR
                    have hlb := litN_le ln ip (wrd 9) (pa + 1)
                    have hwl := wrd_len 9 (by decide)
                    refine g_beq S (b := (litN ln ip (wrd 9) (pa + 1)).2) (tgt := 347) dX13_commandHere_332 (by decide) (fun hw => ?_) (fun hw => ?_)
                    · rw [if_neg (show ¬ (litN ln ip (wrd 9) (pa + 1)).2 = true by rw [hw]; decide)] at hR
                      refine g_iconst S 0 dX13_commandHere_347 (by decide +kernel) ?_
                      exact g_zret S hr hlocks (Or.inl nI_0) hP hS (⟨Or.inr ⟨_, _, hR, fun j hj => va_up_ne _ _ (by omega), rfl, hb28⟩, hfr⟩) (fun _ _ => rfl) (Nat.le_of_ble_eq_true rfl) (Nat.le_of_ble_eq_true rfl) dX13_commandHere_348
                    · rw [if_pos hw] at hR
                      refine lv_aload_n hx hb dX13_commandHere_335 rfl (lv_at hl 1 rfl) ?_
                      refine lv_iload_n hx hb dX13_commandHere_336 rfl (lv_at hl 0 rfl) ?_
                      refine g_afi (g_runV S hI hP hS (k := 1) (As := [.int (nI (4 * tm + 1))]) (rest := []) (mX13_cellHere l b g kp sv bf sd ip sg mk td lv (va_up tl (4 * tm) 9) qs qc qw qd co wy de ca ln fa sm ((litN ln ip (wrd 9) (pa + 1)).1) tm (4 * tm + 1) hb28 (by omega) hln hip (by omega)) q2167 q2169 q75 q100 q2170 rfl rfl (by decide +kernel) ⟨Nat.le_of_ble_eq_true rfl, Nat.le_of_ble_eq_true rfl⟩ rfl (hb28.lt 0 (by decide)) (hb28.2 0 (by decide)) rfl hl.1 rfl (Nat.le_of_ble_eq_true rfl) ⟨(Nat.le_of_ble_eq_true rfl), (Nat.le_of_ble_eq_true rfl)⟩ dX13_commandHere_337) hS (fun rz w1 H locs hq hP hS => ?_)
                      obtain ⟨hq9, hf9⟩ := hq
                      have hfr := hfr.trans hf9 (fun q hq => hq)
                      rcases hq9 with ⟨a, c, hs1, hd1, hd2, hr9, hb9⟩ | ⟨y9, tl9, hE9, hk9, hr9, hb9⟩
                      · rw [hr9]
                        rw [rdF_lit (c := 32) (by decide), if_pos hs1, rdF_R, if_neg (by rw [hd1]; intro z; cases z), rdF_C, if_neg (by rw [hd2]; intro z; cases z), hd1, show (litN ln ip (wrd 9) (pa + 1)).1 + 1 + 1 = (litN ln ip (wrd 9) (pa + 1)).1 + 2 from rfl, hd2] at hR
                        have ha9 := (dgt_ip hd1).2.1
                        have hc9 := (dgt_ip hd2).2.1
                        refine g_ifeq S (a := 1) (by omega) (tgt := 347) dX13_commandHere_340 (by decide) (fun hz => ?_) (fun hz => ?_)
                        · omega
                        · refine g_iconst S 1 dX13_commandHere_343 (by decide +kernel) ?_
                          refine lv_goto (tgt := 348) hx hb dX13_commandHere_344 (by decide) ?_
                          exact g_zret S hr hlocks (Or.inr (by decide +kernel)) hP hS (⟨Or.inl ⟨_, _, _, hR, tRel_c (by decide) ha9 hc9, fun j hj => by rw [va_up_ne _ _ (by omega), va_up_ne _ _ (by omega)]; exact va_up_ne _ _ (by omega), rfl, hb9⟩, hfr⟩) (fun _ _ => rfl) (Nat.le_of_ble_eq_true rfl) (Nat.le_of_ble_eq_true rfl) dX13_commandHere_348
                      · rw [hr9]
                        refine g_ifeq S (a := 0) (by omega) (tgt := 347) dX13_commandHere_340 (by decide) (fun hz => ?_) (fun hz => ?_)
                        · rw [hE9] at hR
                          refine g_iconst S 0 dX13_commandHere_347 (by decide +kernel) ?_
                          exact g_zret S hr hlocks (Or.inl nI_0) hP hS (⟨Or.inr ⟨_, _, hR, fun j hj => by rw [hk9 j (by omega)]; exact va_up_ne _ _ (by omega), rfl, hb9⟩, hfr⟩) (fun _ _ => rfl) (Nat.le_of_ble_eq_true rfl) (Nat.le_of_ble_eq_true rfl) dX13_commandHere_348
                        · omega
                  · rw [if_pos e9] at hb25
                    (try rw [if_pos e9] at hP)
                    (try rw [if_pos e9] at hfr)
                    have hsel : selV ln ip pa = 4 := by unfold selV; rw [if_neg (by rw [e1]; decide), if_neg (by rw [e2]; decide), if_neg (by rw [e3]; decide), if_neg (by rw [e4]; decide), if_neg (by rw [e5]; decide), if_neg (by rw [e6]; decide), if_pos e7, if_neg (by rw [e8]; decide), if_pos e9]
                    rw [hsel]
                    have hR : rdF ln ip (frm 4) pa F0t = rdF ln ip (112 :: 111 :: (wrd 8 ++ (32 :: 82 :: 67 :: (32 :: (78 :: []))))) pa F0t := rfl
                    rw [rdF_lit (c := 112) (by decide), if_pos e7] at hR
                    rw [rdF_lit (c := 111) (by decide), if_pos e9] at hR
                    refine lv_aload_n hx hb dX13_commandHere_280 rfl (lv_at hl 1 rfl) ?_
                    refine g_iconst S 4 dX13_commandHere_281 (by decide +kernel) ?_
                    refine g_ldcW S hI kk hzv rfl 8 (by decide) rfl dX13_commandHere_282 ?_
                    refine g_afi (g_runV S hI hP hS (k := 2) (As := [.int (nI (4)), .ref (kk (20 + 8))]) (rest := []) (mX13_isWord l kk hzv b g kp sv bf sd ip sg mk td lv tl qs qc qw qd co wy de ca ln fa sm ((pa + 1) + 1) tm 4 8 hb25 (by omega) hln hip (by decide) htm) q2161 q2163 q74 q100 q2164 rfl rfl (by decide +kernel) ⟨Nat.le_of_ble_eq_true rfl, Nat.le_of_ble_eq_true rfl⟩ rfl (hb25.lt 0 (by decide)) (hb25.2 0 (by decide)) rfl hl.1 rfl (Nat.le_of_ble_eq_true rfl) ⟨(Nat.le_of_ble_eq_true rfl), (Nat.le_of_ble_eq_true rfl)⟩ dX13_commandHere_284) hS (fun rz w1 H locs hq hP hS => ?_)
                    obtain ⟨hr33, hb31, hf32⟩ := hq
                    rw [hr33]
                    have hfr := hfr.trans hf32 (fun q hq => by (try simp only [gIn] at hq ⊢); (try dsimp only at hq ⊢); omega)
                    rw [rdF_lits (wrd 8) _ (wrd_nspc 8 (by decide))] at hR
                    have hlb := litN_le ln ip (wrd 8) ((pa + 1) + 1)
                    have hwl := wrd_len 8 (by decide)
                    refine g_beq S (b := (litN ln ip (wrd 8) ((pa + 1) + 1)).2) (tgt := 322) dX13_commandHere_287 (by decide) (fun hw => ?_) (fun hw => ?_)
                    · rw [if_neg (show ¬ (litN ln ip (wrd 8) ((pa + 1) + 1)).2 = true by rw [hw]; decide)] at hR
                      refine g_iconst S 0 dX13_commandHere_322 (by decide +kernel) ?_
                      exact g_zret S hr hlocks (Or.inl nI_0) hP hS (⟨Or.inr ⟨_, _, hR, fun j hj => va_up_ne _ _ (by omega), rfl, hb31⟩, hfr⟩) (fun _ _ => rfl) (Nat.le_of_ble_eq_true rfl) (Nat.le_of_ble_eq_true rfl) dX13_commandHere_323
                    · rw [if_pos hw] at hR
                      refine lv_aload_n hx hb dX13_commandHere_290 rfl (lv_at hl 1 rfl) ?_
                      refine lv_iload_n hx hb dX13_commandHere_291 rfl (lv_at hl 0 rfl) ?_
                      refine g_afi (g_runV S hI hP hS (k := 1) (As := [.int (nI (4 * tm + 1))]) (rest := []) (mX13_cellHere l b g kp sv bf sd ip sg mk td lv (va_up tl (4 * tm) 4) qs qc qw qd co wy de ca ln fa sm ((litN ln ip (wrd 8) ((pa + 1) + 1)).1) tm (4 * tm + 1) hb31 (by omega) hln hip (by omega)) q2167 q2169 q75 q100 q2170 rfl rfl (by decide +kernel) ⟨Nat.le_of_ble_eq_true rfl, Nat.le_of_ble_eq_true rfl⟩ rfl (hb31.lt 0 (by decide)) (hb31.2 0 (by decide)) rfl hl.1 rfl (Nat.le_of_ble_eq_true rfl) ⟨(Nat.le_of_ble_eq_true rfl), (Nat.le_of_ble_eq_true rfl)⟩ dX13_commandHere_292) hS (fun rz w1 H locs hq hP hS => ?_)
                      obtain ⟨hq9, hf9⟩ := hq
                      have hfr := hfr.trans hf9 (fun q hq => hq)
                      rcases hq9 with ⟨a, c, hs1, hd1, hd2, hr9, hb9⟩ | ⟨y9, tl9, hE9, hk9, hr9, hb9⟩
                      · rw [hr9]
                        rw [rdF_lit (c := 32) (by decide), if_pos hs1, rdF_R, if_neg (by rw [hd1]; intro z; cases z), rdF_C, if_neg (by rw [hd2]; intro z; cases z), hd1, show (litN ln ip (wrd 8) ((pa + 1) + 1)).1 + 1 + 1 = (litN ln ip (wrd 8) ((pa + 1) + 1)).1 + 2 from rfl, hd2] at hR
                        have ha9 := (dgt_ip hd1).2.1
                        have hc9 := (dgt_ip hd2).2.1
                        refine g_ifeq S (a := 1) (by omega) (tgt := 322) dX13_commandHere_295 (by decide) (fun hz => ?_) (fun hz => ?_)
                        · omega
                        · refine lv_aload_n hx hb dX13_commandHere_298 rfl (lv_at hl 1 rfl) ?_
                          refine g_bipush S 32 dX13_commandHere_299 (by decide +kernel) ?_
                          refine g_afi (g_runV S hI hP hS (k := 1) (As := [.int (nI (32))]) (rest := []) (mX13_skips l b g kp sv bf sd ip sg mk td lv (va_up (va_up (va_up tl (4 * tm) 4) (4 * tm + 1) a) (4 * tm + 1 + 1) c) qs qc qw qd co wy de ca ln fa sm ((litN ln ip (wrd 8) ((pa + 1) + 1)).1 + 3) tm 32 hb9 (by omega) hln hip (by decide)) q2152 q2154 q72 q100 q2155 rfl rfl (by decide +kernel) ⟨Nat.le_of_ble_eq_true rfl, Nat.le_of_ble_eq_true rfl⟩ rfl (hb9.lt 0 (by decide)) (hb9.2 0 (by decide)) rfl hl.1 rfl (Nat.le_of_ble_eq_true rfl) ⟨(Nat.le_of_ble_eq_true rfl), (Nat.le_of_ble_eq_true rfl)⟩ dX13_commandHere_301) hS (fun rz w1 H locs hq hP hS => ?_)
                          obtain ⟨hr36, hb34, hf35⟩ := hq
                          rw [hr36]
                          have hfr := hfr.trans hf35 (fun q hq => by (try simp only [gIn] at hq ⊢); (try dsimp only at hq ⊢); omega)
                          refine g_beq S (b := ht1 ln ip ((litN ln ip (wrd 8) ((pa + 1) + 1)).1 + 3) 32) (tgt := 322) dX13_commandHere_304 (by decide) (fun h32 => ?_) (fun h32 => ?_)
                          · rw [if_neg (show ¬ ht1 ln ip ((litN ln ip (wrd 8) ((pa + 1) + 1)).1 + 3) 32 = true by rw [h32]; decide)] at hb34
                            (try rw [if_neg (show ¬ ht1 ln ip ((litN ln ip (wrd 8) ((pa + 1) + 1)).1 + 3) 32 = true by rw [h32]; decide)] at hP)
                            (try rw [if_neg (show ¬ ht1 ln ip ((litN ln ip (wrd 8) ((pa + 1) + 1)).1 + 3) 32 = true by rw [h32]; decide)] at hfr)
                            rw [rdF_lit (c := 32) (by decide), if_neg (by rw [h32]; decide)] at hR
                            refine g_iconst S 0 dX13_commandHere_322 (by decide +kernel) ?_
                            exact g_zret S hr hlocks (Or.inl nI_0) hP hS (⟨Or.inr ⟨_, _, hR, fun j hj => by rw [va_up_ne _ _ (by omega), va_up_ne _ _ (by omega)]; exact va_up_ne _ _ (by omega), rfl, hb34⟩, hfr⟩) (fun _ _ => rfl) (Nat.le_of_ble_eq_true rfl) (Nat.le_of_ble_eq_true rfl) dX13_commandHere_323
                          · rw [if_pos h32] at hb34
                            (try rw [if_pos h32] at hP)
                            (try rw [if_pos h32] at hfr)
                            rw [rdF_lit (c := 32) (by decide), if_pos h32] at hR
                            refine lv_aload_n hx hb dX13_commandHere_307 rfl (lv_at hl 1 rfl) ?_
                            refine lv_iload_n hx hb dX13_commandHere_308 rfl (lv_at hl 0 rfl) ?_
                            refine g_iconst S 2 dX13_commandHere_309 (by decide +kernel) ?_
                            refine g_iadd S dX13_commandHere_310 ?_
                            refine g_iconst S 2 dX13_commandHere_311 (by decide +kernel) ?_
                            refine g_afi (g_runV S hI hP hS (k := 2) (As := [.int (nI (4 * tm + 1 + 2)), .int (nI (2))]) (rest := []) (mX13_digits2 l b g kp sv bf sd ip sg mk td lv (va_up (va_up (va_up tl (4 * tm) 4) (4 * tm + 1) a) (4 * tm + 1 + 1) c) qs qc qw qd co wy de ca ln fa sm (((litN ln ip (wrd 8) ((pa + 1) + 1)).1 + 3) + 1) tm (4 * tm + 1 + 2) hb34 (by omega) hln hip (by omega)) q2171 q2173 q76 q100 q2174 rfl rfl (by decide +kernel) ⟨Nat.le_of_ble_eq_true rfl, Nat.le_of_ble_eq_true rfl⟩ rfl (hb34.lt 0 (by decide)) (hb34.2 0 (by decide)) rfl hl.1 rfl (Nat.le_of_ble_eq_true rfl) ⟨(Nat.le_of_ble_eq_true rfl), (Nat.le_of_ble_eq_true rfl)⟩ dX13_commandHere_312) hS (fun rz w1 H locs hq hP hS => ?_)
                            obtain ⟨hq7, hf7⟩ := hq
                            have hfr := hfr.trans hf7 (fun q hq => hq)
                            rcases hq7 with ⟨hn1, hr7, hb7⟩ | ⟨u, hn1, hn2, hr7, hb7⟩ | ⟨u, v7, hn1, hn2, hr7, hb7⟩
                            · rw [hr7]
                              refine g_ifeq S (a := 0) (by omega) (tgt := 322) dX13_commandHere_315 (by decide) (fun hz => ?_) (fun hz => ?_)
                              · rw [rdF_N0 hn1] at hR
                                refine g_iconst S 0 dX13_commandHere_322 (by decide +kernel) ?_
                                exact g_zret S hr hlocks (Or.inl nI_0) hP hS (⟨Or.inr ⟨_, _, hR, fun j hj => by rw [va_up_ne _ _ (by omega), va_up_ne _ _ (by omega)]; exact va_up_ne _ _ (by omega), rfl, hb7⟩, hfr⟩) (fun _ _ => rfl) (Nat.le_of_ble_eq_true rfl) (Nat.le_of_ble_eq_true rfl) dX13_commandHere_323
                              · omega
                            · rw [hr7]
                              refine g_ifeq S (a := 1) (by omega) (tgt := 322) dX13_commandHere_315 (by decide) (fun hz => ?_) (fun hz => ?_)
                              · omega
                              · rw [rdF_N1 hn1 hn2] at hR
                                have hu9 := (dgt_ip hn1).2.1
                                have hv9 := (dgt_ip hn1).2.1
                                refine g_iconst S 1 dX13_commandHere_318 (by decide +kernel) ?_
                                refine lv_goto (tgt := 323) hx hb dX13_commandHere_319 (by decide) ?_
                                exact g_zret S hr hlocks (Or.inr (by decide +kernel)) hP hS (⟨Or.inl ⟨_, _, _, hR, tRel_n (by decide) ha9 hc9 (by omega), fun j hj => by rw [va_up_ne _ _ (by omega), va_up_ne _ _ (by omega), va_up_ne _ _ (by omega)]; exact va_up_ne _ _ (by omega), rfl, hb7⟩, hfr⟩) (fun _ _ => rfl) (Nat.le_of_ble_eq_true rfl) (Nat.le_of_ble_eq_true rfl) dX13_commandHere_323
                            · rw [hr7]
                              refine g_ifeq S (a := 1) (by omega) (tgt := 322) dX13_commandHere_315 (by decide) (fun hz => ?_) (fun hz => ?_)
                              · omega
                              · rw [rdF_N2 hn1 hn2] at hR
                                have hu9 := (dgt_ip hn1).2.1
                                have hv9 := (dgt_ip hn2).2.1
                                refine g_iconst S 1 dX13_commandHere_318 (by decide +kernel) ?_
                                refine lv_goto (tgt := 323) hx hb dX13_commandHere_319 (by decide) ?_
                                exact g_zret S hr hlocks (Or.inr (by decide +kernel)) hP hS (⟨Or.inl ⟨_, _, _, hR, tRel_n (by decide) ha9 hc9 (by omega), fun j hj => by rw [va_up_ne _ _ (by omega), va_up_ne _ _ (by omega), va_up_ne _ _ (by omega)]; exact va_up_ne _ _ (by omega), rfl, hb7⟩, hfr⟩) (fun _ _ => rfl) (Nat.le_of_ble_eq_true rfl) (Nat.le_of_ble_eq_true rfl) dX13_commandHere_323
                      · rw [hr9]
                        refine g_ifeq S (a := 0) (by omega) (tgt := 322) dX13_commandHere_295 (by decide) (fun hz => ?_) (fun hz => ?_)
                        · rw [hE9] at hR
                          refine g_iconst S 0 dX13_commandHere_322 (by decide +kernel) ?_
                          exact g_zret S hr hlocks (Or.inl nI_0) hP hS (⟨Or.inr ⟨_, _, hR, fun j hj => by rw [hk9 j (by omega)]; exact va_up_ne _ _ (by omega), rfl, hb9⟩, hfr⟩) (fun _ _ => rfl) (Nat.le_of_ble_eq_true rfl) (Nat.le_of_ble_eq_true rfl) dX13_commandHere_323
                        · omega
                · rw [if_pos e8] at hb22
                  (try rw [if_pos e8] at hP)
                  (try rw [if_pos e8] at hfr)
                  have hsel : selV ln ip pa = 1 := by unfold selV; rw [if_neg (by rw [e1]; decide), if_neg (by rw [e2]; decide), if_neg (by rw [e3]; decide), if_neg (by rw [e4]; decide), if_neg (by rw [e5]; decide), if_neg (by rw [e6]; decide), if_pos e7, if_pos e8]
                  rw [hsel]
                  have hR : rdF ln ip (frm 1) pa F0t = rdF ln ip (112 :: 101 :: (wrd 7 ++ (32 :: 82 :: 67 :: []))) pa F0t := rfl
                  rw [rdF_lit (c := 112) (by decide), if_pos e7] at hR
                  rw [rdF_lit (c := 101) (by decide), if_pos e8] at hR
                  refine lv_aload_n hx hb dX13_commandHere_247 rfl (lv_at hl 1 rfl) ?_
                  refine g_iconst S 1 dX13_commandHere_248 (by decide +kernel) ?_
                  refine g_ldcW S hI kk hzv rfl 7 (by decide) rfl dX13_commandHere_249 ?_
                  refine g_afi (g_runV S hI hP hS (k := 2) (As := [.int (nI (1)), .ref (kk (20 + 7))]) (rest := []) (mX13_isWord l kk hzv b g kp sv bf sd ip sg mk td lv tl qs qc qw qd co wy de ca ln fa sm ((pa + 1) + 1) tm 1 7 hb22 (by omega) hln hip (by decide) htm) q2161 q2163 q74 q100 q2164 rfl rfl (by decide +kernel) ⟨Nat.le_of_ble_eq_true rfl, Nat.le_of_ble_eq_true rfl⟩ rfl (hb22.lt 0 (by decide)) (hb22.2 0 (by decide)) rfl hl.1 rfl (Nat.le_of_ble_eq_true rfl) ⟨(Nat.le_of_ble_eq_true rfl), (Nat.le_of_ble_eq_true rfl)⟩ dX13_commandHere_251) hS (fun rz w1 H locs hq hP hS => ?_)
                  obtain ⟨hr39, hb37, hf38⟩ := hq
                  rw [hr39]
                  have hfr := hfr.trans hf38 (fun q hq => by (try simp only [gIn] at hq ⊢); (try dsimp only at hq ⊢); omega)
                  rw [rdF_lits (wrd 7) _ (wrd_nspc 7 (by decide))] at hR
                  have hlb := litN_le ln ip (wrd 7) ((pa + 1) + 1)
                  have hwl := wrd_len 7 (by decide)
                  refine g_beq S (b := (litN ln ip (wrd 7) ((pa + 1) + 1)).2) (tgt := 269) dX13_commandHere_254 (by decide) (fun hw => ?_) (fun hw => ?_)
                  · rw [if_neg (show ¬ (litN ln ip (wrd 7) ((pa + 1) + 1)).2 = true by rw [hw]; decide)] at hR
                    refine g_iconst S 0 dX13_commandHere_269 (by decide +kernel) ?_
                    exact g_zret S hr hlocks (Or.inl nI_0) hP hS (⟨Or.inr ⟨_, _, hR, fun j hj => va_up_ne _ _ (by omega), rfl, hb37⟩, hfr⟩) (fun _ _ => rfl) (Nat.le_of_ble_eq_true rfl) (Nat.le_of_ble_eq_true rfl) dX13_commandHere_270
                  · rw [if_pos hw] at hR
                    refine lv_aload_n hx hb dX13_commandHere_257 rfl (lv_at hl 1 rfl) ?_
                    refine lv_iload_n hx hb dX13_commandHere_258 rfl (lv_at hl 0 rfl) ?_
                    refine g_afi (g_runV S hI hP hS (k := 1) (As := [.int (nI (4 * tm + 1))]) (rest := []) (mX13_cellHere l b g kp sv bf sd ip sg mk td lv (va_up tl (4 * tm) 1) qs qc qw qd co wy de ca ln fa sm ((litN ln ip (wrd 7) ((pa + 1) + 1)).1) tm (4 * tm + 1) hb37 (by omega) hln hip (by omega)) q2167 q2169 q75 q100 q2170 rfl rfl (by decide +kernel) ⟨Nat.le_of_ble_eq_true rfl, Nat.le_of_ble_eq_true rfl⟩ rfl (hb37.lt 0 (by decide)) (hb37.2 0 (by decide)) rfl hl.1 rfl (Nat.le_of_ble_eq_true rfl) ⟨(Nat.le_of_ble_eq_true rfl), (Nat.le_of_ble_eq_true rfl)⟩ dX13_commandHere_259) hS (fun rz w1 H locs hq hP hS => ?_)
                    obtain ⟨hq9, hf9⟩ := hq
                    have hfr := hfr.trans hf9 (fun q hq => hq)
                    rcases hq9 with ⟨a, c, hs1, hd1, hd2, hr9, hb9⟩ | ⟨y9, tl9, hE9, hk9, hr9, hb9⟩
                    · rw [hr9]
                      rw [rdF_lit (c := 32) (by decide), if_pos hs1, rdF_R, if_neg (by rw [hd1]; intro z; cases z), rdF_C, if_neg (by rw [hd2]; intro z; cases z), hd1, show (litN ln ip (wrd 7) ((pa + 1) + 1)).1 + 1 + 1 = (litN ln ip (wrd 7) ((pa + 1) + 1)).1 + 2 from rfl, hd2] at hR
                      have ha9 := (dgt_ip hd1).2.1
                      have hc9 := (dgt_ip hd2).2.1
                      refine g_ifeq S (a := 1) (by omega) (tgt := 269) dX13_commandHere_262 (by decide) (fun hz => ?_) (fun hz => ?_)
                      · omega
                      · refine g_iconst S 1 dX13_commandHere_265 (by decide +kernel) ?_
                        refine lv_goto (tgt := 270) hx hb dX13_commandHere_266 (by decide) ?_
                        exact g_zret S hr hlocks (Or.inr (by decide +kernel)) hP hS (⟨Or.inl ⟨_, _, _, hR, tRel_c (by decide) ha9 hc9, fun j hj => by rw [va_up_ne _ _ (by omega), va_up_ne _ _ (by omega)]; exact va_up_ne _ _ (by omega), rfl, hb9⟩, hfr⟩) (fun _ _ => rfl) (Nat.le_of_ble_eq_true rfl) (Nat.le_of_ble_eq_true rfl) dX13_commandHere_270
                    · rw [hr9]
                      refine g_ifeq S (a := 0) (by omega) (tgt := 269) dX13_commandHere_262 (by decide) (fun hz => ?_) (fun hz => ?_)
                      · rw [hE9] at hR
                        refine g_iconst S 0 dX13_commandHere_269 (by decide +kernel) ?_
                        exact g_zret S hr hlocks (Or.inl nI_0) hP hS (⟨Or.inr ⟨_, _, hR, fun j hj => by rw [hk9 j (by omega)]; exact va_up_ne _ _ (by omega), rfl, hb9⟩, hfr⟩) (fun _ _ => rfl) (Nat.le_of_ble_eq_true rfl) (Nat.le_of_ble_eq_true rfl) dX13_commandHere_270
                      · omega
              · rw [if_neg (show ¬ ht1 ln ip pa 112 = true by rw [e7]; decide)] at hb19
                (try rw [if_neg (show ¬ ht1 ln ip pa 112 = true by rw [e7]; decide)] at hP)
                (try rw [if_neg (show ¬ ht1 ln ip pa 112 = true by rw [e7]; decide)] at hfr)
                have hsel : selV ln ip pa = 9 := by unfold selV; rw [if_neg (by rw [e1]; decide), if_neg (by rw [e2]; decide), if_neg (by rw [e3]; decide), if_neg (by rw [e4]; decide), if_neg (by rw [e5]; decide), if_neg (by rw [e6]; decide), if_neg (by rw [e7]; decide)]
                rw [hsel]
                have hR : rdF ln ip (frm 9) pa F0t = (pa, none) := by rw [show frm 9 = 112 :: (wrd 9 ++ (32 :: 82 :: 67 :: [])) from rfl, rdF_lit (c := 112) (by decide), if_neg (by rw [e7]; decide)]
                refine g_iconst S 0 dX13_commandHere_236 (by decide +kernel) ?_
                exact g_zret S hr hlocks (Or.inl nI_0) hP hS (⟨Or.inr ⟨_, _, hR, fun _ _ => rfl, rfl, hb19⟩, hfr⟩) (fun _ _ => rfl) (Nat.le_of_ble_eq_true rfl) (Nat.le_of_ble_eq_true rfl) dX13_commandHere_237
            · rw [if_pos e6] at hb16
              (try rw [if_pos e6] at hP)
              (try rw [if_pos e6] at hfr)
              refine lv_aload_n hx hb dX13_commandHere_173 rfl (lv_at hl 1 rfl) ?_
              refine g_bipush S 101 dX13_commandHere_174 (by decide +kernel) ?_
              refine g_afi (g_runV S hI hP hS (k := 1) (As := [.int (nI (101))]) (rest := []) (mX13_skips l b g kp sv bf sd ip sg mk td lv tl qs qc qw qd co wy de ca ln fa sm (pa + 1) tm 101 hb16 (by omega) hln hip (by decide)) q2152 q2154 q72 q100 q2155 rfl rfl (by decide +kernel) ⟨Nat.le_of_ble_eq_true rfl, Nat.le_of_ble_eq_true rfl⟩ rfl (hb16.lt 0 (by decide)) (hb16.2 0 (by decide)) rfl hl.1 rfl (Nat.le_of_ble_eq_true rfl) ⟨(Nat.le_of_ble_eq_true rfl), (Nat.le_of_ble_eq_true rfl)⟩ dX13_commandHere_176) hS (fun rz w1 H locs hq hP hS => ?_)
              obtain ⟨hr42, hb40, hf41⟩ := hq
              rw [hr42]
              have hfr := hfr.trans hf41 (fun q hq => by (try simp only [gIn] at hq ⊢); (try dsimp only at hq ⊢); omega)
              refine g_beq S (b := ht1 ln ip (pa + 1) 101) (tgt := 192) dX13_commandHere_179 (by decide) (fun e8 => ?_) (fun e8 => ?_)
              · rw [if_neg (show ¬ ht1 ln ip (pa + 1) 101 = true by rw [e8]; decide)] at hb40
                (try rw [if_neg (show ¬ ht1 ln ip (pa + 1) 101 = true by rw [e8]; decide)] at hP)
                (try rw [if_neg (show ¬ ht1 ln ip (pa + 1) 101 = true by rw [e8]; decide)] at hfr)
                have hsel : selV ln ip pa = 7 := by unfold selV; rw [if_neg (by rw [e1]; decide), if_neg (by rw [e2]; decide), if_neg (by rw [e3]; decide), if_neg (by rw [e4]; decide), if_neg (by rw [e5]; decide), if_pos e6, if_neg (by rw [e8]; decide)]
                rw [hsel]
                have hR : rdF ln ip (frm 7) pa F0t = rdF ln ip (115 :: (wrd 6 ++ (32 :: (73 :: [])))) pa F0t := rfl
                rw [rdF_lit (c := 115) (by decide), if_pos e6] at hR
                refine lv_aload_n hx hb dX13_commandHere_192 rfl (lv_at hl 1 rfl) ?_
                refine g_bipush S 7 dX13_commandHere_193 (by decide +kernel) ?_
                refine g_ldcW S hI kk hzv rfl 6 (by decide) rfl dX13_commandHere_195 ?_
                refine g_afi (g_runV S hI hP hS (k := 2) (As := [.int (nI (7)), .ref (kk (20 + 6))]) (rest := []) (mX13_isWord l kk hzv b g kp sv bf sd ip sg mk td lv tl qs qc qw qd co wy de ca ln fa sm (pa + 1) tm 7 6 hb40 (by omega) hln hip (by decide) htm) q2161 q2163 q74 q100 q2164 rfl rfl (by decide +kernel) ⟨Nat.le_of_ble_eq_true rfl, Nat.le_of_ble_eq_true rfl⟩ rfl (hb40.lt 0 (by decide)) (hb40.2 0 (by decide)) rfl hl.1 rfl (Nat.le_of_ble_eq_true rfl) ⟨(Nat.le_of_ble_eq_true rfl), (Nat.le_of_ble_eq_true rfl)⟩ dX13_commandHere_197) hS (fun rz w1 H locs hq hP hS => ?_)
                obtain ⟨hr45, hb43, hf44⟩ := hq
                rw [hr45]
                have hfr := hfr.trans hf44 (fun q hq => by (try simp only [gIn] at hq ⊢); (try dsimp only at hq ⊢); omega)
                rw [rdF_lits (wrd 6) _ (wrd_nspc 6 (by decide))] at hR
                have hlb := litN_le ln ip (wrd 6) (pa + 1)
                have hwl := wrd_len 6 (by decide)
                refine g_beq S (b := (litN ln ip (wrd 6) (pa + 1)).2) (tgt := 225) dX13_commandHere_200 (by decide) (fun hw => ?_) (fun hw => ?_)
                · rw [if_neg (show ¬ (litN ln ip (wrd 6) (pa + 1)).2 = true by rw [hw]; decide)] at hR
                  refine g_iconst S 0 dX13_commandHere_225 (by decide +kernel) ?_
                  exact g_zret S hr hlocks (Or.inl nI_0) hP hS (⟨Or.inr ⟨_, _, hR, fun j hj => va_up_ne _ _ (by omega), rfl, hb43⟩, hfr⟩) (fun _ _ => rfl) (Nat.le_of_ble_eq_true rfl) (Nat.le_of_ble_eq_true rfl) dX13_commandHere_226
                · rw [if_pos hw] at hR
                  refine lv_aload_n hx hb dX13_commandHere_203 rfl (lv_at hl 1 rfl) ?_
                  refine g_bipush S 32 dX13_commandHere_204 (by decide +kernel) ?_
                  refine g_afi (g_runV S hI hP hS (k := 1) (As := [.int (nI (32))]) (rest := []) (mX13_skips l b g kp sv bf sd ip sg mk td lv (va_up tl (4 * tm) 7) qs qc qw qd co wy de ca ln fa sm ((litN ln ip (wrd 6) (pa + 1)).1) tm 32 hb43 (by omega) hln hip (by decide)) q2152 q2154 q72 q100 q2155 rfl rfl (by decide +kernel) ⟨Nat.le_of_ble_eq_true rfl, Nat.le_of_ble_eq_true rfl⟩ rfl (hb43.lt 0 (by decide)) (hb43.2 0 (by decide)) rfl hl.1 rfl (Nat.le_of_ble_eq_true rfl) ⟨(Nat.le_of_ble_eq_true rfl), (Nat.le_of_ble_eq_true rfl)⟩ dX13_commandHere_206) hS (fun rz w1 H locs hq hP hS => ?_)
                  obtain ⟨hr48, hb46, hf47⟩ := hq
                  rw [hr48]
                  have hfr := hfr.trans hf47 (fun q hq => by (try simp only [gIn] at hq ⊢); (try dsimp only at hq ⊢); omega)
                  refine g_beq S (b := ht1 ln ip ((litN ln ip (wrd 6) (pa + 1)).1) 32) (tgt := 225) dX13_commandHere_209 (by decide) (fun h32 => ?_) (fun h32 => ?_)
                  · rw [if_neg (show ¬ ht1 ln ip ((litN ln ip (wrd 6) (pa + 1)).1) 32 = true by rw [h32]; decide)] at hb46
                    (try rw [if_neg (show ¬ ht1 ln ip ((litN ln ip (wrd 6) (pa + 1)).1) 32 = true by rw [h32]; decide)] at hP)
                    (try rw [if_neg (show ¬ ht1 ln ip ((litN ln ip (wrd 6) (pa + 1)).1) 32 = true by rw [h32]; decide)] at hfr)
                    rw [rdF_lit (c := 32) (by decide), if_neg (by rw [h32]; decide)] at hR
                    refine g_iconst S 0 dX13_commandHere_225 (by decide +kernel) ?_
                    exact g_zret S hr hlocks (Or.inl nI_0) hP hS (⟨Or.inr ⟨_, _, hR, fun j hj => va_up_ne _ _ (by omega), rfl, hb46⟩, hfr⟩) (fun _ _ => rfl) (Nat.le_of_ble_eq_true rfl) (Nat.le_of_ble_eq_true rfl) dX13_commandHere_226
                  · rw [if_pos h32] at hb46
                    (try rw [if_pos h32] at hP)
                    (try rw [if_pos h32] at hfr)
                    rw [rdF_lit (c := 32) (by decide), if_pos h32] at hR
                    refine lv_aload_n hx hb dX13_commandHere_212 rfl (lv_at hl 1 rfl) ?_
                    refine lv_iload_n hx hb dX13_commandHere_213 rfl (lv_at hl 0 rfl) ?_
                    refine g_iconst S 1 dX13_commandHere_214 (by decide +kernel) ?_
                    refine g_afi (g_runV S hI hP hS (k := 2) (As := [.int (nI (4 * tm + 1)), .int (nI (1))]) (rest := []) (mX13_digits1 l b g kp sv bf sd ip sg mk td lv (va_up tl (4 * tm) 7) qs qc qw qd co wy de ca ln fa sm ((litN ln ip (wrd 6) (pa + 1)).1 + 1) tm (4 * tm + 1) hb46 (by omega) hln hip (by omega)) q2171 q2173 q76 q100 q2174 rfl rfl (by decide +kernel) ⟨Nat.le_of_ble_eq_true rfl, Nat.le_of_ble_eq_true rfl⟩ rfl (hb46.lt 0 (by decide)) (hb46.2 0 (by decide)) rfl hl.1 rfl (Nat.le_of_ble_eq_true rfl) ⟨(Nat.le_of_ble_eq_true rfl), (Nat.le_of_ble_eq_true rfl)⟩ dX13_commandHere_215) hS (fun rz w1 H locs hq hP hS => ?_)
                    obtain ⟨hq9, hf9⟩ := hq
                    have hfr := hfr.trans hf9 (fun q hq => hq)
                    rcases hq9 with ⟨hd1, hr9, hb9⟩ | ⟨a, hd1, hr9, hb9⟩
                    · rw [hr9]
                      refine g_ifeq S (a := 0) (by omega) (tgt := 225) dX13_commandHere_218 (by decide) (fun hz => ?_) (fun hz => ?_)
                      · rw [rdF_I, if_pos hd1] at hR
                        refine g_iconst S 0 dX13_commandHere_225 (by decide +kernel) ?_
                        exact g_zret S hr hlocks (Or.inl nI_0) hP hS (⟨Or.inr ⟨_, _, hR, fun j hj => va_up_ne _ _ (by omega), rfl, hb9⟩, hfr⟩) (fun _ _ => rfl) (Nat.le_of_ble_eq_true rfl) (Nat.le_of_ble_eq_true rfl) dX13_commandHere_226
                      · omega
                    · rw [hr9]
                      refine g_ifeq S (a := 1) (by omega) (tgt := 225) dX13_commandHere_218 (by decide) (fun hz => ?_) (fun hz => ?_)
                      · omega
                      · rw [rdF_I, if_neg (by rw [hd1]; intro z; cases z), hd1] at hR
                        have ha9 := (dgt_ip hd1).2.1
                        refine g_iconst S 1 dX13_commandHere_221 (by decide +kernel) ?_
                        refine lv_goto (tgt := 226) hx hb dX13_commandHere_222 (by decide) ?_
                        exact g_zret S hr hlocks (Or.inr (by decide +kernel)) hP hS (⟨Or.inl ⟨_, _, _, hR, tRel_i ha9, fun j hj => by rw [va_up_ne _ _ (by omega)]; exact va_up_ne _ _ (by omega), rfl, hb9⟩, hfr⟩) (fun _ _ => rfl) (Nat.le_of_ble_eq_true rfl) (Nat.le_of_ble_eq_true rfl) dX13_commandHere_226
              · rw [if_pos e8] at hb40
                (try rw [if_pos e8] at hP)
                (try rw [if_pos e8] at hfr)
                have hsel : selV ln ip pa = 5 := by unfold selV; rw [if_neg (by rw [e1]; decide), if_neg (by rw [e2]; decide), if_neg (by rw [e3]; decide), if_neg (by rw [e4]; decide), if_neg (by rw [e5]; decide), if_pos e6, if_pos e8]
                rw [hsel]
                have hR : rdF ln ip (frm 5) pa F0t = rdF ln ip (115 :: 101 :: (wrd 5 ++ [])) pa F0t := rfl
                rw [rdF_lit (c := 115) (by decide), if_pos e6] at hR
                rw [rdF_lit (c := 101) (by decide), if_pos e8] at hR
                refine lv_aload_n hx hb dX13_commandHere_182 rfl (lv_at hl 1 rfl) ?_
                refine g_iconst S 5 dX13_commandHere_183 (by decide +kernel) ?_
                refine g_ldcW S hI kk hzv rfl 5 (by decide) rfl dX13_commandHere_184 ?_
                refine g_afi (g_runV S hI hP hS (k := 2) (As := [.int (nI (5)), .ref (kk (20 + 5))]) (rest := []) (mX13_isWord l kk hzv b g kp sv bf sd ip sg mk td lv tl qs qc qw qd co wy de ca ln fa sm ((pa + 1) + 1) tm 5 5 hb40 (by omega) hln hip (by decide) htm) q2161 q2163 q74 q100 q2164 rfl rfl (by decide +kernel) ⟨Nat.le_of_ble_eq_true rfl, Nat.le_of_ble_eq_true rfl⟩ rfl (hb40.lt 0 (by decide)) (hb40.2 0 (by decide)) rfl hl.1 rfl (Nat.le_of_ble_eq_true rfl) ⟨(Nat.le_of_ble_eq_true rfl), (Nat.le_of_ble_eq_true rfl)⟩ dX13_commandHere_186) hS (fun rz w1 H locs hq hP hS => ?_)
                obtain ⟨hr51, hb49, hf50⟩ := hq
                rw [hr51]
                have hfr := hfr.trans hf50 (fun q hq => by (try simp only [gIn] at hq ⊢); (try dsimp only at hq ⊢); omega)
                rw [rdF_lits (wrd 5) _ (wrd_nspc 5 (by decide))] at hR
                have hlb := litN_le ln ip (wrd 5) ((pa + 1) + 1)
                have hwl := wrd_len 5 (by decide)
                refine lv_goto (tgt := 226) hx hb dX13_commandHere_189 (by decide) ?_
                cases hw : (litN ln ip (wrd 5) ((pa + 1) + 1)).2
                · rw [hw] at hR
                  rw [if_neg (by decide)] at hR
                  exact g_zret S hr hlocks (Or.inl (by decide +kernel)) hP hS (⟨Or.inr ⟨_, _, hR, fun j hj => va_up_ne _ _ (by omega), rfl, hb49⟩, hfr⟩) (fun _ _ => rfl) (Nat.le_of_ble_eq_true rfl) (Nat.le_of_ble_eq_true rfl) dX13_commandHere_226
                · rw [hw] at hR
                  rw [if_pos rfl] at hR
                  exact g_zret S hr hlocks (Or.inr (by decide +kernel)) hP hS (⟨Or.inl ⟨_, _, _, hR, tRel_0 (by decide), fun j hj => va_up_ne _ _ (by omega), rfl, hb49⟩, hfr⟩) (fun _ _ => rfl) (Nat.le_of_ble_eq_true rfl) (Nat.le_of_ble_eq_true rfl) dX13_commandHere_226
          · rw [if_pos e5] at hb13
            (try rw [if_pos e5] at hP)
            (try rw [if_pos e5] at hfr)
            have hsel : selV ln ip pa = 8 := by unfold selV; rw [if_neg (by rw [e1]; decide), if_neg (by rw [e2]; decide), if_neg (by rw [e3]; decide), if_neg (by rw [e4]; decide), if_pos e5]
            rw [hsel]
            have hR : rdF ln ip (frm 8) pa F0t = rdF ln ip (110 :: (wrd 4 ++ [])) pa F0t := rfl
            rw [rdF_lit (c := 110) (by decide), if_pos e5] at hR
            refine lv_aload_n hx hb dX13_commandHere_155 rfl (lv_at hl 1 rfl) ?_
            refine g_bipush S 8 dX13_commandHere_156 (by decide +kernel) ?_
            refine g_ldcW S hI kk hzv rfl 4 (by decide) rfl dX13_commandHere_158 ?_
            refine g_afi (g_runV S hI hP hS (k := 2) (As := [.int (nI (8)), .ref (kk (20 + 4))]) (rest := []) (mX13_isWord l kk hzv b g kp sv bf sd ip sg mk td lv tl qs qc qw qd co wy de ca ln fa sm (pa + 1) tm 8 4 hb13 (by omega) hln hip (by decide) htm) q2161 q2163 q74 q100 q2164 rfl rfl (by decide +kernel) ⟨Nat.le_of_ble_eq_true rfl, Nat.le_of_ble_eq_true rfl⟩ rfl (hb13.lt 0 (by decide)) (hb13.2 0 (by decide)) rfl hl.1 rfl (Nat.le_of_ble_eq_true rfl) ⟨(Nat.le_of_ble_eq_true rfl), (Nat.le_of_ble_eq_true rfl)⟩ dX13_commandHere_160) hS (fun rz w1 H locs hq hP hS => ?_)
            obtain ⟨hr54, hb52, hf53⟩ := hq
            rw [hr54]
            have hfr := hfr.trans hf53 (fun q hq => by (try simp only [gIn] at hq ⊢); (try dsimp only at hq ⊢); omega)
            rw [rdF_lits (wrd 4) _ (wrd_nspc 4 (by decide))] at hR
            have hlb := litN_le ln ip (wrd 4) (pa + 1)
            have hwl := wrd_len 4 (by decide)
            cases hw : (litN ln ip (wrd 4) (pa + 1)).2
            · rw [hw] at hR
              rw [if_neg (by decide)] at hR
              exact g_zret S hr hlocks (Or.inl (by decide +kernel)) hP hS (⟨Or.inr ⟨_, _, hR, fun j hj => va_up_ne _ _ (by omega), rfl, hb52⟩, hfr⟩) (fun _ _ => rfl) (Nat.le_of_ble_eq_true rfl) (Nat.le_of_ble_eq_true rfl) dX13_commandHere_163
            · rw [hw] at hR
              rw [if_pos rfl] at hR
              exact g_zret S hr hlocks (Or.inr (by decide +kernel)) hP hS (⟨Or.inl ⟨_, _, _, hR, tRel_0 (by decide), fun j hj => va_up_ne _ _ (by omega), rfl, hb52⟩, hfr⟩) (fun _ _ => rfl) (Nat.le_of_ble_eq_true rfl) (Nat.le_of_ble_eq_true rfl) dX13_commandHere_163
        · rw [if_pos e4] at hb10
          (try rw [if_pos e4] at hP)
          (try rw [if_pos e4] at hfr)
          have hsel : selV ln ip pa = 6 := by unfold selV; rw [if_neg (by rw [e1]; decide), if_neg (by rw [e2]; decide), if_neg (by rw [e3]; decide), if_pos e4]
          rw [hsel]
          have hR : rdF ln ip (frm 6) pa F0t = rdF ln ip (109 :: (wrd 3 ++ (32 :: 82 :: 67 :: []))) pa F0t := rfl
          rw [rdF_lit (c := 109) (by decide), if_pos e4] at hR
          refine lv_aload_n hx hb dX13_commandHere_121 rfl (lv_at hl 1 rfl) ?_
          refine g_bipush S 6 dX13_commandHere_122 (by decide +kernel) ?_
          refine g_ldcW S hI kk hzv rfl 3 (by decide) rfl dX13_commandHere_124 ?_
          refine g_afi (g_runV S hI hP hS (k := 2) (As := [.int (nI (6)), .ref (kk (20 + 3))]) (rest := []) (mX13_isWord l kk hzv b g kp sv bf sd ip sg mk td lv tl qs qc qw qd co wy de ca ln fa sm (pa + 1) tm 6 3 hb10 (by omega) hln hip (by decide) htm) q2161 q2163 q74 q100 q2164 rfl rfl (by decide +kernel) ⟨Nat.le_of_ble_eq_true rfl, Nat.le_of_ble_eq_true rfl⟩ rfl (hb10.lt 0 (by decide)) (hb10.2 0 (by decide)) rfl hl.1 rfl (Nat.le_of_ble_eq_true rfl) ⟨(Nat.le_of_ble_eq_true rfl), (Nat.le_of_ble_eq_true rfl)⟩ dX13_commandHere_126) hS (fun rz w1 H locs hq hP hS => ?_)
          obtain ⟨hr57, hb55, hf56⟩ := hq
          rw [hr57]
          have hfr := hfr.trans hf56 (fun q hq => by (try simp only [gIn] at hq ⊢); (try dsimp only at hq ⊢); omega)
          rw [rdF_lits (wrd 3) _ (wrd_nspc 3 (by decide))] at hR
          have hlb := litN_le ln ip (wrd 3) (pa + 1)
          have hwl := wrd_len 3 (by decide)
          refine g_beq S (b := (litN ln ip (wrd 3) (pa + 1)).2) (tgt := 144) dX13_commandHere_129 (by decide) (fun hw => ?_) (fun hw => ?_)
          · rw [if_neg (show ¬ (litN ln ip (wrd 3) (pa + 1)).2 = true by rw [hw]; decide)] at hR
            refine g_iconst S 0 dX13_commandHere_144 (by decide +kernel) ?_
            exact g_zret S hr hlocks (Or.inl nI_0) hP hS (⟨Or.inr ⟨_, _, hR, fun j hj => va_up_ne _ _ (by omega), rfl, hb55⟩, hfr⟩) (fun _ _ => rfl) (Nat.le_of_ble_eq_true rfl) (Nat.le_of_ble_eq_true rfl) dX13_commandHere_145
          · rw [if_pos hw] at hR
            refine lv_aload_n hx hb dX13_commandHere_132 rfl (lv_at hl 1 rfl) ?_
            refine lv_iload_n hx hb dX13_commandHere_133 rfl (lv_at hl 0 rfl) ?_
            refine g_afi (g_runV S hI hP hS (k := 1) (As := [.int (nI (4 * tm + 1))]) (rest := []) (mX13_cellHere l b g kp sv bf sd ip sg mk td lv (va_up tl (4 * tm) 6) qs qc qw qd co wy de ca ln fa sm ((litN ln ip (wrd 3) (pa + 1)).1) tm (4 * tm + 1) hb55 (by omega) hln hip (by omega)) q2167 q2169 q75 q100 q2170 rfl rfl (by decide +kernel) ⟨Nat.le_of_ble_eq_true rfl, Nat.le_of_ble_eq_true rfl⟩ rfl (hb55.lt 0 (by decide)) (hb55.2 0 (by decide)) rfl hl.1 rfl (Nat.le_of_ble_eq_true rfl) ⟨(Nat.le_of_ble_eq_true rfl), (Nat.le_of_ble_eq_true rfl)⟩ dX13_commandHere_134) hS (fun rz w1 H locs hq hP hS => ?_)
            obtain ⟨hq9, hf9⟩ := hq
            have hfr := hfr.trans hf9 (fun q hq => hq)
            rcases hq9 with ⟨a, c, hs1, hd1, hd2, hr9, hb9⟩ | ⟨y9, tl9, hE9, hk9, hr9, hb9⟩
            · rw [hr9]
              rw [rdF_lit (c := 32) (by decide), if_pos hs1, rdF_R, if_neg (by rw [hd1]; intro z; cases z), rdF_C, if_neg (by rw [hd2]; intro z; cases z), hd1, show (litN ln ip (wrd 3) (pa + 1)).1 + 1 + 1 = (litN ln ip (wrd 3) (pa + 1)).1 + 2 from rfl, hd2] at hR
              have ha9 := (dgt_ip hd1).2.1
              have hc9 := (dgt_ip hd2).2.1
              refine g_ifeq S (a := 1) (by omega) (tgt := 144) dX13_commandHere_137 (by decide) (fun hz => ?_) (fun hz => ?_)
              · omega
              · refine g_iconst S 1 dX13_commandHere_140 (by decide +kernel) ?_
                refine lv_goto (tgt := 145) hx hb dX13_commandHere_141 (by decide) ?_
                exact g_zret S hr hlocks (Or.inr (by decide +kernel)) hP hS (⟨Or.inl ⟨_, _, _, hR, tRel_c (by decide) ha9 hc9, fun j hj => by rw [va_up_ne _ _ (by omega), va_up_ne _ _ (by omega)]; exact va_up_ne _ _ (by omega), rfl, hb9⟩, hfr⟩) (fun _ _ => rfl) (Nat.le_of_ble_eq_true rfl) (Nat.le_of_ble_eq_true rfl) dX13_commandHere_145
            · rw [hr9]
              refine g_ifeq S (a := 0) (by omega) (tgt := 144) dX13_commandHere_137 (by decide) (fun hz => ?_) (fun hz => ?_)
              · rw [hE9] at hR
                refine g_iconst S 0 dX13_commandHere_144 (by decide +kernel) ?_
                exact g_zret S hr hlocks (Or.inl nI_0) hP hS (⟨Or.inr ⟨_, _, hR, fun j hj => by rw [hk9 j (by omega)]; exact va_up_ne _ _ (by omega), rfl, hb9⟩, hfr⟩) (fun _ _ => rfl) (Nat.le_of_ble_eq_true rfl) (Nat.le_of_ble_eq_true rfl) dX13_commandHere_145
              · omega
      · rw [if_pos e3] at hb7
        (try rw [if_pos e3] at hP)
        (try rw [if_pos e3] at hfr)
        have hsel : selV ln ip pa = 3 := by unfold selV; rw [if_neg (by rw [e1]; decide), if_neg (by rw [e2]; decide), if_pos e3]
        rw [hsel]
        have hR : rdF ln ip (frm 3) pa F0t = rdF ln ip (100 :: (wrd 2 ++ [])) pa F0t := rfl
        rw [rdF_lit (c := 100) (by decide), if_pos e3] at hR
        refine lv_aload_n hx hb dX13_commandHere_104 rfl (lv_at hl 1 rfl) ?_
        refine g_iconst S 3 dX13_commandHere_105 (by decide +kernel) ?_
        refine g_ldcW S hI kk hzv rfl 2 (by decide) rfl dX13_commandHere_106 ?_
        refine g_afi (g_runV S hI hP hS (k := 2) (As := [.int (nI (3)), .ref (kk (20 + 2))]) (rest := []) (mX13_isWord l kk hzv b g kp sv bf sd ip sg mk td lv tl qs qc qw qd co wy de ca ln fa sm (pa + 1) tm 3 2 hb7 (by omega) hln hip (by decide) htm) q2161 q2163 q74 q100 q2164 rfl rfl (by decide +kernel) ⟨Nat.le_of_ble_eq_true rfl, Nat.le_of_ble_eq_true rfl⟩ rfl (hb7.lt 0 (by decide)) (hb7.2 0 (by decide)) rfl hl.1 rfl (Nat.le_of_ble_eq_true rfl) ⟨(Nat.le_of_ble_eq_true rfl), (Nat.le_of_ble_eq_true rfl)⟩ dX13_commandHere_108) hS (fun rz w1 H locs hq hP hS => ?_)
        obtain ⟨hr60, hb58, hf59⟩ := hq
        rw [hr60]
        have hfr := hfr.trans hf59 (fun q hq => by (try simp only [gIn] at hq ⊢); (try dsimp only at hq ⊢); omega)
        rw [rdF_lits (wrd 2) _ (wrd_nspc 2 (by decide))] at hR
        have hlb := litN_le ln ip (wrd 2) (pa + 1)
        have hwl := wrd_len 2 (by decide)
        cases hw : (litN ln ip (wrd 2) (pa + 1)).2
        · rw [hw] at hR
          rw [if_neg (by decide)] at hR
          exact g_zret S hr hlocks (Or.inl (by decide +kernel)) hP hS (⟨Or.inr ⟨_, _, hR, fun j hj => va_up_ne _ _ (by omega), rfl, hb58⟩, hfr⟩) (fun _ _ => rfl) (Nat.le_of_ble_eq_true rfl) (Nat.le_of_ble_eq_true rfl) dX13_commandHere_111
        · rw [hw] at hR
          rw [if_pos rfl] at hR
          exact g_zret S hr hlocks (Or.inr (by decide +kernel)) hP hS (⟨Or.inl ⟨_, _, _, hR, tRel_0 (by decide), fun j hj => va_up_ne _ _ (by omega), rfl, hb58⟩, hfr⟩) (fun _ _ => rfl) (Nat.le_of_ble_eq_true rfl) (Nat.le_of_ble_eq_true rfl) dX13_commandHere_111
    · rw [if_pos e2] at hb4
      (try rw [if_pos e2] at hP)
      (try rw [if_pos e2] at hfr)
      have hsel : selV ln ip pa = 2 := by unfold selV; rw [if_neg (by rw [e1]; decide), if_pos e2]
      rw [hsel]
      have hR : rdF ln ip (frm 2) pa F0t = rdF ln ip (102 :: (wrd 1 ++ (32 :: 82 :: 67 :: []))) pa F0t := rfl
      rw [rdF_lit (c := 102) (by decide), if_pos e2] at hR
      refine lv_aload_n hx hb dX13_commandHere_71 rfl (lv_at hl 1 rfl) ?_
      refine g_iconst S 2 dX13_commandHere_72 (by decide +kernel) ?_
      refine g_ldcW S hI kk hzv rfl 1 (by decide) rfl dX13_commandHere_73 ?_
      refine g_afi (g_runV S hI hP hS (k := 2) (As := [.int (nI (2)), .ref (kk (20 + 1))]) (rest := []) (mX13_isWord l kk hzv b g kp sv bf sd ip sg mk td lv tl qs qc qw qd co wy de ca ln fa sm (pa + 1) tm 2 1 hb4 (by omega) hln hip (by decide) htm) q2161 q2163 q74 q100 q2164 rfl rfl (by decide +kernel) ⟨Nat.le_of_ble_eq_true rfl, Nat.le_of_ble_eq_true rfl⟩ rfl (hb4.lt 0 (by decide)) (hb4.2 0 (by decide)) rfl hl.1 rfl (Nat.le_of_ble_eq_true rfl) ⟨(Nat.le_of_ble_eq_true rfl), (Nat.le_of_ble_eq_true rfl)⟩ dX13_commandHere_75) hS (fun rz w1 H locs hq hP hS => ?_)
      obtain ⟨hr63, hb61, hf62⟩ := hq
      rw [hr63]
      have hfr := hfr.trans hf62 (fun q hq => by (try simp only [gIn] at hq ⊢); (try dsimp only at hq ⊢); omega)
      rw [rdF_lits (wrd 1) _ (wrd_nspc 1 (by decide))] at hR
      have hlb := litN_le ln ip (wrd 1) (pa + 1)
      have hwl := wrd_len 1 (by decide)
      refine g_beq S (b := (litN ln ip (wrd 1) (pa + 1)).2) (tgt := 93) dX13_commandHere_78 (by decide) (fun hw => ?_) (fun hw => ?_)
      · rw [if_neg (show ¬ (litN ln ip (wrd 1) (pa + 1)).2 = true by rw [hw]; decide)] at hR
        refine g_iconst S 0 dX13_commandHere_93 (by decide +kernel) ?_
        exact g_zret S hr hlocks (Or.inl nI_0) hP hS (⟨Or.inr ⟨_, _, hR, fun j hj => va_up_ne _ _ (by omega), rfl, hb61⟩, hfr⟩) (fun _ _ => rfl) (Nat.le_of_ble_eq_true rfl) (Nat.le_of_ble_eq_true rfl) dX13_commandHere_94
      · rw [if_pos hw] at hR
        refine lv_aload_n hx hb dX13_commandHere_81 rfl (lv_at hl 1 rfl) ?_
        refine lv_iload_n hx hb dX13_commandHere_82 rfl (lv_at hl 0 rfl) ?_
        refine g_afi (g_runV S hI hP hS (k := 1) (As := [.int (nI (4 * tm + 1))]) (rest := []) (mX13_cellHere l b g kp sv bf sd ip sg mk td lv (va_up tl (4 * tm) 2) qs qc qw qd co wy de ca ln fa sm ((litN ln ip (wrd 1) (pa + 1)).1) tm (4 * tm + 1) hb61 (by omega) hln hip (by omega)) q2167 q2169 q75 q100 q2170 rfl rfl (by decide +kernel) ⟨Nat.le_of_ble_eq_true rfl, Nat.le_of_ble_eq_true rfl⟩ rfl (hb61.lt 0 (by decide)) (hb61.2 0 (by decide)) rfl hl.1 rfl (Nat.le_of_ble_eq_true rfl) ⟨(Nat.le_of_ble_eq_true rfl), (Nat.le_of_ble_eq_true rfl)⟩ dX13_commandHere_83) hS (fun rz w1 H locs hq hP hS => ?_)
        obtain ⟨hq9, hf9⟩ := hq
        have hfr := hfr.trans hf9 (fun q hq => hq)
        rcases hq9 with ⟨a, c, hs1, hd1, hd2, hr9, hb9⟩ | ⟨y9, tl9, hE9, hk9, hr9, hb9⟩
        · rw [hr9]
          rw [rdF_lit (c := 32) (by decide), if_pos hs1, rdF_R, if_neg (by rw [hd1]; intro z; cases z), rdF_C, if_neg (by rw [hd2]; intro z; cases z), hd1, show (litN ln ip (wrd 1) (pa + 1)).1 + 1 + 1 = (litN ln ip (wrd 1) (pa + 1)).1 + 2 from rfl, hd2] at hR
          have ha9 := (dgt_ip hd1).2.1
          have hc9 := (dgt_ip hd2).2.1
          refine g_ifeq S (a := 1) (by omega) (tgt := 93) dX13_commandHere_86 (by decide) (fun hz => ?_) (fun hz => ?_)
          · omega
          · refine g_iconst S 1 dX13_commandHere_89 (by decide +kernel) ?_
            refine lv_goto (tgt := 94) hx hb dX13_commandHere_90 (by decide) ?_
            exact g_zret S hr hlocks (Or.inr (by decide +kernel)) hP hS (⟨Or.inl ⟨_, _, _, hR, tRel_c (by decide) ha9 hc9, fun j hj => by rw [va_up_ne _ _ (by omega), va_up_ne _ _ (by omega)]; exact va_up_ne _ _ (by omega), rfl, hb9⟩, hfr⟩) (fun _ _ => rfl) (Nat.le_of_ble_eq_true rfl) (Nat.le_of_ble_eq_true rfl) dX13_commandHere_94
        · rw [hr9]
          refine g_ifeq S (a := 0) (by omega) (tgt := 93) dX13_commandHere_86 (by decide) (fun hz => ?_) (fun hz => ?_)
          · rw [hE9] at hR
            refine g_iconst S 0 dX13_commandHere_93 (by decide +kernel) ?_
            exact g_zret S hr hlocks (Or.inl nI_0) hP hS (⟨Or.inr ⟨_, _, hR, fun j hj => by rw [hk9 j (by omega)]; exact va_up_ne _ _ (by omega), rfl, hb9⟩, hfr⟩) (fun _ _ => rfl) (Nat.le_of_ble_eq_true rfl) (Nat.le_of_ble_eq_true rfl) dX13_commandHere_94
          · omega
  · rw [if_pos e1] at hb1
    (try rw [if_pos e1] at hP)
    (try rw [if_pos e1] at hfr)
    have hsel : selV ln ip pa = 0 := by unfold selV; rw [if_pos e1]
    rw [hsel]
    have hR : rdF ln ip (frm 0) pa F0t = rdF ln ip (104 :: (wrd 0 ++ (32 :: 82 :: 67 :: (61 :: (78 :: []))))) pa F0t := rfl
    rw [rdF_lit (c := 104) (by decide), if_pos e1] at hR
    refine lv_aload_n hx hb dX13_commandHere_18 rfl (lv_at hl 1 rfl) ?_
    refine g_iconst S 0 dX13_commandHere_19 (by decide +kernel) ?_
    refine g_ldcW S hI kk hzv rfl 0 (by decide) rfl dX13_commandHere_20 ?_
    refine g_afi (g_runV S hI hP hS (k := 2) (As := [.int (nI (0)), .ref (kk (20 + 0))]) (rest := []) (mX13_isWord l kk hzv b g kp sv bf sd ip sg mk td lv tl qs qc qw qd co wy de ca ln fa sm (pa + 1) tm 0 0 hb1 (by omega) hln hip (by decide) htm) q2161 q2163 q74 q100 q2164 rfl rfl (by decide +kernel) ⟨Nat.le_of_ble_eq_true rfl, Nat.le_of_ble_eq_true rfl⟩ rfl (hb1.lt 0 (by decide)) (hb1.2 0 (by decide)) rfl hl.1 rfl (Nat.le_of_ble_eq_true rfl) ⟨(Nat.le_of_ble_eq_true rfl), (Nat.le_of_ble_eq_true rfl)⟩ dX13_commandHere_22) hS (fun rz w1 H locs hq hP hS => ?_)
    obtain ⟨hr66, hb64, hf65⟩ := hq
    rw [hr66]
    have hfr := hfr.trans hf65 (fun q hq => by (try simp only [gIn] at hq ⊢); (try dsimp only at hq ⊢); omega)
    rw [rdF_lits (wrd 0) _ (wrd_nspc 0 (by decide))] at hR
    have hlb := litN_le ln ip (wrd 0) (pa + 1)
    have hwl := wrd_len 0 (by decide)
    refine g_beq S (b := (litN ln ip (wrd 0) (pa + 1)).2) (tgt := 60) dX13_commandHere_25 (by decide) (fun hw => ?_) (fun hw => ?_)
    · rw [if_neg (show ¬ (litN ln ip (wrd 0) (pa + 1)).2 = true by rw [hw]; decide)] at hR
      refine g_iconst S 0 dX13_commandHere_60 (by decide +kernel) ?_
      exact g_zret S hr hlocks (Or.inl nI_0) hP hS (⟨Or.inr ⟨_, _, hR, fun j hj => va_up_ne _ _ (by omega), rfl, hb64⟩, hfr⟩) (fun _ _ => rfl) (Nat.le_of_ble_eq_true rfl) (Nat.le_of_ble_eq_true rfl) dX13_commandHere_61
    · rw [if_pos hw] at hR
      refine lv_aload_n hx hb dX13_commandHere_28 rfl (lv_at hl 1 rfl) ?_
      refine lv_iload_n hx hb dX13_commandHere_29 rfl (lv_at hl 0 rfl) ?_
      refine g_afi (g_runV S hI hP hS (k := 1) (As := [.int (nI (4 * tm + 1))]) (rest := []) (mX13_cellHere l b g kp sv bf sd ip sg mk td lv (va_up tl (4 * tm) 0) qs qc qw qd co wy de ca ln fa sm ((litN ln ip (wrd 0) (pa + 1)).1) tm (4 * tm + 1) hb64 (by omega) hln hip (by omega)) q2167 q2169 q75 q100 q2170 rfl rfl (by decide +kernel) ⟨Nat.le_of_ble_eq_true rfl, Nat.le_of_ble_eq_true rfl⟩ rfl (hb64.lt 0 (by decide)) (hb64.2 0 (by decide)) rfl hl.1 rfl (Nat.le_of_ble_eq_true rfl) ⟨(Nat.le_of_ble_eq_true rfl), (Nat.le_of_ble_eq_true rfl)⟩ dX13_commandHere_30) hS (fun rz w1 H locs hq hP hS => ?_)
      obtain ⟨hq9, hf9⟩ := hq
      have hfr := hfr.trans hf9 (fun q hq => hq)
      rcases hq9 with ⟨a, c, hs1, hd1, hd2, hr9, hb9⟩ | ⟨y9, tl9, hE9, hk9, hr9, hb9⟩
      · rw [hr9]
        rw [rdF_lit (c := 32) (by decide), if_pos hs1, rdF_R, if_neg (by rw [hd1]; intro z; cases z), rdF_C, if_neg (by rw [hd2]; intro z; cases z), hd1, show (litN ln ip (wrd 0) (pa + 1)).1 + 1 + 1 = (litN ln ip (wrd 0) (pa + 1)).1 + 2 from rfl, hd2] at hR
        have ha9 := (dgt_ip hd1).2.1
        have hc9 := (dgt_ip hd2).2.1
        refine g_ifeq S (a := 1) (by omega) (tgt := 60) dX13_commandHere_33 (by decide) (fun hz => ?_) (fun hz => ?_)
        · omega
        · refine lv_aload_n hx hb dX13_commandHere_36 rfl (lv_at hl 1 rfl) ?_
          refine g_bipush S 61 dX13_commandHere_37 (by decide +kernel) ?_
          refine g_afi (g_runV S hI hP hS (k := 1) (As := [.int (nI (61))]) (rest := []) (mX13_skips l b g kp sv bf sd ip sg mk td lv (va_up (va_up (va_up tl (4 * tm) 0) (4 * tm + 1) a) (4 * tm + 1 + 1) c) qs qc qw qd co wy de ca ln fa sm ((litN ln ip (wrd 0) (pa + 1)).1 + 3) tm 61 hb9 (by omega) hln hip (by decide)) q2152 q2154 q72 q100 q2155 rfl rfl (by decide +kernel) ⟨Nat.le_of_ble_eq_true rfl, Nat.le_of_ble_eq_true rfl⟩ rfl (hb9.lt 0 (by decide)) (hb9.2 0 (by decide)) rfl hl.1 rfl (Nat.le_of_ble_eq_true rfl) ⟨(Nat.le_of_ble_eq_true rfl), (Nat.le_of_ble_eq_true rfl)⟩ dX13_commandHere_39) hS (fun rz w1 H locs hq hP hS => ?_)
          obtain ⟨hr69, hb67, hf68⟩ := hq
          rw [hr69]
          have hfr := hfr.trans hf68 (fun q hq => by (try simp only [gIn] at hq ⊢); (try dsimp only at hq ⊢); omega)
          refine g_beq S (b := ht1 ln ip ((litN ln ip (wrd 0) (pa + 1)).1 + 3) 61) (tgt := 60) dX13_commandHere_42 (by decide) (fun h61 => ?_) (fun h61 => ?_)
          · rw [if_neg (show ¬ ht1 ln ip ((litN ln ip (wrd 0) (pa + 1)).1 + 3) 61 = true by rw [h61]; decide)] at hb67
            (try rw [if_neg (show ¬ ht1 ln ip ((litN ln ip (wrd 0) (pa + 1)).1 + 3) 61 = true by rw [h61]; decide)] at hP)
            (try rw [if_neg (show ¬ ht1 ln ip ((litN ln ip (wrd 0) (pa + 1)).1 + 3) 61 = true by rw [h61]; decide)] at hfr)
            rw [rdF_lit (c := 61) (by decide), if_neg (by rw [h61]; decide)] at hR
            refine g_iconst S 0 dX13_commandHere_60 (by decide +kernel) ?_
            exact g_zret S hr hlocks (Or.inl nI_0) hP hS (⟨Or.inr ⟨_, _, hR, fun j hj => by rw [va_up_ne _ _ (by omega), va_up_ne _ _ (by omega)]; exact va_up_ne _ _ (by omega), rfl, hb67⟩, hfr⟩) (fun _ _ => rfl) (Nat.le_of_ble_eq_true rfl) (Nat.le_of_ble_eq_true rfl) dX13_commandHere_61
          · rw [if_pos h61] at hb67
            (try rw [if_pos h61] at hP)
            (try rw [if_pos h61] at hfr)
            rw [rdF_lit (c := 61) (by decide), if_pos h61] at hR
            refine lv_aload_n hx hb dX13_commandHere_45 rfl (lv_at hl 1 rfl) ?_
            refine lv_iload_n hx hb dX13_commandHere_46 rfl (lv_at hl 0 rfl) ?_
            refine g_iconst S 2 dX13_commandHere_47 (by decide +kernel) ?_
            refine g_iadd S dX13_commandHere_48 ?_
            refine g_iconst S 2 dX13_commandHere_49 (by decide +kernel) ?_
            refine g_afi (g_runV S hI hP hS (k := 2) (As := [.int (nI (4 * tm + 1 + 2)), .int (nI (2))]) (rest := []) (mX13_digits2 l b g kp sv bf sd ip sg mk td lv (va_up (va_up (va_up tl (4 * tm) 0) (4 * tm + 1) a) (4 * tm + 1 + 1) c) qs qc qw qd co wy de ca ln fa sm (((litN ln ip (wrd 0) (pa + 1)).1 + 3) + 1) tm (4 * tm + 1 + 2) hb67 (by omega) hln hip (by omega)) q2171 q2173 q76 q100 q2174 rfl rfl (by decide +kernel) ⟨Nat.le_of_ble_eq_true rfl, Nat.le_of_ble_eq_true rfl⟩ rfl (hb67.lt 0 (by decide)) (hb67.2 0 (by decide)) rfl hl.1 rfl (Nat.le_of_ble_eq_true rfl) ⟨(Nat.le_of_ble_eq_true rfl), (Nat.le_of_ble_eq_true rfl)⟩ dX13_commandHere_50) hS (fun rz w1 H locs hq hP hS => ?_)
            obtain ⟨hq7, hf7⟩ := hq
            have hfr := hfr.trans hf7 (fun q hq => hq)
            rcases hq7 with ⟨hn1, hr7, hb7⟩ | ⟨u, hn1, hn2, hr7, hb7⟩ | ⟨u, v7, hn1, hn2, hr7, hb7⟩
            · rw [hr7]
              refine g_ifeq S (a := 0) (by omega) (tgt := 60) dX13_commandHere_53 (by decide) (fun hz => ?_) (fun hz => ?_)
              · rw [rdF_N0 hn1] at hR
                refine g_iconst S 0 dX13_commandHere_60 (by decide +kernel) ?_
                exact g_zret S hr hlocks (Or.inl nI_0) hP hS (⟨Or.inr ⟨_, _, hR, fun j hj => by rw [va_up_ne _ _ (by omega), va_up_ne _ _ (by omega)]; exact va_up_ne _ _ (by omega), rfl, hb7⟩, hfr⟩) (fun _ _ => rfl) (Nat.le_of_ble_eq_true rfl) (Nat.le_of_ble_eq_true rfl) dX13_commandHere_61
              · omega
            · rw [hr7]
              refine g_ifeq S (a := 1) (by omega) (tgt := 60) dX13_commandHere_53 (by decide) (fun hz => ?_) (fun hz => ?_)
              · omega
              · rw [rdF_N1 hn1 hn2] at hR
                have hu9 := (dgt_ip hn1).2.1
                have hv9 := (dgt_ip hn1).2.1
                refine g_iconst S 1 dX13_commandHere_56 (by decide +kernel) ?_
                refine lv_goto (tgt := 61) hx hb dX13_commandHere_57 (by decide) ?_
                exact g_zret S hr hlocks (Or.inr (by decide +kernel)) hP hS (⟨Or.inl ⟨_, _, _, hR, tRel_n (by decide) ha9 hc9 (by omega), fun j hj => by rw [va_up_ne _ _ (by omega), va_up_ne _ _ (by omega), va_up_ne _ _ (by omega)]; exact va_up_ne _ _ (by omega), rfl, hb7⟩, hfr⟩) (fun _ _ => rfl) (Nat.le_of_ble_eq_true rfl) (Nat.le_of_ble_eq_true rfl) dX13_commandHere_61
            · rw [hr7]
              refine g_ifeq S (a := 1) (by omega) (tgt := 60) dX13_commandHere_53 (by decide) (fun hz => ?_) (fun hz => ?_)
              · omega
              · rw [rdF_N2 hn1 hn2] at hR
                have hu9 := (dgt_ip hn1).2.1
                have hv9 := (dgt_ip hn2).2.1
                refine g_iconst S 1 dX13_commandHere_56 (by decide +kernel) ?_
                refine lv_goto (tgt := 61) hx hb dX13_commandHere_57 (by decide) ?_
                exact g_zret S hr hlocks (Or.inr (by decide +kernel)) hP hS (⟨Or.inl ⟨_, _, _, hR, tRel_n (by decide) ha9 hc9 (by omega), fun j hj => by rw [va_up_ne _ _ (by omega), va_up_ne _ _ (by omega), va_up_ne _ _ (by omega)]; exact va_up_ne _ _ (by omega), rfl, hb7⟩, hfr⟩) (fun _ _ => rfl) (Nat.le_of_ble_eq_true rfl) (Nat.le_of_ble_eq_true rfl) dX13_commandHere_61
      · rw [hr9]
        refine g_ifeq S (a := 0) (by omega) (tgt := 60) dX13_commandHere_33 (by decide) (fun hz => ?_) (fun hz => ?_)
        · rw [hE9] at hR
          refine g_iconst S 0 dX13_commandHere_60 (by decide +kernel) ?_
          exact g_zret S hr hlocks (Or.inl nI_0) hP hS (⟨Or.inr ⟨_, _, hR, fun j hj => by rw [hk9 j (by omega)]; exact va_up_ne _ _ (by omega), rfl, hb9⟩, hfr⟩) (fun _ _ => rfl) (Nat.le_of_ble_eq_true rfl) (Nat.le_of_ble_eq_true rfl) dX13_commandHere_61
        · omega
