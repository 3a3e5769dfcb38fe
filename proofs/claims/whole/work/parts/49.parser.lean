/-! THE TEXT PARSER: digits, numbers, signs, forms -/
/-- the digit at a place of a text of ln signs -/
def dgt (ln : Nat) (bf : Nat → Nat) (p : Nat) : Option Nat := if p < ln ∧ 48 ≤ bf p ∧ bf p ≤ 57 then some (bf p - 48) else none
theorem dgt_lt {ln : Nat} {bf : Nat → Nat} {p k : Nat} (h : dgt ln bf p = some k) : k ≤ 9 ∧ p < ln := by
  unfold dgt at h
  split at h
  · rename_i q; cases h; omega
  · cases h
theorem dgt_31 {ln : Nat} {bf : Nat → Nat} {p : Nat} : ∀ k, dgt ln bf p = some k → k < 2 ^ 31 := fun k h => by have := (dgt_lt h).1; omega
def wdO (o : Option Nat) : Nat := match o with
  | none => 0
  | some _ => 1
def rdN (ln : Nat) (bf : Nat → Nat) (p : Nat) (nm : Option Nat) : Nat × Option Nat := match dgt ln bf p with
  | none => (0, nm)
  | some a => match dgt ln bf (p + 1) with
    | none => (1, some a)
    | some b => (2, some (10 * a + b))
abbrev Tp : Type := Option Nat × Option Nat × Option Nat
def rdS (ln : Nat) (bf : Nat → Nat) (c p : Nat) (t : Tp) : Nat × Tp :=
  if c = 67 then (wdO (dgt ln bf p), (t.1, dgt ln bf p, t.2.2))
  else if c = 73 then (wdO (dgt ln bf p), (t.1, t.2.1, dgt ln bf p))
  else if c = 78 then ((rdN ln bf p t.2.2).1, (t.1, t.2.1, (rdN ln bf p t.2.2).2))
  else if c = 82 then (wdO (dgt ln bf p), (dgt ln bf p, t.2.1, t.2.2))
  else (if p < ln ∧ bf p = c then 1 else 0, t)
section GLOOK
variable {p : Program} {l : Launch} {e : Env} {R : Room} {s : State} {m : MethodId} {args : Array Value} {below : List Frame} {meth : Method} {c : Code} {H : Heap} {locs : List Loc} {cells slots : Nat} {Q : State → Prop}
variable {cc : ByteArray} {pc nL : Nat} {ls : Array Slot} {rest st0 : List Value} {own : String} {E : gE} {ad : Nat → Nat} {N : Nat} {w : Nat → va_E}
theorem g_look4 (S : gFix p m c cc nL s args own) {d o1 o2 o3 o4 : Int} {a1 a2 a3 a4 ci len t1 t2 t3 t4 td : Nat} (hc : ci < 2 ^ 31) (hdg : decode cc pc = .ok (.lookupswitch d #[((a1 : Int), o1), ((a2 : Int), o2), ((a3 : Int), o3), ((a4 : Int), o4)], len)) (h12 : a1 < a2) (h23 : a2 < a3) (h34 : a3 < a4) (e1 : (pc : Int) + o1 = (t1 : Int)) (e2 : (pc : Int) + o2 = (t2 : Int)) (e3 : (pc : Int) + o3 = (t3 : Int)) (e4 : (pc : Int) + o4 = (t4 : Int)) (ed : (pc : Int) + d = (td : Int))
    (k1 : ci = a1 → W p l e R s m args below meth c H locs cells slots Q (F0 m t1 ls rest)) (k2 : ci = a2 → W p l e R s m args below meth c H locs cells slots Q (F0 m t2 ls rest)) (k3 : ci = a3 → W p l e R s m args below meth c H locs cells slots Q (F0 m t3 ls rest)) (k4 : ci = a4 → W p l e R s m args below meth c H locs cells slots Q (F0 m t4 ls rest))
    (kd : ci ≠ a1 → ci ≠ a2 → ci ≠ a3 → ci ≠ a4 → W p l e R s m args below meth c H locs cells slots Q (F0 m td ls rest)) : W p l e R s m args below meth c H locs cells slots Q (F0 m pc ls (.int (nI ci) :: rest)) := by
  have hp : (((#[((a1 : Int), o1), ((a2 : Int), o2), ((a3 : Int), o3), ((a4 : Int), o4)] : Array (Int × Int)).toList.zip ((#[((a1 : Int), o1), ((a2 : Int), o2), ((a3 : Int), o3), ((a4 : Int), o4)] : Array (Int × Int)).toList.drop 1)).all (fun (a, next) => a.1 < next.1)) = true := by
    simp [Int.ofNat_lt.mpr h12, Int.ofNat_lt.mpr h23, Int.ofNat_lt.mpr h34]
  have key : ∀ (o : Int) (t : Nat), Op.lookupswitch.offset [((a1 : Int), o1), ((a2 : Int), o2), ((a3 : Int), o3), ((a4 : Int), o4)] d (ci : Int) = o → (pc : Int) + o = (t : Int) → W p l e R s m args below meth c H locs cells slots Q (F0 m t ls rest) → W p l e R s m args below meth c H locs cells slots Q (F0 m pc ls (.int (nI ci) :: rest)) := fun o t ho ht k =>
    lv_lookup S.1 S.2.1 hdg hp (by rw [nI_toInt hc]; exact ho) ht k
  by_cases h1 : ci = a1
  · exact key o1 t1 (by rw [Op.lookupswitch.offset_cons, if_pos (by omega)]) e1 (k1 h1)
  · by_cases h2 : ci = a2
    · exact key o2 t2 (by rw [Op.lookupswitch.offset_cons, if_neg (by omega), Op.lookupswitch.offset_cons, if_pos (by omega)]) e2 (k2 h2)
    · by_cases h3 : ci = a3
      · exact key o3 t3 (by rw [Op.lookupswitch.offset_cons, if_neg (by omega), Op.lookupswitch.offset_cons, if_neg (by omega), Op.lookupswitch.offset_cons, if_pos (by omega)]) e3 (k3 h3)
      · by_cases h4 : ci = a4
        · exact key o4 t4 (by rw [Op.lookupswitch.offset_cons, if_neg (by omega), Op.lookupswitch.offset_cons, if_neg (by omega), Op.lookupswitch.offset_cons, if_neg (by omega), Op.lookupswitch.offset_cons, if_pos (by omega)]) e4 (k4 h4)
        · exact key d td (by rw [Op.lookupswitch.offset_cons, if_neg (by omega), Op.lookupswitch.offset_cons, if_neg (by omega), Op.lookupswitch.offset_cons, if_neg (by omega), Op.lookupswitch.offset_cons, if_neg (by omega)]; rfl) ed (kd h1 h2 h3 h4)
end GLOOK
def TPC (E : gE) (ad : Nat → Nat) (b : Nat) (bf : Nat → Nat) (ln : Nat) (fa : Nat) (rw : Option Nat) (cl : Option Nat) (nm : Option Nat) : Nat → va_E
  | 0 => .inr (13, [.ref (ad (b + 1)), .ref (ad (b + 2)), .int (nI ln), .int (nI fa), .int (oI rw), .int (oI cl), .int (oI nm)])
  | _ => gAr (E.2.1 2) 60 bf
theorem TP_setO {E : gE} {ad : Nat → Nat} {N b : Nat} {bf : Nat → Nat} {ln : Nat} {fa : Nat} {rw : Option Nat} {cl : Option Nat} {nm : Option Nat} {w : Nat → va_E} (h : bkP N w b 2 (TPC E ad b bf ln fa rw cl nm)) (ln' : Nat) (fa' : Nat) (rw' : Option Nat) (cl' : Option Nat) (nm' : Option Nat) : bkP N (va_up w (b) (TPC E ad b bf ln' fa' rw' cl' nm' 0)) b 2 (TPC E ad b bf ln' fa' rw' cl' nm') := (h.set 0 (by decide) _).to (fun k hk => by match k, hk with | 0, _ => rfl | 1, _ => rfl)
theorem TP_setA0 {E : gE} {ad : Nat → Nat} {N b : Nat} {bf : Nat → Nat} {ln : Nat} {fa : Nat} {rw : Option Nat} {cl : Option Nat} {nm : Option Nat} {w : Nat → va_E} (h : bkP N w b 2 (TPC E ad b bf ln fa rw cl nm)) (f : Nat → Nat) : bkP N (va_up w (b + 1) (TPC E ad b f ln fa rw cl nm 1)) b 2 (TPC E ad b f ln fa rw cl nm) := (h.set 1 (by decide) _).to (fun k hk => by match k, hk with | 0, _ => rfl | 1, _ => rfl)
theorem TP_eq {E : gE} {ad ad' : Nat → Nat} {b : Nat} {bf : Nat → Nat} {ln : Nat} {fa : Nat} {rw : Option Nat} {cl : Option Nat} {nm : Option Nat} {M : Nat} (hM : b + 3 ≤ M) (ha : ∀ p, p < M → ad p = ad' p) : ∀ k, k < 2 → TPC E ad b bf ln fa rw cl nm k = TPC E ad' b bf ln fa rw cl nm k := fun k hk => match k, hk with
  | 0, _ => by
    show (.inr (13, [.ref (ad (b + 1)), .ref (ad (b + 2)), .int (nI ln), .int (nI fa), .int (oI rw), .int (oI cl), .int (oI nm)]) : va_E) = .inr (13, [.ref (ad' (b + 1)), .ref (ad' (b + 2)), .int (nI ln), .int (nI fa), .int (oI rw), .int (oI cl), .int (oI nm)])
    rw [ha (b + 1) (by omega), ha (b + 2) (by omega)]
  | 1, _ => rfl
theorem TP_mv {E : gE} {ad ad' : Nat → Nat} {N N' b : Nat} {bf : Nat → Nat} {ln : Nat} {fa : Nat} {rw : Option Nat} {cl : Option Nat} {nm : Option Nat} {w w' : Nat → va_E} (h : bkP N w b 2 (TPC E ad b bf ln fa rw cl nm)) {M : Nat} (hM : b + 3 ≤ M) (hN : M ≤ N') (ha : ∀ p, p < M → ad p = ad' p) (hw : ∀ p, b ≤ p → p < b + 2 → w' p = w p) : bkP N' w' b 2 (TPC E ad' b bf ln fa rw cl nm) :=
  ⟨by omega, fun k hk => by rw [hw _ (by omega) (by omega), h.2 k hk]; exact TP_eq hM ha k hk⟩
set_option maxHeartbeats 4000000 in
set_option maxRecDepth 100000 in
/-- a sign is added -/
theorem mX9_append (l : Launch) {E : gE} {ad : Nat → Nat} {N : Nat} {w : Nat → va_E} (b : Nat) (bf : Nat → Nat) (ln fa : Nat) (rw cl nm : Option Nat) (ch : Nat) (hb_t : bkP N w b 2 (TPC E ad b bf ln fa rw cl nm)) (hln : ln ≤ 60) (hch : ch < 65536) : gMi l yX9_append (lw_ws yX9_append cX9_append 2 (some .boolean)) ({ frames := 0, cells := 0, slots := 0, locals := 0 } : Room) E ad N w [.ref (ad (b)), .int (nI (ch))] (fun r w' => (if ln = 60 then r = nI 0 ∧ bkP N w' b 2 (TPC E ad b bf ln fa rw cl nm) else r = nI 1 ∧ bkP N w' b 2 (TPC E ad b (va_up bf ln ch) (ln + 1) fa rw cl nm)) ∧ gFr (gIn b 2) w w') 0 0 := by
  refine Met.ofW (cc := cX9_append) (maxL := 2) (ret := (some .boolean)) (by decide) rfl ?_
  intro p e s m args below meth cd s₁ B hml hv
  obtain ⟨rfl, hI, hP⟩ := hv
  obtain ⟨S, hr, hlocks⟩ := gPre (ws := []) B hml (C := RX9) rfl
  have hx := S.1
  have hb := S.2.1
  have hS : va_S (gA E) s.heap s.heap [] := va_S.rf
  have hfr : gFr (gIn b 2) w w := gFr.rf
  have hl := lv_entry ([.ref (ad (b)), .int (nI (ch))]) (n := 2) (Nat.le_of_ble_eq_true rfl)
  rw [lg_entry_eq]
  generalize (lg_sl ([.ref (ad (b)), .int (nI (ch))]) ++ List.replicate (2 - (lg_sl ([.ref (ad (b)), .int (nI (ch))])).length) Slot.unset).toArray = ls at hl ⊢
  have hl : lv_has ls 2 [(0, .ref (ad (b))), (1, .int (nI (ch)))] := hl
  refine lv_aload_n hx hb dX9_append_0 rfl (lv_at hl 0 rfl) ?_
  refine g_get S hI hP uX9 rfl (fs := _) (hb_t.lt 0 (by decide)) (hb_t.2 0 (by decide)) 2 (by decide) q348 rfl (v := .int (nI (ln))) rfl dX9_append_1 ?_
  refine g_bipush S 60 dX9_append_4 (by decide +kernel) ?_
  refine g_lt S (a := ln) (b := 60) (by omega) (by omega) (tgt := 11) dX9_append_6 (by decide) (fun hc => ?_) (fun hc => ?_)
  · refine lv_aload_n hx hb dX9_append_11 rfl (lv_at hl 0 rfl) ?_
    refine g_get S hI hP uX9 rfl (fs := _) (hb_t.lt 0 (by decide)) (hb_t.2 0 (by decide)) 0 (by decide) q345 rfl (v := .ref (ad (b + 1))) rfl dX9_append_12 ?_
    refine lv_aload_n hx hb dX9_append_15 rfl (lv_at hl 0 rfl) ?_
    refine g_get S hI hP uX9 rfl (fs := _) (hb_t.lt 0 (by decide)) (hb_t.2 0 (by decide)) 2 (by decide) q348 rfl (v := .int (nI (ln))) rfl dX9_append_16 ?_
    refine lv_iload_n hx hb dX9_append_19 rfl (lv_at hl 1 rfl) ?_
    refine g_castN S hI hP hS (f := bf) (x := ch) (hb_t.lt 1 (by decide)) (hb_t.2 1 (by decide)) (ln) (hc) (by decide) (hch) dX9_append_20 (fun H locs hP hS => ?_)
    have hP : gP E ad N (va_up _ (b + 1) (TPC E ad b (va_up bf ln ch) ln fa rw cl nm 1)) H := hP
    have hb1 : bkP N (va_up _ (b + 1) (TPC E ad b (va_up bf ln ch) ln fa rw cl nm 1)) b 2 (TPC E ad b (va_up bf ln ch) ln fa rw cl nm) := TP_setA0 hb_t _
    have hfr := hfr.up (p := b + 1) (e := TPC E ad b (va_up bf ln ch) ln fa rw cl nm 1) (by show _ ∧ _; omega)
    refine lv_aload_n hx hb dX9_append_21 rfl (lv_at hl 0 rfl) ?_
    refine lv_dup hx hb dX9_append_22 rfl ?_
    refine g_get S hI hP uX9 rfl (fs := _) (hb1.lt 0 (by decide)) (hb1.2 0 (by decide)) 2 (by decide) q348 rfl (v := .int (nI (ln))) rfl dX9_append_23 ?_
    refine g_iconst S 1 dX9_append_26 (by decide +kernel) ?_
    refine g_iadd S dX9_append_27 ?_
    refine g_put S hI hP hS uX9 rfl tyX9 tyX9_ok nmX9 (fs := _) (hb1.lt 0 (by decide)) (hb1.2 0 (by decide)) 2 (by decide) q348 rfl rfl (v := .int (nI (ln + 1))) rfl rfl (Nat.le_of_ble_eq_true rfl) dX9_append_28 (fun H locs hP hS => ?_)
    have hP : gP E ad N (va_up _ (b) (TPC E ad b (va_up bf ln ch) (ln + 1) fa rw cl nm 0)) H := hP
    have hb2 : bkP N (va_up _ (b) (TPC E ad b (va_up bf ln ch) (ln + 1) fa rw cl nm 0)) b 2 (TPC E ad b (va_up bf ln ch) (ln + 1) fa rw cl nm) := TP_setO hb1 _ _ _ _ _
    have hfr := hfr.up (p := b) (e := TPC E ad b (va_up bf ln ch) (ln + 1) fa rw cl nm 0) (by show _ ∧ _; omega)
    refine g_iconst S 1 dX9_append_31 (by decide +kernel) ?_
    exact g_zret S hr hlocks (Or.inr (by decide +kernel)) hP hS (⟨by rw [if_neg (show ¬ ln = 60 by omega)]; exact ⟨rfl, hb2⟩, hfr⟩) (fun _ _ => rfl) (Nat.le_of_ble_eq_true rfl) (Nat.le_of_ble_eq_true rfl) dX9_append_32
  · refine g_iconst S 0 dX9_append_9 (by decide +kernel) ?_
    exact g_zret S hr hlocks (Or.inl nI_0) hP hS (⟨by rw [if_pos (show ln = 60 by omega)]; exact ⟨rfl, hb_t⟩, hfr⟩) (fun _ _ => rfl) (Nat.le_of_ble_eq_true rfl) (Nat.le_of_ble_eq_true rfl) dX9_append_10
set_option maxHeartbeats 4000000 in
set_option maxRecDepth 100000 in
/-- the text is emptied -/
theorem mX9_empty (l : Launch) {E : gE} {ad : Nat → Nat} {N : Nat} {w : Nat → va_E} (b : Nat) (bf : Nat → Nat) (ln fa : Nat) (rw cl nm : Option Nat) (hb_t : bkP N w b 2 (TPC E ad b bf ln fa rw cl nm))  : gMv l yX9_empty (lw_ws yX9_empty cX9_empty 1 none) ({ frames := 0, cells := 0, slots := 0, locals := 0 } : Room) E ad N w [.ref (ad (b))] (fun w' => bkP N w' b 2 (TPC E ad b bf 0 fa rw cl nm) ∧ gFr (gIn b 2) w w') 0 0 := by
  refine Met.ofW (cc := cX9_empty) (maxL := 1) (ret := none) (by decide) rfl ?_
  intro p e s m args below meth cd s₁ B hml hv
  obtain ⟨rfl, hI, hP⟩ := hv
  obtain ⟨S, hr, hlocks⟩ := gPre (ws := []) B hml (C := RX9) rfl
  have hx := S.1
  have hb := S.2.1
  have hS : va_S (gA E) s.heap s.heap [] := va_S.rf
  have hfr : gFr (gIn b 2) w w := gFr.rf
  have hl := lv_entry ([.ref (ad (b))]) (n := 1) (Nat.le_of_ble_eq_true rfl)
  rw [lg_entry_eq]
  generalize (lg_sl ([.ref (ad (b))]) ++ List.replicate (1 - (lg_sl ([.ref (ad (b))])).length) Slot.unset).toArray = ls at hl ⊢
  have hl : lv_has ls 1 [(0, .ref (ad (b)))] := hl
  refine lv_aload_n hx hb dX9_empty_0 rfl (lv_at hl 0 rfl) ?_
  refine g_iconst S 0 dX9_empty_1 (by decide +kernel) ?_
  refine g_put S hI hP hS uX9 rfl tyX9 tyX9_ok nmX9 (fs := _) (hb_t.lt 0 (by decide)) (hb_t.2 0 (by decide)) 2 (by decide) q348 rfl rfl (v := .int (nI (0))) rfl rfl (Nat.le_of_ble_eq_true rfl) dX9_empty_2 (fun H locs hP hS => ?_)
  have hP : gP E ad N (va_up _ (b) (TPC E ad b bf 0 fa rw cl nm 0)) H := hP
  have hb1 : bkP N (va_up _ (b) (TPC E ad b bf 0 fa rw cl nm 0)) b 2 (TPC E ad b bf 0 fa rw cl nm) := TP_setO hb_t _ _ _ _ _
  have hfr := hfr.up (p := b) (e := TPC E ad b bf 0 fa rw cl nm 0) (by show _ ∧ _; omega)
  exact g_vret S hr hlocks hP hS (⟨hb1, hfr⟩) (fun _ _ => rfl) (Nat.le_of_ble_eq_true rfl) (Nat.le_of_ble_eq_true rfl) dX9_empty_5
set_option maxHeartbeats 4000000 in
set_option maxRecDepth 100000 in
/-- the digit at a place -/
theorem mX9_digitAt (l : Launch) {E : gE} {ad : Nat → Nat} {N : Nat} {w : Nat → va_E} (b : Nat) (bf : Nat → Nat) (ln fa : Nat) (rw cl nm : Option Nat) (q : Nat) (hb_t : bkP N w b 2 (TPC E ad b bf ln fa rw cl nm)) (hln : ln ≤ 60) (hbf : ∀ k, k < 60 → bf k < 65536) (hq : q < 2 ^ 31) : gMi l yX9_digitAt (lw_ws yX9_digitAt cX9_digitAt 2 (some .int)) ({ frames := 0, cells := 0, slots := 0, locals := 0 } : Room) E ad N w [.ref (ad (b)), .int (nI (q))] (fun r w' => r = oI (dgt ln bf q) ∧ w' = w) 0 0 := by
  refine Met.ofW (cc := cX9_digitAt) (maxL := 2) (ret := (some .int)) (by decide) rfl ?_
  intro p e s m args below meth cd s₁ B hml hv
  obtain ⟨rfl, hI, hP⟩ := hv
  obtain ⟨S, hr, hlocks⟩ := gPre (ws := []) B hml (C := RX9) rfl
  have hx := S.1
  have hb := S.2.1
  have hS : va_S (gA E) s.heap s.heap [] := va_S.rf
  have hl := lv_entry ([.ref (ad (b)), .int (nI (q))]) (n := 2) (Nat.le_of_ble_eq_true rfl)
  rw [lg_entry_eq]
  generalize (lg_sl ([.ref (ad (b)), .int (nI (q))]) ++ List.replicate (2 - (lg_sl ([.ref (ad (b)), .int (nI (q))])).length) Slot.unset).toArray = ls at hl ⊢
  have hl : lv_has ls 2 [(0, .ref (ad (b))), (1, .int (nI (q)))] := hl
  refine lv_iload_n hx hb dX9_digitAt_0 rfl (lv_at hl 1 rfl) ?_
  refine g_iflt S (a := q) (by omega) (tgt := 34) dX9_digitAt_1 (by decide) ?_
  refine lv_iload_n hx hb dX9_digitAt_4 rfl (lv_at hl 1 rfl) ?_
  refine lv_aload_n hx hb dX9_digitAt_5 rfl (lv_at hl 0 rfl) ?_
  refine g_get S hI hP uX9 rfl (fs := _) (hb_t.lt 0 (by decide)) (hb_t.2 0 (by decide)) 2 (by decide) q348 rfl (v := .int (nI (ln))) rfl dX9_digitAt_6 ?_
  refine g_ge S (a := q) (b := ln) (by omega) (by omega) (tgt := 34) dX9_digitAt_9 (by decide) (fun hc => ?_) (fun hc => ?_)
  · refine lv_iconst (v := -1) hx hb dX9_digitAt_34 (by decide +kernel) ?_
    exact g_iret S hr hlocks hP hS (⟨by rw [show dgt ln bf q = none from if_neg (by omega)]; rfl, rfl⟩) (fun _ _ => rfl) (Nat.le_of_ble_eq_true rfl) (Nat.le_of_ble_eq_true rfl) dX9_digitAt_35
  · refine lv_aload_n hx hb dX9_digitAt_12 rfl (lv_at hl 0 rfl) ?_
    refine g_get S hI hP uX9 rfl (fs := _) (hb_t.lt 0 (by decide)) (hb_t.2 0 (by decide)) 0 (by decide) q345 rfl (v := .ref (ad (b + 1))) rfl dX9_digitAt_13 ?_
    refine lv_iload_n hx hb dX9_digitAt_16 rfl (lv_at hl 1 rfl) ?_
    have hbq := hbf q (by omega)
    refine g_cald S hI hP (f := fun j => nI (bf j)) (hb_t.lt 1 (by decide)) (hb_t.2 1 (by decide)) (q) (by omega) (by decide) dX9_digitAt_17 ?_
    refine g_bipush S 48 dX9_digitAt_18 (by decide +kernel) ?_
    refine g_lt S (a := bf q) (b := 48) (by omega) (by omega) (tgt := 34) dX9_digitAt_20 (by decide) (fun hc2 => ?_) (fun hc2 => ?_)
    · refine lv_iconst (v := -1) hx hb dX9_digitAt_34 (by decide +kernel) ?_
      exact g_iret S hr hlocks hP hS (⟨by rw [show dgt ln bf q = none from if_neg (by omega)]; rfl, rfl⟩) (fun _ _ => rfl) (Nat.le_of_ble_eq_true rfl) (Nat.le_of_ble_eq_true rfl) dX9_digitAt_35
    · refine lv_aload_n hx hb dX9_digitAt_23 rfl (lv_at hl 0 rfl) ?_
      refine g_get S hI hP uX9 rfl (fs := _) (hb_t.lt 0 (by decide)) (hb_t.2 0 (by decide)) 0 (by decide) q345 rfl (v := .ref (ad (b + 1))) rfl dX9_digitAt_24 ?_
      refine lv_iload_n hx hb dX9_digitAt_27 rfl (lv_at hl 1 rfl) ?_
      refine g_cald S hI hP (f := fun j => nI (bf j)) (hb_t.lt 1 (by decide)) (hb_t.2 1 (by decide)) (q) (by omega) (by decide) dX9_digitAt_28 ?_
      refine g_bipush S 57 dX9_digitAt_29 (by decide +kernel) ?_
      refine g_le S (a := bf q) (b := 57) (by omega) (by omega) (tgt := 36) dX9_digitAt_31 (by decide) (fun hc3 => ?_) (fun hc3 => ?_)
      · refine lv_aload_n hx hb dX9_digitAt_36 rfl (lv_at hl 0 rfl) ?_
        refine g_get S hI hP uX9 rfl (fs := _) (hb_t.lt 0 (by decide)) (hb_t.2 0 (by decide)) 0 (by decide) q345 rfl (v := .ref (ad (b + 1))) rfl dX9_digitAt_37 ?_
        refine lv_iload_n hx hb dX9_digitAt_40 rfl (lv_at hl 1 rfl) ?_
        refine g_cald S hI hP (f := fun j => nI (bf j)) (hb_t.lt 1 (by decide)) (hb_t.2 1 (by decide)) (q) (by omega) (by decide) dX9_digitAt_41 ?_
        refine g_bipush S 48 dX9_digitAt_42 (by decide +kernel) ?_
        refine g_isub S (by omega) dX9_digitAt_44 ?_
        exact g_iret S hr hlocks hP hS (⟨by rw [show dgt ln bf q = some (bf q - 48) from if_pos (by omega)]; rfl, rfl⟩) (fun _ _ => rfl) (Nat.le_of_ble_eq_true rfl) (Nat.le_of_ble_eq_true rfl) dX9_digitAt_45
      · refine lv_iconst (v := -1) hx hb dX9_digitAt_34 (by decide +kernel) ?_
        exact g_iret S hr hlocks hP hS (⟨by rw [show dgt ln bf q = none from if_neg (by omega)]; rfl, rfl⟩) (fun _ _ => rfl) (Nat.le_of_ble_eq_true rfl) (Nat.le_of_ble_eq_true rfl) dX9_digitAt_35
set_option maxHeartbeats 4000000 in
set_option maxRecDepth 100000 in
/-- a number of one digit or two -/
theorem mX9_readNumber (l : Launch) {E : gE} {ad : Nat → Nat} {N : Nat} {w : Nat → va_E} (b : Nat) (bf : Nat → Nat) (ln fa : Nat) (rw cl nm : Option Nat) (q : Nat) (hb_t : bkP N w b 2 (TPC E ad b bf ln fa rw cl nm)) (hln : ln ≤ 60) (hbf : ∀ k, k < 60 → bf k < 65536) (hq : q + 1 < 2 ^ 31) : gMi l yX9_readNumber (lw_ws yX9_readNumber cX9_readNumber 4 (some .int)) ({ frames := 1, cells := 0, slots := 0, locals := 21 } : Room) E ad N w [.ref (ad (b)), .int (nI (q))] (fun r w' => r = nI (rdN ln bf q nm).1 ∧ bkP N w' b 2 (TPC E ad b bf ln fa rw cl (rdN ln bf q nm).2) ∧ gFr (gIn b 2) w w') 0 0 := by
  refine Met.ofW (cc := cX9_readNumber) (maxL := 4) (ret := (some .int)) (by decide) rfl ?_
  intro p e s m args below meth cd s₁ B hml hv
  obtain ⟨rfl, hI, hP⟩ := hv
  obtain ⟨S, hr, hlocks⟩ := gPre (ws := []) B hml (C := RX9) rfl
  have hx := S.1
  have hb := S.2.1
  have hS : va_S (gA E) s.heap s.heap [] := va_S.rf
  have hfr : gFr (gIn b 2) w w := gFr.rf
  have hl := lv_entry ([.ref (ad (b)), .int (nI (q))]) (n := 4) (Nat.le_of_ble_eq_true rfl)
  rw [lg_entry_eq]
  generalize (lg_sl ([.ref (ad (b)), .int (nI (q))]) ++ List.replicate (4 - (lg_sl ([.ref (ad (b)), .int (nI (q))])).length) Slot.unset).toArray = ls at hl ⊢
  have hl : lv_has ls 4 [(0, .ref (ad (b))), (1, .int (nI (q)))] := hl
  refine lv_aload_n hx hb dX9_readNumber_0 rfl (lv_at hl 0 rfl) ?_
  refine lv_iload_n hx hb dX9_readNumber_1 rfl (lv_at hl 1 rfl) ?_
  refine g_roi (g_runV S hI hP hS (k := 1) (As := [.int (nI (q))]) (rest := []) (mX9_digitAt l b bf ln fa rw cl nm q hb_t hln hbf (by omega)) q1337 q1339 q40 q92 q1340 rfl rfl (by decide +kernel) ⟨Nat.le_of_ble_eq_true rfl, Nat.le_of_ble_eq_true rfl⟩ rfl (hb_t.lt 0 (by decide)) (hb_t.2 0 (by decide)) rfl hl.1 rfl (Nat.le_of_ble_eq_true rfl) ⟨(Nat.le_of_ble_eq_true rfl), (Nat.le_of_ble_eq_true rfl)⟩ dX9_readNumber_2) hS (fun H locs hP hS => ?_)
  refine lv_istore_n (lv' := [(2, .int (oI (dgt ln bf q))), (0, .ref (ad (b))), (1, .int (nI (q)))]) hx hb dX9_readNumber_5 rfl hl (by decide) rfl (fun ls hl => ?_)
  refine lv_iload_n hx hb dX9_readNumber_6 rfl (lv_at hl 0 rfl) ?_
  refine lv_iconst (v := -1) hx hb dX9_readNumber_7 (by decide +kernel) ?_
  refine g_one S (o := dgt ln bf q) (dgt_31) (tgt := 13) dX9_readNumber_8 (by decide) (fun hn_k hn => ?_) (fun hn => ?_)
  · obtain ⟨k9, kln⟩ := dgt_lt hn
    have hl : lv_has ls 4 [(2, .int (nI (hn_k))), (0, .ref (ad (b))), (1, .int (nI (q)))] := by rw [hn] at hl; exact hl
    refine lv_aload_n hx hb dX9_readNumber_13 rfl (lv_at hl 1 rfl) ?_
    refine lv_iload_n hx hb dX9_readNumber_14 rfl (lv_at hl 2 rfl) ?_
    refine g_iconst S 1 dX9_readNumber_15 (by decide +kernel) ?_
    refine g_iadd S dX9_readNumber_16 ?_
    refine g_roi (g_runV S hI hP hS (k := 1) (As := [.int (nI (q + 1))]) (rest := []) (mX9_digitAt l b bf ln fa rw cl nm (q + 1) hb_t hln hbf (by omega)) q1337 q1339 q40 q92 q1340 rfl rfl (by decide +kernel) ⟨Nat.le_of_ble_eq_true rfl, Nat.le_of_ble_eq_true rfl⟩ rfl (hb_t.lt 0 (by decide)) (hb_t.2 0 (by decide)) rfl hl.1 rfl (Nat.le_of_ble_eq_true rfl) ⟨(Nat.le_of_ble_eq_true rfl), (Nat.le_of_ble_eq_true rfl)⟩ dX9_readNumber_17) hS (fun H locs hP hS => ?_)
    refine lv_istore_n (lv' := [(3, .int (oI (dgt ln bf (q + 1)))), (2, .int (nI (hn_k))), (0, .ref (ad (b))), (1, .int (nI (q)))]) hx hb dX9_readNumber_20 rfl hl (by decide) rfl (fun ls hl => ?_)
    refine lv_iload_n hx hb dX9_readNumber_21 rfl (lv_at hl 0 rfl) ?_
    refine lv_iconst (v := -1) hx hb dX9_readNumber_22 (by decide +kernel) ?_
    refine g_one S (o := dgt ln bf (q + 1)) (dgt_31) (tgt := 33) dX9_readNumber_23 (by decide) (fun hn2_k hn2 => ?_) (fun hn2 => ?_)
    · obtain ⟨k92, kln2⟩ := dgt_lt hn2
      have hl : lv_has ls 4 [(3, .int (nI (hn2_k))), (2, .int (nI (hn_k))), (0, .ref (ad (b))), (1, .int (nI (q)))] := by rw [hn2] at hl; exact hl
      have hE : rdN ln bf q nm = (2, some (10 * hn_k + hn2_k)) := by unfold rdN; rw [hn]; dsimp only; rw [hn2]
      refine lv_aload_n hx hb dX9_readNumber_33 rfl (lv_at hl 2 rfl) ?_
      refine g_bipush S 10 dX9_readNumber_34 (by decide +kernel) ?_
      refine lv_iload_n hx hb dX9_readNumber_36 rfl (lv_at hl 1 rfl) ?_
      refine g_imul S dX9_readNumber_37 ?_
      refine lv_iload_n hx hb dX9_readNumber_38 rfl (lv_at hl 0 rfl) ?_
      refine g_iadd S dX9_readNumber_39 ?_
      refine g_put S hI hP hS uX9 rfl tyX9 tyX9_ok nmX9 (fs := _) (hb_t.lt 0 (by decide)) (hb_t.2 0 (by decide)) 6 (by decide) q353 rfl rfl (v := .int (nI (10 * hn_k + hn2_k))) rfl rfl (Nat.le_of_ble_eq_true rfl) dX9_readNumber_40 (fun H locs hP hS => ?_)
      have hP : gP E ad N (va_up _ (b) (TPC E ad b bf ln fa rw cl (some (10 * hn_k + hn2_k)) 0)) H := hP
      have hb1 : bkP N (va_up _ (b) (TPC E ad b bf ln fa rw cl (some (10 * hn_k + hn2_k)) 0)) b 2 (TPC E ad b bf ln fa rw cl (some (10 * hn_k + hn2_k))) := TP_setO hb_t _ _ _ _ _
      have hfr := hfr.up (p := b) (e := TPC E ad b bf ln fa rw cl (some (10 * hn_k + hn2_k)) 0) (by show _ ∧ _; omega)
      refine g_iconst S 2 dX9_readNumber_43 (by decide +kernel) ?_
      exact g_iret S hr hlocks hP hS (by rw [hE]; exact ⟨rfl, hb1, hfr⟩) (fun _ _ => rfl) (Nat.le_of_ble_eq_true rfl) (Nat.le_of_ble_eq_true rfl) dX9_readNumber_44
    · have hE : rdN ln bf q nm = (1, some hn_k) := by unfold rdN; rw [hn]; dsimp only; rw [hn2]
      refine lv_aload_n hx hb dX9_readNumber_26 rfl (lv_at hl 2 rfl) ?_
      refine lv_iload_n hx hb dX9_readNumber_27 rfl (lv_at hl 1 rfl) ?_
      refine g_put S hI hP hS uX9 rfl tyX9 tyX9_ok nmX9 (fs := _) (hb_t.lt 0 (by decide)) (hb_t.2 0 (by decide)) 6 (by decide) q353 rfl rfl (v := .int (nI (hn_k))) rfl rfl (Nat.le_of_ble_eq_true rfl) dX9_readNumber_28 (fun H locs hP hS => ?_)
      have hP : gP E ad N (va_up _ (b) (TPC E ad b bf ln fa rw cl (some hn_k) 0)) H := hP
      have hb2 : bkP N (va_up _ (b) (TPC E ad b bf ln fa rw cl (some hn_k) 0)) b 2 (TPC E ad b bf ln fa rw cl (some hn_k)) := TP_setO hb_t _ _ _ _ _
      have hfr := hfr.up (p := b) (e := TPC E ad b bf ln fa rw cl (some hn_k) 0) (by show _ ∧ _; omega)
      refine g_iconst S 1 dX9_readNumber_31 (by decide +kernel) ?_
      exact g_iret S hr hlocks hP hS (by rw [hE]; exact ⟨rfl, hb2, hfr⟩) (fun _ _ => rfl) (Nat.le_of_ble_eq_true rfl) (Nat.le_of_ble_eq_true rfl) dX9_readNumber_32
  · have hE : rdN ln bf q nm = (0, nm) := by unfold rdN; rw [hn]
    refine g_iconst S 0 dX9_readNumber_11 (by decide +kernel) ?_
    exact g_iret S hr hlocks hP hS (by rw [hE]; exact ⟨rfl, hb_t, hfr⟩) (fun _ _ => rfl) (Nat.le_of_ble_eq_true rfl) (Nat.le_of_ble_eq_true rfl) dX9_readNumber_12
set_option maxHeartbeats 4000000 in
set_option maxRecDepth 100000 in
/-- a sign of a form is read -/
theorem mX9_readSign (l : Launch) {E : gE} {ad : Nat → Nat} {N : Nat} {w : Nat → va_E} (b : Nat) (bf : Nat → Nat) (ln fa : Nat) (rw cl nm : Option Nat) (ch q : Nat) (hb_t : bkP N w b 2 (TPC E ad b bf ln fa rw cl nm)) (hln : ln ≤ 60) (hbf : ∀ k, k < 60 → bf k < 65536) (hch : ch < 65536) (hq : q + 1 < 2 ^ 31) : gMi l yX9_readSign (lw_ws yX9_readSign cX9_readSign 4 (some .int)) ({ frames := 2, cells := 0, slots := 0, locals := 44 } : Room) E ad N w [.ref (ad (b)), .int (nI (ch)), .int (nI (q))] (fun r w' => r = nI (rdS ln bf ch q (rw, cl, nm)).1 ∧ bkP N w' b 2 (TPC E ad b bf ln fa (rdS ln bf ch q (rw, cl, nm)).2.1 (rdS ln bf ch q (rw, cl, nm)).2.2.1 (rdS ln bf ch q (rw, cl, nm)).2.2.2) ∧ gFr (gIn b 2) w w') 0 0 := by
  refine Met.ofW (cc := cX9_readSign) (maxL := 4) (ret := (some .int)) (by decide) rfl ?_
  intro p e s m args below meth cd s₁ B hml hv
  obtain ⟨rfl, hI, hP⟩ := hv
  obtain ⟨S, hr, hlocks⟩ := gPre (ws := []) B hml (C := RX9) rfl
  have hx := S.1
  have hb := S.2.1
  have hS : va_S (gA E) s.heap s.heap [] := va_S.rf
  have hfr : gFr (gIn b 2) w w := gFr.rf
  have hl := lv_entry ([.ref (ad (b)), .int (nI (ch)), .int (nI (q))]) (n := 4) (Nat.le_of_ble_eq_true rfl)
  rw [lg_entry_eq]
  generalize (lg_sl ([.ref (ad (b)), .int (nI (ch)), .int (nI (q))]) ++ List.replicate (4 - (lg_sl ([.ref (ad (b)), .int (nI (ch)), .int (nI (q))])).length) Slot.unset).toArray = ls at hl ⊢
  have hl : lv_has ls 4 [(0, .ref (ad (b))), (1, .int (nI (ch))), (2, .int (nI (q)))] := hl
  refine lv_aload_n hx hb dX9_readSign_0 rfl (lv_at hl 0 rfl) ?_
  refine lv_iload_n hx hb dX9_readSign_1 rfl (lv_at hl 2 rfl) ?_
  refine g_roi (g_runV S hI hP hS (k := 1) (As := [.int (nI (q))]) (rest := []) (mX9_digitAt l b bf ln fa rw cl nm q hb_t hln hbf (by omega)) q1337 q1339 q40 q92 q1340 rfl rfl (by decide +kernel) ⟨Nat.le_of_ble_eq_true rfl, Nat.le_of_ble_eq_true rfl⟩ rfl (hb_t.lt 0 (by decide)) (hb_t.2 0 (by decide)) rfl hl.1 rfl (Nat.le_of_ble_eq_true rfl) ⟨(Nat.le_of_ble_eq_true rfl), (Nat.le_of_ble_eq_true rfl)⟩ dX9_readSign_2) hS (fun H locs hP hS => ?_)
  refine lv_istore_n (lv' := [(3, .int (oI (dgt ln bf q))), (0, .ref (ad (b))), (1, .int (nI (ch))), (2, .int (nI (q)))]) hx hb dX9_readSign_5 rfl hl (by decide) rfl (fun ls hl => ?_)
  refine lv_iload_n hx hb dX9_readSign_6 rfl (lv_at hl 2 rfl) ?_
  refine g_look4 S (a1 := 67) (a2 := 73) (a3 := 78) (a4 := 82) (ci := ch) (t1 := 64) (t2 := 80) (t3 := 96) (t4 := 48) (td := 102) (by omega) dX9_readSign_7 (by decide) (by decide) (by decide) (by decide) (by decide) (by decide) (by decide) (by decide) (fun hc => ?_) (fun hc => ?_) (fun hc => ?_) (fun hc => ?_) (fun n1 n2 n3 n4 => ?_)
  · have hE : rdS ln bf ch q (rw, cl, nm) = (wdO (dgt ln bf q), (rw, dgt ln bf q, nm)) := by subst hc; rfl
    refine lv_aload_n hx hb dX9_readSign_64 rfl (lv_at hl 1 rfl) ?_
    refine lv_iload_n hx hb dX9_readSign_65 rfl (lv_at hl 0 rfl) ?_
    refine g_put S hI hP hS uX9 rfl tyX9 tyX9_ok nmX9 (fs := _) (hb_t.lt 0 (by decide)) (hb_t.2 0 (by decide)) 5 (by decide) q352 rfl rfl (v := .int (oI (dgt ln bf q))) rfl rfl (Nat.le_of_ble_eq_true rfl) dX9_readSign_66 (fun H locs hP hS => ?_)
    have hP : gP E ad N (va_up _ (b) (TPC E ad b bf ln fa rw (dgt ln bf q) nm 0)) H := hP
    have hb1 : bkP N (va_up _ (b) (TPC E ad b bf ln fa rw (dgt ln bf q) nm 0)) b 2 (TPC E ad b bf ln fa rw (dgt ln bf q) nm) := TP_setO hb_t _ _ _ _ _
    have hfr := hfr.up (p := b) (e := TPC E ad b bf ln fa rw (dgt ln bf q) nm 0) (by show _ ∧ _; omega)
    refine lv_iload_n hx hb dX9_readSign_69 rfl (lv_at hl 0 rfl) ?_
    refine lv_iconst (v := -1) hx hb dX9_readSign_70 (by decide +kernel) ?_
    refine g_one S (o := dgt ln bf q) (dgt_31) (tgt := 78) dX9_readSign_71 (by decide) (fun hn_k hn => ?_) (fun hn => ?_)
    · refine g_iconst S 1 dX9_readSign_78 (by decide +kernel) ?_
      exact g_iret S hr hlocks hP hS (by rw [hE]; refine ⟨?_, hb1, hfr⟩; rw [hn]; rfl) (fun _ _ => rfl) (Nat.le_of_ble_eq_true rfl) (Nat.le_of_ble_eq_true rfl) dX9_readSign_79
    · refine g_iconst S 0 dX9_readSign_74 (by decide +kernel) ?_
      refine lv_goto (tgt := 79) hx hb dX9_readSign_75 (by decide) ?_
      exact g_iret S hr hlocks hP hS (by rw [hE]; refine ⟨?_, hb1, hfr⟩; rw [hn]; rfl) (fun _ _ => rfl) (Nat.le_of_ble_eq_true rfl) (Nat.le_of_ble_eq_true rfl) dX9_readSign_79
  · have hE : rdS ln bf ch q (rw, cl, nm) = (wdO (dgt ln bf q), (rw, cl, dgt ln bf q)) := by subst hc; rfl
    refine lv_aload_n hx hb dX9_readSign_80 rfl (lv_at hl 1 rfl) ?_
    refine lv_iload_n hx hb dX9_readSign_81 rfl (lv_at hl 0 rfl) ?_
    refine g_put S hI hP hS uX9 rfl tyX9 tyX9_ok nmX9 (fs := _) (hb_t.lt 0 (by decide)) (hb_t.2 0 (by decide)) 6 (by decide) q353 rfl rfl (v := .int (oI (dgt ln bf q))) rfl rfl (Nat.le_of_ble_eq_true rfl) dX9_readSign_82 (fun H locs hP hS => ?_)
    have hP : gP E ad N (va_up _ (b) (TPC E ad b bf ln fa rw cl (dgt ln bf q) 0)) H := hP
    have hb2 : bkP N (va_up _ (b) (TPC E ad b bf ln fa rw cl (dgt ln bf q) 0)) b 2 (TPC E ad b bf ln fa rw cl (dgt ln bf q)) := TP_setO hb_t _ _ _ _ _
    have hfr := hfr.up (p := b) (e := TPC E ad b bf ln fa rw cl (dgt ln bf q) 0) (by show _ ∧ _; omega)
    refine lv_iload_n hx hb dX9_readSign_85 rfl (lv_at hl 0 rfl) ?_
    refine lv_iconst (v := -1) hx hb dX9_readSign_86 (by decide +kernel) ?_
    refine g_one S (o := dgt ln bf q) (dgt_31) (tgt := 94) dX9_readSign_87 (by decide) (fun hn_k hn => ?_) (fun hn => ?_)
    · refine g_iconst S 1 dX9_readSign_94 (by decide +kernel) ?_
      exact g_iret S hr hlocks hP hS (by rw [hE]; refine ⟨?_, hb2, hfr⟩; rw [hn]; rfl) (fun _ _ => rfl) (Nat.le_of_ble_eq_true rfl) (Nat.le_of_ble_eq_true rfl) dX9_readSign_95
    · refine g_iconst S 0 dX9_readSign_90 (by decide +kernel) ?_
      refine lv_goto (tgt := 95) hx hb dX9_readSign_91 (by decide) ?_
      exact g_iret S hr hlocks hP hS (by rw [hE]; refine ⟨?_, hb2, hfr⟩; rw [hn]; rfl) (fun _ _ => rfl) (Nat.le_of_ble_eq_true rfl) (Nat.le_of_ble_eq_true rfl) dX9_readSign_95
  · have hE : rdS ln bf ch q (rw, cl, nm) = ((rdN ln bf q nm).1, (rw, cl, (rdN ln bf q nm).2)) := by subst hc; rfl
    refine lv_aload_n hx hb dX9_readSign_96 rfl (lv_at hl 1 rfl) ?_
    refine lv_iload_n hx hb dX9_readSign_97 rfl (lv_at hl 3 rfl) ?_
    refine g_afi (g_runV S hI hP hS (k := 1) (As := [.int (nI (q))]) (rest := []) (mX9_readNumber l b bf ln fa rw cl nm q hb_t hln hbf hq) q1341 q1343 q41 q92 q1344 rfl rfl (by decide +kernel) ⟨Nat.le_of_ble_eq_true rfl, Nat.le_of_ble_eq_true rfl⟩ rfl (hb_t.lt 0 (by decide)) (hb_t.2 0 (by decide)) rfl hl.1 rfl (Nat.le_of_ble_eq_true rfl) ⟨(Nat.le_of_ble_eq_true rfl), (Nat.le_of_ble_eq_true rfl)⟩ dX9_readSign_98) hS (fun rz w1 H locs hq hP hS => ?_)
    obtain ⟨hr5, hb3, hf4⟩ := hq
    rw [hr5]
    have hfr := hfr.trans hf4 (fun q hq => by (try simp only [gIn] at hq ⊢); (try dsimp only at hq ⊢); omega)
    exact g_iret S hr hlocks hP hS (by rw [hE]; exact ⟨rfl, hb3, hfr⟩) (fun _ _ => rfl) (Nat.le_of_ble_eq_true rfl) (Nat.le_of_ble_eq_true rfl) dX9_readSign_101
  · have hE : rdS ln bf ch q (rw, cl, nm) = (wdO (dgt ln bf q), (dgt ln bf q, cl, nm)) := by subst hc; rfl
    refine lv_aload_n hx hb dX9_readSign_48 rfl (lv_at hl 1 rfl) ?_
    refine lv_iload_n hx hb dX9_readSign_49 rfl (lv_at hl 0 rfl) ?_
    refine g_put S hI hP hS uX9 rfl tyX9 tyX9_ok nmX9 (fs := _) (hb_t.lt 0 (by decide)) (hb_t.2 0 (by decide)) 4 (by decide) q351 rfl rfl (v := .int (oI (dgt ln bf q))) rfl rfl (Nat.le_of_ble_eq_true rfl) dX9_readSign_50 (fun H locs hP hS => ?_)
    have hP : gP E ad N (va_up _ (b) (TPC E ad b bf ln fa (dgt ln bf q) cl nm 0)) H := hP
    have hb6 : bkP N (va_up _ (b) (TPC E ad b bf ln fa (dgt ln bf q) cl nm 0)) b 2 (TPC E ad b bf ln fa (dgt ln bf q) cl nm) := TP_setO hb_t _ _ _ _ _
    have hfr := hfr.up (p := b) (e := TPC E ad b bf ln fa (dgt ln bf q) cl nm 0) (by show _ ∧ _; omega)
    refine lv_iload_n hx hb dX9_readSign_53 rfl (lv_at hl 0 rfl) ?_
    refine lv_iconst (v := -1) hx hb dX9_readSign_54 (by decide +kernel) ?_
    refine g_one S (o := dgt ln bf q) (dgt_31) (tgt := 62) dX9_readSign_55 (by decide) (fun hn_k hn => ?_) (fun hn => ?_)
    · refine g_iconst S 1 dX9_readSign_62 (by decide +kernel) ?_
      exact g_iret S hr hlocks hP hS (by rw [hE]; refine ⟨?_, hb6, hfr⟩; rw [hn]; rfl) (fun _ _ => rfl) (Nat.le_of_ble_eq_true rfl) (Nat.le_of_ble_eq_true rfl) dX9_readSign_63
    · refine g_iconst S 0 dX9_readSign_58 (by decide +kernel) ?_
      refine lv_goto (tgt := 63) hx hb dX9_readSign_59 (by decide) ?_
      exact g_iret S hr hlocks hP hS (by rw [hE]; refine ⟨?_, hb6, hfr⟩; rw [hn]; rfl) (fun _ _ => rfl) (Nat.le_of_ble_eq_true rfl) (Nat.le_of_ble_eq_true rfl) dX9_readSign_63
  · have hE : rdS ln bf ch q (rw, cl, nm) = (if q < ln ∧ bf q = ch then 1 else 0, (rw, cl, nm)) := by unfold rdS; rw [if_neg n1, if_neg n2, if_neg n3, if_neg n4]
    refine lv_iload_n hx hb dX9_readSign_102 rfl (lv_at hl 3 rfl) ?_
    refine lv_aload_n hx hb dX9_readSign_103 rfl (lv_at hl 1 rfl) ?_
    refine g_get S hI hP uX9 rfl (fs := _) (hb_t.lt 0 (by decide)) (hb_t.2 0 (by decide)) 2 (by decide) q348 rfl (v := .int (nI (ln))) rfl dX9_readSign_104 ?_
    refine g_ge S (a := q) (b := ln) (by omega) (by omega) (tgt := 124) dX9_readSign_107 (by decide) (fun hc => ?_) (fun hc => ?_)
    · refine g_iconst S 0 dX9_readSign_124 (by decide +kernel) ?_
      exact g_iret S hr hlocks hP hS (by rw [hE, if_neg (by omega)]; exact ⟨rfl, hb_t, hfr⟩) (fun _ _ => rfl) (Nat.le_of_ble_eq_true rfl) (Nat.le_of_ble_eq_true rfl) dX9_readSign_125
    · refine lv_aload_n hx hb dX9_readSign_110 rfl (lv_at hl 1 rfl) ?_
      refine g_get S hI hP uX9 rfl (fs := _) (hb_t.lt 0 (by decide)) (hb_t.2 0 (by decide)) 0 (by decide) q345 rfl (v := .ref (ad (b + 1))) rfl dX9_readSign_111 ?_
      refine lv_iload_n hx hb dX9_readSign_114 rfl (lv_at hl 3 rfl) ?_
      have hbq := hbf q (by omega)
      refine g_cald S hI hP (f := fun j => nI (bf j)) (hb_t.lt 1 (by decide)) (hb_t.2 1 (by decide)) (q) (by omega) (by decide) dX9_readSign_115 ?_
      refine lv_iload_n hx hb dX9_readSign_116 rfl (lv_at hl 2 rfl) ?_
      refine g_ne S (a := bf q) (b := ch) (by omega) (by omega) (tgt := 124) dX9_readSign_117 (by decide) (fun hc2 => ?_) (fun hc2 => ?_)
      · refine g_iconst S 0 dX9_readSign_124 (by decide +kernel) ?_
        exact g_iret S hr hlocks hP hS (by rw [hE, if_neg (by omega)]; exact ⟨rfl, hb_t, hfr⟩) (fun _ _ => rfl) (Nat.le_of_ble_eq_true rfl) (Nat.le_of_ble_eq_true rfl) dX9_readSign_125
      · refine g_iconst S 1 dX9_readSign_120 (by decide +kernel) ?_
        refine lv_goto (tgt := 125) hx hb dX9_readSign_121 (by decide) ?_
        exact g_iret S hr hlocks hP hS (by rw [hE, if_pos (by omega)]; exact ⟨rfl, hb_t, hfr⟩) (fun _ _ => rfl) (Nat.le_of_ble_eq_true rfl) (Nat.le_of_ble_eq_true rfl) dX9_readSign_125
