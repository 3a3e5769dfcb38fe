/-! CONSTRUCTORS: an object at the last place, its own cells behind it -/
section GCON
variable {p : Program} {l : Launch} {e : Env} {R : Room} {s : State} {m : MethodId} {args : Array Value} {below : List Frame} {meth : Method} {c : Code} {H : Heap} {locs : List Loc} {cells slots : Nat} {Q : State → Prop}
variable {cc : ByteArray} {pc nL : Nat} {ls : Array Slot} {rest st0 : List Value} {own : String} {E : gE} {ad : Nat → Nat} {N : Nat} {w : Nat → va_E}
theorem g_runIN (S : gFix p m c cc nL s args own) (hI : gI E s s.heap) (hP : gP E ad N w H) (hS : va_S (gA E) s.heap H locs) {y : MethodName} {bytes : ByteArray} {maxL index mc ms k b : Nat} {rm : Room} {host : String} {As : List Value} {Qc : Array Value → State → Outcome → State → Prop}
    (hM : Met l y (lw_ws y bytes maxL none) rm (gPc E ad N w (.ref (ad b) :: As)) Qc mc ms (gA E)) (q1 : Cond.methodLinkNest own index y host ∈ lw_nest) (q2 : Cond.instanceMethod y ∈ lw_all) (q4 : Cond.initialized y.cls ∈ lw_all) (q5 : Cond.code y bytes maxL none ∈ lw_all) (hrc : rm.cells = mc) (hrs : rm.slots = ms) (hy1 : y.name = "<init>")
    (hd : y.cls ≠ "java/lang/invoke/MethodHandle" ∧ y.cls ≠ "java/lang/invoke/VarHandle" ∧ (parseMethodDescriptor y.desc).map (fun d => d.parameters.length) = some k) (hR : rm.frames + 1 ≤ R.frames ∧ 8 + (maxL + 11) + rm.locals ≤ R.locals)
    (hn : As.length = k) (hsize : ls.size = nL) (hst : st0 = As.reverse ++ .ref (ad b) :: rest) (hW : (rest.map fun v => v.category).sum ≤ 8) (hf : cells + mc ≤ R.cells ∧ slots + ms ≤ R.slots) (hdg : decode cc pc = .ok (.invokespecial index, 3)) :
    va_Run p l e R s m args below meth c H locs cells slots mc ms (F0 m pc ls st0) rest (Qc (Value.ref (ad b) :: As).toArray) (gA E) :=
  va_runIN (As := As) (rest := rest) S hM ⟨va_cnB k S.2.2.2.2 (lw_goodIn q5) rfl hrc hrs (hI.2.1 _ q1) (S.2.2.2.2 _ q4) hd hR, hy1, S.2.2.2.2 _ q2⟩ (g_preS hI hP hS) rfl hn hsize hst (lv_room hW) hdg hf
end GCON
set_option maxHeartbeats 4000000 in
set_option maxRecDepth 100000 in
/-- a queue is made -/
theorem mX1_init (l : Launch) {E : gE} {ad : Nat → Nat} {w : Nat → va_E} (q : Nat)  (he : w q = .inr (5, [.null, .null]))  : gUv l yX1_init (lw_ws yX1_init cX1_init 1 none) ({ frames := 1, cells := 2, slots := 72, locals := 20 } : Room) E ad (q + 1) w [.ref (ad (q))] (fun ad' N' w' => N' = q + 3 ∧ (∀ p, p < q + 1 → ad' p = ad p) ∧ (∀ p, p < q → w' p = w p) ∧ bkP N' w' q 3 (CQC E ad' q (fun _ => 0) (fun _ => 0))) 2 72 := by
  refine Met.ofW (cc := cX1_init) (maxL := 1) (ret := none) (by decide) rfl ?_
  intro p e s m args below meth cd s₁ B hml hv
  obtain ⟨rfl, hI, hP⟩ := hv
  obtain ⟨S, hr, hlocks⟩ := gPre (ws := []) B hml (C := RX1) rfl
  have hx := S.1
  have hb := S.2.1
  have hS : va_S (gA E) s.heap s.heap [] := va_S.rf
  have hl := lv_entry ([.ref (ad (q))]) (n := 1) (Nat.le_of_ble_eq_true rfl)
  rw [lg_entry_eq]
  generalize (lg_sl ([.ref (ad (q))]) ++ List.replicate (1 - (lg_sl ([.ref (ad (q))])).length) Slot.unset).toArray = ls at hl ⊢
  have hl : lv_has ls 1 [(0, .ref (ad (q)))] := hl
  have hin2 : meth.name = "<init>" := (name_of_methodNamed B.named B.method).1
  have hA0 : ∀ p, p < q + 1 → ad p = ad p := fun _ _ => rfl
  have hW0 : ∀ p, p < q → w p = w p := fun _ _ => rfl
  refine lv_aload_n hx hb dX1_init_0 rfl (lv_at hl 0 rfl) ?_
  refine g_oinit S hl.1 q266 q129 q130 dX1_init_1 (Nat.le_of_ble_eq_true rfl) (Nat.le_of_ble_eq_true rfl) ?_
  refine lv_aload_n hx hb dX1_init_4 rfl (lv_at hl 0 rfl) ?_
  refine g_bipush S 36 dX1_init_5 (by decide +kernel) ?_
  refine g_newaM S hI hP hS (atype := .boolean) 1 rfl (fun _ _ h => h) rfl q183 36 rfl (by decide) (Nat.le_of_ble_eq_true rfl) (Nat.le_of_ble_eq_true rfl) (Nat.le_of_ble_eq_true rfl) dX1_init_7 (fun ad1 wn1 H hP hS hadL1 hwL1 hwN1 => ?_)
  have hP : gP E ad1 (q + 2) wn1 H := hP
  rw [show ([.ref (ad1 (q + 1)), .ref (ad (q))] : List Value) = [.ref (ad1 (q + 1)), .ref (ad1 (q))] by rw [hadL1 (q) (by omega)]]
  have hl : lv_has ls 1 [(0, .ref (ad1 (q)))] := by rw [hadL1 (q) (by omega)]; exact hl
  have he1 : wn1 q = .inr (5, [.null, .null]) := by rw [hwL1 q (by omega), he]
  have hA2 : ∀ p, p < q + 1 → ad1 p = ad p := fun p hp => (hadL1 p (by omega)).trans (hA0 p hp)
  have hW3 : ∀ p, p < q → wn1 p = w p := fun p hp => (hwL1 p (by omega)).trans (hW0 p hp)
  refine g_putF S hI hP hS hin2 uX1 rfl tyX1 tyX1_ok nmX1 (q0 := q) (fs := [.null, .null]) (by omega) he1 0 (by decide) q267 rfl rfl rfl (v := .ref (ad1 (q + 1))) rfl rfl (Nat.le_of_ble_eq_true rfl) dX1_init_9 (fun H locs hP hS => ?_)
  have hP : gP E ad1 (q + 2) (va_up wn1 q (.inr (5, [.ref (ad1 (q + 1)), .null]))) H := hP
  obtain ⟨wv4, hwv4⟩ : ∃ z, z = va_up wn1 q (.inr (5, [.ref (ad1 (q + 1)), .null]) : va_E) := ⟨_, rfl⟩
  rw [← hwv4] at hP
  have he5 : wv4 q = .inr (5, [.ref (ad1 (q + 1)), .null]) := by rw [hwv4, va_up_self]
  have ea6 : wv4 (q + 1) = gAr (E.2.1 1) 36 (fun _ => 0) := by rw [hwv4, va_up_ne _ _ (by omega)]; exact hwN1
  have hW7 : ∀ p, p < q → wv4 p = w p := fun p hp => by rw [hwv4, va_up_ne _ _ (by omega)]; exact hW3 p hp
  refine lv_aload_n hx hb dX1_init_12 rfl (lv_at hl 0 rfl) ?_
  refine g_bipush S 36 dX1_init_13 (by decide +kernel) ?_
  refine g_newaM S hI hP hS (atype := .int) 0 rfl (fun _ _ h => h) rfl q182 36 rfl (by decide) (Nat.le_of_ble_eq_true rfl) (Nat.le_of_ble_eq_true rfl) (Nat.le_of_ble_eq_true rfl) dX1_init_15 (fun ad2 wn2 H hP hS hadL2 hwL2 hwN2 => ?_)
  have hP : gP E ad2 (q + 3) wn2 H := hP
  rw [show ([.ref (ad2 (q + 2)), .ref (ad1 (q))] : List Value) = [.ref (ad2 (q + 2)), .ref (ad2 (q))] by rw [hadL2 (q) (by omega)]]
  have hl : lv_has ls 1 [(0, .ref (ad2 (q)))] := by rw [hadL2 (q) (by omega)]; exact hl
  have he8 : wn2 q = .inr (5, [.ref (ad2 (q + 1)), .null]) := by rw [hwL2 q (by omega), he5, hadL2 (q + 1) (by omega)]
  have ea9 : wn2 (q + 1) = gAr (E.2.1 1) 36 (fun _ => 0) := by rw [hwL2 (q + 1) (by omega)]; exact ea6
  have hA10 : ∀ p, p < q + 1 → ad2 p = ad p := fun p hp => (hadL2 p (by omega)).trans (hA2 p hp)
  have hW11 : ∀ p, p < q → wn2 p = w p := fun p hp => (hwL2 p (by omega)).trans (hW7 p hp)
  refine g_putF S hI hP hS hin2 uX1 rfl tyX1 tyX1_ok nmX1 (q0 := q) (fs := [.ref (ad2 (q + 1)), .null]) (by omega) he8 1 (by decide) q268 rfl rfl rfl (v := .ref (ad2 (q + 2))) rfl rfl (Nat.le_of_ble_eq_true rfl) dX1_init_17 (fun H locs hP hS => ?_)
  have hP : gP E ad2 (q + 3) (va_up wn2 q (.inr (5, [.ref (ad2 (q + 1)), .ref (ad2 (q + 2))]))) H := hP
  obtain ⟨wv12, hwv12⟩ : ∃ z, z = va_up wn2 q (.inr (5, [.ref (ad2 (q + 1)), .ref (ad2 (q + 2))]) : va_E) := ⟨_, rfl⟩
  rw [← hwv12] at hP
  have he13 : wv12 q = .inr (5, [.ref (ad2 (q + 1)), .ref (ad2 (q + 2))]) := by rw [hwv12, va_up_self]
  have ea14 : wv12 (q + 1) = gAr (E.2.1 1) 36 (fun _ => 0) := by rw [hwv12, va_up_ne _ _ (by omega)]; exact ea9
  have ea15 : wv12 (q + 2) = gAr (E.2.1 0) 36 (fun _ => 0) := by rw [hwv12, va_up_ne _ _ (by omega)]; exact hwN2
  have hW16 : ∀ p, p < q → wv12 p = w p := fun p hp => by rw [hwv12, va_up_ne _ _ (by omega)]; exact hW11 p hp
  exact g_uvret S hr hlocks hP hS (⟨rfl, hA10, hW16, ⟨Nat.le_refl _, fun k hk => by match k, hk with | 0, _ => exact he13 | 1, _ => exact ea14 | 2, _ => exact ea15⟩⟩) (Nat.le_of_ble_eq_true rfl) (Nat.le_of_ble_eq_true rfl) dX1_init_20
set_option maxHeartbeats 4000000 in
set_option maxRecDepth 100000 in
/-- a flood is made -/
theorem mX3_init (l : Launch) {E : gE} {ad : Nat → Nat} {w : Nat → va_E} (q : Nat)  (he : w q = .inr (7, [.null, .null, .int 0, .int 0]))  : gUv l yX3_init (lw_ws yX3_init cX3_init 1 none) ({ frames := 1, cells := 2, slots := 72, locals := 20 } : Room) E ad (q + 1) w [.ref (ad (q))] (fun ad' N' w' => N' = q + 3 ∧ (∀ p, p < q + 1 → ad' p = ad p) ∧ (∀ p, p < q → w' p = w p) ∧ bkP N' w' q 3 (FLC E ad' q (fun _ => 0) (fun _ => 0) 0 0)) 2 72 := by
  refine Met.ofW (cc := cX3_init) (maxL := 1) (ret := none) (by decide) rfl ?_
  intro p e s m args below meth cd s₁ B hml hv
  obtain ⟨rfl, hI, hP⟩ := hv
  obtain ⟨S, hr, hlocks⟩ := gPre (ws := []) B hml (C := RX3) rfl
  have hx := S.1
  have hb := S.2.1
  have hS : va_S (gA E) s.heap s.heap [] := va_S.rf
  have hl := lv_entry ([.ref (ad (q))]) (n := 1) (Nat.le_of_ble_eq_true rfl)
  rw [lg_entry_eq]
  generalize (lg_sl ([.ref (ad (q))]) ++ List.replicate (1 - (lg_sl ([.ref (ad (q))])).length) Slot.unset).toArray = ls at hl ⊢
  have hl : lv_has ls 1 [(0, .ref (ad (q)))] := hl
  have hin2 : meth.name = "<init>" := (name_of_methodNamed B.named B.method).1
  have hA0 : ∀ p, p < q + 1 → ad p = ad p := fun _ _ => rfl
  have hW0 : ∀ p, p < q → w p = w p := fun _ _ => rfl
  refine lv_aload_n hx hb dX3_init_0 rfl (lv_at hl 0 rfl) ?_
  refine g_oinit S hl.1 q215 q129 q130 dX3_init_1 (Nat.le_of_ble_eq_true rfl) (Nat.le_of_ble_eq_true rfl) ?_
  refine lv_aload_n hx hb dX3_init_4 rfl (lv_at hl 0 rfl) ?_
  refine g_bipush S 36 dX3_init_5 (by decide +kernel) ?_
  refine g_newaM S hI hP hS (atype := .boolean) 1 rfl (fun _ _ h => h) rfl q183 36 rfl (by decide) (Nat.le_of_ble_eq_true rfl) (Nat.le_of_ble_eq_true rfl) (Nat.le_of_ble_eq_true rfl) dX3_init_7 (fun ad1 wn1 H hP hS hadL1 hwL1 hwN1 => ?_)
  have hP : gP E ad1 (q + 2) wn1 H := hP
  rw [show ([.ref (ad1 (q + 1)), .ref (ad (q))] : List Value) = [.ref (ad1 (q + 1)), .ref (ad1 (q))] by rw [hadL1 (q) (by omega)]]
  have hl : lv_has ls 1 [(0, .ref (ad1 (q)))] := by rw [hadL1 (q) (by omega)]; exact hl
  have he1 : wn1 q = .inr (7, [.null, .null, .int 0, .int 0]) := by rw [hwL1 q (by omega), he]
  have hA2 : ∀ p, p < q + 1 → ad1 p = ad p := fun p hp => (hadL1 p (by omega)).trans (hA0 p hp)
  have hW3 : ∀ p, p < q → wn1 p = w p := fun p hp => (hwL1 p (by omega)).trans (hW0 p hp)
  refine g_putF S hI hP hS hin2 uX3 rfl tyX3 tyX3_ok nmX3 (q0 := q) (fs := [.null, .null, .int 0, .int 0]) (by omega) he1 0 (by decide) q216 rfl rfl rfl (v := .ref (ad1 (q + 1))) rfl rfl (Nat.le_of_ble_eq_true rfl) dX3_init_9 (fun H locs hP hS => ?_)
  have hP : gP E ad1 (q + 2) (va_up wn1 q (.inr (7, [.ref (ad1 (q + 1)), .null, .int 0, .int 0]))) H := hP
  obtain ⟨wv4, hwv4⟩ : ∃ z, z = va_up wn1 q (.inr (7, [.ref (ad1 (q + 1)), .null, .int 0, .int 0]) : va_E) := ⟨_, rfl⟩
  rw [← hwv4] at hP
  have he5 : wv4 q = .inr (7, [.ref (ad1 (q + 1)), .null, .int 0, .int 0]) := by rw [hwv4, va_up_self]
  have ea6 : wv4 (q + 1) = gAr (E.2.1 1) 36 (fun _ => 0) := by rw [hwv4, va_up_ne _ _ (by omega)]; exact hwN1
  have hW7 : ∀ p, p < q → wv4 p = w p := fun p hp => by rw [hwv4, va_up_ne _ _ (by omega)]; exact hW3 p hp
  refine lv_aload_n hx hb dX3_init_12 rfl (lv_at hl 0 rfl) ?_
  refine g_bipush S 36 dX3_init_13 (by decide +kernel) ?_
  refine g_newaM S hI hP hS (atype := .int) 0 rfl (fun _ _ h => h) rfl q182 36 rfl (by decide) (Nat.le_of_ble_eq_true rfl) (Nat.le_of_ble_eq_true rfl) (Nat.le_of_ble_eq_true rfl) dX3_init_15 (fun ad2 wn2 H hP hS hadL2 hwL2 hwN2 => ?_)
  have hP : gP E ad2 (q + 3) wn2 H := hP
  rw [show ([.ref (ad2 (q + 2)), .ref (ad1 (q))] : List Value) = [.ref (ad2 (q + 2)), .ref (ad2 (q))] by rw [hadL2 (q) (by omega)]]
  have hl : lv_has ls 1 [(0, .ref (ad2 (q)))] := by rw [hadL2 (q) (by omega)]; exact hl
  have he8 : wn2 q = .inr (7, [.ref (ad2 (q + 1)), .null, .int 0, .int 0]) := by rw [hwL2 q (by omega), he5, hadL2 (q + 1) (by omega)]
  have ea9 : wn2 (q + 1) = gAr (E.2.1 1) 36 (fun _ => 0) := by rw [hwL2 (q + 1) (by omega)]; exact ea6
  have hA10 : ∀ p, p < q + 1 → ad2 p = ad p := fun p hp => (hadL2 p (by omega)).trans (hA2 p hp)
  have hW11 : ∀ p, p < q → wn2 p = w p := fun p hp => (hwL2 p (by omega)).trans (hW7 p hp)
  refine g_putF S hI hP hS hin2 uX3 rfl tyX3 tyX3_ok nmX3 (q0 := q) (fs := [.ref (ad2 (q + 1)), .null, .int 0, .int 0]) (by omega) he8 1 (by decide) q219 rfl rfl rfl (v := .ref (ad2 (q + 2))) rfl rfl (Nat.le_of_ble_eq_true rfl) dX3_init_17 (fun H locs hP hS => ?_)
  have hP : gP E ad2 (q + 3) (va_up wn2 q (.inr (7, [.ref (ad2 (q + 1)), .ref (ad2 (q + 2)), .int 0, .int 0]))) H := hP
  obtain ⟨wv12, hwv12⟩ : ∃ z, z = va_up wn2 q (.inr (7, [.ref (ad2 (q + 1)), .ref (ad2 (q + 2)), .int 0, .int 0]) : va_E) := ⟨_, rfl⟩
  rw [← hwv12] at hP
  have he13 : wv12 q = .inr (7, [.ref (ad2 (q + 1)), .ref (ad2 (q + 2)), .int 0, .int 0]) := by rw [hwv12, va_up_self]
  have ea14 : wv12 (q + 1) = gAr (E.2.1 1) 36 (fun _ => 0) := by rw [hwv12, va_up_ne _ _ (by omega)]; exact ea9
  have ea15 : wv12 (q + 2) = gAr (E.2.1 0) 36 (fun _ => 0) := by rw [hwv12, va_up_ne _ _ (by omega)]; exact hwN2
  have hW16 : ∀ p, p < q → wv12 p = w p := fun p hp => by rw [hwv12, va_up_ne _ _ (by omega)]; exact hW11 p hp
  exact g_uvret S hr hlocks hP hS (⟨rfl, hA10, hW16, ⟨Nat.le_refl _, fun k hk => by match k, hk with | 0, _ => exact he13 | 1, _ => exact ea14 | 2, _ => exact ea15⟩⟩) (Nat.le_of_ble_eq_true rfl) (Nat.le_of_ble_eq_true rfl) dX3_init_20
set_option maxHeartbeats 4000000 in
set_option maxRecDepth 100000 in
/-- unions are made -/
theorem mX10_init (l : Launch) {E : gE} {ad : Nat → Nat} {w : Nat → va_E} (q : Nat)  (he : w q = .inr (14, [.null]))  : gUv l yX10_init (lw_ws yX10_init cX10_init 1 none) ({ frames := 1, cells := 1, slots := 36, locals := 20 } : Room) E ad (q + 1) w [.ref (ad (q))] (fun ad' N' w' => N' = q + 2 ∧ (∀ p, p < q + 1 → ad' p = ad p) ∧ (∀ p, p < q → w' p = w p) ∧ bkP N' w' q 2 (UNC E ad' q (fun _ => 0))) 1 36 := by
  refine Met.ofW (cc := cX10_init) (maxL := 1) (ret := none) (by decide) rfl ?_
  intro p e s m args below meth cd s₁ B hml hv
  obtain ⟨rfl, hI, hP⟩ := hv
  obtain ⟨S, hr, hlocks⟩ := gPre (ws := []) B hml (C := RX10) rfl
  have hx := S.1
  have hb := S.2.1
  have hS : va_S (gA E) s.heap s.heap [] := va_S.rf
  have hl := lv_entry ([.ref (ad (q))]) (n := 1) (Nat.le_of_ble_eq_true rfl)
  rw [lg_entry_eq]
  generalize (lg_sl ([.ref (ad (q))]) ++ List.replicate (1 - (lg_sl ([.ref (ad (q))])).length) Slot.unset).toArray = ls at hl ⊢
  have hl : lv_has ls 1 [(0, .ref (ad (q)))] := hl
  have hin2 : meth.name = "<init>" := (name_of_methodNamed B.named B.method).1
  have hA0 : ∀ p, p < q + 1 → ad p = ad p := fun _ _ => rfl
  have hW0 : ∀ p, p < q → w p = w p := fun _ _ => rfl
  refine lv_aload_n hx hb dX10_init_0 rfl (lv_at hl 0 rfl) ?_
  refine g_oinit S hl.1 q237 q129 q130 dX10_init_1 (Nat.le_of_ble_eq_true rfl) (Nat.le_of_ble_eq_true rfl) ?_
  refine lv_aload_n hx hb dX10_init_4 rfl (lv_at hl 0 rfl) ?_
  refine g_bipush S 36 dX10_init_5 (by decide +kernel) ?_
  refine g_newaM S hI hP hS (atype := .int) 0 rfl (fun _ _ h => h) rfl q182 36 rfl (by decide) (Nat.le_of_ble_eq_true rfl) (Nat.le_of_ble_eq_true rfl) (Nat.le_of_ble_eq_true rfl) dX10_init_7 (fun ad1 wn1 H hP hS hadL1 hwL1 hwN1 => ?_)
  have hP : gP E ad1 (q + 2) wn1 H := hP
  rw [show ([.ref (ad1 (q + 1)), .ref (ad (q))] : List Value) = [.ref (ad1 (q + 1)), .ref (ad1 (q))] by rw [hadL1 (q) (by omega)]]
  have hl : lv_has ls 1 [(0, .ref (ad1 (q)))] := by rw [hadL1 (q) (by omega)]; exact hl
  have he1 : wn1 q = .inr (14, [.null]) := by rw [hwL1 q (by omega), he]
  have hA2 : ∀ p, p < q + 1 → ad1 p = ad p := fun p hp => (hadL1 p (by omega)).trans (hA0 p hp)
  have hW3 : ∀ p, p < q → wn1 p = w p := fun p hp => (hwL1 p (by omega)).trans (hW0 p hp)
  refine g_putF S hI hP hS hin2 uX10 rfl tyX10 tyX10_ok nmX10 (q0 := q) (fs := [.null]) (by omega) he1 0 (by decide) q238 rfl rfl rfl (v := .ref (ad1 (q + 1))) rfl rfl (Nat.le_of_ble_eq_true rfl) dX10_init_9 (fun H locs hP hS => ?_)
  have hP : gP E ad1 (q + 2) (va_up wn1 q (.inr (14, [.ref (ad1 (q + 1))]))) H := hP
  obtain ⟨wv4, hwv4⟩ : ∃ z, z = va_up wn1 q (.inr (14, [.ref (ad1 (q + 1))]) : va_E) := ⟨_, rfl⟩
  rw [← hwv4] at hP
  have he5 : wv4 q = .inr (14, [.ref (ad1 (q + 1))]) := by rw [hwv4, va_up_self]
  have ea6 : wv4 (q + 1) = gAr (E.2.1 0) 36 (fun _ => 0) := by rw [hwv4, va_up_ne _ _ (by omega)]; exact hwN1
  have hW7 : ∀ p, p < q → wv4 p = w p := fun p hp => by rw [hwv4, va_up_ne _ _ (by omega)]; exact hW3 p hp
  exact g_uvret S hr hlocks hP hS (⟨rfl, hA2, hW7, ⟨Nat.le_refl _, fun k hk => by match k, hk with | 0, _ => exact he5 | 1, _ => exact ea6⟩⟩) (Nat.le_of_ble_eq_true rfl) (Nat.le_of_ble_eq_true rfl) dX10_init_12
set_option maxHeartbeats 4000000 in
set_option maxRecDepth 100000 in
/-- a sheet is made -/
theorem mX7_init (l : Launch) {E : gE} {ad : Nat → Nat} {w : Nat → va_E} (q : Nat)  (he : w q = .inr (11, [.null, .null, .null, .null, .null, .null, .int 0, .int 0, .int 0, .int 0]))  : gUv l yX7_init (lw_ws yX7_init cX7_init 1 none) ({ frames := 1, cells := 6, slots := 184, locals := 23 } : Room) E ad (q + 1) w [.ref (ad (q))] (fun ad' N' w' => N' = q + 7 ∧ (∀ p, p < q + 1 → ad' p = ad p) ∧ (∀ p, p < q → w' p = w p) ∧ bkP N' w' q 7 (SHC E ad' q (fil 36 (fun _ => 50) (fun _ => 0)) (fun _ => 0) (fun _ => 0) (fun _ => 0) (fun _ => 0) (fun _ => 0) 0 0 0 0)) 6 184 := by
  refine Met.ofW (cc := cX7_init) (maxL := 1) (ret := none) (by decide) rfl ?_
  intro p e s m args below meth cd s₁ B hml hv
  obtain ⟨rfl, hI, hP⟩ := hv
  obtain ⟨S, hr, hlocks⟩ := gPre (ws := []) B hml (C := RX7) rfl
  have hx := S.1
  have hb := S.2.1
  have hS : va_S (gA E) s.heap s.heap [] := va_S.rf
  have hl := lv_entry ([.ref (ad (q))]) (n := 1) (Nat.le_of_ble_eq_true rfl)
  rw [lg_entry_eq]
  generalize (lg_sl ([.ref (ad (q))]) ++ List.replicate (1 - (lg_sl ([.ref (ad (q))])).length) Slot.unset).toArray = ls at hl ⊢
  have hl : lv_has ls 1 [(0, .ref (ad (q)))] := hl
  have hin2 : meth.name = "<init>" := (name_of_methodNamed B.named B.method).1
  have hA0 : ∀ p, p < q + 1 → ad p = ad p := fun _ _ => rfl
  have hW0 : ∀ p, p < q → w p = w p := fun _ _ => rfl
  refine lv_aload_n hx hb dX7_init_0 rfl (lv_at hl 0 rfl) ?_
  refine g_oinit S hl.1 q136 q129 q130 dX7_init_1 (Nat.le_of_ble_eq_true rfl) (Nat.le_of_ble_eq_true rfl) ?_
  refine lv_aload_n hx hb dX7_init_4 rfl (lv_at hl 0 rfl) ?_
  refine g_bipush S 36 dX7_init_5 (by decide +kernel) ?_
  refine g_newaM S hI hP hS (atype := .int) 0 rfl (fun _ _ h => h) rfl q182 36 rfl (by decide) (Nat.le_of_ble_eq_true rfl) (Nat.le_of_ble_eq_true rfl) (Nat.le_of_ble_eq_true rfl) dX7_init_7 (fun ad1 wn1 H hP hS hadL1 hwL1 hwN1 => ?_)
  have hP : gP E ad1 (q + 2) wn1 H := hP
  rw [show ([.ref (ad1 (q + 1)), .ref (ad (q))] : List Value) = [.ref (ad1 (q + 1)), .ref (ad1 (q))] by rw [hadL1 (q) (by omega)]]
  have hl : lv_has ls 1 [(0, .ref (ad1 (q)))] := by rw [hadL1 (q) (by omega)]; exact hl
  have he1 : wn1 q = .inr (11, [.null, .null, .null, .null, .null, .null, .int 0, .int 0, .int 0, .int 0]) := by rw [hwL1 q (by omega), he]
  have hA2 : ∀ p, p < q + 1 → ad1 p = ad p := fun p hp => (hadL1 p (by omega)).trans (hA0 p hp)
  have hW3 : ∀ p, p < q → wn1 p = w p := fun p hp => (hwL1 p (by omega)).trans (hW0 p hp)
  refine g_putF S hI hP hS hin2 uX7 rfl tyX7 tyX7_ok nmX7 (q0 := q) (fs := [.null, .null, .null, .null, .null, .null, .int 0, .int 0, .int 0, .int 0]) (by omega) he1 0 (by decide) q140 rfl rfl rfl (v := .ref (ad1 (q + 1))) rfl rfl (Nat.le_of_ble_eq_true rfl) dX7_init_9 (fun H locs hP hS => ?_)
  have hP : gP E ad1 (q + 2) (va_up wn1 q (.inr (11, [.ref (ad1 (q + 1)), .null, .null, .null, .null, .null, .int 0, .int 0, .int 0, .int 0]))) H := hP
  obtain ⟨wv4, hwv4⟩ : ∃ z, z = va_up wn1 q (.inr (11, [.ref (ad1 (q + 1)), .null, .null, .null, .null, .null, .int 0, .int 0, .int 0, .int 0]) : va_E) := ⟨_, rfl⟩
  rw [← hwv4] at hP
  have he5 : wv4 q = .inr (11, [.ref (ad1 (q + 1)), .null, .null, .null, .null, .null, .int 0, .int 0, .int 0, .int 0]) := by rw [hwv4, va_up_self]
  have ea6 : wv4 (q + 1) = gAr (E.2.1 0) 36 (fun _ => 0) := by rw [hwv4, va_up_ne _ _ (by omega)]; exact hwN1
  have hW7 : ∀ p, p < q → wv4 p = w p := fun p hp => by rw [hwv4, va_up_ne _ _ (by omega)]; exact hW3 p hp
  refine lv_aload_n hx hb dX7_init_12 rfl (lv_at hl 0 rfl) ?_
  refine g_bipush S 36 dX7_init_13 (by decide +kernel) ?_
  refine g_newaM S hI hP hS (atype := .int) 0 rfl (fun _ _ h => h) rfl q182 36 rfl (by decide) (Nat.le_of_ble_eq_true rfl) (Nat.le_of_ble_eq_true rfl) (Nat.le_of_ble_eq_true rfl) dX7_init_15 (fun ad2 wn2 H hP hS hadL2 hwL2 hwN2 => ?_)
  have hP : gP E ad2 (q + 3) wn2 H := hP
  rw [show ([.ref (ad2 (q + 2)), .ref (ad1 (q))] : List Value) = [.ref (ad2 (q + 2)), .ref (ad2 (q))] by rw [hadL2 (q) (by omega)]]
  have hl : lv_has ls 1 [(0, .ref (ad2 (q)))] := by rw [hadL2 (q) (by omega)]; exact hl
  have he8 : wn2 q = .inr (11, [.ref (ad2 (q + 1)), .null, .null, .null, .null, .null, .int 0, .int 0, .int 0, .int 0]) := by rw [hwL2 q (by omega), he5, hadL2 (q + 1) (by omega)]
  have ea9 : wn2 (q + 1) = gAr (E.2.1 0) 36 (fun _ => 0) := by rw [hwL2 (q + 1) (by omega)]; exact ea6
  have hA10 : ∀ p, p < q + 1 → ad2 p = ad p := fun p hp => (hadL2 p (by omega)).trans (hA2 p hp)
  have hW11 : ∀ p, p < q → wn2 p = w p := fun p hp => (hwL2 p (by omega)).trans (hW7 p hp)
  refine g_putF S hI hP hS hin2 uX7 rfl tyX7 tyX7_ok nmX7 (q0 := q) (fs := [.ref (ad2 (q + 1)), .null, .null, .null, .null, .null, .int 0, .int 0, .int 0, .int 0]) (by omega) he8 1 (by decide) q144 rfl rfl rfl (v := .ref (ad2 (q + 2))) rfl rfl (Nat.le_of_ble_eq_true rfl) dX7_init_17 (fun H locs hP hS => ?_)
  have hP : gP E ad2 (q + 3) (va_up wn2 q (.inr (11, [.ref (ad2 (q + 1)), .ref (ad2 (q + 2)), .null, .null, .null, .null, .int 0, .int 0, .int 0, .int 0]))) H := hP
  obtain ⟨wv12, hwv12⟩ : ∃ z, z = va_up wn2 q (.inr (11, [.ref (ad2 (q + 1)), .ref (ad2 (q + 2)), .null, .null, .null, .null, .int 0, .int 0, .int 0, .int 0]) : va_E) := ⟨_, rfl⟩
  rw [← hwv12] at hP
  have he13 : wv12 q = .inr (11, [.ref (ad2 (q + 1)), .ref (ad2 (q + 2)), .null, .null, .null, .null, .int 0, .int 0, .int 0, .int 0]) := by rw [hwv12, va_up_self]
  have ea14 : wv12 (q + 1) = gAr (E.2.1 0) 36 (fun _ => 0) := by rw [hwv12, va_up_ne _ _ (by omega)]; exact ea9
  have ea15 : wv12 (q + 2) = gAr (E.2.1 0) 36 (fun _ => 0) := by rw [hwv12, va_up_ne _ _ (by omega)]; exact hwN2
  have hW16 : ∀ p, p < q → wv12 p = w p := fun p hp => by rw [hwv12, va_up_ne _ _ (by omega)]; exact hW11 p hp
  refine lv_aload_n hx hb dX7_init_20 rfl (lv_at hl 0 rfl) ?_
  refine g_bipush S 36 dX7_init_21 (by decide +kernel) ?_
  refine g_newaM S hI hP hS (atype := .boolean) 1 rfl (fun _ _ h => h) rfl q183 36 rfl (by decide) (Nat.le_of_ble_eq_true rfl) (Nat.le_of_ble_eq_true rfl) (Nat.le_of_ble_eq_true rfl) dX7_init_23 (fun ad3 wn3 H hP hS hadL3 hwL3 hwN3 => ?_)
  have hP : gP E ad3 (q + 4) wn3 H := hP
  rw [show ([.ref (ad3 (q + 3)), .ref (ad2 (q))] : List Value) = [.ref (ad3 (q + 3)), .ref (ad3 (q))] by rw [hadL3 (q) (by omega)]]
  have hl : lv_has ls 1 [(0, .ref (ad3 (q)))] := by rw [hadL3 (q) (by omega)]; exact hl
  have he17 : wn3 q = .inr (11, [.ref (ad3 (q + 1)), .ref (ad3 (q + 2)), .null, .null, .null, .null, .int 0, .int 0, .int 0, .int 0]) := by rw [hwL3 q (by omega), he13, hadL3 (q + 1) (by omega), hadL3 (q + 2) (by omega)]
  have ea18 : wn3 (q + 1) = gAr (E.2.1 0) 36 (fun _ => 0) := by rw [hwL3 (q + 1) (by omega)]; exact ea14
  have ea19 : wn3 (q + 2) = gAr (E.2.1 0) 36 (fun _ => 0) := by rw [hwL3 (q + 2) (by omega)]; exact ea15
  have hA20 : ∀ p, p < q + 1 → ad3 p = ad p := fun p hp => (hadL3 p (by omega)).trans (hA10 p hp)
  have hW21 : ∀ p, p < q → wn3 p = w p := fun p hp => (hwL3 p (by omega)).trans (hW16 p hp)
  refine g_putF S hI hP hS hin2 uX7 rfl tyX7 tyX7_ok nmX7 (q0 := q) (fs := [.ref (ad3 (q + 1)), .ref (ad3 (q + 2)), .null, .null, .null, .null, .int 0, .int 0, .int 0, .int 0]) (by omega) he17 2 (by decide) q145 rfl rfl rfl (v := .ref (ad3 (q + 3))) rfl rfl (Nat.le_of_ble_eq_true rfl) dX7_init_25 (fun H locs hP hS => ?_)
  have hP : gP E ad3 (q + 4) (va_up wn3 q (.inr (11, [.ref (ad3 (q + 1)), .ref (ad3 (q + 2)), .ref (ad3 (q + 3)), .null, .null, .null, .int 0, .int 0, .int 0, .int 0]))) H := hP
  obtain ⟨wv22, hwv22⟩ : ∃ z, z = va_up wn3 q (.inr (11, [.ref (ad3 (q + 1)), .ref (ad3 (q + 2)), .ref (ad3 (q + 3)), .null, .null, .null, .int 0, .int 0, .int 0, .int 0]) : va_E) := ⟨_, rfl⟩
  rw [← hwv22] at hP
  have he23 : wv22 q = .inr (11, [.ref (ad3 (q + 1)), .ref (ad3 (q + 2)), .ref (ad3 (q + 3)), .null, .null, .null, .int 0, .int 0, .int 0, .int 0]) := by rw [hwv22, va_up_self]
  have ea24 : wv22 (q + 1) = gAr (E.2.1 0) 36 (fun _ => 0) := by rw [hwv22, va_up_ne _ _ (by omega)]; exact ea18
  have ea25 : wv22 (q + 2) = gAr (E.2.1 0) 36 (fun _ => 0) := by rw [hwv22, va_up_ne _ _ (by omega)]; exact ea19
  have ea26 : wv22 (q + 3) = gAr (E.2.1 1) 36 (fun _ => 0) := by rw [hwv22, va_up_ne _ _ (by omega)]; exact hwN3
  have hW27 : ∀ p, p < q → wv22 p = w p := fun p hp => by rw [hwv22, va_up_ne _ _ (by omega)]; exact hW21 p hp
  refine lv_aload_n hx hb dX7_init_28 rfl (lv_at hl 0 rfl) ?_
  refine g_bipush S 36 dX7_init_29 (by decide +kernel) ?_
  refine g_newaM S hI hP hS (atype := .int) 0 rfl (fun _ _ h => h) rfl q182 36 rfl (by decide) (Nat.le_of_ble_eq_true rfl) (Nat.le_of_ble_eq_true rfl) (Nat.le_of_ble_eq_true rfl) dX7_init_31 (fun ad4 wn4 H hP hS hadL4 hwL4 hwN4 => ?_)
  have hP : gP E ad4 (q + 5) wn4 H := hP
  rw [show ([.ref (ad4 (q + 4)), .ref (ad3 (q))] : List Value) = [.ref (ad4 (q + 4)), .ref (ad4 (q))] by rw [hadL4 (q) (by omega)]]
  have hl : lv_has ls 1 [(0, .ref (ad4 (q)))] := by rw [hadL4 (q) (by omega)]; exact hl
  have he28 : wn4 q = .inr (11, [.ref (ad4 (q + 1)), .ref (ad4 (q + 2)), .ref (ad4 (q + 3)), .null, .null, .null, .int 0, .int 0, .int 0, .int 0]) := by rw [hwL4 q (by omega), he23, hadL4 (q + 1) (by omega), hadL4 (q + 2) (by omega), hadL4 (q + 3) (by omega)]
  have ea29 : wn4 (q + 1) = gAr (E.2.1 0) 36 (fun _ => 0) := by rw [hwL4 (q + 1) (by omega)]; exact ea24
  have ea30 : wn4 (q + 2) = gAr (E.2.1 0) 36 (fun _ => 0) := by rw [hwL4 (q + 2) (by omega)]; exact ea25
  have ea31 : wn4 (q + 3) = gAr (E.2.1 1) 36 (fun _ => 0) := by rw [hwL4 (q + 3) (by omega)]; exact ea26
  have hA32 : ∀ p, p < q + 1 → ad4 p = ad p := fun p hp => (hadL4 p (by omega)).trans (hA20 p hp)
  have hW33 : ∀ p, p < q → wn4 p = w p := fun p hp => (hwL4 p (by omega)).trans (hW27 p hp)
  refine g_putF S hI hP hS hin2 uX7 rfl tyX7 tyX7_ok nmX7 (q0 := q) (fs := [.ref (ad4 (q + 1)), .ref (ad4 (q + 2)), .ref (ad4 (q + 3)), .null, .null, .null, .int 0, .int 0, .int 0, .int 0]) (by omega) he28 3 (by decide) q147 rfl rfl rfl (v := .ref (ad4 (q + 4))) rfl rfl (Nat.le_of_ble_eq_true rfl) dX7_init_33 (fun H locs hP hS => ?_)
  have hP : gP E ad4 (q + 5) (va_up wn4 q (.inr (11, [.ref (ad4 (q + 1)), .ref (ad4 (q + 2)), .ref (ad4 (q + 3)), .ref (ad4 (q + 4)), .null, .null, .int 0, .int 0, .int 0, .int 0]))) H := hP
  obtain ⟨wv34, hwv34⟩ : ∃ z, z = va_up wn4 q (.inr (11, [.ref (ad4 (q + 1)), .ref (ad4 (q + 2)), .ref (ad4 (q + 3)), .ref (ad4 (q + 4)), .null, .null, .int 0, .int 0, .int 0, .int 0]) : va_E) := ⟨_, rfl⟩
  rw [← hwv34] at hP
  have he35 : wv34 q = .inr (11, [.ref (ad4 (q + 1)), .ref (ad4 (q + 2)), .ref (ad4 (q + 3)), .ref (ad4 (q + 4)), .null, .null, .int 0, .int 0, .int 0, .int 0]) := by rw [hwv34, va_up_self]
  have ea36 : wv34 (q + 1) = gAr (E.2.1 0) 36 (fun _ => 0) := by rw [hwv34, va_up_ne _ _ (by omega)]; exact ea29
  have ea37 : wv34 (q + 2) = gAr (E.2.1 0) 36 (fun _ => 0) := by rw [hwv34, va_up_ne _ _ (by omega)]; exact ea30
  have ea38 : wv34 (q + 3) = gAr (E.2.1 1) 36 (fun _ => 0) := by rw [hwv34, va_up_ne _ _ (by omega)]; exact ea31
  have ea39 : wv34 (q + 4) = gAr (E.2.1 0) 36 (fun _ => 0) := by rw [hwv34, va_up_ne _ _ (by omega)]; exact hwN4
  have hW40 : ∀ p, p < q → wv34 p = w p := fun p hp => by rw [hwv34, va_up_ne _ _ (by omega)]; exact hW33 p hp
  refine lv_aload_n hx hb dX7_init_36 rfl (lv_at hl 0 rfl) ?_
  refine g_bipush S 36 dX7_init_37 (by decide +kernel) ?_
  refine g_newaM S hI hP hS (atype := .int) 0 rfl (fun _ _ h => h) rfl q182 36 rfl (by decide) (Nat.le_of_ble_eq_true rfl) (Nat.le_of_ble_eq_true rfl) (Nat.le_of_ble_eq_true rfl) dX7_init_39 (fun ad5 wn5 H hP hS hadL5 hwL5 hwN5 => ?_)
  have hP : gP E ad5 (q + 6) wn5 H := hP
  rw [show ([.ref (ad5 (q + 5)), .ref (ad4 (q))] : List Value) = [.ref (ad5 (q + 5)), .ref (ad5 (q))] by rw [hadL5 (q) (by omega)]]
  have hl : lv_has ls 1 [(0, .ref (ad5 (q)))] := by rw [hadL5 (q) (by omega)]; exact hl
  have he41 : wn5 q = .inr (11, [.ref (ad5 (q + 1)), .ref (ad5 (q + 2)), .ref (ad5 (q + 3)), .ref (ad5 (q + 4)), .null, .null, .int 0, .int 0, .int 0, .int 0]) := by rw [hwL5 q (by omega), he35, hadL5 (q + 1) (by omega), hadL5 (q + 2) (by omega), hadL5 (q + 3) (by omega), hadL5 (q + 4) (by omega)]
  have ea42 : wn5 (q + 1) = gAr (E.2.1 0) 36 (fun _ => 0) := by rw [hwL5 (q + 1) (by omega)]; exact ea36
  have ea43 : wn5 (q + 2) = gAr (E.2.1 0) 36 (fun _ => 0) := by rw [hwL5 (q + 2) (by omega)]; exact ea37
  have ea44 : wn5 (q + 3) = gAr (E.2.1 1) 36 (fun _ => 0) := by rw [hwL5 (q + 3) (by omega)]; exact ea38
  have ea45 : wn5 (q + 4) = gAr (E.2.1 0) 36 (fun _ => 0) := by rw [hwL5 (q + 4) (by omega)]; exact ea39
  have hA46 : ∀ p, p < q + 1 → ad5 p = ad p := fun p hp => (hadL5 p (by omega)).trans (hA32 p hp)
  have hW47 : ∀ p, p < q → wn5 p = w p := fun p hp => (hwL5 p (by omega)).trans (hW40 p hp)
  refine g_putF S hI hP hS hin2 uX7 rfl tyX7 tyX7_ok nmX7 (q0 := q) (fs := [.ref (ad5 (q + 1)), .ref (ad5 (q + 2)), .ref (ad5 (q + 3)), .ref (ad5 (q + 4)), .null, .null, .int 0, .int 0, .int 0, .int 0]) (by omega) he41 4 (by decide) q149 rfl rfl rfl (v := .ref (ad5 (q + 5))) rfl rfl (Nat.le_of_ble_eq_true rfl) dX7_init_41 (fun H locs hP hS => ?_)
  have hP : gP E ad5 (q + 6) (va_up wn5 q (.inr (11, [.ref (ad5 (q + 1)), .ref (ad5 (q + 2)), .ref (ad5 (q + 3)), .ref (ad5 (q + 4)), .ref (ad5 (q + 5)), .null, .int 0, .int 0, .int 0, .int 0]))) H := hP
  obtain ⟨wv48, hwv48⟩ : ∃ z, z = va_up wn5 q (.inr (11, [.ref (ad5 (q + 1)), .ref (ad5 (q + 2)), .ref (ad5 (q + 3)), .ref (ad5 (q + 4)), .ref (ad5 (q + 5)), .null, .int 0, .int 0, .int 0, .int 0]) : va_E) := ⟨_, rfl⟩
  rw [← hwv48] at hP
  have he49 : wv48 q = .inr (11, [.ref (ad5 (q + 1)), .ref (ad5 (q + 2)), .ref (ad5 (q + 3)), .ref (ad5 (q + 4)), .ref (ad5 (q + 5)), .null, .int 0, .int 0, .int 0, .int 0]) := by rw [hwv48, va_up_self]
  have ea50 : wv48 (q + 1) = gAr (E.2.1 0) 36 (fun _ => 0) := by rw [hwv48, va_up_ne _ _ (by omega)]; exact ea42
  have ea51 : wv48 (q + 2) = gAr (E.2.1 0) 36 (fun _ => 0) := by rw [hwv48, va_up_ne _ _ (by omega)]; exact ea43
  have ea52 : wv48 (q + 3) = gAr (E.2.1 1) 36 (fun _ => 0) := by rw [hwv48, va_up_ne _ _ (by omega)]; exact ea44
  have ea53 : wv48 (q + 4) = gAr (E.2.1 0) 36 (fun _ => 0) := by rw [hwv48, va_up_ne _ _ (by omega)]; exact ea45
  have ea54 : wv48 (q + 5) = gAr (E.2.1 0) 36 (fun _ => 0) := by rw [hwv48, va_up_ne _ _ (by omega)]; exact hwN5
  have hW55 : ∀ p, p < q → wv48 p = w p := fun p hp => by rw [hwv48, va_up_ne _ _ (by omega)]; exact hW47 p hp
  refine lv_aload_n hx hb dX7_init_44 rfl (lv_at hl 0 rfl) ?_
  refine g_iconst S 4 dX7_init_45 (by decide +kernel) ?_
  refine g_newaM S hI hP hS (atype := .int) 0 rfl (fun _ _ h => h) rfl q182 4 rfl (by decide) (Nat.le_of_ble_eq_true rfl) (Nat.le_of_ble_eq_true rfl) (Nat.le_of_ble_eq_true rfl) dX7_init_46 (fun ad6 wn6 H hP hS hadL6 hwL6 hwN6 => ?_)
  have hP : gP E ad6 (q + 7) wn6 H := hP
  rw [show ([.ref (ad6 (q + 6)), .ref (ad5 (q))] : List Value) = [.ref (ad6 (q + 6)), .ref (ad6 (q))] by rw [hadL6 (q) (by omega)]]
  have hl : lv_has ls 1 [(0, .ref (ad6 (q)))] := by rw [hadL6 (q) (by omega)]; exact hl
  have he56 : wn6 q = .inr (11, [.ref (ad6 (q + 1)), .ref (ad6 (q + 2)), .ref (ad6 (q + 3)), .ref (ad6 (q + 4)), .ref (ad6 (q + 5)), .null, .int 0, .int 0, .int 0, .int 0]) := by rw [hwL6 q (by omega), he49, hadL6 (q + 1) (by omega), hadL6 (q + 2) (by omega), hadL6 (q + 3) (by omega), hadL6 (q + 4) (by omega), hadL6 (q + 5) (by omega)]
  have ea57 : wn6 (q + 1) = gAr (E.2.1 0) 36 (fun _ => 0) := by rw [hwL6 (q + 1) (by omega)]; exact ea50
  have ea58 : wn6 (q + 2) = gAr (E.2.1 0) 36 (fun _ => 0) := by rw [hwL6 (q + 2) (by omega)]; exact ea51
  have ea59 : wn6 (q + 3) = gAr (E.2.1 1) 36 (fun _ => 0) := by rw [hwL6 (q + 3) (by omega)]; exact ea52
  have ea60 : wn6 (q + 4) = gAr (E.2.1 0) 36 (fun _ => 0) := by rw [hwL6 (q + 4) (by omega)]; exact ea53
  have ea61 : wn6 (q + 5) = gAr (E.2.1 0) 36 (fun _ => 0) := by rw [hwL6 (q + 5) (by omega)]; exact ea54
  have hA62 : ∀ p, p < q + 1 → ad6 p = ad p := fun p hp => (hadL6 p (by omega)).trans (hA46 p hp)
  have hW63 : ∀ p, p < q → wn6 p = w p := fun p hp => (hwL6 p (by omega)).trans (hW55 p hp)
  refine g_putF S hI hP hS hin2 uX7 rfl tyX7 tyX7_ok nmX7 (q0 := q) (fs := [.ref (ad6 (q + 1)), .ref (ad6 (q + 2)), .ref (ad6 (q + 3)), .ref (ad6 (q + 4)), .ref (ad6 (q + 5)), .null, .int 0, .int 0, .int 0, .int 0]) (by omega) he56 5 (by decide) q151 rfl rfl rfl (v := .ref (ad6 (q + 6))) rfl rfl (Nat.le_of_ble_eq_true rfl) dX7_init_48 (fun H locs hP hS => ?_)
  have hP : gP E ad6 (q + 7) (va_up wn6 q (.inr (11, [.ref (ad6 (q + 1)), .ref (ad6 (q + 2)), .ref (ad6 (q + 3)), .ref (ad6 (q + 4)), .ref (ad6 (q + 5)), .ref (ad6 (q + 6)), .int 0, .int 0, .int 0, .int 0]))) H := hP
  obtain ⟨wv64, hwv64⟩ : ∃ z, z = va_up wn6 q (.inr (11, [.ref (ad6 (q + 1)), .ref (ad6 (q + 2)), .ref (ad6 (q + 3)), .ref (ad6 (q + 4)), .ref (ad6 (q + 5)), .ref (ad6 (q + 6)), .int 0, .int 0, .int 0, .int 0]) : va_E) := ⟨_, rfl⟩
  rw [← hwv64] at hP
  have he65 : wv64 q = .inr (11, [.ref (ad6 (q + 1)), .ref (ad6 (q + 2)), .ref (ad6 (q + 3)), .ref (ad6 (q + 4)), .ref (ad6 (q + 5)), .ref (ad6 (q + 6)), .int 0, .int 0, .int 0, .int 0]) := by rw [hwv64, va_up_self]
  have ea66 : wv64 (q + 1) = gAr (E.2.1 0) 36 (fun _ => 0) := by rw [hwv64, va_up_ne _ _ (by omega)]; exact ea57
  have ea67 : wv64 (q + 2) = gAr (E.2.1 0) 36 (fun _ => 0) := by rw [hwv64, va_up_ne _ _ (by omega)]; exact ea58
  have ea68 : wv64 (q + 3) = gAr (E.2.1 1) 36 (fun _ => 0) := by rw [hwv64, va_up_ne _ _ (by omega)]; exact ea59
  have ea69 : wv64 (q + 4) = gAr (E.2.1 0) 36 (fun _ => 0) := by rw [hwv64, va_up_ne _ _ (by omega)]; exact ea60
  have ea70 : wv64 (q + 5) = gAr (E.2.1 0) 36 (fun _ => 0) := by rw [hwv64, va_up_ne _ _ (by omega)]; exact ea61
  have ea71 : wv64 (q + 6) = gAr (E.2.1 0) 4 (fun _ => 0) := by rw [hwv64, va_up_ne _ _ (by omega)]; exact hwN6
  have hW72 : ∀ p, p < q → wv64 p = w p := fun p hp => by rw [hwv64, va_up_ne _ _ (by omega)]; exact hW63 p hp
  refine lv_aload_n hx hb dX7_init_51 rfl (lv_at hl 0 rfl) ?_
  refine g_get S hI hP uX7 rfl (fs := _) (by omega) he65 0 (by decide) q140 rfl (v := .ref (ad6 (q + 1))) rfl dX7_init_52 ?_
  refine g_bipush S 50 dX7_init_55 (by decide +kernel) ?_
  have hlv : bkP (q + 7) wv64 (q + 1) 1 (LVC E ad6 (q + 1) (fun _ => 0)) := ⟨by omega, fun k hk => by match k, hk with | 0, _ => exact ea66⟩
  refine g_afv (g_runSX S hI hP hS (k := 2) (As := [.ref (ad6 (q + 1)), .int (nI (50))]) (rest := []) (mJ7_fill_53178 l (q + 1) (fun _ => 0) 50 hlv) q137 q138 q84 q139 rfl rfl (by decide +kernel) ⟨Nat.le_of_ble_eq_true rfl, Nat.le_of_ble_eq_true rfl⟩ rfl hl.1 rfl (Nat.le_of_ble_eq_true rfl) ⟨(Nat.le_of_ble_eq_true rfl), (Nat.le_of_ble_eq_true rfl)⟩ dX7_init_57) hS (fun w1 H locs hq hP hS => ?_)
  obtain ⟨hb73, hf74⟩ := hq
  exact g_uvret S hr hlocks hP hS (⟨rfl, hA62, fun p hp => (hf74 p (by show ¬ _; (try dsimp only [gIn]); omega)).trans (hW72 p hp), ⟨Nat.le_refl _, fun k hk => by match k, hk with | 0, _ => (rw [hf74 (q + 0) (by show ¬ _; (try dsimp only [gIn]); omega)]; exact he65) | 1, _ => exact hb73.2 0 (by decide) | 2, _ => (rw [hf74 (q + 2) (by show ¬ _; (try dsimp only [gIn]); omega)]; exact ea67) | 3, _ => (rw [hf74 (q + 3) (by show ¬ _; (try dsimp only [gIn]); omega)]; exact ea68) | 4, _ => (rw [hf74 (q + 4) (by show ¬ _; (try dsimp only [gIn]); omega)]; exact ea69) | 5, _ => (rw [hf74 (q + 5) (by show ¬ _; (try dsimp only [gIn]); omega)]; exact ea70) | 6, _ => (rw [hf74 (q + 6) (by show ¬ _; (try dsimp only [gIn]); omega)]; exact ea71)⟩⟩) (Nat.le_of_ble_eq_true rfl) (Nat.le_of_ble_eq_true rfl) dX7_init_60
