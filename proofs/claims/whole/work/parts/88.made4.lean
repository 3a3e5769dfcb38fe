/-! THE MODEL IS MADE -/
def mg0 (i : Nat) : Nat → Nat := fun j => if 4 ≤ j ∧ j < 4 + i then 50 else 0
theorem mg0_0 : mg0 0 = fun _ => 0 := by funext j; unfold mg0; rw [if_neg (by omega)]
theorem mg0_s (i : Nat) : va_up (mg0 i) (4 + i) 50 = mg0 (i + 1) := by
  funext j
  by_cases h : j = 4 + i
  · subst h; rw [va_up_self]; unfold mg0; rw [if_pos (by omega)]
  · rw [va_up_ne _ _ h]; unfold mg0
    by_cases h2 : 4 ≤ j ∧ j < 4 + i
    · rw [if_pos h2, if_pos (by omega)]
    · rw [if_neg h2, if_neg (by omega)]
set_option maxHeartbeats 4000000 in
set_option maxRecDepth 100000 in
/-- the Model is made -/
theorem mX13_init (l : Launch) {E : gE} {ad : Nat → Nat} {w : Nat → va_E} (q : Nat)  (he : w q = .inr (16, [.null, .null, .null, .null, .null, .int 0, .int 0, .int 0, .int 0, .int 0, .int 0, .int 0, .int 0, .null, .int 0, .int 0, .null, .int 0, .null, .null, .null, .int 0, .null, .int 0]))  : gUv l yX13_init (lw_ws yX13_init cX13_init 2 none) ({ frames := 1, cells := 11, slots := 2176, locals := 20 } : Room) E ad (q + 1) w [.ref (ad (q))] (fun ad' N' w' => N' = q + 12 ∧ (∀ p, p < q + 1 → ad' p = ad p) ∧ (∀ p, p < q → w' p = w p) ∧ bkP N' w' q 12 (MDC E ad' q (mg0 36) (fun _ => 0) (fun _ => 0) (fun _ => 0) (fun _ => 0) (fun _ => 0) (fun _ => 0) (fun _ => 0) (fun _ => 0) (fun _ => 0) (fun _ => 0) 0 0 0 0 0 0 0 0 0 none 0 0 0)) 11 2176 := by
  refine Met.ofW (cc := cX13_init) (maxL := 2) (ret := none) (by decide) rfl ?_
  intro p e s m args below meth cd s₁ B hml hv
  obtain ⟨rfl, hI, hP⟩ := hv
  obtain ⟨S, hr, hlocks⟩ := gPre (ws := []) B hml (C := RX13) rfl
  have hx := S.1
  have hb := S.2.1
  have hS : va_S (gA E) s.heap s.heap [] := va_S.rf
  have hl := lv_entry ([.ref (ad (q))]) (n := 2) (Nat.le_of_ble_eq_true rfl)
  rw [lg_entry_eq]
  generalize (lg_sl ([.ref (ad (q))]) ++ List.replicate (2 - (lg_sl ([.ref (ad (q))])).length) Slot.unset).toArray = ls at hl ⊢
  have hl : lv_has ls 2 [(0, .ref (ad (q)))] := hl
  have hin2 : meth.name = "<init>" := (name_of_methodNamed B.named B.method).1
  have hA0 : ∀ p, p < q + 1 → ad p = ad p := fun _ _ => rfl
  have hW0 : ∀ p, p < q → w p = w p := fun _ _ => rfl
  refine lv_aload_n hx hb dX13_init_0 rfl (lv_at hl 0 rfl) ?_
  refine g_oinit S hl.1 q1786 q129 q130 dX13_init_1 (Nat.le_of_ble_eq_true rfl) (Nat.le_of_ble_eq_true rfl) ?_
  refine lv_aload_n hx hb dX13_init_4 rfl (lv_at hl 0 rfl) ?_
  refine g_sipush S 152 dX13_init_5 (by decide +kernel) ?_
  refine g_newaM S hI hP hS (atype := .int) 0 rfl (fun _ _ h => h) rfl q182 152 rfl (by decide) (Nat.le_of_ble_eq_true rfl) (Nat.le_of_ble_eq_true rfl) (Nat.le_of_ble_eq_true rfl) dX13_init_8 (fun ad1 wn1 H hP hS hadL1 hwL1 hwN1 => ?_)
  have hP : gP E ad1 (q + 2) wn1 H := hP
  rw [show ([.ref (ad1 (q + 1)), .ref (ad (q))] : List Value) = [.ref (ad1 (q + 1)), .ref (ad1 (q))] by rw [hadL1 (q) (by omega)]]
  have hl : lv_has ls 2 [(0, .ref (ad1 (q)))] := by rw [hadL1 (q) (by omega)]; exact hl
  have he1 : wn1 q = .inr (16, [.null, .null, .null, .null, .null, .int 0, .int 0, .int 0, .int 0, .int 0, .int 0, .int 0, .int 0, .null, .int 0, .int 0, .null, .int 0, .null, .null, .null, .int 0, .null, .int 0]) := by rw [hwL1 q (by omega), he]
  have hA2 : ∀ p, p < q + 1 → ad1 p = ad p := fun p hp => (hadL1 p (by omega)).trans (hA0 p hp)
  have hW3 : ∀ p, p < q → wn1 p = w p := fun p hp => (hwL1 p (by omega)).trans (hW0 p hp)
  refine g_putF S hI hP hS hin2 uX13 rfl tyX13 tyX13_ok nmX13 (q0 := q) (fs := [.null, .null, .null, .null, .null, .int 0, .int 0, .int 0, .int 0, .int 0, .int 0, .int 0, .int 0, .null, .int 0, .int 0, .null, .int 0, .null, .null, .null, .int 0, .null, .int 0]) (by omega) he1 0 (by decide) q1787 rfl rfl rfl (v := .ref (ad1 (q + 1))) rfl rfl (Nat.le_of_ble_eq_true rfl) dX13_init_10 (fun H locs hP hS => ?_)
  have hP : gP E ad1 (q + 2) (va_up wn1 q (.inr (16, [.ref (ad1 (q + 1)), .null, .null, .null, .null, .int 0, .int 0, .int 0, .int 0, .int 0, .int 0, .int 0, .int 0, .null, .int 0, .int 0, .null, .int 0, .null, .null, .null, .int 0, .null, .int 0]))) H := hP
  obtain ⟨wv4, hwv4⟩ : ∃ z, z = va_up wn1 q (.inr (16, [.ref (ad1 (q + 1)), .null, .null, .null, .null, .int 0, .int 0, .int 0, .int 0, .int 0, .int 0, .int 0, .int 0, .null, .int 0, .int 0, .null, .int 0, .null, .null, .null, .int 0, .null, .int 0]) : va_E) := ⟨_, rfl⟩
  rw [← hwv4] at hP
  have he5 : wv4 q = .inr (16, [.ref (ad1 (q + 1)), .null, .null, .null, .null, .int 0, .int 0, .int 0, .int 0, .int 0, .int 0, .int 0, .int 0, .null, .int 0, .int 0, .null, .int 0, .null, .null, .null, .int 0, .null, .int 0]) := by rw [hwv4, va_up_self]
  have ea6 : wv4 (q + 1) = gAr (E.2.1 0) 152 (fun _ => 0) := by rw [hwv4, va_up_ne _ _ (by omega)]; exact hwN1
  have hW7 : ∀ p, p < q → wv4 p = w p := fun p hp => by rw [hwv4, va_up_ne _ _ (by omega)]; exact hW3 p hp
  refine lv_aload_n hx hb dX13_init_13 rfl (lv_at hl 0 rfl) ?_
  refine g_sipush S 1216 dX13_init_14 (by decide +kernel) ?_
  refine g_newaM S hI hP hS (atype := .int) 0 rfl (fun _ _ h => h) rfl q182 1216 rfl (by decide) (Nat.le_of_ble_eq_true rfl) (Nat.le_of_ble_eq_true rfl) (Nat.le_of_ble_eq_true rfl) dX13_init_17 (fun ad2 wn2 H hP hS hadL2 hwL2 hwN2 => ?_)
  have hP : gP E ad2 (q + 3) wn2 H := hP
  rw [show ([.ref (ad2 (q + 2)), .ref (ad1 (q))] : List Value) = [.ref (ad2 (q + 2)), .ref (ad2 (q))] by rw [hadL2 (q) (by omega)]]
  have hl : lv_has ls 2 [(0, .ref (ad2 (q)))] := by rw [hadL2 (q) (by omega)]; exact hl
  have he8 : wn2 q = .inr (16, [.ref (ad2 (q + 1)), .null, .null, .null, .null, .int 0, .int 0, .int 0, .int 0, .int 0, .int 0, .int 0, .int 0, .null, .int 0, .int 0, .null, .int 0, .null, .null, .null, .int 0, .null, .int 0]) := by rw [hwL2 q (by omega), he5, hadL2 (q + 1) (by omega)]
  have ea9 : wn2 (q + 1) = gAr (E.2.1 0) 152 (fun _ => 0) := by rw [hwL2 (q + 1) (by omega)]; exact ea6
  have hA10 : ∀ p, p < q + 1 → ad2 p = ad p := fun p hp => (hadL2 p (by omega)).trans (hA2 p hp)
  have hW11 : ∀ p, p < q → wn2 p = w p := fun p hp => (hwL2 p (by omega)).trans (hW7 p hp)
  refine g_putF S hI hP hS hin2 uX13 rfl tyX13 tyX13_ok nmX13 (q0 := q) (fs := [.ref (ad2 (q + 1)), .null, .null, .null, .null, .int 0, .int 0, .int 0, .int 0, .int 0, .int 0, .int 0, .int 0, .null, .int 0, .int 0, .null, .int 0, .null, .null, .null, .int 0, .null, .int 0]) (by omega) he8 1 (by decide) q1788 rfl rfl rfl (v := .ref (ad2 (q + 2))) rfl rfl (Nat.le_of_ble_eq_true rfl) dX13_init_19 (fun H locs hP hS => ?_)
  have hP : gP E ad2 (q + 3) (va_up wn2 q (.inr (16, [.ref (ad2 (q + 1)), .ref (ad2 (q + 2)), .null, .null, .null, .int 0, .int 0, .int 0, .int 0, .int 0, .int 0, .int 0, .int 0, .null, .int 0, .int 0, .null, .int 0, .null, .null, .null, .int 0, .null, .int 0]))) H := hP
  obtain ⟨wv12, hwv12⟩ : ∃ z, z = va_up wn2 q (.inr (16, [.ref (ad2 (q + 1)), .ref (ad2 (q + 2)), .null, .null, .null, .int 0, .int 0, .int 0, .int 0, .int 0, .int 0, .int 0, .int 0, .null, .int 0, .int 0, .null, .int 0, .null, .null, .null, .int 0, .null, .int 0]) : va_E) := ⟨_, rfl⟩
  rw [← hwv12] at hP
  have he13 : wv12 q = .inr (16, [.ref (ad2 (q + 1)), .ref (ad2 (q + 2)), .null, .null, .null, .int 0, .int 0, .int 0, .int 0, .int 0, .int 0, .int 0, .int 0, .null, .int 0, .int 0, .null, .int 0, .null, .null, .null, .int 0, .null, .int 0]) := by rw [hwv12, va_up_self]
  have ea14 : wv12 (q + 1) = gAr (E.2.1 0) 152 (fun _ => 0) := by rw [hwv12, va_up_ne _ _ (by omega)]; exact ea9
  have ea15 : wv12 (q + 2) = gAr (E.2.1 0) 1216 (fun _ => 0) := by rw [hwv12, va_up_ne _ _ (by omega)]; exact hwN2
  have hW16 : ∀ p, p < q → wv12 p = w p := fun p hp => by rw [hwv12, va_up_ne _ _ (by omega)]; exact hW11 p hp
  refine lv_aload_n hx hb dX13_init_22 rfl (lv_at hl 0 rfl) ?_
  refine g_sipush S 152 dX13_init_23 (by decide +kernel) ?_
  refine g_newaM S hI hP hS (atype := .int) 0 rfl (fun _ _ h => h) rfl q182 152 rfl (by decide) (Nat.le_of_ble_eq_true rfl) (Nat.le_of_ble_eq_true rfl) (Nat.le_of_ble_eq_true rfl) dX13_init_26 (fun ad3 wn3 H hP hS hadL3 hwL3 hwN3 => ?_)
  have hP : gP E ad3 (q + 4) wn3 H := hP
  rw [show ([.ref (ad3 (q + 3)), .ref (ad2 (q))] : List Value) = [.ref (ad3 (q + 3)), .ref (ad3 (q))] by rw [hadL3 (q) (by omega)]]
  have hl : lv_has ls 2 [(0, .ref (ad3 (q)))] := by rw [hadL3 (q) (by omega)]; exact hl
  have he17 : wn3 q = .inr (16, [.ref (ad3 (q + 1)), .ref (ad3 (q + 2)), .null, .null, .null, .int 0, .int 0, .int 0, .int 0, .int 0, .int 0, .int 0, .int 0, .null, .int 0, .int 0, .null, .int 0, .null, .null, .null, .int 0, .null, .int 0]) := by rw [hwL3 q (by omega), he13, hadL3 (q + 1) (by omega), hadL3 (q + 2) (by omega)]
  have ea18 : wn3 (q + 1) = gAr (E.2.1 0) 152 (fun _ => 0) := by rw [hwL3 (q + 1) (by omega)]; exact ea14
  have ea19 : wn3 (q + 2) = gAr (E.2.1 0) 1216 (fun _ => 0) := by rw [hwL3 (q + 2) (by omega)]; exact ea15
  have hA20 : ∀ p, p < q + 1 → ad3 p = ad p := fun p hp => (hadL3 p (by omega)).trans (hA10 p hp)
  have hW21 : ∀ p, p < q → wn3 p = w p := fun p hp => (hwL3 p (by omega)).trans (hW16 p hp)
  refine g_putF S hI hP hS hin2 uX13 rfl tyX13 tyX13_ok nmX13 (q0 := q) (fs := [.ref (ad3 (q + 1)), .ref (ad3 (q + 2)), .null, .null, .null, .int 0, .int 0, .int 0, .int 0, .int 0, .int 0, .int 0, .int 0, .null, .int 0, .int 0, .null, .int 0, .null, .null, .null, .int 0, .null, .int 0]) (by omega) he17 2 (by decide) q1789 rfl rfl rfl (v := .ref (ad3 (q + 3))) rfl rfl (Nat.le_of_ble_eq_true rfl) dX13_init_28 (fun H locs hP hS => ?_)
  have hP : gP E ad3 (q + 4) (va_up wn3 q (.inr (16, [.ref (ad3 (q + 1)), .ref (ad3 (q + 2)), .ref (ad3 (q + 3)), .null, .null, .int 0, .int 0, .int 0, .int 0, .int 0, .int 0, .int 0, .int 0, .null, .int 0, .int 0, .null, .int 0, .null, .null, .null, .int 0, .null, .int 0]))) H := hP
  obtain ⟨wv22, hwv22⟩ : ∃ z, z = va_up wn3 q (.inr (16, [.ref (ad3 (q + 1)), .ref (ad3 (q + 2)), .ref (ad3 (q + 3)), .null, .null, .int 0, .int 0, .int 0, .int 0, .int 0, .int 0, .int 0, .int 0, .null, .int 0, .int 0, .null, .int 0, .null, .null, .null, .int 0, .null, .int 0]) : va_E) := ⟨_, rfl⟩
  rw [← hwv22] at hP
  have he23 : wv22 q = .inr (16, [.ref (ad3 (q + 1)), .ref (ad3 (q + 2)), .ref (ad3 (q + 3)), .null, .null, .int 0, .int 0, .int 0, .int 0, .int 0, .int 0, .int 0, .int 0, .null, .int 0, .int 0, .null, .int 0, .null, .null, .null, .int 0, .null, .int 0]) := by rw [hwv22, va_up_self]
  have ea24 : wv22 (q + 1) = gAr (E.2.1 0) 152 (fun _ => 0) := by rw [hwv22, va_up_ne _ _ (by omega)]; exact ea18
  have ea25 : wv22 (q + 2) = gAr (E.2.1 0) 1216 (fun _ => 0) := by rw [hwv22, va_up_ne _ _ (by omega)]; exact ea19
  have ea26 : wv22 (q + 3) = gAr (E.2.1 0) 152 (fun _ => 0) := by rw [hwv22, va_up_ne _ _ (by omega)]; exact hwN3
  have hW27 : ∀ p, p < q → wv22 p = w p := fun p hp => by rw [hwv22, va_up_ne _ _ (by omega)]; exact hW21 p hp
  refine lv_aload_n hx hb dX13_init_31 rfl (lv_at hl 0 rfl) ?_
  refine g_sipush S 152 dX13_init_32 (by decide +kernel) ?_
  refine g_newaM S hI hP hS (atype := .int) 0 rfl (fun _ _ h => h) rfl q182 152 rfl (by decide) (Nat.le_of_ble_eq_true rfl) (Nat.le_of_ble_eq_true rfl) (Nat.le_of_ble_eq_true rfl) dX13_init_35 (fun ad4 wn4 H hP hS hadL4 hwL4 hwN4 => ?_)
  have hP : gP E ad4 (q + 5) wn4 H := hP
  rw [show ([.ref (ad4 (q + 4)), .ref (ad3 (q))] : List Value) = [.ref (ad4 (q + 4)), .ref (ad4 (q))] by rw [hadL4 (q) (by omega)]]
  have hl : lv_has ls 2 [(0, .ref (ad4 (q)))] := by rw [hadL4 (q) (by omega)]; exact hl
  have he28 : wn4 q = .inr (16, [.ref (ad4 (q + 1)), .ref (ad4 (q + 2)), .ref (ad4 (q + 3)), .null, .null, .int 0, .int 0, .int 0, .int 0, .int 0, .int 0, .int 0, .int 0, .null, .int 0, .int 0, .null, .int 0, .null, .null, .null, .int 0, .null, .int 0]) := by rw [hwL4 q (by omega), he23, hadL4 (q + 1) (by omega), hadL4 (q + 2) (by omega), hadL4 (q + 3) (by omega)]
  have ea29 : wn4 (q + 1) = gAr (E.2.1 0) 152 (fun _ => 0) := by rw [hwL4 (q + 1) (by omega)]; exact ea24
  have ea30 : wn4 (q + 2) = gAr (E.2.1 0) 1216 (fun _ => 0) := by rw [hwL4 (q + 2) (by omega)]; exact ea25
  have ea31 : wn4 (q + 3) = gAr (E.2.1 0) 152 (fun _ => 0) := by rw [hwL4 (q + 3) (by omega)]; exact ea26
  have hA32 : ∀ p, p < q + 1 → ad4 p = ad p := fun p hp => (hadL4 p (by omega)).trans (hA20 p hp)
  have hW33 : ∀ p, p < q → wn4 p = w p := fun p hp => (hwL4 p (by omega)).trans (hW27 p hp)
  refine g_putF S hI hP hS hin2 uX13 rfl tyX13 tyX13_ok nmX13 (q0 := q) (fs := [.ref (ad4 (q + 1)), .ref (ad4 (q + 2)), .ref (ad4 (q + 3)), .null, .null, .int 0, .int 0, .int 0, .int 0, .int 0, .int 0, .int 0, .int 0, .null, .int 0, .int 0, .null, .int 0, .null, .null, .null, .int 0, .null, .int 0]) (by omega) he28 3 (by decide) q1790 rfl rfl rfl (v := .ref (ad4 (q + 4))) rfl rfl (Nat.le_of_ble_eq_true rfl) dX13_init_37 (fun H locs hP hS => ?_)
  have hP : gP E ad4 (q + 5) (va_up wn4 q (.inr (16, [.ref (ad4 (q + 1)), .ref (ad4 (q + 2)), .ref (ad4 (q + 3)), .ref (ad4 (q + 4)), .null, .int 0, .int 0, .int 0, .int 0, .int 0, .int 0, .int 0, .int 0, .null, .int 0, .int 0, .null, .int 0, .null, .null, .null, .int 0, .null, .int 0]))) H := hP
  obtain ⟨wv34, hwv34⟩ : ∃ z, z = va_up wn4 q (.inr (16, [.ref (ad4 (q + 1)), .ref (ad4 (q + 2)), .ref (ad4 (q + 3)), .ref (ad4 (q + 4)), .null, .int 0, .int 0, .int 0, .int 0, .int 0, .int 0, .int 0, .int 0, .null, .int 0, .int 0, .null, .int 0, .null, .null, .null, .int 0, .null, .int 0]) : va_E) := ⟨_, rfl⟩
  rw [← hwv34] at hP
  have he35 : wv34 q = .inr (16, [.ref (ad4 (q + 1)), .ref (ad4 (q + 2)), .ref (ad4 (q + 3)), .ref (ad4 (q + 4)), .null, .int 0, .int 0, .int 0, .int 0, .int 0, .int 0, .int 0, .int 0, .null, .int 0, .int 0, .null, .int 0, .null, .null, .null, .int 0, .null, .int 0]) := by rw [hwv34, va_up_self]
  have ea36 : wv34 (q + 1) = gAr (E.2.1 0) 152 (fun _ => 0) := by rw [hwv34, va_up_ne _ _ (by omega)]; exact ea29
  have ea37 : wv34 (q + 2) = gAr (E.2.1 0) 1216 (fun _ => 0) := by rw [hwv34, va_up_ne _ _ (by omega)]; exact ea30
  have ea38 : wv34 (q + 3) = gAr (E.2.1 0) 152 (fun _ => 0) := by rw [hwv34, va_up_ne _ _ (by omega)]; exact ea31
  have ea39 : wv34 (q + 4) = gAr (E.2.1 0) 152 (fun _ => 0) := by rw [hwv34, va_up_ne _ _ (by omega)]; exact hwN4
  have hW40 : ∀ p, p < q → wv34 p = w p := fun p hp => by rw [hwv34, va_up_ne _ _ (by omega)]; exact hW33 p hp
  refine lv_aload_n hx hb dX13_init_40 rfl (lv_at hl 0 rfl) ?_
  refine g_sipush S 152 dX13_init_41 (by decide +kernel) ?_
  refine g_newaM S hI hP hS (atype := .int) 0 rfl (fun _ _ h => h) rfl q182 152 rfl (by decide) (Nat.le_of_ble_eq_true rfl) (Nat.le_of_ble_eq_true rfl) (Nat.le_of_ble_eq_true rfl) dX13_init_44 (fun ad5 wn5 H hP hS hadL5 hwL5 hwN5 => ?_)
  have hP : gP E ad5 (q + 6) wn5 H := hP
  rw [show ([.ref (ad5 (q + 5)), .ref (ad4 (q))] : List Value) = [.ref (ad5 (q + 5)), .ref (ad5 (q))] by rw [hadL5 (q) (by omega)]]
  have hl : lv_has ls 2 [(0, .ref (ad5 (q)))] := by rw [hadL5 (q) (by omega)]; exact hl
  have he41 : wn5 q = .inr (16, [.ref (ad5 (q + 1)), .ref (ad5 (q + 2)), .ref (ad5 (q + 3)), .ref (ad5 (q + 4)), .null, .int 0, .int 0, .int 0, .int 0, .int 0, .int 0, .int 0, .int 0, .null, .int 0, .int 0, .null, .int 0, .null, .null, .null, .int 0, .null, .int 0]) := by rw [hwL5 q (by omega), he35, hadL5 (q + 1) (by omega), hadL5 (q + 2) (by omega), hadL5 (q + 3) (by omega), hadL5 (q + 4) (by omega)]
  have ea42 : wn5 (q + 1) = gAr (E.2.1 0) 152 (fun _ => 0) := by rw [hwL5 (q + 1) (by omega)]; exact ea36
  have ea43 : wn5 (q + 2) = gAr (E.2.1 0) 1216 (fun _ => 0) := by rw [hwL5 (q + 2) (by omega)]; exact ea37
  have ea44 : wn5 (q + 3) = gAr (E.2.1 0) 152 (fun _ => 0) := by rw [hwL5 (q + 3) (by omega)]; exact ea38
  have ea45 : wn5 (q + 4) = gAr (E.2.1 0) 152 (fun _ => 0) := by rw [hwL5 (q + 4) (by omega)]; exact ea39
  have hA46 : ∀ p, p < q + 1 → ad5 p = ad p := fun p hp => (hadL5 p (by omega)).trans (hA32 p hp)
  have hW47 : ∀ p, p < q → wn5 p = w p := fun p hp => (hwL5 p (by omega)).trans (hW40 p hp)
  refine g_putF S hI hP hS hin2 uX13 rfl tyX13 tyX13_ok nmX13 (q0 := q) (fs := [.ref (ad5 (q + 1)), .ref (ad5 (q + 2)), .ref (ad5 (q + 3)), .ref (ad5 (q + 4)), .null, .int 0, .int 0, .int 0, .int 0, .int 0, .int 0, .int 0, .int 0, .null, .int 0, .int 0, .null, .int 0, .null, .null, .null, .int 0, .null, .int 0]) (by omega) he41 4 (by decide) q1791 rfl rfl rfl (v := .ref (ad5 (q + 5))) rfl rfl (Nat.le_of_ble_eq_true rfl) dX13_init_46 (fun H locs hP hS => ?_)
  have hP : gP E ad5 (q + 6) (va_up wn5 q (.inr (16, [.ref (ad5 (q + 1)), .ref (ad5 (q + 2)), .ref (ad5 (q + 3)), .ref (ad5 (q + 4)), .ref (ad5 (q + 5)), .int 0, .int 0, .int 0, .int 0, .int 0, .int 0, .int 0, .int 0, .null, .int 0, .int 0, .null, .int 0, .null, .null, .null, .int 0, .null, .int 0]))) H := hP
  obtain ⟨wv48, hwv48⟩ : ∃ z, z = va_up wn5 q (.inr (16, [.ref (ad5 (q + 1)), .ref (ad5 (q + 2)), .ref (ad5 (q + 3)), .ref (ad5 (q + 4)), .ref (ad5 (q + 5)), .int 0, .int 0, .int 0, .int 0, .int 0, .int 0, .int 0, .int 0, .null, .int 0, .int 0, .null, .int 0, .null, .null, .null, .int 0, .null, .int 0]) : va_E) := ⟨_, rfl⟩
  rw [← hwv48] at hP
  have he49 : wv48 q = .inr (16, [.ref (ad5 (q + 1)), .ref (ad5 (q + 2)), .ref (ad5 (q + 3)), .ref (ad5 (q + 4)), .ref (ad5 (q + 5)), .int 0, .int 0, .int 0, .int 0, .int 0, .int 0, .int 0, .int 0, .null, .int 0, .int 0, .null, .int 0, .null, .null, .null, .int 0, .null, .int 0]) := by rw [hwv48, va_up_self]
  have ea50 : wv48 (q + 1) = gAr (E.2.1 0) 152 (fun _ => 0) := by rw [hwv48, va_up_ne _ _ (by omega)]; exact ea42
  have ea51 : wv48 (q + 2) = gAr (E.2.1 0) 1216 (fun _ => 0) := by rw [hwv48, va_up_ne _ _ (by omega)]; exact ea43
  have ea52 : wv48 (q + 3) = gAr (E.2.1 0) 152 (fun _ => 0) := by rw [hwv48, va_up_ne _ _ (by omega)]; exact ea44
  have ea53 : wv48 (q + 4) = gAr (E.2.1 0) 152 (fun _ => 0) := by rw [hwv48, va_up_ne _ _ (by omega)]; exact ea45
  have ea54 : wv48 (q + 5) = gAr (E.2.1 0) 152 (fun _ => 0) := by rw [hwv48, va_up_ne _ _ (by omega)]; exact hwN5
  have hW55 : ∀ p, p < q → wv48 p = w p := fun p hp => by rw [hwv48, va_up_ne _ _ (by omega)]; exact hW47 p hp
  refine lv_aload_n hx hb dX13_init_49 rfl (lv_at hl 0 rfl) ?_
  refine g_bipush S 60 dX13_init_50 (by decide +kernel) ?_
  refine g_newaM S hI hP hS (atype := .int) 0 rfl (fun _ _ h => h) rfl q182 60 rfl (by decide) (Nat.le_of_ble_eq_true rfl) (Nat.le_of_ble_eq_true rfl) (Nat.le_of_ble_eq_true rfl) dX13_init_52 (fun ad6 wn6 H hP hS hadL6 hwL6 hwN6 => ?_)
  have hP : gP E ad6 (q + 7) wn6 H := hP
  rw [show ([.ref (ad6 (q + 6)), .ref (ad5 (q))] : List Value) = [.ref (ad6 (q + 6)), .ref (ad6 (q))] by rw [hadL6 (q) (by omega)]]
  have hl : lv_has ls 2 [(0, .ref (ad6 (q)))] := by rw [hadL6 (q) (by omega)]; exact hl
  have he56 : wn6 q = .inr (16, [.ref (ad6 (q + 1)), .ref (ad6 (q + 2)), .ref (ad6 (q + 3)), .ref (ad6 (q + 4)), .ref (ad6 (q + 5)), .int 0, .int 0, .int 0, .int 0, .int 0, .int 0, .int 0, .int 0, .null, .int 0, .int 0, .null, .int 0, .null, .null, .null, .int 0, .null, .int 0]) := by rw [hwL6 q (by omega), he49, hadL6 (q + 1) (by omega), hadL6 (q + 2) (by omega), hadL6 (q + 3) (by omega), hadL6 (q + 4) (by omega), hadL6 (q + 5) (by omega)]
  have ea57 : wn6 (q + 1) = gAr (E.2.1 0) 152 (fun _ => 0) := by rw [hwL6 (q + 1) (by omega)]; exact ea50
  have ea58 : wn6 (q + 2) = gAr (E.2.1 0) 1216 (fun _ => 0) := by rw [hwL6 (q + 2) (by omega)]; exact ea51
  have ea59 : wn6 (q + 3) = gAr (E.2.1 0) 152 (fun _ => 0) := by rw [hwL6 (q + 3) (by omega)]; exact ea52
  have ea60 : wn6 (q + 4) = gAr (E.2.1 0) 152 (fun _ => 0) := by rw [hwL6 (q + 4) (by omega)]; exact ea53
  have ea61 : wn6 (q + 5) = gAr (E.2.1 0) 152 (fun _ => 0) := by rw [hwL6 (q + 5) (by omega)]; exact ea54
  have hA62 : ∀ p, p < q + 1 → ad6 p = ad p := fun p hp => (hadL6 p (by omega)).trans (hA46 p hp)
  have hW63 : ∀ p, p < q → wn6 p = w p := fun p hp => (hwL6 p (by omega)).trans (hW55 p hp)
  refine g_putF S hI hP hS hin2 uX13 rfl tyX13 tyX13_ok nmX13 (q0 := q) (fs := [.ref (ad6 (q + 1)), .ref (ad6 (q + 2)), .ref (ad6 (q + 3)), .ref (ad6 (q + 4)), .ref (ad6 (q + 5)), .int 0, .int 0, .int 0, .int 0, .int 0, .int 0, .int 0, .int 0, .null, .int 0, .int 0, .null, .int 0, .null, .null, .null, .int 0, .null, .int 0]) (by omega) he56 13 (by decide) q1800 rfl rfl rfl (v := .ref (ad6 (q + 6))) rfl rfl (Nat.le_of_ble_eq_true rfl) dX13_init_54 (fun H locs hP hS => ?_)
  have hP : gP E ad6 (q + 7) (va_up wn6 q (.inr (16, [.ref (ad6 (q + 1)), .ref (ad6 (q + 2)), .ref (ad6 (q + 3)), .ref (ad6 (q + 4)), .ref (ad6 (q + 5)), .int 0, .int 0, .int 0, .int 0, .int 0, .int 0, .int 0, .int 0, .ref (ad6 (q + 6)), .int 0, .int 0, .null, .int 0, .null, .null, .null, .int 0, .null, .int 0]))) H := hP
  obtain ⟨wv64, hwv64⟩ : ∃ z, z = va_up wn6 q (.inr (16, [.ref (ad6 (q + 1)), .ref (ad6 (q + 2)), .ref (ad6 (q + 3)), .ref (ad6 (q + 4)), .ref (ad6 (q + 5)), .int 0, .int 0, .int 0, .int 0, .int 0, .int 0, .int 0, .int 0, .ref (ad6 (q + 6)), .int 0, .int 0, .null, .int 0, .null, .null, .null, .int 0, .null, .int 0]) : va_E) := ⟨_, rfl⟩
  rw [← hwv64] at hP
  have he65 : wv64 q = .inr (16, [.ref (ad6 (q + 1)), .ref (ad6 (q + 2)), .ref (ad6 (q + 3)), .ref (ad6 (q + 4)), .ref (ad6 (q + 5)), .int 0, .int 0, .int 0, .int 0, .int 0, .int 0, .int 0, .int 0, .ref (ad6 (q + 6)), .int 0, .int 0, .null, .int 0, .null, .null, .null, .int 0, .null, .int 0]) := by rw [hwv64, va_up_self]
  have ea66 : wv64 (q + 1) = gAr (E.2.1 0) 152 (fun _ => 0) := by rw [hwv64, va_up_ne _ _ (by omega)]; exact ea57
  have ea67 : wv64 (q + 2) = gAr (E.2.1 0) 1216 (fun _ => 0) := by rw [hwv64, va_up_ne _ _ (by omega)]; exact ea58
  have ea68 : wv64 (q + 3) = gAr (E.2.1 0) 152 (fun _ => 0) := by rw [hwv64, va_up_ne _ _ (by omega)]; exact ea59
  have ea69 : wv64 (q + 4) = gAr (E.2.1 0) 152 (fun _ => 0) := by rw [hwv64, va_up_ne _ _ (by omega)]; exact ea60
  have ea70 : wv64 (q + 5) = gAr (E.2.1 0) 152 (fun _ => 0) := by rw [hwv64, va_up_ne _ _ (by omega)]; exact ea61
  have ea71 : wv64 (q + 6) = gAr (E.2.1 0) 60 (fun _ => 0) := by rw [hwv64, va_up_ne _ _ (by omega)]; exact hwN6
  have hW72 : ∀ p, p < q → wv64 p = w p := fun p hp => by rw [hwv64, va_up_ne _ _ (by omega)]; exact hW63 p hp
  refine lv_aload_n hx hb dX13_init_57 rfl (lv_at hl 0 rfl) ?_
  refine lv_iconst (v := -1) hx hb dX13_init_58 (by decide +kernel) ?_
  refine g_put S hI hP hS uX13 rfl tyX13 tyX13_ok nmX13 (q0 := q) (fs := [.ref (ad6 (q + 1)), .ref (ad6 (q + 2)), .ref (ad6 (q + 3)), .ref (ad6 (q + 4)), .ref (ad6 (q + 5)), .int 0, .int 0, .int 0, .int 0, .int 0, .int 0, .int 0, .int 0, .ref (ad6 (q + 6)), .int 0, .int 0, .null, .int 0, .null, .null, .null, .int 0, .null, .int 0]) (by omega) he65 15 (by decide) q1802 rfl rfl (v := .int (-1)) rfl rfl (Nat.le_of_ble_eq_true rfl) dX13_init_59 (fun H locs hP hS => ?_)
  have hP : gP E ad6 (q + 7) (va_up wv64 q (.inr (16, [.ref (ad6 (q + 1)), .ref (ad6 (q + 2)), .ref (ad6 (q + 3)), .ref (ad6 (q + 4)), .ref (ad6 (q + 5)), .int 0, .int 0, .int 0, .int 0, .int 0, .int 0, .int 0, .int 0, .ref (ad6 (q + 6)), .int 0, .int (-1), .null, .int 0, .null, .null, .null, .int 0, .null, .int 0]))) H := hP
  obtain ⟨wv73, hwv73⟩ : ∃ z, z = va_up wv64 q (.inr (16, [.ref (ad6 (q + 1)), .ref (ad6 (q + 2)), .ref (ad6 (q + 3)), .ref (ad6 (q + 4)), .ref (ad6 (q + 5)), .int 0, .int 0, .int 0, .int 0, .int 0, .int 0, .int 0, .int 0, .ref (ad6 (q + 6)), .int 0, .int (-1), .null, .int 0, .null, .null, .null, .int 0, .null, .int 0]) : va_E) := ⟨_, rfl⟩
  rw [← hwv73] at hP
  have he74 : wv73 q = .inr (16, [.ref (ad6 (q + 1)), .ref (ad6 (q + 2)), .ref (ad6 (q + 3)), .ref (ad6 (q + 4)), .ref (ad6 (q + 5)), .int 0, .int 0, .int 0, .int 0, .int 0, .int 0, .int 0, .int 0, .ref (ad6 (q + 6)), .int 0, .int (-1), .null, .int 0, .null, .null, .null, .int 0, .null, .int 0]) := by rw [hwv73, va_up_self]
  have ea75 : wv73 (q + 1) = gAr (E.2.1 0) 152 (fun _ => 0) := by rw [hwv73, va_up_ne _ _ (by omega)]; exact ea66
  have ea76 : wv73 (q + 2) = gAr (E.2.1 0) 1216 (fun _ => 0) := by rw [hwv73, va_up_ne _ _ (by omega)]; exact ea67
  have ea77 : wv73 (q + 3) = gAr (E.2.1 0) 152 (fun _ => 0) := by rw [hwv73, va_up_ne _ _ (by omega)]; exact ea68
  have ea78 : wv73 (q + 4) = gAr (E.2.1 0) 152 (fun _ => 0) := by rw [hwv73, va_up_ne _ _ (by omega)]; exact ea69
  have ea79 : wv73 (q + 5) = gAr (E.2.1 0) 152 (fun _ => 0) := by rw [hwv73, va_up_ne _ _ (by omega)]; exact ea70
  have ea80 : wv73 (q + 6) = gAr (E.2.1 0) 60 (fun _ => 0) := by rw [hwv73, va_up_ne _ _ (by omega)]; exact ea71
  have hW81 : ∀ p, p < q → wv73 p = w p := fun p hp => by rw [hwv73, va_up_ne _ _ (by omega)]; exact hW72 p hp
  refine lv_aload_n hx hb dX13_init_62 rfl (lv_at hl 0 rfl) ?_
  refine g_bipush S 60 dX13_init_63 (by decide +kernel) ?_
  refine g_newaM S hI hP hS (atype := .char) 2 rfl (fun _ _ h => h) rfl q344 60 rfl (by decide) (Nat.le_of_ble_eq_true rfl) (Nat.le_of_ble_eq_true rfl) (Nat.le_of_ble_eq_true rfl) dX13_init_65 (fun ad7 wn7 H hP hS hadL7 hwL7 hwN7 => ?_)
  have hP : gP E ad7 (q + 8) wn7 H := hP
  rw [show ([.ref (ad7 (q + 7)), .ref (ad6 (q))] : List Value) = [.ref (ad7 (q + 7)), .ref (ad7 (q))] by rw [hadL7 (q) (by omega)]]
  have hl : lv_has ls 2 [(0, .ref (ad7 (q)))] := by rw [hadL7 (q) (by omega)]; exact hl
  have he82 : wn7 q = .inr (16, [.ref (ad7 (q + 1)), .ref (ad7 (q + 2)), .ref (ad7 (q + 3)), .ref (ad7 (q + 4)), .ref (ad7 (q + 5)), .int 0, .int 0, .int 0, .int 0, .int 0, .int 0, .int 0, .int 0, .ref (ad7 (q + 6)), .int 0, .int (-1), .null, .int 0, .null, .null, .null, .int 0, .null, .int 0]) := by rw [hwL7 q (by omega), he74, hadL7 (q + 1) (by omega), hadL7 (q + 2) (by omega), hadL7 (q + 3) (by omega), hadL7 (q + 4) (by omega), hadL7 (q + 5) (by omega), hadL7 (q + 6) (by omega)]
  have ea83 : wn7 (q + 1) = gAr (E.2.1 0) 152 (fun _ => 0) := by rw [hwL7 (q + 1) (by omega)]; exact ea75
  have ea84 : wn7 (q + 2) = gAr (E.2.1 0) 1216 (fun _ => 0) := by rw [hwL7 (q + 2) (by omega)]; exact ea76
  have ea85 : wn7 (q + 3) = gAr (E.2.1 0) 152 (fun _ => 0) := by rw [hwL7 (q + 3) (by omega)]; exact ea77
  have ea86 : wn7 (q + 4) = gAr (E.2.1 0) 152 (fun _ => 0) := by rw [hwL7 (q + 4) (by omega)]; exact ea78
  have ea87 : wn7 (q + 5) = gAr (E.2.1 0) 152 (fun _ => 0) := by rw [hwL7 (q + 5) (by omega)]; exact ea79
  have ea88 : wn7 (q + 6) = gAr (E.2.1 0) 60 (fun _ => 0) := by rw [hwL7 (q + 6) (by omega)]; exact ea80
  have hA89 : ∀ p, p < q + 1 → ad7 p = ad p := fun p hp => (hadL7 p (by omega)).trans (hA62 p hp)
  have hW90 : ∀ p, p < q → wn7 p = w p := fun p hp => (hwL7 p (by omega)).trans (hW81 p hp)
  refine g_putF S hI hP hS hin2 uX13 rfl tyX13 tyX13_ok nmX13 (q0 := q) (fs := [.ref (ad7 (q + 1)), .ref (ad7 (q + 2)), .ref (ad7 (q + 3)), .ref (ad7 (q + 4)), .ref (ad7 (q + 5)), .int 0, .int 0, .int 0, .int 0, .int 0, .int 0, .int 0, .int 0, .ref (ad7 (q + 6)), .int 0, .int (-1), .null, .int 0, .null, .null, .null, .int 0, .null, .int 0]) (by omega) he82 16 (by decide) q1803 rfl rfl rfl (v := .ref (ad7 (q + 7))) rfl rfl (Nat.le_of_ble_eq_true rfl) dX13_init_67 (fun H locs hP hS => ?_)
  have hP : gP E ad7 (q + 8) (va_up wn7 q (.inr (16, [.ref (ad7 (q + 1)), .ref (ad7 (q + 2)), .ref (ad7 (q + 3)), .ref (ad7 (q + 4)), .ref (ad7 (q + 5)), .int 0, .int 0, .int 0, .int 0, .int 0, .int 0, .int 0, .int 0, .ref (ad7 (q + 6)), .int 0, .int (-1), .ref (ad7 (q + 7)), .int 0, .null, .null, .null, .int 0, .null, .int 0]))) H := hP
  obtain ⟨wv91, hwv91⟩ : ∃ z, z = va_up wn7 q (.inr (16, [.ref (ad7 (q + 1)), .ref (ad7 (q + 2)), .ref (ad7 (q + 3)), .ref (ad7 (q + 4)), .ref (ad7 (q + 5)), .int 0, .int 0, .int 0, .int 0, .int 0, .int 0, .int 0, .int 0, .ref (ad7 (q + 6)), .int 0, .int (-1), .ref (ad7 (q + 7)), .int 0, .null, .null, .null, .int 0, .null, .int 0]) : va_E) := ⟨_, rfl⟩
  rw [← hwv91] at hP
  have he92 : wv91 q = .inr (16, [.ref (ad7 (q + 1)), .ref (ad7 (q + 2)), .ref (ad7 (q + 3)), .ref (ad7 (q + 4)), .ref (ad7 (q + 5)), .int 0, .int 0, .int 0, .int 0, .int 0, .int 0, .int 0, .int 0, .ref (ad7 (q + 6)), .int 0, .int (-1), .ref (ad7 (q + 7)), .int 0, .null, .null, .null, .int 0, .null, .int 0]) := by rw [hwv91, va_up_self]
  have ea93 : wv91 (q + 1) = gAr (E.2.1 0) 152 (fun _ => 0) := by rw [hwv91, va_up_ne _ _ (by omega)]; exact ea83
  have ea94 : wv91 (q + 2) = gAr (E.2.1 0) 1216 (fun _ => 0) := by rw [hwv91, va_up_ne _ _ (by omega)]; exact ea84
  have ea95 : wv91 (q + 3) = gAr (E.2.1 0) 152 (fun _ => 0) := by rw [hwv91, va_up_ne _ _ (by omega)]; exact ea85
  have ea96 : wv91 (q + 4) = gAr (E.2.1 0) 152 (fun _ => 0) := by rw [hwv91, va_up_ne _ _ (by omega)]; exact ea86
  have ea97 : wv91 (q + 5) = gAr (E.2.1 0) 152 (fun _ => 0) := by rw [hwv91, va_up_ne _ _ (by omega)]; exact ea87
  have ea98 : wv91 (q + 6) = gAr (E.2.1 0) 60 (fun _ => 0) := by rw [hwv91, va_up_ne _ _ (by omega)]; exact ea88
  have ea99 : wv91 (q + 7) = gAr (E.2.1 2) 60 (fun _ => 0) := by rw [hwv91, va_up_ne _ _ (by omega)]; exact hwN7
  have hW100 : ∀ p, p < q → wv91 p = w p := fun p hp => by rw [hwv91, va_up_ne _ _ (by omega)]; exact hW90 p hp
  refine lv_aload_n hx hb dX13_init_70 rfl (lv_at hl 0 rfl) ?_
  refine g_bipush S 36 dX13_init_71 (by decide +kernel) ?_
  refine g_newaM S hI hP hS (atype := .int) 0 rfl (fun _ _ h => h) rfl q182 36 rfl (by decide) (Nat.le_of_ble_eq_true rfl) (Nat.le_of_ble_eq_true rfl) (Nat.le_of_ble_eq_true rfl) dX13_init_73 (fun ad8 wn8 H hP hS hadL8 hwL8 hwN8 => ?_)
  have hP : gP E ad8 (q + 9) wn8 H := hP
  rw [show ([.ref (ad8 (q + 8)), .ref (ad7 (q))] : List Value) = [.ref (ad8 (q + 8)), .ref (ad8 (q))] by rw [hadL8 (q) (by omega)]]
  have hl : lv_has ls 2 [(0, .ref (ad8 (q)))] := by rw [hadL8 (q) (by omega)]; exact hl
  have he101 : wn8 q = .inr (16, [.ref (ad8 (q + 1)), .ref (ad8 (q + 2)), .ref (ad8 (q + 3)), .ref (ad8 (q + 4)), .ref (ad8 (q + 5)), .int 0, .int 0, .int 0, .int 0, .int 0, .int 0, .int 0, .int 0, .ref (ad8 (q + 6)), .int 0, .int (-1), .ref (ad8 (q + 7)), .int 0, .null, .null, .null, .int 0, .null, .int 0]) := by rw [hwL8 q (by omega), he92, hadL8 (q + 1) (by omega), hadL8 (q + 2) (by omega), hadL8 (q + 3) (by omega), hadL8 (q + 4) (by omega), hadL8 (q + 5) (by omega), hadL8 (q + 6) (by omega), hadL8 (q + 7) (by omega)]
  have ea102 : wn8 (q + 1) = gAr (E.2.1 0) 152 (fun _ => 0) := by rw [hwL8 (q + 1) (by omega)]; exact ea93
  have ea103 : wn8 (q + 2) = gAr (E.2.1 0) 1216 (fun _ => 0) := by rw [hwL8 (q + 2) (by omega)]; exact ea94
  have ea104 : wn8 (q + 3) = gAr (E.2.1 0) 152 (fun _ => 0) := by rw [hwL8 (q + 3) (by omega)]; exact ea95
  have ea105 : wn8 (q + 4) = gAr (E.2.1 0) 152 (fun _ => 0) := by rw [hwL8 (q + 4) (by omega)]; exact ea96
  have ea106 : wn8 (q + 5) = gAr (E.2.1 0) 152 (fun _ => 0) := by rw [hwL8 (q + 5) (by omega)]; exact ea97
  have ea107 : wn8 (q + 6) = gAr (E.2.1 0) 60 (fun _ => 0) := by rw [hwL8 (q + 6) (by omega)]; exact ea98
  have ea108 : wn8 (q + 7) = gAr (E.2.1 2) 60 (fun _ => 0) := by rw [hwL8 (q + 7) (by omega)]; exact ea99
  have hA109 : ∀ p, p < q + 1 → ad8 p = ad p := fun p hp => (hadL8 p (by omega)).trans (hA89 p hp)
  have hW110 : ∀ p, p < q → wn8 p = w p := fun p hp => (hwL8 p (by omega)).trans (hW100 p hp)
  refine g_putF S hI hP hS hin2 uX13 rfl tyX13 tyX13_ok nmX13 (q0 := q) (fs := [.ref (ad8 (q + 1)), .ref (ad8 (q + 2)), .ref (ad8 (q + 3)), .ref (ad8 (q + 4)), .ref (ad8 (q + 5)), .int 0, .int 0, .int 0, .int 0, .int 0, .int 0, .int 0, .int 0, .ref (ad8 (q + 6)), .int 0, .int (-1), .ref (ad8 (q + 7)), .int 0, .null, .null, .null, .int 0, .null, .int 0]) (by omega) he101 18 (by decide) q1805 rfl rfl rfl (v := .ref (ad8 (q + 8))) rfl rfl (Nat.le_of_ble_eq_true rfl) dX13_init_75 (fun H locs hP hS => ?_)
  have hP : gP E ad8 (q + 9) (va_up wn8 q (.inr (16, [.ref (ad8 (q + 1)), .ref (ad8 (q + 2)), .ref (ad8 (q + 3)), .ref (ad8 (q + 4)), .ref (ad8 (q + 5)), .int 0, .int 0, .int 0, .int 0, .int 0, .int 0, .int 0, .int 0, .ref (ad8 (q + 6)), .int 0, .int (-1), .ref (ad8 (q + 7)), .int 0, .ref (ad8 (q + 8)), .null, .null, .int 0, .null, .int 0]))) H := hP
  obtain ⟨wv111, hwv111⟩ : ∃ z, z = va_up wn8 q (.inr (16, [.ref (ad8 (q + 1)), .ref (ad8 (q + 2)), .ref (ad8 (q + 3)), .ref (ad8 (q + 4)), .ref (ad8 (q + 5)), .int 0, .int 0, .int 0, .int 0, .int 0, .int 0, .int 0, .int 0, .ref (ad8 (q + 6)), .int 0, .int (-1), .ref (ad8 (q + 7)), .int 0, .ref (ad8 (q + 8)), .null, .null, .int 0, .null, .int 0]) : va_E) := ⟨_, rfl⟩
  rw [← hwv111] at hP
  have he112 : wv111 q = .inr (16, [.ref (ad8 (q + 1)), .ref (ad8 (q + 2)), .ref (ad8 (q + 3)), .ref (ad8 (q + 4)), .ref (ad8 (q + 5)), .int 0, .int 0, .int 0, .int 0, .int 0, .int 0, .int 0, .int 0, .ref (ad8 (q + 6)), .int 0, .int (-1), .ref (ad8 (q + 7)), .int 0, .ref (ad8 (q + 8)), .null, .null, .int 0, .null, .int 0]) := by rw [hwv111, va_up_self]
  have ea113 : wv111 (q + 1) = gAr (E.2.1 0) 152 (fun _ => 0) := by rw [hwv111, va_up_ne _ _ (by omega)]; exact ea102
  have ea114 : wv111 (q + 2) = gAr (E.2.1 0) 1216 (fun _ => 0) := by rw [hwv111, va_up_ne _ _ (by omega)]; exact ea103
  have ea115 : wv111 (q + 3) = gAr (E.2.1 0) 152 (fun _ => 0) := by rw [hwv111, va_up_ne _ _ (by omega)]; exact ea104
  have ea116 : wv111 (q + 4) = gAr (E.2.1 0) 152 (fun _ => 0) := by rw [hwv111, va_up_ne _ _ (by omega)]; exact ea105
  have ea117 : wv111 (q + 5) = gAr (E.2.1 0) 152 (fun _ => 0) := by rw [hwv111, va_up_ne _ _ (by omega)]; exact ea106
  have ea118 : wv111 (q + 6) = gAr (E.2.1 0) 60 (fun _ => 0) := by rw [hwv111, va_up_ne _ _ (by omega)]; exact ea107
  have ea119 : wv111 (q + 7) = gAr (E.2.1 2) 60 (fun _ => 0) := by rw [hwv111, va_up_ne _ _ (by omega)]; exact ea108
  have ea120 : wv111 (q + 8) = gAr (E.2.1 0) 36 (fun _ => 0) := by rw [hwv111, va_up_ne _ _ (by omega)]; exact hwN8
  have hW121 : ∀ p, p < q → wv111 p = w p := fun p hp => by rw [hwv111, va_up_ne _ _ (by omega)]; exact hW110 p hp
  refine lv_aload_n hx hb dX13_init_78 rfl (lv_at hl 0 rfl) ?_
  refine g_bipush S 36 dX13_init_79 (by decide +kernel) ?_
  refine g_newaM S hI hP hS (atype := .int) 0 rfl (fun _ _ h => h) rfl q182 36 rfl (by decide) (Nat.le_of_ble_eq_true rfl) (Nat.le_of_ble_eq_true rfl) (Nat.le_of_ble_eq_true rfl) dX13_init_81 (fun ad9 wn9 H hP hS hadL9 hwL9 hwN9 => ?_)
  have hP : gP E ad9 (q + 10) wn9 H := hP
  rw [show ([.ref (ad9 (q + 9)), .ref (ad8 (q))] : List Value) = [.ref (ad9 (q + 9)), .ref (ad9 (q))] by rw [hadL9 (q) (by omega)]]
  have hl : lv_has ls 2 [(0, .ref (ad9 (q)))] := by rw [hadL9 (q) (by omega)]; exact hl
  have he122 : wn9 q = .inr (16, [.ref (ad9 (q + 1)), .ref (ad9 (q + 2)), .ref (ad9 (q + 3)), .ref (ad9 (q + 4)), .ref (ad9 (q + 5)), .int 0, .int 0, .int 0, .int 0, .int 0, .int 0, .int 0, .int 0, .ref (ad9 (q + 6)), .int 0, .int (-1), .ref (ad9 (q + 7)), .int 0, .ref (ad9 (q + 8)), .null, .null, .int 0, .null, .int 0]) := by rw [hwL9 q (by omega), he112, hadL9 (q + 1) (by omega), hadL9 (q + 2) (by omega), hadL9 (q + 3) (by omega), hadL9 (q + 4) (by omega), hadL9 (q + 5) (by omega), hadL9 (q + 6) (by omega), hadL9 (q + 7) (by omega), hadL9 (q + 8) (by omega)]
  have ea123 : wn9 (q + 1) = gAr (E.2.1 0) 152 (fun _ => 0) := by rw [hwL9 (q + 1) (by omega)]; exact ea113
  have ea124 : wn9 (q + 2) = gAr (E.2.1 0) 1216 (fun _ => 0) := by rw [hwL9 (q + 2) (by omega)]; exact ea114
  have ea125 : wn9 (q + 3) = gAr (E.2.1 0) 152 (fun _ => 0) := by rw [hwL9 (q + 3) (by omega)]; exact ea115
  have ea126 : wn9 (q + 4) = gAr (E.2.1 0) 152 (fun _ => 0) := by rw [hwL9 (q + 4) (by omega)]; exact ea116
  have ea127 : wn9 (q + 5) = gAr (E.2.1 0) 152 (fun _ => 0) := by rw [hwL9 (q + 5) (by omega)]; exact ea117
  have ea128 : wn9 (q + 6) = gAr (E.2.1 0) 60 (fun _ => 0) := by rw [hwL9 (q + 6) (by omega)]; exact ea118
  have ea129 : wn9 (q + 7) = gAr (E.2.1 2) 60 (fun _ => 0) := by rw [hwL9 (q + 7) (by omega)]; exact ea119
  have ea130 : wn9 (q + 8) = gAr (E.2.1 0) 36 (fun _ => 0) := by rw [hwL9 (q + 8) (by omega)]; exact ea120
  have hA131 : ∀ p, p < q + 1 → ad9 p = ad p := fun p hp => (hadL9 p (by omega)).trans (hA109 p hp)
  have hW132 : ∀ p, p < q → wn9 p = w p := fun p hp => (hwL9 p (by omega)).trans (hW121 p hp)
  refine g_putF S hI hP hS hin2 uX13 rfl tyX13 tyX13_ok nmX13 (q0 := q) (fs := [.ref (ad9 (q + 1)), .ref (ad9 (q + 2)), .ref (ad9 (q + 3)), .ref (ad9 (q + 4)), .ref (ad9 (q + 5)), .int 0, .int 0, .int 0, .int 0, .int 0, .int 0, .int 0, .int 0, .ref (ad9 (q + 6)), .int 0, .int (-1), .ref (ad9 (q + 7)), .int 0, .ref (ad9 (q + 8)), .null, .null, .int 0, .null, .int 0]) (by omega) he122 19 (by decide) q1806 rfl rfl rfl (v := .ref (ad9 (q + 9))) rfl rfl (Nat.le_of_ble_eq_true rfl) dX13_init_83 (fun H locs hP hS => ?_)
  have hP : gP E ad9 (q + 10) (va_up wn9 q (.inr (16, [.ref (ad9 (q + 1)), .ref (ad9 (q + 2)), .ref (ad9 (q + 3)), .ref (ad9 (q + 4)), .ref (ad9 (q + 5)), .int 0, .int 0, .int 0, .int 0, .int 0, .int 0, .int 0, .int 0, .ref (ad9 (q + 6)), .int 0, .int (-1), .ref (ad9 (q + 7)), .int 0, .ref (ad9 (q + 8)), .ref (ad9 (q + 9)), .null, .int 0, .null, .int 0]))) H := hP
  obtain ⟨wv133, hwv133⟩ : ∃ z, z = va_up wn9 q (.inr (16, [.ref (ad9 (q + 1)), .ref (ad9 (q + 2)), .ref (ad9 (q + 3)), .ref (ad9 (q + 4)), .ref (ad9 (q + 5)), .int 0, .int 0, .int 0, .int 0, .int 0, .int 0, .int 0, .int 0, .ref (ad9 (q + 6)), .int 0, .int (-1), .ref (ad9 (q + 7)), .int 0, .ref (ad9 (q + 8)), .ref (ad9 (q + 9)), .null, .int 0, .null, .int 0]) : va_E) := ⟨_, rfl⟩
  rw [← hwv133] at hP
  have he134 : wv133 q = .inr (16, [.ref (ad9 (q + 1)), .ref (ad9 (q + 2)), .ref (ad9 (q + 3)), .ref (ad9 (q + 4)), .ref (ad9 (q + 5)), .int 0, .int 0, .int 0, .int 0, .int 0, .int 0, .int 0, .int 0, .ref (ad9 (q + 6)), .int 0, .int (-1), .ref (ad9 (q + 7)), .int 0, .ref (ad9 (q + 8)), .ref (ad9 (q + 9)), .null, .int 0, .null, .int 0]) := by rw [hwv133, va_up_self]
  have ea135 : wv133 (q + 1) = gAr (E.2.1 0) 152 (fun _ => 0) := by rw [hwv133, va_up_ne _ _ (by omega)]; exact ea123
  have ea136 : wv133 (q + 2) = gAr (E.2.1 0) 1216 (fun _ => 0) := by rw [hwv133, va_up_ne _ _ (by omega)]; exact ea124
  have ea137 : wv133 (q + 3) = gAr (E.2.1 0) 152 (fun _ => 0) := by rw [hwv133, va_up_ne _ _ (by omega)]; exact ea125
  have ea138 : wv133 (q + 4) = gAr (E.2.1 0) 152 (fun _ => 0) := by rw [hwv133, va_up_ne _ _ (by omega)]; exact ea126
  have ea139 : wv133 (q + 5) = gAr (E.2.1 0) 152 (fun _ => 0) := by rw [hwv133, va_up_ne _ _ (by omega)]; exact ea127
  have ea140 : wv133 (q + 6) = gAr (E.2.1 0) 60 (fun _ => 0) := by rw [hwv133, va_up_ne _ _ (by omega)]; exact ea128
  have ea141 : wv133 (q + 7) = gAr (E.2.1 2) 60 (fun _ => 0) := by rw [hwv133, va_up_ne _ _ (by omega)]; exact ea129
  have ea142 : wv133 (q + 8) = gAr (E.2.1 0) 36 (fun _ => 0) := by rw [hwv133, va_up_ne _ _ (by omega)]; exact ea130
  have ea143 : wv133 (q + 9) = gAr (E.2.1 0) 36 (fun _ => 0) := by rw [hwv133, va_up_ne _ _ (by omega)]; exact hwN9
  have hW144 : ∀ p, p < q → wv133 p = w p := fun p hp => by rw [hwv133, va_up_ne _ _ (by omega)]; exact hW132 p hp
  refine lv_aload_n hx hb dX13_init_86 rfl (lv_at hl 0 rfl) ?_
  refine g_bipush S 36 dX13_init_87 (by decide +kernel) ?_
  refine g_newaM S hI hP hS (atype := .int) 0 rfl (fun _ _ h => h) rfl q182 36 rfl (by decide) (Nat.le_of_ble_eq_true rfl) (Nat.le_of_ble_eq_true rfl) (Nat.le_of_ble_eq_true rfl) dX13_init_89 (fun ad10 wn10 H hP hS hadL10 hwL10 hwN10 => ?_)
  have hP : gP E ad10 (q + 11) wn10 H := hP
  rw [show ([.ref (ad10 (q + 10)), .ref (ad9 (q))] : List Value) = [.ref (ad10 (q + 10)), .ref (ad10 (q))] by rw [hadL10 (q) (by omega)]]
  have hl : lv_has ls 2 [(0, .ref (ad10 (q)))] := by rw [hadL10 (q) (by omega)]; exact hl
  have he145 : wn10 q = .inr (16, [.ref (ad10 (q + 1)), .ref (ad10 (q + 2)), .ref (ad10 (q + 3)), .ref (ad10 (q + 4)), .ref (ad10 (q + 5)), .int 0, .int 0, .int 0, .int 0, .int 0, .int 0, .int 0, .int 0, .ref (ad10 (q + 6)), .int 0, .int (-1), .ref (ad10 (q + 7)), .int 0, .ref (ad10 (q + 8)), .ref (ad10 (q + 9)), .null, .int 0, .null, .int 0]) := by rw [hwL10 q (by omega), he134, hadL10 (q + 1) (by omega), hadL10 (q + 2) (by omega), hadL10 (q + 3) (by omega), hadL10 (q + 4) (by omega), hadL10 (q + 5) (by omega), hadL10 (q + 6) (by omega), hadL10 (q + 7) (by omega), hadL10 (q + 8) (by omega), hadL10 (q + 9) (by omega)]
  have ea146 : wn10 (q + 1) = gAr (E.2.1 0) 152 (fun _ => 0) := by rw [hwL10 (q + 1) (by omega)]; exact ea135
  have ea147 : wn10 (q + 2) = gAr (E.2.1 0) 1216 (fun _ => 0) := by rw [hwL10 (q + 2) (by omega)]; exact ea136
  have ea148 : wn10 (q + 3) = gAr (E.2.1 0) 152 (fun _ => 0) := by rw [hwL10 (q + 3) (by omega)]; exact ea137
  have ea149 : wn10 (q + 4) = gAr (E.2.1 0) 152 (fun _ => 0) := by rw [hwL10 (q + 4) (by omega)]; exact ea138
  have ea150 : wn10 (q + 5) = gAr (E.2.1 0) 152 (fun _ => 0) := by rw [hwL10 (q + 5) (by omega)]; exact ea139
  have ea151 : wn10 (q + 6) = gAr (E.2.1 0) 60 (fun _ => 0) := by rw [hwL10 (q + 6) (by omega)]; exact ea140
  have ea152 : wn10 (q + 7) = gAr (E.2.1 2) 60 (fun _ => 0) := by rw [hwL10 (q + 7) (by omega)]; exact ea141
  have ea153 : wn10 (q + 8) = gAr (E.2.1 0) 36 (fun _ => 0) := by rw [hwL10 (q + 8) (by omega)]; exact ea142
  have ea154 : wn10 (q + 9) = gAr (E.2.1 0) 36 (fun _ => 0) := by rw [hwL10 (q + 9) (by omega)]; exact ea143
  have hA155 : ∀ p, p < q + 1 → ad10 p = ad p := fun p hp => (hadL10 p (by omega)).trans (hA131 p hp)
  have hW156 : ∀ p, p < q → wn10 p = w p := fun p hp => (hwL10 p (by omega)).trans (hW144 p hp)
  refine g_putF S hI hP hS hin2 uX13 rfl tyX13 tyX13_ok nmX13 (q0 := q) (fs := [.ref (ad10 (q + 1)), .ref (ad10 (q + 2)), .ref (ad10 (q + 3)), .ref (ad10 (q + 4)), .ref (ad10 (q + 5)), .int 0, .int 0, .int 0, .int 0, .int 0, .int 0, .int 0, .int 0, .ref (ad10 (q + 6)), .int 0, .int (-1), .ref (ad10 (q + 7)), .int 0, .ref (ad10 (q + 8)), .ref (ad10 (q + 9)), .null, .int 0, .null, .int 0]) (by omega) he145 20 (by decide) q1807 rfl rfl rfl (v := .ref (ad10 (q + 10))) rfl rfl (Nat.le_of_ble_eq_true rfl) dX13_init_91 (fun H locs hP hS => ?_)
  have hP : gP E ad10 (q + 11) (va_up wn10 q (.inr (16, [.ref (ad10 (q + 1)), .ref (ad10 (q + 2)), .ref (ad10 (q + 3)), .ref (ad10 (q + 4)), .ref (ad10 (q + 5)), .int 0, .int 0, .int 0, .int 0, .int 0, .int 0, .int 0, .int 0, .ref (ad10 (q + 6)), .int 0, .int (-1), .ref (ad10 (q + 7)), .int 0, .ref (ad10 (q + 8)), .ref (ad10 (q + 9)), .ref (ad10 (q + 10)), .int 0, .null, .int 0]))) H := hP
  obtain ⟨wv157, hwv157⟩ : ∃ z, z = va_up wn10 q (.inr (16, [.ref (ad10 (q + 1)), .ref (ad10 (q + 2)), .ref (ad10 (q + 3)), .ref (ad10 (q + 4)), .ref (ad10 (q + 5)), .int 0, .int 0, .int 0, .int 0, .int 0, .int 0, .int 0, .int 0, .ref (ad10 (q + 6)), .int 0, .int (-1), .ref (ad10 (q + 7)), .int 0, .ref (ad10 (q + 8)), .ref (ad10 (q + 9)), .ref (ad10 (q + 10)), .int 0, .null, .int 0]) : va_E) := ⟨_, rfl⟩
  rw [← hwv157] at hP
  have he158 : wv157 q = .inr (16, [.ref (ad10 (q + 1)), .ref (ad10 (q + 2)), .ref (ad10 (q + 3)), .ref (ad10 (q + 4)), .ref (ad10 (q + 5)), .int 0, .int 0, .int 0, .int 0, .int 0, .int 0, .int 0, .int 0, .ref (ad10 (q + 6)), .int 0, .int (-1), .ref (ad10 (q + 7)), .int 0, .ref (ad10 (q + 8)), .ref (ad10 (q + 9)), .ref (ad10 (q + 10)), .int 0, .null, .int 0]) := by rw [hwv157, va_up_self]
  have ea159 : wv157 (q + 1) = gAr (E.2.1 0) 152 (fun _ => 0) := by rw [hwv157, va_up_ne _ _ (by omega)]; exact ea146
  have ea160 : wv157 (q + 2) = gAr (E.2.1 0) 1216 (fun _ => 0) := by rw [hwv157, va_up_ne _ _ (by omega)]; exact ea147
  have ea161 : wv157 (q + 3) = gAr (E.2.1 0) 152 (fun _ => 0) := by rw [hwv157, va_up_ne _ _ (by omega)]; exact ea148
  have ea162 : wv157 (q + 4) = gAr (E.2.1 0) 152 (fun _ => 0) := by rw [hwv157, va_up_ne _ _ (by omega)]; exact ea149
  have ea163 : wv157 (q + 5) = gAr (E.2.1 0) 152 (fun _ => 0) := by rw [hwv157, va_up_ne _ _ (by omega)]; exact ea150
  have ea164 : wv157 (q + 6) = gAr (E.2.1 0) 60 (fun _ => 0) := by rw [hwv157, va_up_ne _ _ (by omega)]; exact ea151
  have ea165 : wv157 (q + 7) = gAr (E.2.1 2) 60 (fun _ => 0) := by rw [hwv157, va_up_ne _ _ (by omega)]; exact ea152
  have ea166 : wv157 (q + 8) = gAr (E.2.1 0) 36 (fun _ => 0) := by rw [hwv157, va_up_ne _ _ (by omega)]; exact ea153
  have ea167 : wv157 (q + 9) = gAr (E.2.1 0) 36 (fun _ => 0) := by rw [hwv157, va_up_ne _ _ (by omega)]; exact ea154
  have ea168 : wv157 (q + 10) = gAr (E.2.1 0) 36 (fun _ => 0) := by rw [hwv157, va_up_ne _ _ (by omega)]; exact hwN10
  have hW169 : ∀ p, p < q → wv157 p = w p := fun p hp => by rw [hwv157, va_up_ne _ _ (by omega)]; exact hW156 p hp
  refine lv_aload_n hx hb dX13_init_94 rfl (lv_at hl 0 rfl) ?_
  refine g_bipush S 124 dX13_init_95 (by decide +kernel) ?_
  refine g_newaM S hI hP hS (atype := .int) 0 rfl (fun _ _ h => h) rfl q182 124 rfl (by decide) (Nat.le_of_ble_eq_true rfl) (Nat.le_of_ble_eq_true rfl) (Nat.le_of_ble_eq_true rfl) dX13_init_97 (fun ad11 wn11 H hP hS hadL11 hwL11 hwN11 => ?_)
  have hP : gP E ad11 (q + 12) wn11 H := hP
  rw [show ([.ref (ad11 (q + 11)), .ref (ad10 (q))] : List Value) = [.ref (ad11 (q + 11)), .ref (ad11 (q))] by rw [hadL11 (q) (by omega)]]
  have hl : lv_has ls 2 [(0, .ref (ad11 (q)))] := by rw [hadL11 (q) (by omega)]; exact hl
  have he170 : wn11 q = .inr (16, [.ref (ad11 (q + 1)), .ref (ad11 (q + 2)), .ref (ad11 (q + 3)), .ref (ad11 (q + 4)), .ref (ad11 (q + 5)), .int 0, .int 0, .int 0, .int 0, .int 0, .int 0, .int 0, .int 0, .ref (ad11 (q + 6)), .int 0, .int (-1), .ref (ad11 (q + 7)), .int 0, .ref (ad11 (q + 8)), .ref (ad11 (q + 9)), .ref (ad11 (q + 10)), .int 0, .null, .int 0]) := by rw [hwL11 q (by omega), he158, hadL11 (q + 1) (by omega), hadL11 (q + 2) (by omega), hadL11 (q + 3) (by omega), hadL11 (q + 4) (by omega), hadL11 (q + 5) (by omega), hadL11 (q + 6) (by omega), hadL11 (q + 7) (by omega), hadL11 (q + 8) (by omega), hadL11 (q + 9) (by omega), hadL11 (q + 10) (by omega)]
  have ea171 : wn11 (q + 1) = gAr (E.2.1 0) 152 (fun _ => 0) := by rw [hwL11 (q + 1) (by omega)]; exact ea159
  have ea172 : wn11 (q + 2) = gAr (E.2.1 0) 1216 (fun _ => 0) := by rw [hwL11 (q + 2) (by omega)]; exact ea160
  have ea173 : wn11 (q + 3) = gAr (E.2.1 0) 152 (fun _ => 0) := by rw [hwL11 (q + 3) (by omega)]; exact ea161
  have ea174 : wn11 (q + 4) = gAr (E.2.1 0) 152 (fun _ => 0) := by rw [hwL11 (q + 4) (by omega)]; exact ea162
  have ea175 : wn11 (q + 5) = gAr (E.2.1 0) 152 (fun _ => 0) := by rw [hwL11 (q + 5) (by omega)]; exact ea163
  have ea176 : wn11 (q + 6) = gAr (E.2.1 0) 60 (fun _ => 0) := by rw [hwL11 (q + 6) (by omega)]; exact ea164
  have ea177 : wn11 (q + 7) = gAr (E.2.1 2) 60 (fun _ => 0) := by rw [hwL11 (q + 7) (by omega)]; exact ea165
  have ea178 : wn11 (q + 8) = gAr (E.2.1 0) 36 (fun _ => 0) := by rw [hwL11 (q + 8) (by omega)]; exact ea166
  have ea179 : wn11 (q + 9) = gAr (E.2.1 0) 36 (fun _ => 0) := by rw [hwL11 (q + 9) (by omega)]; exact ea167
  have ea180 : wn11 (q + 10) = gAr (E.2.1 0) 36 (fun _ => 0) := by rw [hwL11 (q + 10) (by omega)]; exact ea168
  have hA181 : ∀ p, p < q + 1 → ad11 p = ad p := fun p hp => (hadL11 p (by omega)).trans (hA155 p hp)
  have hW182 : ∀ p, p < q → wn11 p = w p := fun p hp => (hwL11 p (by omega)).trans (hW169 p hp)
  refine g_putF S hI hP hS hin2 uX13 rfl tyX13 tyX13_ok nmX13 (q0 := q) (fs := [.ref (ad11 (q + 1)), .ref (ad11 (q + 2)), .ref (ad11 (q + 3)), .ref (ad11 (q + 4)), .ref (ad11 (q + 5)), .int 0, .int 0, .int 0, .int 0, .int 0, .int 0, .int 0, .int 0, .ref (ad11 (q + 6)), .int 0, .int (-1), .ref (ad11 (q + 7)), .int 0, .ref (ad11 (q + 8)), .ref (ad11 (q + 9)), .ref (ad11 (q + 10)), .int 0, .null, .int 0]) (by omega) he170 22 (by decide) q1809 rfl rfl rfl (v := .ref (ad11 (q + 11))) rfl rfl (Nat.le_of_ble_eq_true rfl) dX13_init_99 (fun H locs hP hS => ?_)
  have hP : gP E ad11 (q + 12) (va_up wn11 q (.inr (16, [.ref (ad11 (q + 1)), .ref (ad11 (q + 2)), .ref (ad11 (q + 3)), .ref (ad11 (q + 4)), .ref (ad11 (q + 5)), .int 0, .int 0, .int 0, .int 0, .int 0, .int 0, .int 0, .int 0, .ref (ad11 (q + 6)), .int 0, .int (-1), .ref (ad11 (q + 7)), .int 0, .ref (ad11 (q + 8)), .ref (ad11 (q + 9)), .ref (ad11 (q + 10)), .int 0, .ref (ad11 (q + 11)), .int 0]))) H := hP
  obtain ⟨wv183, hwv183⟩ : ∃ z, z = va_up wn11 q (.inr (16, [.ref (ad11 (q + 1)), .ref (ad11 (q + 2)), .ref (ad11 (q + 3)), .ref (ad11 (q + 4)), .ref (ad11 (q + 5)), .int 0, .int 0, .int 0, .int 0, .int 0, .int 0, .int 0, .int 0, .ref (ad11 (q + 6)), .int 0, .int (-1), .ref (ad11 (q + 7)), .int 0, .ref (ad11 (q + 8)), .ref (ad11 (q + 9)), .ref (ad11 (q + 10)), .int 0, .ref (ad11 (q + 11)), .int 0]) : va_E) := ⟨_, rfl⟩
  rw [← hwv183] at hP
  have he184 : wv183 q = .inr (16, [.ref (ad11 (q + 1)), .ref (ad11 (q + 2)), .ref (ad11 (q + 3)), .ref (ad11 (q + 4)), .ref (ad11 (q + 5)), .int 0, .int 0, .int 0, .int 0, .int 0, .int 0, .int 0, .int 0, .ref (ad11 (q + 6)), .int 0, .int (-1), .ref (ad11 (q + 7)), .int 0, .ref (ad11 (q + 8)), .ref (ad11 (q + 9)), .ref (ad11 (q + 10)), .int 0, .ref (ad11 (q + 11)), .int 0]) := by rw [hwv183, va_up_self]
  have ea185 : wv183 (q + 1) = gAr (E.2.1 0) 152 (fun _ => 0) := by rw [hwv183, va_up_ne _ _ (by omega)]; exact ea171
  have ea186 : wv183 (q + 2) = gAr (E.2.1 0) 1216 (fun _ => 0) := by rw [hwv183, va_up_ne _ _ (by omega)]; exact ea172
  have ea187 : wv183 (q + 3) = gAr (E.2.1 0) 152 (fun _ => 0) := by rw [hwv183, va_up_ne _ _ (by omega)]; exact ea173
  have ea188 : wv183 (q + 4) = gAr (E.2.1 0) 152 (fun _ => 0) := by rw [hwv183, va_up_ne _ _ (by omega)]; exact ea174
  have ea189 : wv183 (q + 5) = gAr (E.2.1 0) 152 (fun _ => 0) := by rw [hwv183, va_up_ne _ _ (by omega)]; exact ea175
  have ea190 : wv183 (q + 6) = gAr (E.2.1 0) 60 (fun _ => 0) := by rw [hwv183, va_up_ne _ _ (by omega)]; exact ea176
  have ea191 : wv183 (q + 7) = gAr (E.2.1 2) 60 (fun _ => 0) := by rw [hwv183, va_up_ne _ _ (by omega)]; exact ea177
  have ea192 : wv183 (q + 8) = gAr (E.2.1 0) 36 (fun _ => 0) := by rw [hwv183, va_up_ne _ _ (by omega)]; exact ea178
  have ea193 : wv183 (q + 9) = gAr (E.2.1 0) 36 (fun _ => 0) := by rw [hwv183, va_up_ne _ _ (by omega)]; exact ea179
  have ea194 : wv183 (q + 10) = gAr (E.2.1 0) 36 (fun _ => 0) := by rw [hwv183, va_up_ne _ _ (by omega)]; exact ea180
  have ea195 : wv183 (q + 11) = gAr (E.2.1 0) 124 (fun _ => 0) := by rw [hwv183, va_up_ne _ _ (by omega)]; exact hwN11
  have hW196 : ∀ p, p < q → wv183 p = w p := fun p hp => by rw [hwv183, va_up_ne _ _ (by omega)]; exact hW182 p hp
  have hbm : bkP (q + 12) wv183 q 12 (MDC E ad11 q (mg0 0) (fun _ => 0) (fun _ => 0) (fun _ => 0) (fun _ => 0) (fun _ => 0) (fun _ => 0) (fun _ => 0) (fun _ => 0) (fun _ => 0) (fun _ => 0) 0 0 0 0 0 0 0 0 0 none 0 0 0) := by rw [mg0_0]; exact ⟨by omega, fun k hk => by match k, hk with | 0, _ => exact he184 | 1, _ => exact ea185 | 2, _ => exact ea186 | 3, _ => exact ea187 | 4, _ => exact ea188 | 5, _ => exact ea189 | 6, _ => exact ea190 | 7, _ => exact ea191 | 8, _ => exact ea192 | 9, _ => exact ea193 | 10, _ => exact ea194 | 11, _ => exact ea195⟩
  refine g_iconst S 0 dX13_init_102 (by decide +kernel) ?_
  refine lv_istore_n (lv' := [(1, .int (nI (0))), (0, .ref (ad11 (q)))]) hx hb dX13_init_103 rfl hl (by decide) rfl (fun ls hl => ?_)
  have hl8 : ∀ (n : Nat) (i : Nat), 37 - i < n → (i ≤ 36) → ∀ (w1 : Nat → va_E) (H : Heap) (locs : List Loc), gP E ad11 (q + 12) w1 H → va_S (gA E) s.heap H locs → bkP (q + 12) w1 q 12 (MDC E ad11 q (mg0 i) (fun _ => 0) (fun _ => 0) (fun _ => 0) (fun _ => 0) (fun _ => 0) (fun _ => 0) (fun _ => 0) (fun _ => 0) (fun _ => 0) (fun _ => 0) 0 0 0 0 0 0 0 0 0 none 0 0 0) → (∀ p, p < q → w1 p = w p) → ∀ (ls : Array Slot), lv_has ls 2 [(1, .int (nI (i))), (0, .ref (ad11 (q)))] → W p l e (headSpec (lw_ws yX13_init cX13_init 2 none) ({ frames := 1, cells := 11, slots := 2176, locals := 20 } : Room)).room s m ([.ref (ad (q))] : List Value).toArray below meth cd H locs 11 2176 (MQ below (gQUv E (fun ad' N' w' => N' = q + 12 ∧ (∀ p, p < q + 1 → ad' p = ad p) ∧ (∀ p, p < q → w' p = w p) ∧ bkP N' w' q 12 (MDC E ad' q (mg0 36) (fun _ => 0) (fun _ => 0) (fun _ => 0) (fun _ => 0) (fun _ => 0) (fun _ => 0) (fun _ => 0) (fun _ => 0) (fun _ => 0) (fun _ => 0) 0 0 0 0 0 0 0 0 0 none 0 0 0))) ([.ref (ad (q))] : List Value).toArray s 11 2176 (gA E)) (F0 m 104 ls []) := by
    intro n
    induction n with
    | zero => intro i hmeas; omega
    | succ n ih_hl8 =>
      intro i hmeas hi w1 H locs hP hS hb197 hW5 ls hl
      refine lv_iload_n hx hb dX13_init_104 rfl (lv_at hl 0 rfl) ?_
      refine g_bipush S 36 dX13_init_105 (by decide +kernel) ?_
      refine g_ge S (a := i) (b := 36) (by omega) (by omega) (tgt := 126) dX13_init_107 (by decide) (fun h => ?_) (fun h => ?_)
      · have e8 : i = 36 := by omega
        subst e8
        exact g_uvret S hr hlocks hP hS (⟨rfl, hA181, hW5, hb197⟩) (Nat.le_of_ble_eq_true rfl) (Nat.le_of_ble_eq_true rfl) dX13_init_126
      · refine lv_aload_n hx hb dX13_init_110 rfl (lv_at hl 1 rfl) ?_
        refine g_get S hI hP uX13 rfl (fs := _) (hb197.lt 0 (by decide)) (hb197.2 0 (by decide)) 0 (by decide) q1787 rfl (v := .ref (ad11 (q + 1))) rfl dX13_init_111 ?_
        refine g_iconst S 4 dX13_init_114 (by decide +kernel) ?_
        refine lv_iload_n hx hb dX13_init_115 rfl (lv_at hl 0 rfl) ?_
        refine g_iadd S dX13_init_116 ?_
        refine g_bipush S 50 dX13_init_117 (by decide +kernel) ?_
        refine g_iastN S hI hP hS (f := (mg0 i)) (x := 50) (hb197.lt 1 (by decide)) (hb197.2 1 (by decide)) ((4 + i)) (by omega) (by decide) dX13_init_119 (fun H locs hP hS => ?_)
        have hP : gP E ad11 (q + 12) (va_up _ (q + 1) (MDC E ad11 q (va_up (mg0 i) (4 + i) 50) (fun _ => 0) (fun _ => 0) (fun _ => 0) (fun _ => 0) (fun _ => 0) (fun _ => 0) (fun _ => 0) (fun _ => 0) (fun _ => 0) (fun _ => 0) 0 0 0 0 0 0 0 0 0 none 0 0 0 1)) H := hP
        have hb198 : bkP (q + 12) (va_up _ (q + 1) (MDC E ad11 q (va_up (mg0 i) (4 + i) 50) (fun _ => 0) (fun _ => 0) (fun _ => 0) (fun _ => 0) (fun _ => 0) (fun _ => 0) (fun _ => 0) (fun _ => 0) (fun _ => 0) (fun _ => 0) 0 0 0 0 0 0 0 0 0 none 0 0 0 1)) q 12 (MDC E ad11 q (va_up (mg0 i) (4 + i) 50) (fun _ => 0) (fun _ => 0) (fun _ => 0) (fun _ => 0) (fun _ => 0) (fun _ => 0) (fun _ => 0) (fun _ => 0) (fun _ => 0) (fun _ => 0) 0 0 0 0 0 0 0 0 0 none 0 0 0) := MD_setA0 hb197 _
        refine lv_iinc (v := nI (i + 1)) (lv' := [(1, .int (nI (i + 1))), (0, .ref (ad11 (q)))]) hx hb dX13_init_120 hl (k := 0) rfl (g_inc _ 1 (by decide +kernel)) (by decide) rfl (fun ls hl => ?_)
        refine lv_goto (tgt := 104) hx hb dX13_init_123 (by decide) ?_
        rw [mg0_s] at hb198 hP
        exact ih_hl8 (i + 1) (by omega) (by omega) _ _ _ hP hS hb198 (fun p hp => by rw [va_up_ne _ _ (by omega)]; exact hW5 p hp) ls (lv_sub hl [0, 1] rfl)
  exact hl8 (37 - (0) + 1) (0) (Nat.lt_succ_self _) (by omega) _ _ _ hP hS hbm (hW196) ls (lv_sub hl [0, 1] rfl)
