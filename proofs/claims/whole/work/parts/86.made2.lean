/-! CONSTRUCTORS: rows of sheets, and objects of objects  -/
theorem g_castSelf {C : String} {U : State} (h : va_AO C U) : va_Nw (.castable C C) U := by
  have hs : ∀ c, U.vm.assignable c c = true := by
    intro c; show U.vm.assignableAux (255 + 1) c c = true
    rw [Vm.assignableAux]; simp only [beq_self_eq_true, Bool.true_or]
  have hc : ∃ c, U.vm.findClass C = some c := by
    cases hf : U.vm.findClass C with
    | some c => exact ⟨c, rfl⟩
    | none => simp [va_AO, Cond.before, Cond.holds, Cond.value, hf] at h
  obtain ⟨c, hc⟩ := hc
  simp [va_Nw, Cond.before, Cond.holds, Cond.value, hc, hs]
theorem rwA_to {c : ClassId} {n : Nat} {f g : Nat → Option Nat} {e : va_E} (h : e = rwA c n f) (hfg : ∀ j, f j = g j) : e = rwA c n g := by rw [h, funext hfg]
def shZ : Sh := (fil 36 (fun _ => 50) (fun _ => 0), fun _ => 0, fun _ => 0, fun _ => 0, fun _ => 0, fun _ => 0, 0, 0, 0, 0)
set_option maxHeartbeats 4000000 in
set_option maxRecDepth 100000 in
/-- the ring of kept sheets is made -/
theorem mX4_init (l : Launch) {E : gE} {ad : Nat → Nat} {w : Nat → va_E} (kk : Nat → Nat) (hzv : gHv E kk) (q : Nat)  (he : w q = .inr (8, [.null, .int 0, .int 0]))  : gUv l yX4_init (lw_ws yX4_init cX4_init 2 none) ({ frames := 2, cells := 57, slots := 1560, locals := 43 } : Room) E ad (q + 1) w [.ref (ad (q))] (fun ad' N' w' => N' = q + 58 ∧ (∀ p, p < q + 1 → ad' p = ad p) ∧ (∀ p, p < q → w' p = w p) ∧ hsP E ad' N' w' q 0 0 (fun _ => shZ)) 57 1560 := by
  refine Met.ofW (cc := cX4_init) (maxL := 2) (ret := none) (by decide) rfl ?_
  intro p e s m args below meth cd s₁ B hml hv
  obtain ⟨rfl, hI, hP⟩ := hv
  obtain ⟨S, hr, hlocks⟩ := gPre (ws := []) B hml (C := RX4) rfl
  have hx := S.1
  have hb := S.2.1
  have hzk := hzv s s.heap hI.2.2.2.2
  have hS : va_S (gA E) s.heap s.heap [] := va_S.rf
  have hl := lv_entry ([.ref (ad (q))]) (n := 2) (Nat.le_of_ble_eq_true rfl)
  rw [lg_entry_eq]
  generalize (lg_sl ([.ref (ad (q))]) ++ List.replicate (2 - (lg_sl ([.ref (ad (q))])).length) Slot.unset).toArray = ls at hl ⊢
  have hl : lv_has ls 2 [(0, .ref (ad (q)))] := hl
  have hin2 : meth.name = "<init>" := (name_of_methodNamed B.named B.method).1
  have hA0 : ∀ p, p < q + 1 → ad p = ad p := fun _ _ => rfl
  have hW0 : ∀ p, p < q → w p = w p := fun _ _ => rfl
  refine lv_aload_n hx hb dX4_init_0 rfl (lv_at hl 0 rfl) ?_
  refine g_oinit S hl.1 q189 q129 q130 dX4_init_1 (Nat.le_of_ble_eq_true rfl) (Nat.le_of_ble_eq_true rfl) ?_
  refine lv_aload_n hx hb dX4_init_4 rfl (lv_at hl 0 rfl) ?_
  refine g_bipush S 8 dX4_init_5 (by decide +kernel) ?_
  refine g_anew S hI hP hS 4 rfl q190 hzk.2.2.2.2.2.2.2.2.2.2.2 8 (by decide) (Nat.le_of_ble_eq_true rfl) (Nat.le_of_ble_eq_true rfl) dX4_init_7 (fun ad1 wn1 H hP hS hadL1 hwL1 hwN1 => ?_)
  have hP : gP E ad1 (q + 2) wn1 H := hP
  rw [show ([.ref (ad1 (q + 1)), .ref (ad (q))] : List Value) = [.ref (ad1 (q + 1)), .ref (ad1 (q))] by rw [hadL1 (q) (by omega)]]
  have hl : lv_has ls 2 [(0, .ref (ad1 (q)))] := by rw [hadL1 (q) (by omega)]; exact hl
  have he1 : wn1 q = .inr (8, [.null, .int 0, .int 0]) := by rw [hwL1 q (by omega), he]
  have hA2 : ∀ p, p < q + 1 → ad1 p = ad p := fun p hp => (hadL1 p (by omega)).trans (hA0 p hp)
  have hW3 : ∀ p, p < q → wn1 p = w p := fun p hp => (hwL1 p (by omega)).trans (hW0 p hp)
  have hr0 : wn1 (q + 1) = rwA (E.2.1 4) 8 (fun j => if j < 0 then some (ad1 (q + 2 + 7 * j)) else none) := rwA_to hwN1 (fun j => (if_neg (Nat.not_lt_zero j)).symm)
  refine g_putF S hI hP hS hin2 uX4 rfl tyX4 tyX4_ok nmX4 (q0 := q) (fs := [.null, .int 0, .int 0]) (by omega) he1 0 (by decide) q193 rfl rfl rfl (v := .ref (ad1 (q + 1))) rfl rfl (Nat.le_of_ble_eq_true rfl) dX4_init_10 (fun H locs hP hS => ?_)
  have hP : gP E ad1 (q + 2) (va_up wn1 q (.inr (8, [.ref (ad1 (q + 1)), .int 0, .int 0]))) H := hP
  obtain ⟨wv4, hwv4⟩ : ∃ z, z = va_up wn1 q (.inr (8, [.ref (ad1 (q + 1)), .int 0, .int 0]) : va_E) := ⟨_, rfl⟩
  rw [← hwv4] at hP
  have he5 : wv4 q = .inr (8, [.ref (ad1 (q + 1)), .int 0, .int 0]) := by rw [hwv4, va_up_self]
  have hW6 : ∀ p, p < q → wv4 p = w p := fun p hp => by rw [hwv4, va_up_ne _ _ (by omega)]; exact hW3 p hp
  have hr1 : wv4 (q + 1) = rwA (E.2.1 4) 8 (fun j => if j < 0 then some (ad1 (q + 2 + 7 * j)) else none) := by rw [hwv4, va_up_ne _ _ (by omega)]; exact hr0
  refine g_iconst S 0 dX4_init_13 (by decide +kernel) ?_
  refine lv_istore_n (lv' := [(1, .int (nI (0))), (0, .ref (ad1 (q)))]) hx hb dX4_init_14 rfl hl (by decide) rfl (fun ls hl => ?_)
  have hl8 : ∀ (n : Nat) (i : Nat) (ad5 : Nat → Nat), 9 - i < n → (i ≤ 8) → ∀ (w1 : Nat → va_E) (H : Heap) (locs : List Loc), gP E ad5 (q + 2 + 7 * i) w1 H → va_S (gA E) s.heap H locs → (∀ p, p < q + 1 → ad5 p = ad p) → (∀ p, p < q → w1 p = w p) → (w1 q = (.inr (8, [.ref (ad5 (q + 1)), .int 0, .int 0]) : va_E)) → (w1 (q + 1) = rwA (E.2.1 4) 8 (fun j => if j < i then some (ad5 (q + 2 + 7 * j)) else none)) → (∀ j, j < i → bkP (q + 2 + 7 * i) w1 (q + 2 + 7 * j) 7 (shC E ad5 (q + 2 + 7 * j) shZ)) → ∀ (ls : Array Slot), lv_has ls 2 [(1, .int (nI (i))), (0, .ref (ad5 (q)))] → W p l e (headSpec (lw_ws yX4_init cX4_init 2 none) ({ frames := 2, cells := 57, slots := 1560, locals := 43 } : Room)).room s m ([.ref (ad (q))] : List Value).toArray below meth cd H locs (1 + 7 * i) (8 + 194 * i) (MQ below (gQUv E (fun ad' N' w' => N' = q + 58 ∧ (∀ p, p < q + 1 → ad' p = ad p) ∧ (∀ p, p < q → w' p = w p) ∧ hsP E ad' N' w' q 0 0 (fun _ => shZ))) ([.ref (ad (q))] : List Value).toArray s 57 1560 (gA E)) (F0 m 15 ls []) := by
    intro n
    induction n with
    | zero => intro i ad5 hmeas; omega
    | succ n ih_hl8 =>
      intro i ad5 hmeas hi w1 H locs hP hS hA5 hW5 he5 hr5 hs5 ls hl
      refine lv_iload_n hx hb dX4_init_15 rfl (lv_at hl 0 rfl) ?_
      refine g_bipush S 8 dX4_init_16 (by decide +kernel) ?_
      refine g_ge S (a := i) (b := 8) (by omega) (by omega) (tgt := 40) dX4_init_18 (by decide) (fun h => ?_) (fun h => ?_)
      · have e8 : i = 8 := by omega
        subst e8
        exact g_uvret S hr hlocks hP hS (⟨rfl, hA5, hW5, ⟨by omega, fun k hk => by match k, hk with | 0, _ => exact he5⟩, by omega, rwA_to hr5 (fun j => rfl), fun j hj => hs5 j hj⟩) (Nat.le_of_ble_eq_true rfl) (Nat.le_of_ble_eq_true rfl) dX4_init_40
      · refine lv_aload_n hx hb dX4_init_21 rfl (lv_at hl 1 rfl) ?_
        refine g_get S hI hP uX4 rfl (fs := _) (by omega) he5 0 (by decide) q193 rfl (v := .ref (ad5 (q + 1))) rfl dX4_init_22 ?_
        refine lv_iload_n hx hb dX4_init_25 rfl (lv_at hl 0 rfl) ?_
        refine g_newM S hI hP hS (ci := 11) uX7 rfl tyX7 tyX7_ok q190 q132 q83 (fs := [.null, .null, .null, .null, .null, .null, .int 0, .int 0, .int 0, .int 0]) (fun j hj => by match j, hj with | 0, _ => rfl | 1, _ => rfl | 2, _ => rfl | 3, _ => rfl | 4, _ => rfl | 5, _ => rfl | 6, _ => rfl | 7, _ => rfl | 8, _ => rfl | 9, _ => rfl) (Nat.le_trans (m := 57) (by omega) (Nat.le_of_ble_eq_true rfl)) (Nat.le_trans (m := 1560) (by omega) (Nat.le_of_ble_eq_true rfl)) dX4_init_26 (fun ad2 wn2 H hP hS hadL2 hwL2 hwN2 => ?_)
        have hP : gP E ad2 (q + 2 + 7 * i + 1) wn2 H := hP
        rw [show ([.ref (ad2 (q + 2 + 7 * i)), .int (nI (i)), .ref (ad5 (q + 1))] : List Value) = [.ref (ad2 (q + 2 + 7 * i)), .int (nI (i)), .ref (ad2 (q + 1))] by rw [hadL2 (q + 1) (by omega)]]
        have hl : lv_has ls 2 [(1, .int (nI (i))), (0, .ref (ad2 (q)))] := by rw [hadL2 (q) (by omega)]; exact hl
        have he7 : wn2 q = .inr (8, [.ref (ad2 (q + 1)), .int 0, .int 0]) := by rw [hwL2 q (by omega), he5, hadL2 (q + 1) (by omega)]
        have hA8 : ∀ p, p < q + 1 → ad2 p = ad p := fun p hp => (hadL2 p (by omega)).trans (hA5 p hp)
        have hW9 : ∀ p, p < q → wn2 p = w p := fun p hp => (hwL2 p (by omega)).trans (hW5 p hp)
        have hrr10 : wn2 (q + 1) = rwA (E.2.1 4) 8 (fun j => if j < i then some (ad2 (q + 2 + 7 * j)) else none) := rwA_to ((hwL2 (q + 1) (by omega)).trans hr5) (fun j => by by_cases hj : j < i; rw [if_pos hj, if_pos hj, hadL2 (q + 2 + 7 * j) (by omega)]; rw [if_neg hj, if_neg hj])
        have hss11 : ∀ j, j < i → bkP (q + 2 + 7 * i + 1) wn2 (q + 2 + 7 * j) 7 (shC E ad2 (q + 2 + 7 * j) shZ) := fun j hj => SH_mv (hs5 j hj) (w' := wn2) (N' := q + 2 + 7 * i + 1) (M := q + 2 + 7 * i) (by omega) (by omega) (fun p hp => (hadL2 p (by omega)).symm) (fun p h1 h2 => hwL2 p (by omega))
        refine lv_dup hx hb dX4_init_29 rfl ?_
        refine g_uafv (g_runI S hI hP hS (k := 0) (b := q + 2 + 7 * i) (As := []) (rest := [.ref (ad2 (q + 2 + 7 * i)), .int (nI (i)), .ref (ad2 (q + 1))]) (mX7_init l (q + 2 + 7 * i) hwN2) q192 q134 q83 q135 rfl rfl rfl (by decide +kernel) ⟨(Nat.le_of_ble_eq_true rfl), (Nat.le_of_ble_eq_true rfl)⟩ rfl hl.1 rfl (Nat.le_of_ble_eq_true rfl) ⟨(Nat.le_trans (m := 57) (by omega) (Nat.le_of_ble_eq_true rfl)), (Nat.le_trans (m := 1560) (by omega) (Nat.le_of_ble_eq_true rfl))⟩ dX4_init_30) hS (fun ad3 N3 wn3 H locs hq hP hS => ?_)
        obtain ⟨hN3, hadL3, hwL3, hbs3⟩ := hq
        have hN3 : N3 = q + 2 + 7 * i + 7 := hN3
        subst hN3
        rw [show ([.ref (ad2 (q + 2 + 7 * i)), .int (nI (i)), .ref (ad2 (q + 1))] : List Value) = [.ref (ad3 (q + 2 + 7 * i)), .int (nI (i)), .ref (ad3 (q + 1))] by rw [hadL3 (q + 2 + 7 * i) (by omega), hadL3 (q + 1) (by omega)]]
        have hl : lv_has ls 2 [(1, .int (nI (i))), (0, .ref (ad3 (q)))] := by rw [hadL3 q (by omega)]; exact hl
        have he12 : wn3 q = .inr (8, [.ref (ad3 (q + 1)), .int 0, .int 0]) := by rw [hwL3 q (by omega), he7, hadL3 (q + 1) (by omega)]
        have hA13 : ∀ p, p < q + 1 → ad3 p = ad p := fun p hp => (hadL3 p (by omega)).trans (hA8 p hp)
        have hW14 : ∀ p, p < q → wn3 p = w p := fun p hp => (hwL3 p (by omega)).trans (hW9 p hp)
        have hrr15 : wn3 (q + 1) = rwA (E.2.1 4) 8 (fun j => if j < i then some (ad3 (q + 2 + 7 * j)) else none) := rwA_to ((hwL3 (q + 1) (by omega)).trans hrr10) (fun j => by by_cases hj : j < i; rw [if_pos hj, if_pos hj, hadL3 (q + 2 + 7 * j) (by omega)]; rw [if_neg hj, if_neg hj])
        have hss16 : ∀ j, j < i → bkP (q + 2 + 7 * i + 7) wn3 (q + 2 + 7 * j) 7 (shC E ad3 (q + 2 + 7 * j) shZ) := fun j hj => SH_mv (hss11 j hj) (w' := wn3) (N' := q + 2 + 7 * i + 7) (M := q + 2 + 7 * i) (by omega) (by omega) (fun p hp => (hadL3 p (by omega)).symm) (fun p h1 h2 => hwL3 p (by omega))
        have hbs3 : bkP (q + 2 + 7 * i + 7) wn3 (q + 2 + 7 * i) 7 (shC E ad3 (q + 2 + 7 * i) shZ) := hbs3
        refine g_astO S hI hP hS (q0 := q + 1) (qk := q + 2 + 7 * i) (by omega) hrr15 (t := 4) rfl (g_castSelf hzk.2.2.2.2.2.2.2.2.2.2.2) (by omega) (hbs3.2 0 (by decide)) rfl i (by omega) (by decide) dX4_init_33 (fun H locs hP hS => ?_)
        refine lv_iinc (v := nI (i + 1)) (lv' := [(1, .int (nI (i + 1))), (0, .ref (ad3 (q)))]) hx hb dX4_init_34 hl (k := 0) rfl (g_inc _ 1 (by decide +kernel)) (by decide) rfl (fun ls hl => ?_)
        refine lv_goto (tgt := 15) hx hb dX4_init_37 (by decide) ?_
        have hP : gP E ad3 (q + 2 + 7 * (i + 1)) (va_up wn3 (q + 1) (rwA (E.2.1 4) 8 (va_up (fun j => if j < i then some (ad3 (q + 2 + 7 * j)) else none) i (some (ad3 (q + 2 + 7 * i)))))) H := hP
        exact ih_hl8 (i + 1) (ad3) (by omega) (by omega) _ _ _ hP hS  (hA13) (fun p hp => by rw [va_up_ne _ _ (by omega)]; exact hW14 p hp) (by rw [va_up_ne _ _ (by omega)]; exact he12) (by rw [va_up_self]; exact rwA_to rfl (fun j => by by_cases hj : j = i; subst hj; rw [va_up_self, if_pos (by omega)]; rw [va_up_ne _ _ hj]; by_cases hji : j < i; rw [if_pos hji, if_pos (by omega)]; rw [if_neg hji, if_neg (by omega)])) (fun j hj => (if hji : j < i then (hss16 j hji).keep (p := q + 1) (by omega) else by have e9 : j = i := (by omega); subst e9; exact hbs3.keep (p := q + 1) (by omega))) ls (lv_sub hl [0, 1] rfl)
  exact hl8 (9 - (0) + 1) (0) (ad1) (Nat.lt_succ_self _) (by omega) _ _ _ hP hS  (hA2) (hW6) (he5) (hr1) (fun j hj => absurd hj (Nat.not_lt_zero j)) ls (lv_sub hl [0, 1] rfl)
set_option maxHeartbeats 4000000 in
set_option maxRecDepth 100000 in
/-- regions are made -/
theorem mX5_init (l : Launch) {E : gE} {ad : Nat → Nat} {w : Nat → va_E} (q : Nat)  (he : w q = .inr (9, [.null, .null, .null, .null]))  : gUv l yX5_init (lw_ws yX5_init cX5_init 1 none) ({ frames := 2, cells := 7, slots := 185, locals := 40 } : Room) E ad (q + 1) w [.ref (ad (q))] (fun ad' N' w' => N' = q + 8 ∧ (∀ p, p < q + 1 → ad' p = ad p) ∧ (∀ p, p < q → w' p = w p) ∧ bkP N' w' q 1 (RGC E ad' q) ∧ bkP N' w' (q + 1) 3 (FLC E ad' (q + 1) (fun _ => 0) (fun _ => 0) 0 0) ∧ bkP N' w' (q + 4) 2 (UNC E ad' (q + 4) (fun _ => 0)) ∧ bkP N' w' (q + 6) 2 (RKC E ad' (q + 6) (fun _ => 0) (fun _ => 0))) 7 185 := by
  refine Met.ofW (cc := cX5_init) (maxL := 1) (ret := none) (by decide) rfl ?_
  intro p e s m args below meth cd s₁ B hml hv
  obtain ⟨rfl, hI, hP⟩ := hv
  obtain ⟨S, hr, hlocks⟩ := gPre (ws := []) B hml (C := RX5) rfl
  have hx := S.1
  have hb := S.2.1
  have hS : va_S (gA E) s.heap s.heap [] := va_S.rf
  have hl := lv_entry ([.ref (ad (q))]) (n := 1) (Nat.le_of_ble_eq_true rfl)
  rw [lg_entry_eq]
  generalize (lg_sl ([.ref (ad (q))]) ++ List.replicate (1 - (lg_sl ([.ref (ad (q))])).length) Slot.unset).toArray = ls at hl ⊢
  have hl : lv_has ls 1 [(0, .ref (ad (q)))] := hl
  have hin2 : meth.name = "<init>" := (name_of_methodNamed B.named B.method).1
  have hA0 : ∀ p, p < q + 1 → ad p = ad p := fun _ _ => rfl
  have hW0 : ∀ p, p < q → w p = w p := fun _ _ => rfl
  refine lv_aload_n hx hb dX5_init_0 rfl (lv_at hl 0 rfl) ?_
  refine g_oinit S hl.1 q209 q129 q130 dX5_init_1 (Nat.le_of_ble_eq_true rfl) (Nat.le_of_ble_eq_true rfl) ?_
  refine lv_aload_n hx hb dX5_init_4 rfl (lv_at hl 0 rfl) ?_
  refine g_newM S hI hP hS (ci := 7) uX3 rfl tyX3 tyX3_ok q210 q211 q87 (fs := [.null, .null, .int 0, .int 0]) (fun j hj => by match j, hj with | 0, _ => rfl | 1, _ => rfl | 2, _ => rfl | 3, _ => rfl) (Nat.le_of_ble_eq_true rfl) (Nat.le_of_ble_eq_true rfl) dX5_init_5 (fun ad1 wn1 H hP hS hadL1 hwL1 hwN1 => ?_)
  rw [show ([.ref (ad1 (q + 1)), .ref (ad (q))] : List Value) = [.ref (ad1 (q + 1)), .ref (ad1 (q))] by rw [hadL1 (q) (by omega)]]
  have hl : lv_has ls 1 [(0, .ref (ad1 (q)))] := by rw [hadL1 (q) (by omega)]; exact hl
  have hP : gP E ad1 (q + 2) wn1 H := hP
  have he1 : wn1 q = .inr (9, [.null, .null, .null, .null]) := by rw [hwL1 q (by omega), he]
  have hA2 : ∀ p, p < q + 1 → ad1 p = ad p := fun p hp => (hadL1 p (by omega)).trans (hA0 p hp)
  have hW3 : ∀ p, p < q → wn1 p = w p := fun p hp => (hwL1 p (by omega)).trans (hW0 p hp)
  refine lv_dup hx hb dX5_init_8 rfl ?_
  refine g_uafv (g_runIN S hI hP hS (k := 0) (b := q + 1) (As := []) (rest := [.ref (ad1 (q + 1)), .ref (ad1 (q))]) (mX3_init l (q + 1) hwN1) q212 q213 q87 q214 rfl rfl rfl (by decide +kernel) ⟨(Nat.le_of_ble_eq_true rfl), (Nat.le_of_ble_eq_true rfl)⟩ rfl hl.1 rfl (Nat.le_of_ble_eq_true rfl) ⟨(Nat.le_of_ble_eq_true rfl), (Nat.le_of_ble_eq_true rfl)⟩ dX5_init_9) hS (fun ad2 N2 wn2 H locs hq hP hS => ?_)
  obtain ⟨hN2, hadL2, hwL2, hbs2⟩ := hq
  have hN2 : N2 = q + 4 := hN2
  subst hN2
  rw [show ([.ref (ad1 (q + 1)), .ref (ad1 (q))] : List Value) = [.ref (ad2 (q + 1)), .ref (ad2 (q))] by rw [hadL2 (q + 1) (by omega), hadL2 (q) (by omega)]]
  have hl : lv_has ls 1 [(0, .ref (ad2 (q)))] := by rw [hadL2 (q) (by omega)]; exact hl
  have he4 : wn2 q = .inr (9, [.null, .null, .null, .null]) := by rw [hwL2 q (by omega), he1]
  have hA5 : ∀ p, p < q + 1 → ad2 p = ad p := fun p hp => (hadL2 p (by omega)).trans (hA2 p hp)
  have hW6 : ∀ p, p < q → wn2 p = w p := fun p hp => (hwL2 p (by omega)).trans (hW3 p hp)
  refine g_putF S hI hP hS hin2 uX5 rfl tyX5 tyX5_ok nmX5 (q0 := q) (fs := [.null, .null, .null, .null]) (by omega) he4 0 (by decide) q242 rfl rfl rfl (v := .ref (ad2 (q + 1))) rfl rfl (Nat.le_of_ble_eq_true rfl) dX5_init_12 (fun H locs hP hS => ?_)
  have hP : gP E ad2 (q + 4) (va_up wn2 q (.inr (9, [.ref (ad2 (q + 1)), .null, .null, .null]))) H := hP
  obtain ⟨wv7, hwv7⟩ : ∃ z, z = va_up wn2 q (.inr (9, [.ref (ad2 (q + 1)), .null, .null, .null]) : va_E) := ⟨_, rfl⟩
  rw [← hwv7] at hP
  have he8 : wv7 q = .inr (9, [.ref (ad2 (q + 1)), .null, .null, .null]) := by rw [hwv7, va_up_self]
  have hb9 := hbs2.keep (p := q) (e := (.inr (9, [.ref (ad2 (q + 1)), .null, .null, .null]) : va_E)) (by omega)
  rw [← hwv7] at hb9
  have hW10 : ∀ p, p < q → wv7 p = w p := fun p hp => by rw [hwv7, va_up_ne _ _ (by omega)]; exact hW6 p hp
  refine lv_aload_n hx hb dX5_init_15 rfl (lv_at hl 0 rfl) ?_
  refine g_newM S hI hP hS (ci := 14) uX10 rfl tyX10 tyX10_ok q232 q233 q88 (fs := [.null]) (fun j hj => by match j, hj with | 0, _ => rfl) (Nat.le_of_ble_eq_true rfl) (Nat.le_of_ble_eq_true rfl) dX5_init_16 (fun ad3 wn3 H hP hS hadL3 hwL3 hwN3 => ?_)
  rw [show ([.ref (ad3 (q + 4)), .ref (ad2 (q))] : List Value) = [.ref (ad3 (q + 4)), .ref (ad3 (q))] by rw [hadL3 (q) (by omega)]]
  have hl : lv_has ls 1 [(0, .ref (ad3 (q)))] := by rw [hadL3 (q) (by omega)]; exact hl
  have hb11 := FL_mv hb9 (w' := wn3) (M := (q + 4)) (by omega) (Nat.le_succ _) (fun p hp => (hadL3 p hp).symm) (fun p h1 h2 => hwL3 p (by omega))
  have hP : gP E ad3 (q + 5) wn3 H := hP
  have he12 : wn3 q = .inr (9, [.ref (ad3 (q + 1)), .null, .null, .null]) := by rw [hwL3 q (by omega), he8, hadL3 (q + 1) (by omega)]
  have hA13 : ∀ p, p < q + 1 → ad3 p = ad p := fun p hp => (hadL3 p (by omega)).trans (hA5 p hp)
  have hW14 : ∀ p, p < q → wn3 p = w p := fun p hp => (hwL3 p (by omega)).trans (hW10 p hp)
  refine lv_dup hx hb dX5_init_19 rfl ?_
  refine g_uafv (g_runIN S hI hP hS (k := 0) (b := q + 4) (As := []) (rest := [.ref (ad3 (q + 4)), .ref (ad3 (q))]) (mX10_init l (q + 4) hwN3) q234 q235 q88 q236 rfl rfl rfl (by decide +kernel) ⟨(Nat.le_of_ble_eq_true rfl), (Nat.le_of_ble_eq_true rfl)⟩ rfl hl.1 rfl (Nat.le_of_ble_eq_true rfl) ⟨(Nat.le_of_ble_eq_true rfl), (Nat.le_of_ble_eq_true rfl)⟩ dX5_init_20) hS (fun ad4 N4 wn4 H locs hq hP hS => ?_)
  obtain ⟨hN4, hadL4, hwL4, hbs4⟩ := hq
  have hN4 : N4 = q + 6 := hN4
  subst hN4
  rw [show ([.ref (ad3 (q + 4)), .ref (ad3 (q))] : List Value) = [.ref (ad4 (q + 4)), .ref (ad4 (q))] by rw [hadL4 (q + 4) (by omega), hadL4 (q) (by omega)]]
  have hl : lv_has ls 1 [(0, .ref (ad4 (q)))] := by rw [hadL4 (q) (by omega)]; exact hl
  have hb15 := FL_mv hb11 (w' := wn4) (N' := q + 6) (M := q + 4) (by omega) (by omega) (fun p hp => (hadL4 p (by omega)).symm) (fun p h1 h2 => hwL4 p (by omega))
  have he16 : wn4 q = .inr (9, [.ref (ad4 (q + 1)), .null, .null, .null]) := by rw [hwL4 q (by omega), he12, hadL4 (q + 1) (by omega)]
  have hA17 : ∀ p, p < q + 1 → ad4 p = ad p := fun p hp => (hadL4 p (by omega)).trans (hA13 p hp)
  have hW18 : ∀ p, p < q → wn4 p = w p := fun p hp => (hwL4 p (by omega)).trans (hW14 p hp)
  refine g_putF S hI hP hS hin2 uX5 rfl tyX5 tyX5_ok nmX5 (q0 := q) (fs := [.ref (ad4 (q + 1)), .null, .null, .null]) (by omega) he16 1 (by decide) q243 rfl rfl rfl (v := .ref (ad4 (q + 4))) rfl rfl (Nat.le_of_ble_eq_true rfl) dX5_init_23 (fun H locs hP hS => ?_)
  have hP : gP E ad4 (q + 6) (va_up wn4 q (.inr (9, [.ref (ad4 (q + 1)), .ref (ad4 (q + 4)), .null, .null]))) H := hP
  obtain ⟨wv19, hwv19⟩ : ∃ z, z = va_up wn4 q (.inr (9, [.ref (ad4 (q + 1)), .ref (ad4 (q + 4)), .null, .null]) : va_E) := ⟨_, rfl⟩
  rw [← hwv19] at hP
  have he20 : wv19 q = .inr (9, [.ref (ad4 (q + 1)), .ref (ad4 (q + 4)), .null, .null]) := by rw [hwv19, va_up_self]
  have hb21 := hb15.keep (p := q) (e := (.inr (9, [.ref (ad4 (q + 1)), .ref (ad4 (q + 4)), .null, .null]) : va_E)) (by omega)
  rw [← hwv19] at hb21
  have hb22 := hbs4.keep (p := q) (e := (.inr (9, [.ref (ad4 (q + 1)), .ref (ad4 (q + 4)), .null, .null]) : va_E)) (by omega)
  rw [← hwv19] at hb22
  have hW23 : ∀ p, p < q → wv19 p = w p := fun p hp => by rw [hwv19, va_up_ne _ _ (by omega)]; exact hW18 p hp
  refine lv_aload_n hx hb dX5_init_26 rfl (lv_at hl 0 rfl) ?_
  refine g_bipush S 36 dX5_init_27 (by decide +kernel) ?_
  refine g_newaM S hI hP hS (atype := .boolean) 1 rfl (fun _ _ h => h) rfl q183 36 rfl (by decide) (Nat.le_of_ble_eq_true rfl) (Nat.le_of_ble_eq_true rfl) (Nat.le_of_ble_eq_true rfl) dX5_init_29 (fun ad5 wn5 H hP hS hadL5 hwL5 hwN5 => ?_)
  have hP : gP E ad5 (q + 7) wn5 H := hP
  rw [show ([.ref (ad5 (q + 6)), .ref (ad4 (q))] : List Value) = [.ref (ad5 (q + 6)), .ref (ad5 (q))] by rw [hadL5 (q) (by omega)]]
  have hl : lv_has ls 1 [(0, .ref (ad5 (q)))] := by rw [hadL5 (q) (by omega)]; exact hl
  have hb24 := FL_mv hb21 (w' := wn5) (M := (q + 6)) (by omega) (Nat.le_succ _) (fun p hp => (hadL5 p hp).symm) (fun p h1 h2 => hwL5 p (by omega))
  have hb25 := UN_mv hb22 (w' := wn5) (M := (q + 6)) (by omega) (Nat.le_succ _) (fun p hp => (hadL5 p hp).symm) (fun p h1 h2 => hwL5 p (by omega))
  have he26 : wn5 q = .inr (9, [.ref (ad5 (q + 1)), .ref (ad5 (q + 4)), .null, .null]) := by rw [hwL5 q (by omega), he20, hadL5 (q + 1) (by omega), hadL5 (q + 4) (by omega)]
  have hA27 : ∀ p, p < q + 1 → ad5 p = ad p := fun p hp => (hadL5 p (by omega)).trans (hA17 p hp)
  have hW28 : ∀ p, p < q → wn5 p = w p := fun p hp => (hwL5 p (by omega)).trans (hW23 p hp)
  refine g_putF S hI hP hS hin2 uX5 rfl tyX5 tyX5_ok nmX5 (q0 := q) (fs := [.ref (ad5 (q + 1)), .ref (ad5 (q + 4)), .null, .null]) (by omega) he26 2 (by decide) q244 rfl rfl rfl (v := .ref (ad5 (q + 6))) rfl rfl (Nat.le_of_ble_eq_true rfl) dX5_init_31 (fun H locs hP hS => ?_)
  have hP : gP E ad5 (q + 7) (va_up wn5 q (.inr (9, [.ref (ad5 (q + 1)), .ref (ad5 (q + 4)), .ref (ad5 (q + 6)), .null]))) H := hP
  obtain ⟨wv29, hwv29⟩ : ∃ z, z = va_up wn5 q (.inr (9, [.ref (ad5 (q + 1)), .ref (ad5 (q + 4)), .ref (ad5 (q + 6)), .null]) : va_E) := ⟨_, rfl⟩
  rw [← hwv29] at hP
  have he30 : wv29 q = .inr (9, [.ref (ad5 (q + 1)), .ref (ad5 (q + 4)), .ref (ad5 (q + 6)), .null]) := by rw [hwv29, va_up_self]
  have ea31 : wv29 (q + 6) = gAr (E.2.1 1) 36 (fun _ => 0) := by rw [hwv29, va_up_ne _ _ (by omega)]; exact hwN5
  have hb32 := hb24.keep (p := q) (e := (.inr (9, [.ref (ad5 (q + 1)), .ref (ad5 (q + 4)), .ref (ad5 (q + 6)), .null]) : va_E)) (by omega)
  rw [← hwv29] at hb32
  have hb33 := hb25.keep (p := q) (e := (.inr (9, [.ref (ad5 (q + 1)), .ref (ad5 (q + 4)), .ref (ad5 (q + 6)), .null]) : va_E)) (by omega)
  rw [← hwv29] at hb33
  have hW34 : ∀ p, p < q → wv29 p = w p := fun p hp => by rw [hwv29, va_up_ne _ _ (by omega)]; exact hW28 p hp
  refine lv_aload_n hx hb dX5_init_34 rfl (lv_at hl 0 rfl) ?_
  refine g_bipush S 36 dX5_init_35 (by decide +kernel) ?_
  refine g_newaM S hI hP hS (atype := .int) 0 rfl (fun _ _ h => h) rfl q182 36 rfl (by decide) (Nat.le_of_ble_eq_true rfl) (Nat.le_of_ble_eq_true rfl) (Nat.le_of_ble_eq_true rfl) dX5_init_37 (fun ad6 wn6 H hP hS hadL6 hwL6 hwN6 => ?_)
  have hP : gP E ad6 (q + 8) wn6 H := hP
  rw [show ([.ref (ad6 (q + 7)), .ref (ad5 (q))] : List Value) = [.ref (ad6 (q + 7)), .ref (ad6 (q))] by rw [hadL6 (q) (by omega)]]
  have hl : lv_has ls 1 [(0, .ref (ad6 (q)))] := by rw [hadL6 (q) (by omega)]; exact hl
  have hb35 := FL_mv hb32 (w' := wn6) (M := (q + 7)) (by omega) (Nat.le_succ _) (fun p hp => (hadL6 p hp).symm) (fun p h1 h2 => hwL6 p (by omega))
  have hb36 := UN_mv hb33 (w' := wn6) (M := (q + 7)) (by omega) (Nat.le_succ _) (fun p hp => (hadL6 p hp).symm) (fun p h1 h2 => hwL6 p (by omega))
  have he37 : wn6 q = .inr (9, [.ref (ad6 (q + 1)), .ref (ad6 (q + 4)), .ref (ad6 (q + 6)), .null]) := by rw [hwL6 q (by omega), he30, hadL6 (q + 1) (by omega), hadL6 (q + 4) (by omega), hadL6 (q + 6) (by omega)]
  have ea38 : wn6 (q + 6) = gAr (E.2.1 1) 36 (fun _ => 0) := by rw [hwL6 (q + 6) (by omega)]; exact ea31
  have hA39 : ∀ p, p < q + 1 → ad6 p = ad p := fun p hp => (hadL6 p (by omega)).trans (hA27 p hp)
  have hW40 : ∀ p, p < q → wn6 p = w p := fun p hp => (hwL6 p (by omega)).trans (hW34 p hp)
  refine g_putF S hI hP hS hin2 uX5 rfl tyX5 tyX5_ok nmX5 (q0 := q) (fs := [.ref (ad6 (q + 1)), .ref (ad6 (q + 4)), .ref (ad6 (q + 6)), .null]) (by omega) he37 3 (by decide) q245 rfl rfl rfl (v := .ref (ad6 (q + 7))) rfl rfl (Nat.le_of_ble_eq_true rfl) dX5_init_39 (fun H locs hP hS => ?_)
  have hP : gP E ad6 (q + 8) (va_up wn6 q (.inr (9, [.ref (ad6 (q + 1)), .ref (ad6 (q + 4)), .ref (ad6 (q + 6)), .ref (ad6 (q + 7))]))) H := hP
  obtain ⟨wv41, hwv41⟩ : ∃ z, z = va_up wn6 q (.inr (9, [.ref (ad6 (q + 1)), .ref (ad6 (q + 4)), .ref (ad6 (q + 6)), .ref (ad6 (q + 7))]) : va_E) := ⟨_, rfl⟩
  rw [← hwv41] at hP
  have he42 : wv41 q = .inr (9, [.ref (ad6 (q + 1)), .ref (ad6 (q + 4)), .ref (ad6 (q + 6)), .ref (ad6 (q + 7))]) := by rw [hwv41, va_up_self]
  have ea43 : wv41 (q + 6) = gAr (E.2.1 1) 36 (fun _ => 0) := by rw [hwv41, va_up_ne _ _ (by omega)]; exact ea38
  have ea44 : wv41 (q + 7) = gAr (E.2.1 0) 36 (fun _ => 0) := by rw [hwv41, va_up_ne _ _ (by omega)]; exact hwN6
  have hb45 := hb35.keep (p := q) (e := (.inr (9, [.ref (ad6 (q + 1)), .ref (ad6 (q + 4)), .ref (ad6 (q + 6)), .ref (ad6 (q + 7))]) : va_E)) (by omega)
  rw [← hwv41] at hb45
  have hb46 := hb36.keep (p := q) (e := (.inr (9, [.ref (ad6 (q + 1)), .ref (ad6 (q + 4)), .ref (ad6 (q + 6)), .ref (ad6 (q + 7))]) : va_E)) (by omega)
  rw [← hwv41] at hb46
  have hW47 : ∀ p, p < q → wv41 p = w p := fun p hp => by rw [hwv41, va_up_ne _ _ (by omega)]; exact hW40 p hp
  exact g_uvret S hr hlocks hP hS (⟨rfl, hA39, hW47, ⟨by omega, fun k hk => by match k, hk with | 0, _ => exact he42⟩, hb45, hb46, ⟨by omega, fun k hk => by match k, hk with | 0, _ => exact ea43 | 1, _ => exact ea44⟩⟩) (Nat.le_of_ble_eq_true rfl) (Nat.le_of_ble_eq_true rfl) dX5_init_42
set_option maxHeartbeats 4000000 in
set_option maxRecDepth 100000 in
/-- spill levels are made -/
theorem mX8_init (l : Launch) {E : gE} {ad : Nat → Nat} {w : Nat → va_E} (q : Nat)  (he : w q = .inr (12, [.null, .null]))  : gUv l yX8_init (lw_ws yX8_init cX8_init 1 none) ({ frames := 2, cells := 4, slots := 110, locals := 40 } : Room) E ad (q + 1) w [.ref (ad (q))] (fun ad' N' w' => N' = q + 5 ∧ (∀ p, p < q + 1 → ad' p = ad p) ∧ (∀ p, p < q → w' p = w p) ∧ bkP N' w' q 1 (SLC E ad' q) ∧ bkP N' w' (q + 1) 3 (CQC E ad' (q + 1) (fun _ => 0) (fun _ => 0)) ∧ bkP N' w' (q + 4) 1 (LVC E ad' (q + 4) (fun _ => 0))) 4 110 := by
  refine Met.ofW (cc := cX8_init) (maxL := 1) (ret := none) (by decide) rfl ?_
  intro p e s m args below meth cd s₁ B hml hv
  obtain ⟨rfl, hI, hP⟩ := hv
  obtain ⟨S, hr, hlocks⟩ := gPre (ws := []) B hml (C := RX8) rfl
  have hx := S.1
  have hb := S.2.1
  have hS : va_S (gA E) s.heap s.heap [] := va_S.rf
  have hl := lv_entry ([.ref (ad (q))]) (n := 1) (Nat.le_of_ble_eq_true rfl)
  rw [lg_entry_eq]
  generalize (lg_sl ([.ref (ad (q))]) ++ List.replicate (1 - (lg_sl ([.ref (ad (q))])).length) Slot.unset).toArray = ls at hl ⊢
  have hl : lv_has ls 1 [(0, .ref (ad (q)))] := hl
  have hin2 : meth.name = "<init>" := (name_of_methodNamed B.named B.method).1
  have hA0 : ∀ p, p < q + 1 → ad p = ad p := fun _ _ => rfl
  have hW0 : ∀ p, p < q → w p = w p := fun _ _ => rfl
  refine lv_aload_n hx hb dX8_init_0 rfl (lv_at hl 0 rfl) ?_
  refine g_oinit S hl.1 q260 q129 q130 dX8_init_1 (Nat.le_of_ble_eq_true rfl) (Nat.le_of_ble_eq_true rfl) ?_
  refine lv_aload_n hx hb dX8_init_4 rfl (lv_at hl 0 rfl) ?_
  refine g_newM S hI hP hS (ci := 5) uX1 rfl tyX1 tyX1_ok q261 q262 q90 (fs := [.null, .null]) (fun j hj => by match j, hj with | 0, _ => rfl | 1, _ => rfl) (Nat.le_of_ble_eq_true rfl) (Nat.le_of_ble_eq_true rfl) dX8_init_5 (fun ad1 wn1 H hP hS hadL1 hwL1 hwN1 => ?_)
  rw [show ([.ref (ad1 (q + 1)), .ref (ad (q))] : List Value) = [.ref (ad1 (q + 1)), .ref (ad1 (q))] by rw [hadL1 (q) (by omega)]]
  have hl : lv_has ls 1 [(0, .ref (ad1 (q)))] := by rw [hadL1 (q) (by omega)]; exact hl
  have hP : gP E ad1 (q + 2) wn1 H := hP
  have he1 : wn1 q = .inr (12, [.null, .null]) := by rw [hwL1 q (by omega), he]
  have hA2 : ∀ p, p < q + 1 → ad1 p = ad p := fun p hp => (hadL1 p (by omega)).trans (hA0 p hp)
  have hW3 : ∀ p, p < q → wn1 p = w p := fun p hp => (hwL1 p (by omega)).trans (hW0 p hp)
  refine lv_dup hx hb dX8_init_8 rfl ?_
  refine g_uafv (g_runIN S hI hP hS (k := 0) (b := q + 1) (As := []) (rest := [.ref (ad1 (q + 1)), .ref (ad1 (q))]) (mX1_init l (q + 1) hwN1) q263 q264 q90 q265 rfl rfl rfl (by decide +kernel) ⟨(Nat.le_of_ble_eq_true rfl), (Nat.le_of_ble_eq_true rfl)⟩ rfl hl.1 rfl (Nat.le_of_ble_eq_true rfl) ⟨(Nat.le_of_ble_eq_true rfl), (Nat.le_of_ble_eq_true rfl)⟩ dX8_init_9) hS (fun ad2 N2 wn2 H locs hq hP hS => ?_)
  obtain ⟨hN2, hadL2, hwL2, hbs2⟩ := hq
  have hN2 : N2 = q + 4 := hN2
  subst hN2
  rw [show ([.ref (ad1 (q + 1)), .ref (ad1 (q))] : List Value) = [.ref (ad2 (q + 1)), .ref (ad2 (q))] by rw [hadL2 (q + 1) (by omega), hadL2 (q) (by omega)]]
  have hl : lv_has ls 1 [(0, .ref (ad2 (q)))] := by rw [hadL2 (q) (by omega)]; exact hl
  have he4 : wn2 q = .inr (12, [.null, .null]) := by rw [hwL2 q (by omega), he1]
  have hA5 : ∀ p, p < q + 1 → ad2 p = ad p := fun p hp => (hadL2 p (by omega)).trans (hA2 p hp)
  have hW6 : ∀ p, p < q → wn2 p = w p := fun p hp => (hwL2 p (by omega)).trans (hW3 p hp)
  refine g_putF S hI hP hS hin2 uX8 rfl tyX8 tyX8_ok nmX8 (q0 := q) (fs := [.null, .null]) (by omega) he4 0 (by decide) q274 rfl rfl rfl (v := .ref (ad2 (q + 1))) rfl rfl (Nat.le_of_ble_eq_true rfl) dX8_init_12 (fun H locs hP hS => ?_)
  have hP : gP E ad2 (q + 4) (va_up wn2 q (.inr (12, [.ref (ad2 (q + 1)), .null]))) H := hP
  obtain ⟨wv7, hwv7⟩ : ∃ z, z = va_up wn2 q (.inr (12, [.ref (ad2 (q + 1)), .null]) : va_E) := ⟨_, rfl⟩
  rw [← hwv7] at hP
  have he8 : wv7 q = .inr (12, [.ref (ad2 (q + 1)), .null]) := by rw [hwv7, va_up_self]
  have hb9 := hbs2.keep (p := q) (e := (.inr (12, [.ref (ad2 (q + 1)), .null]) : va_E)) (by omega)
  rw [← hwv7] at hb9
  have hW10 : ∀ p, p < q → wv7 p = w p := fun p hp => by rw [hwv7, va_up_ne _ _ (by omega)]; exact hW6 p hp
  refine lv_aload_n hx hb dX8_init_15 rfl (lv_at hl 0 rfl) ?_
  refine g_bipush S 36 dX8_init_16 (by decide +kernel) ?_
  refine g_newaM S hI hP hS (atype := .int) 0 rfl (fun _ _ h => h) rfl q182 36 rfl (by decide) (Nat.le_of_ble_eq_true rfl) (Nat.le_of_ble_eq_true rfl) (Nat.le_of_ble_eq_true rfl) dX8_init_18 (fun ad3 wn3 H hP hS hadL3 hwL3 hwN3 => ?_)
  have hP : gP E ad3 (q + 5) wn3 H := hP
  rw [show ([.ref (ad3 (q + 4)), .ref (ad2 (q))] : List Value) = [.ref (ad3 (q + 4)), .ref (ad3 (q))] by rw [hadL3 (q) (by omega)]]
  have hl : lv_has ls 1 [(0, .ref (ad3 (q)))] := by rw [hadL3 (q) (by omega)]; exact hl
  have hb11 := CQ_mv hb9 (w' := wn3) (M := (q + 4)) (by omega) (Nat.le_succ _) (fun p hp => (hadL3 p hp).symm) (fun p h1 h2 => hwL3 p (by omega))
  have he12 : wn3 q = .inr (12, [.ref (ad3 (q + 1)), .null]) := by rw [hwL3 q (by omega), he8, hadL3 (q + 1) (by omega)]
  have hA13 : ∀ p, p < q + 1 → ad3 p = ad p := fun p hp => (hadL3 p (by omega)).trans (hA5 p hp)
  have hW14 : ∀ p, p < q → wn3 p = w p := fun p hp => (hwL3 p (by omega)).trans (hW10 p hp)
  refine g_putF S hI hP hS hin2 uX8 rfl tyX8 tyX8_ok nmX8 (q0 := q) (fs := [.ref (ad3 (q + 1)), .null]) (by omega) he12 1 (by decide) q275 rfl rfl rfl (v := .ref (ad3 (q + 4))) rfl rfl (Nat.le_of_ble_eq_true rfl) dX8_init_20 (fun H locs hP hS => ?_)
  have hP : gP E ad3 (q + 5) (va_up wn3 q (.inr (12, [.ref (ad3 (q + 1)), .ref (ad3 (q + 4))]))) H := hP
  obtain ⟨wv15, hwv15⟩ : ∃ z, z = va_up wn3 q (.inr (12, [.ref (ad3 (q + 1)), .ref (ad3 (q + 4))]) : va_E) := ⟨_, rfl⟩
  rw [← hwv15] at hP
  have he16 : wv15 q = .inr (12, [.ref (ad3 (q + 1)), .ref (ad3 (q + 4))]) := by rw [hwv15, va_up_self]
  have ea17 : wv15 (q + 4) = gAr (E.2.1 0) 36 (fun _ => 0) := by rw [hwv15, va_up_ne _ _ (by omega)]; exact hwN3
  have hb18 := hb11.keep (p := q) (e := (.inr (12, [.ref (ad3 (q + 1)), .ref (ad3 (q + 4))]) : va_E)) (by omega)
  rw [← hwv15] at hb18
  have hW19 : ∀ p, p < q → wv15 p = w p := fun p hp => by rw [hwv15, va_up_ne _ _ (by omega)]; exact hW14 p hp
  exact g_uvret S hr hlocks hP hS (⟨rfl, hA13, hW19, ⟨by omega, fun k hk => by match k, hk with | 0, _ => exact he16⟩, hb18, ⟨by omega, fun k hk => by match k, hk with | 0, _ => exact ea17⟩⟩) (Nat.le_of_ble_eq_true rfl) (Nat.le_of_ble_eq_true rfl) dX8_init_23
set_option maxHeartbeats 4000000 in
set_option maxRecDepth 100000 in
/-- routes are made -/
theorem mX6_init (l : Launch) {E : gE} {ad : Nat → Nat} {w : Nat → va_E} (q : Nat)  (he : w q = .inr (10, [.null, .null, .null, .null, .null, .int 0]))  : gUv l yX6_init (lw_ws yX6_init cX6_init 1 none) ({ frames := 2, cells := 10, slots := 283, locals := 40 } : Room) E ad (q + 1) w [.ref (ad (q))] (fun ad' N' w' => N' = q + 11 ∧ (∀ p, p < q + 1 → ad' p = ad p) ∧ (∀ p, p < q → w' p = w p) ∧ bkP N' w' q 1 (RTC E ad' q 0) ∧ bkP N' w' (q + 1) 3 (CQC E ad' (q + 1) (fun _ => 0) (fun _ => 0)) ∧ bkP N' w' (q + 4) 3 (FLC E ad' (q + 4) (fun _ => 0) (fun _ => 0) 0 0) ∧ bkP N' w' (q + 7) 2 (UNC E ad' (q + 7) (fun _ => 0)) ∧ bkP N' w' (q + 9) 1 (LVC E ad' (q + 9) (fun _ => 0)) ∧ bkP N' w' (q + 10) 1 (PRC E ad' (q + 10) (fun _ => 0))) 10 283 := by
  refine Met.ofW (cc := cX6_init) (maxL := 1) (ret := none) (by decide) rfl ?_
  intro p e s m args below meth cd s₁ B hml hv
  obtain ⟨rfl, hI, hP⟩ := hv
  obtain ⟨S, hr, hlocks⟩ := gPre (ws := []) B hml (C := RX6) rfl
  have hx := S.1
  have hb := S.2.1
  have hS : va_S (gA E) s.heap s.heap [] := va_S.rf
  have hl := lv_entry ([.ref (ad (q))]) (n := 1) (Nat.le_of_ble_eq_true rfl)
  rw [lg_entry_eq]
  generalize (lg_sl ([.ref (ad (q))]) ++ List.replicate (1 - (lg_sl ([.ref (ad (q))])).length) Slot.unset).toArray = ls at hl ⊢
  have hl : lv_has ls 1 [(0, .ref (ad (q)))] := hl
  have hin2 : meth.name = "<init>" := (name_of_methodNamed B.named B.method).1
  have hA0 : ∀ p, p < q + 1 → ad p = ad p := fun _ _ => rfl
  have hW0 : ∀ p, p < q → w p = w p := fun _ _ => rfl
  refine lv_aload_n hx hb dX6_init_0 rfl (lv_at hl 0 rfl) ?_
  refine g_oinit S hl.1 q286 q129 q130 dX6_init_1 (Nat.le_of_ble_eq_true rfl) (Nat.le_of_ble_eq_true rfl) ?_
  refine lv_aload_n hx hb dX6_init_4 rfl (lv_at hl 0 rfl) ?_
  refine g_newM S hI hP hS (ci := 5) uX1 rfl tyX1 tyX1_ok q287 q262 q90 (fs := [.null, .null]) (fun j hj => by match j, hj with | 0, _ => rfl | 1, _ => rfl) (Nat.le_of_ble_eq_true rfl) (Nat.le_of_ble_eq_true rfl) dX6_init_5 (fun ad1 wn1 H hP hS hadL1 hwL1 hwN1 => ?_)
  rw [show ([.ref (ad1 (q + 1)), .ref (ad (q))] : List Value) = [.ref (ad1 (q + 1)), .ref (ad1 (q))] by rw [hadL1 (q) (by omega)]]
  have hl : lv_has ls 1 [(0, .ref (ad1 (q)))] := by rw [hadL1 (q) (by omega)]; exact hl
  have hP : gP E ad1 (q + 2) wn1 H := hP
  have he1 : wn1 q = .inr (10, [.null, .null, .null, .null, .null, .int 0]) := by rw [hwL1 q (by omega), he]
  have hA2 : ∀ p, p < q + 1 → ad1 p = ad p := fun p hp => (hadL1 p (by omega)).trans (hA0 p hp)
  have hW3 : ∀ p, p < q → wn1 p = w p := fun p hp => (hwL1 p (by omega)).trans (hW0 p hp)
  refine lv_dup hx hb dX6_init_8 rfl ?_
  refine g_uafv (g_runIN S hI hP hS (k := 0) (b := q + 1) (As := []) (rest := [.ref (ad1 (q + 1)), .ref (ad1 (q))]) (mX1_init l (q + 1) hwN1) q288 q264 q90 q265 rfl rfl rfl (by decide +kernel) ⟨(Nat.le_of_ble_eq_true rfl), (Nat.le_of_ble_eq_true rfl)⟩ rfl hl.1 rfl (Nat.le_of_ble_eq_true rfl) ⟨(Nat.le_of_ble_eq_true rfl), (Nat.le_of_ble_eq_true rfl)⟩ dX6_init_9) hS (fun ad2 N2 wn2 H locs hq hP hS => ?_)
  obtain ⟨hN2, hadL2, hwL2, hbs2⟩ := hq
  have hN2 : N2 = q + 4 := hN2
  subst hN2
  rw [show ([.ref (ad1 (q + 1)), .ref (ad1 (q))] : List Value) = [.ref (ad2 (q + 1)), .ref (ad2 (q))] by rw [hadL2 (q + 1) (by omega), hadL2 (q) (by omega)]]
  have hl : lv_has ls 1 [(0, .ref (ad2 (q)))] := by rw [hadL2 (q) (by omega)]; exact hl
  have he4 : wn2 q = .inr (10, [.null, .null, .null, .null, .null, .int 0]) := by rw [hwL2 q (by omega), he1]
  have hA5 : ∀ p, p < q + 1 → ad2 p = ad p := fun p hp => (hadL2 p (by omega)).trans (hA2 p hp)
  have hW6 : ∀ p, p < q → wn2 p = w p := fun p hp => (hwL2 p (by omega)).trans (hW3 p hp)
  refine g_putF S hI hP hS hin2 uX6 rfl tyX6 tyX6_ok nmX6 (q0 := q) (fs := [.null, .null, .null, .null, .null, .int 0]) (by omega) he4 0 (by decide) q293 rfl rfl rfl (v := .ref (ad2 (q + 1))) rfl rfl (Nat.le_of_ble_eq_true rfl) dX6_init_12 (fun H locs hP hS => ?_)
  have hP : gP E ad2 (q + 4) (va_up wn2 q (.inr (10, [.ref (ad2 (q + 1)), .null, .null, .null, .null, .int 0]))) H := hP
  obtain ⟨wv7, hwv7⟩ : ∃ z, z = va_up wn2 q (.inr (10, [.ref (ad2 (q + 1)), .null, .null, .null, .null, .int 0]) : va_E) := ⟨_, rfl⟩
  rw [← hwv7] at hP
  have he8 : wv7 q = .inr (10, [.ref (ad2 (q + 1)), .null, .null, .null, .null, .int 0]) := by rw [hwv7, va_up_self]
  have hb9 := hbs2.keep (p := q) (e := (.inr (10, [.ref (ad2 (q + 1)), .null, .null, .null, .null, .int 0]) : va_E)) (by omega)
  rw [← hwv7] at hb9
  have hW10 : ∀ p, p < q → wv7 p = w p := fun p hp => by rw [hwv7, va_up_ne _ _ (by omega)]; exact hW6 p hp
  refine lv_aload_n hx hb dX6_init_15 rfl (lv_at hl 0 rfl) ?_
  refine g_newM S hI hP hS (ci := 7) uX3 rfl tyX3 tyX3_ok q289 q211 q87 (fs := [.null, .null, .int 0, .int 0]) (fun j hj => by match j, hj with | 0, _ => rfl | 1, _ => rfl | 2, _ => rfl | 3, _ => rfl) (Nat.le_of_ble_eq_true rfl) (Nat.le_of_ble_eq_true rfl) dX6_init_16 (fun ad3 wn3 H hP hS hadL3 hwL3 hwN3 => ?_)
  rw [show ([.ref (ad3 (q + 4)), .ref (ad2 (q))] : List Value) = [.ref (ad3 (q + 4)), .ref (ad3 (q))] by rw [hadL3 (q) (by omega)]]
  have hl : lv_has ls 1 [(0, .ref (ad3 (q)))] := by rw [hadL3 (q) (by omega)]; exact hl
  have hb11 := CQ_mv hb9 (w' := wn3) (M := (q + 4)) (by omega) (Nat.le_succ _) (fun p hp => (hadL3 p hp).symm) (fun p h1 h2 => hwL3 p (by omega))
  have hP : gP E ad3 (q + 5) wn3 H := hP
  have he12 : wn3 q = .inr (10, [.ref (ad3 (q + 1)), .null, .null, .null, .null, .int 0]) := by rw [hwL3 q (by omega), he8, hadL3 (q + 1) (by omega)]
  have hA13 : ∀ p, p < q + 1 → ad3 p = ad p := fun p hp => (hadL3 p (by omega)).trans (hA5 p hp)
  have hW14 : ∀ p, p < q → wn3 p = w p := fun p hp => (hwL3 p (by omega)).trans (hW10 p hp)
  refine lv_dup hx hb dX6_init_19 rfl ?_
  refine g_uafv (g_runIN S hI hP hS (k := 0) (b := q + 4) (As := []) (rest := [.ref (ad3 (q + 4)), .ref (ad3 (q))]) (mX3_init l (q + 4) hwN3) q290 q213 q87 q214 rfl rfl rfl (by decide +kernel) ⟨(Nat.le_of_ble_eq_true rfl), (Nat.le_of_ble_eq_true rfl)⟩ rfl hl.1 rfl (Nat.le_of_ble_eq_true rfl) ⟨(Nat.le_of_ble_eq_true rfl), (Nat.le_of_ble_eq_true rfl)⟩ dX6_init_20) hS (fun ad4 N4 wn4 H locs hq hP hS => ?_)
  obtain ⟨hN4, hadL4, hwL4, hbs4⟩ := hq
  have hN4 : N4 = q + 7 := hN4
  subst hN4
  rw [show ([.ref (ad3 (q + 4)), .ref (ad3 (q))] : List Value) = [.ref (ad4 (q + 4)), .ref (ad4 (q))] by rw [hadL4 (q + 4) (by omega), hadL4 (q) (by omega)]]
  have hl : lv_has ls 1 [(0, .ref (ad4 (q)))] := by rw [hadL4 (q) (by omega)]; exact hl
  have hb15 := CQ_mv hb11 (w' := wn4) (N' := q + 7) (M := q + 4) (by omega) (by omega) (fun p hp => (hadL4 p (by omega)).symm) (fun p h1 h2 => hwL4 p (by omega))
  have he16 : wn4 q = .inr (10, [.ref (ad4 (q + 1)), .null, .null, .null, .null, .int 0]) := by rw [hwL4 q (by omega), he12, hadL4 (q + 1) (by omega)]
  have hA17 : ∀ p, p < q + 1 → ad4 p = ad p := fun p hp => (hadL4 p (by omega)).trans (hA13 p hp)
  have hW18 : ∀ p, p < q → wn4 p = w p := fun p hp => (hwL4 p (by omega)).trans (hW14 p hp)
  refine g_putF S hI hP hS hin2 uX6 rfl tyX6 tyX6_ok nmX6 (q0 := q) (fs := [.ref (ad4 (q + 1)), .null, .null, .null, .null, .int 0]) (by omega) he16 1 (by decide) q294 rfl rfl rfl (v := .ref (ad4 (q + 4))) rfl rfl (Nat.le_of_ble_eq_true rfl) dX6_init_23 (fun H locs hP hS => ?_)
  have hP : gP E ad4 (q + 7) (va_up wn4 q (.inr (10, [.ref (ad4 (q + 1)), .ref (ad4 (q + 4)), .null, .null, .null, .int 0]))) H := hP
  obtain ⟨wv19, hwv19⟩ : ∃ z, z = va_up wn4 q (.inr (10, [.ref (ad4 (q + 1)), .ref (ad4 (q + 4)), .null, .null, .null, .int 0]) : va_E) := ⟨_, rfl⟩
  rw [← hwv19] at hP
  have he20 : wv19 q = .inr (10, [.ref (ad4 (q + 1)), .ref (ad4 (q + 4)), .null, .null, .null, .int 0]) := by rw [hwv19, va_up_self]
  have hb21 := hb15.keep (p := q) (e := (.inr (10, [.ref (ad4 (q + 1)), .ref (ad4 (q + 4)), .null, .null, .null, .int 0]) : va_E)) (by omega)
  rw [← hwv19] at hb21
  have hb22 := hbs4.keep (p := q) (e := (.inr (10, [.ref (ad4 (q + 1)), .ref (ad4 (q + 4)), .null, .null, .null, .int 0]) : va_E)) (by omega)
  rw [← hwv19] at hb22
  have hW23 : ∀ p, p < q → wv19 p = w p := fun p hp => by rw [hwv19, va_up_ne _ _ (by omega)]; exact hW18 p hp
  refine lv_aload_n hx hb dX6_init_26 rfl (lv_at hl 0 rfl) ?_
  refine g_newM S hI hP hS (ci := 14) uX10 rfl tyX10 tyX10_ok q291 q233 q88 (fs := [.null]) (fun j hj => by match j, hj with | 0, _ => rfl) (Nat.le_of_ble_eq_true rfl) (Nat.le_of_ble_eq_true rfl) dX6_init_27 (fun ad5 wn5 H hP hS hadL5 hwL5 hwN5 => ?_)
  rw [show ([.ref (ad5 (q + 7)), .ref (ad4 (q))] : List Value) = [.ref (ad5 (q + 7)), .ref (ad5 (q))] by rw [hadL5 (q) (by omega)]]
  have hl : lv_has ls 1 [(0, .ref (ad5 (q)))] := by rw [hadL5 (q) (by omega)]; exact hl
  have hb24 := CQ_mv hb21 (w' := wn5) (M := (q + 7)) (by omega) (Nat.le_succ _) (fun p hp => (hadL5 p hp).symm) (fun p h1 h2 => hwL5 p (by omega))
  have hb25 := FL_mv hb22 (w' := wn5) (M := (q + 7)) (by omega) (Nat.le_succ _) (fun p hp => (hadL5 p hp).symm) (fun p h1 h2 => hwL5 p (by omega))
  have hP : gP E ad5 (q + 8) wn5 H := hP
  have he26 : wn5 q = .inr (10, [.ref (ad5 (q + 1)), .ref (ad5 (q + 4)), .null, .null, .null, .int 0]) := by rw [hwL5 q (by omega), he20, hadL5 (q + 1) (by omega), hadL5 (q + 4) (by omega)]
  have hA27 : ∀ p, p < q + 1 → ad5 p = ad p := fun p hp => (hadL5 p (by omega)).trans (hA17 p hp)
  have hW28 : ∀ p, p < q → wn5 p = w p := fun p hp => (hwL5 p (by omega)).trans (hW23 p hp)
  refine lv_dup hx hb dX6_init_30 rfl ?_
  refine g_uafv (g_runIN S hI hP hS (k := 0) (b := q + 7) (As := []) (rest := [.ref (ad5 (q + 7)), .ref (ad5 (q))]) (mX10_init l (q + 7) hwN5) q292 q235 q88 q236 rfl rfl rfl (by decide +kernel) ⟨(Nat.le_of_ble_eq_true rfl), (Nat.le_of_ble_eq_true rfl)⟩ rfl hl.1 rfl (Nat.le_of_ble_eq_true rfl) ⟨(Nat.le_of_ble_eq_true rfl), (Nat.le_of_ble_eq_true rfl)⟩ dX6_init_31) hS (fun ad6 N6 wn6 H locs hq hP hS => ?_)
  obtain ⟨hN6, hadL6, hwL6, hbs6⟩ := hq
  have hN6 : N6 = q + 9 := hN6
  subst hN6
  rw [show ([.ref (ad5 (q + 7)), .ref (ad5 (q))] : List Value) = [.ref (ad6 (q + 7)), .ref (ad6 (q))] by rw [hadL6 (q + 7) (by omega), hadL6 (q) (by omega)]]
  have hl : lv_has ls 1 [(0, .ref (ad6 (q)))] := by rw [hadL6 (q) (by omega)]; exact hl
  have hb29 := CQ_mv hb24 (w' := wn6) (N' := q + 9) (M := q + 7) (by omega) (by omega) (fun p hp => (hadL6 p (by omega)).symm) (fun p h1 h2 => hwL6 p (by omega))
  have hb30 := FL_mv hb25 (w' := wn6) (N' := q + 9) (M := q + 7) (by omega) (by omega) (fun p hp => (hadL6 p (by omega)).symm) (fun p h1 h2 => hwL6 p (by omega))
  have he31 : wn6 q = .inr (10, [.ref (ad6 (q + 1)), .ref (ad6 (q + 4)), .null, .null, .null, .int 0]) := by rw [hwL6 q (by omega), he26, hadL6 (q + 1) (by omega), hadL6 (q + 4) (by omega)]
  have hA32 : ∀ p, p < q + 1 → ad6 p = ad p := fun p hp => (hadL6 p (by omega)).trans (hA27 p hp)
  have hW33 : ∀ p, p < q → wn6 p = w p := fun p hp => (hwL6 p (by omega)).trans (hW28 p hp)
  refine g_putF S hI hP hS hin2 uX6 rfl tyX6 tyX6_ok nmX6 (q0 := q) (fs := [.ref (ad6 (q + 1)), .ref (ad6 (q + 4)), .null, .null, .null, .int 0]) (by omega) he31 2 (by decide) q295 rfl rfl rfl (v := .ref (ad6 (q + 7))) rfl rfl (Nat.le_of_ble_eq_true rfl) dX6_init_34 (fun H locs hP hS => ?_)
  have hP : gP E ad6 (q + 9) (va_up wn6 q (.inr (10, [.ref (ad6 (q + 1)), .ref (ad6 (q + 4)), .ref (ad6 (q + 7)), .null, .null, .int 0]))) H := hP
  obtain ⟨wv34, hwv34⟩ : ∃ z, z = va_up wn6 q (.inr (10, [.ref (ad6 (q + 1)), .ref (ad6 (q + 4)), .ref (ad6 (q + 7)), .null, .null, .int 0]) : va_E) := ⟨_, rfl⟩
  rw [← hwv34] at hP
  have he35 : wv34 q = .inr (10, [.ref (ad6 (q + 1)), .ref (ad6 (q + 4)), .ref (ad6 (q + 7)), .null, .null, .int 0]) := by rw [hwv34, va_up_self]
  have hb36 := hb29.keep (p := q) (e := (.inr (10, [.ref (ad6 (q + 1)), .ref (ad6 (q + 4)), .ref (ad6 (q + 7)), .null, .null, .int 0]) : va_E)) (by omega)
  rw [← hwv34] at hb36
  have hb37 := hb30.keep (p := q) (e := (.inr (10, [.ref (ad6 (q + 1)), .ref (ad6 (q + 4)), .ref (ad6 (q + 7)), .null, .null, .int 0]) : va_E)) (by omega)
  rw [← hwv34] at hb37
  have hb38 := hbs6.keep (p := q) (e := (.inr (10, [.ref (ad6 (q + 1)), .ref (ad6 (q + 4)), .ref (ad6 (q + 7)), .null, .null, .int 0]) : va_E)) (by omega)
  rw [← hwv34] at hb38
  have hW39 : ∀ p, p < q → wv34 p = w p := fun p hp => by rw [hwv34, va_up_ne _ _ (by omega)]; exact hW33 p hp
  refine lv_aload_n hx hb dX6_init_37 rfl (lv_at hl 0 rfl) ?_
  refine g_bipush S 36 dX6_init_38 (by decide +kernel) ?_
  refine g_newaM S hI hP hS (atype := .int) 0 rfl (fun _ _ h => h) rfl q182 36 rfl (by decide) (Nat.le_of_ble_eq_true rfl) (Nat.le_of_ble_eq_true rfl) (Nat.le_of_ble_eq_true rfl) dX6_init_40 (fun ad7 wn7 H hP hS hadL7 hwL7 hwN7 => ?_)
  have hP : gP E ad7 (q + 10) wn7 H := hP
  rw [show ([.ref (ad7 (q + 9)), .ref (ad6 (q))] : List Value) = [.ref (ad7 (q + 9)), .ref (ad7 (q))] by rw [hadL7 (q) (by omega)]]
  have hl : lv_has ls 1 [(0, .ref (ad7 (q)))] := by rw [hadL7 (q) (by omega)]; exact hl
  have hb40 := CQ_mv hb36 (w' := wn7) (M := (q + 9)) (by omega) (Nat.le_succ _) (fun p hp => (hadL7 p hp).symm) (fun p h1 h2 => hwL7 p (by omega))
  have hb41 := FL_mv hb37 (w' := wn7) (M := (q + 9)) (by omega) (Nat.le_succ _) (fun p hp => (hadL7 p hp).symm) (fun p h1 h2 => hwL7 p (by omega))
  have hb42 := UN_mv hb38 (w' := wn7) (M := (q + 9)) (by omega) (Nat.le_succ _) (fun p hp => (hadL7 p hp).symm) (fun p h1 h2 => hwL7 p (by omega))
  have he43 : wn7 q = .inr (10, [.ref (ad7 (q + 1)), .ref (ad7 (q + 4)), .ref (ad7 (q + 7)), .null, .null, .int 0]) := by rw [hwL7 q (by omega), he35, hadL7 (q + 1) (by omega), hadL7 (q + 4) (by omega), hadL7 (q + 7) (by omega)]
  have hA44 : ∀ p, p < q + 1 → ad7 p = ad p := fun p hp => (hadL7 p (by omega)).trans (hA32 p hp)
  have hW45 : ∀ p, p < q → wn7 p = w p := fun p hp => (hwL7 p (by omega)).trans (hW39 p hp)
  refine g_putF S hI hP hS hin2 uX6 rfl tyX6 tyX6_ok nmX6 (q0 := q) (fs := [.ref (ad7 (q + 1)), .ref (ad7 (q + 4)), .ref (ad7 (q + 7)), .null, .null, .int 0]) (by omega) he43 3 (by decide) q296 rfl rfl rfl (v := .ref (ad7 (q + 9))) rfl rfl (Nat.le_of_ble_eq_true rfl) dX6_init_42 (fun H locs hP hS => ?_)
  have hP : gP E ad7 (q + 10) (va_up wn7 q (.inr (10, [.ref (ad7 (q + 1)), .ref (ad7 (q + 4)), .ref (ad7 (q + 7)), .ref (ad7 (q + 9)), .null, .int 0]))) H := hP
  obtain ⟨wv46, hwv46⟩ : ∃ z, z = va_up wn7 q (.inr (10, [.ref (ad7 (q + 1)), .ref (ad7 (q + 4)), .ref (ad7 (q + 7)), .ref (ad7 (q + 9)), .null, .int 0]) : va_E) := ⟨_, rfl⟩
  rw [← hwv46] at hP
  have he47 : wv46 q = .inr (10, [.ref (ad7 (q + 1)), .ref (ad7 (q + 4)), .ref (ad7 (q + 7)), .ref (ad7 (q + 9)), .null, .int 0]) := by rw [hwv46, va_up_self]
  have ea48 : wv46 (q + 9) = gAr (E.2.1 0) 36 (fun _ => 0) := by rw [hwv46, va_up_ne _ _ (by omega)]; exact hwN7
  have hb49 := hb40.keep (p := q) (e := (.inr (10, [.ref (ad7 (q + 1)), .ref (ad7 (q + 4)), .ref (ad7 (q + 7)), .ref (ad7 (q + 9)), .null, .int 0]) : va_E)) (by omega)
  rw [← hwv46] at hb49
  have hb50 := hb41.keep (p := q) (e := (.inr (10, [.ref (ad7 (q + 1)), .ref (ad7 (q + 4)), .ref (ad7 (q + 7)), .ref (ad7 (q + 9)), .null, .int 0]) : va_E)) (by omega)
  rw [← hwv46] at hb50
  have hb51 := hb42.keep (p := q) (e := (.inr (10, [.ref (ad7 (q + 1)), .ref (ad7 (q + 4)), .ref (ad7 (q + 7)), .ref (ad7 (q + 9)), .null, .int 0]) : va_E)) (by omega)
  rw [← hwv46] at hb51
  have hW52 : ∀ p, p < q → wv46 p = w p := fun p hp => by rw [hwv46, va_up_ne _ _ (by omega)]; exact hW45 p hp
  refine lv_aload_n hx hb dX6_init_45 rfl (lv_at hl 0 rfl) ?_
  refine g_bipush S 60 dX6_init_46 (by decide +kernel) ?_
  refine g_newaM S hI hP hS (atype := .int) 0 rfl (fun _ _ h => h) rfl q182 60 rfl (by decide) (Nat.le_of_ble_eq_true rfl) (Nat.le_of_ble_eq_true rfl) (Nat.le_of_ble_eq_true rfl) dX6_init_48 (fun ad8 wn8 H hP hS hadL8 hwL8 hwN8 => ?_)
  have hP : gP E ad8 (q + 11) wn8 H := hP
  rw [show ([.ref (ad8 (q + 10)), .ref (ad7 (q))] : List Value) = [.ref (ad8 (q + 10)), .ref (ad8 (q))] by rw [hadL8 (q) (by omega)]]
  have hl : lv_has ls 1 [(0, .ref (ad8 (q)))] := by rw [hadL8 (q) (by omega)]; exact hl
  have hb53 := CQ_mv hb49 (w' := wn8) (M := (q + 10)) (by omega) (Nat.le_succ _) (fun p hp => (hadL8 p hp).symm) (fun p h1 h2 => hwL8 p (by omega))
  have hb54 := FL_mv hb50 (w' := wn8) (M := (q + 10)) (by omega) (Nat.le_succ _) (fun p hp => (hadL8 p hp).symm) (fun p h1 h2 => hwL8 p (by omega))
  have hb55 := UN_mv hb51 (w' := wn8) (M := (q + 10)) (by omega) (Nat.le_succ _) (fun p hp => (hadL8 p hp).symm) (fun p h1 h2 => hwL8 p (by omega))
  have he56 : wn8 q = .inr (10, [.ref (ad8 (q + 1)), .ref (ad8 (q + 4)), .ref (ad8 (q + 7)), .ref (ad8 (q + 9)), .null, .int 0]) := by rw [hwL8 q (by omega), he47, hadL8 (q + 1) (by omega), hadL8 (q + 4) (by omega), hadL8 (q + 7) (by omega), hadL8 (q + 9) (by omega)]
  have ea57 : wn8 (q + 9) = gAr (E.2.1 0) 36 (fun _ => 0) := by rw [hwL8 (q + 9) (by omega)]; exact ea48
  have hA58 : ∀ p, p < q + 1 → ad8 p = ad p := fun p hp => (hadL8 p (by omega)).trans (hA44 p hp)
  have hW59 : ∀ p, p < q → wn8 p = w p := fun p hp => (hwL8 p (by omega)).trans (hW52 p hp)
  refine g_putF S hI hP hS hin2 uX6 rfl tyX6 tyX6_ok nmX6 (q0 := q) (fs := [.ref (ad8 (q + 1)), .ref (ad8 (q + 4)), .ref (ad8 (q + 7)), .ref (ad8 (q + 9)), .null, .int 0]) (by omega) he56 4 (by decide) q297 rfl rfl rfl (v := .ref (ad8 (q + 10))) rfl rfl (Nat.le_of_ble_eq_true rfl) dX6_init_50 (fun H locs hP hS => ?_)
  have hP : gP E ad8 (q + 11) (va_up wn8 q (.inr (10, [.ref (ad8 (q + 1)), .ref (ad8 (q + 4)), .ref (ad8 (q + 7)), .ref (ad8 (q + 9)), .ref (ad8 (q + 10)), .int 0]))) H := hP
  obtain ⟨wv60, hwv60⟩ : ∃ z, z = va_up wn8 q (.inr (10, [.ref (ad8 (q + 1)), .ref (ad8 (q + 4)), .ref (ad8 (q + 7)), .ref (ad8 (q + 9)), .ref (ad8 (q + 10)), .int 0]) : va_E) := ⟨_, rfl⟩
  rw [← hwv60] at hP
  have he61 : wv60 q = .inr (10, [.ref (ad8 (q + 1)), .ref (ad8 (q + 4)), .ref (ad8 (q + 7)), .ref (ad8 (q + 9)), .ref (ad8 (q + 10)), .int 0]) := by rw [hwv60, va_up_self]
  have ea62 : wv60 (q + 9) = gAr (E.2.1 0) 36 (fun _ => 0) := by rw [hwv60, va_up_ne _ _ (by omega)]; exact ea57
  have ea63 : wv60 (q + 10) = gAr (E.2.1 0) 60 (fun _ => 0) := by rw [hwv60, va_up_ne _ _ (by omega)]; exact hwN8
  have hb64 := hb53.keep (p := q) (e := (.inr (10, [.ref (ad8 (q + 1)), .ref (ad8 (q + 4)), .ref (ad8 (q + 7)), .ref (ad8 (q + 9)), .ref (ad8 (q + 10)), .int 0]) : va_E)) (by omega)
  rw [← hwv60] at hb64
  have hb65 := hb54.keep (p := q) (e := (.inr (10, [.ref (ad8 (q + 1)), .ref (ad8 (q + 4)), .ref (ad8 (q + 7)), .ref (ad8 (q + 9)), .ref (ad8 (q + 10)), .int 0]) : va_E)) (by omega)
  rw [← hwv60] at hb65
  have hb66 := hb55.keep (p := q) (e := (.inr (10, [.ref (ad8 (q + 1)), .ref (ad8 (q + 4)), .ref (ad8 (q + 7)), .ref (ad8 (q + 9)), .ref (ad8 (q + 10)), .int 0]) : va_E)) (by omega)
  rw [← hwv60] at hb66
  have hW67 : ∀ p, p < q → wv60 p = w p := fun p hp => by rw [hwv60, va_up_ne _ _ (by omega)]; exact hW59 p hp
  exact g_uvret S hr hlocks hP hS (⟨rfl, hA58, hW67, ⟨by omega, fun k hk => by match k, hk with | 0, _ => exact he61⟩, hb64, hb65, hb66, ⟨by omega, fun k hk => by match k, hk with | 0, _ => exact ea62⟩, ⟨by omega, fun k hk => by match k, hk with | 0, _ => exact ea63⟩⟩) (Nat.le_of_ble_eq_true rfl) (Nat.le_of_ble_eq_true rfl) dX6_init_53
