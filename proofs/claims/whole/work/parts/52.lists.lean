set_option maxHeartbeats 4000000 in
set_option maxRecDepth 100000 in
/-- how many -/
theorem mJx4a65c_size_8abf5 (l : Launch) {E : gE} {ad : Nat → Nat} {N : Nat} {w : Nat → va_E} (q : Nat) (md : Int32) (ev sz : Nat) (hb_a : bkP N w q 1 (ALC E ad q md ev sz))  : gMi l yJx4a65c_size_8abf5 (lw_ws yJx4a65c_size_8abf5 cJx4a65c_size_8abf5 1 (some .int)) ({ frames := 0, cells := 0, slots := 0, locals := 0 } : Room) E ad N w [.ref (ad (q))] (fun r w' => r = nI sz ∧ w' = w) 0 0 := by
  refine Met.ofW (cc := cJx4a65c_size_8abf5) (maxL := 1) (ret := (some .int)) (by decide) rfl ?_
  intro p e s m args below meth cd s₁ B hml hv
  obtain ⟨rfl, hI, hP⟩ := hv
  obtain ⟨S, hr, hlocks⟩ := gPre (ws := []) B hml (C := RJx4a65c) rfl
  have hx := S.1
  have hb := S.2.1
  have hS : va_S (gA E) s.heap s.heap [] := va_S.rf
  have hl := lv_entry ([.ref (ad (q))]) (n := 1) (Nat.le_of_ble_eq_true rfl)
  rw [lg_entry_eq]
  generalize (lg_sl ([.ref (ad (q))]) ++ List.replicate (1 - (lg_sl ([.ref (ad (q))])).length) Slot.unset).toArray = ls at hl ⊢
  have hl : lv_has ls 1 [(0, .ref (ad (q)))] := hl
  refine lv_aload_n hx hb dJx4a65c_size_8abf5_0 rfl (lv_at hl 0 rfl) ?_
  refine g_get S hI hP uJx4a65c rfl (fs := _) (hb_a.lt 0 (by decide)) (hb_a.2 0 (by decide)) 2 (by decide) q333 rfl (v := .int (nI (sz))) rfl dJx4a65c_size_8abf5_1 ?_
  exact g_iret S hr hlocks hP hS (⟨rfl, rfl⟩) (fun _ _ => rfl) (Nat.le_of_ble_eq_true rfl) (Nat.le_of_ble_eq_true rfl) dJx4a65c_size_8abf5_4
set_option maxHeartbeats 4000000 in
set_option maxRecDepth 100000 in
/-- an element -/
theorem mJx4a65c_elementData_915e3 (l : Launch) {E : gE} {ad : Nat → Nat} {N : Nat} {w : Nat → va_E} (q : Nat) (md : Int32) (sz a i x : Nat) (f : Nat → Option Nat) (hb_a : bkP N w q 1 (ALC E ad q md (ad a) sz)) (ha : a < N) (hrw : w a = rwA (E.2.1 5) 10 f) (hi : i < 10) (hf : f i = some x) : gMr l yJx4a65c_elementData_915e3 (lw_ws yJx4a65c_elementData_915e3 cJx4a65c_elementData_915e3 2 (some (.object "java/lang/Object"))) ({ frames := 0, cells := 0, slots := 0, locals := 0 } : Room) E ad N w [.ref (ad (q)), .int (nI (i))] (fun r w' => r = x ∧ w' = w) 0 0 := by
  refine Met.ofW (cc := cJx4a65c_elementData_915e3) (maxL := 2) (ret := (some (.object "java/lang/Object"))) (by decide) rfl ?_
  intro p e s m args below meth cd s₁ B hml hv
  obtain ⟨rfl, hI, hP⟩ := hv
  obtain ⟨S, hr, hlocks⟩ := gPre (ws := []) B hml (C := RJx4a65c) rfl
  have hx := S.1
  have hb := S.2.1
  have hS : va_S (gA E) s.heap s.heap [] := va_S.rf
  have hl := lv_entry ([.ref (ad (q)), .int (nI (i))]) (n := 2) (Nat.le_of_ble_eq_true rfl)
  rw [lg_entry_eq]
  generalize (lg_sl ([.ref (ad (q)), .int (nI (i))]) ++ List.replicate (2 - (lg_sl ([.ref (ad (q)), .int (nI (i))])).length) Slot.unset).toArray = ls at hl ⊢
  have hl : lv_has ls 2 [(0, .ref (ad (q))), (1, .int (nI (i)))] := hl
  refine lv_aload_n hx hb dJx4a65c_elementData_915e3_0 rfl (lv_at hl 0 rfl) ?_
  refine g_get S hI hP uJx4a65c rfl (fs := _) (hb_a.lt 0 (by decide)) (hb_a.2 0 (by decide)) 1 (by decide) q332 rfl (v := .ref ((ad a))) rfl dJx4a65c_elementData_915e3_1 ?_
  refine lv_iload_n hx hb dJx4a65c_elementData_915e3_4 rfl (lv_at hl 1 rfl) ?_
  refine g_aald S hI hP (t := 5) (C := "java/lang/Object") (q0 := a) ha hrw rfl i hi (by decide) hf dJx4a65c_elementData_915e3_5 ?_
  exact g_rret S hr (by first | exact Or.inl ⟨_, rfl⟩ | exact Or.inr ⟨_, rfl⟩) hlocks hP hS (⟨rfl, rfl⟩) (fun _ _ => rfl) (Nat.le_of_ble_eq_true rfl) (Nat.le_of_ble_eq_true rfl) dJx4a65c_elementData_915e3_6
set_option maxHeartbeats 4000000 in
set_option maxRecDepth 100000 in
/-- an element -/
theorem mJx4a65c_get_915e3 (l : Launch) {E : gE} {ad : Nat → Nat} {N : Nat} {w : Nat → va_E} (q : Nat) (md : Int32) (sz a i x : Nat) (f : Nat → Option Nat) (hb_a : bkP N w q 1 (ALC E ad q md (ad a) sz)) (ha : a < N) (hrw : w a = rwA (E.2.1 5) 10 f) (hi : i < sz) (hs : sz ≤ 10) (hf : f i = some x) : gMr l yJx4a65c_get_915e3 (lw_ws yJx4a65c_get_915e3 cJx4a65c_get_915e3 2 (some (.object "java/lang/Object"))) ({ frames := 2, cells := 0, slots := 0, locals := 43 } : Room) E ad N w [.ref (ad (q)), .int (nI (i))] (fun r w' => r = x ∧ w' = w) 0 0 := by
  refine Met.ofW (cc := cJx4a65c_get_915e3) (maxL := 2) (ret := (some (.object "java/lang/Object"))) (by decide) rfl ?_
  intro p e s m args below meth cd s₁ B hml hv
  obtain ⟨rfl, hI, hP⟩ := hv
  obtain ⟨S, hr, hlocks⟩ := gPre (ws := []) B hml (C := RJx4a65c) rfl
  have hx := S.1
  have hb := S.2.1
  have hS : va_S (gA E) s.heap s.heap [] := va_S.rf
  have hl := lv_entry ([.ref (ad (q)), .int (nI (i))]) (n := 2) (Nat.le_of_ble_eq_true rfl)
  rw [lg_entry_eq]
  generalize (lg_sl ([.ref (ad (q)), .int (nI (i))]) ++ List.replicate (2 - (lg_sl ([.ref (ad (q)), .int (nI (i))])).length) Slot.unset).toArray = ls at hl ⊢
  have hl : lv_has ls 2 [(0, .ref (ad (q))), (1, .int (nI (i)))] := hl
  refine lv_iload_n hx hb dJx4a65c_get_915e3_0 rfl (lv_at hl 1 rfl) ?_
  refine lv_aload_n hx hb dJx4a65c_get_915e3_1 rfl (lv_at hl 0 rfl) ?_
  refine g_get S hI hP uJx4a65c rfl (fs := _) (hb_a.lt 0 (by decide)) (hb_a.2 0 (by decide)) 2 (by decide) q333 rfl (v := .int (nI (sz))) rfl dJx4a65c_get_915e3_2 ?_
  refine g_roi (g_runSX S hI hP hS (k := 2) (As := [.int (nI (i)), .int (nI (sz))]) (rest := []) (mJ15_checkIndex_7cf53 l i sz hi (by omega)) q1430 q1431 q118 q1432 rfl rfl (by decide +kernel) ⟨Nat.le_of_ble_eq_true rfl, Nat.le_of_ble_eq_true rfl⟩ rfl hl.1 rfl (Nat.le_of_ble_eq_true rfl) ⟨(Nat.le_of_ble_eq_true rfl), (Nat.le_of_ble_eq_true rfl)⟩ dJx4a65c_get_915e3_5) hS (fun H locs hP hS => ?_)
  refine lv_pop hx hb dJx4a65c_get_915e3_8 rfl ?_
  refine lv_aload_n hx hb dJx4a65c_get_915e3_9 rfl (lv_at hl 0 rfl) ?_
  refine lv_iload_n hx hb dJx4a65c_get_915e3_10 rfl (lv_at hl 1 rfl) ?_
  refine g_afr (g_runV S hI hP hS (k := 1) (As := [.int (nI (i))]) (rest := []) (mJx4a65c_elementData_915e3 l q md sz a i x f hb_a ha hrw (by omega) hf) q1434 q1435 q1436 q95 q1437 rfl rfl (by decide +kernel) ⟨(Nat.le_of_ble_eq_true rfl), (Nat.le_of_ble_eq_true rfl)⟩ rfl (hb_a.lt 0 (by decide)) (hb_a.2 0 (by decide)) rfl hl.1 rfl (Nat.le_of_ble_eq_true rfl) ⟨(Nat.le_of_ble_eq_true rfl), (Nat.le_of_ble_eq_true rfl)⟩ dJx4a65c_get_915e3_11) hS (fun rz w1 H locs hq hP hS => ?_)
  obtain ⟨hr1, hw1⟩ := hq
  rw [hw1] at hP
  rw [hr1]
  exact g_rret S hr (by first | exact Or.inl ⟨_, rfl⟩ | exact Or.inr ⟨_, rfl⟩) hlocks hP hS (⟨rfl, rfl⟩) (fun _ _ => rfl) (Nat.le_of_ble_eq_true rfl) (Nat.le_of_ble_eq_true rfl) dJx4a65c_get_915e3_14
set_option maxHeartbeats 4000000 in
set_option maxRecDepth 100000 in
/-- the row is made -/
theorem mJx4a65c_grow_92f84 (l : Launch) {E : gE} {ad : Nat → Nat} {N : Nat} {w : Nat → va_E} (kk : Nat → Nat) (hzv : gHv E kk) (q : Nat) (md : Int32) (hb_a : bkP N w q 1 (ALC E ad q md (kk 32) 0))  : gUr l yJx4a65c_grow_92f84 (lw_ws yJx4a65c_grow_92f84 cJx4a65c_grow_92f84 4 (some (.array (.object "java/lang/Object")))) ({ frames := 1, cells := 1, slots := 10, locals := 21 } : Room) E ad N w [.ref (ad (q)), .int (nI (1))] (fun r ad' N' w' => r = ad' N ∧ N' = N + 1 ∧ (∀ p, p < N → ad' p = ad p) ∧ (w' N = rwA (E.2.1 5) 10 (fun _ => none) ∧ bkP N' w' q 1 (ALC E ad' q md (ad' N) 0)) ∧ (∀ p, p < N → p ≠ q → w' p = w p)) 1 10 := by
  refine Met.ofW (cc := cJx4a65c_grow_92f84) (maxL := 4) (ret := (some (.array (.object "java/lang/Object")))) (by decide) rfl ?_
  intro p e s m args below meth cd s₁ B hml hv
  obtain ⟨rfl, hI, hP⟩ := hv
  obtain ⟨S, hr, hlocks⟩ := gPre (ws := []) B hml (C := RJx4a65c) rfl
  have hx := S.1
  have hb := S.2.1
  have hzk := hzv s s.heap hI.2.2.2.2
  have hS : va_S (gA E) s.heap s.heap [] := va_S.rf
  have hl := lv_entry ([.ref (ad (q)), .int (nI (1))]) (n := 4) (Nat.le_of_ble_eq_true rfl)
  rw [lg_entry_eq]
  generalize (lg_sl ([.ref (ad (q)), .int (nI (1))]) ++ List.replicate (4 - (lg_sl ([.ref (ad (q)), .int (nI (1))])).length) Slot.unset).toArray = ls at hl ⊢
  have hl : lv_has ls 4 [(0, .ref (ad (q))), (1, .int (nI (1)))] := hl
  have hqN : q < N := by have := hb_a.1; omega
  refine lv_aload_n hx hb dJx4a65c_grow_92f84_0 rfl (lv_at hl 0 rfl) ?_
  refine g_get S hI hP uJx4a65c rfl (fs := _) (hb_a.lt 0 (by decide)) (hb_a.2 0 (by decide)) 1 (by decide) q332 rfl (v := .ref ((kk 32))) rfl dJx4a65c_grow_92f84_1 ?_
  refine g_stl S hS hzk.2.2.2.2.2.1.2 dJx4a65c_grow_92f84_4 ?_
  refine lv_istore_n (lv' := [(2, .int (nI (0))), (0, .ref (ad (q))), (1, .int (nI (1)))]) hx hb dJx4a65c_grow_92f84_5 rfl hl (by decide) rfl (fun ls hl => ?_)
  refine lv_iload_n hx hb dJx4a65c_grow_92f84_6 rfl (lv_at hl 0 rfl) ?_
  refine g_ifgt S (a := 0) (by omega) (tgt := 20) dJx4a65c_grow_92f84_7 (by decide) (fun hc => ?_) (fun hc => ?_)
  · omega
  · refine lv_aload_n hx hb dJx4a65c_grow_92f84_10 rfl (lv_at hl 1 rfl) ?_
    refine g_get S hI hP uJx4a65c rfl (fs := _) (hb_a.lt 0 (by decide)) (hb_a.2 0 (by decide)) 1 (by decide) q332 rfl (v := .ref ((kk 32))) rfl dJx4a65c_grow_92f84_11 ?_
    refine g_gets S hS (v := .ref ((kk 32))) hzk.2.2.2.2.2.1.1 q330 dJx4a65c_grow_92f84_14 ?_
    refine g_acmpT S dJx4a65c_grow_92f84_17 (tgt := 45) (by decide) ?_
    refine lv_aload_n hx hb dJx4a65c_grow_92f84_45 rfl (lv_at hl 1 rfl) ?_
    refine g_bipush S 10 dJx4a65c_grow_92f84_46 (by decide +kernel) ?_
    refine lv_iload_n hx hb dJx4a65c_grow_92f84_48 rfl (lv_at hl 2 rfl) ?_
    refine g_max S hl.1 (a := 10) (b := 1) (by omega) (by omega) q1411 q777 q112 q778 (Nat.le_of_ble_eq_true rfl) (Nat.le_of_ble_eq_true rfl) (Nat.le_of_ble_eq_true rfl) (Nat.le_of_ble_eq_true rfl) dJx4a65c_grow_92f84_49 ?_
    rw [show max (10) (1) = 10 from rfl]
    refine g_anew S hI hP hS 5 rfl q1412 hzk.2.2.2.2.2.2.2.2.2.2.1 10 (by decide) (Nat.le_of_ble_eq_true rfl) (Nat.le_of_ble_eq_true rfl) dJx4a65c_grow_92f84_52 (fun ad1 wn1 H hP hS hadL1 hwL1 hwN1 => ?_)
    rw [show ([.ref (ad1 (N)), .ref (ad (q))] : List Value) = [.ref (ad1 (N)), .ref (ad1 (q))] by rw [hadL1 (q) (by omega)]]
    have hl : lv_has ls 4 [(2, .int (nI (0))), (0, .ref (ad1 (q))), (1, .int (nI (1)))] := by rw [hadL1 (q) (by omega)]; exact hl
    have hb1 := AL_mv hb_a (w' := wn1) (M := N) (by omega) (Nat.le_succ _) (fun p hp => (hadL1 p hp).symm) (fun p h1 h2 => hwL1 p (by omega))
    refine lv_dup_x1 hx hb dJx4a65c_grow_92f84_55 rfl rfl ?_
    refine g_put S hI hP hS uJx4a65c rfl tyJx4a65c tyJx4a65c_ok nmJx4a65c (fs := _) (hb1.lt 0 (by decide)) (hb1.2 0 (by decide)) 1 (by decide) q332 rfl rfl (v := .ref (ad1 (N))) rfl rfl (Nat.le_of_ble_eq_true rfl) dJx4a65c_grow_92f84_56 (fun H locs hP hS => ?_)
    have hP : gP E ad1 (N + 1) (va_up _ (q) (ALC E ad1 q md (ad1 (N)) 0 0)) H := hP
    have hb2 : bkP (N + 1) (va_up _ (q) (ALC E ad1 q md (ad1 (N)) 0 0)) q 1 (ALC E ad1 q md (ad1 (N)) 0) := AL_setO hb1 _ _ _
    exact g_urret S hr (by first | exact Or.inl ⟨_, rfl⟩ | exact Or.inr ⟨_, rfl⟩) hlocks hP hS (⟨rfl, rfl, hadL1, ⟨by rw [va_up_ne _ _ (by omega)]; exact hwN1, hb2⟩, fun p hp hne => by rw [va_up_ne _ _ hne]; exact hwL1 p hp⟩) (Nat.le_of_ble_eq_true rfl) (Nat.le_of_ble_eq_true rfl) dJx4a65c_grow_92f84_59
set_option maxHeartbeats 4000000 in
set_option maxRecDepth 100000 in
/-- the row is made -/
theorem mJx4a65c_grow_d5877 (l : Launch) {E : gE} {ad : Nat → Nat} {N : Nat} {w : Nat → va_E} (kk : Nat → Nat) (hzv : gHv E kk) (q : Nat) (md : Int32) (hb_a : bkP N w q 1 (ALC E ad q md (kk 32) 0))  : gUr l yJx4a65c_grow_d5877 (lw_ws yJx4a65c_grow_d5877 cJx4a65c_grow_d5877 1 (some (.array (.object "java/lang/Object")))) ({ frames := 2, cells := 1, slots := 10, locals := 44 } : Room) E ad N w [.ref (ad (q))] (fun r ad' N' w' => r = ad' N ∧ N' = N + 1 ∧ (∀ p, p < N → ad' p = ad p) ∧ (w' N = rwA (E.2.1 5) 10 (fun _ => none) ∧ bkP N' w' q 1 (ALC E ad' q md (ad' N) 0)) ∧ (∀ p, p < N → p ≠ q → w' p = w p)) 1 10 := by
  refine Met.ofW (cc := cJx4a65c_grow_d5877) (maxL := 1) (ret := (some (.array (.object "java/lang/Object")))) (by decide) rfl ?_
  intro p e s m args below meth cd s₁ B hml hv
  obtain ⟨rfl, hI, hP⟩ := hv
  obtain ⟨S, hr, hlocks⟩ := gPre (ws := []) B hml (C := RJx4a65c) rfl
  have hx := S.1
  have hb := S.2.1
  have hzk := hzv s s.heap hI.2.2.2.2
  have hS : va_S (gA E) s.heap s.heap [] := va_S.rf
  have hl := lv_entry ([.ref (ad (q))]) (n := 1) (Nat.le_of_ble_eq_true rfl)
  rw [lg_entry_eq]
  generalize (lg_sl ([.ref (ad (q))]) ++ List.replicate (1 - (lg_sl ([.ref (ad (q))])).length) Slot.unset).toArray = ls at hl ⊢
  have hl : lv_has ls 1 [(0, .ref (ad (q)))] := hl
  refine lv_aload_n hx hb dJx4a65c_grow_d5877_0 rfl (lv_at hl 0 rfl) ?_
  refine lv_aload_n hx hb dJx4a65c_grow_d5877_1 rfl (lv_at hl 0 rfl) ?_
  refine g_get S hI hP uJx4a65c rfl (fs := _) (hb_a.lt 0 (by decide)) (hb_a.2 0 (by decide)) 2 (by decide) q333 rfl (v := .int (nI (0))) rfl dJx4a65c_grow_d5877_2 ?_
  refine g_iconst S 1 dJx4a65c_grow_d5877_5 (by decide +kernel) ?_
  refine g_iadd S dJx4a65c_grow_d5877_6 ?_
  refine g_uafr (g_runV S hI hP hS (k := 1) (As := [.int (nI (0 + 1))]) (rest := []) (mJx4a65c_grow_92f84 l kk hzv q md hb_a) q1361 q1363 q44 q95 q1364 rfl rfl (by decide +kernel) ⟨(Nat.le_of_ble_eq_true rfl), (Nat.le_of_ble_eq_true rfl)⟩ rfl (hb_a.lt 0 (by decide)) (hb_a.2 0 (by decide)) rfl hl.1 rfl (Nat.le_of_ble_eq_true rfl) ⟨(Nat.le_of_ble_eq_true rfl), (Nat.le_of_ble_eq_true rfl)⟩ dJx4a65c_grow_d5877_7) hS (fun rz ad1 N1 w1 H locs hq hP hS => ?_)
  exact g_urret S hr (by first | exact Or.inl ⟨_, rfl⟩ | exact Or.inr ⟨_, rfl⟩) hlocks hP hS (hq) (Nat.le_of_ble_eq_true rfl) (Nat.le_of_ble_eq_true rfl) dJx4a65c_grow_d5877_10
set_option maxHeartbeats 4000000 in
set_option maxRecDepth 100000 in
/-- one more, into the row -/
theorem mJx4a65c_add3a (l : Launch) {E : gE} {ad : Nat → Nat} {N : Nat} {w : Nat → va_E} (kk : Nat → Nat) (hzv : gHv E kk) (q : Nat) (md : Int32) (sz a : Nat) (f : Nat → Option Nat) (c vb : Nat) (o : Option Nat) (v : Int32) (hb_a : bkP N w q 1 (ALC E ad q md (ad a) sz)) (ha : a < N) (hrw : w a = rwA (E.2.1 5) 10 f) (hs : sz < 10) (hqa : q ≠ a) (hcN : c < N) (hcw : w c = CMC E ad c kk vb o v 0) : gMv l yJx4a65c_add_72be8 (lw_ws yJx4a65c_add_72be8 cJx4a65c_add_72be8 4 none) ({ frames := 0, cells := 0, slots := 0, locals := 0 } : Room) E ad N w [.ref (ad (q)), .ref (ad (c)), .ref (ad (a)), .int (nI (sz))] (fun w' => bkP N w' q 1 (ALC E ad q md (ad a) (sz + 1)) ∧ w' a = rwA (E.2.1 5) 10 (va_up f sz (some (ad c))) ∧ gFr (fun p => p = q ∨ p = a) w w') 0 0 := by
  refine Met.ofW (cc := cJx4a65c_add_72be8) (maxL := 4) (ret := none) (by decide) rfl ?_
  intro p e s m args below meth cd s₁ B hml hv
  obtain ⟨rfl, hI, hP⟩ := hv
  obtain ⟨S, hr, hlocks⟩ := gPre (ws := []) B hml (C := RJx4a65c) rfl
  have hx := S.1
  have hb := S.2.1
  have hzk := hzv s s.heap hI.2.2.2.2
  have hS : va_S (gA E) s.heap s.heap [] := va_S.rf
  have hl := lv_entry ([.ref (ad (q)), .ref (ad (c)), .ref (ad (a)), .int (nI (sz))]) (n := 4) (Nat.le_of_ble_eq_true rfl)
  rw [lg_entry_eq]
  generalize (lg_sl ([.ref (ad (q)), .ref (ad (c)), .ref (ad (a)), .int (nI (sz))]) ++ List.replicate (4 - (lg_sl ([.ref (ad (q)), .ref (ad (c)), .ref (ad (a)), .int (nI (sz))])).length) Slot.unset).toArray = ls at hl ⊢
  have hl : lv_has ls 4 [(0, .ref (ad (q))), (1, .ref (ad (c))), (2, .ref (ad (a))), (3, .int (nI (sz)))] := hl
  refine lv_iload_n hx hb dJx4a65c_add_72be8_0 rfl (lv_at hl 3 rfl) ?_
  refine lv_aload_n hx hb dJx4a65c_add_72be8_1 rfl (lv_at hl 2 rfl) ?_
  refine g_alenR S hI hP (t0 := 5) ha hrw rfl dJx4a65c_add_72be8_2 ?_
  refine g_ne S (a := sz) (b := 10) (by omega) (by omega) (tgt := 11) dJx4a65c_add_72be8_3 (by decide) (fun hc => ?_) (fun hc => ?_)
  · refine lv_aload_n hx hb dJx4a65c_add_72be8_11 rfl (lv_at hl 2 rfl) ?_
    refine lv_iload_n hx hb dJx4a65c_add_72be8_12 rfl (lv_at hl 3 rfl) ?_
    refine lv_aload_n hx hb dJx4a65c_add_72be8_13 rfl (lv_at hl 1 rfl) ?_
    refine g_astO S hI hP hS (q0 := a) (qk := c) ha hrw (t := 5) rfl hzk.2.2.2.2.2.2.2.2.2.1 hcN hcw rfl sz hs (by decide) dJx4a65c_add_72be8_14 (fun H locs hP hS => ?_)
    have hb1 := hb_a.keep (p := a) (e := rwA (E.2.1 5) 10 (va_up f sz (some (ad c)))) (by omega)
    refine lv_aload_n hx hb dJx4a65c_add_72be8_15 rfl (lv_at hl 0 rfl) ?_
    refine lv_iload_n hx hb dJx4a65c_add_72be8_16 rfl (lv_at hl 3 rfl) ?_
    refine g_iconst S 1 dJx4a65c_add_72be8_17 (by decide +kernel) ?_
    refine g_iadd S dJx4a65c_add_72be8_18 ?_
    refine g_put S hI hP hS uJx4a65c rfl tyJx4a65c tyJx4a65c_ok nmJx4a65c (fs := _) (hb1.lt 0 (by decide)) (hb1.2 0 (by decide)) 2 (by decide) q333 rfl rfl (v := .int (nI (sz + 1))) rfl rfl (Nat.le_of_ble_eq_true rfl) dJx4a65c_add_72be8_19 (fun H locs hP hS => ?_)
    have hP : gP E ad N (va_up _ (q) (ALC E ad q md (ad a) (sz + 1) 0)) H := hP
    have hb1 : bkP N (va_up _ (q) (ALC E ad q md (ad a) (sz + 1) 0)) q 1 (ALC E ad q md (ad a) (sz + 1)) := AL_setO hb1 _ _ _
    exact g_vret S hr hlocks hP hS (⟨hb1, by rw [va_up_ne _ _ (Ne.symm hqa), va_up_self], fun p hp => by rw [va_up_ne _ _ (fun z => hp (Or.inl z)), va_up_ne _ _ (fun z => hp (Or.inr z))]⟩) (fun _ _ => rfl) (Nat.le_of_ble_eq_true rfl) (Nat.le_of_ble_eq_true rfl) dJx4a65c_add_72be8_22
  · omega
set_option maxHeartbeats 4000000 in
set_option maxRecDepth 100000 in
/-- the first one -/
theorem mJx4a65c_add3n (l : Launch) {E : gE} {ad : Nat → Nat} {N : Nat} {w : Nat → va_E} (kk : Nat → Nat) (hzv : gHv E kk) (q : Nat) (md : Int32) (c vb : Nat) (o : Option Nat) (v : Int32) (hb_a : bkP N w q 1 (ALC E ad q md (kk 32) 0)) (hqc : q ≠ c) (hcN : c < N) (hcw : w c = CMC E ad c kk vb o v 0) : gUv l yJx4a65c_add_72be8 (lw_ws yJx4a65c_add_72be8 cJx4a65c_add_72be8 4 none) ({ frames := 3, cells := 1, slots := 10, locals := 64 } : Room) E ad N w [.ref (ad (q)), .ref (ad (c)), .ref (kk 32), .int (nI (0))] (fun ad' N' w' => N' = N + 1 ∧ (∀ p, p < N → ad' p = ad p) ∧ (w' N = rwA (E.2.1 5) 10 (va_up (fun _ => none) 0 (some (ad' c))) ∧ bkP N' w' q 1 (ALC E ad' q md (ad' N) 1)) ∧ (∀ p, p < N → p ≠ q → w' p = w p)) 1 10 := by
  refine Met.ofW (cc := cJx4a65c_add_72be8) (maxL := 4) (ret := none) (by decide) rfl ?_
  intro p e s m args below meth cd s₁ B hml hv
  obtain ⟨rfl, hI, hP⟩ := hv
  obtain ⟨S, hr, hlocks⟩ := gPre (ws := []) B hml (C := RJx4a65c) rfl
  have hx := S.1
  have hb := S.2.1
  have hzk := hzv s s.heap hI.2.2.2.2
  have hS : va_S (gA E) s.heap s.heap [] := va_S.rf
  have hl := lv_entry ([.ref (ad (q)), .ref (ad (c)), .ref (kk 32), .int (nI (0))]) (n := 4) (Nat.le_of_ble_eq_true rfl)
  rw [lg_entry_eq]
  generalize (lg_sl ([.ref (ad (q)), .ref (ad (c)), .ref (kk 32), .int (nI (0))]) ++ List.replicate (4 - (lg_sl ([.ref (ad (q)), .ref (ad (c)), .ref (kk 32), .int (nI (0))])).length) Slot.unset).toArray = ls at hl ⊢
  have hl : lv_has ls 4 [(0, .ref (ad (q))), (1, .ref (ad (c))), (2, .ref (kk 32)), (3, .int (nI (0)))] := hl
  have hqN : q < N := by have := hb_a.1; omega
  refine lv_iload_n hx hb dJx4a65c_add_72be8_0 rfl (lv_at hl 3 rfl) ?_
  refine lv_aload_n hx hb dJx4a65c_add_72be8_1 rfl (lv_at hl 2 rfl) ?_
  refine g_stl S hS hzk.2.2.2.2.2.1.2 dJx4a65c_add_72be8_2 ?_
  refine g_ne S (a := 0) (b := 0) (by omega) (by omega) (tgt := 11) dJx4a65c_add_72be8_3 (by decide) (fun hc => ?_) (fun hc => ?_)
  · omega
  · refine lv_aload_n hx hb dJx4a65c_add_72be8_6 rfl (lv_at hl 0 rfl) ?_
    refine g_uafr (g_runV S hI hP hS (k := 0) (As := []) (rest := []) (mJx4a65c_grow_d5877 l kk hzv q md hb_a) q1357 q1359 q43 q95 q1360 rfl rfl (by decide +kernel) ⟨(Nat.le_of_ble_eq_true rfl), (Nat.le_of_ble_eq_true rfl)⟩ rfl (hb_a.lt 0 (by decide)) (hb_a.2 0 (by decide)) rfl hl.1 rfl (Nat.le_of_ble_eq_true rfl) ⟨(Nat.le_of_ble_eq_true rfl), (Nat.le_of_ble_eq_true rfl)⟩ dJx4a65c_add_72be8_7) hS (fun rz ad1 N1 w1 H locs hq hP hS => ?_)
    obtain ⟨hr1, hN1, hadL1, ⟨hwN1, hb1⟩, hwL1⟩ := hq
    rw [hr1]
    subst hN1
    have hl : lv_has ls 4 [(0, .ref (ad1 (q))), (1, .ref (ad1 (c))), (2, .ref (kk 32)), (3, .int (nI (0)))] := by rw [hadL1 (q) (by omega), hadL1 (c) (by omega)]; exact hl
    refine lv_astore_n (lv' := [(2, .ref (ad1 (N))), (0, .ref (ad1 (q))), (1, .ref (ad1 (c))), (3, .int (nI (0)))]) hx hb dJx4a65c_add_72be8_10 rfl hl (by decide) rfl (fun ls hl => ?_)
    refine lv_aload_n hx hb dJx4a65c_add_72be8_11 rfl (lv_at hl 0 rfl) ?_
    refine lv_iload_n hx hb dJx4a65c_add_72be8_12 rfl (lv_at hl 3 rfl) ?_
    refine lv_aload_n hx hb dJx4a65c_add_72be8_13 rfl (lv_at hl 2 rfl) ?_
    have hcw1 : w1 c = CMC E ad1 c kk vb o v 0 := (hwL1 c hcN (Ne.symm hqc)).trans hcw
    refine g_astO S hI hP hS (q0 := N) (qk := c) (Nat.lt_succ_self N) hwN1 (t := 5) rfl hzk.2.2.2.2.2.2.2.2.2.1 (by omega) hcw1 rfl 0 (by decide) (by decide) dJx4a65c_add_72be8_14 (fun H locs hP hS => ?_)
    have hb2 := hb1.keep (p := N) (e := rwA (E.2.1 5) 10 (va_up (fun _ => none) 0 (some (ad1 c)))) (by omega)
    refine lv_aload_n hx hb dJx4a65c_add_72be8_15 rfl (lv_at hl 1 rfl) ?_
    refine lv_iload_n hx hb dJx4a65c_add_72be8_16 rfl (lv_at hl 3 rfl) ?_
    refine g_iconst S 1 dJx4a65c_add_72be8_17 (by decide +kernel) ?_
    refine g_iadd S dJx4a65c_add_72be8_18 ?_
    refine g_put S hI hP hS uJx4a65c rfl tyJx4a65c tyJx4a65c_ok nmJx4a65c (fs := _) (hb2.lt 0 (by decide)) (hb2.2 0 (by decide)) 2 (by decide) q333 rfl rfl (v := .int (nI (0 + 1))) rfl rfl (Nat.le_of_ble_eq_true rfl) dJx4a65c_add_72be8_19 (fun H locs hP hS => ?_)
    have hP : gP E ad1 (N + 1) (va_up _ (q) (ALC E ad1 q md (ad1 N) (0 + 1) 0)) H := hP
    have hb1 : bkP (N + 1) (va_up _ (q) (ALC E ad1 q md (ad1 N) (0 + 1) 0)) q 1 (ALC E ad1 q md (ad1 N) (0 + 1)) := AL_setO hb2 _ _ _
    exact g_uvret S hr hlocks hP hS (⟨rfl, hadL1, ⟨by rw [va_up_ne _ _ (by omega), va_up_self], hb1⟩, fun p hp hne => by rw [va_up_ne _ _ hne, va_up_ne _ _ (by omega)]; exact hwL1 p hp hne⟩) (Nat.le_of_ble_eq_true rfl) (Nat.le_of_ble_eq_true rfl) dJx4a65c_add_72be8_22
