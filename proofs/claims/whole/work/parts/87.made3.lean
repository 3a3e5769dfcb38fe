/-! CONSTRUCTORS: the list, the line, the parser, the map, the Model -/
theorem HSP_mv {E : gE} {ad ad' : Nat → Nat} {N N' h pl ct : Nat} {K : Nat → Sh} {w w' : Nat → va_E} (hh : hsP E ad N w h pl ct K) {M : Nat} (hM : h + 58 ≤ M) (hN : M ≤ N') (ha : ∀ p, p < M → ad p = ad' p) (hw : ∀ p, h ≤ p → p < h + 58 → w' p = w p) : hsP E ad' N' w' h pl ct K := hsP.mv hh hM hN ha hw
theorem hsP.keep {E : gE} {ad : Nat → Nat} {N h pl ct : Nat} {K : Nat → Sh} {w : Nat → va_E} (hh : hsP E ad N w h pl ct K) {p : Nat} {e : va_E} (hp : p < h ∨ h + 58 ≤ p) : hsP E ad N (va_up w p e) h pl ct K :=
  hsP.mv hh (M := h + 58) (Nat.le_refl _) hh.2.1 (fun _ _ => rfl) (fun r h1 h2 => va_up_ne _ _ (by omega))
theorem SBR_mv {E : gE} {ad ad' : Nat → Nat} {N N' q cp mb sn : Nat} {f : Nat → Nat} {w w' : Nat → va_E} (hh : sbR E ad N w q cp mb sn f) {M : Nat} (hM : q + 2 ≤ M) (hN : M ≤ N') (ha : ∀ p, p < M → ad p = ad' p) (hw : ∀ p, q ≤ p → p < q + 2 → w' p = w p) : sbR E ad' N' w' q cp mb sn f := by
  obtain ⟨h1, h2, h3, h4⟩ := hh
  refine ⟨?_, by omega, by rw [hw (q + 1) (by omega) (by omega)]; exact h3, h4⟩
  rw [← ha (q + 1) (by omega)]
  exact SB_mv h1 (M := M) (by omega) hN ha (fun p h5 h6 => hw p h5 (by omega))
theorem sbR.keep {E : gE} {ad : Nat → Nat} {N q cp mb sn : Nat} {f : Nat → Nat} {w : Nat → va_E} (hh : sbR E ad N w q cp mb sn f) {p : Nat} {e : va_E} (hp : p < q ∨ q + 2 ≤ p) : sbR E ad N (va_up w p e) q cp mb sn f :=
  SBR_mv hh (M := q + 2) (Nat.le_refl _) (by have := hh.2.1; omega) (fun _ _ => rfl) (fun r h1 h2 => va_up_ne _ _ (by omega))
set_option maxHeartbeats 4000000 in
set_option maxRecDepth 100000 in
/-- a collection is made -/
theorem mJxa1e45_init_da8c8 (l : Launch) {E : gE} {ad : Nat → Nat} {w : Nat → va_E} (q : Nat)  (he : w q = .inr (4, [.int 0, .null, .int 0]))  : gUv l yJxa1e45_init_da8c8 (lw_ws yJxa1e45_init_da8c8 cJxa1e45_init_da8c8 1 none) ({ frames := 1, cells := 0, slots := 0, locals := 20 } : Room) E ad (q + 1) w [.ref (ad (q))] (fun ad' N' w' => N' = q + 1 ∧ (∀ p, p < q + 1 → ad' p = ad p) ∧ (∀ p, p < q → w' p = w p) ∧ w' q = (.inr (4, [.int 0, .null, .int 0]) : va_E)) 0 0 := by
  refine Met.ofW (cc := cJxa1e45_init_da8c8) (maxL := 1) (ret := none) (by decide) rfl ?_
  intro p e s m args below meth cd s₁ B hml hv
  obtain ⟨rfl, hI, hP⟩ := hv
  obtain ⟨S, hr, hlocks⟩ := gPre (ws := []) B hml (C := RJxa1e45) rfl
  have hx := S.1
  have hb := S.2.1
  have hS : va_S (gA E) s.heap s.heap [] := va_S.rf
  have hl := lv_entry ([.ref (ad (q))]) (n := 1) (Nat.le_of_ble_eq_true rfl)
  rw [lg_entry_eq]
  generalize (lg_sl ([.ref (ad (q))]) ++ List.replicate (1 - (lg_sl ([.ref (ad (q))])).length) Slot.unset).toArray = ls at hl ⊢
  have hl : lv_has ls 1 [(0, .ref (ad (q)))] := hl
  have hin2 : meth.name = "<init>" := (name_of_methodNamed B.named B.method).1
  have hA0 : ∀ p, p < q + 1 → ad p = ad p := fun _ _ => rfl
  have hW0 : ∀ p, p < q → w p = w p := fun _ _ => rfl
  refine lv_aload_n hx hb dJxa1e45_init_da8c8_0 rfl (lv_at hl 0 rfl) ?_
  refine g_oinit S hl.1 q329 q129 q130 dJxa1e45_init_da8c8_1 (Nat.le_of_ble_eq_true rfl) (Nat.le_of_ble_eq_true rfl) ?_
  exact g_uvret S hr hlocks hP hS (⟨rfl, hA0, hW0, he⟩) (Nat.le_of_ble_eq_true rfl) (Nat.le_of_ble_eq_true rfl) dJxa1e45_init_da8c8_4
set_option maxHeartbeats 4000000 in
set_option maxRecDepth 100000 in
/-- a list is made -/
theorem mJxc12de_init_da8c8 (l : Launch) {E : gE} {ad : Nat → Nat} {w : Nat → va_E} (q : Nat)  (he : w q = .inr (4, [.int 0, .null, .int 0]))  : gUv l yJxc12de_init_da8c8 (lw_ws yJxc12de_init_da8c8 cJxc12de_init_da8c8 1 none) ({ frames := 2, cells := 0, slots := 0, locals := 40 } : Room) E ad (q + 1) w [.ref (ad (q))] (fun ad' N' w' => N' = q + 1 ∧ (∀ p, p < q + 1 → ad' p = ad p) ∧ (∀ p, p < q → w' p = w p) ∧ w' q = (.inr (4, [.int 0, .null, .int 0]) : va_E)) 0 0 := by
  refine Met.ofW (cc := cJxc12de_init_da8c8) (maxL := 1) (ret := none) (by decide) rfl ?_
  intro p e s m args below meth cd s₁ B hml hv
  obtain ⟨rfl, hI, hP⟩ := hv
  obtain ⟨S, hr, hlocks⟩ := gPre (ws := []) B hml (C := RJxc12de) rfl
  have hx := S.1
  have hb := S.2.1
  have hS : va_S (gA E) s.heap s.heap [] := va_S.rf
  have hl := lv_entry ([.ref (ad (q))]) (n := 1) (Nat.le_of_ble_eq_true rfl)
  rw [lg_entry_eq]
  generalize (lg_sl ([.ref (ad (q))]) ++ List.replicate (1 - (lg_sl ([.ref (ad (q))])).length) Slot.unset).toArray = ls at hl ⊢
  have hl : lv_has ls 1 [(0, .ref (ad (q)))] := hl
  have hin2 : meth.name = "<init>" := (name_of_methodNamed B.named B.method).1
  have hA0 : ∀ p, p < q + 1 → ad p = ad p := fun _ _ => rfl
  have hW0 : ∀ p, p < q → w p = w p := fun _ _ => rfl
  refine lv_aload_n hx hb dJxc12de_init_da8c8_0 rfl (lv_at hl 0 rfl) ?_
  refine g_uafv (g_runI S hI hP hS (k := 0) (b := q) (As := []) (rest := []) (mJxa1e45_init_da8c8 l q he) q326 q327 q93 q328 rfl rfl rfl (by decide +kernel) ⟨(Nat.le_of_ble_eq_true rfl), (Nat.le_of_ble_eq_true rfl)⟩ rfl hl.1 rfl (Nat.le_of_ble_eq_true rfl) ⟨(Nat.le_of_ble_eq_true rfl), (Nat.le_of_ble_eq_true rfl)⟩ dJxc12de_init_da8c8_1) hS (fun ad1 N1 wn1 H locs hq hP hS => ?_)
  obtain ⟨hN1, hadL1, hwL1, hbs1⟩ := hq
  have hN1 : N1 = q + 1 := hN1
  subst hN1
  have hl : lv_has ls 1 [(0, .ref (ad1 (q)))] := by rw [hadL1 q (by omega)]; exact hl
  have hA1 : ∀ p, p < q + 1 → ad1 p = ad p := fun p hp => (hadL1 p hp).trans (hA0 p hp)
  have hW2 : ∀ p, p < q → wn1 p = w p := fun p hp => (hwL1 p hp).trans (hW0 p hp)
  refine lv_aload_n hx hb dJxc12de_init_da8c8_4 rfl (lv_at hl 0 rfl) ?_
  refine g_iconst S 0 dJxc12de_init_da8c8_5 (by decide +kernel) ?_
  refine g_put S hI hP hS uJx4a65c rfl tyJx4a65c tyJx4a65c_ok nmJx4a65c (q0 := q) (fs := [.int 0, .null, .int 0]) (by omega) hbs1 0 (by decide) q334 rfl rfl (v := .int (nI (0))) rfl rfl (Nat.le_of_ble_eq_true rfl) dJxc12de_init_da8c8_6 (fun H locs hP hS => ?_)
  have hP : gP E ad1 (q + 1) (va_up wn1 q (.inr (4, [.int (nI (0)), .null, .int 0]))) H := hP
  obtain ⟨wv3, hwv3⟩ : ∃ z, z = va_up wn1 q (.inr (4, [.int (nI (0)), .null, .int 0]) : va_E) := ⟨_, rfl⟩
  rw [← hwv3] at hP
  have he4 : wv3 q = .inr (4, [.int (nI (0)), .null, .int 0]) := by rw [hwv3, va_up_self]
  have hW5 : ∀ p, p < q → wv3 p = w p := fun p hp => by rw [hwv3, va_up_ne _ _ (by omega)]; exact hW2 p hp
  exact g_uvret S hr hlocks hP hS (⟨rfl, hA1, hW5, he4⟩) (Nat.le_of_ble_eq_true rfl) (Nat.le_of_ble_eq_true rfl) dJxc12de_init_da8c8_9
set_option maxHeartbeats 4000000 in
set_option maxRecDepth 100000 in
/-- the list of the parser is made -/
theorem mJx4a65c_init_da8c8 (l : Launch) {E : gE} {ad : Nat → Nat} {w : Nat → va_E} (kk : Nat → Nat) (hzv : gHv E kk) (q : Nat)  (he : w q = .inr (4, [.int 0, .null, .int 0]))  : gUv l yJx4a65c_init_da8c8 (lw_ws yJx4a65c_init_da8c8 cJx4a65c_init_da8c8 1 none) ({ frames := 3, cells := 0, slots := 0, locals := 60 } : Room) E ad (q + 1) w [.ref (ad (q))] (fun ad' N' w' => N' = q + 1 ∧ (∀ p, p < q + 1 → ad' p = ad p) ∧ (∀ p, p < q → w' p = w p) ∧ bkP N' w' q 1 (ALC E ad' q (nI 0) (kk 32) 0)) 0 0 := by
  refine Met.ofW (cc := cJx4a65c_init_da8c8) (maxL := 1) (ret := none) (by decide) rfl ?_
  intro p e s m args below meth cd s₁ B hml hv
  obtain ⟨rfl, hI, hP⟩ := hv
  obtain ⟨S, hr, hlocks⟩ := gPre (ws := []) B hml (C := RJx4a65c) rfl
  have hx := S.1
  have hb := S.2.1
  have hzk := hzv s s.heap hI.2.2.2.2
  have hS : va_S (gA E) s.heap s.heap [] := va_S.rf
  have hl := lv_entry ([.ref (ad (q))]) (n := 1) (Nat.le_of_ble_eq_true rfl)
  rw [lg_entry_eq]
  generalize (lg_sl ([.ref (ad (q))]) ++ List.replicate (1 - (lg_sl ([.ref (ad (q))])).length) Slot.unset).toArray = ls at hl ⊢
  have hl : lv_has ls 1 [(0, .ref (ad (q)))] := hl
  have hin2 : meth.name = "<init>" := (name_of_methodNamed B.named B.method).1
  have hA0 : ∀ p, p < q + 1 → ad p = ad p := fun _ _ => rfl
  have hW0 : ∀ p, p < q → w p = w p := fun _ _ => rfl
  refine lv_aload_n hx hb dJx4a65c_init_da8c8_0 rfl (lv_at hl 0 rfl) ?_
  refine g_uafv (g_runI S hI hP hS (k := 0) (b := q) (As := []) (rest := []) (mJxc12de_init_da8c8 l q he) q323 q324 q94 q325 rfl rfl rfl (by decide +kernel) ⟨(Nat.le_of_ble_eq_true rfl), (Nat.le_of_ble_eq_true rfl)⟩ rfl hl.1 rfl (Nat.le_of_ble_eq_true rfl) ⟨(Nat.le_of_ble_eq_true rfl), (Nat.le_of_ble_eq_true rfl)⟩ dJx4a65c_init_da8c8_1) hS (fun ad1 N1 wn1 H locs hq hP hS => ?_)
  obtain ⟨hN1, hadL1, hwL1, hbs1⟩ := hq
  have hN1 : N1 = q + 1 := hN1
  subst hN1
  have hl : lv_has ls 1 [(0, .ref (ad1 (q)))] := by rw [hadL1 q (by omega)]; exact hl
  have hA1 : ∀ p, p < q + 1 → ad1 p = ad p := fun p hp => (hadL1 p hp).trans (hA0 p hp)
  have hW2 : ∀ p, p < q → wn1 p = w p := fun p hp => (hwL1 p hp).trans (hW0 p hp)
  refine lv_aload_n hx hb dJx4a65c_init_da8c8_4 rfl (lv_at hl 0 rfl) ?_
  refine g_gets S hS (v := .ref (kk 32)) hzk.2.2.2.2.2.1.1 q330 dJx4a65c_init_da8c8_5 ?_
  refine g_put S hI hP hS uJx4a65c rfl tyJx4a65c tyJx4a65c_ok nmJx4a65c (q0 := q) (fs := [.int 0, .null, .int 0]) (by omega) hbs1 1 (by decide) q332 rfl rfl (v := .ref (kk 32)) rfl rfl (Nat.le_of_ble_eq_true rfl) dJx4a65c_init_da8c8_8 (fun H locs hP hS => ?_)
  have hP : gP E ad1 (q + 1) (va_up wn1 q (.inr (4, [.int 0, .ref (kk 32), .int 0]))) H := hP
  obtain ⟨wv3, hwv3⟩ : ∃ z, z = va_up wn1 q (.inr (4, [.int 0, .ref (kk 32), .int 0]) : va_E) := ⟨_, rfl⟩
  rw [← hwv3] at hP
  have he4 : wv3 q = .inr (4, [.int 0, .ref (kk 32), .int 0]) := by rw [hwv3, va_up_self]
  have hW5 : ∀ p, p < q → wv3 p = w p := fun p hp => by rw [hwv3, va_up_ne _ _ (by omega)]; exact hW2 p hp
  exact g_uvret S hr hlocks hP hS (⟨rfl, hA1, hW5, ⟨by omega, fun k hk => by match k, hk with | 0, _ => exact he4⟩⟩) (Nat.le_of_ble_eq_true rfl) (Nat.le_of_ble_eq_true rfl) dJx4a65c_init_da8c8_11
set_option maxHeartbeats 4000000 in
set_option maxRecDepth 100000 in
/-- a builder is made -/
theorem mJ5_init_d00df (l : Launch) {E : gE} {ad : Nat → Nat} {w : Nat → va_E} (kk : Nat → Nat) (hzv : gHv E kk) (q : Nat)  (he : w q = .inr (1, [.null, .int 0, .int 0, .int 0]))  : gUv l yJ5_init_d00df (lw_ws yJ5_init_d00df cJ5_init_d00df 2 none) ({ frames := 1, cells := 1, slots := 16, locals := 20 } : Room) E ad (q + 1) w [.ref (ad (q)), .int (nI (16))] (fun ad' N' w' => N' = q + 2 ∧ (∀ p, p < q + 1 → ad' p = ad p) ∧ (∀ p, p < q → w' p = w p) ∧ sbR E ad' N' w' q 16 0 0 (fun _ => 0)) 1 16 := by
  refine Met.ofW (cc := cJ5_init_d00df) (maxL := 2) (ret := none) (by decide) rfl ?_
  intro p e s m args below meth cd s₁ B hml hv
  obtain ⟨rfl, hI, hP⟩ := hv
  obtain ⟨S, hr, hlocks⟩ := gPre (ws := []) B hml (C := RJ5) rfl
  have hx := S.1
  have hb := S.2.1
  have hzk := hzv s s.heap hI.2.2.2.2
  have hS : va_S (gA E) s.heap s.heap [] := va_S.rf
  have hl := lv_entry ([.ref (ad (q)), .int (nI (16))]) (n := 2) (Nat.le_of_ble_eq_true rfl)
  rw [lg_entry_eq]
  generalize (lg_sl ([.ref (ad (q)), .int (nI (16))]) ++ List.replicate (2 - (lg_sl ([.ref (ad (q)), .int (nI (16))])).length) Slot.unset).toArray = ls at hl ⊢
  have hl : lv_has ls 2 [(0, .ref (ad (q))), (1, .int (nI (16)))] := hl
  have hin2 : meth.name = "<init>" := (name_of_methodNamed B.named B.method).1
  have hA0 : ∀ p, p < q + 1 → ad p = ad p := fun _ _ => rfl
  have hW0 : ∀ p, p < q → w p = w p := fun _ _ => rfl
  refine lv_aload_n hx hb dJ5_init_d00df_0 rfl (lv_at hl 0 rfl) ?_
  refine g_oinit S hl.1 q377 q129 q130 dJ5_init_d00df_1 (Nat.le_of_ble_eq_true rfl) (Nat.le_of_ble_eq_true rfl) ?_
  refine g_gets S hS (v := .int (nI (1))) hzk.2.2.2.2.1 q378 dJ5_init_d00df_4 ?_
  refine g_ifeq S (a := 1) (by omega) (tgt := 25) dJ5_init_d00df_7 (by decide) (fun hc => ?_) (fun hc => ?_)
  · omega
  · refine lv_aload_n hx hb dJ5_init_d00df_10 rfl (lv_at hl 0 rfl) ?_
    refine lv_iload_n hx hb dJ5_init_d00df_11 rfl (lv_at hl 1 rfl) ?_
    refine g_newaM S hI hP hS (atype := .byte) 3 rfl (fun _ _ h => h) rfl q401 16 rfl (by decide) (Nat.le_of_ble_eq_true rfl) (Nat.le_of_ble_eq_true rfl) (Nat.le_of_ble_eq_true rfl) dJ5_init_d00df_12 (fun ad1 wn1 H hP hS hadL1 hwL1 hwN1 => ?_)
    have hP : gP E ad1 (q + 2) wn1 H := hP
    rw [show ([.ref (ad1 (q + 1)), .ref (ad (q))] : List Value) = [.ref (ad1 (q + 1)), .ref (ad1 (q))] by rw [hadL1 (q) (by omega)]]
    have hl : lv_has ls 2 [(0, .ref (ad1 (q))), (1, .int (nI (16)))] := by rw [hadL1 (q) (by omega)]; exact hl
    have he1 : wn1 q = .inr (1, [.null, .int 0, .int 0, .int 0]) := by rw [hwL1 q (by omega), he]
    have hA2 : ∀ p, p < q + 1 → ad1 p = ad p := fun p hp => (hadL1 p (by omega)).trans (hA0 p hp)
    have hW3 : ∀ p, p < q → wn1 p = w p := fun p hp => (hwL1 p (by omega)).trans (hW0 p hp)
    refine g_put S hI hP hS uJ4 rfl tyJ4 tyJ4_ok nmJ4 (q0 := q) (fs := [.null, .int 0, .int 0, .int 0]) (by omega) he1 0 (by decide) q387 rfl rfl (v := .ref (ad1 (q + 1))) rfl rfl (Nat.le_of_ble_eq_true rfl) dJ5_init_d00df_14 (fun H locs hP hS => ?_)
    have hP : gP E ad1 (q + 2) (va_up wn1 q (.inr (1, [.ref (ad1 (q + 1)), .int 0, .int 0, .int 0]))) H := hP
    obtain ⟨wv4, hwv4⟩ : ∃ z, z = va_up wn1 q (.inr (1, [.ref (ad1 (q + 1)), .int 0, .int 0, .int 0]) : va_E) := ⟨_, rfl⟩
    rw [← hwv4] at hP
    have he5 : wv4 q = .inr (1, [.ref (ad1 (q + 1)), .int 0, .int 0, .int 0]) := by rw [hwv4, va_up_self]
    have ea6 : wv4 (q + 1) = gAr (E.2.1 3) 16 (fun _ => 0) := by rw [hwv4, va_up_ne _ _ (by omega)]; exact hwN1
    have hW7 : ∀ p, p < q → wv4 p = w p := fun p hp => by rw [hwv4, va_up_ne _ _ (by omega)]; exact hW3 p hp
    refine lv_aload_n hx hb dJ5_init_d00df_17 rfl (lv_at hl 0 rfl) ?_
    refine g_iconst S 0 dJ5_init_d00df_18 (by decide +kernel) ?_
    refine g_put S hI hP hS uJ4 rfl tyJ4 tyJ4_ok nmJ4 (q0 := q) (fs := [.ref (ad1 (q + 1)), .int 0, .int 0, .int 0]) (by omega) he5 1 (by decide) q388 rfl rfl (v := .int (nI (0))) rfl rfl (Nat.le_of_ble_eq_true rfl) dJ5_init_d00df_19 (fun H locs hP hS => ?_)
    have hP : gP E ad1 (q + 2) (va_up wv4 q (.inr (1, [.ref (ad1 (q + 1)), .int (nI (0)), .int 0, .int 0]))) H := hP
    obtain ⟨wv8, hwv8⟩ : ∃ z, z = va_up wv4 q (.inr (1, [.ref (ad1 (q + 1)), .int (nI (0)), .int 0, .int 0]) : va_E) := ⟨_, rfl⟩
    rw [← hwv8] at hP
    have he9 : wv8 q = .inr (1, [.ref (ad1 (q + 1)), .int (nI (0)), .int 0, .int 0]) := by rw [hwv8, va_up_self]
    have ea10 : wv8 (q + 1) = gAr (E.2.1 3) 16 (fun _ => 0) := by rw [hwv8, va_up_ne _ _ (by omega)]; exact ea6
    have hW11 : ∀ p, p < q → wv8 p = w p := fun p hp => by rw [hwv8, va_up_ne _ _ (by omega)]; exact hW7 p hp
    refine lv_goto (tgt := 38) hx hb dJ5_init_d00df_22 (by decide) ?_
    exact g_uvret S hr hlocks hP hS (⟨rfl, hA2, hW11, ⟨⟨by omega, fun k hk => by match k, hk with | 0, _ => exact he9⟩, by omega, ea10, Or.inl rfl, by omega, fun j hj => (by show (0 : Nat) < 128; decide)⟩⟩) (Nat.le_of_ble_eq_true rfl) (Nat.le_of_ble_eq_true rfl) dJ5_init_d00df_38
set_option maxHeartbeats 4000000 in
set_option maxRecDepth 100000 in
/-- the line is made -/
theorem mJ4_init_da8c8 (l : Launch) {E : gE} {ad : Nat → Nat} {w : Nat → va_E} (kk : Nat → Nat) (hzv : gHv E kk) (q : Nat)  (he : w q = .inr (1, [.null, .int 0, .int 0, .int 0]))  : gUv l yJ4_init_da8c8 (lw_ws yJ4_init_da8c8 cJ4_init_da8c8 1 none) ({ frames := 2, cells := 1, slots := 16, locals := 41 } : Room) E ad (q + 1) w [.ref (ad (q))] (fun ad' N' w' => N' = q + 2 ∧ (∀ p, p < q + 1 → ad' p = ad p) ∧ (∀ p, p < q → w' p = w p) ∧ sbR E ad' N' w' q 16 0 0 (fun _ => 0)) 1 16 := by
  refine Met.ofW (cc := cJ4_init_da8c8) (maxL := 1) (ret := none) (by decide) rfl ?_
  intro p e s m args below meth cd s₁ B hml hv
  obtain ⟨rfl, hI, hP⟩ := hv
  obtain ⟨S, hr, hlocks⟩ := gPre (ws := []) B hml (C := RJ4) rfl
  have hx := S.1
  have hb := S.2.1
  have hzk := hzv s s.heap hI.2.2.2.2
  have hS : va_S (gA E) s.heap s.heap [] := va_S.rf
  have hl := lv_entry ([.ref (ad (q))]) (n := 1) (Nat.le_of_ble_eq_true rfl)
  rw [lg_entry_eq]
  generalize (lg_sl ([.ref (ad (q))]) ++ List.replicate (1 - (lg_sl ([.ref (ad (q))])).length) Slot.unset).toArray = ls at hl ⊢
  have hl : lv_has ls 1 [(0, .ref (ad (q)))] := hl
  have hin2 : meth.name = "<init>" := (name_of_methodNamed B.named B.method).1
  have hA0 : ∀ p, p < q + 1 → ad p = ad p := fun _ _ => rfl
  have hW0 : ∀ p, p < q → w p = w p := fun _ _ => rfl
  refine lv_aload_n hx hb dJ4_init_da8c8_0 rfl (lv_at hl 0 rfl) ?_
  refine g_bipush S 16 dJ4_init_da8c8_1 (by decide +kernel) ?_
  refine g_uafv (g_runI S hI hP hS (k := 1) (b := q) (As := [.int (nI (16))]) (rest := []) (mJ5_init_d00df l kk hzv q he) q374 q375 q96 q376 rfl rfl rfl (by decide +kernel) ⟨(Nat.le_of_ble_eq_true rfl), (Nat.le_of_ble_eq_true rfl)⟩ rfl hl.1 rfl (Nat.le_of_ble_eq_true rfl) ⟨(Nat.le_of_ble_eq_true rfl), (Nat.le_of_ble_eq_true rfl)⟩ dJ4_init_da8c8_3) hS (fun ad1 N1 wn1 H locs hq hP hS => ?_)
  obtain ⟨hN1, hadL1, hwL1, hbs1⟩ := hq
  have hN1 : N1 = q + 2 := hN1
  subst hN1
  have hl : lv_has ls 1 [(0, .ref (ad1 (q)))] := by rw [hadL1 q (by omega)]; exact hl
  have hA1 : ∀ p, p < q + 1 → ad1 p = ad p := fun p hp => (hadL1 p hp).trans (hA0 p hp)
  have hW2 : ∀ p, p < q → wn1 p = w p := fun p hp => (hwL1 p hp).trans (hW0 p hp)
  exact g_uvret S hr hlocks hP hS (⟨rfl, hA1, hW2, hbs1⟩) (Nat.le_of_ble_eq_true rfl) (Nat.le_of_ble_eq_true rfl) dJ4_init_da8c8_6
set_option maxHeartbeats 4000000 in
set_option maxRecDepth 100000 in
/-- the parser is made -/
theorem mX9_init (l : Launch) {E : gE} {ad : Nat → Nat} {w : Nat → va_E} (kk : Nat → Nat) (hzv : gHv E kk) (q : Nat)  (he : w q = .inr (13, [.null, .null, .int 0, .int 0, .int 0, .int 0, .int 0]))  : gUv l yX9_init (lw_ws yX9_init cX9_init 1 none) ({ frames := 4, cells := 2, slots := 63, locals := 80 } : Room) E ad (q + 1) w [.ref (ad (q))] (fun ad' N' w' => N' = q + 3 ∧ (∀ p, p < q + 1 → ad' p = ad p) ∧ (∀ p, p < q → w' p = w p) ∧ bkP N' w' q 2 (TPC E ad' q (fun _ => 0) 0 0 (some 0) (some 0) (some 0)) ∧ bkP N' w' (q + 2) 1 (ALC E ad' (q + 2) (nI 0) (kk 32) 0)) 2 63 := by
  refine Met.ofW (cc := cX9_init) (maxL := 1) (ret := none) (by decide) rfl ?_
  intro p e s m args below meth cd s₁ B hml hv
  obtain ⟨rfl, hI, hP⟩ := hv
  obtain ⟨S, hr, hlocks⟩ := gPre (ws := []) B hml (C := RX9) rfl
  have hx := S.1
  have hb := S.2.1
  have hzk := hzv s s.heap hI.2.2.2.2
  have hS : va_S (gA E) s.heap s.heap [] := va_S.rf
  have hl := lv_entry ([.ref (ad (q))]) (n := 1) (Nat.le_of_ble_eq_true rfl)
  rw [lg_entry_eq]
  generalize (lg_sl ([.ref (ad (q))]) ++ List.replicate (1 - (lg_sl ([.ref (ad (q))])).length) Slot.unset).toArray = ls at hl ⊢
  have hl : lv_has ls 1 [(0, .ref (ad (q)))] := hl
  have hin2 : meth.name = "<init>" := (name_of_methodNamed B.named B.method).1
  have hA0 : ∀ p, p < q + 1 → ad p = ad p := fun _ _ => rfl
  have hW0 : ∀ p, p < q → w p = w p := fun _ _ => rfl
  refine lv_aload_n hx hb dX9_init_0 rfl (lv_at hl 0 rfl) ?_
  refine g_oinit S hl.1 q317 q129 q130 dX9_init_1 (Nat.le_of_ble_eq_true rfl) (Nat.le_of_ble_eq_true rfl) ?_
  refine lv_aload_n hx hb dX9_init_4 rfl (lv_at hl 0 rfl) ?_
  refine g_bipush S 60 dX9_init_5 (by decide +kernel) ?_
  refine g_newaM S hI hP hS (atype := .char) 2 rfl (fun _ _ h => h) rfl q344 60 rfl (by decide) (Nat.le_of_ble_eq_true rfl) (Nat.le_of_ble_eq_true rfl) (Nat.le_of_ble_eq_true rfl) dX9_init_7 (fun ad1 wn1 H hP hS hadL1 hwL1 hwN1 => ?_)
  have hP : gP E ad1 (q + 2) wn1 H := hP
  rw [show ([.ref (ad1 (q + 1)), .ref (ad (q))] : List Value) = [.ref (ad1 (q + 1)), .ref (ad1 (q))] by rw [hadL1 (q) (by omega)]]
  have hl : lv_has ls 1 [(0, .ref (ad1 (q)))] := by rw [hadL1 (q) (by omega)]; exact hl
  have he1 : wn1 q = .inr (13, [.null, .null, .int 0, .int 0, .int 0, .int 0, .int 0]) := by rw [hwL1 q (by omega), he]
  have hA2 : ∀ p, p < q + 1 → ad1 p = ad p := fun p hp => (hadL1 p (by omega)).trans (hA0 p hp)
  have hW3 : ∀ p, p < q → wn1 p = w p := fun p hp => (hwL1 p (by omega)).trans (hW0 p hp)
  refine g_putF S hI hP hS hin2 uX9 rfl tyX9 tyX9_ok nmX9 (q0 := q) (fs := [.null, .null, .int 0, .int 0, .int 0, .int 0, .int 0]) (by omega) he1 0 (by decide) q345 rfl rfl rfl (v := .ref (ad1 (q + 1))) rfl rfl (Nat.le_of_ble_eq_true rfl) dX9_init_9 (fun H locs hP hS => ?_)
  have hP : gP E ad1 (q + 2) (va_up wn1 q (.inr (13, [.ref (ad1 (q + 1)), .null, .int 0, .int 0, .int 0, .int 0, .int 0]))) H := hP
  obtain ⟨wv4, hwv4⟩ : ∃ z, z = va_up wn1 q (.inr (13, [.ref (ad1 (q + 1)), .null, .int 0, .int 0, .int 0, .int 0, .int 0]) : va_E) := ⟨_, rfl⟩
  rw [← hwv4] at hP
  have he5 : wv4 q = .inr (13, [.ref (ad1 (q + 1)), .null, .int 0, .int 0, .int 0, .int 0, .int 0]) := by rw [hwv4, va_up_self]
  have ea6 : wv4 (q + 1) = gAr (E.2.1 2) 60 (fun _ => 0) := by rw [hwv4, va_up_ne _ _ (by omega)]; exact hwN1
  have hW7 : ∀ p, p < q → wv4 p = w p := fun p hp => by rw [hwv4, va_up_ne _ _ (by omega)]; exact hW3 p hp
  refine lv_aload_n hx hb dX9_init_12 rfl (lv_at hl 0 rfl) ?_
  refine g_newM S hI hP hS (ci := 4) uJx4a65c rfl tyJx4a65c tyJx4a65c_ok q318 q319 q95 (fs := [.int 0, .null, .int 0]) (fun j hj => by match j, hj with | 0, _ => rfl | 1, _ => rfl | 2, _ => rfl) (Nat.le_of_ble_eq_true rfl) (Nat.le_of_ble_eq_true rfl) dX9_init_13 (fun ad2 wn2 H hP hS hadL2 hwL2 hwN2 => ?_)
  rw [show ([.ref (ad2 (q + 2)), .ref (ad1 (q))] : List Value) = [.ref (ad2 (q + 2)), .ref (ad2 (q))] by rw [hadL2 (q) (by omega)]]
  have hl : lv_has ls 1 [(0, .ref (ad2 (q)))] := by rw [hadL2 (q) (by omega)]; exact hl
  have hP : gP E ad2 (q + 3) wn2 H := hP
  have he8 : wn2 q = .inr (13, [.ref (ad2 (q + 1)), .null, .int 0, .int 0, .int 0, .int 0, .int 0]) := by rw [hwL2 q (by omega), he5, hadL2 (q + 1) (by omega)]
  have ea9 : wn2 (q + 1) = gAr (E.2.1 2) 60 (fun _ => 0) := by rw [hwL2 (q + 1) (by omega)]; exact ea6
  have hA10 : ∀ p, p < q + 1 → ad2 p = ad p := fun p hp => (hadL2 p (by omega)).trans (hA2 p hp)
  have hW11 : ∀ p, p < q → wn2 p = w p := fun p hp => (hwL2 p (by omega)).trans (hW7 p hp)
  refine lv_dup hx hb dX9_init_16 rfl ?_
  refine g_uafv (g_runI S hI hP hS (k := 0) (b := q + 2) (As := []) (rest := [.ref (ad2 (q + 2)), .ref (ad2 (q))]) (mJx4a65c_init_da8c8 l kk hzv (q + 2) hwN2) q320 q321 q95 q322 rfl rfl rfl (by decide +kernel) ⟨(Nat.le_of_ble_eq_true rfl), (Nat.le_of_ble_eq_true rfl)⟩ rfl hl.1 rfl (Nat.le_of_ble_eq_true rfl) ⟨(Nat.le_of_ble_eq_true rfl), (Nat.le_of_ble_eq_true rfl)⟩ dX9_init_17) hS (fun ad3 N3 wn3 H locs hq hP hS => ?_)
  obtain ⟨hN3, hadL3, hwL3, hbs3⟩ := hq
  have hN3 : N3 = q + 3 := hN3
  subst hN3
  rw [show ([.ref (ad2 (q + 2)), .ref (ad2 (q))] : List Value) = [.ref (ad3 (q + 2)), .ref (ad3 (q))] by rw [hadL3 (q + 2) (by omega), hadL3 (q) (by omega)]]
  have hl : lv_has ls 1 [(0, .ref (ad3 (q)))] := by rw [hadL3 (q) (by omega)]; exact hl
  have he12 : wn3 q = .inr (13, [.ref (ad3 (q + 1)), .null, .int 0, .int 0, .int 0, .int 0, .int 0]) := by rw [hwL3 q (by omega), he8, hadL3 (q + 1) (by omega)]
  have ea13 : wn3 (q + 1) = gAr (E.2.1 2) 60 (fun _ => 0) := by rw [hwL3 (q + 1) (by omega)]; exact ea9
  have hA14 : ∀ p, p < q + 1 → ad3 p = ad p := fun p hp => (hadL3 p (by omega)).trans (hA10 p hp)
  have hW15 : ∀ p, p < q → wn3 p = w p := fun p hp => (hwL3 p (by omega)).trans (hW11 p hp)
  refine g_putF S hI hP hS hin2 uX9 rfl tyX9 tyX9_ok nmX9 (q0 := q) (fs := [.ref (ad3 (q + 1)), .null, .int 0, .int 0, .int 0, .int 0, .int 0]) (by omega) he12 1 (by decide) q346 rfl rfl rfl (v := .ref (ad3 (q + 2))) rfl rfl (Nat.le_of_ble_eq_true rfl) dX9_init_20 (fun H locs hP hS => ?_)
  have hP : gP E ad3 (q + 3) (va_up wn3 q (.inr (13, [.ref (ad3 (q + 1)), .ref (ad3 (q + 2)), .int 0, .int 0, .int 0, .int 0, .int 0]))) H := hP
  obtain ⟨wv16, hwv16⟩ : ∃ z, z = va_up wn3 q (.inr (13, [.ref (ad3 (q + 1)), .ref (ad3 (q + 2)), .int 0, .int 0, .int 0, .int 0, .int 0]) : va_E) := ⟨_, rfl⟩
  rw [← hwv16] at hP
  have he17 : wv16 q = .inr (13, [.ref (ad3 (q + 1)), .ref (ad3 (q + 2)), .int 0, .int 0, .int 0, .int 0, .int 0]) := by rw [hwv16, va_up_self]
  have ea18 : wv16 (q + 1) = gAr (E.2.1 2) 60 (fun _ => 0) := by rw [hwv16, va_up_ne _ _ (by omega)]; exact ea13
  have hb19 := hbs3.keep (p := q) (e := (.inr (13, [.ref (ad3 (q + 1)), .ref (ad3 (q + 2)), .int 0, .int 0, .int 0, .int 0, .int 0]) : va_E)) (by omega)
  rw [← hwv16] at hb19
  have hW20 : ∀ p, p < q → wv16 p = w p := fun p hp => by rw [hwv16, va_up_ne _ _ (by omega)]; exact hW15 p hp
  exact g_uvret S hr hlocks hP hS (⟨rfl, hA14, hW20, ⟨by omega, fun k hk => by match k, hk with | 0, _ => exact he17 | 1, _ => exact ea18⟩, hb19⟩) (Nat.le_of_ble_eq_true rfl) (Nat.le_of_ble_eq_true rfl) dX9_init_23
set_option maxHeartbeats 4000000 in
set_option maxRecDepth 100000 in
/-- the map is made -/
theorem mX12_init (l : Launch) {E : gE} {ad : Nat → Nat} {w : Nat → va_E} (kk : Nat → Nat) (hzv : gHv E kk) (q : Nat)  (he : w q = .inr (15, [.null, .null, .null, .null, .null, .null, .null, .null, .null, .null, .int 0, .int 0, .int 0, .int 0, .int 0]))  : gUv l yX12_init (lw_ws yX12_init cX12_init 1 none) ({ frames := 5, cells := 115, slots := 3019, locals := 100 } : Room) E ad (q + 1) w [.ref (ad (q))] (fun ad' N' w' => N' = q + 116 ∧ (∀ p, p < q + 1 → ad' p = ad p) ∧ (∀ p, p < q → w' p = w p) ∧ bkP N' w' q 1 (DMC E ad' q 0 none none (-1) none) ∧ bkP N' w' (q + 1) 7 (SHC E ad' (q + 1) (fil 36 (fun _ => 50) (fun _ => 0)) (fun _ => 0) (fun _ => 0) (fun _ => 0) (fun _ => 0) (fun _ => 0) 0 0 0 0) ∧ bkP N' w' (q + 8) 7 (SHC E ad' (q + 8) (fil 36 (fun _ => 50) (fun _ => 0)) (fun _ => 0) (fun _ => 0) (fun _ => 0) (fun _ => 0) (fun _ => 0) 0 0 0 0) ∧ bkP N' w' (q + 15) 7 (SHC E ad' (q + 15) (fil 36 (fun _ => 50) (fun _ => 0)) (fun _ => 0) (fun _ => 0) (fun _ => 0) (fun _ => 0) (fun _ => 0) 0 0 0 0) ∧ bkP N' w' (q + 22) 7 (SHC E ad' (q + 22) (fil 36 (fun _ => 50) (fun _ => 0)) (fun _ => 0) (fun _ => 0) (fun _ => 0) (fun _ => 0) (fun _ => 0) 0 0 0 0) ∧ hsP E ad' N' w' (q + 29) 0 0 (fun _ => shZ) ∧ bkP N' w' (q + 87) 1 (RGC E ad' (q + 87) ) ∧ bkP N' w' (q + 88) 3 (FLC E ad' (q + 88) (fun _ => 0) (fun _ => 0) 0 0) ∧ bkP N' w' (q + 91) 2 (UNC E ad' (q + 91) (fun _ => 0)) ∧ bkP N' w' (q + 93) 2 (RKC E ad' (q + 93) (fun _ => 0) (fun _ => 0)) ∧ bkP N' w' (q + 95) 1 (SLC E ad' (q + 95) ) ∧ bkP N' w' (q + 96) 3 (CQC E ad' (q + 96) (fun _ => 0) (fun _ => 0)) ∧ bkP N' w' (q + 99) 1 (LVC E ad' (q + 99) (fun _ => 0)) ∧ bkP N' w' (q + 100) 1 (RTC E ad' (q + 100) 0) ∧ bkP N' w' (q + 101) 3 (CQC E ad' (q + 101) (fun _ => 0) (fun _ => 0)) ∧ bkP N' w' (q + 104) 3 (FLC E ad' (q + 104) (fun _ => 0) (fun _ => 0) 0 0) ∧ bkP N' w' (q + 107) 2 (UNC E ad' (q + 107) (fun _ => 0)) ∧ bkP N' w' (q + 109) 1 (LVC E ad' (q + 109) (fun _ => 0)) ∧ bkP N' w' (q + 110) 1 (PRC E ad' (q + 110) (fun _ => 0)) ∧ bkP N' w' (q + 111) 2 (TPC E ad' (q + 111) (fun _ => 0) 0 0 (some 0) (some 0) (some 0)) ∧ bkP N' w' (q + 113) 1 (ALC E ad' (q + 113) (nI 0) (kk 32) 0) ∧ sbR E ad' N' w' (q + 114) 16 0 0 (fun _ => 0)) 115 3019 := by
  refine Met.ofW (cc := cX12_init) (maxL := 1) (ret := none) (by decide) rfl ?_
  intro p e s m args below meth cd s₁ B hml hv
  obtain ⟨rfl, hI, hP⟩ := hv
  obtain ⟨S, hr, hlocks⟩ := gPre (ws := []) B hml (C := RX12) rfl
  have hx := S.1
  have hb := S.2.1
  have hzk := hzv s s.heap hI.2.2.2.2
  have hS : va_S (gA E) s.heap s.heap [] := va_S.rf
  have hl := lv_entry ([.ref (ad (q))]) (n := 1) (Nat.le_of_ble_eq_true rfl)
  rw [lg_entry_eq]
  generalize (lg_sl ([.ref (ad (q))]) ++ List.replicate (1 - (lg_sl ([.ref (ad (q))])).length) Slot.unset).toArray = ls at hl ⊢
  have hl : lv_has ls 1 [(0, .ref (ad (q)))] := hl
  have hin2 : meth.name = "<init>" := (name_of_methodNamed B.named B.method).1
  have hA0 : ∀ p, p < q + 1 → ad p = ad p := fun _ _ => rfl
  have hW0 : ∀ p, p < q → w p = w p := fun _ _ => rfl
  refine lv_aload_n hx hb dX12_init_0 rfl (lv_at hl 0 rfl) ?_
  refine g_oinit S hl.1 q128 q129 q130 dX12_init_1 (Nat.le_of_ble_eq_true rfl) (Nat.le_of_ble_eq_true rfl) ?_
  refine lv_aload_n hx hb dX12_init_4 rfl (lv_at hl 0 rfl) ?_
  refine g_newM S hI hP hS (ci := 11) uX7 rfl tyX7 tyX7_ok q131 q132 q83 (fs := [.null, .null, .null, .null, .null, .null, .int 0, .int 0, .int 0, .int 0]) (fun j hj => by match j, hj with | 0, _ => rfl | 1, _ => rfl | 2, _ => rfl | 3, _ => rfl | 4, _ => rfl | 5, _ => rfl | 6, _ => rfl | 7, _ => rfl | 8, _ => rfl | 9, _ => rfl) (Nat.le_of_ble_eq_true rfl) (Nat.le_of_ble_eq_true rfl) dX12_init_5 (fun ad1 wn1 H hP hS hadL1 hwL1 hwN1 => ?_)
  rw [show ([.ref (ad1 (q + 1)), .ref (ad (q))] : List Value) = [.ref (ad1 (q + 1)), .ref (ad1 (q))] by rw [hadL1 (q) (by omega)]]
  have hl : lv_has ls 1 [(0, .ref (ad1 (q)))] := by rw [hadL1 (q) (by omega)]; exact hl
  have hP : gP E ad1 (q + 2) wn1 H := hP
  have he1 : wn1 q = .inr (15, [.null, .null, .null, .null, .null, .null, .null, .null, .null, .null, .int 0, .int 0, .int 0, .int 0, .int 0]) := by rw [hwL1 q (by omega), he]
  have hA2 : ∀ p, p < q + 1 → ad1 p = ad p := fun p hp => (hadL1 p (by omega)).trans (hA0 p hp)
  have hW3 : ∀ p, p < q → wn1 p = w p := fun p hp => (hwL1 p (by omega)).trans (hW0 p hp)
  refine lv_dup hx hb dX12_init_8 rfl ?_
  refine g_uafv (g_runI S hI hP hS (k := 0) (b := q + 1) (As := []) (rest := [.ref (ad1 (q + 1)), .ref (ad1 (q))]) (mX7_init l (q + 1) hwN1) q133 q134 q83 q135 rfl rfl rfl (by decide +kernel) ⟨(Nat.le_of_ble_eq_true rfl), (Nat.le_of_ble_eq_true rfl)⟩ rfl hl.1 rfl (Nat.le_of_ble_eq_true rfl) ⟨(Nat.le_of_ble_eq_true rfl), (Nat.le_of_ble_eq_true rfl)⟩ dX12_init_9) hS (fun ad2 N2 wn2 H locs hq hP hS => ?_)
  obtain ⟨hN2, hadL2, hwL2, hbs2⟩ := hq
  have hN2 : N2 = q + 8 := hN2
  subst hN2
  rw [show ([.ref (ad1 (q + 1)), .ref (ad1 (q))] : List Value) = [.ref (ad2 (q + 1)), .ref (ad2 (q))] by rw [hadL2 (q + 1) (by omega), hadL2 (q) (by omega)]]
  have hl : lv_has ls 1 [(0, .ref (ad2 (q)))] := by rw [hadL2 (q) (by omega)]; exact hl
  have he4 : wn2 q = .inr (15, [.null, .null, .null, .null, .null, .null, .null, .null, .null, .null, .int 0, .int 0, .int 0, .int 0, .int 0]) := by rw [hwL2 q (by omega), he1]
  have hA5 : ∀ p, p < q + 1 → ad2 p = ad p := fun p hp => (hadL2 p (by omega)).trans (hA2 p hp)
  have hW6 : ∀ p, p < q → wn2 p = w p := fun p hp => (hwL2 p (by omega)).trans (hW3 p hp)
  refine g_putF S hI hP hS hin2 uX12 rfl tyX12 tyX12_ok nmX12 (q0 := q) (fs := [.null, .null, .null, .null, .null, .null, .null, .null, .null, .null, .int 0, .int 0, .int 0, .int 0, .int 0]) (by omega) he4 0 (by decide) q402 rfl rfl rfl (v := .ref (ad2 (q + 1))) rfl rfl (Nat.le_of_ble_eq_true rfl) dX12_init_12 (fun H locs hP hS => ?_)
  have hP : gP E ad2 (q + 8) (va_up wn2 q (.inr (15, [.ref (ad2 (q + 1)), .null, .null, .null, .null, .null, .null, .null, .null, .null, .int 0, .int 0, .int 0, .int 0, .int 0]))) H := hP
  obtain ⟨wv7, hwv7⟩ : ∃ z, z = va_up wn2 q (.inr (15, [.ref (ad2 (q + 1)), .null, .null, .null, .null, .null, .null, .null, .null, .null, .int 0, .int 0, .int 0, .int 0, .int 0]) : va_E) := ⟨_, rfl⟩
  rw [← hwv7] at hP
  have he8 : wv7 q = .inr (15, [.ref (ad2 (q + 1)), .null, .null, .null, .null, .null, .null, .null, .null, .null, .int 0, .int 0, .int 0, .int 0, .int 0]) := by rw [hwv7, va_up_self]
  have hb9 := hbs2.keep (p := q) (e := (.inr (15, [.ref (ad2 (q + 1)), .null, .null, .null, .null, .null, .null, .null, .null, .null, .int 0, .int 0, .int 0, .int 0, .int 0]) : va_E)) (by omega)
  rw [← hwv7] at hb9
  have hW10 : ∀ p, p < q → wv7 p = w p := fun p hp => by rw [hwv7, va_up_ne _ _ (by omega)]; exact hW6 p hp
  refine lv_aload_n hx hb dX12_init_15 rfl (lv_at hl 0 rfl) ?_
  refine g_newM S hI hP hS (ci := 11) uX7 rfl tyX7 tyX7_ok q131 q132 q83 (fs := [.null, .null, .null, .null, .null, .null, .int 0, .int 0, .int 0, .int 0]) (fun j hj => by match j, hj with | 0, _ => rfl | 1, _ => rfl | 2, _ => rfl | 3, _ => rfl | 4, _ => rfl | 5, _ => rfl | 6, _ => rfl | 7, _ => rfl | 8, _ => rfl | 9, _ => rfl) (Nat.le_of_ble_eq_true rfl) (Nat.le_of_ble_eq_true rfl) dX12_init_16 (fun ad3 wn3 H hP hS hadL3 hwL3 hwN3 => ?_)
  rw [show ([.ref (ad3 (q + 8)), .ref (ad2 (q))] : List Value) = [.ref (ad3 (q + 8)), .ref (ad3 (q))] by rw [hadL3 (q) (by omega)]]
  have hl : lv_has ls 1 [(0, .ref (ad3 (q)))] := by rw [hadL3 (q) (by omega)]; exact hl
  have hb11 := SH_mv hb9 (w' := wn3) (M := (q + 8)) (by omega) (Nat.le_succ _) (fun p hp => (hadL3 p hp).symm) (fun p h1 h2 => hwL3 p (by omega))
  have hP : gP E ad3 (q + 9) wn3 H := hP
  have he12 : wn3 q = .inr (15, [.ref (ad3 (q + 1)), .null, .null, .null, .null, .null, .null, .null, .null, .null, .int 0, .int 0, .int 0, .int 0, .int 0]) := by rw [hwL3 q (by omega), he8, hadL3 (q + 1) (by omega)]
  have hA13 : ∀ p, p < q + 1 → ad3 p = ad p := fun p hp => (hadL3 p (by omega)).trans (hA5 p hp)
  have hW14 : ∀ p, p < q → wn3 p = w p := fun p hp => (hwL3 p (by omega)).trans (hW10 p hp)
  refine lv_dup hx hb dX12_init_19 rfl ?_
  refine g_uafv (g_runI S hI hP hS (k := 0) (b := q + 8) (As := []) (rest := [.ref (ad3 (q + 8)), .ref (ad3 (q))]) (mX7_init l (q + 8) hwN3) q133 q134 q83 q135 rfl rfl rfl (by decide +kernel) ⟨(Nat.le_of_ble_eq_true rfl), (Nat.le_of_ble_eq_true rfl)⟩ rfl hl.1 rfl (Nat.le_of_ble_eq_true rfl) ⟨(Nat.le_of_ble_eq_true rfl), (Nat.le_of_ble_eq_true rfl)⟩ dX12_init_20) hS (fun ad4 N4 wn4 H locs hq hP hS => ?_)
  obtain ⟨hN4, hadL4, hwL4, hbs4⟩ := hq
  have hN4 : N4 = q + 15 := hN4
  subst hN4
  rw [show ([.ref (ad3 (q + 8)), .ref (ad3 (q))] : List Value) = [.ref (ad4 (q + 8)), .ref (ad4 (q))] by rw [hadL4 (q + 8) (by omega), hadL4 (q) (by omega)]]
  have hl : lv_has ls 1 [(0, .ref (ad4 (q)))] := by rw [hadL4 (q) (by omega)]; exact hl
  have hb15 := SH_mv hb11 (w' := wn4) (N' := q + 15) (M := q + 8) (by omega) (by omega) (fun p hp => (hadL4 p (by omega)).symm) (fun p h1 h2 => hwL4 p (by omega))
  have he16 : wn4 q = .inr (15, [.ref (ad4 (q + 1)), .null, .null, .null, .null, .null, .null, .null, .null, .null, .int 0, .int 0, .int 0, .int 0, .int 0]) := by rw [hwL4 q (by omega), he12, hadL4 (q + 1) (by omega)]
  have hA17 : ∀ p, p < q + 1 → ad4 p = ad p := fun p hp => (hadL4 p (by omega)).trans (hA13 p hp)
  have hW18 : ∀ p, p < q → wn4 p = w p := fun p hp => (hwL4 p (by omega)).trans (hW14 p hp)
  refine g_putF S hI hP hS hin2 uX12 rfl tyX12 tyX12_ok nmX12 (q0 := q) (fs := [.ref (ad4 (q + 1)), .null, .null, .null, .null, .null, .null, .null, .null, .null, .int 0, .int 0, .int 0, .int 0, .int 0]) (by omega) he16 1 (by decide) q403 rfl rfl rfl (v := .ref (ad4 (q + 8))) rfl rfl (Nat.le_of_ble_eq_true rfl) dX12_init_23 (fun H locs hP hS => ?_)
  have hP : gP E ad4 (q + 15) (va_up wn4 q (.inr (15, [.ref (ad4 (q + 1)), .ref (ad4 (q + 8)), .null, .null, .null, .null, .null, .null, .null, .null, .int 0, .int 0, .int 0, .int 0, .int 0]))) H := hP
  obtain ⟨wv19, hwv19⟩ : ∃ z, z = va_up wn4 q (.inr (15, [.ref (ad4 (q + 1)), .ref (ad4 (q + 8)), .null, .null, .null, .null, .null, .null, .null, .null, .int 0, .int 0, .int 0, .int 0, .int 0]) : va_E) := ⟨_, rfl⟩
  rw [← hwv19] at hP
  have he20 : wv19 q = .inr (15, [.ref (ad4 (q + 1)), .ref (ad4 (q + 8)), .null, .null, .null, .null, .null, .null, .null, .null, .int 0, .int 0, .int 0, .int 0, .int 0]) := by rw [hwv19, va_up_self]
  have hb21 := hb15.keep (p := q) (e := (.inr (15, [.ref (ad4 (q + 1)), .ref (ad4 (q + 8)), .null, .null, .null, .null, .null, .null, .null, .null, .int 0, .int 0, .int 0, .int 0, .int 0]) : va_E)) (by omega)
  rw [← hwv19] at hb21
  have hb22 := hbs4.keep (p := q) (e := (.inr (15, [.ref (ad4 (q + 1)), .ref (ad4 (q + 8)), .null, .null, .null, .null, .null, .null, .null, .null, .int 0, .int 0, .int 0, .int 0, .int 0]) : va_E)) (by omega)
  rw [← hwv19] at hb22
  have hW23 : ∀ p, p < q → wv19 p = w p := fun p hp => by rw [hwv19, va_up_ne _ _ (by omega)]; exact hW18 p hp
  refine lv_aload_n hx hb dX12_init_26 rfl (lv_at hl 0 rfl) ?_
  refine g_newM S hI hP hS (ci := 11) uX7 rfl tyX7 tyX7_ok q131 q132 q83 (fs := [.null, .null, .null, .null, .null, .null, .int 0, .int 0, .int 0, .int 0]) (fun j hj => by match j, hj with | 0, _ => rfl | 1, _ => rfl | 2, _ => rfl | 3, _ => rfl | 4, _ => rfl | 5, _ => rfl | 6, _ => rfl | 7, _ => rfl | 8, _ => rfl | 9, _ => rfl) (Nat.le_of_ble_eq_true rfl) (Nat.le_of_ble_eq_true rfl) dX12_init_27 (fun ad5 wn5 H hP hS hadL5 hwL5 hwN5 => ?_)
  rw [show ([.ref (ad5 (q + 15)), .ref (ad4 (q))] : List Value) = [.ref (ad5 (q + 15)), .ref (ad5 (q))] by rw [hadL5 (q) (by omega)]]
  have hl : lv_has ls 1 [(0, .ref (ad5 (q)))] := by rw [hadL5 (q) (by omega)]; exact hl
  have hb24 := SH_mv hb21 (w' := wn5) (M := (q + 15)) (by omega) (Nat.le_succ _) (fun p hp => (hadL5 p hp).symm) (fun p h1 h2 => hwL5 p (by omega))
  have hb25 := SH_mv hb22 (w' := wn5) (M := (q + 15)) (by omega) (Nat.le_succ _) (fun p hp => (hadL5 p hp).symm) (fun p h1 h2 => hwL5 p (by omega))
  have hP : gP E ad5 (q + 16) wn5 H := hP
  have he26 : wn5 q = .inr (15, [.ref (ad5 (q + 1)), .ref (ad5 (q + 8)), .null, .null, .null, .null, .null, .null, .null, .null, .int 0, .int 0, .int 0, .int 0, .int 0]) := by rw [hwL5 q (by omega), he20, hadL5 (q + 1) (by omega), hadL5 (q + 8) (by omega)]
  have hA27 : ∀ p, p < q + 1 → ad5 p = ad p := fun p hp => (hadL5 p (by omega)).trans (hA17 p hp)
  have hW28 : ∀ p, p < q → wn5 p = w p := fun p hp => (hwL5 p (by omega)).trans (hW23 p hp)
  refine lv_dup hx hb dX12_init_30 rfl ?_
  refine g_uafv (g_runI S hI hP hS (k := 0) (b := q + 15) (As := []) (rest := [.ref (ad5 (q + 15)), .ref (ad5 (q))]) (mX7_init l (q + 15) hwN5) q133 q134 q83 q135 rfl rfl rfl (by decide +kernel) ⟨(Nat.le_of_ble_eq_true rfl), (Nat.le_of_ble_eq_true rfl)⟩ rfl hl.1 rfl (Nat.le_of_ble_eq_true rfl) ⟨(Nat.le_of_ble_eq_true rfl), (Nat.le_of_ble_eq_true rfl)⟩ dX12_init_31) hS (fun ad6 N6 wn6 H locs hq hP hS => ?_)
  obtain ⟨hN6, hadL6, hwL6, hbs6⟩ := hq
  have hN6 : N6 = q + 22 := hN6
  subst hN6
  rw [show ([.ref (ad5 (q + 15)), .ref (ad5 (q))] : List Value) = [.ref (ad6 (q + 15)), .ref (ad6 (q))] by rw [hadL6 (q + 15) (by omega), hadL6 (q) (by omega)]]
  have hl : lv_has ls 1 [(0, .ref (ad6 (q)))] := by rw [hadL6 (q) (by omega)]; exact hl
  have hb29 := SH_mv hb24 (w' := wn6) (N' := q + 22) (M := q + 15) (by omega) (by omega) (fun p hp => (hadL6 p (by omega)).symm) (fun p h1 h2 => hwL6 p (by omega))
  have hb30 := SH_mv hb25 (w' := wn6) (N' := q + 22) (M := q + 15) (by omega) (by omega) (fun p hp => (hadL6 p (by omega)).symm) (fun p h1 h2 => hwL6 p (by omega))
  have he31 : wn6 q = .inr (15, [.ref (ad6 (q + 1)), .ref (ad6 (q + 8)), .null, .null, .null, .null, .null, .null, .null, .null, .int 0, .int 0, .int 0, .int 0, .int 0]) := by rw [hwL6 q (by omega), he26, hadL6 (q + 1) (by omega), hadL6 (q + 8) (by omega)]
  have hA32 : ∀ p, p < q + 1 → ad6 p = ad p := fun p hp => (hadL6 p (by omega)).trans (hA27 p hp)
  have hW33 : ∀ p, p < q → wn6 p = w p := fun p hp => (hwL6 p (by omega)).trans (hW28 p hp)
  refine g_putF S hI hP hS hin2 uX12 rfl tyX12 tyX12_ok nmX12 (q0 := q) (fs := [.ref (ad6 (q + 1)), .ref (ad6 (q + 8)), .null, .null, .null, .null, .null, .null, .null, .null, .int 0, .int 0, .int 0, .int 0, .int 0]) (by omega) he31 2 (by decide) q404 rfl rfl rfl (v := .ref (ad6 (q + 15))) rfl rfl (Nat.le_of_ble_eq_true rfl) dX12_init_34 (fun H locs hP hS => ?_)
  have hP : gP E ad6 (q + 22) (va_up wn6 q (.inr (15, [.ref (ad6 (q + 1)), .ref (ad6 (q + 8)), .ref (ad6 (q + 15)), .null, .null, .null, .null, .null, .null, .null, .int 0, .int 0, .int 0, .int 0, .int 0]))) H := hP
  obtain ⟨wv34, hwv34⟩ : ∃ z, z = va_up wn6 q (.inr (15, [.ref (ad6 (q + 1)), .ref (ad6 (q + 8)), .ref (ad6 (q + 15)), .null, .null, .null, .null, .null, .null, .null, .int 0, .int 0, .int 0, .int 0, .int 0]) : va_E) := ⟨_, rfl⟩
  rw [← hwv34] at hP
  have he35 : wv34 q = .inr (15, [.ref (ad6 (q + 1)), .ref (ad6 (q + 8)), .ref (ad6 (q + 15)), .null, .null, .null, .null, .null, .null, .null, .int 0, .int 0, .int 0, .int 0, .int 0]) := by rw [hwv34, va_up_self]
  have hb36 := hb29.keep (p := q) (e := (.inr (15, [.ref (ad6 (q + 1)), .ref (ad6 (q + 8)), .ref (ad6 (q + 15)), .null, .null, .null, .null, .null, .null, .null, .int 0, .int 0, .int 0, .int 0, .int 0]) : va_E)) (by omega)
  rw [← hwv34] at hb36
  have hb37 := hb30.keep (p := q) (e := (.inr (15, [.ref (ad6 (q + 1)), .ref (ad6 (q + 8)), .ref (ad6 (q + 15)), .null, .null, .null, .null, .null, .null, .null, .int 0, .int 0, .int 0, .int 0, .int 0]) : va_E)) (by omega)
  rw [← hwv34] at hb37
  have hb38 := hbs6.keep (p := q) (e := (.inr (15, [.ref (ad6 (q + 1)), .ref (ad6 (q + 8)), .ref (ad6 (q + 15)), .null, .null, .null, .null, .null, .null, .null, .int 0, .int 0, .int 0, .int 0, .int 0]) : va_E)) (by omega)
  rw [← hwv34] at hb38
  have hW39 : ∀ p, p < q → wv34 p = w p := fun p hp => by rw [hwv34, va_up_ne _ _ (by omega)]; exact hW33 p hp
  refine lv_aload_n hx hb dX12_init_37 rfl (lv_at hl 0 rfl) ?_
  refine g_newM S hI hP hS (ci := 11) uX7 rfl tyX7 tyX7_ok q131 q132 q83 (fs := [.null, .null, .null, .null, .null, .null, .int 0, .int 0, .int 0, .int 0]) (fun j hj => by match j, hj with | 0, _ => rfl | 1, _ => rfl | 2, _ => rfl | 3, _ => rfl | 4, _ => rfl | 5, _ => rfl | 6, _ => rfl | 7, _ => rfl | 8, _ => rfl | 9, _ => rfl) (Nat.le_of_ble_eq_true rfl) (Nat.le_of_ble_eq_true rfl) dX12_init_38 (fun ad7 wn7 H hP hS hadL7 hwL7 hwN7 => ?_)
  rw [show ([.ref (ad7 (q + 22)), .ref (ad6 (q))] : List Value) = [.ref (ad7 (q + 22)), .ref (ad7 (q))] by rw [hadL7 (q) (by omega)]]
  have hl : lv_has ls 1 [(0, .ref (ad7 (q)))] := by rw [hadL7 (q) (by omega)]; exact hl
  have hb40 := SH_mv hb36 (w' := wn7) (M := (q + 22)) (by omega) (Nat.le_succ _) (fun p hp => (hadL7 p hp).symm) (fun p h1 h2 => hwL7 p (by omega))
  have hb41 := SH_mv hb37 (w' := wn7) (M := (q + 22)) (by omega) (Nat.le_succ _) (fun p hp => (hadL7 p hp).symm) (fun p h1 h2 => hwL7 p (by omega))
  have hb42 := SH_mv hb38 (w' := wn7) (M := (q + 22)) (by omega) (Nat.le_succ _) (fun p hp => (hadL7 p hp).symm) (fun p h1 h2 => hwL7 p (by omega))
  have hP : gP E ad7 (q + 23) wn7 H := hP
  have he43 : wn7 q = .inr (15, [.ref (ad7 (q + 1)), .ref (ad7 (q + 8)), .ref (ad7 (q + 15)), .null, .null, .null, .null, .null, .null, .null, .int 0, .int 0, .int 0, .int 0, .int 0]) := by rw [hwL7 q (by omega), he35, hadL7 (q + 1) (by omega), hadL7 (q + 8) (by omega), hadL7 (q + 15) (by omega)]
  have hA44 : ∀ p, p < q + 1 → ad7 p = ad p := fun p hp => (hadL7 p (by omega)).trans (hA32 p hp)
  have hW45 : ∀ p, p < q → wn7 p = w p := fun p hp => (hwL7 p (by omega)).trans (hW39 p hp)
  refine lv_dup hx hb dX12_init_41 rfl ?_
  refine g_uafv (g_runI S hI hP hS (k := 0) (b := q + 22) (As := []) (rest := [.ref (ad7 (q + 22)), .ref (ad7 (q))]) (mX7_init l (q + 22) hwN7) q133 q134 q83 q135 rfl rfl rfl (by decide +kernel) ⟨(Nat.le_of_ble_eq_true rfl), (Nat.le_of_ble_eq_true rfl)⟩ rfl hl.1 rfl (Nat.le_of_ble_eq_true rfl) ⟨(Nat.le_of_ble_eq_true rfl), (Nat.le_of_ble_eq_true rfl)⟩ dX12_init_42) hS (fun ad8 N8 wn8 H locs hq hP hS => ?_)
  obtain ⟨hN8, hadL8, hwL8, hbs8⟩ := hq
  have hN8 : N8 = q + 29 := hN8
  subst hN8
  rw [show ([.ref (ad7 (q + 22)), .ref (ad7 (q))] : List Value) = [.ref (ad8 (q + 22)), .ref (ad8 (q))] by rw [hadL8 (q + 22) (by omega), hadL8 (q) (by omega)]]
  have hl : lv_has ls 1 [(0, .ref (ad8 (q)))] := by rw [hadL8 (q) (by omega)]; exact hl
  have hb46 := SH_mv hb40 (w' := wn8) (N' := q + 29) (M := q + 22) (by omega) (by omega) (fun p hp => (hadL8 p (by omega)).symm) (fun p h1 h2 => hwL8 p (by omega))
  have hb47 := SH_mv hb41 (w' := wn8) (N' := q + 29) (M := q + 22) (by omega) (by omega) (fun p hp => (hadL8 p (by omega)).symm) (fun p h1 h2 => hwL8 p (by omega))
  have hb48 := SH_mv hb42 (w' := wn8) (N' := q + 29) (M := q + 22) (by omega) (by omega) (fun p hp => (hadL8 p (by omega)).symm) (fun p h1 h2 => hwL8 p (by omega))
  have he49 : wn8 q = .inr (15, [.ref (ad8 (q + 1)), .ref (ad8 (q + 8)), .ref (ad8 (q + 15)), .null, .null, .null, .null, .null, .null, .null, .int 0, .int 0, .int 0, .int 0, .int 0]) := by rw [hwL8 q (by omega), he43, hadL8 (q + 1) (by omega), hadL8 (q + 8) (by omega), hadL8 (q + 15) (by omega)]
  have hA50 : ∀ p, p < q + 1 → ad8 p = ad p := fun p hp => (hadL8 p (by omega)).trans (hA44 p hp)
  have hW51 : ∀ p, p < q → wn8 p = w p := fun p hp => (hwL8 p (by omega)).trans (hW45 p hp)
  refine g_putF S hI hP hS hin2 uX12 rfl tyX12 tyX12_ok nmX12 (q0 := q) (fs := [.ref (ad8 (q + 1)), .ref (ad8 (q + 8)), .ref (ad8 (q + 15)), .null, .null, .null, .null, .null, .null, .null, .int 0, .int 0, .int 0, .int 0, .int 0]) (by omega) he49 3 (by decide) q405 rfl rfl rfl (v := .ref (ad8 (q + 22))) rfl rfl (Nat.le_of_ble_eq_true rfl) dX12_init_45 (fun H locs hP hS => ?_)
  have hP : gP E ad8 (q + 29) (va_up wn8 q (.inr (15, [.ref (ad8 (q + 1)), .ref (ad8 (q + 8)), .ref (ad8 (q + 15)), .ref (ad8 (q + 22)), .null, .null, .null, .null, .null, .null, .int 0, .int 0, .int 0, .int 0, .int 0]))) H := hP
  obtain ⟨wv52, hwv52⟩ : ∃ z, z = va_up wn8 q (.inr (15, [.ref (ad8 (q + 1)), .ref (ad8 (q + 8)), .ref (ad8 (q + 15)), .ref (ad8 (q + 22)), .null, .null, .null, .null, .null, .null, .int 0, .int 0, .int 0, .int 0, .int 0]) : va_E) := ⟨_, rfl⟩
  rw [← hwv52] at hP
  have he53 : wv52 q = .inr (15, [.ref (ad8 (q + 1)), .ref (ad8 (q + 8)), .ref (ad8 (q + 15)), .ref (ad8 (q + 22)), .null, .null, .null, .null, .null, .null, .int 0, .int 0, .int 0, .int 0, .int 0]) := by rw [hwv52, va_up_self]
  have hb54 := hb46.keep (p := q) (e := (.inr (15, [.ref (ad8 (q + 1)), .ref (ad8 (q + 8)), .ref (ad8 (q + 15)), .ref (ad8 (q + 22)), .null, .null, .null, .null, .null, .null, .int 0, .int 0, .int 0, .int 0, .int 0]) : va_E)) (by omega)
  rw [← hwv52] at hb54
  have hb55 := hb47.keep (p := q) (e := (.inr (15, [.ref (ad8 (q + 1)), .ref (ad8 (q + 8)), .ref (ad8 (q + 15)), .ref (ad8 (q + 22)), .null, .null, .null, .null, .null, .null, .int 0, .int 0, .int 0, .int 0, .int 0]) : va_E)) (by omega)
  rw [← hwv52] at hb55
  have hb56 := hb48.keep (p := q) (e := (.inr (15, [.ref (ad8 (q + 1)), .ref (ad8 (q + 8)), .ref (ad8 (q + 15)), .ref (ad8 (q + 22)), .null, .null, .null, .null, .null, .null, .int 0, .int 0, .int 0, .int 0, .int 0]) : va_E)) (by omega)
  rw [← hwv52] at hb56
  have hb57 := hbs8.keep (p := q) (e := (.inr (15, [.ref (ad8 (q + 1)), .ref (ad8 (q + 8)), .ref (ad8 (q + 15)), .ref (ad8 (q + 22)), .null, .null, .null, .null, .null, .null, .int 0, .int 0, .int 0, .int 0, .int 0]) : va_E)) (by omega)
  rw [← hwv52] at hb57
  have hW58 : ∀ p, p < q → wv52 p = w p := fun p hp => by rw [hwv52, va_up_ne _ _ (by omega)]; exact hW51 p hp
  refine lv_aload_n hx hb dX12_init_48 rfl (lv_at hl 0 rfl) ?_
  refine g_newM S hI hP hS (ci := 8) uX4 rfl tyX4 tyX4_ok q184 q185 q85 (fs := [.null, .int 0, .int 0]) (fun j hj => by match j, hj with | 0, _ => rfl | 1, _ => rfl | 2, _ => rfl) (Nat.le_of_ble_eq_true rfl) (Nat.le_of_ble_eq_true rfl) dX12_init_49 (fun ad9 wn9 H hP hS hadL9 hwL9 hwN9 => ?_)
  rw [show ([.ref (ad9 (q + 29)), .ref (ad8 (q))] : List Value) = [.ref (ad9 (q + 29)), .ref (ad9 (q))] by rw [hadL9 (q) (by omega)]]
  have hl : lv_has ls 1 [(0, .ref (ad9 (q)))] := by rw [hadL9 (q) (by omega)]; exact hl
  have hb59 := SH_mv hb54 (w' := wn9) (M := (q + 29)) (by omega) (Nat.le_succ _) (fun p hp => (hadL9 p hp).symm) (fun p h1 h2 => hwL9 p (by omega))
  have hb60 := SH_mv hb55 (w' := wn9) (M := (q + 29)) (by omega) (Nat.le_succ _) (fun p hp => (hadL9 p hp).symm) (fun p h1 h2 => hwL9 p (by omega))
  have hb61 := SH_mv hb56 (w' := wn9) (M := (q + 29)) (by omega) (Nat.le_succ _) (fun p hp => (hadL9 p hp).symm) (fun p h1 h2 => hwL9 p (by omega))
  have hb62 := SH_mv hb57 (w' := wn9) (M := (q + 29)) (by omega) (Nat.le_succ _) (fun p hp => (hadL9 p hp).symm) (fun p h1 h2 => hwL9 p (by omega))
  have hP : gP E ad9 (q + 30) wn9 H := hP
  have he63 : wn9 q = .inr (15, [.ref (ad9 (q + 1)), .ref (ad9 (q + 8)), .ref (ad9 (q + 15)), .ref (ad9 (q + 22)), .null, .null, .null, .null, .null, .null, .int 0, .int 0, .int 0, .int 0, .int 0]) := by rw [hwL9 q (by omega), he53, hadL9 (q + 1) (by omega), hadL9 (q + 8) (by omega), hadL9 (q + 15) (by omega), hadL9 (q + 22) (by omega)]
  have hA64 : ∀ p, p < q + 1 → ad9 p = ad p := fun p hp => (hadL9 p (by omega)).trans (hA50 p hp)
  have hW65 : ∀ p, p < q → wn9 p = w p := fun p hp => (hwL9 p (by omega)).trans (hW58 p hp)
  refine lv_dup hx hb dX12_init_52 rfl ?_
  refine g_uafv (g_runI S hI hP hS (k := 0) (b := q + 29) (As := []) (rest := [.ref (ad9 (q + 29)), .ref (ad9 (q))]) (mX4_init l kk hzv (q + 29) hwN9) q186 q187 q85 q188 rfl rfl rfl (by decide +kernel) ⟨(Nat.le_of_ble_eq_true rfl), (Nat.le_of_ble_eq_true rfl)⟩ rfl hl.1 rfl (Nat.le_of_ble_eq_true rfl) ⟨(Nat.le_of_ble_eq_true rfl), (Nat.le_of_ble_eq_true rfl)⟩ dX12_init_53) hS (fun ad10 N10 wn10 H locs hq hP hS => ?_)
  obtain ⟨hN10, hadL10, hwL10, hbs10⟩ := hq
  have hN10 : N10 = q + 87 := hN10
  subst hN10
  rw [show ([.ref (ad9 (q + 29)), .ref (ad9 (q))] : List Value) = [.ref (ad10 (q + 29)), .ref (ad10 (q))] by rw [hadL10 (q + 29) (by omega), hadL10 (q) (by omega)]]
  have hl : lv_has ls 1 [(0, .ref (ad10 (q)))] := by rw [hadL10 (q) (by omega)]; exact hl
  have hb66 := SH_mv hb59 (w' := wn10) (N' := q + 87) (M := q + 29) (by omega) (by omega) (fun p hp => (hadL10 p (by omega)).symm) (fun p h1 h2 => hwL10 p (by omega))
  have hb67 := SH_mv hb60 (w' := wn10) (N' := q + 87) (M := q + 29) (by omega) (by omega) (fun p hp => (hadL10 p (by omega)).symm) (fun p h1 h2 => hwL10 p (by omega))
  have hb68 := SH_mv hb61 (w' := wn10) (N' := q + 87) (M := q + 29) (by omega) (by omega) (fun p hp => (hadL10 p (by omega)).symm) (fun p h1 h2 => hwL10 p (by omega))
  have hb69 := SH_mv hb62 (w' := wn10) (N' := q + 87) (M := q + 29) (by omega) (by omega) (fun p hp => (hadL10 p (by omega)).symm) (fun p h1 h2 => hwL10 p (by omega))
  have he70 : wn10 q = .inr (15, [.ref (ad10 (q + 1)), .ref (ad10 (q + 8)), .ref (ad10 (q + 15)), .ref (ad10 (q + 22)), .null, .null, .null, .null, .null, .null, .int 0, .int 0, .int 0, .int 0, .int 0]) := by rw [hwL10 q (by omega), he63, hadL10 (q + 1) (by omega), hadL10 (q + 8) (by omega), hadL10 (q + 15) (by omega), hadL10 (q + 22) (by omega)]
  have hA71 : ∀ p, p < q + 1 → ad10 p = ad p := fun p hp => (hadL10 p (by omega)).trans (hA64 p hp)
  have hW72 : ∀ p, p < q → wn10 p = w p := fun p hp => (hwL10 p (by omega)).trans (hW65 p hp)
  refine g_putF S hI hP hS hin2 uX12 rfl tyX12 tyX12_ok nmX12 (q0 := q) (fs := [.ref (ad10 (q + 1)), .ref (ad10 (q + 8)), .ref (ad10 (q + 15)), .ref (ad10 (q + 22)), .null, .null, .null, .null, .null, .null, .int 0, .int 0, .int 0, .int 0, .int 0]) (by omega) he70 4 (by decide) q406 rfl rfl rfl (v := .ref (ad10 (q + 29))) rfl rfl (Nat.le_of_ble_eq_true rfl) dX12_init_56 (fun H locs hP hS => ?_)
  have hP : gP E ad10 (q + 87) (va_up wn10 q (.inr (15, [.ref (ad10 (q + 1)), .ref (ad10 (q + 8)), .ref (ad10 (q + 15)), .ref (ad10 (q + 22)), .ref (ad10 (q + 29)), .null, .null, .null, .null, .null, .int 0, .int 0, .int 0, .int 0, .int 0]))) H := hP
  obtain ⟨wv73, hwv73⟩ : ∃ z, z = va_up wn10 q (.inr (15, [.ref (ad10 (q + 1)), .ref (ad10 (q + 8)), .ref (ad10 (q + 15)), .ref (ad10 (q + 22)), .ref (ad10 (q + 29)), .null, .null, .null, .null, .null, .int 0, .int 0, .int 0, .int 0, .int 0]) : va_E) := ⟨_, rfl⟩
  rw [← hwv73] at hP
  have he74 : wv73 q = .inr (15, [.ref (ad10 (q + 1)), .ref (ad10 (q + 8)), .ref (ad10 (q + 15)), .ref (ad10 (q + 22)), .ref (ad10 (q + 29)), .null, .null, .null, .null, .null, .int 0, .int 0, .int 0, .int 0, .int 0]) := by rw [hwv73, va_up_self]
  have hb75 := hb66.keep (p := q) (e := (.inr (15, [.ref (ad10 (q + 1)), .ref (ad10 (q + 8)), .ref (ad10 (q + 15)), .ref (ad10 (q + 22)), .ref (ad10 (q + 29)), .null, .null, .null, .null, .null, .int 0, .int 0, .int 0, .int 0, .int 0]) : va_E)) (by omega)
  rw [← hwv73] at hb75
  have hb76 := hb67.keep (p := q) (e := (.inr (15, [.ref (ad10 (q + 1)), .ref (ad10 (q + 8)), .ref (ad10 (q + 15)), .ref (ad10 (q + 22)), .ref (ad10 (q + 29)), .null, .null, .null, .null, .null, .int 0, .int 0, .int 0, .int 0, .int 0]) : va_E)) (by omega)
  rw [← hwv73] at hb76
  have hb77 := hb68.keep (p := q) (e := (.inr (15, [.ref (ad10 (q + 1)), .ref (ad10 (q + 8)), .ref (ad10 (q + 15)), .ref (ad10 (q + 22)), .ref (ad10 (q + 29)), .null, .null, .null, .null, .null, .int 0, .int 0, .int 0, .int 0, .int 0]) : va_E)) (by omega)
  rw [← hwv73] at hb77
  have hb78 := hb69.keep (p := q) (e := (.inr (15, [.ref (ad10 (q + 1)), .ref (ad10 (q + 8)), .ref (ad10 (q + 15)), .ref (ad10 (q + 22)), .ref (ad10 (q + 29)), .null, .null, .null, .null, .null, .int 0, .int 0, .int 0, .int 0, .int 0]) : va_E)) (by omega)
  rw [← hwv73] at hb78
  have hb79 := hbs10.keep (p := q) (e := (.inr (15, [.ref (ad10 (q + 1)), .ref (ad10 (q + 8)), .ref (ad10 (q + 15)), .ref (ad10 (q + 22)), .ref (ad10 (q + 29)), .null, .null, .null, .null, .null, .int 0, .int 0, .int 0, .int 0, .int 0]) : va_E)) (by omega)
  rw [← hwv73] at hb79
  have hW80 : ∀ p, p < q → wv73 p = w p := fun p hp => by rw [hwv73, va_up_ne _ _ (by omega)]; exact hW72 p hp
  refine lv_aload_n hx hb dX12_init_59 rfl (lv_at hl 0 rfl) ?_
  refine g_newM S hI hP hS (ci := 9) uX5 rfl tyX5 tyX5_ok q204 q205 q86 (fs := [.null, .null, .null, .null]) (fun j hj => by match j, hj with | 0, _ => rfl | 1, _ => rfl | 2, _ => rfl | 3, _ => rfl) (Nat.le_of_ble_eq_true rfl) (Nat.le_of_ble_eq_true rfl) dX12_init_60 (fun ad11 wn11 H hP hS hadL11 hwL11 hwN11 => ?_)
  rw [show ([.ref (ad11 (q + 87)), .ref (ad10 (q))] : List Value) = [.ref (ad11 (q + 87)), .ref (ad11 (q))] by rw [hadL11 (q) (by omega)]]
  have hl : lv_has ls 1 [(0, .ref (ad11 (q)))] := by rw [hadL11 (q) (by omega)]; exact hl
  have hb81 := SH_mv hb75 (w' := wn11) (M := (q + 87)) (by omega) (Nat.le_succ _) (fun p hp => (hadL11 p hp).symm) (fun p h1 h2 => hwL11 p (by omega))
  have hb82 := SH_mv hb76 (w' := wn11) (M := (q + 87)) (by omega) (Nat.le_succ _) (fun p hp => (hadL11 p hp).symm) (fun p h1 h2 => hwL11 p (by omega))
  have hb83 := SH_mv hb77 (w' := wn11) (M := (q + 87)) (by omega) (Nat.le_succ _) (fun p hp => (hadL11 p hp).symm) (fun p h1 h2 => hwL11 p (by omega))
  have hb84 := SH_mv hb78 (w' := wn11) (M := (q + 87)) (by omega) (Nat.le_succ _) (fun p hp => (hadL11 p hp).symm) (fun p h1 h2 => hwL11 p (by omega))
  have hb85 := HSP_mv hb79 (w' := wn11) (M := (q + 87)) (by omega) (Nat.le_succ _) (fun p hp => (hadL11 p hp).symm) (fun p h1 h2 => hwL11 p (by omega))
  have hP : gP E ad11 (q + 88) wn11 H := hP
  have he86 : wn11 q = .inr (15, [.ref (ad11 (q + 1)), .ref (ad11 (q + 8)), .ref (ad11 (q + 15)), .ref (ad11 (q + 22)), .ref (ad11 (q + 29)), .null, .null, .null, .null, .null, .int 0, .int 0, .int 0, .int 0, .int 0]) := by rw [hwL11 q (by omega), he74, hadL11 (q + 1) (by omega), hadL11 (q + 8) (by omega), hadL11 (q + 15) (by omega), hadL11 (q + 22) (by omega), hadL11 (q + 29) (by omega)]
  have hA87 : ∀ p, p < q + 1 → ad11 p = ad p := fun p hp => (hadL11 p (by omega)).trans (hA71 p hp)
  have hW88 : ∀ p, p < q → wn11 p = w p := fun p hp => (hwL11 p (by omega)).trans (hW80 p hp)
  refine lv_dup hx hb dX12_init_63 rfl ?_
  refine g_uafv (g_runIN S hI hP hS (k := 0) (b := q + 87) (As := []) (rest := [.ref (ad11 (q + 87)), .ref (ad11 (q))]) (mX5_init l (q + 87) hwN11) q206 q207 q86 q208 rfl rfl rfl (by decide +kernel) ⟨(Nat.le_of_ble_eq_true rfl), (Nat.le_of_ble_eq_true rfl)⟩ rfl hl.1 rfl (Nat.le_of_ble_eq_true rfl) ⟨(Nat.le_of_ble_eq_true rfl), (Nat.le_of_ble_eq_true rfl)⟩ dX12_init_64) hS (fun ad12 N12 wn12 H locs hq hP hS => ?_)
  obtain ⟨hN12, hadL12, hwL12, hbs12⟩ := hq
  have hN12 : N12 = q + 95 := hN12
  subst hN12
  rw [show ([.ref (ad11 (q + 87)), .ref (ad11 (q))] : List Value) = [.ref (ad12 (q + 87)), .ref (ad12 (q))] by rw [hadL12 (q + 87) (by omega), hadL12 (q) (by omega)]]
  have hl : lv_has ls 1 [(0, .ref (ad12 (q)))] := by rw [hadL12 (q) (by omega)]; exact hl
  have hb89 := SH_mv hb81 (w' := wn12) (N' := q + 95) (M := q + 87) (by omega) (by omega) (fun p hp => (hadL12 p (by omega)).symm) (fun p h1 h2 => hwL12 p (by omega))
  have hb90 := SH_mv hb82 (w' := wn12) (N' := q + 95) (M := q + 87) (by omega) (by omega) (fun p hp => (hadL12 p (by omega)).symm) (fun p h1 h2 => hwL12 p (by omega))
  have hb91 := SH_mv hb83 (w' := wn12) (N' := q + 95) (M := q + 87) (by omega) (by omega) (fun p hp => (hadL12 p (by omega)).symm) (fun p h1 h2 => hwL12 p (by omega))
  have hb92 := SH_mv hb84 (w' := wn12) (N' := q + 95) (M := q + 87) (by omega) (by omega) (fun p hp => (hadL12 p (by omega)).symm) (fun p h1 h2 => hwL12 p (by omega))
  have hb93 := HSP_mv hb85 (w' := wn12) (N' := q + 95) (M := q + 87) (by omega) (by omega) (fun p hp => (hadL12 p (by omega)).symm) (fun p h1 h2 => hwL12 p (by omega))
  have he94 : wn12 q = .inr (15, [.ref (ad12 (q + 1)), .ref (ad12 (q + 8)), .ref (ad12 (q + 15)), .ref (ad12 (q + 22)), .ref (ad12 (q + 29)), .null, .null, .null, .null, .null, .int 0, .int 0, .int 0, .int 0, .int 0]) := by rw [hwL12 q (by omega), he86, hadL12 (q + 1) (by omega), hadL12 (q + 8) (by omega), hadL12 (q + 15) (by omega), hadL12 (q + 22) (by omega), hadL12 (q + 29) (by omega)]
  have hA95 : ∀ p, p < q + 1 → ad12 p = ad p := fun p hp => (hadL12 p (by omega)).trans (hA87 p hp)
  have hW96 : ∀ p, p < q → wn12 p = w p := fun p hp => (hwL12 p (by omega)).trans (hW88 p hp)
  refine g_putF S hI hP hS hin2 uX12 rfl tyX12 tyX12_ok nmX12 (q0 := q) (fs := [.ref (ad12 (q + 1)), .ref (ad12 (q + 8)), .ref (ad12 (q + 15)), .ref (ad12 (q + 22)), .ref (ad12 (q + 29)), .null, .null, .null, .null, .null, .int 0, .int 0, .int 0, .int 0, .int 0]) (by omega) he94 5 (by decide) q407 rfl rfl rfl (v := .ref (ad12 (q + 87))) rfl rfl (Nat.le_of_ble_eq_true rfl) dX12_init_67 (fun H locs hP hS => ?_)
  have hP : gP E ad12 (q + 95) (va_up wn12 q (.inr (15, [.ref (ad12 (q + 1)), .ref (ad12 (q + 8)), .ref (ad12 (q + 15)), .ref (ad12 (q + 22)), .ref (ad12 (q + 29)), .ref (ad12 (q + 87)), .null, .null, .null, .null, .int 0, .int 0, .int 0, .int 0, .int 0]))) H := hP
  obtain ⟨wv97, hwv97⟩ : ∃ z, z = va_up wn12 q (.inr (15, [.ref (ad12 (q + 1)), .ref (ad12 (q + 8)), .ref (ad12 (q + 15)), .ref (ad12 (q + 22)), .ref (ad12 (q + 29)), .ref (ad12 (q + 87)), .null, .null, .null, .null, .int 0, .int 0, .int 0, .int 0, .int 0]) : va_E) := ⟨_, rfl⟩
  rw [← hwv97] at hP
  have he98 : wv97 q = .inr (15, [.ref (ad12 (q + 1)), .ref (ad12 (q + 8)), .ref (ad12 (q + 15)), .ref (ad12 (q + 22)), .ref (ad12 (q + 29)), .ref (ad12 (q + 87)), .null, .null, .null, .null, .int 0, .int 0, .int 0, .int 0, .int 0]) := by rw [hwv97, va_up_self]
  have hb99 := hb89.keep (p := q) (e := (.inr (15, [.ref (ad12 (q + 1)), .ref (ad12 (q + 8)), .ref (ad12 (q + 15)), .ref (ad12 (q + 22)), .ref (ad12 (q + 29)), .ref (ad12 (q + 87)), .null, .null, .null, .null, .int 0, .int 0, .int 0, .int 0, .int 0]) : va_E)) (by omega)
  rw [← hwv97] at hb99
  have hb100 := hb90.keep (p := q) (e := (.inr (15, [.ref (ad12 (q + 1)), .ref (ad12 (q + 8)), .ref (ad12 (q + 15)), .ref (ad12 (q + 22)), .ref (ad12 (q + 29)), .ref (ad12 (q + 87)), .null, .null, .null, .null, .int 0, .int 0, .int 0, .int 0, .int 0]) : va_E)) (by omega)
  rw [← hwv97] at hb100
  have hb101 := hb91.keep (p := q) (e := (.inr (15, [.ref (ad12 (q + 1)), .ref (ad12 (q + 8)), .ref (ad12 (q + 15)), .ref (ad12 (q + 22)), .ref (ad12 (q + 29)), .ref (ad12 (q + 87)), .null, .null, .null, .null, .int 0, .int 0, .int 0, .int 0, .int 0]) : va_E)) (by omega)
  rw [← hwv97] at hb101
  have hb102 := hb92.keep (p := q) (e := (.inr (15, [.ref (ad12 (q + 1)), .ref (ad12 (q + 8)), .ref (ad12 (q + 15)), .ref (ad12 (q + 22)), .ref (ad12 (q + 29)), .ref (ad12 (q + 87)), .null, .null, .null, .null, .int 0, .int 0, .int 0, .int 0, .int 0]) : va_E)) (by omega)
  rw [← hwv97] at hb102
  have hb103 := hb93.keep (p := q) (e := (.inr (15, [.ref (ad12 (q + 1)), .ref (ad12 (q + 8)), .ref (ad12 (q + 15)), .ref (ad12 (q + 22)), .ref (ad12 (q + 29)), .ref (ad12 (q + 87)), .null, .null, .null, .null, .int 0, .int 0, .int 0, .int 0, .int 0]) : va_E)) (by omega)
  rw [← hwv97] at hb103
  have hb104 := hbs12.1.keep (p := q) (e := (.inr (15, [.ref (ad12 (q + 1)), .ref (ad12 (q + 8)), .ref (ad12 (q + 15)), .ref (ad12 (q + 22)), .ref (ad12 (q + 29)), .ref (ad12 (q + 87)), .null, .null, .null, .null, .int 0, .int 0, .int 0, .int 0, .int 0]) : va_E)) (by omega)
  rw [← hwv97] at hb104
  have hb105 := hbs12.2.1.keep (p := q) (e := (.inr (15, [.ref (ad12 (q + 1)), .ref (ad12 (q + 8)), .ref (ad12 (q + 15)), .ref (ad12 (q + 22)), .ref (ad12 (q + 29)), .ref (ad12 (q + 87)), .null, .null, .null, .null, .int 0, .int 0, .int 0, .int 0, .int 0]) : va_E)) (by omega)
  rw [← hwv97] at hb105
  have hb106 := hbs12.2.2.1.keep (p := q) (e := (.inr (15, [.ref (ad12 (q + 1)), .ref (ad12 (q + 8)), .ref (ad12 (q + 15)), .ref (ad12 (q + 22)), .ref (ad12 (q + 29)), .ref (ad12 (q + 87)), .null, .null, .null, .null, .int 0, .int 0, .int 0, .int 0, .int 0]) : va_E)) (by omega)
  rw [← hwv97] at hb106
  have hb107 := hbs12.2.2.2.keep (p := q) (e := (.inr (15, [.ref (ad12 (q + 1)), .ref (ad12 (q + 8)), .ref (ad12 (q + 15)), .ref (ad12 (q + 22)), .ref (ad12 (q + 29)), .ref (ad12 (q + 87)), .null, .null, .null, .null, .int 0, .int 0, .int 0, .int 0, .int 0]) : va_E)) (by omega)
  rw [← hwv97] at hb107
  have hW108 : ∀ p, p < q → wv97 p = w p := fun p hp => by rw [hwv97, va_up_ne _ _ (by omega)]; exact hW96 p hp
  refine lv_aload_n hx hb dX12_init_70 rfl (lv_at hl 0 rfl) ?_
  refine g_newM S hI hP hS (ci := 12) uX8 rfl tyX8 tyX8_ok q255 q256 q89 (fs := [.null, .null]) (fun j hj => by match j, hj with | 0, _ => rfl | 1, _ => rfl) (Nat.le_of_ble_eq_true rfl) (Nat.le_of_ble_eq_true rfl) dX12_init_71 (fun ad13 wn13 H hP hS hadL13 hwL13 hwN13 => ?_)
  rw [show ([.ref (ad13 (q + 95)), .ref (ad12 (q))] : List Value) = [.ref (ad13 (q + 95)), .ref (ad13 (q))] by rw [hadL13 (q) (by omega)]]
  have hl : lv_has ls 1 [(0, .ref (ad13 (q)))] := by rw [hadL13 (q) (by omega)]; exact hl
  have hb109 := SH_mv hb99 (w' := wn13) (M := (q + 95)) (by omega) (Nat.le_succ _) (fun p hp => (hadL13 p hp).symm) (fun p h1 h2 => hwL13 p (by omega))
  have hb110 := SH_mv hb100 (w' := wn13) (M := (q + 95)) (by omega) (Nat.le_succ _) (fun p hp => (hadL13 p hp).symm) (fun p h1 h2 => hwL13 p (by omega))
  have hb111 := SH_mv hb101 (w' := wn13) (M := (q + 95)) (by omega) (Nat.le_succ _) (fun p hp => (hadL13 p hp).symm) (fun p h1 h2 => hwL13 p (by omega))
  have hb112 := SH_mv hb102 (w' := wn13) (M := (q + 95)) (by omega) (Nat.le_succ _) (fun p hp => (hadL13 p hp).symm) (fun p h1 h2 => hwL13 p (by omega))
  have hb113 := HSP_mv hb103 (w' := wn13) (M := (q + 95)) (by omega) (Nat.le_succ _) (fun p hp => (hadL13 p hp).symm) (fun p h1 h2 => hwL13 p (by omega))
  have hb114 := RG_mv hb104 (w' := wn13) (M := (q + 95)) (by omega) (Nat.le_succ _) (fun p hp => (hadL13 p hp).symm) (fun p h1 h2 => hwL13 p (by omega))
  have hb115 := FL_mv hb105 (w' := wn13) (M := (q + 95)) (by omega) (Nat.le_succ _) (fun p hp => (hadL13 p hp).symm) (fun p h1 h2 => hwL13 p (by omega))
  have hb116 := UN_mv hb106 (w' := wn13) (M := (q + 95)) (by omega) (Nat.le_succ _) (fun p hp => (hadL13 p hp).symm) (fun p h1 h2 => hwL13 p (by omega))
  have hb117 := RK_mv hb107 (w' := wn13) (M := (q + 95)) (by omega) (Nat.le_succ _) (fun p hp => (hadL13 p hp).symm) (fun p h1 h2 => hwL13 p (by omega))
  have hP : gP E ad13 (q + 96) wn13 H := hP
  have he118 : wn13 q = .inr (15, [.ref (ad13 (q + 1)), .ref (ad13 (q + 8)), .ref (ad13 (q + 15)), .ref (ad13 (q + 22)), .ref (ad13 (q + 29)), .ref (ad13 (q + 87)), .null, .null, .null, .null, .int 0, .int 0, .int 0, .int 0, .int 0]) := by rw [hwL13 q (by omega), he98, hadL13 (q + 1) (by omega), hadL13 (q + 8) (by omega), hadL13 (q + 15) (by omega), hadL13 (q + 22) (by omega), hadL13 (q + 29) (by omega), hadL13 (q + 87) (by omega)]
  have hA119 : ∀ p, p < q + 1 → ad13 p = ad p := fun p hp => (hadL13 p (by omega)).trans (hA95 p hp)
  have hW120 : ∀ p, p < q → wn13 p = w p := fun p hp => (hwL13 p (by omega)).trans (hW108 p hp)
  refine lv_dup hx hb dX12_init_74 rfl ?_
  refine g_uafv (g_runIN S hI hP hS (k := 0) (b := q + 95) (As := []) (rest := [.ref (ad13 (q + 95)), .ref (ad13 (q))]) (mX8_init l (q + 95) hwN13) q257 q258 q89 q259 rfl rfl rfl (by decide +kernel) ⟨(Nat.le_of_ble_eq_true rfl), (Nat.le_of_ble_eq_true rfl)⟩ rfl hl.1 rfl (Nat.le_of_ble_eq_true rfl) ⟨(Nat.le_of_ble_eq_true rfl), (Nat.le_of_ble_eq_true rfl)⟩ dX12_init_75) hS (fun ad14 N14 wn14 H locs hq hP hS => ?_)
  obtain ⟨hN14, hadL14, hwL14, hbs14⟩ := hq
  have hN14 : N14 = q + 100 := hN14
  subst hN14
  rw [show ([.ref (ad13 (q + 95)), .ref (ad13 (q))] : List Value) = [.ref (ad14 (q + 95)), .ref (ad14 (q))] by rw [hadL14 (q + 95) (by omega), hadL14 (q) (by omega)]]
  have hl : lv_has ls 1 [(0, .ref (ad14 (q)))] := by rw [hadL14 (q) (by omega)]; exact hl
  have hb121 := SH_mv hb109 (w' := wn14) (N' := q + 100) (M := q + 95) (by omega) (by omega) (fun p hp => (hadL14 p (by omega)).symm) (fun p h1 h2 => hwL14 p (by omega))
  have hb122 := SH_mv hb110 (w' := wn14) (N' := q + 100) (M := q + 95) (by omega) (by omega) (fun p hp => (hadL14 p (by omega)).symm) (fun p h1 h2 => hwL14 p (by omega))
  have hb123 := SH_mv hb111 (w' := wn14) (N' := q + 100) (M := q + 95) (by omega) (by omega) (fun p hp => (hadL14 p (by omega)).symm) (fun p h1 h2 => hwL14 p (by omega))
  have hb124 := SH_mv hb112 (w' := wn14) (N' := q + 100) (M := q + 95) (by omega) (by omega) (fun p hp => (hadL14 p (by omega)).symm) (fun p h1 h2 => hwL14 p (by omega))
  have hb125 := HSP_mv hb113 (w' := wn14) (N' := q + 100) (M := q + 95) (by omega) (by omega) (fun p hp => (hadL14 p (by omega)).symm) (fun p h1 h2 => hwL14 p (by omega))
  have hb126 := RG_mv hb114 (w' := wn14) (N' := q + 100) (M := q + 95) (by omega) (by omega) (fun p hp => (hadL14 p (by omega)).symm) (fun p h1 h2 => hwL14 p (by omega))
  have hb127 := FL_mv hb115 (w' := wn14) (N' := q + 100) (M := q + 95) (by omega) (by omega) (fun p hp => (hadL14 p (by omega)).symm) (fun p h1 h2 => hwL14 p (by omega))
  have hb128 := UN_mv hb116 (w' := wn14) (N' := q + 100) (M := q + 95) (by omega) (by omega) (fun p hp => (hadL14 p (by omega)).symm) (fun p h1 h2 => hwL14 p (by omega))
  have hb129 := RK_mv hb117 (w' := wn14) (N' := q + 100) (M := q + 95) (by omega) (by omega) (fun p hp => (hadL14 p (by omega)).symm) (fun p h1 h2 => hwL14 p (by omega))
  have he130 : wn14 q = .inr (15, [.ref (ad14 (q + 1)), .ref (ad14 (q + 8)), .ref (ad14 (q + 15)), .ref (ad14 (q + 22)), .ref (ad14 (q + 29)), .ref (ad14 (q + 87)), .null, .null, .null, .null, .int 0, .int 0, .int 0, .int 0, .int 0]) := by rw [hwL14 q (by omega), he118, hadL14 (q + 1) (by omega), hadL14 (q + 8) (by omega), hadL14 (q + 15) (by omega), hadL14 (q + 22) (by omega), hadL14 (q + 29) (by omega), hadL14 (q + 87) (by omega)]
  have hA131 : ∀ p, p < q + 1 → ad14 p = ad p := fun p hp => (hadL14 p (by omega)).trans (hA119 p hp)
  have hW132 : ∀ p, p < q → wn14 p = w p := fun p hp => (hwL14 p (by omega)).trans (hW120 p hp)
  refine g_putF S hI hP hS hin2 uX12 rfl tyX12 tyX12_ok nmX12 (q0 := q) (fs := [.ref (ad14 (q + 1)), .ref (ad14 (q + 8)), .ref (ad14 (q + 15)), .ref (ad14 (q + 22)), .ref (ad14 (q + 29)), .ref (ad14 (q + 87)), .null, .null, .null, .null, .int 0, .int 0, .int 0, .int 0, .int 0]) (by omega) he130 6 (by decide) q408 rfl rfl rfl (v := .ref (ad14 (q + 95))) rfl rfl (Nat.le_of_ble_eq_true rfl) dX12_init_78 (fun H locs hP hS => ?_)
  have hP : gP E ad14 (q + 100) (va_up wn14 q (.inr (15, [.ref (ad14 (q + 1)), .ref (ad14 (q + 8)), .ref (ad14 (q + 15)), .ref (ad14 (q + 22)), .ref (ad14 (q + 29)), .ref (ad14 (q + 87)), .ref (ad14 (q + 95)), .null, .null, .null, .int 0, .int 0, .int 0, .int 0, .int 0]))) H := hP
  obtain ⟨wv133, hwv133⟩ : ∃ z, z = va_up wn14 q (.inr (15, [.ref (ad14 (q + 1)), .ref (ad14 (q + 8)), .ref (ad14 (q + 15)), .ref (ad14 (q + 22)), .ref (ad14 (q + 29)), .ref (ad14 (q + 87)), .ref (ad14 (q + 95)), .null, .null, .null, .int 0, .int 0, .int 0, .int 0, .int 0]) : va_E) := ⟨_, rfl⟩
  rw [← hwv133] at hP
  have he134 : wv133 q = .inr (15, [.ref (ad14 (q + 1)), .ref (ad14 (q + 8)), .ref (ad14 (q + 15)), .ref (ad14 (q + 22)), .ref (ad14 (q + 29)), .ref (ad14 (q + 87)), .ref (ad14 (q + 95)), .null, .null, .null, .int 0, .int 0, .int 0, .int 0, .int 0]) := by rw [hwv133, va_up_self]
  have hb135 := hb121.keep (p := q) (e := (.inr (15, [.ref (ad14 (q + 1)), .ref (ad14 (q + 8)), .ref (ad14 (q + 15)), .ref (ad14 (q + 22)), .ref (ad14 (q + 29)), .ref (ad14 (q + 87)), .ref (ad14 (q + 95)), .null, .null, .null, .int 0, .int 0, .int 0, .int 0, .int 0]) : va_E)) (by omega)
  rw [← hwv133] at hb135
  have hb136 := hb122.keep (p := q) (e := (.inr (15, [.ref (ad14 (q + 1)), .ref (ad14 (q + 8)), .ref (ad14 (q + 15)), .ref (ad14 (q + 22)), .ref (ad14 (q + 29)), .ref (ad14 (q + 87)), .ref (ad14 (q + 95)), .null, .null, .null, .int 0, .int 0, .int 0, .int 0, .int 0]) : va_E)) (by omega)
  rw [← hwv133] at hb136
  have hb137 := hb123.keep (p := q) (e := (.inr (15, [.ref (ad14 (q + 1)), .ref (ad14 (q + 8)), .ref (ad14 (q + 15)), .ref (ad14 (q + 22)), .ref (ad14 (q + 29)), .ref (ad14 (q + 87)), .ref (ad14 (q + 95)), .null, .null, .null, .int 0, .int 0, .int 0, .int 0, .int 0]) : va_E)) (by omega)
  rw [← hwv133] at hb137
  have hb138 := hb124.keep (p := q) (e := (.inr (15, [.ref (ad14 (q + 1)), .ref (ad14 (q + 8)), .ref (ad14 (q + 15)), .ref (ad14 (q + 22)), .ref (ad14 (q + 29)), .ref (ad14 (q + 87)), .ref (ad14 (q + 95)), .null, .null, .null, .int 0, .int 0, .int 0, .int 0, .int 0]) : va_E)) (by omega)
  rw [← hwv133] at hb138
  have hb139 := hb125.keep (p := q) (e := (.inr (15, [.ref (ad14 (q + 1)), .ref (ad14 (q + 8)), .ref (ad14 (q + 15)), .ref (ad14 (q + 22)), .ref (ad14 (q + 29)), .ref (ad14 (q + 87)), .ref (ad14 (q + 95)), .null, .null, .null, .int 0, .int 0, .int 0, .int 0, .int 0]) : va_E)) (by omega)
  rw [← hwv133] at hb139
  have hb140 := hb126.keep (p := q) (e := (.inr (15, [.ref (ad14 (q + 1)), .ref (ad14 (q + 8)), .ref (ad14 (q + 15)), .ref (ad14 (q + 22)), .ref (ad14 (q + 29)), .ref (ad14 (q + 87)), .ref (ad14 (q + 95)), .null, .null, .null, .int 0, .int 0, .int 0, .int 0, .int 0]) : va_E)) (by omega)
  rw [← hwv133] at hb140
  have hb141 := hb127.keep (p := q) (e := (.inr (15, [.ref (ad14 (q + 1)), .ref (ad14 (q + 8)), .ref (ad14 (q + 15)), .ref (ad14 (q + 22)), .ref (ad14 (q + 29)), .ref (ad14 (q + 87)), .ref (ad14 (q + 95)), .null, .null, .null, .int 0, .int 0, .int 0, .int 0, .int 0]) : va_E)) (by omega)
  rw [← hwv133] at hb141
  have hb142 := hb128.keep (p := q) (e := (.inr (15, [.ref (ad14 (q + 1)), .ref (ad14 (q + 8)), .ref (ad14 (q + 15)), .ref (ad14 (q + 22)), .ref (ad14 (q + 29)), .ref (ad14 (q + 87)), .ref (ad14 (q + 95)), .null, .null, .null, .int 0, .int 0, .int 0, .int 0, .int 0]) : va_E)) (by omega)
  rw [← hwv133] at hb142
  have hb143 := hb129.keep (p := q) (e := (.inr (15, [.ref (ad14 (q + 1)), .ref (ad14 (q + 8)), .ref (ad14 (q + 15)), .ref (ad14 (q + 22)), .ref (ad14 (q + 29)), .ref (ad14 (q + 87)), .ref (ad14 (q + 95)), .null, .null, .null, .int 0, .int 0, .int 0, .int 0, .int 0]) : va_E)) (by omega)
  rw [← hwv133] at hb143
  have hb144 := hbs14.1.keep (p := q) (e := (.inr (15, [.ref (ad14 (q + 1)), .ref (ad14 (q + 8)), .ref (ad14 (q + 15)), .ref (ad14 (q + 22)), .ref (ad14 (q + 29)), .ref (ad14 (q + 87)), .ref (ad14 (q + 95)), .null, .null, .null, .int 0, .int 0, .int 0, .int 0, .int 0]) : va_E)) (by omega)
  rw [← hwv133] at hb144
  have hb145 := hbs14.2.1.keep (p := q) (e := (.inr (15, [.ref (ad14 (q + 1)), .ref (ad14 (q + 8)), .ref (ad14 (q + 15)), .ref (ad14 (q + 22)), .ref (ad14 (q + 29)), .ref (ad14 (q + 87)), .ref (ad14 (q + 95)), .null, .null, .null, .int 0, .int 0, .int 0, .int 0, .int 0]) : va_E)) (by omega)
  rw [← hwv133] at hb145
  have hb146 := hbs14.2.2.keep (p := q) (e := (.inr (15, [.ref (ad14 (q + 1)), .ref (ad14 (q + 8)), .ref (ad14 (q + 15)), .ref (ad14 (q + 22)), .ref (ad14 (q + 29)), .ref (ad14 (q + 87)), .ref (ad14 (q + 95)), .null, .null, .null, .int 0, .int 0, .int 0, .int 0, .int 0]) : va_E)) (by omega)
  rw [← hwv133] at hb146
  have hW147 : ∀ p, p < q → wv133 p = w p := fun p hp => by rw [hwv133, va_up_ne _ _ (by omega)]; exact hW132 p hp
  refine lv_aload_n hx hb dX12_init_81 rfl (lv_at hl 0 rfl) ?_
  refine g_newM S hI hP hS (ci := 10) uX6 rfl tyX6 tyX6_ok q281 q282 q91 (fs := [.null, .null, .null, .null, .null, .int 0]) (fun j hj => by match j, hj with | 0, _ => rfl | 1, _ => rfl | 2, _ => rfl | 3, _ => rfl | 4, _ => rfl | 5, _ => rfl) (Nat.le_of_ble_eq_true rfl) (Nat.le_of_ble_eq_true rfl) dX12_init_82 (fun ad15 wn15 H hP hS hadL15 hwL15 hwN15 => ?_)
  rw [show ([.ref (ad15 (q + 100)), .ref (ad14 (q))] : List Value) = [.ref (ad15 (q + 100)), .ref (ad15 (q))] by rw [hadL15 (q) (by omega)]]
  have hl : lv_has ls 1 [(0, .ref (ad15 (q)))] := by rw [hadL15 (q) (by omega)]; exact hl
  have hb148 := SH_mv hb135 (w' := wn15) (M := (q + 100)) (by omega) (Nat.le_succ _) (fun p hp => (hadL15 p hp).symm) (fun p h1 h2 => hwL15 p (by omega))
  have hb149 := SH_mv hb136 (w' := wn15) (M := (q + 100)) (by omega) (Nat.le_succ _) (fun p hp => (hadL15 p hp).symm) (fun p h1 h2 => hwL15 p (by omega))
  have hb150 := SH_mv hb137 (w' := wn15) (M := (q + 100)) (by omega) (Nat.le_succ _) (fun p hp => (hadL15 p hp).symm) (fun p h1 h2 => hwL15 p (by omega))
  have hb151 := SH_mv hb138 (w' := wn15) (M := (q + 100)) (by omega) (Nat.le_succ _) (fun p hp => (hadL15 p hp).symm) (fun p h1 h2 => hwL15 p (by omega))
  have hb152 := HSP_mv hb139 (w' := wn15) (M := (q + 100)) (by omega) (Nat.le_succ _) (fun p hp => (hadL15 p hp).symm) (fun p h1 h2 => hwL15 p (by omega))
  have hb153 := RG_mv hb140 (w' := wn15) (M := (q + 100)) (by omega) (Nat.le_succ _) (fun p hp => (hadL15 p hp).symm) (fun p h1 h2 => hwL15 p (by omega))
  have hb154 := FL_mv hb141 (w' := wn15) (M := (q + 100)) (by omega) (Nat.le_succ _) (fun p hp => (hadL15 p hp).symm) (fun p h1 h2 => hwL15 p (by omega))
  have hb155 := UN_mv hb142 (w' := wn15) (M := (q + 100)) (by omega) (Nat.le_succ _) (fun p hp => (hadL15 p hp).symm) (fun p h1 h2 => hwL15 p (by omega))
  have hb156 := RK_mv hb143 (w' := wn15) (M := (q + 100)) (by omega) (Nat.le_succ _) (fun p hp => (hadL15 p hp).symm) (fun p h1 h2 => hwL15 p (by omega))
  have hb157 := SL_mv hb144 (w' := wn15) (M := (q + 100)) (by omega) (Nat.le_succ _) (fun p hp => (hadL15 p hp).symm) (fun p h1 h2 => hwL15 p (by omega))
  have hb158 := CQ_mv hb145 (w' := wn15) (M := (q + 100)) (by omega) (Nat.le_succ _) (fun p hp => (hadL15 p hp).symm) (fun p h1 h2 => hwL15 p (by omega))
  have hb159 := LV_mv hb146 (w' := wn15) (M := (q + 100)) (by omega) (Nat.le_succ _) (fun p hp => (hadL15 p hp).symm) (fun p h1 h2 => hwL15 p (by omega))
  have hP : gP E ad15 (q + 101) wn15 H := hP
  have he160 : wn15 q = .inr (15, [.ref (ad15 (q + 1)), .ref (ad15 (q + 8)), .ref (ad15 (q + 15)), .ref (ad15 (q + 22)), .ref (ad15 (q + 29)), .ref (ad15 (q + 87)), .ref (ad15 (q + 95)), .null, .null, .null, .int 0, .int 0, .int 0, .int 0, .int 0]) := by rw [hwL15 q (by omega), he134, hadL15 (q + 1) (by omega), hadL15 (q + 8) (by omega), hadL15 (q + 15) (by omega), hadL15 (q + 22) (by omega), hadL15 (q + 29) (by omega), hadL15 (q + 87) (by omega), hadL15 (q + 95) (by omega)]
  have hA161 : ∀ p, p < q + 1 → ad15 p = ad p := fun p hp => (hadL15 p (by omega)).trans (hA131 p hp)
  have hW162 : ∀ p, p < q → wn15 p = w p := fun p hp => (hwL15 p (by omega)).trans (hW147 p hp)
  refine lv_dup hx hb dX12_init_85 rfl ?_
  refine g_uafv (g_runIN S hI hP hS (k := 0) (b := q + 100) (As := []) (rest := [.ref (ad15 (q + 100)), .ref (ad15 (q))]) (mX6_init l (q + 100) hwN15) q283 q284 q91 q285 rfl rfl rfl (by decide +kernel) ⟨(Nat.le_of_ble_eq_true rfl), (Nat.le_of_ble_eq_true rfl)⟩ rfl hl.1 rfl (Nat.le_of_ble_eq_true rfl) ⟨(Nat.le_of_ble_eq_true rfl), (Nat.le_of_ble_eq_true rfl)⟩ dX12_init_86) hS (fun ad16 N16 wn16 H locs hq hP hS => ?_)
  obtain ⟨hN16, hadL16, hwL16, hbs16⟩ := hq
  have hN16 : N16 = q + 111 := hN16
  subst hN16
  rw [show ([.ref (ad15 (q + 100)), .ref (ad15 (q))] : List Value) = [.ref (ad16 (q + 100)), .ref (ad16 (q))] by rw [hadL16 (q + 100) (by omega), hadL16 (q) (by omega)]]
  have hl : lv_has ls 1 [(0, .ref (ad16 (q)))] := by rw [hadL16 (q) (by omega)]; exact hl
  have hb163 := SH_mv hb148 (w' := wn16) (N' := q + 111) (M := q + 100) (by omega) (by omega) (fun p hp => (hadL16 p (by omega)).symm) (fun p h1 h2 => hwL16 p (by omega))
  have hb164 := SH_mv hb149 (w' := wn16) (N' := q + 111) (M := q + 100) (by omega) (by omega) (fun p hp => (hadL16 p (by omega)).symm) (fun p h1 h2 => hwL16 p (by omega))
  have hb165 := SH_mv hb150 (w' := wn16) (N' := q + 111) (M := q + 100) (by omega) (by omega) (fun p hp => (hadL16 p (by omega)).symm) (fun p h1 h2 => hwL16 p (by omega))
  have hb166 := SH_mv hb151 (w' := wn16) (N' := q + 111) (M := q + 100) (by omega) (by omega) (fun p hp => (hadL16 p (by omega)).symm) (fun p h1 h2 => hwL16 p (by omega))
  have hb167 := HSP_mv hb152 (w' := wn16) (N' := q + 111) (M := q + 100) (by omega) (by omega) (fun p hp => (hadL16 p (by omega)).symm) (fun p h1 h2 => hwL16 p (by omega))
  have hb168 := RG_mv hb153 (w' := wn16) (N' := q + 111) (M := q + 100) (by omega) (by omega) (fun p hp => (hadL16 p (by omega)).symm) (fun p h1 h2 => hwL16 p (by omega))
  have hb169 := FL_mv hb154 (w' := wn16) (N' := q + 111) (M := q + 100) (by omega) (by omega) (fun p hp => (hadL16 p (by omega)).symm) (fun p h1 h2 => hwL16 p (by omega))
  have hb170 := UN_mv hb155 (w' := wn16) (N' := q + 111) (M := q + 100) (by omega) (by omega) (fun p hp => (hadL16 p (by omega)).symm) (fun p h1 h2 => hwL16 p (by omega))
  have hb171 := RK_mv hb156 (w' := wn16) (N' := q + 111) (M := q + 100) (by omega) (by omega) (fun p hp => (hadL16 p (by omega)).symm) (fun p h1 h2 => hwL16 p (by omega))
  have hb172 := SL_mv hb157 (w' := wn16) (N' := q + 111) (M := q + 100) (by omega) (by omega) (fun p hp => (hadL16 p (by omega)).symm) (fun p h1 h2 => hwL16 p (by omega))
  have hb173 := CQ_mv hb158 (w' := wn16) (N' := q + 111) (M := q + 100) (by omega) (by omega) (fun p hp => (hadL16 p (by omega)).symm) (fun p h1 h2 => hwL16 p (by omega))
  have hb174 := LV_mv hb159 (w' := wn16) (N' := q + 111) (M := q + 100) (by omega) (by omega) (fun p hp => (hadL16 p (by omega)).symm) (fun p h1 h2 => hwL16 p (by omega))
  have he175 : wn16 q = .inr (15, [.ref (ad16 (q + 1)), .ref (ad16 (q + 8)), .ref (ad16 (q + 15)), .ref (ad16 (q + 22)), .ref (ad16 (q + 29)), .ref (ad16 (q + 87)), .ref (ad16 (q + 95)), .null, .null, .null, .int 0, .int 0, .int 0, .int 0, .int 0]) := by rw [hwL16 q (by omega), he160, hadL16 (q + 1) (by omega), hadL16 (q + 8) (by omega), hadL16 (q + 15) (by omega), hadL16 (q + 22) (by omega), hadL16 (q + 29) (by omega), hadL16 (q + 87) (by omega), hadL16 (q + 95) (by omega)]
  have hA176 : ∀ p, p < q + 1 → ad16 p = ad p := fun p hp => (hadL16 p (by omega)).trans (hA161 p hp)
  have hW177 : ∀ p, p < q → wn16 p = w p := fun p hp => (hwL16 p (by omega)).trans (hW162 p hp)
  refine g_putF S hI hP hS hin2 uX12 rfl tyX12 tyX12_ok nmX12 (q0 := q) (fs := [.ref (ad16 (q + 1)), .ref (ad16 (q + 8)), .ref (ad16 (q + 15)), .ref (ad16 (q + 22)), .ref (ad16 (q + 29)), .ref (ad16 (q + 87)), .ref (ad16 (q + 95)), .null, .null, .null, .int 0, .int 0, .int 0, .int 0, .int 0]) (by omega) he175 7 (by decide) q409 rfl rfl rfl (v := .ref (ad16 (q + 100))) rfl rfl (Nat.le_of_ble_eq_true rfl) dX12_init_89 (fun H locs hP hS => ?_)
  have hP : gP E ad16 (q + 111) (va_up wn16 q (.inr (15, [.ref (ad16 (q + 1)), .ref (ad16 (q + 8)), .ref (ad16 (q + 15)), .ref (ad16 (q + 22)), .ref (ad16 (q + 29)), .ref (ad16 (q + 87)), .ref (ad16 (q + 95)), .ref (ad16 (q + 100)), .null, .null, .int 0, .int 0, .int 0, .int 0, .int 0]))) H := hP
  obtain ⟨wv178, hwv178⟩ : ∃ z, z = va_up wn16 q (.inr (15, [.ref (ad16 (q + 1)), .ref (ad16 (q + 8)), .ref (ad16 (q + 15)), .ref (ad16 (q + 22)), .ref (ad16 (q + 29)), .ref (ad16 (q + 87)), .ref (ad16 (q + 95)), .ref (ad16 (q + 100)), .null, .null, .int 0, .int 0, .int 0, .int 0, .int 0]) : va_E) := ⟨_, rfl⟩
  rw [← hwv178] at hP
  have he179 : wv178 q = .inr (15, [.ref (ad16 (q + 1)), .ref (ad16 (q + 8)), .ref (ad16 (q + 15)), .ref (ad16 (q + 22)), .ref (ad16 (q + 29)), .ref (ad16 (q + 87)), .ref (ad16 (q + 95)), .ref (ad16 (q + 100)), .null, .null, .int 0, .int 0, .int 0, .int 0, .int 0]) := by rw [hwv178, va_up_self]
  have hb180 := hb163.keep (p := q) (e := (.inr (15, [.ref (ad16 (q + 1)), .ref (ad16 (q + 8)), .ref (ad16 (q + 15)), .ref (ad16 (q + 22)), .ref (ad16 (q + 29)), .ref (ad16 (q + 87)), .ref (ad16 (q + 95)), .ref (ad16 (q + 100)), .null, .null, .int 0, .int 0, .int 0, .int 0, .int 0]) : va_E)) (by omega)
  rw [← hwv178] at hb180
  have hb181 := hb164.keep (p := q) (e := (.inr (15, [.ref (ad16 (q + 1)), .ref (ad16 (q + 8)), .ref (ad16 (q + 15)), .ref (ad16 (q + 22)), .ref (ad16 (q + 29)), .ref (ad16 (q + 87)), .ref (ad16 (q + 95)), .ref (ad16 (q + 100)), .null, .null, .int 0, .int 0, .int 0, .int 0, .int 0]) : va_E)) (by omega)
  rw [← hwv178] at hb181
  have hb182 := hb165.keep (p := q) (e := (.inr (15, [.ref (ad16 (q + 1)), .ref (ad16 (q + 8)), .ref (ad16 (q + 15)), .ref (ad16 (q + 22)), .ref (ad16 (q + 29)), .ref (ad16 (q + 87)), .ref (ad16 (q + 95)), .ref (ad16 (q + 100)), .null, .null, .int 0, .int 0, .int 0, .int 0, .int 0]) : va_E)) (by omega)
  rw [← hwv178] at hb182
  have hb183 := hb166.keep (p := q) (e := (.inr (15, [.ref (ad16 (q + 1)), .ref (ad16 (q + 8)), .ref (ad16 (q + 15)), .ref (ad16 (q + 22)), .ref (ad16 (q + 29)), .ref (ad16 (q + 87)), .ref (ad16 (q + 95)), .ref (ad16 (q + 100)), .null, .null, .int 0, .int 0, .int 0, .int 0, .int 0]) : va_E)) (by omega)
  rw [← hwv178] at hb183
  have hb184 := hb167.keep (p := q) (e := (.inr (15, [.ref (ad16 (q + 1)), .ref (ad16 (q + 8)), .ref (ad16 (q + 15)), .ref (ad16 (q + 22)), .ref (ad16 (q + 29)), .ref (ad16 (q + 87)), .ref (ad16 (q + 95)), .ref (ad16 (q + 100)), .null, .null, .int 0, .int 0, .int 0, .int 0, .int 0]) : va_E)) (by omega)
  rw [← hwv178] at hb184
  have hb185 := hb168.keep (p := q) (e := (.inr (15, [.ref (ad16 (q + 1)), .ref (ad16 (q + 8)), .ref (ad16 (q + 15)), .ref (ad16 (q + 22)), .ref (ad16 (q + 29)), .ref (ad16 (q + 87)), .ref (ad16 (q + 95)), .ref (ad16 (q + 100)), .null, .null, .int 0, .int 0, .int 0, .int 0, .int 0]) : va_E)) (by omega)
  rw [← hwv178] at hb185
  have hb186 := hb169.keep (p := q) (e := (.inr (15, [.ref (ad16 (q + 1)), .ref (ad16 (q + 8)), .ref (ad16 (q + 15)), .ref (ad16 (q + 22)), .ref (ad16 (q + 29)), .ref (ad16 (q + 87)), .ref (ad16 (q + 95)), .ref (ad16 (q + 100)), .null, .null, .int 0, .int 0, .int 0, .int 0, .int 0]) : va_E)) (by omega)
  rw [← hwv178] at hb186
  have hb187 := hb170.keep (p := q) (e := (.inr (15, [.ref (ad16 (q + 1)), .ref (ad16 (q + 8)), .ref (ad16 (q + 15)), .ref (ad16 (q + 22)), .ref (ad16 (q + 29)), .ref (ad16 (q + 87)), .ref (ad16 (q + 95)), .ref (ad16 (q + 100)), .null, .null, .int 0, .int 0, .int 0, .int 0, .int 0]) : va_E)) (by omega)
  rw [← hwv178] at hb187
  have hb188 := hb171.keep (p := q) (e := (.inr (15, [.ref (ad16 (q + 1)), .ref (ad16 (q + 8)), .ref (ad16 (q + 15)), .ref (ad16 (q + 22)), .ref (ad16 (q + 29)), .ref (ad16 (q + 87)), .ref (ad16 (q + 95)), .ref (ad16 (q + 100)), .null, .null, .int 0, .int 0, .int 0, .int 0, .int 0]) : va_E)) (by omega)
  rw [← hwv178] at hb188
  have hb189 := hb172.keep (p := q) (e := (.inr (15, [.ref (ad16 (q + 1)), .ref (ad16 (q + 8)), .ref (ad16 (q + 15)), .ref (ad16 (q + 22)), .ref (ad16 (q + 29)), .ref (ad16 (q + 87)), .ref (ad16 (q + 95)), .ref (ad16 (q + 100)), .null, .null, .int 0, .int 0, .int 0, .int 0, .int 0]) : va_E)) (by omega)
  rw [← hwv178] at hb189
  have hb190 := hb173.keep (p := q) (e := (.inr (15, [.ref (ad16 (q + 1)), .ref (ad16 (q + 8)), .ref (ad16 (q + 15)), .ref (ad16 (q + 22)), .ref (ad16 (q + 29)), .ref (ad16 (q + 87)), .ref (ad16 (q + 95)), .ref (ad16 (q + 100)), .null, .null, .int 0, .int 0, .int 0, .int 0, .int 0]) : va_E)) (by omega)
  rw [← hwv178] at hb190
  have hb191 := hb174.keep (p := q) (e := (.inr (15, [.ref (ad16 (q + 1)), .ref (ad16 (q + 8)), .ref (ad16 (q + 15)), .ref (ad16 (q + 22)), .ref (ad16 (q + 29)), .ref (ad16 (q + 87)), .ref (ad16 (q + 95)), .ref (ad16 (q + 100)), .null, .null, .int 0, .int 0, .int 0, .int 0, .int 0]) : va_E)) (by omega)
  rw [← hwv178] at hb191
  have hb192 := hbs16.1.keep (p := q) (e := (.inr (15, [.ref (ad16 (q + 1)), .ref (ad16 (q + 8)), .ref (ad16 (q + 15)), .ref (ad16 (q + 22)), .ref (ad16 (q + 29)), .ref (ad16 (q + 87)), .ref (ad16 (q + 95)), .ref (ad16 (q + 100)), .null, .null, .int 0, .int 0, .int 0, .int 0, .int 0]) : va_E)) (by omega)
  rw [← hwv178] at hb192
  have hb193 := hbs16.2.1.keep (p := q) (e := (.inr (15, [.ref (ad16 (q + 1)), .ref (ad16 (q + 8)), .ref (ad16 (q + 15)), .ref (ad16 (q + 22)), .ref (ad16 (q + 29)), .ref (ad16 (q + 87)), .ref (ad16 (q + 95)), .ref (ad16 (q + 100)), .null, .null, .int 0, .int 0, .int 0, .int 0, .int 0]) : va_E)) (by omega)
  rw [← hwv178] at hb193
  have hb194 := hbs16.2.2.1.keep (p := q) (e := (.inr (15, [.ref (ad16 (q + 1)), .ref (ad16 (q + 8)), .ref (ad16 (q + 15)), .ref (ad16 (q + 22)), .ref (ad16 (q + 29)), .ref (ad16 (q + 87)), .ref (ad16 (q + 95)), .ref (ad16 (q + 100)), .null, .null, .int 0, .int 0, .int 0, .int 0, .int 0]) : va_E)) (by omega)
  rw [← hwv178] at hb194
  have hb195 := hbs16.2.2.2.1.keep (p := q) (e := (.inr (15, [.ref (ad16 (q + 1)), .ref (ad16 (q + 8)), .ref (ad16 (q + 15)), .ref (ad16 (q + 22)), .ref (ad16 (q + 29)), .ref (ad16 (q + 87)), .ref (ad16 (q + 95)), .ref (ad16 (q + 100)), .null, .null, .int 0, .int 0, .int 0, .int 0, .int 0]) : va_E)) (by omega)
  rw [← hwv178] at hb195
  have hb196 := hbs16.2.2.2.2.1.keep (p := q) (e := (.inr (15, [.ref (ad16 (q + 1)), .ref (ad16 (q + 8)), .ref (ad16 (q + 15)), .ref (ad16 (q + 22)), .ref (ad16 (q + 29)), .ref (ad16 (q + 87)), .ref (ad16 (q + 95)), .ref (ad16 (q + 100)), .null, .null, .int 0, .int 0, .int 0, .int 0, .int 0]) : va_E)) (by omega)
  rw [← hwv178] at hb196
  have hb197 := hbs16.2.2.2.2.2.keep (p := q) (e := (.inr (15, [.ref (ad16 (q + 1)), .ref (ad16 (q + 8)), .ref (ad16 (q + 15)), .ref (ad16 (q + 22)), .ref (ad16 (q + 29)), .ref (ad16 (q + 87)), .ref (ad16 (q + 95)), .ref (ad16 (q + 100)), .null, .null, .int 0, .int 0, .int 0, .int 0, .int 0]) : va_E)) (by omega)
  rw [← hwv178] at hb197
  have hW198 : ∀ p, p < q → wv178 p = w p := fun p hp => by rw [hwv178, va_up_ne _ _ (by omega)]; exact hW177 p hp
  refine lv_aload_n hx hb dX12_init_92 rfl (lv_at hl 0 rfl) ?_
  refine g_newM S hI hP hS (ci := 13) uX9 rfl tyX9 tyX9_ok q312 q313 q92 (fs := [.null, .null, .int 0, .int 0, .int 0, .int 0, .int 0]) (fun j hj => by match j, hj with | 0, _ => rfl | 1, _ => rfl | 2, _ => rfl | 3, _ => rfl | 4, _ => rfl | 5, _ => rfl | 6, _ => rfl) (Nat.le_of_ble_eq_true rfl) (Nat.le_of_ble_eq_true rfl) dX12_init_93 (fun ad17 wn17 H hP hS hadL17 hwL17 hwN17 => ?_)
  rw [show ([.ref (ad17 (q + 111)), .ref (ad16 (q))] : List Value) = [.ref (ad17 (q + 111)), .ref (ad17 (q))] by rw [hadL17 (q) (by omega)]]
  have hl : lv_has ls 1 [(0, .ref (ad17 (q)))] := by rw [hadL17 (q) (by omega)]; exact hl
  have hb199 := SH_mv hb180 (w' := wn17) (M := (q + 111)) (by omega) (Nat.le_succ _) (fun p hp => (hadL17 p hp).symm) (fun p h1 h2 => hwL17 p (by omega))
  have hb200 := SH_mv hb181 (w' := wn17) (M := (q + 111)) (by omega) (Nat.le_succ _) (fun p hp => (hadL17 p hp).symm) (fun p h1 h2 => hwL17 p (by omega))
  have hb201 := SH_mv hb182 (w' := wn17) (M := (q + 111)) (by omega) (Nat.le_succ _) (fun p hp => (hadL17 p hp).symm) (fun p h1 h2 => hwL17 p (by omega))
  have hb202 := SH_mv hb183 (w' := wn17) (M := (q + 111)) (by omega) (Nat.le_succ _) (fun p hp => (hadL17 p hp).symm) (fun p h1 h2 => hwL17 p (by omega))
  have hb203 := HSP_mv hb184 (w' := wn17) (M := (q + 111)) (by omega) (Nat.le_succ _) (fun p hp => (hadL17 p hp).symm) (fun p h1 h2 => hwL17 p (by omega))
  have hb204 := RG_mv hb185 (w' := wn17) (M := (q + 111)) (by omega) (Nat.le_succ _) (fun p hp => (hadL17 p hp).symm) (fun p h1 h2 => hwL17 p (by omega))
  have hb205 := FL_mv hb186 (w' := wn17) (M := (q + 111)) (by omega) (Nat.le_succ _) (fun p hp => (hadL17 p hp).symm) (fun p h1 h2 => hwL17 p (by omega))
  have hb206 := UN_mv hb187 (w' := wn17) (M := (q + 111)) (by omega) (Nat.le_succ _) (fun p hp => (hadL17 p hp).symm) (fun p h1 h2 => hwL17 p (by omega))
  have hb207 := RK_mv hb188 (w' := wn17) (M := (q + 111)) (by omega) (Nat.le_succ _) (fun p hp => (hadL17 p hp).symm) (fun p h1 h2 => hwL17 p (by omega))
  have hb208 := SL_mv hb189 (w' := wn17) (M := (q + 111)) (by omega) (Nat.le_succ _) (fun p hp => (hadL17 p hp).symm) (fun p h1 h2 => hwL17 p (by omega))
  have hb209 := CQ_mv hb190 (w' := wn17) (M := (q + 111)) (by omega) (Nat.le_succ _) (fun p hp => (hadL17 p hp).symm) (fun p h1 h2 => hwL17 p (by omega))
  have hb210 := LV_mv hb191 (w' := wn17) (M := (q + 111)) (by omega) (Nat.le_succ _) (fun p hp => (hadL17 p hp).symm) (fun p h1 h2 => hwL17 p (by omega))
  have hb211 := RT_mv hb192 (w' := wn17) (M := (q + 111)) (by omega) (Nat.le_succ _) (fun p hp => (hadL17 p hp).symm) (fun p h1 h2 => hwL17 p (by omega))
  have hb212 := CQ_mv hb193 (w' := wn17) (M := (q + 111)) (by omega) (Nat.le_succ _) (fun p hp => (hadL17 p hp).symm) (fun p h1 h2 => hwL17 p (by omega))
  have hb213 := FL_mv hb194 (w' := wn17) (M := (q + 111)) (by omega) (Nat.le_succ _) (fun p hp => (hadL17 p hp).symm) (fun p h1 h2 => hwL17 p (by omega))
  have hb214 := UN_mv hb195 (w' := wn17) (M := (q + 111)) (by omega) (Nat.le_succ _) (fun p hp => (hadL17 p hp).symm) (fun p h1 h2 => hwL17 p (by omega))
  have hb215 := LV_mv hb196 (w' := wn17) (M := (q + 111)) (by omega) (Nat.le_succ _) (fun p hp => (hadL17 p hp).symm) (fun p h1 h2 => hwL17 p (by omega))
  have hb216 := PR_mv hb197 (w' := wn17) (M := (q + 111)) (by omega) (Nat.le_succ _) (fun p hp => (hadL17 p hp).symm) (fun p h1 h2 => hwL17 p (by omega))
  have hP : gP E ad17 (q + 112) wn17 H := hP
  have he217 : wn17 q = .inr (15, [.ref (ad17 (q + 1)), .ref (ad17 (q + 8)), .ref (ad17 (q + 15)), .ref (ad17 (q + 22)), .ref (ad17 (q + 29)), .ref (ad17 (q + 87)), .ref (ad17 (q + 95)), .ref (ad17 (q + 100)), .null, .null, .int 0, .int 0, .int 0, .int 0, .int 0]) := by rw [hwL17 q (by omega), he179, hadL17 (q + 1) (by omega), hadL17 (q + 8) (by omega), hadL17 (q + 15) (by omega), hadL17 (q + 22) (by omega), hadL17 (q + 29) (by omega), hadL17 (q + 87) (by omega), hadL17 (q + 95) (by omega), hadL17 (q + 100) (by omega)]
  have hA218 : ∀ p, p < q + 1 → ad17 p = ad p := fun p hp => (hadL17 p (by omega)).trans (hA176 p hp)
  have hW219 : ∀ p, p < q → wn17 p = w p := fun p hp => (hwL17 p (by omega)).trans (hW198 p hp)
  refine lv_dup hx hb dX12_init_96 rfl ?_
  refine g_uafv (g_runIN S hI hP hS (k := 0) (b := q + 111) (As := []) (rest := [.ref (ad17 (q + 111)), .ref (ad17 (q))]) (mX9_init l kk hzv (q + 111) hwN17) q314 q315 q92 q316 rfl rfl rfl (by decide +kernel) ⟨(Nat.le_of_ble_eq_true rfl), (Nat.le_of_ble_eq_true rfl)⟩ rfl hl.1 rfl (Nat.le_of_ble_eq_true rfl) ⟨(Nat.le_of_ble_eq_true rfl), (Nat.le_of_ble_eq_true rfl)⟩ dX12_init_97) hS (fun ad18 N18 wn18 H locs hq hP hS => ?_)
  obtain ⟨hN18, hadL18, hwL18, hbs18⟩ := hq
  have hN18 : N18 = q + 114 := hN18
  subst hN18
  rw [show ([.ref (ad17 (q + 111)), .ref (ad17 (q))] : List Value) = [.ref (ad18 (q + 111)), .ref (ad18 (q))] by rw [hadL18 (q + 111) (by omega), hadL18 (q) (by omega)]]
  have hl : lv_has ls 1 [(0, .ref (ad18 (q)))] := by rw [hadL18 (q) (by omega)]; exact hl
  have hb220 := SH_mv hb199 (w' := wn18) (N' := q + 114) (M := q + 111) (by omega) (by omega) (fun p hp => (hadL18 p (by omega)).symm) (fun p h1 h2 => hwL18 p (by omega))
  have hb221 := SH_mv hb200 (w' := wn18) (N' := q + 114) (M := q + 111) (by omega) (by omega) (fun p hp => (hadL18 p (by omega)).symm) (fun p h1 h2 => hwL18 p (by omega))
  have hb222 := SH_mv hb201 (w' := wn18) (N' := q + 114) (M := q + 111) (by omega) (by omega) (fun p hp => (hadL18 p (by omega)).symm) (fun p h1 h2 => hwL18 p (by omega))
  have hb223 := SH_mv hb202 (w' := wn18) (N' := q + 114) (M := q + 111) (by omega) (by omega) (fun p hp => (hadL18 p (by omega)).symm) (fun p h1 h2 => hwL18 p (by omega))
  have hb224 := HSP_mv hb203 (w' := wn18) (N' := q + 114) (M := q + 111) (by omega) (by omega) (fun p hp => (hadL18 p (by omega)).symm) (fun p h1 h2 => hwL18 p (by omega))
  have hb225 := RG_mv hb204 (w' := wn18) (N' := q + 114) (M := q + 111) (by omega) (by omega) (fun p hp => (hadL18 p (by omega)).symm) (fun p h1 h2 => hwL18 p (by omega))
  have hb226 := FL_mv hb205 (w' := wn18) (N' := q + 114) (M := q + 111) (by omega) (by omega) (fun p hp => (hadL18 p (by omega)).symm) (fun p h1 h2 => hwL18 p (by omega))
  have hb227 := UN_mv hb206 (w' := wn18) (N' := q + 114) (M := q + 111) (by omega) (by omega) (fun p hp => (hadL18 p (by omega)).symm) (fun p h1 h2 => hwL18 p (by omega))
  have hb228 := RK_mv hb207 (w' := wn18) (N' := q + 114) (M := q + 111) (by omega) (by omega) (fun p hp => (hadL18 p (by omega)).symm) (fun p h1 h2 => hwL18 p (by omega))
  have hb229 := SL_mv hb208 (w' := wn18) (N' := q + 114) (M := q + 111) (by omega) (by omega) (fun p hp => (hadL18 p (by omega)).symm) (fun p h1 h2 => hwL18 p (by omega))
  have hb230 := CQ_mv hb209 (w' := wn18) (N' := q + 114) (M := q + 111) (by omega) (by omega) (fun p hp => (hadL18 p (by omega)).symm) (fun p h1 h2 => hwL18 p (by omega))
  have hb231 := LV_mv hb210 (w' := wn18) (N' := q + 114) (M := q + 111) (by omega) (by omega) (fun p hp => (hadL18 p (by omega)).symm) (fun p h1 h2 => hwL18 p (by omega))
  have hb232 := RT_mv hb211 (w' := wn18) (N' := q + 114) (M := q + 111) (by omega) (by omega) (fun p hp => (hadL18 p (by omega)).symm) (fun p h1 h2 => hwL18 p (by omega))
  have hb233 := CQ_mv hb212 (w' := wn18) (N' := q + 114) (M := q + 111) (by omega) (by omega) (fun p hp => (hadL18 p (by omega)).symm) (fun p h1 h2 => hwL18 p (by omega))
  have hb234 := FL_mv hb213 (w' := wn18) (N' := q + 114) (M := q + 111) (by omega) (by omega) (fun p hp => (hadL18 p (by omega)).symm) (fun p h1 h2 => hwL18 p (by omega))
  have hb235 := UN_mv hb214 (w' := wn18) (N' := q + 114) (M := q + 111) (by omega) (by omega) (fun p hp => (hadL18 p (by omega)).symm) (fun p h1 h2 => hwL18 p (by omega))
  have hb236 := LV_mv hb215 (w' := wn18) (N' := q + 114) (M := q + 111) (by omega) (by omega) (fun p hp => (hadL18 p (by omega)).symm) (fun p h1 h2 => hwL18 p (by omega))
  have hb237 := PR_mv hb216 (w' := wn18) (N' := q + 114) (M := q + 111) (by omega) (by omega) (fun p hp => (hadL18 p (by omega)).symm) (fun p h1 h2 => hwL18 p (by omega))
  have he238 : wn18 q = .inr (15, [.ref (ad18 (q + 1)), .ref (ad18 (q + 8)), .ref (ad18 (q + 15)), .ref (ad18 (q + 22)), .ref (ad18 (q + 29)), .ref (ad18 (q + 87)), .ref (ad18 (q + 95)), .ref (ad18 (q + 100)), .null, .null, .int 0, .int 0, .int 0, .int 0, .int 0]) := by rw [hwL18 q (by omega), he217, hadL18 (q + 1) (by omega), hadL18 (q + 8) (by omega), hadL18 (q + 15) (by omega), hadL18 (q + 22) (by omega), hadL18 (q + 29) (by omega), hadL18 (q + 87) (by omega), hadL18 (q + 95) (by omega), hadL18 (q + 100) (by omega)]
  have hA239 : ∀ p, p < q + 1 → ad18 p = ad p := fun p hp => (hadL18 p (by omega)).trans (hA218 p hp)
  have hW240 : ∀ p, p < q → wn18 p = w p := fun p hp => (hwL18 p (by omega)).trans (hW219 p hp)
  refine g_putF S hI hP hS hin2 uX12 rfl tyX12 tyX12_ok nmX12 (q0 := q) (fs := [.ref (ad18 (q + 1)), .ref (ad18 (q + 8)), .ref (ad18 (q + 15)), .ref (ad18 (q + 22)), .ref (ad18 (q + 29)), .ref (ad18 (q + 87)), .ref (ad18 (q + 95)), .ref (ad18 (q + 100)), .null, .null, .int 0, .int 0, .int 0, .int 0, .int 0]) (by omega) he238 8 (by decide) q410 rfl rfl rfl (v := .ref (ad18 (q + 111))) rfl rfl (Nat.le_of_ble_eq_true rfl) dX12_init_100 (fun H locs hP hS => ?_)
  have hP : gP E ad18 (q + 114) (va_up wn18 q (.inr (15, [.ref (ad18 (q + 1)), .ref (ad18 (q + 8)), .ref (ad18 (q + 15)), .ref (ad18 (q + 22)), .ref (ad18 (q + 29)), .ref (ad18 (q + 87)), .ref (ad18 (q + 95)), .ref (ad18 (q + 100)), .ref (ad18 (q + 111)), .null, .int 0, .int 0, .int 0, .int 0, .int 0]))) H := hP
  obtain ⟨wv241, hwv241⟩ : ∃ z, z = va_up wn18 q (.inr (15, [.ref (ad18 (q + 1)), .ref (ad18 (q + 8)), .ref (ad18 (q + 15)), .ref (ad18 (q + 22)), .ref (ad18 (q + 29)), .ref (ad18 (q + 87)), .ref (ad18 (q + 95)), .ref (ad18 (q + 100)), .ref (ad18 (q + 111)), .null, .int 0, .int 0, .int 0, .int 0, .int 0]) : va_E) := ⟨_, rfl⟩
  rw [← hwv241] at hP
  have he242 : wv241 q = .inr (15, [.ref (ad18 (q + 1)), .ref (ad18 (q + 8)), .ref (ad18 (q + 15)), .ref (ad18 (q + 22)), .ref (ad18 (q + 29)), .ref (ad18 (q + 87)), .ref (ad18 (q + 95)), .ref (ad18 (q + 100)), .ref (ad18 (q + 111)), .null, .int 0, .int 0, .int 0, .int 0, .int 0]) := by rw [hwv241, va_up_self]
  have hb243 := hb220.keep (p := q) (e := (.inr (15, [.ref (ad18 (q + 1)), .ref (ad18 (q + 8)), .ref (ad18 (q + 15)), .ref (ad18 (q + 22)), .ref (ad18 (q + 29)), .ref (ad18 (q + 87)), .ref (ad18 (q + 95)), .ref (ad18 (q + 100)), .ref (ad18 (q + 111)), .null, .int 0, .int 0, .int 0, .int 0, .int 0]) : va_E)) (by omega)
  rw [← hwv241] at hb243
  have hb244 := hb221.keep (p := q) (e := (.inr (15, [.ref (ad18 (q + 1)), .ref (ad18 (q + 8)), .ref (ad18 (q + 15)), .ref (ad18 (q + 22)), .ref (ad18 (q + 29)), .ref (ad18 (q + 87)), .ref (ad18 (q + 95)), .ref (ad18 (q + 100)), .ref (ad18 (q + 111)), .null, .int 0, .int 0, .int 0, .int 0, .int 0]) : va_E)) (by omega)
  rw [← hwv241] at hb244
  have hb245 := hb222.keep (p := q) (e := (.inr (15, [.ref (ad18 (q + 1)), .ref (ad18 (q + 8)), .ref (ad18 (q + 15)), .ref (ad18 (q + 22)), .ref (ad18 (q + 29)), .ref (ad18 (q + 87)), .ref (ad18 (q + 95)), .ref (ad18 (q + 100)), .ref (ad18 (q + 111)), .null, .int 0, .int 0, .int 0, .int 0, .int 0]) : va_E)) (by omega)
  rw [← hwv241] at hb245
  have hb246 := hb223.keep (p := q) (e := (.inr (15, [.ref (ad18 (q + 1)), .ref (ad18 (q + 8)), .ref (ad18 (q + 15)), .ref (ad18 (q + 22)), .ref (ad18 (q + 29)), .ref (ad18 (q + 87)), .ref (ad18 (q + 95)), .ref (ad18 (q + 100)), .ref (ad18 (q + 111)), .null, .int 0, .int 0, .int 0, .int 0, .int 0]) : va_E)) (by omega)
  rw [← hwv241] at hb246
  have hb247 := hb224.keep (p := q) (e := (.inr (15, [.ref (ad18 (q + 1)), .ref (ad18 (q + 8)), .ref (ad18 (q + 15)), .ref (ad18 (q + 22)), .ref (ad18 (q + 29)), .ref (ad18 (q + 87)), .ref (ad18 (q + 95)), .ref (ad18 (q + 100)), .ref (ad18 (q + 111)), .null, .int 0, .int 0, .int 0, .int 0, .int 0]) : va_E)) (by omega)
  rw [← hwv241] at hb247
  have hb248 := hb225.keep (p := q) (e := (.inr (15, [.ref (ad18 (q + 1)), .ref (ad18 (q + 8)), .ref (ad18 (q + 15)), .ref (ad18 (q + 22)), .ref (ad18 (q + 29)), .ref (ad18 (q + 87)), .ref (ad18 (q + 95)), .ref (ad18 (q + 100)), .ref (ad18 (q + 111)), .null, .int 0, .int 0, .int 0, .int 0, .int 0]) : va_E)) (by omega)
  rw [← hwv241] at hb248
  have hb249 := hb226.keep (p := q) (e := (.inr (15, [.ref (ad18 (q + 1)), .ref (ad18 (q + 8)), .ref (ad18 (q + 15)), .ref (ad18 (q + 22)), .ref (ad18 (q + 29)), .ref (ad18 (q + 87)), .ref (ad18 (q + 95)), .ref (ad18 (q + 100)), .ref (ad18 (q + 111)), .null, .int 0, .int 0, .int 0, .int 0, .int 0]) : va_E)) (by omega)
  rw [← hwv241] at hb249
  have hb250 := hb227.keep (p := q) (e := (.inr (15, [.ref (ad18 (q + 1)), .ref (ad18 (q + 8)), .ref (ad18 (q + 15)), .ref (ad18 (q + 22)), .ref (ad18 (q + 29)), .ref (ad18 (q + 87)), .ref (ad18 (q + 95)), .ref (ad18 (q + 100)), .ref (ad18 (q + 111)), .null, .int 0, .int 0, .int 0, .int 0, .int 0]) : va_E)) (by omega)
  rw [← hwv241] at hb250
  have hb251 := hb228.keep (p := q) (e := (.inr (15, [.ref (ad18 (q + 1)), .ref (ad18 (q + 8)), .ref (ad18 (q + 15)), .ref (ad18 (q + 22)), .ref (ad18 (q + 29)), .ref (ad18 (q + 87)), .ref (ad18 (q + 95)), .ref (ad18 (q + 100)), .ref (ad18 (q + 111)), .null, .int 0, .int 0, .int 0, .int 0, .int 0]) : va_E)) (by omega)
  rw [← hwv241] at hb251
  have hb252 := hb229.keep (p := q) (e := (.inr (15, [.ref (ad18 (q + 1)), .ref (ad18 (q + 8)), .ref (ad18 (q + 15)), .ref (ad18 (q + 22)), .ref (ad18 (q + 29)), .ref (ad18 (q + 87)), .ref (ad18 (q + 95)), .ref (ad18 (q + 100)), .ref (ad18 (q + 111)), .null, .int 0, .int 0, .int 0, .int 0, .int 0]) : va_E)) (by omega)
  rw [← hwv241] at hb252
  have hb253 := hb230.keep (p := q) (e := (.inr (15, [.ref (ad18 (q + 1)), .ref (ad18 (q + 8)), .ref (ad18 (q + 15)), .ref (ad18 (q + 22)), .ref (ad18 (q + 29)), .ref (ad18 (q + 87)), .ref (ad18 (q + 95)), .ref (ad18 (q + 100)), .ref (ad18 (q + 111)), .null, .int 0, .int 0, .int 0, .int 0, .int 0]) : va_E)) (by omega)
  rw [← hwv241] at hb253
  have hb254 := hb231.keep (p := q) (e := (.inr (15, [.ref (ad18 (q + 1)), .ref (ad18 (q + 8)), .ref (ad18 (q + 15)), .ref (ad18 (q + 22)), .ref (ad18 (q + 29)), .ref (ad18 (q + 87)), .ref (ad18 (q + 95)), .ref (ad18 (q + 100)), .ref (ad18 (q + 111)), .null, .int 0, .int 0, .int 0, .int 0, .int 0]) : va_E)) (by omega)
  rw [← hwv241] at hb254
  have hb255 := hb232.keep (p := q) (e := (.inr (15, [.ref (ad18 (q + 1)), .ref (ad18 (q + 8)), .ref (ad18 (q + 15)), .ref (ad18 (q + 22)), .ref (ad18 (q + 29)), .ref (ad18 (q + 87)), .ref (ad18 (q + 95)), .ref (ad18 (q + 100)), .ref (ad18 (q + 111)), .null, .int 0, .int 0, .int 0, .int 0, .int 0]) : va_E)) (by omega)
  rw [← hwv241] at hb255
  have hb256 := hb233.keep (p := q) (e := (.inr (15, [.ref (ad18 (q + 1)), .ref (ad18 (q + 8)), .ref (ad18 (q + 15)), .ref (ad18 (q + 22)), .ref (ad18 (q + 29)), .ref (ad18 (q + 87)), .ref (ad18 (q + 95)), .ref (ad18 (q + 100)), .ref (ad18 (q + 111)), .null, .int 0, .int 0, .int 0, .int 0, .int 0]) : va_E)) (by omega)
  rw [← hwv241] at hb256
  have hb257 := hb234.keep (p := q) (e := (.inr (15, [.ref (ad18 (q + 1)), .ref (ad18 (q + 8)), .ref (ad18 (q + 15)), .ref (ad18 (q + 22)), .ref (ad18 (q + 29)), .ref (ad18 (q + 87)), .ref (ad18 (q + 95)), .ref (ad18 (q + 100)), .ref (ad18 (q + 111)), .null, .int 0, .int 0, .int 0, .int 0, .int 0]) : va_E)) (by omega)
  rw [← hwv241] at hb257
  have hb258 := hb235.keep (p := q) (e := (.inr (15, [.ref (ad18 (q + 1)), .ref (ad18 (q + 8)), .ref (ad18 (q + 15)), .ref (ad18 (q + 22)), .ref (ad18 (q + 29)), .ref (ad18 (q + 87)), .ref (ad18 (q + 95)), .ref (ad18 (q + 100)), .ref (ad18 (q + 111)), .null, .int 0, .int 0, .int 0, .int 0, .int 0]) : va_E)) (by omega)
  rw [← hwv241] at hb258
  have hb259 := hb236.keep (p := q) (e := (.inr (15, [.ref (ad18 (q + 1)), .ref (ad18 (q + 8)), .ref (ad18 (q + 15)), .ref (ad18 (q + 22)), .ref (ad18 (q + 29)), .ref (ad18 (q + 87)), .ref (ad18 (q + 95)), .ref (ad18 (q + 100)), .ref (ad18 (q + 111)), .null, .int 0, .int 0, .int 0, .int 0, .int 0]) : va_E)) (by omega)
  rw [← hwv241] at hb259
  have hb260 := hb237.keep (p := q) (e := (.inr (15, [.ref (ad18 (q + 1)), .ref (ad18 (q + 8)), .ref (ad18 (q + 15)), .ref (ad18 (q + 22)), .ref (ad18 (q + 29)), .ref (ad18 (q + 87)), .ref (ad18 (q + 95)), .ref (ad18 (q + 100)), .ref (ad18 (q + 111)), .null, .int 0, .int 0, .int 0, .int 0, .int 0]) : va_E)) (by omega)
  rw [← hwv241] at hb260
  have hb261 := hbs18.1.keep (p := q) (e := (.inr (15, [.ref (ad18 (q + 1)), .ref (ad18 (q + 8)), .ref (ad18 (q + 15)), .ref (ad18 (q + 22)), .ref (ad18 (q + 29)), .ref (ad18 (q + 87)), .ref (ad18 (q + 95)), .ref (ad18 (q + 100)), .ref (ad18 (q + 111)), .null, .int 0, .int 0, .int 0, .int 0, .int 0]) : va_E)) (by omega)
  rw [← hwv241] at hb261
  have hb262 := hbs18.2.keep (p := q) (e := (.inr (15, [.ref (ad18 (q + 1)), .ref (ad18 (q + 8)), .ref (ad18 (q + 15)), .ref (ad18 (q + 22)), .ref (ad18 (q + 29)), .ref (ad18 (q + 87)), .ref (ad18 (q + 95)), .ref (ad18 (q + 100)), .ref (ad18 (q + 111)), .null, .int 0, .int 0, .int 0, .int 0, .int 0]) : va_E)) (by omega)
  rw [← hwv241] at hb262
  have hW263 : ∀ p, p < q → wv241 p = w p := fun p hp => by rw [hwv241, va_up_ne _ _ (by omega)]; exact hW240 p hp
  refine lv_aload_n hx hb dX12_init_103 rfl (lv_at hl 0 rfl) ?_
  refine g_newM S hI hP hS (ci := 1) uJ4 rfl tyJ4 tyJ4_ok q369 q370 q97 (fs := [.null, .int 0, .int 0, .int 0]) (fun j hj => by match j, hj with | 0, _ => rfl | 1, _ => rfl | 2, _ => rfl | 3, _ => rfl) (Nat.le_of_ble_eq_true rfl) (Nat.le_of_ble_eq_true rfl) dX12_init_104 (fun ad19 wn19 H hP hS hadL19 hwL19 hwN19 => ?_)
  rw [show ([.ref (ad19 (q + 114)), .ref (ad18 (q))] : List Value) = [.ref (ad19 (q + 114)), .ref (ad19 (q))] by rw [hadL19 (q) (by omega)]]
  have hl : lv_has ls 1 [(0, .ref (ad19 (q)))] := by rw [hadL19 (q) (by omega)]; exact hl
  have hb264 := SH_mv hb243 (w' := wn19) (M := (q + 114)) (by omega) (Nat.le_succ _) (fun p hp => (hadL19 p hp).symm) (fun p h1 h2 => hwL19 p (by omega))
  have hb265 := SH_mv hb244 (w' := wn19) (M := (q + 114)) (by omega) (Nat.le_succ _) (fun p hp => (hadL19 p hp).symm) (fun p h1 h2 => hwL19 p (by omega))
  have hb266 := SH_mv hb245 (w' := wn19) (M := (q + 114)) (by omega) (Nat.le_succ _) (fun p hp => (hadL19 p hp).symm) (fun p h1 h2 => hwL19 p (by omega))
  have hb267 := SH_mv hb246 (w' := wn19) (M := (q + 114)) (by omega) (Nat.le_succ _) (fun p hp => (hadL19 p hp).symm) (fun p h1 h2 => hwL19 p (by omega))
  have hb268 := HSP_mv hb247 (w' := wn19) (M := (q + 114)) (by omega) (Nat.le_succ _) (fun p hp => (hadL19 p hp).symm) (fun p h1 h2 => hwL19 p (by omega))
  have hb269 := RG_mv hb248 (w' := wn19) (M := (q + 114)) (by omega) (Nat.le_succ _) (fun p hp => (hadL19 p hp).symm) (fun p h1 h2 => hwL19 p (by omega))
  have hb270 := FL_mv hb249 (w' := wn19) (M := (q + 114)) (by omega) (Nat.le_succ _) (fun p hp => (hadL19 p hp).symm) (fun p h1 h2 => hwL19 p (by omega))
  have hb271 := UN_mv hb250 (w' := wn19) (M := (q + 114)) (by omega) (Nat.le_succ _) (fun p hp => (hadL19 p hp).symm) (fun p h1 h2 => hwL19 p (by omega))
  have hb272 := RK_mv hb251 (w' := wn19) (M := (q + 114)) (by omega) (Nat.le_succ _) (fun p hp => (hadL19 p hp).symm) (fun p h1 h2 => hwL19 p (by omega))
  have hb273 := SL_mv hb252 (w' := wn19) (M := (q + 114)) (by omega) (Nat.le_succ _) (fun p hp => (hadL19 p hp).symm) (fun p h1 h2 => hwL19 p (by omega))
  have hb274 := CQ_mv hb253 (w' := wn19) (M := (q + 114)) (by omega) (Nat.le_succ _) (fun p hp => (hadL19 p hp).symm) (fun p h1 h2 => hwL19 p (by omega))
  have hb275 := LV_mv hb254 (w' := wn19) (M := (q + 114)) (by omega) (Nat.le_succ _) (fun p hp => (hadL19 p hp).symm) (fun p h1 h2 => hwL19 p (by omega))
  have hb276 := RT_mv hb255 (w' := wn19) (M := (q + 114)) (by omega) (Nat.le_succ _) (fun p hp => (hadL19 p hp).symm) (fun p h1 h2 => hwL19 p (by omega))
  have hb277 := CQ_mv hb256 (w' := wn19) (M := (q + 114)) (by omega) (Nat.le_succ _) (fun p hp => (hadL19 p hp).symm) (fun p h1 h2 => hwL19 p (by omega))
  have hb278 := FL_mv hb257 (w' := wn19) (M := (q + 114)) (by omega) (Nat.le_succ _) (fun p hp => (hadL19 p hp).symm) (fun p h1 h2 => hwL19 p (by omega))
  have hb279 := UN_mv hb258 (w' := wn19) (M := (q + 114)) (by omega) (Nat.le_succ _) (fun p hp => (hadL19 p hp).symm) (fun p h1 h2 => hwL19 p (by omega))
  have hb280 := LV_mv hb259 (w' := wn19) (M := (q + 114)) (by omega) (Nat.le_succ _) (fun p hp => (hadL19 p hp).symm) (fun p h1 h2 => hwL19 p (by omega))
  have hb281 := PR_mv hb260 (w' := wn19) (M := (q + 114)) (by omega) (Nat.le_succ _) (fun p hp => (hadL19 p hp).symm) (fun p h1 h2 => hwL19 p (by omega))
  have hb282 := TP_mv hb261 (w' := wn19) (M := (q + 114)) (by omega) (Nat.le_succ _) (fun p hp => (hadL19 p hp).symm) (fun p h1 h2 => hwL19 p (by omega))
  have hb283 := AL_mv hb262 (w' := wn19) (M := (q + 114)) (by omega) (Nat.le_succ _) (fun p hp => (hadL19 p hp).symm) (fun p h1 h2 => hwL19 p (by omega))
  have hP : gP E ad19 (q + 115) wn19 H := hP
  have he284 : wn19 q = .inr (15, [.ref (ad19 (q + 1)), .ref (ad19 (q + 8)), .ref (ad19 (q + 15)), .ref (ad19 (q + 22)), .ref (ad19 (q + 29)), .ref (ad19 (q + 87)), .ref (ad19 (q + 95)), .ref (ad19 (q + 100)), .ref (ad19 (q + 111)), .null, .int 0, .int 0, .int 0, .int 0, .int 0]) := by rw [hwL19 q (by omega), he242, hadL19 (q + 1) (by omega), hadL19 (q + 8) (by omega), hadL19 (q + 15) (by omega), hadL19 (q + 22) (by omega), hadL19 (q + 29) (by omega), hadL19 (q + 87) (by omega), hadL19 (q + 95) (by omega), hadL19 (q + 100) (by omega), hadL19 (q + 111) (by omega)]
  have hA285 : ∀ p, p < q + 1 → ad19 p = ad p := fun p hp => (hadL19 p (by omega)).trans (hA239 p hp)
  have hW286 : ∀ p, p < q → wn19 p = w p := fun p hp => (hwL19 p (by omega)).trans (hW263 p hp)
  refine lv_dup hx hb dX12_init_107 rfl ?_
  refine g_uafv (g_runI S hI hP hS (k := 0) (b := q + 114) (As := []) (rest := [.ref (ad19 (q + 114)), .ref (ad19 (q))]) (mJ4_init_da8c8 l kk hzv (q + 114) hwN19) q371 q372 q97 q373 rfl rfl rfl (by decide +kernel) ⟨(Nat.le_of_ble_eq_true rfl), (Nat.le_of_ble_eq_true rfl)⟩ rfl hl.1 rfl (Nat.le_of_ble_eq_true rfl) ⟨(Nat.le_of_ble_eq_true rfl), (Nat.le_of_ble_eq_true rfl)⟩ dX12_init_108) hS (fun ad20 N20 wn20 H locs hq hP hS => ?_)
  obtain ⟨hN20, hadL20, hwL20, hbs20⟩ := hq
  have hN20 : N20 = q + 116 := hN20
  subst hN20
  rw [show ([.ref (ad19 (q + 114)), .ref (ad19 (q))] : List Value) = [.ref (ad20 (q + 114)), .ref (ad20 (q))] by rw [hadL20 (q + 114) (by omega), hadL20 (q) (by omega)]]
  have hl : lv_has ls 1 [(0, .ref (ad20 (q)))] := by rw [hadL20 (q) (by omega)]; exact hl
  have hb287 := SH_mv hb264 (w' := wn20) (N' := q + 116) (M := q + 114) (by omega) (by omega) (fun p hp => (hadL20 p (by omega)).symm) (fun p h1 h2 => hwL20 p (by omega))
  have hb288 := SH_mv hb265 (w' := wn20) (N' := q + 116) (M := q + 114) (by omega) (by omega) (fun p hp => (hadL20 p (by omega)).symm) (fun p h1 h2 => hwL20 p (by omega))
  have hb289 := SH_mv hb266 (w' := wn20) (N' := q + 116) (M := q + 114) (by omega) (by omega) (fun p hp => (hadL20 p (by omega)).symm) (fun p h1 h2 => hwL20 p (by omega))
  have hb290 := SH_mv hb267 (w' := wn20) (N' := q + 116) (M := q + 114) (by omega) (by omega) (fun p hp => (hadL20 p (by omega)).symm) (fun p h1 h2 => hwL20 p (by omega))
  have hb291 := HSP_mv hb268 (w' := wn20) (N' := q + 116) (M := q + 114) (by omega) (by omega) (fun p hp => (hadL20 p (by omega)).symm) (fun p h1 h2 => hwL20 p (by omega))
  have hb292 := RG_mv hb269 (w' := wn20) (N' := q + 116) (M := q + 114) (by omega) (by omega) (fun p hp => (hadL20 p (by omega)).symm) (fun p h1 h2 => hwL20 p (by omega))
  have hb293 := FL_mv hb270 (w' := wn20) (N' := q + 116) (M := q + 114) (by omega) (by omega) (fun p hp => (hadL20 p (by omega)).symm) (fun p h1 h2 => hwL20 p (by omega))
  have hb294 := UN_mv hb271 (w' := wn20) (N' := q + 116) (M := q + 114) (by omega) (by omega) (fun p hp => (hadL20 p (by omega)).symm) (fun p h1 h2 => hwL20 p (by omega))
  have hb295 := RK_mv hb272 (w' := wn20) (N' := q + 116) (M := q + 114) (by omega) (by omega) (fun p hp => (hadL20 p (by omega)).symm) (fun p h1 h2 => hwL20 p (by omega))
  have hb296 := SL_mv hb273 (w' := wn20) (N' := q + 116) (M := q + 114) (by omega) (by omega) (fun p hp => (hadL20 p (by omega)).symm) (fun p h1 h2 => hwL20 p (by omega))
  have hb297 := CQ_mv hb274 (w' := wn20) (N' := q + 116) (M := q + 114) (by omega) (by omega) (fun p hp => (hadL20 p (by omega)).symm) (fun p h1 h2 => hwL20 p (by omega))
  have hb298 := LV_mv hb275 (w' := wn20) (N' := q + 116) (M := q + 114) (by omega) (by omega) (fun p hp => (hadL20 p (by omega)).symm) (fun p h1 h2 => hwL20 p (by omega))
  have hb299 := RT_mv hb276 (w' := wn20) (N' := q + 116) (M := q + 114) (by omega) (by omega) (fun p hp => (hadL20 p (by omega)).symm) (fun p h1 h2 => hwL20 p (by omega))
  have hb300 := CQ_mv hb277 (w' := wn20) (N' := q + 116) (M := q + 114) (by omega) (by omega) (fun p hp => (hadL20 p (by omega)).symm) (fun p h1 h2 => hwL20 p (by omega))
  have hb301 := FL_mv hb278 (w' := wn20) (N' := q + 116) (M := q + 114) (by omega) (by omega) (fun p hp => (hadL20 p (by omega)).symm) (fun p h1 h2 => hwL20 p (by omega))
  have hb302 := UN_mv hb279 (w' := wn20) (N' := q + 116) (M := q + 114) (by omega) (by omega) (fun p hp => (hadL20 p (by omega)).symm) (fun p h1 h2 => hwL20 p (by omega))
  have hb303 := LV_mv hb280 (w' := wn20) (N' := q + 116) (M := q + 114) (by omega) (by omega) (fun p hp => (hadL20 p (by omega)).symm) (fun p h1 h2 => hwL20 p (by omega))
  have hb304 := PR_mv hb281 (w' := wn20) (N' := q + 116) (M := q + 114) (by omega) (by omega) (fun p hp => (hadL20 p (by omega)).symm) (fun p h1 h2 => hwL20 p (by omega))
  have hb305 := TP_mv hb282 (w' := wn20) (N' := q + 116) (M := q + 114) (by omega) (by omega) (fun p hp => (hadL20 p (by omega)).symm) (fun p h1 h2 => hwL20 p (by omega))
  have hb306 := AL_mv hb283 (w' := wn20) (N' := q + 116) (M := q + 114) (by omega) (by omega) (fun p hp => (hadL20 p (by omega)).symm) (fun p h1 h2 => hwL20 p (by omega))
  have he307 : wn20 q = .inr (15, [.ref (ad20 (q + 1)), .ref (ad20 (q + 8)), .ref (ad20 (q + 15)), .ref (ad20 (q + 22)), .ref (ad20 (q + 29)), .ref (ad20 (q + 87)), .ref (ad20 (q + 95)), .ref (ad20 (q + 100)), .ref (ad20 (q + 111)), .null, .int 0, .int 0, .int 0, .int 0, .int 0]) := by rw [hwL20 q (by omega), he284, hadL20 (q + 1) (by omega), hadL20 (q + 8) (by omega), hadL20 (q + 15) (by omega), hadL20 (q + 22) (by omega), hadL20 (q + 29) (by omega), hadL20 (q + 87) (by omega), hadL20 (q + 95) (by omega), hadL20 (q + 100) (by omega), hadL20 (q + 111) (by omega)]
  have hA308 : ∀ p, p < q + 1 → ad20 p = ad p := fun p hp => (hadL20 p (by omega)).trans (hA285 p hp)
  have hW309 : ∀ p, p < q → wn20 p = w p := fun p hp => (hwL20 p (by omega)).trans (hW286 p hp)
  refine g_putF S hI hP hS hin2 uX12 rfl tyX12 tyX12_ok nmX12 (q0 := q) (fs := [.ref (ad20 (q + 1)), .ref (ad20 (q + 8)), .ref (ad20 (q + 15)), .ref (ad20 (q + 22)), .ref (ad20 (q + 29)), .ref (ad20 (q + 87)), .ref (ad20 (q + 95)), .ref (ad20 (q + 100)), .ref (ad20 (q + 111)), .null, .int 0, .int 0, .int 0, .int 0, .int 0]) (by omega) he307 9 (by decide) q411 rfl rfl rfl (v := .ref (ad20 (q + 114))) rfl rfl (Nat.le_of_ble_eq_true rfl) dX12_init_111 (fun H locs hP hS => ?_)
  have hP : gP E ad20 (q + 116) (va_up wn20 q (.inr (15, [.ref (ad20 (q + 1)), .ref (ad20 (q + 8)), .ref (ad20 (q + 15)), .ref (ad20 (q + 22)), .ref (ad20 (q + 29)), .ref (ad20 (q + 87)), .ref (ad20 (q + 95)), .ref (ad20 (q + 100)), .ref (ad20 (q + 111)), .ref (ad20 (q + 114)), .int 0, .int 0, .int 0, .int 0, .int 0]))) H := hP
  obtain ⟨wv310, hwv310⟩ : ∃ z, z = va_up wn20 q (.inr (15, [.ref (ad20 (q + 1)), .ref (ad20 (q + 8)), .ref (ad20 (q + 15)), .ref (ad20 (q + 22)), .ref (ad20 (q + 29)), .ref (ad20 (q + 87)), .ref (ad20 (q + 95)), .ref (ad20 (q + 100)), .ref (ad20 (q + 111)), .ref (ad20 (q + 114)), .int 0, .int 0, .int 0, .int 0, .int 0]) : va_E) := ⟨_, rfl⟩
  rw [← hwv310] at hP
  have he311 : wv310 q = .inr (15, [.ref (ad20 (q + 1)), .ref (ad20 (q + 8)), .ref (ad20 (q + 15)), .ref (ad20 (q + 22)), .ref (ad20 (q + 29)), .ref (ad20 (q + 87)), .ref (ad20 (q + 95)), .ref (ad20 (q + 100)), .ref (ad20 (q + 111)), .ref (ad20 (q + 114)), .int 0, .int 0, .int 0, .int 0, .int 0]) := by rw [hwv310, va_up_self]
  have hb312 := hb287.keep (p := q) (e := (.inr (15, [.ref (ad20 (q + 1)), .ref (ad20 (q + 8)), .ref (ad20 (q + 15)), .ref (ad20 (q + 22)), .ref (ad20 (q + 29)), .ref (ad20 (q + 87)), .ref (ad20 (q + 95)), .ref (ad20 (q + 100)), .ref (ad20 (q + 111)), .ref (ad20 (q + 114)), .int 0, .int 0, .int 0, .int 0, .int 0]) : va_E)) (by omega)
  rw [← hwv310] at hb312
  have hb313 := hb288.keep (p := q) (e := (.inr (15, [.ref (ad20 (q + 1)), .ref (ad20 (q + 8)), .ref (ad20 (q + 15)), .ref (ad20 (q + 22)), .ref (ad20 (q + 29)), .ref (ad20 (q + 87)), .ref (ad20 (q + 95)), .ref (ad20 (q + 100)), .ref (ad20 (q + 111)), .ref (ad20 (q + 114)), .int 0, .int 0, .int 0, .int 0, .int 0]) : va_E)) (by omega)
  rw [← hwv310] at hb313
  have hb314 := hb289.keep (p := q) (e := (.inr (15, [.ref (ad20 (q + 1)), .ref (ad20 (q + 8)), .ref (ad20 (q + 15)), .ref (ad20 (q + 22)), .ref (ad20 (q + 29)), .ref (ad20 (q + 87)), .ref (ad20 (q + 95)), .ref (ad20 (q + 100)), .ref (ad20 (q + 111)), .ref (ad20 (q + 114)), .int 0, .int 0, .int 0, .int 0, .int 0]) : va_E)) (by omega)
  rw [← hwv310] at hb314
  have hb315 := hb290.keep (p := q) (e := (.inr (15, [.ref (ad20 (q + 1)), .ref (ad20 (q + 8)), .ref (ad20 (q + 15)), .ref (ad20 (q + 22)), .ref (ad20 (q + 29)), .ref (ad20 (q + 87)), .ref (ad20 (q + 95)), .ref (ad20 (q + 100)), .ref (ad20 (q + 111)), .ref (ad20 (q + 114)), .int 0, .int 0, .int 0, .int 0, .int 0]) : va_E)) (by omega)
  rw [← hwv310] at hb315
  have hb316 := hb291.keep (p := q) (e := (.inr (15, [.ref (ad20 (q + 1)), .ref (ad20 (q + 8)), .ref (ad20 (q + 15)), .ref (ad20 (q + 22)), .ref (ad20 (q + 29)), .ref (ad20 (q + 87)), .ref (ad20 (q + 95)), .ref (ad20 (q + 100)), .ref (ad20 (q + 111)), .ref (ad20 (q + 114)), .int 0, .int 0, .int 0, .int 0, .int 0]) : va_E)) (by omega)
  rw [← hwv310] at hb316
  have hb317 := hb292.keep (p := q) (e := (.inr (15, [.ref (ad20 (q + 1)), .ref (ad20 (q + 8)), .ref (ad20 (q + 15)), .ref (ad20 (q + 22)), .ref (ad20 (q + 29)), .ref (ad20 (q + 87)), .ref (ad20 (q + 95)), .ref (ad20 (q + 100)), .ref (ad20 (q + 111)), .ref (ad20 (q + 114)), .int 0, .int 0, .int 0, .int 0, .int 0]) : va_E)) (by omega)
  rw [← hwv310] at hb317
  have hb318 := hb293.keep (p := q) (e := (.inr (15, [.ref (ad20 (q + 1)), .ref (ad20 (q + 8)), .ref (ad20 (q + 15)), .ref (ad20 (q + 22)), .ref (ad20 (q + 29)), .ref (ad20 (q + 87)), .ref (ad20 (q + 95)), .ref (ad20 (q + 100)), .ref (ad20 (q + 111)), .ref (ad20 (q + 114)), .int 0, .int 0, .int 0, .int 0, .int 0]) : va_E)) (by omega)
  rw [← hwv310] at hb318
  have hb319 := hb294.keep (p := q) (e := (.inr (15, [.ref (ad20 (q + 1)), .ref (ad20 (q + 8)), .ref (ad20 (q + 15)), .ref (ad20 (q + 22)), .ref (ad20 (q + 29)), .ref (ad20 (q + 87)), .ref (ad20 (q + 95)), .ref (ad20 (q + 100)), .ref (ad20 (q + 111)), .ref (ad20 (q + 114)), .int 0, .int 0, .int 0, .int 0, .int 0]) : va_E)) (by omega)
  rw [← hwv310] at hb319
  have hb320 := hb295.keep (p := q) (e := (.inr (15, [.ref (ad20 (q + 1)), .ref (ad20 (q + 8)), .ref (ad20 (q + 15)), .ref (ad20 (q + 22)), .ref (ad20 (q + 29)), .ref (ad20 (q + 87)), .ref (ad20 (q + 95)), .ref (ad20 (q + 100)), .ref (ad20 (q + 111)), .ref (ad20 (q + 114)), .int 0, .int 0, .int 0, .int 0, .int 0]) : va_E)) (by omega)
  rw [← hwv310] at hb320
  have hb321 := hb296.keep (p := q) (e := (.inr (15, [.ref (ad20 (q + 1)), .ref (ad20 (q + 8)), .ref (ad20 (q + 15)), .ref (ad20 (q + 22)), .ref (ad20 (q + 29)), .ref (ad20 (q + 87)), .ref (ad20 (q + 95)), .ref (ad20 (q + 100)), .ref (ad20 (q + 111)), .ref (ad20 (q + 114)), .int 0, .int 0, .int 0, .int 0, .int 0]) : va_E)) (by omega)
  rw [← hwv310] at hb321
  have hb322 := hb297.keep (p := q) (e := (.inr (15, [.ref (ad20 (q + 1)), .ref (ad20 (q + 8)), .ref (ad20 (q + 15)), .ref (ad20 (q + 22)), .ref (ad20 (q + 29)), .ref (ad20 (q + 87)), .ref (ad20 (q + 95)), .ref (ad20 (q + 100)), .ref (ad20 (q + 111)), .ref (ad20 (q + 114)), .int 0, .int 0, .int 0, .int 0, .int 0]) : va_E)) (by omega)
  rw [← hwv310] at hb322
  have hb323 := hb298.keep (p := q) (e := (.inr (15, [.ref (ad20 (q + 1)), .ref (ad20 (q + 8)), .ref (ad20 (q + 15)), .ref (ad20 (q + 22)), .ref (ad20 (q + 29)), .ref (ad20 (q + 87)), .ref (ad20 (q + 95)), .ref (ad20 (q + 100)), .ref (ad20 (q + 111)), .ref (ad20 (q + 114)), .int 0, .int 0, .int 0, .int 0, .int 0]) : va_E)) (by omega)
  rw [← hwv310] at hb323
  have hb324 := hb299.keep (p := q) (e := (.inr (15, [.ref (ad20 (q + 1)), .ref (ad20 (q + 8)), .ref (ad20 (q + 15)), .ref (ad20 (q + 22)), .ref (ad20 (q + 29)), .ref (ad20 (q + 87)), .ref (ad20 (q + 95)), .ref (ad20 (q + 100)), .ref (ad20 (q + 111)), .ref (ad20 (q + 114)), .int 0, .int 0, .int 0, .int 0, .int 0]) : va_E)) (by omega)
  rw [← hwv310] at hb324
  have hb325 := hb300.keep (p := q) (e := (.inr (15, [.ref (ad20 (q + 1)), .ref (ad20 (q + 8)), .ref (ad20 (q + 15)), .ref (ad20 (q + 22)), .ref (ad20 (q + 29)), .ref (ad20 (q + 87)), .ref (ad20 (q + 95)), .ref (ad20 (q + 100)), .ref (ad20 (q + 111)), .ref (ad20 (q + 114)), .int 0, .int 0, .int 0, .int 0, .int 0]) : va_E)) (by omega)
  rw [← hwv310] at hb325
  have hb326 := hb301.keep (p := q) (e := (.inr (15, [.ref (ad20 (q + 1)), .ref (ad20 (q + 8)), .ref (ad20 (q + 15)), .ref (ad20 (q + 22)), .ref (ad20 (q + 29)), .ref (ad20 (q + 87)), .ref (ad20 (q + 95)), .ref (ad20 (q + 100)), .ref (ad20 (q + 111)), .ref (ad20 (q + 114)), .int 0, .int 0, .int 0, .int 0, .int 0]) : va_E)) (by omega)
  rw [← hwv310] at hb326
  have hb327 := hb302.keep (p := q) (e := (.inr (15, [.ref (ad20 (q + 1)), .ref (ad20 (q + 8)), .ref (ad20 (q + 15)), .ref (ad20 (q + 22)), .ref (ad20 (q + 29)), .ref (ad20 (q + 87)), .ref (ad20 (q + 95)), .ref (ad20 (q + 100)), .ref (ad20 (q + 111)), .ref (ad20 (q + 114)), .int 0, .int 0, .int 0, .int 0, .int 0]) : va_E)) (by omega)
  rw [← hwv310] at hb327
  have hb328 := hb303.keep (p := q) (e := (.inr (15, [.ref (ad20 (q + 1)), .ref (ad20 (q + 8)), .ref (ad20 (q + 15)), .ref (ad20 (q + 22)), .ref (ad20 (q + 29)), .ref (ad20 (q + 87)), .ref (ad20 (q + 95)), .ref (ad20 (q + 100)), .ref (ad20 (q + 111)), .ref (ad20 (q + 114)), .int 0, .int 0, .int 0, .int 0, .int 0]) : va_E)) (by omega)
  rw [← hwv310] at hb328
  have hb329 := hb304.keep (p := q) (e := (.inr (15, [.ref (ad20 (q + 1)), .ref (ad20 (q + 8)), .ref (ad20 (q + 15)), .ref (ad20 (q + 22)), .ref (ad20 (q + 29)), .ref (ad20 (q + 87)), .ref (ad20 (q + 95)), .ref (ad20 (q + 100)), .ref (ad20 (q + 111)), .ref (ad20 (q + 114)), .int 0, .int 0, .int 0, .int 0, .int 0]) : va_E)) (by omega)
  rw [← hwv310] at hb329
  have hb330 := hb305.keep (p := q) (e := (.inr (15, [.ref (ad20 (q + 1)), .ref (ad20 (q + 8)), .ref (ad20 (q + 15)), .ref (ad20 (q + 22)), .ref (ad20 (q + 29)), .ref (ad20 (q + 87)), .ref (ad20 (q + 95)), .ref (ad20 (q + 100)), .ref (ad20 (q + 111)), .ref (ad20 (q + 114)), .int 0, .int 0, .int 0, .int 0, .int 0]) : va_E)) (by omega)
  rw [← hwv310] at hb330
  have hb331 := hb306.keep (p := q) (e := (.inr (15, [.ref (ad20 (q + 1)), .ref (ad20 (q + 8)), .ref (ad20 (q + 15)), .ref (ad20 (q + 22)), .ref (ad20 (q + 29)), .ref (ad20 (q + 87)), .ref (ad20 (q + 95)), .ref (ad20 (q + 100)), .ref (ad20 (q + 111)), .ref (ad20 (q + 114)), .int 0, .int 0, .int 0, .int 0, .int 0]) : va_E)) (by omega)
  rw [← hwv310] at hb331
  have hb332 := hbs20.keep (p := q) (e := (.inr (15, [.ref (ad20 (q + 1)), .ref (ad20 (q + 8)), .ref (ad20 (q + 15)), .ref (ad20 (q + 22)), .ref (ad20 (q + 29)), .ref (ad20 (q + 87)), .ref (ad20 (q + 95)), .ref (ad20 (q + 100)), .ref (ad20 (q + 111)), .ref (ad20 (q + 114)), .int 0, .int 0, .int 0, .int 0, .int 0]) : va_E)) (by omega)
  rw [← hwv310] at hb332
  have hW333 : ∀ p, p < q → wv310 p = w p := fun p hp => by rw [hwv310, va_up_ne _ _ (by omega)]; exact hW309 p hp
  refine lv_aload_n hx hb dX12_init_114 rfl (lv_at hl 0 rfl) ?_
  refine lv_iconst (v := -1) hx hb dX12_init_115 (by decide +kernel) ?_
  refine g_put S hI hP hS uX12 rfl tyX12 tyX12_ok nmX12 (q0 := q) (fs := [.ref (ad20 (q + 1)), .ref (ad20 (q + 8)), .ref (ad20 (q + 15)), .ref (ad20 (q + 22)), .ref (ad20 (q + 29)), .ref (ad20 (q + 87)), .ref (ad20 (q + 95)), .ref (ad20 (q + 100)), .ref (ad20 (q + 111)), .ref (ad20 (q + 114)), .int 0, .int 0, .int 0, .int 0, .int 0]) (by omega) he311 11 (by decide) q413 rfl rfl (v := .int (-1)) rfl rfl (Nat.le_of_ble_eq_true rfl) dX12_init_116 (fun H locs hP hS => ?_)
  have hP : gP E ad20 (q + 116) (va_up wv310 q (.inr (15, [.ref (ad20 (q + 1)), .ref (ad20 (q + 8)), .ref (ad20 (q + 15)), .ref (ad20 (q + 22)), .ref (ad20 (q + 29)), .ref (ad20 (q + 87)), .ref (ad20 (q + 95)), .ref (ad20 (q + 100)), .ref (ad20 (q + 111)), .ref (ad20 (q + 114)), .int 0, .int (-1), .int 0, .int 0, .int 0]))) H := hP
  obtain ⟨wv334, hwv334⟩ : ∃ z, z = va_up wv310 q (.inr (15, [.ref (ad20 (q + 1)), .ref (ad20 (q + 8)), .ref (ad20 (q + 15)), .ref (ad20 (q + 22)), .ref (ad20 (q + 29)), .ref (ad20 (q + 87)), .ref (ad20 (q + 95)), .ref (ad20 (q + 100)), .ref (ad20 (q + 111)), .ref (ad20 (q + 114)), .int 0, .int (-1), .int 0, .int 0, .int 0]) : va_E) := ⟨_, rfl⟩
  rw [← hwv334] at hP
  have he335 : wv334 q = .inr (15, [.ref (ad20 (q + 1)), .ref (ad20 (q + 8)), .ref (ad20 (q + 15)), .ref (ad20 (q + 22)), .ref (ad20 (q + 29)), .ref (ad20 (q + 87)), .ref (ad20 (q + 95)), .ref (ad20 (q + 100)), .ref (ad20 (q + 111)), .ref (ad20 (q + 114)), .int 0, .int (-1), .int 0, .int 0, .int 0]) := by rw [hwv334, va_up_self]
  have hb336 := hb312.keep (p := q) (e := (.inr (15, [.ref (ad20 (q + 1)), .ref (ad20 (q + 8)), .ref (ad20 (q + 15)), .ref (ad20 (q + 22)), .ref (ad20 (q + 29)), .ref (ad20 (q + 87)), .ref (ad20 (q + 95)), .ref (ad20 (q + 100)), .ref (ad20 (q + 111)), .ref (ad20 (q + 114)), .int 0, .int (-1), .int 0, .int 0, .int 0]) : va_E)) (by omega)
  rw [← hwv334] at hb336
  have hb337 := hb313.keep (p := q) (e := (.inr (15, [.ref (ad20 (q + 1)), .ref (ad20 (q + 8)), .ref (ad20 (q + 15)), .ref (ad20 (q + 22)), .ref (ad20 (q + 29)), .ref (ad20 (q + 87)), .ref (ad20 (q + 95)), .ref (ad20 (q + 100)), .ref (ad20 (q + 111)), .ref (ad20 (q + 114)), .int 0, .int (-1), .int 0, .int 0, .int 0]) : va_E)) (by omega)
  rw [← hwv334] at hb337
  have hb338 := hb314.keep (p := q) (e := (.inr (15, [.ref (ad20 (q + 1)), .ref (ad20 (q + 8)), .ref (ad20 (q + 15)), .ref (ad20 (q + 22)), .ref (ad20 (q + 29)), .ref (ad20 (q + 87)), .ref (ad20 (q + 95)), .ref (ad20 (q + 100)), .ref (ad20 (q + 111)), .ref (ad20 (q + 114)), .int 0, .int (-1), .int 0, .int 0, .int 0]) : va_E)) (by omega)
  rw [← hwv334] at hb338
  have hb339 := hb315.keep (p := q) (e := (.inr (15, [.ref (ad20 (q + 1)), .ref (ad20 (q + 8)), .ref (ad20 (q + 15)), .ref (ad20 (q + 22)), .ref (ad20 (q + 29)), .ref (ad20 (q + 87)), .ref (ad20 (q + 95)), .ref (ad20 (q + 100)), .ref (ad20 (q + 111)), .ref (ad20 (q + 114)), .int 0, .int (-1), .int 0, .int 0, .int 0]) : va_E)) (by omega)
  rw [← hwv334] at hb339
  have hb340 := hb316.keep (p := q) (e := (.inr (15, [.ref (ad20 (q + 1)), .ref (ad20 (q + 8)), .ref (ad20 (q + 15)), .ref (ad20 (q + 22)), .ref (ad20 (q + 29)), .ref (ad20 (q + 87)), .ref (ad20 (q + 95)), .ref (ad20 (q + 100)), .ref (ad20 (q + 111)), .ref (ad20 (q + 114)), .int 0, .int (-1), .int 0, .int 0, .int 0]) : va_E)) (by omega)
  rw [← hwv334] at hb340
  have hb341 := hb317.keep (p := q) (e := (.inr (15, [.ref (ad20 (q + 1)), .ref (ad20 (q + 8)), .ref (ad20 (q + 15)), .ref (ad20 (q + 22)), .ref (ad20 (q + 29)), .ref (ad20 (q + 87)), .ref (ad20 (q + 95)), .ref (ad20 (q + 100)), .ref (ad20 (q + 111)), .ref (ad20 (q + 114)), .int 0, .int (-1), .int 0, .int 0, .int 0]) : va_E)) (by omega)
  rw [← hwv334] at hb341
  have hb342 := hb318.keep (p := q) (e := (.inr (15, [.ref (ad20 (q + 1)), .ref (ad20 (q + 8)), .ref (ad20 (q + 15)), .ref (ad20 (q + 22)), .ref (ad20 (q + 29)), .ref (ad20 (q + 87)), .ref (ad20 (q + 95)), .ref (ad20 (q + 100)), .ref (ad20 (q + 111)), .ref (ad20 (q + 114)), .int 0, .int (-1), .int 0, .int 0, .int 0]) : va_E)) (by omega)
  rw [← hwv334] at hb342
  have hb343 := hb319.keep (p := q) (e := (.inr (15, [.ref (ad20 (q + 1)), .ref (ad20 (q + 8)), .ref (ad20 (q + 15)), .ref (ad20 (q + 22)), .ref (ad20 (q + 29)), .ref (ad20 (q + 87)), .ref (ad20 (q + 95)), .ref (ad20 (q + 100)), .ref (ad20 (q + 111)), .ref (ad20 (q + 114)), .int 0, .int (-1), .int 0, .int 0, .int 0]) : va_E)) (by omega)
  rw [← hwv334] at hb343
  have hb344 := hb320.keep (p := q) (e := (.inr (15, [.ref (ad20 (q + 1)), .ref (ad20 (q + 8)), .ref (ad20 (q + 15)), .ref (ad20 (q + 22)), .ref (ad20 (q + 29)), .ref (ad20 (q + 87)), .ref (ad20 (q + 95)), .ref (ad20 (q + 100)), .ref (ad20 (q + 111)), .ref (ad20 (q + 114)), .int 0, .int (-1), .int 0, .int 0, .int 0]) : va_E)) (by omega)
  rw [← hwv334] at hb344
  have hb345 := hb321.keep (p := q) (e := (.inr (15, [.ref (ad20 (q + 1)), .ref (ad20 (q + 8)), .ref (ad20 (q + 15)), .ref (ad20 (q + 22)), .ref (ad20 (q + 29)), .ref (ad20 (q + 87)), .ref (ad20 (q + 95)), .ref (ad20 (q + 100)), .ref (ad20 (q + 111)), .ref (ad20 (q + 114)), .int 0, .int (-1), .int 0, .int 0, .int 0]) : va_E)) (by omega)
  rw [← hwv334] at hb345
  have hb346 := hb322.keep (p := q) (e := (.inr (15, [.ref (ad20 (q + 1)), .ref (ad20 (q + 8)), .ref (ad20 (q + 15)), .ref (ad20 (q + 22)), .ref (ad20 (q + 29)), .ref (ad20 (q + 87)), .ref (ad20 (q + 95)), .ref (ad20 (q + 100)), .ref (ad20 (q + 111)), .ref (ad20 (q + 114)), .int 0, .int (-1), .int 0, .int 0, .int 0]) : va_E)) (by omega)
  rw [← hwv334] at hb346
  have hb347 := hb323.keep (p := q) (e := (.inr (15, [.ref (ad20 (q + 1)), .ref (ad20 (q + 8)), .ref (ad20 (q + 15)), .ref (ad20 (q + 22)), .ref (ad20 (q + 29)), .ref (ad20 (q + 87)), .ref (ad20 (q + 95)), .ref (ad20 (q + 100)), .ref (ad20 (q + 111)), .ref (ad20 (q + 114)), .int 0, .int (-1), .int 0, .int 0, .int 0]) : va_E)) (by omega)
  rw [← hwv334] at hb347
  have hb348 := hb324.keep (p := q) (e := (.inr (15, [.ref (ad20 (q + 1)), .ref (ad20 (q + 8)), .ref (ad20 (q + 15)), .ref (ad20 (q + 22)), .ref (ad20 (q + 29)), .ref (ad20 (q + 87)), .ref (ad20 (q + 95)), .ref (ad20 (q + 100)), .ref (ad20 (q + 111)), .ref (ad20 (q + 114)), .int 0, .int (-1), .int 0, .int 0, .int 0]) : va_E)) (by omega)
  rw [← hwv334] at hb348
  have hb349 := hb325.keep (p := q) (e := (.inr (15, [.ref (ad20 (q + 1)), .ref (ad20 (q + 8)), .ref (ad20 (q + 15)), .ref (ad20 (q + 22)), .ref (ad20 (q + 29)), .ref (ad20 (q + 87)), .ref (ad20 (q + 95)), .ref (ad20 (q + 100)), .ref (ad20 (q + 111)), .ref (ad20 (q + 114)), .int 0, .int (-1), .int 0, .int 0, .int 0]) : va_E)) (by omega)
  rw [← hwv334] at hb349
  have hb350 := hb326.keep (p := q) (e := (.inr (15, [.ref (ad20 (q + 1)), .ref (ad20 (q + 8)), .ref (ad20 (q + 15)), .ref (ad20 (q + 22)), .ref (ad20 (q + 29)), .ref (ad20 (q + 87)), .ref (ad20 (q + 95)), .ref (ad20 (q + 100)), .ref (ad20 (q + 111)), .ref (ad20 (q + 114)), .int 0, .int (-1), .int 0, .int 0, .int 0]) : va_E)) (by omega)
  rw [← hwv334] at hb350
  have hb351 := hb327.keep (p := q) (e := (.inr (15, [.ref (ad20 (q + 1)), .ref (ad20 (q + 8)), .ref (ad20 (q + 15)), .ref (ad20 (q + 22)), .ref (ad20 (q + 29)), .ref (ad20 (q + 87)), .ref (ad20 (q + 95)), .ref (ad20 (q + 100)), .ref (ad20 (q + 111)), .ref (ad20 (q + 114)), .int 0, .int (-1), .int 0, .int 0, .int 0]) : va_E)) (by omega)
  rw [← hwv334] at hb351
  have hb352 := hb328.keep (p := q) (e := (.inr (15, [.ref (ad20 (q + 1)), .ref (ad20 (q + 8)), .ref (ad20 (q + 15)), .ref (ad20 (q + 22)), .ref (ad20 (q + 29)), .ref (ad20 (q + 87)), .ref (ad20 (q + 95)), .ref (ad20 (q + 100)), .ref (ad20 (q + 111)), .ref (ad20 (q + 114)), .int 0, .int (-1), .int 0, .int 0, .int 0]) : va_E)) (by omega)
  rw [← hwv334] at hb352
  have hb353 := hb329.keep (p := q) (e := (.inr (15, [.ref (ad20 (q + 1)), .ref (ad20 (q + 8)), .ref (ad20 (q + 15)), .ref (ad20 (q + 22)), .ref (ad20 (q + 29)), .ref (ad20 (q + 87)), .ref (ad20 (q + 95)), .ref (ad20 (q + 100)), .ref (ad20 (q + 111)), .ref (ad20 (q + 114)), .int 0, .int (-1), .int 0, .int 0, .int 0]) : va_E)) (by omega)
  rw [← hwv334] at hb353
  have hb354 := hb330.keep (p := q) (e := (.inr (15, [.ref (ad20 (q + 1)), .ref (ad20 (q + 8)), .ref (ad20 (q + 15)), .ref (ad20 (q + 22)), .ref (ad20 (q + 29)), .ref (ad20 (q + 87)), .ref (ad20 (q + 95)), .ref (ad20 (q + 100)), .ref (ad20 (q + 111)), .ref (ad20 (q + 114)), .int 0, .int (-1), .int 0, .int 0, .int 0]) : va_E)) (by omega)
  rw [← hwv334] at hb354
  have hb355 := hb331.keep (p := q) (e := (.inr (15, [.ref (ad20 (q + 1)), .ref (ad20 (q + 8)), .ref (ad20 (q + 15)), .ref (ad20 (q + 22)), .ref (ad20 (q + 29)), .ref (ad20 (q + 87)), .ref (ad20 (q + 95)), .ref (ad20 (q + 100)), .ref (ad20 (q + 111)), .ref (ad20 (q + 114)), .int 0, .int (-1), .int 0, .int 0, .int 0]) : va_E)) (by omega)
  rw [← hwv334] at hb355
  have hb356 := hb332.keep (p := q) (e := (.inr (15, [.ref (ad20 (q + 1)), .ref (ad20 (q + 8)), .ref (ad20 (q + 15)), .ref (ad20 (q + 22)), .ref (ad20 (q + 29)), .ref (ad20 (q + 87)), .ref (ad20 (q + 95)), .ref (ad20 (q + 100)), .ref (ad20 (q + 111)), .ref (ad20 (q + 114)), .int 0, .int (-1), .int 0, .int 0, .int 0]) : va_E)) (by omega)
  rw [← hwv334] at hb356
  have hW357 : ∀ p, p < q → wv334 p = w p := fun p hp => by rw [hwv334, va_up_ne _ _ (by omega)]; exact hW333 p hp
  refine lv_aload_n hx hb dX12_init_119 rfl (lv_at hl 0 rfl) ?_
  refine lv_iconst (v := -1) hx hb dX12_init_120 (by decide +kernel) ?_
  refine g_put S hI hP hS uX12 rfl tyX12 tyX12_ok nmX12 (q0 := q) (fs := [.ref (ad20 (q + 1)), .ref (ad20 (q + 8)), .ref (ad20 (q + 15)), .ref (ad20 (q + 22)), .ref (ad20 (q + 29)), .ref (ad20 (q + 87)), .ref (ad20 (q + 95)), .ref (ad20 (q + 100)), .ref (ad20 (q + 111)), .ref (ad20 (q + 114)), .int 0, .int (-1), .int 0, .int 0, .int 0]) (by omega) he335 12 (by decide) q414 rfl rfl (v := .int (-1)) rfl rfl (Nat.le_of_ble_eq_true rfl) dX12_init_121 (fun H locs hP hS => ?_)
  have hP : gP E ad20 (q + 116) (va_up wv334 q (.inr (15, [.ref (ad20 (q + 1)), .ref (ad20 (q + 8)), .ref (ad20 (q + 15)), .ref (ad20 (q + 22)), .ref (ad20 (q + 29)), .ref (ad20 (q + 87)), .ref (ad20 (q + 95)), .ref (ad20 (q + 100)), .ref (ad20 (q + 111)), .ref (ad20 (q + 114)), .int 0, .int (-1), .int (-1), .int 0, .int 0]))) H := hP
  obtain ⟨wv358, hwv358⟩ : ∃ z, z = va_up wv334 q (.inr (15, [.ref (ad20 (q + 1)), .ref (ad20 (q + 8)), .ref (ad20 (q + 15)), .ref (ad20 (q + 22)), .ref (ad20 (q + 29)), .ref (ad20 (q + 87)), .ref (ad20 (q + 95)), .ref (ad20 (q + 100)), .ref (ad20 (q + 111)), .ref (ad20 (q + 114)), .int 0, .int (-1), .int (-1), .int 0, .int 0]) : va_E) := ⟨_, rfl⟩
  rw [← hwv358] at hP
  have he359 : wv358 q = .inr (15, [.ref (ad20 (q + 1)), .ref (ad20 (q + 8)), .ref (ad20 (q + 15)), .ref (ad20 (q + 22)), .ref (ad20 (q + 29)), .ref (ad20 (q + 87)), .ref (ad20 (q + 95)), .ref (ad20 (q + 100)), .ref (ad20 (q + 111)), .ref (ad20 (q + 114)), .int 0, .int (-1), .int (-1), .int 0, .int 0]) := by rw [hwv358, va_up_self]
  have hb360 := hb336.keep (p := q) (e := (.inr (15, [.ref (ad20 (q + 1)), .ref (ad20 (q + 8)), .ref (ad20 (q + 15)), .ref (ad20 (q + 22)), .ref (ad20 (q + 29)), .ref (ad20 (q + 87)), .ref (ad20 (q + 95)), .ref (ad20 (q + 100)), .ref (ad20 (q + 111)), .ref (ad20 (q + 114)), .int 0, .int (-1), .int (-1), .int 0, .int 0]) : va_E)) (by omega)
  rw [← hwv358] at hb360
  have hb361 := hb337.keep (p := q) (e := (.inr (15, [.ref (ad20 (q + 1)), .ref (ad20 (q + 8)), .ref (ad20 (q + 15)), .ref (ad20 (q + 22)), .ref (ad20 (q + 29)), .ref (ad20 (q + 87)), .ref (ad20 (q + 95)), .ref (ad20 (q + 100)), .ref (ad20 (q + 111)), .ref (ad20 (q + 114)), .int 0, .int (-1), .int (-1), .int 0, .int 0]) : va_E)) (by omega)
  rw [← hwv358] at hb361
  have hb362 := hb338.keep (p := q) (e := (.inr (15, [.ref (ad20 (q + 1)), .ref (ad20 (q + 8)), .ref (ad20 (q + 15)), .ref (ad20 (q + 22)), .ref (ad20 (q + 29)), .ref (ad20 (q + 87)), .ref (ad20 (q + 95)), .ref (ad20 (q + 100)), .ref (ad20 (q + 111)), .ref (ad20 (q + 114)), .int 0, .int (-1), .int (-1), .int 0, .int 0]) : va_E)) (by omega)
  rw [← hwv358] at hb362
  have hb363 := hb339.keep (p := q) (e := (.inr (15, [.ref (ad20 (q + 1)), .ref (ad20 (q + 8)), .ref (ad20 (q + 15)), .ref (ad20 (q + 22)), .ref (ad20 (q + 29)), .ref (ad20 (q + 87)), .ref (ad20 (q + 95)), .ref (ad20 (q + 100)), .ref (ad20 (q + 111)), .ref (ad20 (q + 114)), .int 0, .int (-1), .int (-1), .int 0, .int 0]) : va_E)) (by omega)
  rw [← hwv358] at hb363
  have hb364 := hb340.keep (p := q) (e := (.inr (15, [.ref (ad20 (q + 1)), .ref (ad20 (q + 8)), .ref (ad20 (q + 15)), .ref (ad20 (q + 22)), .ref (ad20 (q + 29)), .ref (ad20 (q + 87)), .ref (ad20 (q + 95)), .ref (ad20 (q + 100)), .ref (ad20 (q + 111)), .ref (ad20 (q + 114)), .int 0, .int (-1), .int (-1), .int 0, .int 0]) : va_E)) (by omega)
  rw [← hwv358] at hb364
  have hb365 := hb341.keep (p := q) (e := (.inr (15, [.ref (ad20 (q + 1)), .ref (ad20 (q + 8)), .ref (ad20 (q + 15)), .ref (ad20 (q + 22)), .ref (ad20 (q + 29)), .ref (ad20 (q + 87)), .ref (ad20 (q + 95)), .ref (ad20 (q + 100)), .ref (ad20 (q + 111)), .ref (ad20 (q + 114)), .int 0, .int (-1), .int (-1), .int 0, .int 0]) : va_E)) (by omega)
  rw [← hwv358] at hb365
  have hb366 := hb342.keep (p := q) (e := (.inr (15, [.ref (ad20 (q + 1)), .ref (ad20 (q + 8)), .ref (ad20 (q + 15)), .ref (ad20 (q + 22)), .ref (ad20 (q + 29)), .ref (ad20 (q + 87)), .ref (ad20 (q + 95)), .ref (ad20 (q + 100)), .ref (ad20 (q + 111)), .ref (ad20 (q + 114)), .int 0, .int (-1), .int (-1), .int 0, .int 0]) : va_E)) (by omega)
  rw [← hwv358] at hb366
  have hb367 := hb343.keep (p := q) (e := (.inr (15, [.ref (ad20 (q + 1)), .ref (ad20 (q + 8)), .ref (ad20 (q + 15)), .ref (ad20 (q + 22)), .ref (ad20 (q + 29)), .ref (ad20 (q + 87)), .ref (ad20 (q + 95)), .ref (ad20 (q + 100)), .ref (ad20 (q + 111)), .ref (ad20 (q + 114)), .int 0, .int (-1), .int (-1), .int 0, .int 0]) : va_E)) (by omega)
  rw [← hwv358] at hb367
  have hb368 := hb344.keep (p := q) (e := (.inr (15, [.ref (ad20 (q + 1)), .ref (ad20 (q + 8)), .ref (ad20 (q + 15)), .ref (ad20 (q + 22)), .ref (ad20 (q + 29)), .ref (ad20 (q + 87)), .ref (ad20 (q + 95)), .ref (ad20 (q + 100)), .ref (ad20 (q + 111)), .ref (ad20 (q + 114)), .int 0, .int (-1), .int (-1), .int 0, .int 0]) : va_E)) (by omega)
  rw [← hwv358] at hb368
  have hb369 := hb345.keep (p := q) (e := (.inr (15, [.ref (ad20 (q + 1)), .ref (ad20 (q + 8)), .ref (ad20 (q + 15)), .ref (ad20 (q + 22)), .ref (ad20 (q + 29)), .ref (ad20 (q + 87)), .ref (ad20 (q + 95)), .ref (ad20 (q + 100)), .ref (ad20 (q + 111)), .ref (ad20 (q + 114)), .int 0, .int (-1), .int (-1), .int 0, .int 0]) : va_E)) (by omega)
  rw [← hwv358] at hb369
  have hb370 := hb346.keep (p := q) (e := (.inr (15, [.ref (ad20 (q + 1)), .ref (ad20 (q + 8)), .ref (ad20 (q + 15)), .ref (ad20 (q + 22)), .ref (ad20 (q + 29)), .ref (ad20 (q + 87)), .ref (ad20 (q + 95)), .ref (ad20 (q + 100)), .ref (ad20 (q + 111)), .ref (ad20 (q + 114)), .int 0, .int (-1), .int (-1), .int 0, .int 0]) : va_E)) (by omega)
  rw [← hwv358] at hb370
  have hb371 := hb347.keep (p := q) (e := (.inr (15, [.ref (ad20 (q + 1)), .ref (ad20 (q + 8)), .ref (ad20 (q + 15)), .ref (ad20 (q + 22)), .ref (ad20 (q + 29)), .ref (ad20 (q + 87)), .ref (ad20 (q + 95)), .ref (ad20 (q + 100)), .ref (ad20 (q + 111)), .ref (ad20 (q + 114)), .int 0, .int (-1), .int (-1), .int 0, .int 0]) : va_E)) (by omega)
  rw [← hwv358] at hb371
  have hb372 := hb348.keep (p := q) (e := (.inr (15, [.ref (ad20 (q + 1)), .ref (ad20 (q + 8)), .ref (ad20 (q + 15)), .ref (ad20 (q + 22)), .ref (ad20 (q + 29)), .ref (ad20 (q + 87)), .ref (ad20 (q + 95)), .ref (ad20 (q + 100)), .ref (ad20 (q + 111)), .ref (ad20 (q + 114)), .int 0, .int (-1), .int (-1), .int 0, .int 0]) : va_E)) (by omega)
  rw [← hwv358] at hb372
  have hb373 := hb349.keep (p := q) (e := (.inr (15, [.ref (ad20 (q + 1)), .ref (ad20 (q + 8)), .ref (ad20 (q + 15)), .ref (ad20 (q + 22)), .ref (ad20 (q + 29)), .ref (ad20 (q + 87)), .ref (ad20 (q + 95)), .ref (ad20 (q + 100)), .ref (ad20 (q + 111)), .ref (ad20 (q + 114)), .int 0, .int (-1), .int (-1), .int 0, .int 0]) : va_E)) (by omega)
  rw [← hwv358] at hb373
  have hb374 := hb350.keep (p := q) (e := (.inr (15, [.ref (ad20 (q + 1)), .ref (ad20 (q + 8)), .ref (ad20 (q + 15)), .ref (ad20 (q + 22)), .ref (ad20 (q + 29)), .ref (ad20 (q + 87)), .ref (ad20 (q + 95)), .ref (ad20 (q + 100)), .ref (ad20 (q + 111)), .ref (ad20 (q + 114)), .int 0, .int (-1), .int (-1), .int 0, .int 0]) : va_E)) (by omega)
  rw [← hwv358] at hb374
  have hb375 := hb351.keep (p := q) (e := (.inr (15, [.ref (ad20 (q + 1)), .ref (ad20 (q + 8)), .ref (ad20 (q + 15)), .ref (ad20 (q + 22)), .ref (ad20 (q + 29)), .ref (ad20 (q + 87)), .ref (ad20 (q + 95)), .ref (ad20 (q + 100)), .ref (ad20 (q + 111)), .ref (ad20 (q + 114)), .int 0, .int (-1), .int (-1), .int 0, .int 0]) : va_E)) (by omega)
  rw [← hwv358] at hb375
  have hb376 := hb352.keep (p := q) (e := (.inr (15, [.ref (ad20 (q + 1)), .ref (ad20 (q + 8)), .ref (ad20 (q + 15)), .ref (ad20 (q + 22)), .ref (ad20 (q + 29)), .ref (ad20 (q + 87)), .ref (ad20 (q + 95)), .ref (ad20 (q + 100)), .ref (ad20 (q + 111)), .ref (ad20 (q + 114)), .int 0, .int (-1), .int (-1), .int 0, .int 0]) : va_E)) (by omega)
  rw [← hwv358] at hb376
  have hb377 := hb353.keep (p := q) (e := (.inr (15, [.ref (ad20 (q + 1)), .ref (ad20 (q + 8)), .ref (ad20 (q + 15)), .ref (ad20 (q + 22)), .ref (ad20 (q + 29)), .ref (ad20 (q + 87)), .ref (ad20 (q + 95)), .ref (ad20 (q + 100)), .ref (ad20 (q + 111)), .ref (ad20 (q + 114)), .int 0, .int (-1), .int (-1), .int 0, .int 0]) : va_E)) (by omega)
  rw [← hwv358] at hb377
  have hb378 := hb354.keep (p := q) (e := (.inr (15, [.ref (ad20 (q + 1)), .ref (ad20 (q + 8)), .ref (ad20 (q + 15)), .ref (ad20 (q + 22)), .ref (ad20 (q + 29)), .ref (ad20 (q + 87)), .ref (ad20 (q + 95)), .ref (ad20 (q + 100)), .ref (ad20 (q + 111)), .ref (ad20 (q + 114)), .int 0, .int (-1), .int (-1), .int 0, .int 0]) : va_E)) (by omega)
  rw [← hwv358] at hb378
  have hb379 := hb355.keep (p := q) (e := (.inr (15, [.ref (ad20 (q + 1)), .ref (ad20 (q + 8)), .ref (ad20 (q + 15)), .ref (ad20 (q + 22)), .ref (ad20 (q + 29)), .ref (ad20 (q + 87)), .ref (ad20 (q + 95)), .ref (ad20 (q + 100)), .ref (ad20 (q + 111)), .ref (ad20 (q + 114)), .int 0, .int (-1), .int (-1), .int 0, .int 0]) : va_E)) (by omega)
  rw [← hwv358] at hb379
  have hb380 := hb356.keep (p := q) (e := (.inr (15, [.ref (ad20 (q + 1)), .ref (ad20 (q + 8)), .ref (ad20 (q + 15)), .ref (ad20 (q + 22)), .ref (ad20 (q + 29)), .ref (ad20 (q + 87)), .ref (ad20 (q + 95)), .ref (ad20 (q + 100)), .ref (ad20 (q + 111)), .ref (ad20 (q + 114)), .int 0, .int (-1), .int (-1), .int 0, .int 0]) : va_E)) (by omega)
  rw [← hwv358] at hb380
  have hW381 : ∀ p, p < q → wv358 p = w p := fun p hp => by rw [hwv358, va_up_ne _ _ (by omega)]; exact hW357 p hp
  refine lv_aload_n hx hb dX12_init_124 rfl (lv_at hl 0 rfl) ?_
  refine lv_iconst (v := -1) hx hb dX12_init_125 (by decide +kernel) ?_
  refine g_put S hI hP hS uX12 rfl tyX12 tyX12_ok nmX12 (q0 := q) (fs := [.ref (ad20 (q + 1)), .ref (ad20 (q + 8)), .ref (ad20 (q + 15)), .ref (ad20 (q + 22)), .ref (ad20 (q + 29)), .ref (ad20 (q + 87)), .ref (ad20 (q + 95)), .ref (ad20 (q + 100)), .ref (ad20 (q + 111)), .ref (ad20 (q + 114)), .int 0, .int (-1), .int (-1), .int 0, .int 0]) (by omega) he359 13 (by decide) q415 rfl rfl (v := .int (-1)) rfl rfl (Nat.le_of_ble_eq_true rfl) dX12_init_126 (fun H locs hP hS => ?_)
  have hP : gP E ad20 (q + 116) (va_up wv358 q (.inr (15, [.ref (ad20 (q + 1)), .ref (ad20 (q + 8)), .ref (ad20 (q + 15)), .ref (ad20 (q + 22)), .ref (ad20 (q + 29)), .ref (ad20 (q + 87)), .ref (ad20 (q + 95)), .ref (ad20 (q + 100)), .ref (ad20 (q + 111)), .ref (ad20 (q + 114)), .int 0, .int (-1), .int (-1), .int (-1), .int 0]))) H := hP
  obtain ⟨wv382, hwv382⟩ : ∃ z, z = va_up wv358 q (.inr (15, [.ref (ad20 (q + 1)), .ref (ad20 (q + 8)), .ref (ad20 (q + 15)), .ref (ad20 (q + 22)), .ref (ad20 (q + 29)), .ref (ad20 (q + 87)), .ref (ad20 (q + 95)), .ref (ad20 (q + 100)), .ref (ad20 (q + 111)), .ref (ad20 (q + 114)), .int 0, .int (-1), .int (-1), .int (-1), .int 0]) : va_E) := ⟨_, rfl⟩
  rw [← hwv382] at hP
  have he383 : wv382 q = .inr (15, [.ref (ad20 (q + 1)), .ref (ad20 (q + 8)), .ref (ad20 (q + 15)), .ref (ad20 (q + 22)), .ref (ad20 (q + 29)), .ref (ad20 (q + 87)), .ref (ad20 (q + 95)), .ref (ad20 (q + 100)), .ref (ad20 (q + 111)), .ref (ad20 (q + 114)), .int 0, .int (-1), .int (-1), .int (-1), .int 0]) := by rw [hwv382, va_up_self]
  have hb384 := hb360.keep (p := q) (e := (.inr (15, [.ref (ad20 (q + 1)), .ref (ad20 (q + 8)), .ref (ad20 (q + 15)), .ref (ad20 (q + 22)), .ref (ad20 (q + 29)), .ref (ad20 (q + 87)), .ref (ad20 (q + 95)), .ref (ad20 (q + 100)), .ref (ad20 (q + 111)), .ref (ad20 (q + 114)), .int 0, .int (-1), .int (-1), .int (-1), .int 0]) : va_E)) (by omega)
  rw [← hwv382] at hb384
  have hb385 := hb361.keep (p := q) (e := (.inr (15, [.ref (ad20 (q + 1)), .ref (ad20 (q + 8)), .ref (ad20 (q + 15)), .ref (ad20 (q + 22)), .ref (ad20 (q + 29)), .ref (ad20 (q + 87)), .ref (ad20 (q + 95)), .ref (ad20 (q + 100)), .ref (ad20 (q + 111)), .ref (ad20 (q + 114)), .int 0, .int (-1), .int (-1), .int (-1), .int 0]) : va_E)) (by omega)
  rw [← hwv382] at hb385
  have hb386 := hb362.keep (p := q) (e := (.inr (15, [.ref (ad20 (q + 1)), .ref (ad20 (q + 8)), .ref (ad20 (q + 15)), .ref (ad20 (q + 22)), .ref (ad20 (q + 29)), .ref (ad20 (q + 87)), .ref (ad20 (q + 95)), .ref (ad20 (q + 100)), .ref (ad20 (q + 111)), .ref (ad20 (q + 114)), .int 0, .int (-1), .int (-1), .int (-1), .int 0]) : va_E)) (by omega)
  rw [← hwv382] at hb386
  have hb387 := hb363.keep (p := q) (e := (.inr (15, [.ref (ad20 (q + 1)), .ref (ad20 (q + 8)), .ref (ad20 (q + 15)), .ref (ad20 (q + 22)), .ref (ad20 (q + 29)), .ref (ad20 (q + 87)), .ref (ad20 (q + 95)), .ref (ad20 (q + 100)), .ref (ad20 (q + 111)), .ref (ad20 (q + 114)), .int 0, .int (-1), .int (-1), .int (-1), .int 0]) : va_E)) (by omega)
  rw [← hwv382] at hb387
  have hb388 := hb364.keep (p := q) (e := (.inr (15, [.ref (ad20 (q + 1)), .ref (ad20 (q + 8)), .ref (ad20 (q + 15)), .ref (ad20 (q + 22)), .ref (ad20 (q + 29)), .ref (ad20 (q + 87)), .ref (ad20 (q + 95)), .ref (ad20 (q + 100)), .ref (ad20 (q + 111)), .ref (ad20 (q + 114)), .int 0, .int (-1), .int (-1), .int (-1), .int 0]) : va_E)) (by omega)
  rw [← hwv382] at hb388
  have hb389 := hb365.keep (p := q) (e := (.inr (15, [.ref (ad20 (q + 1)), .ref (ad20 (q + 8)), .ref (ad20 (q + 15)), .ref (ad20 (q + 22)), .ref (ad20 (q + 29)), .ref (ad20 (q + 87)), .ref (ad20 (q + 95)), .ref (ad20 (q + 100)), .ref (ad20 (q + 111)), .ref (ad20 (q + 114)), .int 0, .int (-1), .int (-1), .int (-1), .int 0]) : va_E)) (by omega)
  rw [← hwv382] at hb389
  have hb390 := hb366.keep (p := q) (e := (.inr (15, [.ref (ad20 (q + 1)), .ref (ad20 (q + 8)), .ref (ad20 (q + 15)), .ref (ad20 (q + 22)), .ref (ad20 (q + 29)), .ref (ad20 (q + 87)), .ref (ad20 (q + 95)), .ref (ad20 (q + 100)), .ref (ad20 (q + 111)), .ref (ad20 (q + 114)), .int 0, .int (-1), .int (-1), .int (-1), .int 0]) : va_E)) (by omega)
  rw [← hwv382] at hb390
  have hb391 := hb367.keep (p := q) (e := (.inr (15, [.ref (ad20 (q + 1)), .ref (ad20 (q + 8)), .ref (ad20 (q + 15)), .ref (ad20 (q + 22)), .ref (ad20 (q + 29)), .ref (ad20 (q + 87)), .ref (ad20 (q + 95)), .ref (ad20 (q + 100)), .ref (ad20 (q + 111)), .ref (ad20 (q + 114)), .int 0, .int (-1), .int (-1), .int (-1), .int 0]) : va_E)) (by omega)
  rw [← hwv382] at hb391
  have hb392 := hb368.keep (p := q) (e := (.inr (15, [.ref (ad20 (q + 1)), .ref (ad20 (q + 8)), .ref (ad20 (q + 15)), .ref (ad20 (q + 22)), .ref (ad20 (q + 29)), .ref (ad20 (q + 87)), .ref (ad20 (q + 95)), .ref (ad20 (q + 100)), .ref (ad20 (q + 111)), .ref (ad20 (q + 114)), .int 0, .int (-1), .int (-1), .int (-1), .int 0]) : va_E)) (by omega)
  rw [← hwv382] at hb392
  have hb393 := hb369.keep (p := q) (e := (.inr (15, [.ref (ad20 (q + 1)), .ref (ad20 (q + 8)), .ref (ad20 (q + 15)), .ref (ad20 (q + 22)), .ref (ad20 (q + 29)), .ref (ad20 (q + 87)), .ref (ad20 (q + 95)), .ref (ad20 (q + 100)), .ref (ad20 (q + 111)), .ref (ad20 (q + 114)), .int 0, .int (-1), .int (-1), .int (-1), .int 0]) : va_E)) (by omega)
  rw [← hwv382] at hb393
  have hb394 := hb370.keep (p := q) (e := (.inr (15, [.ref (ad20 (q + 1)), .ref (ad20 (q + 8)), .ref (ad20 (q + 15)), .ref (ad20 (q + 22)), .ref (ad20 (q + 29)), .ref (ad20 (q + 87)), .ref (ad20 (q + 95)), .ref (ad20 (q + 100)), .ref (ad20 (q + 111)), .ref (ad20 (q + 114)), .int 0, .int (-1), .int (-1), .int (-1), .int 0]) : va_E)) (by omega)
  rw [← hwv382] at hb394
  have hb395 := hb371.keep (p := q) (e := (.inr (15, [.ref (ad20 (q + 1)), .ref (ad20 (q + 8)), .ref (ad20 (q + 15)), .ref (ad20 (q + 22)), .ref (ad20 (q + 29)), .ref (ad20 (q + 87)), .ref (ad20 (q + 95)), .ref (ad20 (q + 100)), .ref (ad20 (q + 111)), .ref (ad20 (q + 114)), .int 0, .int (-1), .int (-1), .int (-1), .int 0]) : va_E)) (by omega)
  rw [← hwv382] at hb395
  have hb396 := hb372.keep (p := q) (e := (.inr (15, [.ref (ad20 (q + 1)), .ref (ad20 (q + 8)), .ref (ad20 (q + 15)), .ref (ad20 (q + 22)), .ref (ad20 (q + 29)), .ref (ad20 (q + 87)), .ref (ad20 (q + 95)), .ref (ad20 (q + 100)), .ref (ad20 (q + 111)), .ref (ad20 (q + 114)), .int 0, .int (-1), .int (-1), .int (-1), .int 0]) : va_E)) (by omega)
  rw [← hwv382] at hb396
  have hb397 := hb373.keep (p := q) (e := (.inr (15, [.ref (ad20 (q + 1)), .ref (ad20 (q + 8)), .ref (ad20 (q + 15)), .ref (ad20 (q + 22)), .ref (ad20 (q + 29)), .ref (ad20 (q + 87)), .ref (ad20 (q + 95)), .ref (ad20 (q + 100)), .ref (ad20 (q + 111)), .ref (ad20 (q + 114)), .int 0, .int (-1), .int (-1), .int (-1), .int 0]) : va_E)) (by omega)
  rw [← hwv382] at hb397
  have hb398 := hb374.keep (p := q) (e := (.inr (15, [.ref (ad20 (q + 1)), .ref (ad20 (q + 8)), .ref (ad20 (q + 15)), .ref (ad20 (q + 22)), .ref (ad20 (q + 29)), .ref (ad20 (q + 87)), .ref (ad20 (q + 95)), .ref (ad20 (q + 100)), .ref (ad20 (q + 111)), .ref (ad20 (q + 114)), .int 0, .int (-1), .int (-1), .int (-1), .int 0]) : va_E)) (by omega)
  rw [← hwv382] at hb398
  have hb399 := hb375.keep (p := q) (e := (.inr (15, [.ref (ad20 (q + 1)), .ref (ad20 (q + 8)), .ref (ad20 (q + 15)), .ref (ad20 (q + 22)), .ref (ad20 (q + 29)), .ref (ad20 (q + 87)), .ref (ad20 (q + 95)), .ref (ad20 (q + 100)), .ref (ad20 (q + 111)), .ref (ad20 (q + 114)), .int 0, .int (-1), .int (-1), .int (-1), .int 0]) : va_E)) (by omega)
  rw [← hwv382] at hb399
  have hb400 := hb376.keep (p := q) (e := (.inr (15, [.ref (ad20 (q + 1)), .ref (ad20 (q + 8)), .ref (ad20 (q + 15)), .ref (ad20 (q + 22)), .ref (ad20 (q + 29)), .ref (ad20 (q + 87)), .ref (ad20 (q + 95)), .ref (ad20 (q + 100)), .ref (ad20 (q + 111)), .ref (ad20 (q + 114)), .int 0, .int (-1), .int (-1), .int (-1), .int 0]) : va_E)) (by omega)
  rw [← hwv382] at hb400
  have hb401 := hb377.keep (p := q) (e := (.inr (15, [.ref (ad20 (q + 1)), .ref (ad20 (q + 8)), .ref (ad20 (q + 15)), .ref (ad20 (q + 22)), .ref (ad20 (q + 29)), .ref (ad20 (q + 87)), .ref (ad20 (q + 95)), .ref (ad20 (q + 100)), .ref (ad20 (q + 111)), .ref (ad20 (q + 114)), .int 0, .int (-1), .int (-1), .int (-1), .int 0]) : va_E)) (by omega)
  rw [← hwv382] at hb401
  have hb402 := hb378.keep (p := q) (e := (.inr (15, [.ref (ad20 (q + 1)), .ref (ad20 (q + 8)), .ref (ad20 (q + 15)), .ref (ad20 (q + 22)), .ref (ad20 (q + 29)), .ref (ad20 (q + 87)), .ref (ad20 (q + 95)), .ref (ad20 (q + 100)), .ref (ad20 (q + 111)), .ref (ad20 (q + 114)), .int 0, .int (-1), .int (-1), .int (-1), .int 0]) : va_E)) (by omega)
  rw [← hwv382] at hb402
  have hb403 := hb379.keep (p := q) (e := (.inr (15, [.ref (ad20 (q + 1)), .ref (ad20 (q + 8)), .ref (ad20 (q + 15)), .ref (ad20 (q + 22)), .ref (ad20 (q + 29)), .ref (ad20 (q + 87)), .ref (ad20 (q + 95)), .ref (ad20 (q + 100)), .ref (ad20 (q + 111)), .ref (ad20 (q + 114)), .int 0, .int (-1), .int (-1), .int (-1), .int 0]) : va_E)) (by omega)
  rw [← hwv382] at hb403
  have hb404 := hb380.keep (p := q) (e := (.inr (15, [.ref (ad20 (q + 1)), .ref (ad20 (q + 8)), .ref (ad20 (q + 15)), .ref (ad20 (q + 22)), .ref (ad20 (q + 29)), .ref (ad20 (q + 87)), .ref (ad20 (q + 95)), .ref (ad20 (q + 100)), .ref (ad20 (q + 111)), .ref (ad20 (q + 114)), .int 0, .int (-1), .int (-1), .int (-1), .int 0]) : va_E)) (by omega)
  rw [← hwv382] at hb404
  have hW405 : ∀ p, p < q → wv382 p = w p := fun p hp => by rw [hwv382, va_up_ne _ _ (by omega)]; exact hW381 p hp
  refine lv_aload_n hx hb dX12_init_129 rfl (lv_at hl 0 rfl) ?_
  refine lv_iconst (v := -1) hx hb dX12_init_130 (by decide +kernel) ?_
  refine g_put S hI hP hS uX12 rfl tyX12 tyX12_ok nmX12 (q0 := q) (fs := [.ref (ad20 (q + 1)), .ref (ad20 (q + 8)), .ref (ad20 (q + 15)), .ref (ad20 (q + 22)), .ref (ad20 (q + 29)), .ref (ad20 (q + 87)), .ref (ad20 (q + 95)), .ref (ad20 (q + 100)), .ref (ad20 (q + 111)), .ref (ad20 (q + 114)), .int 0, .int (-1), .int (-1), .int (-1), .int 0]) (by omega) he383 14 (by decide) q416 rfl rfl (v := .int (-1)) rfl rfl (Nat.le_of_ble_eq_true rfl) dX12_init_131 (fun H locs hP hS => ?_)
  have hP : gP E ad20 (q + 116) (va_up wv382 q (.inr (15, [.ref (ad20 (q + 1)), .ref (ad20 (q + 8)), .ref (ad20 (q + 15)), .ref (ad20 (q + 22)), .ref (ad20 (q + 29)), .ref (ad20 (q + 87)), .ref (ad20 (q + 95)), .ref (ad20 (q + 100)), .ref (ad20 (q + 111)), .ref (ad20 (q + 114)), .int 0, .int (-1), .int (-1), .int (-1), .int (-1)]))) H := hP
  obtain ⟨wv406, hwv406⟩ : ∃ z, z = va_up wv382 q (.inr (15, [.ref (ad20 (q + 1)), .ref (ad20 (q + 8)), .ref (ad20 (q + 15)), .ref (ad20 (q + 22)), .ref (ad20 (q + 29)), .ref (ad20 (q + 87)), .ref (ad20 (q + 95)), .ref (ad20 (q + 100)), .ref (ad20 (q + 111)), .ref (ad20 (q + 114)), .int 0, .int (-1), .int (-1), .int (-1), .int (-1)]) : va_E) := ⟨_, rfl⟩
  rw [← hwv406] at hP
  have he407 : wv406 q = .inr (15, [.ref (ad20 (q + 1)), .ref (ad20 (q + 8)), .ref (ad20 (q + 15)), .ref (ad20 (q + 22)), .ref (ad20 (q + 29)), .ref (ad20 (q + 87)), .ref (ad20 (q + 95)), .ref (ad20 (q + 100)), .ref (ad20 (q + 111)), .ref (ad20 (q + 114)), .int 0, .int (-1), .int (-1), .int (-1), .int (-1)]) := by rw [hwv406, va_up_self]
  have hb408 := hb384.keep (p := q) (e := (.inr (15, [.ref (ad20 (q + 1)), .ref (ad20 (q + 8)), .ref (ad20 (q + 15)), .ref (ad20 (q + 22)), .ref (ad20 (q + 29)), .ref (ad20 (q + 87)), .ref (ad20 (q + 95)), .ref (ad20 (q + 100)), .ref (ad20 (q + 111)), .ref (ad20 (q + 114)), .int 0, .int (-1), .int (-1), .int (-1), .int (-1)]) : va_E)) (by omega)
  rw [← hwv406] at hb408
  have hb409 := hb385.keep (p := q) (e := (.inr (15, [.ref (ad20 (q + 1)), .ref (ad20 (q + 8)), .ref (ad20 (q + 15)), .ref (ad20 (q + 22)), .ref (ad20 (q + 29)), .ref (ad20 (q + 87)), .ref (ad20 (q + 95)), .ref (ad20 (q + 100)), .ref (ad20 (q + 111)), .ref (ad20 (q + 114)), .int 0, .int (-1), .int (-1), .int (-1), .int (-1)]) : va_E)) (by omega)
  rw [← hwv406] at hb409
  have hb410 := hb386.keep (p := q) (e := (.inr (15, [.ref (ad20 (q + 1)), .ref (ad20 (q + 8)), .ref (ad20 (q + 15)), .ref (ad20 (q + 22)), .ref (ad20 (q + 29)), .ref (ad20 (q + 87)), .ref (ad20 (q + 95)), .ref (ad20 (q + 100)), .ref (ad20 (q + 111)), .ref (ad20 (q + 114)), .int 0, .int (-1), .int (-1), .int (-1), .int (-1)]) : va_E)) (by omega)
  rw [← hwv406] at hb410
  have hb411 := hb387.keep (p := q) (e := (.inr (15, [.ref (ad20 (q + 1)), .ref (ad20 (q + 8)), .ref (ad20 (q + 15)), .ref (ad20 (q + 22)), .ref (ad20 (q + 29)), .ref (ad20 (q + 87)), .ref (ad20 (q + 95)), .ref (ad20 (q + 100)), .ref (ad20 (q + 111)), .ref (ad20 (q + 114)), .int 0, .int (-1), .int (-1), .int (-1), .int (-1)]) : va_E)) (by omega)
  rw [← hwv406] at hb411
  have hb412 := hb388.keep (p := q) (e := (.inr (15, [.ref (ad20 (q + 1)), .ref (ad20 (q + 8)), .ref (ad20 (q + 15)), .ref (ad20 (q + 22)), .ref (ad20 (q + 29)), .ref (ad20 (q + 87)), .ref (ad20 (q + 95)), .ref (ad20 (q + 100)), .ref (ad20 (q + 111)), .ref (ad20 (q + 114)), .int 0, .int (-1), .int (-1), .int (-1), .int (-1)]) : va_E)) (by omega)
  rw [← hwv406] at hb412
  have hb413 := hb389.keep (p := q) (e := (.inr (15, [.ref (ad20 (q + 1)), .ref (ad20 (q + 8)), .ref (ad20 (q + 15)), .ref (ad20 (q + 22)), .ref (ad20 (q + 29)), .ref (ad20 (q + 87)), .ref (ad20 (q + 95)), .ref (ad20 (q + 100)), .ref (ad20 (q + 111)), .ref (ad20 (q + 114)), .int 0, .int (-1), .int (-1), .int (-1), .int (-1)]) : va_E)) (by omega)
  rw [← hwv406] at hb413
  have hb414 := hb390.keep (p := q) (e := (.inr (15, [.ref (ad20 (q + 1)), .ref (ad20 (q + 8)), .ref (ad20 (q + 15)), .ref (ad20 (q + 22)), .ref (ad20 (q + 29)), .ref (ad20 (q + 87)), .ref (ad20 (q + 95)), .ref (ad20 (q + 100)), .ref (ad20 (q + 111)), .ref (ad20 (q + 114)), .int 0, .int (-1), .int (-1), .int (-1), .int (-1)]) : va_E)) (by omega)
  rw [← hwv406] at hb414
  have hb415 := hb391.keep (p := q) (e := (.inr (15, [.ref (ad20 (q + 1)), .ref (ad20 (q + 8)), .ref (ad20 (q + 15)), .ref (ad20 (q + 22)), .ref (ad20 (q + 29)), .ref (ad20 (q + 87)), .ref (ad20 (q + 95)), .ref (ad20 (q + 100)), .ref (ad20 (q + 111)), .ref (ad20 (q + 114)), .int 0, .int (-1), .int (-1), .int (-1), .int (-1)]) : va_E)) (by omega)
  rw [← hwv406] at hb415
  have hb416 := hb392.keep (p := q) (e := (.inr (15, [.ref (ad20 (q + 1)), .ref (ad20 (q + 8)), .ref (ad20 (q + 15)), .ref (ad20 (q + 22)), .ref (ad20 (q + 29)), .ref (ad20 (q + 87)), .ref (ad20 (q + 95)), .ref (ad20 (q + 100)), .ref (ad20 (q + 111)), .ref (ad20 (q + 114)), .int 0, .int (-1), .int (-1), .int (-1), .int (-1)]) : va_E)) (by omega)
  rw [← hwv406] at hb416
  have hb417 := hb393.keep (p := q) (e := (.inr (15, [.ref (ad20 (q + 1)), .ref (ad20 (q + 8)), .ref (ad20 (q + 15)), .ref (ad20 (q + 22)), .ref (ad20 (q + 29)), .ref (ad20 (q + 87)), .ref (ad20 (q + 95)), .ref (ad20 (q + 100)), .ref (ad20 (q + 111)), .ref (ad20 (q + 114)), .int 0, .int (-1), .int (-1), .int (-1), .int (-1)]) : va_E)) (by omega)
  rw [← hwv406] at hb417
  have hb418 := hb394.keep (p := q) (e := (.inr (15, [.ref (ad20 (q + 1)), .ref (ad20 (q + 8)), .ref (ad20 (q + 15)), .ref (ad20 (q + 22)), .ref (ad20 (q + 29)), .ref (ad20 (q + 87)), .ref (ad20 (q + 95)), .ref (ad20 (q + 100)), .ref (ad20 (q + 111)), .ref (ad20 (q + 114)), .int 0, .int (-1), .int (-1), .int (-1), .int (-1)]) : va_E)) (by omega)
  rw [← hwv406] at hb418
  have hb419 := hb395.keep (p := q) (e := (.inr (15, [.ref (ad20 (q + 1)), .ref (ad20 (q + 8)), .ref (ad20 (q + 15)), .ref (ad20 (q + 22)), .ref (ad20 (q + 29)), .ref (ad20 (q + 87)), .ref (ad20 (q + 95)), .ref (ad20 (q + 100)), .ref (ad20 (q + 111)), .ref (ad20 (q + 114)), .int 0, .int (-1), .int (-1), .int (-1), .int (-1)]) : va_E)) (by omega)
  rw [← hwv406] at hb419
  have hb420 := hb396.keep (p := q) (e := (.inr (15, [.ref (ad20 (q + 1)), .ref (ad20 (q + 8)), .ref (ad20 (q + 15)), .ref (ad20 (q + 22)), .ref (ad20 (q + 29)), .ref (ad20 (q + 87)), .ref (ad20 (q + 95)), .ref (ad20 (q + 100)), .ref (ad20 (q + 111)), .ref (ad20 (q + 114)), .int 0, .int (-1), .int (-1), .int (-1), .int (-1)]) : va_E)) (by omega)
  rw [← hwv406] at hb420
  have hb421 := hb397.keep (p := q) (e := (.inr (15, [.ref (ad20 (q + 1)), .ref (ad20 (q + 8)), .ref (ad20 (q + 15)), .ref (ad20 (q + 22)), .ref (ad20 (q + 29)), .ref (ad20 (q + 87)), .ref (ad20 (q + 95)), .ref (ad20 (q + 100)), .ref (ad20 (q + 111)), .ref (ad20 (q + 114)), .int 0, .int (-1), .int (-1), .int (-1), .int (-1)]) : va_E)) (by omega)
  rw [← hwv406] at hb421
  have hb422 := hb398.keep (p := q) (e := (.inr (15, [.ref (ad20 (q + 1)), .ref (ad20 (q + 8)), .ref (ad20 (q + 15)), .ref (ad20 (q + 22)), .ref (ad20 (q + 29)), .ref (ad20 (q + 87)), .ref (ad20 (q + 95)), .ref (ad20 (q + 100)), .ref (ad20 (q + 111)), .ref (ad20 (q + 114)), .int 0, .int (-1), .int (-1), .int (-1), .int (-1)]) : va_E)) (by omega)
  rw [← hwv406] at hb422
  have hb423 := hb399.keep (p := q) (e := (.inr (15, [.ref (ad20 (q + 1)), .ref (ad20 (q + 8)), .ref (ad20 (q + 15)), .ref (ad20 (q + 22)), .ref (ad20 (q + 29)), .ref (ad20 (q + 87)), .ref (ad20 (q + 95)), .ref (ad20 (q + 100)), .ref (ad20 (q + 111)), .ref (ad20 (q + 114)), .int 0, .int (-1), .int (-1), .int (-1), .int (-1)]) : va_E)) (by omega)
  rw [← hwv406] at hb423
  have hb424 := hb400.keep (p := q) (e := (.inr (15, [.ref (ad20 (q + 1)), .ref (ad20 (q + 8)), .ref (ad20 (q + 15)), .ref (ad20 (q + 22)), .ref (ad20 (q + 29)), .ref (ad20 (q + 87)), .ref (ad20 (q + 95)), .ref (ad20 (q + 100)), .ref (ad20 (q + 111)), .ref (ad20 (q + 114)), .int 0, .int (-1), .int (-1), .int (-1), .int (-1)]) : va_E)) (by omega)
  rw [← hwv406] at hb424
  have hb425 := hb401.keep (p := q) (e := (.inr (15, [.ref (ad20 (q + 1)), .ref (ad20 (q + 8)), .ref (ad20 (q + 15)), .ref (ad20 (q + 22)), .ref (ad20 (q + 29)), .ref (ad20 (q + 87)), .ref (ad20 (q + 95)), .ref (ad20 (q + 100)), .ref (ad20 (q + 111)), .ref (ad20 (q + 114)), .int 0, .int (-1), .int (-1), .int (-1), .int (-1)]) : va_E)) (by omega)
  rw [← hwv406] at hb425
  have hb426 := hb402.keep (p := q) (e := (.inr (15, [.ref (ad20 (q + 1)), .ref (ad20 (q + 8)), .ref (ad20 (q + 15)), .ref (ad20 (q + 22)), .ref (ad20 (q + 29)), .ref (ad20 (q + 87)), .ref (ad20 (q + 95)), .ref (ad20 (q + 100)), .ref (ad20 (q + 111)), .ref (ad20 (q + 114)), .int 0, .int (-1), .int (-1), .int (-1), .int (-1)]) : va_E)) (by omega)
  rw [← hwv406] at hb426
  have hb427 := hb403.keep (p := q) (e := (.inr (15, [.ref (ad20 (q + 1)), .ref (ad20 (q + 8)), .ref (ad20 (q + 15)), .ref (ad20 (q + 22)), .ref (ad20 (q + 29)), .ref (ad20 (q + 87)), .ref (ad20 (q + 95)), .ref (ad20 (q + 100)), .ref (ad20 (q + 111)), .ref (ad20 (q + 114)), .int 0, .int (-1), .int (-1), .int (-1), .int (-1)]) : va_E)) (by omega)
  rw [← hwv406] at hb427
  have hb428 := hb404.keep (p := q) (e := (.inr (15, [.ref (ad20 (q + 1)), .ref (ad20 (q + 8)), .ref (ad20 (q + 15)), .ref (ad20 (q + 22)), .ref (ad20 (q + 29)), .ref (ad20 (q + 87)), .ref (ad20 (q + 95)), .ref (ad20 (q + 100)), .ref (ad20 (q + 111)), .ref (ad20 (q + 114)), .int 0, .int (-1), .int (-1), .int (-1), .int (-1)]) : va_E)) (by omega)
  rw [← hwv406] at hb428
  have hW429 : ∀ p, p < q → wv406 p = w p := fun p hp => by rw [hwv406, va_up_ne _ _ (by omega)]; exact hW405 p hp
  exact g_uvret S hr hlocks hP hS (⟨rfl, hA308, hW429, ⟨by omega, fun k hk => by match k, hk with | 0, _ => exact he407⟩, hb408, hb409, hb410, hb411, hb412, hb413, hb414, hb415, hb416, hb417, hb418, hb419, hb420, hb421, hb422, hb423, hb424, hb425, hb426, hb427, hb428⟩) (Nat.le_of_ble_eq_true rfl) (Nat.le_of_ble_eq_true rfl) dX12_init_134
