/-- the room of the line's bytes -/
def cpOk (cp : Nat) : Prop := cp = 16 ∨ cp = 34 ∨ cp = 70
theorem fits_by : ∀ {v : Nat}, v < 128 → fits .byte (.int (nI v)) = true := by
  have h : ∀ v, v < 128 → fits .byte (.int (nI v)) = true := by decide +kernel
  exact fun {v} => h v
def SBC (E : gE) (ad : Nat → Nat) (b : Nat) (ev co mb sn : Nat) : Nat → va_E
  | _ => .inr (1, [.ref ev, .int (nI co), .int (nI mb), .int (nI sn)])
theorem SB_setO {E : gE} {ad : Nat → Nat} {N b : Nat} {ev co mb sn : Nat} {w : Nat → va_E} (h : bkP N w b 1 (SBC E ad b ev co mb sn)) (ev' co' mb' sn' : Nat) : bkP N (va_up w (b) (SBC E ad b  ev' co' mb' sn' 0)) b 1 (SBC E ad b  ev' co' mb' sn') := (h.set 0 (by decide) _).to (fun k hk => by match k, hk with | 0, _ => rfl)
theorem SB_eq {E : gE} {ad ad' : Nat → Nat} {b : Nat} {ev co mb sn : Nat} {M : Nat} (hM : b + 1 ≤ M) (ha : ∀ p, p < M → ad p = ad' p) : ∀ k, k < 1 → SBC E ad b ev co mb sn k = SBC E ad' b ev co mb sn k := fun k hk => match k, hk with
  | 0, _ => rfl
theorem SB_mv {E : gE} {ad ad' : Nat → Nat} {N N' b : Nat} {ev co mb sn : Nat} {w w' : Nat → va_E} (h : bkP N w b 1 (SBC E ad b ev co mb sn)) {M : Nat} (hM : b + 1 ≤ M) (hN : M ≤ N') (ha : ∀ p, p < M → ad p = ad' p) (hw : ∀ p, b ≤ p → p < b + 1 → w' p = w p) : bkP N' w' b 1 (SBC E ad' b ev co mb sn) :=
  ⟨by omega, fun k hk => by rw [hw _ (by omega) (by omega), h.2 k hk]; exact SB_eq hM ha k hk⟩
set_option maxHeartbeats 4000000 in
set_option maxRecDepth 100000 in
/-- a new length -/
theorem mJ8_newLength_cabcc (l : Launch) {E : gE} {ad : Nat → Nat} {N : Nat} {w : Nat → va_E} (x y z : Nat) (h0 : 0 < x + max y z) (hb0 : x + max y z ≤ 1000) (hy : y ≤ 1000) (hz0 : z ≤ 1000) : gMi l yJ8_newLength_cabcc (lw_ws yJ8_newLength_cabcc cJ8_newLength_cabcc 4 (some .int)) ({ frames := 1, cells := 0, slots := 0, locals := 21 } : Room) E ad N w [.int (nI (x)), .int (nI (y)), .int (nI (z))] (fun r w' => r = nI (x + max y z) ∧ w' = w) 0 0 := by
  refine Met.ofW (cc := cJ8_newLength_cabcc) (maxL := 4) (ret := (some .int)) (by decide) rfl ?_
  intro p e s m args below meth cd s₁ B hml hv
  obtain ⟨rfl, hI, hP⟩ := hv
  obtain ⟨S, hr, hlocks⟩ := gPre (ws := []) B hml (C := RJ8) rfl
  have hx := S.1
  have hb := S.2.1
  have hS : va_S (gA E) s.heap s.heap [] := va_S.rf
  have hl := lv_entry ([.int (nI (x)), .int (nI (y)), .int (nI (z))]) (n := 4) (Nat.le_of_ble_eq_true rfl)
  rw [lg_entry_eq]
  generalize (lg_sl ([.int (nI (x)), .int (nI (y)), .int (nI (z))]) ++ List.replicate (4 - (lg_sl ([.int (nI (x)), .int (nI (y)), .int (nI (z))])).length) Slot.unset).toArray = ls at hl ⊢
  have hl : lv_has ls 4 [(0, .int (nI (x))), (1, .int (nI (y))), (2, .int (nI (z)))] := hl
  refine lv_iload_n hx hb dJ8_newLength_cabcc_0 rfl (lv_at hl 0 rfl) ?_
  refine lv_iload_n hx hb dJ8_newLength_cabcc_1 rfl (lv_at hl 1 rfl) ?_
  refine lv_iload_n hx hb dJ8_newLength_cabcc_2 rfl (lv_at hl 2 rfl) ?_
  refine g_max S hl.1 (a := y) (b := z) (by omega) (by omega) q1368 q777 q112 q778 (Nat.le_of_ble_eq_true rfl) (Nat.le_of_ble_eq_true rfl) (Nat.le_of_ble_eq_true rfl) (Nat.le_of_ble_eq_true rfl) dJ8_newLength_cabcc_3 ?_
  refine g_iadd S dJ8_newLength_cabcc_6 ?_
  refine lv_istore_n (lv' := [(3, .int (nI (x + (max y z)))), (0, .int (nI (x))), (1, .int (nI (y))), (2, .int (nI (z)))]) hx hb dJ8_newLength_cabcc_7 rfl hl (by decide) rfl (fun ls hl => ?_)
  refine g_iconst S 0 dJ8_newLength_cabcc_8 (by decide +kernel) ?_
  refine lv_iload_n hx hb dJ8_newLength_cabcc_9 rfl (lv_at hl 0 rfl) ?_
  refine g_ge S (a := 0) (b := x + (max y z)) (by omega) (by omega) (tgt := 21) dJ8_newLength_cabcc_10 (by decide) (fun hc => ?_) (fun hc => ?_)
  · omega
  · refine lv_iload_n hx hb dJ8_newLength_cabcc_13 rfl (lv_at hl 0 rfl) ?_
    refine lv_ldc (v := nI 2147483639) hx hb S.2.2.2.1 (S.2.2.2.2 _ q1369) dJ8_newLength_cabcc_14 ?_
    refine g_gt S (a := x + (max y z)) (b := 2147483639) (by omega) (by omega) (tgt := 21) dJ8_newLength_cabcc_16 (by decide) (fun hc2 => ?_) (fun hc2 => ?_)
    · omega
    · refine lv_iload_n hx hb dJ8_newLength_cabcc_19 rfl (lv_at hl 0 rfl) ?_
      exact g_iret S hr hlocks hP hS (⟨rfl, rfl⟩) (fun _ _ => rfl) (Nat.le_of_ble_eq_true rfl) (Nat.le_of_ble_eq_true rfl) dJ8_newLength_cabcc_20
set_option maxHeartbeats 4000000 in
set_option maxRecDepth 100000 in
/-- a sign in a byte -/
theorem mJ1_canEncode_fc78d (l : Launch) {E : gE} {ad : Nat → Nat} {N : Nat} {w : Nat → va_E} (x : Nat) (h : x < 128) : gMi l yJ1_canEncode_fc78d (lw_ws yJ1_canEncode_fc78d cJ1_canEncode_fc78d 1 (some .boolean)) ({ frames := 0, cells := 0, slots := 0, locals := 0 } : Room) E ad N w [.int (nI (x))] (fun r w' => r = nI 1 ∧ w' = w) 0 0 := by
  refine Met.ofW (cc := cJ1_canEncode_fc78d) (maxL := 1) (ret := (some .boolean)) (by decide) rfl ?_
  intro p e s m args below meth cd s₁ B hml hv
  obtain ⟨rfl, hI, hP⟩ := hv
  obtain ⟨S, hr, hlocks⟩ := gPre (ws := []) B hml (C := RJ1) rfl
  have hx := S.1
  have hb := S.2.1
  have hS : va_S (gA E) s.heap s.heap [] := va_S.rf
  have hl := lv_entry ([.int (nI (x))]) (n := 1) (Nat.le_of_ble_eq_true rfl)
  rw [lg_entry_eq]
  generalize (lg_sl ([.int (nI (x))]) ++ List.replicate (1 - (lg_sl ([.int (nI (x))])).length) Slot.unset).toArray = ls at hl ⊢
  have hl : lv_has ls 1 [(0, .int (nI (x)))] := hl
  refine lv_iload_n hx hb dJ1_canEncode_fc78d_0 rfl (lv_at hl 0 rfl) ?_
  refine g_sipush S 255 dJ1_canEncode_fc78d_1 (by decide +kernel) ?_
  refine g_gt S (a := x) (b := 255) (by omega) (by omega) (tgt := 11) dJ1_canEncode_fc78d_4 (by decide) (fun hc => ?_) (fun hc => ?_)
  · omega
  · refine g_iconst S 1 dJ1_canEncode_fc78d_7 (by decide +kernel) ?_
    refine lv_goto (tgt := 12) hx hb dJ1_canEncode_fc78d_8 (by decide) ?_
    exact g_zret S hr hlocks (Or.inr (by decide +kernel)) hP hS (⟨rfl, rfl⟩) (fun _ _ => rfl) (Nat.le_of_ble_eq_true rfl) (Nat.le_of_ble_eq_true rfl) dJ1_canEncode_fc78d_12
set_option maxHeartbeats 4000000 in
set_option maxRecDepth 100000 in
/-- bytes alone -/
theorem mJ5_isLatin1_aae02 (l : Launch) {E : gE} {ad : Nat → Nat} {N : Nat} {w : Nat → va_E} (kk : Nat → Nat) (hzv : gHv E kk) (q ev mb sn : Nat) (hb_a : bkP N w q 1 (SBC E ad q ev 0 mb sn))  : gMi l yJ5_isLatin1_aae02 (lw_ws yJ5_isLatin1_aae02 cJ5_isLatin1_aae02 1 (some .boolean)) ({ frames := 0, cells := 0, slots := 0, locals := 0 } : Room) E ad N w [.ref (ad (q))] (fun r w' => r = nI 1 ∧ w' = w) 0 0 := by
  refine Met.ofW (cc := cJ5_isLatin1_aae02) (maxL := 1) (ret := (some .boolean)) (by decide) rfl ?_
  intro p e s m args below meth cd s₁ B hml hv
  obtain ⟨rfl, hI, hP⟩ := hv
  obtain ⟨S, hr, hlocks⟩ := gPre (ws := []) B hml (C := RJ5) rfl
  have hx := S.1
  have hb := S.2.1
  have hzk := hzv s s.heap hI.2.2.2.2
  have hS : va_S (gA E) s.heap s.heap [] := va_S.rf
  have hl := lv_entry ([.ref (ad (q))]) (n := 1) (Nat.le_of_ble_eq_true rfl)
  rw [lg_entry_eq]
  generalize (lg_sl ([.ref (ad (q))]) ++ List.replicate (1 - (lg_sl ([.ref (ad (q))])).length) Slot.unset).toArray = ls at hl ⊢
  have hl : lv_has ls 1 [(0, .ref (ad (q)))] := hl
  refine g_gets S hS (v := .int (nI (1))) hzk.2.2.2.2.1 q378 dJ5_isLatin1_aae02_0 ?_
  refine g_ifeq S (a := 1) (by omega) (tgt := 17) dJ5_isLatin1_aae02_3 (by decide) (fun hc => ?_) (fun hc => ?_)
  · omega
  · refine lv_aload_n hx hb dJ5_isLatin1_aae02_6 rfl (lv_at hl 0 rfl) ?_
    refine g_get S hI hP uJ4 rfl (fs := _) (hb_a.lt 0 (by decide)) (hb_a.2 0 (by decide)) 1 (by decide) q388 rfl (v := .int (nI (0))) rfl dJ5_isLatin1_aae02_7 ?_
    refine g_ifne S (a := 0) (by omega) (tgt := 17) dJ5_isLatin1_aae02_10 (by decide) (fun hc2 => ?_) (fun hc2 => ?_)
    · omega
    · refine g_iconst S 1 dJ5_isLatin1_aae02_13 (by decide +kernel) ?_
      refine lv_goto (tgt := 18) hx hb dJ5_isLatin1_aae02_14 (by decide) ?_
      exact g_zret S hr hlocks (Or.inr (by decide +kernel)) hP hS (⟨rfl, rfl⟩) (fun _ _ => rfl) (Nat.le_of_ble_eq_true rfl) (Nat.le_of_ble_eq_true rfl) dJ5_isLatin1_aae02_18
set_option maxHeartbeats 4000000 in
set_option maxRecDepth 100000 in
/-- its length -/
theorem mJ5_length_8abf5 (l : Launch) {E : gE} {ad : Nat → Nat} {N : Nat} {w : Nat → va_E} (q ev mb sn : Nat) (hb_a : bkP N w q 1 (SBC E ad q ev 0 mb sn))  : gMi l yJ5_length_8abf5 (lw_ws yJ5_length_8abf5 cJ5_length_8abf5 1 (some .int)) ({ frames := 0, cells := 0, slots := 0, locals := 0 } : Room) E ad N w [.ref (ad (q))] (fun r w' => r = nI sn ∧ w' = w) 0 0 := by
  refine Met.ofW (cc := cJ5_length_8abf5) (maxL := 1) (ret := (some .int)) (by decide) rfl ?_
  intro p e s m args below meth cd s₁ B hml hv
  obtain ⟨rfl, hI, hP⟩ := hv
  obtain ⟨S, hr, hlocks⟩ := gPre (ws := []) B hml (C := RJ5) rfl
  have hx := S.1
  have hb := S.2.1
  have hS : va_S (gA E) s.heap s.heap [] := va_S.rf
  have hl := lv_entry ([.ref (ad (q))]) (n := 1) (Nat.le_of_ble_eq_true rfl)
  rw [lg_entry_eq]
  generalize (lg_sl ([.ref (ad (q))]) ++ List.replicate (1 - (lg_sl ([.ref (ad (q))])).length) Slot.unset).toArray = ls at hl ⊢
  have hl : lv_has ls 1 [(0, .ref (ad (q)))] := hl
  refine lv_aload_n hx hb dJ5_length_8abf5_0 rfl (lv_at hl 0 rfl) ?_
  refine g_get S hI hP uJ4 rfl (fs := _) (hb_a.lt 0 (by decide)) (hb_a.2 0 (by decide)) 3 (by decide) q391 rfl (v := .int (nI (sn))) rfl dJ5_length_8abf5_1 ?_
  exact g_iret S hr hlocks hP hS (⟨rfl, rfl⟩) (fun _ _ => rfl) (Nat.le_of_ble_eq_true rfl) (Nat.le_of_ble_eq_true rfl) dJ5_length_8abf5_4
set_option maxHeartbeats 4000000 in
set_option maxRecDepth 100000 in
/-- its length -/
theorem mJ4_length_8abf5 (l : Launch) {E : gE} {ad : Nat → Nat} {N : Nat} {w : Nat → va_E} (q ev mb sn : Nat) (hb_a : bkP N w q 1 (SBC E ad q ev 0 mb sn))  : gMi l yJ4_length_8abf5 (lw_ws yJ4_length_8abf5 cJ4_length_8abf5 1 (some .int)) ({ frames := 1, cells := 0, slots := 0, locals := 20 } : Room) E ad N w [.ref (ad (q))] (fun r w' => r = nI sn ∧ w' = w) 0 0 := by
  refine Met.ofW (cc := cJ4_length_8abf5) (maxL := 1) (ret := (some .int)) (by decide) rfl ?_
  intro p e s m args below meth cd s₁ B hml hv
  obtain ⟨rfl, hI, hP⟩ := hv
  obtain ⟨S, hr, hlocks⟩ := gPre (ws := []) B hml (C := RJ4) rfl
  have hx := S.1
  have hb := S.2.1
  have hS : va_S (gA E) s.heap s.heap [] := va_S.rf
  have hl := lv_entry ([.ref (ad (q))]) (n := 1) (Nat.le_of_ble_eq_true rfl)
  rw [lg_entry_eq]
  generalize (lg_sl ([.ref (ad (q))]) ++ List.replicate (1 - (lg_sl ([.ref (ad (q))])).length) Slot.unset).toArray = ls at hl ⊢
  have hl : lv_has ls 1 [(0, .ref (ad (q)))] := hl
  refine lv_aload_n hx hb dJ4_length_8abf5_0 rfl (lv_at hl 0 rfl) ?_
  refine g_roi (g_runSU S hI hP hS (k := 0) (C := "java/lang/StringBuilder") (As := []) (rest := []) (mJ5_length_8abf5 l q ev mb sn hb_a) q1604 q1600 q400 q1599 q96 q1605 rfl rfl (by decide +kernel) ⟨(Nat.le_of_ble_eq_true rfl), (Nat.le_of_ble_eq_true rfl)⟩ rfl (hb_a.lt 0 (by decide)) (hb_a.2 0 (by decide)) rfl hl.1 rfl (Nat.le_of_ble_eq_true rfl) ⟨(Nat.le_of_ble_eq_true rfl), (Nat.le_of_ble_eq_true rfl)⟩ dJ4_length_8abf5_1) hS (fun H locs hP hS => ?_)
  exact g_iret S hr hlocks hP hS (⟨rfl, rfl⟩) (fun _ _ => rfl) (Nat.le_of_ble_eq_true rfl) (Nat.le_of_ble_eq_true rfl) dJ4_length_8abf5_4
set_option maxHeartbeats 4000000 in
set_option maxRecDepth 100000 in
/-- twice the room and two -/
theorem mJ5_newCapacity_0f7a4 (l : Launch) {E : gE} {ad : Nat → Nat} {N : Nat} {w : Nat → va_E} (q mb sn lb cp x : Nat) (f : Nat → Nat) (hb_a : bkP N w q 1 (SBC E ad q (ad lb) 0 mb sn)) (hlb : lb < N) (hrw : w lb = gAr (E.2.1 3) cp f) (hcp : cp ≤ 70) (hx0 : cp < x) (hx1 : x ≤ cp + 2) : gMi l yJ5_newCapacity_0f7a4 (lw_ws yJ5_newCapacity_0f7a4 cJ5_newCapacity_0f7a4 6 (some .int)) ({ frames := 2, cells := 0, slots := 0, locals := 44 } : Room) E ad N w [.ref (ad (q)), .int (nI (x))] (fun r w' => r = nI (cp + (cp + 2)) ∧ w' = w) 0 0 := by
  refine Met.ofW (cc := cJ5_newCapacity_0f7a4) (maxL := 6) (ret := (some .int)) (by decide) rfl ?_
  intro p e s m args below meth cd s₁ B hml hv
  obtain ⟨rfl, hI, hP⟩ := hv
  obtain ⟨S, hr, hlocks⟩ := gPre (ws := []) B hml (C := RJ5) rfl
  have hx := S.1
  have hb := S.2.1
  have hS : va_S (gA E) s.heap s.heap [] := va_S.rf
  have hl := lv_entry ([.ref (ad (q)), .int (nI (x))]) (n := 6) (Nat.le_of_ble_eq_true rfl)
  rw [lg_entry_eq]
  generalize (lg_sl ([.ref (ad (q)), .int (nI (x))]) ++ List.replicate (6 - (lg_sl ([.ref (ad (q)), .int (nI (x))])).length) Slot.unset).toArray = ls at hl ⊢
  have hl : lv_has ls 6 [(0, .ref (ad (q))), (1, .int (nI (x)))] := hl
  refine lv_aload_n hx hb dJ5_newCapacity_0f7a4_0 rfl (lv_at hl 0 rfl) ?_
  refine g_get S hI hP uJ4 rfl (fs := _) (hb_a.lt 0 (by decide)) (hb_a.2 0 (by decide)) 0 (by decide) q387 rfl (v := .ref ((ad lb))) rfl dJ5_newCapacity_0f7a4_1 ?_
  refine g_alen S hI hP (t0 := 3) hlb hrw rfl dJ5_newCapacity_0f7a4_4 ?_
  refine lv_istore_n (lv' := [(2, .int (nI (cp))), (0, .ref (ad (q))), (1, .int (nI (x)))]) hx hb dJ5_newCapacity_0f7a4_5 rfl hl (by decide) rfl (fun ls hl => ?_)
  refine lv_iload_n hx hb dJ5_newCapacity_0f7a4_6 rfl (lv_at hl 2 rfl) ?_
  refine lv_aload_n hx hb dJ5_newCapacity_0f7a4_7 rfl (lv_at hl 1 rfl) ?_
  refine g_get S hI hP uJ4 rfl (fs := _) (hb_a.lt 0 (by decide)) (hb_a.2 0 (by decide)) 1 (by decide) q388 rfl (v := .int (nI (0))) rfl dJ5_newCapacity_0f7a4_8 ?_
  refine lv_ishl hx hb dJ5_newCapacity_0f7a4_11 ?_
  rw [nI_shl0]
  refine lv_istore_n (lv' := [(3, .int (nI (x))), (2, .int (nI (cp))), (0, .ref (ad (q))), (1, .int (nI (x)))]) hx hb dJ5_newCapacity_0f7a4_12 rfl hl (by decide) rfl (fun ls hl => ?_)
  refine lv_iload_n hx hb dJ5_newCapacity_0f7a4_13 rfl (lv_at hl 0 rfl) ?_
  refine lv_iload_n hx hb dJ5_newCapacity_0f7a4_14 rfl (lv_at hl 1 rfl) ?_
  refine g_isub S (by omega) dJ5_newCapacity_0f7a4_15 ?_
  refine lv_istore (lv' := [(4, .int (nI (x - cp))), (3, .int (nI (x))), (2, .int (nI (cp))), (0, .ref (ad (q))), (1, .int (nI (x)))]) hx hb dJ5_newCapacity_0f7a4_16 hl (by decide) rfl (fun ls hl => ?_)
  refine lv_iload_n hx hb dJ5_newCapacity_0f7a4_18 rfl (lv_at hl 2 rfl) ?_
  refine lv_iload hx hb dJ5_newCapacity_0f7a4_19 (lv_at hl 0 rfl) ?_
  refine lv_iload_n hx hb dJ5_newCapacity_0f7a4_21 rfl (lv_at hl 2 rfl) ?_
  refine g_iconst S 2 dJ5_newCapacity_0f7a4_22 (by decide +kernel) ?_
  refine lv_aload_n hx hb dJ5_newCapacity_0f7a4_23 rfl (lv_at hl 3 rfl) ?_
  refine g_get S hI hP uJ4 rfl (fs := _) (hb_a.lt 0 (by decide)) (hb_a.2 0 (by decide)) 1 (by decide) q388 rfl (v := .int (nI (0))) rfl dJ5_newCapacity_0f7a4_24 ?_
  refine lv_ishl hx hb dJ5_newCapacity_0f7a4_27 ?_
  rw [nI_shl0]
  refine g_iadd S dJ5_newCapacity_0f7a4_28 ?_
  refine g_roi (g_runSX S hI hP hS (k := 3) (As := [.int (nI (cp)), .int (nI (x - cp)), .int (nI (cp + 2))]) (rest := []) (mJ8_newLength_cabcc l cp (x - cp) (cp + 2) (by omega) (by omega) (by omega) (by omega)) q1488 q1366 q117 q1367 rfl rfl (by decide +kernel) ⟨Nat.le_of_ble_eq_true rfl, Nat.le_of_ble_eq_true rfl⟩ rfl hl.1 rfl (Nat.le_of_ble_eq_true rfl) ⟨(Nat.le_of_ble_eq_true rfl), (Nat.le_of_ble_eq_true rfl)⟩ dJ5_newCapacity_0f7a4_29) hS (fun H locs hP hS => ?_)
  rw [show max (x - cp) (cp + 2) = cp + 2 by omega]
  refine lv_istore (lv' := [(5, .int (nI (cp + (cp + 2)))), (4, .int (nI (x - cp))), (3, .int (nI (x))), (2, .int (nI (cp))), (0, .ref (ad (q))), (1, .int (nI (x)))]) hx hb dJ5_newCapacity_0f7a4_32 hl (by decide) rfl (fun ls hl => ?_)
  refine lv_iload hx hb dJ5_newCapacity_0f7a4_34 (lv_at hl 0 rfl) ?_
  refine lv_ldc (v := nI 2147483647) hx hb S.2.2.2.1 (S.2.2.2.2 _ q1489) dJ5_newCapacity_0f7a4_36 ?_
  refine g_ne S (a := cp + (cp + 2)) (b := 2147483647) (by omega) (by omega) (tgt := 51) dJ5_newCapacity_0f7a4_38 (by decide) (fun hc => ?_) (fun hc => ?_)
  · refine lv_iload hx hb dJ5_newCapacity_0f7a4_51 (lv_at hl 0 rfl) ?_
    refine lv_aload_n hx hb dJ5_newCapacity_0f7a4_53 rfl (lv_at hl 4 rfl) ?_
    refine g_get S hI hP uJ4 rfl (fs := _) (hb_a.lt 0 (by decide)) (hb_a.2 0 (by decide)) 1 (by decide) q388 rfl (v := .int (nI (0))) rfl dJ5_newCapacity_0f7a4_54 ?_
    refine lv_ishr hx hb dJ5_newCapacity_0f7a4_57 ?_
    rw [nI_shr0]
    exact g_iret S hr hlocks hP hS (⟨rfl, rfl⟩) (fun _ _ => rfl) (Nat.le_of_ble_eq_true rfl) (Nat.le_of_ble_eq_true rfl) dJ5_newCapacity_0f7a4_58
  · omega
set_option maxHeartbeats 4000000 in
set_option maxRecDepth 100000 in
/-- a longer copy -/
theorem mJ7_copyOf_9075b (l : Launch) {E : gE} {ad : Nat → Nat} {N : Nat} {w : Nat → va_E} (lb cp x : Nat) (f : Nat → Nat) (hlb : lb < N) (hrw : w lb = gAr (E.2.1 3) cp f) (hcx : cp < x) (hx70 : x ≤ 70) (hf : ∀ i, i < cp → f i < 128) : gUr l yJ7_copyOf_9075b (lw_ws yJ7_copyOf_9075b cJ7_copyOf_9075b 3 (some (.array .byte))) ({ frames := 1, cells := 1, slots := 70, locals := 26 } : Room) E ad N w [.ref (ad (lb)), .int (nI (x))] (fun r ad' N' w' => r = ad' N ∧ N' = N + 1 ∧ (∀ p, p < N → ad' p = ad p) ∧ w' N = gAr (E.2.1 3) x (fil cp f (fun _ => 0)) ∧ ∀ p, p < N → w' p = w p) 1 70 := by
  refine Met.ofW (cc := cJ7_copyOf_9075b) (maxL := 3) (ret := (some (.array .byte))) (by decide) rfl ?_
  intro p e s m args below meth cd s₁ B hml hv
  obtain ⟨rfl, hI, hP⟩ := hv
  obtain ⟨S, hr, hlocks⟩ := gPre (ws := []) B hml (C := RJ7) rfl
  have hx := S.1
  have hb := S.2.1
  have hS : va_S (gA E) s.heap s.heap [] := va_S.rf
  have hl := lv_entry ([.ref (ad (lb)), .int (nI (x))]) (n := 3) (Nat.le_of_ble_eq_true rfl)
  rw [lg_entry_eq]
  generalize (lg_sl ([.ref (ad (lb)), .int (nI (x))]) ++ List.replicate (3 - (lg_sl ([.ref (ad (lb)), .int (nI (x))])).length) Slot.unset).toArray = ls at hl ⊢
  have hl : lv_has ls 3 [(0, .ref (ad (lb))), (1, .int (nI (x)))] := hl
  refine lv_iload_n hx hb dJ7_copyOf_9075b_0 rfl (lv_at hl 1 rfl) ?_
  refine lv_aload_n hx hb dJ7_copyOf_9075b_1 rfl (lv_at hl 0 rfl) ?_
  refine g_alen S hI hP (t0 := 3) hlb hrw rfl dJ7_copyOf_9075b_2 ?_
  refine g_ne S (a := x) (b := cp) (by omega) (by omega) (tgt := 14) dJ7_copyOf_9075b_3 (by decide) (fun hc => ?_) (fun hc => ?_)
  · refine lv_iload_n hx hb dJ7_copyOf_9075b_14 rfl (lv_at hl 1 rfl) ?_
    refine g_newaM S hI hP hS (atype := .byte) 3 rfl (fun _ _ h => h) rfl q401 x rfl (by omega) (by show x * 1 ≤ _; omega) (Nat.le_of_ble_eq_true rfl) (show 0 + x ≤ 70 from by omega) dJ7_copyOf_9075b_15 (fun ad1 wn1 H hP hS hadL1 hwL1 hwN1 => ?_)
    have hl : lv_has ls 3 [(0, .ref (ad1 (lb))), (1, .int (nI (x)))] := by rw [hadL1 (lb) (by omega)]; exact hl
    have hrw1 := (hwL1 lb hlb).trans hrw
    refine lv_astore_n (lv' := [(2, .ref (ad1 (N))), (0, .ref (ad1 (lb))), (1, .int (nI (x)))]) hx hb dJ7_copyOf_9075b_17 rfl hl (by decide) rfl (fun ls hl => ?_)
    refine lv_aload_n hx hb dJ7_copyOf_9075b_18 rfl (lv_at hl 1 rfl) ?_
    refine g_iconst S 0 dJ7_copyOf_9075b_19 (by decide +kernel) ?_
    refine lv_aload_n hx hb dJ7_copyOf_9075b_20 rfl (lv_at hl 0 rfl) ?_
    refine g_iconst S 0 dJ7_copyOf_9075b_21 (by decide +kernel) ?_
    refine lv_aload_n hx hb dJ7_copyOf_9075b_22 rfl (lv_at hl 1 rfl) ?_
    refine g_alen S hI hP (t0 := 3) (Nat.lt_succ_of_lt hlb) hrw1 rfl dJ7_copyOf_9075b_23 ?_
    refine lv_iload_n hx hb dJ7_copyOf_9075b_24 rfl (lv_at hl 2 rfl) ?_
    refine g_min S hl.1 (a := cp) (b := x) (by omega) (by omega) q1409 q652 q112 q653 (Nat.le_of_ble_eq_true rfl) (Nat.le_of_ble_eq_true rfl) (Nat.le_of_ble_eq_true rfl) (show 0 + x ≤ 70 from by omega) dJ7_copyOf_9075b_25 ?_
    rw [show min cp x = cp by omega]
    refine g_copy S hl.1 hI hP hS (t := 3) (k := cp) (Nat.lt_succ_of_lt hlb) hrw1 (Nat.lt_succ_self N) hwN1 rfl rfl (Nat.le_refl _) (by omega) (by omega) (fun i hi => fits_by (hf i hi)) q1410 q650 q649 q111 (Nat.le_of_ble_eq_true rfl) (Nat.le_of_ble_eq_true rfl) dJ7_copyOf_9075b_28 (fun H locs hP hS => ?_)
    refine lv_aload_n hx hb dJ7_copyOf_9075b_31 rfl (lv_at hl 0 rfl) ?_
    exact g_urret S hr (by first | exact Or.inl ⟨_, rfl⟩ | exact Or.inr ⟨_, rfl⟩) hlocks hP hS (⟨rfl, rfl, hadL1, va_up_self _ _ _, fun p hp => by rw [va_up_ne _ _ (by omega)]; exact hwL1 p hp⟩) (Nat.le_of_ble_eq_true rfl) (show 0 + x ≤ 70 from by omega) dJ7_copyOf_9075b_32
  · omega
