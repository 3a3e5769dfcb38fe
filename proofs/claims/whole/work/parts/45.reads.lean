theorem mh_lit : FP.i2d (nI 36) = 4630263366890291200 := by decide +kernel
abbrev xIO : String := "java/lang/IndexOutOfBoundsException"
abbrev xIA : String := "java/lang/IllegalArgumentException"
abbrev xUO : String := "java/lang/UnsupportedOperationException"
abbrev xIS : String := "java/lang/IllegalStateException"
abbrev xNS : String := "java/util/NoSuchElementException"
/-- a world is unchanged, or a call failed with it so -/
abbrev gUn (x : String) (c : Prop) (w : Nat → va_E) : String → (Nat → va_E) → Prop := fun xc w' => xc = x ∧ c ∧ w' = w
/-- nights that pass on a sheet -/
def ngS (s : Sh) : Sh := (s.1, s.2.1, s.2.2.1, s.2.2.2.1, (night s.1 s.2.2.2.2.1 s.2.2.2.2.2.1 s.2.2.2.2.2.2.1 s.2.2.2.2.2.2.1).2.1, (night s.1 s.2.2.2.2.1 s.2.2.2.2.2.1 s.2.2.2.2.2.2.1 s.2.2.2.2.2.2.1).1, s.2.2.2.2.2.2.1, s.2.2.2.2.2.2.2.1 + 1, s.2.2.2.2.2.2.2.2)
def ngN (s : Sh) : Nat → Sh
  | 0 => s
  | n + 1 => ngS (ngN s n)
theorem ngS_ok {B : Nat} {s : Sh} (h : shOk B s) : shOk B (ngS s) := by
  obtain ⟨h1, h2, h3, h4, h5, h6⟩ := h
  obtain ⟨g1, g2⟩ := night_ok (ht := s.1) h4 h6 s.2.2.2.2.2.2.1 (Nat.le_refl _)
  exact ⟨h1, h2, h3, g1, h5, g2⟩
theorem ngN_ok {B : Nat} {s : Sh} (h : shOk B s) : ∀ n, shOk B (ngN s n)
  | 0 => h
  | n + 1 => ngS_ok (ngN_ok h n)
def DMC (E : gE) (ad : Nat → Nat) (b : Nat) (sv : Nat) (fp : Option Nat) (dq : Option Nat) (dd : Int32) (dc : Option Nat) : Nat → va_E
  | _ => .inr (15, [.ref (ad (b + 1)), .ref (ad (b + 8)), .ref (ad (b + 15)), .ref (ad (b + 22)), .ref (ad (b + 29)), .ref (ad (b + 87)), .ref (ad (b + 95)), .ref (ad (b + 100)), .ref (ad (b + 111)), .ref (ad (b + 114)), .int (nI sv), .int (oI fp), .int (oI dq), .int dd, .int (oI dc)])
theorem DM_setO {E : gE} {ad : Nat → Nat} {N b : Nat} {sv : Nat} {fp : Option Nat} {dq : Option Nat} {dd : Int32} {dc : Option Nat} {w : Nat → va_E} (h : bkP N w b 1 (DMC E ad b sv fp dq dd dc)) (sv' : Nat) (fp' : Option Nat) (dq' : Option Nat) (dd' : Int32) (dc' : Option Nat) : bkP N (va_up w (b) (DMC E ad b  sv' fp' dq' dd' dc' 0)) b 1 (DMC E ad b  sv' fp' dq' dd' dc') := (h.set 0 (by decide) _).to (fun k hk => by match k, hk with | 0, _ => rfl)
set_option maxHeartbeats 4000000 in
set_option maxRecDepth 100000 in
/-- a cell that must be there -/
theorem mX12_requiredCell (l : Launch) {E : gE} {ad : Nat → Nat} {N : Nat} {w : Nat → va_E} (x y : Int32) (hlt : l.stackTraces = false) (hz : gHx E)  : gXi l yX12_requiredCell (lw_ws yX12_requiredCell cX12_requiredCell 3 (some .int)) ({ frames := 6, cells := 1, slots := 6, locals := 90 } : Room) E ad N w [.int (x), .int (y)] (fun r w' => ∃ k, cellV x y = some k ∧ r = nI k ∧ w' = w) (fun xc w' => xc = xIO ∧ (cellV x y = none) ∧ w' = w) 1 6 := by
  refine vx_ofW (cc := cX12_requiredCell) (maxL := 3) (ret := (some .int)) (by decide) rfl ?_
  intro p e s m args below meth cd s₁ B hml htab hv
  obtain ⟨rfl, hI, hP⟩ := hv
  obtain ⟨S, hr, hlocks⟩ := gPre (ws := []) B hml (C := RX12) rfl
  have hx := S.1
  have hb := S.2.1
  have hS : va_S (gA E) s.heap s.heap [] := va_S.rf
  have hl := lv_entry ([.int (x), .int (y)]) (n := 3) (Nat.le_of_ble_eq_true rfl)
  rw [lg_entry_eq]
  generalize (lg_sl ([.int (x), .int (y)]) ++ List.replicate (3 - (lg_sl ([.int (x), .int (y)])).length) Slot.unset).toArray = ls at hl ⊢
  have hl : lv_has ls 3 [(0, .int (x)), (1, .int (y))] := hl
  refine lv_iload_n hx hb dX12_requiredCell_0 rfl (lv_at hl 0 rfl) ?_
  refine lv_iload_n hx hb dX12_requiredCell_1 rfl (lv_at hl 1 rfl) ?_
  refine g_roi (g_runS S hI hP hS (k := 2) (As := [.int (x), .int (y)]) (rest := []) (mX12_cellOf l x y) q677 q678 q82 q679 rfl rfl (by decide +kernel) ⟨Nat.le_of_ble_eq_true rfl, Nat.le_of_ble_eq_true rfl⟩ rfl hl.1 rfl (Nat.le_of_ble_eq_true rfl) ⟨(Nat.le_of_ble_eq_true rfl), (Nat.le_of_ble_eq_true rfl)⟩ dX12_requiredCell_2) hS (fun H locs hP hS => ?_)
  refine lv_istore_n (lv' := [(2, .int (oI (cellV x y))), (0, .int (x)), (1, .int (y))]) hx hb dX12_requiredCell_5 rfl hl (by decide) rfl (fun ls hl => ?_)
  refine lv_iload_n hx hb dX12_requiredCell_6 rfl (lv_at hl 0 rfl) ?_
  refine lv_iconst (v := -1) hx hb dX12_requiredCell_7 (by decide +kernel) ?_
  refine g_one S (o := cellV x y) (fun k hk => Nat.lt_trans (cellV_lt hk) (by decide)) (tgt := 22) dX12_requiredCell_8 (by decide) (fun hn_k hn => ?_) (fun hn => ?_)
  · have hl : lv_has ls 3 [(2, .int (nI (hn_k))), (0, .int (x)), (1, .int (y))] := by rw [hn] at hl; exact hl
    refine lv_iload_n hx hb dX12_requiredCell_22 rfl (lv_at hl 0 rfl) ?_
    exact vx_ret (g_iret S hr hlocks hP hS (⟨hn_k, hn, rfl, rfl⟩) (fun _ _ => rfl) (Nat.le_of_ble_eq_true rfl) (Nat.le_of_ble_eq_true rfl) dX12_requiredCell_23)
  · exact g_throwW S hI hP hS hl.1 htab hlocks hlt hz (cls := "java/lang/IndexOutOfBoundsException") (text := "no such cell") q521 q108 (by decide) tx_298 (by decide +kernel) dX12_requiredCell_11 dX12_requiredCell_14 dX12_requiredCell_15 dX12_requiredCell_18 dX12_requiredCell_21 (Nat.le_of_ble_eq_true rfl) (Nat.le_of_ble_eq_true rfl) (Nat.le_of_ble_eq_true rfl) (Nat.le_of_ble_eq_true rfl) (Nat.le_of_ble_eq_true rfl) (Nat.le_of_ble_eq_true rfl) (⟨rfl, hn, rfl⟩)
set_option maxHeartbeats 4000000 in
set_option maxRecDepth 100000 in
/-- a level that must be in its range -/
theorem mX12_requireLevel (l : Launch) {E : gE} {ad : Nat → Nat} {N : Nat} {w : Nat → va_E} (v : Int32) (hlt : l.stackTraces = false) (hz : gHx E)  : gXv l yX12_requireLevel (lw_ws yX12_requireLevel cX12_requireLevel 1 none) ({ frames := 6, cells := 1, slots := 6, locals := 90 } : Room) E ad N w [.int (v)] (fun w' => ∃ h, inR v 100 = some h ∧ w' = w) (fun xc w' => xc = xIA ∧ inR v 100 = none ∧ w' = w) 1 6 := by
  refine vx_ofW (cc := cX12_requireLevel) (maxL := 1) (ret := none) (by decide) rfl ?_
  intro p e s m args below meth cd s₁ B hml htab hv
  obtain ⟨rfl, hI, hP⟩ := hv
  obtain ⟨S, hr, hlocks⟩ := gPre (ws := []) B hml (C := RX12) rfl
  have hx := S.1
  have hb := S.2.1
  have hS : va_S (gA E) s.heap s.heap [] := va_S.rf
  have hl := lv_entry ([.int (v)]) (n := 1) (Nat.le_of_ble_eq_true rfl)
  rw [lg_entry_eq]
  generalize (lg_sl ([.int (v)]) ++ List.replicate (1 - (lg_sl ([.int (v)])).length) Slot.unset).toArray = ls at hl ⊢
  have hl : lv_has ls 1 [(0, .int (v))] := hl
  refine lv_iload_n hx hb dX12_requireLevel_0 rfl (lv_at hl 0 rfl) ?_
  rcases pk_ix v (n := 100) (by decide) with hv0 | hv0 | ⟨u, hu, hvu⟩
  · refine lv_if_lt (tgt := 10) hx hb dX12_requireLevel_1 (by decide) (fun hc => ?_) (fun hc => ?_)
    · exact g_throwW S hI hP hS hl.1 htab hlocks hlt hz (cls := "java/lang/IllegalArgumentException") (text := "the level is out of range") q592 q109 (by decide) tx_267 (by decide +kernel) dX12_requireLevel_10 dX12_requireLevel_13 dX12_requireLevel_14 dX12_requireLevel_17 dX12_requireLevel_20 (Nat.le_of_ble_eq_true rfl) (Nat.le_of_ble_eq_true rfl) (Nat.le_of_ble_eq_true rfl) (Nat.le_of_ble_eq_true rfl) (Nat.le_of_ble_eq_true rfl) (Nat.le_of_ble_eq_true rfl) (⟨rfl, inR_neg hv0, rfl⟩)
    · exact absurd hv0 hc
  · have hv1 : ¬ v < 0 := fun q => nI_pos (n := 100) (by decide) (Int32.lt_of_le_of_lt hv0 q)
    refine lv_if_lt (tgt := 10) hx hb dX12_requireLevel_1 (by decide) (fun hc => ?_) (fun hc => ?_)
    · exact absurd hc hv1
    · refine lv_iload_n hx hb dX12_requireLevel_4 rfl (lv_at hl 0 rfl) ?_
      refine g_bipush S 99 dX12_requireLevel_5 (by decide +kernel) ?_
      refine lv_icmp_le (tgt := 21) hx hb dX12_requireLevel_7 (by decide) (fun hc2 => ?_) (fun hc2 => ?_)
      · exact absurd (Int32.le_trans hv0 hc2) (by decide +kernel)
      · exact g_throwW S hI hP hS hl.1 htab hlocks hlt hz (cls := "java/lang/IllegalArgumentException") (text := "the level is out of range") q592 q109 (by decide) tx_267 (by decide +kernel) dX12_requireLevel_10 dX12_requireLevel_13 dX12_requireLevel_14 dX12_requireLevel_17 dX12_requireLevel_20 (Nat.le_of_ble_eq_true rfl) (Nat.le_of_ble_eq_true rfl) (Nat.le_of_ble_eq_true rfl) (Nat.le_of_ble_eq_true rfl) (Nat.le_of_ble_eq_true rfl) (Nat.le_of_ble_eq_true rfl) (⟨rfl, inR_big hv0, rfl⟩)
  · subst hvu
    refine g_iflt S (a := u) (by omega) (tgt := 10) dX12_requireLevel_1 (by decide) ?_
    refine lv_iload_n hx hb dX12_requireLevel_4 rfl (lv_at hl 0 rfl) ?_
    refine g_bipush S 99 dX12_requireLevel_5 (by decide +kernel) ?_
    refine g_le S (a := u) (b := 99) (by omega) (by omega) (tgt := 21) dX12_requireLevel_7 (by decide) (fun hc => ?_) (fun hc => ?_)
    · exact vx_ret (g_vret S hr hlocks hP hS (⟨u, inR_nI hu (by decide), rfl⟩) (fun _ _ => rfl) (Nat.le_of_ble_eq_true rfl) (Nat.le_of_ble_eq_true rfl) dX12_requireLevel_21)
    · omega
set_option maxHeartbeats 4000000 in
set_option maxRecDepth 100000 in
/-- a route that must be there -/
theorem mX12_requiredOfRoute (l : Launch) {E : gE} {ad : Nat → Nat} {N : Nat} {w : Nat → va_E} (v : Int32) (hlt : l.stackTraces = false) (hz : gHx E)  : gXi l yX12_requiredOfRoute (lw_ws yX12_requiredOfRoute cX12_requiredOfRoute 1 (some .int)) ({ frames := 6, cells := 1, slots := 6, locals := 90 } : Room) E ad N w [.int (v)] (fun r w' => r = v ∧ v ≠ -1 ∧ w' = w) (fun xc w' => xc = xNS ∧ v = -1 ∧ w' = w) 1 6 := by
  refine vx_ofW (cc := cX12_requiredOfRoute) (maxL := 1) (ret := (some .int)) (by decide) rfl ?_
  intro p e s m args below meth cd s₁ B hml htab hv
  obtain ⟨rfl, hI, hP⟩ := hv
  obtain ⟨S, hr, hlocks⟩ := gPre (ws := []) B hml (C := RX12) rfl
  have hx := S.1
  have hb := S.2.1
  have hS : va_S (gA E) s.heap s.heap [] := va_S.rf
  have hl := lv_entry ([.int (v)]) (n := 1) (Nat.le_of_ble_eq_true rfl)
  rw [lg_entry_eq]
  generalize (lg_sl ([.int (v)]) ++ List.replicate (1 - (lg_sl ([.int (v)])).length) Slot.unset).toArray = ls at hl ⊢
  have hl : lv_has ls 1 [(0, .int (v))] := hl
  refine lv_iload_n hx hb dX12_requiredOfRoute_0 rfl (lv_at hl 0 rfl) ?_
  refine lv_iconst (v := -1) hx hb dX12_requiredOfRoute_1 (by decide +kernel) ?_
  refine lv_icmp_ne (tgt := 16) hx hb dX12_requiredOfRoute_2 (by decide) (fun hc => ?_) (fun hc => ?_)
  · refine lv_iload_n hx hb dX12_requiredOfRoute_16 rfl (lv_at hl 0 rfl) ?_
    exact vx_ret (g_iret S hr hlocks hP hS (⟨rfl, hc, rfl⟩) (fun _ _ => rfl) (Nat.le_of_ble_eq_true rfl) (Nat.le_of_ble_eq_true rfl) dX12_requiredOfRoute_17)
  · exact g_throwNW S hI hP hS hl.1 htab hlocks hlt hz (text := "there is no route") q892 q113 (by decide) tn_221 dX12_requiredOfRoute_5 dX12_requiredOfRoute_8 dX12_requiredOfRoute_9 dX12_requiredOfRoute_12 dX12_requiredOfRoute_15 (Nat.le_of_ble_eq_true rfl) (Nat.le_of_ble_eq_true rfl) (Nat.le_of_ble_eq_true rfl) (Nat.le_of_ble_eq_true rfl) (Nat.le_of_ble_eq_true rfl) (Nat.le_of_ble_eq_true rfl) (⟨rfl, hc, rfl⟩)
set_option maxHeartbeats 4000000 in
set_option maxRecDepth 100000 in
/-- a denial is kept -/
theorem mX12_keepDenial (l : Launch) {E : gE} {ad : Nat → Nat} {N : Nat} {w : Nat → va_E} (d : Nat) (sv : Nat) (fp dq : Option Nat) (dd : Int32) (dc : Option Nat) (o1 : Option Nat) (v1 : Int32) (o2 : Option Nat) (hb_d : bkP N w d 1 (DMC E ad d sv fp dq dd dc))  : gMv l yX12_keepDenial (lw_ws yX12_keepDenial cX12_keepDenial 4 none) ({ frames := 0, cells := 0, slots := 0, locals := 0 } : Room) E ad N w [.ref (ad (d)), .int (oI (o1)), .int (v1), .int (oI (o2))] (fun w' => bkP N w' d 1 (DMC E ad d sv fp o1 v1 o2) ∧ gFr (gIn d 1) w w') 0 0 := by
  refine Met.ofW (cc := cX12_keepDenial) (maxL := 4) (ret := none) (by decide) rfl ?_
  intro p e s m args below meth cd s₁ B hml hv
  obtain ⟨rfl, hI, hP⟩ := hv
  obtain ⟨S, hr, hlocks⟩ := gPre (ws := []) B hml (C := RX12) rfl
  have hx := S.1
  have hb := S.2.1
  have hS : va_S (gA E) s.heap s.heap [] := va_S.rf
  have hfr : gFr (gIn d 1) w w := gFr.rf
  have hl := lv_entry ([.ref (ad (d)), .int (oI (o1)), .int (v1), .int (oI (o2))]) (n := 4) (Nat.le_of_ble_eq_true rfl)
  rw [lg_entry_eq]
  generalize (lg_sl ([.ref (ad (d)), .int (oI (o1)), .int (v1), .int (oI (o2))]) ++ List.replicate (4 - (lg_sl ([.ref (ad (d)), .int (oI (o1)), .int (v1), .int (oI (o2))])).length) Slot.unset).toArray = ls at hl ⊢
  have hl : lv_has ls 4 [(0, .ref (ad (d))), (1, .int (oI (o1))), (2, .int (v1)), (3, .int (oI (o2)))] := hl
  refine lv_aload_n hx hb dX12_keepDenial_0 rfl (lv_at hl 0 rfl) ?_
  refine lv_iload_n hx hb dX12_keepDenial_1 rfl (lv_at hl 1 rfl) ?_
  refine g_put S hI hP hS uX12 rfl tyX12 tyX12_ok nmX12 (fs := _) (hb_d.lt 0 (by decide)) (hb_d.2 0 (by decide)) 12 (by decide) q414 rfl rfl (v := .int (oI (o1))) rfl rfl (Nat.le_of_ble_eq_true rfl) dX12_keepDenial_2 (fun H locs hP hS => ?_)
  have hP : gP E ad N (va_up _ (d) (DMC E ad d sv fp o1 dd dc 0)) H := hP
  have hb1 : bkP N (va_up _ (d) (DMC E ad d sv fp o1 dd dc 0)) d 1 (DMC E ad d sv fp o1 dd dc) := DM_setO hb_d _ _ _ _ _
  have hfr := hfr.up (p := d) (e := DMC E ad d sv fp o1 dd dc 0) (by show _ ∧ _; omega)
  refine lv_aload_n hx hb dX12_keepDenial_5 rfl (lv_at hl 0 rfl) ?_
  refine lv_iload_n hx hb dX12_keepDenial_6 rfl (lv_at hl 2 rfl) ?_
  refine g_put S hI hP hS uX12 rfl tyX12 tyX12_ok nmX12 (fs := _) (hb1.lt 0 (by decide)) (hb1.2 0 (by decide)) 13 (by decide) q415 rfl rfl (v := .int (v1)) rfl rfl (Nat.le_of_ble_eq_true rfl) dX12_keepDenial_7 (fun H locs hP hS => ?_)
  have hP : gP E ad N (va_up _ (d) (DMC E ad d sv fp o1 v1 dc 0)) H := hP
  have hb2 : bkP N (va_up _ (d) (DMC E ad d sv fp o1 v1 dc 0)) d 1 (DMC E ad d sv fp o1 v1 dc) := DM_setO hb1 _ _ _ _ _
  have hfr := hfr.up (p := d) (e := DMC E ad d sv fp o1 v1 dc 0) (by show _ ∧ _; omega)
  refine lv_aload_n hx hb dX12_keepDenial_10 rfl (lv_at hl 0 rfl) ?_
  refine lv_iload_n hx hb dX12_keepDenial_11 rfl (lv_at hl 3 rfl) ?_
  refine g_put S hI hP hS uX12 rfl tyX12 tyX12_ok nmX12 (fs := _) (hb2.lt 0 (by decide)) (hb2.2 0 (by decide)) 14 (by decide) q416 rfl rfl (v := .int (oI (o2))) rfl rfl (Nat.le_of_ble_eq_true rfl) dX12_keepDenial_12 (fun H locs hP hS => ?_)
  have hP : gP E ad N (va_up _ (d) (DMC E ad d sv fp o1 v1 o2 0)) H := hP
  have hb3 : bkP N (va_up _ (d) (DMC E ad d sv fp o1 v1 o2 0)) d 1 (DMC E ad d sv fp o1 v1 o2) := DM_setO hb2 _ _ _ _ _
  have hfr := hfr.up (p := d) (e := DMC E ad d sv fp o1 v1 o2 0) (by show _ ∧ _; omega)
  exact g_vret S hr hlocks hP hS (⟨hb3, hfr⟩) (fun _ _ => rfl) (Nat.le_of_ble_eq_true rfl) (Nat.le_of_ble_eq_true rfl) dX12_keepDenial_15
set_option maxHeartbeats 4000000 in
set_option maxRecDepth 100000 in
/-- a denial that must be there -/
theorem mX12_requireDenial (l : Launch) {E : gE} {ad : Nat → Nat} {N : Nat} {w : Nat → va_E} (d : Nat) (sv : Nat) (fp dq : Option Nat) (dd : Int32) (dc : Option Nat) (hb_d : bkP N w d 1 (DMC E ad d sv fp dq dd dc)) (hlt : l.stackTraces = false) (hz : gHx E) (hdq : ∀ k, dq = some k → k < 2 ^ 31) : gXv l yX12_requireDenial (lw_ws yX12_requireDenial cX12_requireDenial 1 none) ({ frames := 6, cells := 1, slots := 6, locals := 90 } : Room) E ad N w [.ref (ad (d))] (fun w' => (∃ k, dq = some k) ∧ w' = w) (fun xc w' => xc = xNS ∧ dq = none ∧ w' = w) 1 6 := by
  refine vx_ofW (cc := cX12_requireDenial) (maxL := 1) (ret := none) (by decide) rfl ?_
  intro p e s m args below meth cd s₁ B hml htab hv
  obtain ⟨rfl, hI, hP⟩ := hv
  obtain ⟨S, hr, hlocks⟩ := gPre (ws := []) B hml (C := RX12) rfl
  have hx := S.1
  have hb := S.2.1
  have hS : va_S (gA E) s.heap s.heap [] := va_S.rf
  have hl := lv_entry ([.ref (ad (d))]) (n := 1) (Nat.le_of_ble_eq_true rfl)
  rw [lg_entry_eq]
  generalize (lg_sl ([.ref (ad (d))]) ++ List.replicate (1 - (lg_sl ([.ref (ad (d))])).length) Slot.unset).toArray = ls at hl ⊢
  have hl : lv_has ls 1 [(0, .ref (ad (d)))] := hl
  refine lv_aload_n hx hb dX12_requireDenial_0 rfl (lv_at hl 0 rfl) ?_
  refine g_get S hI hP uX12 rfl (fs := _) (hb_d.lt 0 (by decide)) (hb_d.2 0 (by decide)) 12 (by decide) q414 rfl (v := .int (oI (dq))) rfl dX12_requireDenial_1 ?_
  refine lv_iconst (v := -1) hx hb dX12_requireDenial_4 (by decide +kernel) ?_
  refine g_one S (o := dq) (hdq) (tgt := 19) dX12_requireDenial_5 (by decide) (fun hn_k hn => ?_) (fun hn => ?_)
  · exact vx_ret (g_vret S hr hlocks hP hS (⟨⟨_, hn⟩, rfl⟩) (fun _ _ => rfl) (Nat.le_of_ble_eq_true rfl) (Nat.le_of_ble_eq_true rfl) dX12_requireDenial_19)
  · exact g_throwNW S hI hP hS hl.1 htab hlocks hlt hz (text := "nothing was denied yet") q892 q113 (by decide) tn_221 dX12_requireDenial_8 dX12_requireDenial_11 dX12_requireDenial_12 dX12_requireDenial_15 dX12_requireDenial_18 (Nat.le_of_ble_eq_true rfl) (Nat.le_of_ble_eq_true rfl) (Nat.le_of_ble_eq_true rfl) (Nat.le_of_ble_eq_true rfl) (Nat.le_of_ble_eq_true rfl) (Nat.le_of_ble_eq_true rfl) (⟨rfl, hn, rfl⟩)
set_option maxHeartbeats 4000000 in
set_option maxRecDepth 100000 in
/-- the cell at a rank -/
theorem mX12_cellByHeight (l : Launch) {E : gE} {ad : Nat → Nat} {N : Nat} {w : Nat → va_E} (d : Nat) (sv : Nat) (fp dq : Option Nat) (dd : Int32) (dc : Option Nat) (ht dr pg wt wr mo : Nat → Nat) (mc ni po dn : Nat) (ra rk : Nat → Nat) (v : Int32) (hb_d : bkP N w d 1 (DMC E ad d sv fp dq dd dc)) (hb_s : bkP N w (d + 1) 7 (SHC E ad (d + 1) ht dr pg wt wr mo mc ni po dn)) (hb_g : bkP N w (d + 87) 1 (RGC E ad (d + 87) )) (hb_k : bkP N w (d + 93) 2 (RKC E ad (d + 93) ra rk)) (hlt : l.stackTraces = false) (hz : gHx E) (hht : ∀ k, k < 36 → ht k ≤ 99) : gXi l yX12_cellByHeight (lw_ws yX12_cellByHeight cX12_cellByHeight 2 (some .int)) ({ frames := 6, cells := 1, slots := 6, locals := 90 } : Room) E ad N w [.ref (ad (d)), .int (v)] (fun r w' => (∃ i, inR v 36 = some i ∧ r = nI (rankN ht rk 36 i)) ∧ (∃ ra' rk' : Nat → Nat, bkP N w' (d + 93) 2 (RKC E ad (d + 93) ra' rk')) ∧ gFr (gIn (d + 93) 2) w w') (fun xc w' => xc = xNS ∧ inR v 36 = none ∧ w' = w) 1 6 := by
  refine vx_ofW (cc := cX12_cellByHeight) (maxL := 2) (ret := (some .int)) (by decide) rfl ?_
  intro p e s m args below meth cd s₁ B hml htab hv
  obtain ⟨rfl, hI, hP⟩ := hv
  obtain ⟨S, hr, hlocks⟩ := gPre (ws := []) B hml (C := RX12) rfl
  have hx := S.1
  have hb := S.2.1
  have hS : va_S (gA E) s.heap s.heap [] := va_S.rf
  have hfr : gFr (gIn (d + 93) 2) w w := gFr.rf
  have hl := lv_entry ([.ref (ad (d)), .int (v)]) (n := 2) (Nat.le_of_ble_eq_true rfl)
  rw [lg_entry_eq]
  generalize (lg_sl ([.ref (ad (d)), .int (v)]) ++ List.replicate (2 - (lg_sl ([.ref (ad (d)), .int (v)])).length) Slot.unset).toArray = ls at hl ⊢
  have hl : lv_has ls 2 [(0, .ref (ad (d))), (1, .int (v))] := hl
  refine lv_iload_n hx hb dX12_cellByHeight_0 rfl (lv_at hl 1 rfl) ?_
  rcases pk_ix v (n := 36) (by decide) with hv0 | hv0 | ⟨u, hu, hvu⟩
  · refine lv_if_lt (tgt := 10) hx hb dX12_cellByHeight_1 (by decide) (fun hc => ?_) (fun hc => ?_)
    · exact g_throwNW S hI hP hS hl.1 htab hlocks hlt hz (text := "no such rank") q892 q113 (by decide) tn_221 dX12_cellByHeight_10 dX12_cellByHeight_13 dX12_cellByHeight_14 dX12_cellByHeight_17 dX12_cellByHeight_20 (Nat.le_of_ble_eq_true rfl) (Nat.le_of_ble_eq_true rfl) (Nat.le_of_ble_eq_true rfl) (Nat.le_of_ble_eq_true rfl) (Nat.le_of_ble_eq_true rfl) (Nat.le_of_ble_eq_true rfl) (⟨rfl, inR_neg hv0, rfl⟩)
    · exact absurd hv0 hc
  · have hv1 : ¬ v < 0 := fun q => nI_pos (n := 36) (by decide) (Int32.lt_of_le_of_lt hv0 q)
    refine lv_if_lt (tgt := 10) hx hb dX12_cellByHeight_1 (by decide) (fun hc => ?_) (fun hc => ?_)
    · exact absurd hc hv1
    · refine lv_iload_n hx hb dX12_cellByHeight_4 rfl (lv_at hl 1 rfl) ?_
      refine g_bipush S 36 dX12_cellByHeight_5 (by decide +kernel) ?_
      refine lv_icmp_lt (tgt := 21) hx hb dX12_cellByHeight_7 (by decide) (fun hc2 => ?_) (fun hc2 => ?_)
      · exact absurd (Int32.lt_of_le_of_lt hv0 hc2) (by decide +kernel)
      · exact g_throwNW S hI hP hS hl.1 htab hlocks hlt hz (text := "no such rank") q892 q113 (by decide) tn_221 dX12_cellByHeight_10 dX12_cellByHeight_13 dX12_cellByHeight_14 dX12_cellByHeight_17 dX12_cellByHeight_20 (Nat.le_of_ble_eq_true rfl) (Nat.le_of_ble_eq_true rfl) (Nat.le_of_ble_eq_true rfl) (Nat.le_of_ble_eq_true rfl) (Nat.le_of_ble_eq_true rfl) (Nat.le_of_ble_eq_true rfl) (⟨rfl, inR_big hv0, rfl⟩)
  · subst hvu
    refine g_iflt S (a := u) (by omega) (tgt := 10) dX12_cellByHeight_1 (by decide) ?_
    refine lv_iload_n hx hb dX12_cellByHeight_4 rfl (lv_at hl 1 rfl) ?_
    refine g_bipush S 36 dX12_cellByHeight_5 (by decide +kernel) ?_
    refine g_lt S (a := u) (b := 36) (by omega) (by omega) (tgt := 21) dX12_cellByHeight_7 (by decide) (fun hc => ?_) (fun hc => ?_)
    · refine lv_aload_n hx hb dX12_cellByHeight_21 rfl (lv_at hl 0 rfl) ?_
      refine g_get S hI hP uX12 rfl (fs := _) (hb_d.lt 0 (by decide)) (hb_d.2 0 (by decide)) 5 (by decide) q407 rfl (v := .ref (ad (d + 87))) rfl dX12_cellByHeight_22 ?_
      refine lv_aload_n hx hb dX12_cellByHeight_25 rfl (lv_at hl 0 rfl) ?_
      refine g_get S hI hP uX12 rfl (fs := _) (hb_d.lt 0 (by decide)) (hb_d.2 0 (by decide)) 0 (by decide) q402 rfl (v := .ref (ad (d + 1))) rfl dX12_cellByHeight_26 ?_
      refine lv_iload_n hx hb dX12_cellByHeight_29 rfl (lv_at hl 1 rfl) ?_
      refine g_afi (g_runV S hI hP hS (k := 2) (As := [.ref (ad (d + 1)), .int (nI (u))]) (rest := []) (mX5_cellAtRank l (d + 1) ht dr pg wt wr mo mc ni po dn (d + 87) ra rk u hb_s hb_g hb_k (by omega) hht hu) q908 q909 q910 q86 q911 rfl rfl (by decide +kernel) ⟨Nat.le_of_ble_eq_true rfl, Nat.le_of_ble_eq_true rfl⟩ rfl (hb_g.lt 0 (by decide)) (hb_g.2 0 (by decide)) rfl hl.1 rfl (Nat.le_of_ble_eq_true rfl) ⟨(Nat.le_of_ble_eq_true rfl), (Nat.le_of_ble_eq_true rfl)⟩ dX12_cellByHeight_30) hS (fun rz w1 H locs hq hP hS => ?_)
      obtain ⟨hr4, hb2, hf3⟩ := hq
      rw [hr4]
      have hb5 := hb_d.fr hf3 (fun k hk => by show ¬ _; (try simp only [gIn]); (try dsimp only); omega)
      have hb6 := hb_s.fr hf3 (fun k hk => by show ¬ _; (try simp only [gIn]); (try dsimp only); omega)
      have hb7 := hb_g.fr hf3 (fun k hk => by show ¬ _; (try simp only [gIn]); (try dsimp only); omega)
      have hfr := hfr.trans hf3 (fun q hq => by (try simp only [gIn] at hq ⊢); (try dsimp only at hq ⊢); omega)
      exact vx_ret (g_iret S hr hlocks hP hS (⟨⟨u, inR_nI hu (by decide), rfl⟩, ⟨_, _, hb2⟩, hfr⟩) (fun _ _ => rfl) (Nat.le_of_ble_eq_true rfl) (Nat.le_of_ble_eq_true rfl) dX12_cellByHeight_33)
    · omega
set_option maxHeartbeats 4000000 in
set_option maxRecDepth 100000 in
/-- rowByHeight -/
theorem mX12_rowByHeight (l : Launch) {E : gE} {ad : Nat → Nat} {N : Nat} {w : Nat → va_E} (d : Nat) (sv : Nat) (fp dq : Option Nat) (dd : Int32) (dc : Option Nat) (ht dr pg wt wr mo : Nat → Nat) (mc ni po dn : Nat) (ra rk : Nat → Nat) (v : Int32) (hb_d : bkP N w d 1 (DMC E ad d sv fp dq dd dc)) (hb_s : bkP N w (d + 1) 7 (SHC E ad (d + 1) ht dr pg wt wr mo mc ni po dn)) (hb_g : bkP N w (d + 87) 1 (RGC E ad (d + 87) )) (hb_k : bkP N w (d + 93) 2 (RKC E ad (d + 93) ra rk)) (hlt : l.stackTraces = false) (hz : gHx E) (hht : ∀ k, k < 36 → ht k ≤ 99) : gXi l yX12_rowByHeight (lw_ws yX12_rowByHeight cX12_rowByHeight 2 (some .int)) ({ frames := 7, cells := 1, slots := 6, locals := 111 } : Room) E ad N w [.ref (ad (d)), .int (v)] (fun r w' => (∃ i, inR v 36 = some i ∧ r = nI (rankN ht rk 36 i / 6)) ∧ (∃ ra' rk' : Nat → Nat, bkP N w' (d + 93) 2 (RKC E ad (d + 93) ra' rk')) ∧ gFr (gIn (d + 93) 2) w w') (fun xc w' => xc = xNS ∧ inR v 36 = none ∧ w' = w) 1 6 := by
  refine vx_ofW (cc := cX12_rowByHeight) (maxL := 2) (ret := (some .int)) (by decide) rfl ?_
  intro p e s m args below meth cd s₁ B hml htab hv
  obtain ⟨rfl, hI, hP⟩ := hv
  obtain ⟨S, hr, hlocks⟩ := gPre (ws := []) B hml (C := RX12) rfl
  have hx := S.1
  have hb := S.2.1
  have hS : va_S (gA E) s.heap s.heap [] := va_S.rf
  have hl := lv_entry ([.ref (ad (d)), .int (v)]) (n := 2) (Nat.le_of_ble_eq_true rfl)
  rw [lg_entry_eq]
  generalize (lg_sl ([.ref (ad (d)), .int (v)]) ++ List.replicate (2 - (lg_sl ([.ref (ad (d)), .int (v)])).length) Slot.unset).toArray = ls at hl ⊢
  have hl : lv_has ls 2 [(0, .ref (ad (d))), (1, .int (v))] := hl
  refine lv_aload_n hx hb dX12_rowByHeight_0 rfl (lv_at hl 0 rfl) ?_
  refine lv_iload_n hx hb dX12_rowByHeight_1 rfl (lv_at hl 1 rfl) ?_
  refine g_xafi (g_xrunV S hI hP hS (k := 1) (As := [.int (v)]) (rest := []) (mX12_cellByHeight l d sv fp dq dd dc ht dr pg wt wr mo mc ni po dn ra rk v hb_d hb_s hb_g hb_k hlt hz hht) q888 q890 q24 q82 q891 rfl rfl (by decide +kernel) ⟨(Nat.le_of_ble_eq_true rfl), (Nat.le_of_ble_eq_true rfl)⟩ rfl (hb_d.lt 0 (by decide)) (hb_d.2 0 (by decide)) rfl hl.1 rfl (Nat.le_of_ble_eq_true rfl) ⟨(Nat.le_of_ble_eq_true rfl), (Nat.le_of_ble_eq_true rfl)⟩ dX12_rowByHeight_2) hS (fun xc w1 xq ce H locs hpx hP hS hcell hcv hcl => ?_) (fun rz w1 H locs hq hP hS => ?_)
  · exact g_xout S hI hS htab hlocks hP hcell hcv hcl (hpx) (Nat.le_of_ble_eq_true rfl) (Nat.le_of_ble_eq_true rfl)
  · obtain ⟨⟨i, hi, hrz⟩, hex, hfx⟩ := hq
    rw [hrz]
    have hi36 := (inR_some (by decide) hi).1
    have hrl := rankN_lt (ht := ht) (rk := rk) (n := 36) (Nat.le_refl _) i hi36
    refine g_bipush S 6 dX12_rowByHeight_5 (by decide +kernel) ?_
    refine g_idiv S (by omega) (by omega) (by omega) dX12_rowByHeight_7 ?_
    exact vx_ret (g_iret S hr hlocks hP hS (⟨⟨i, hi, rfl⟩, hex, hfx⟩) (fun _ _ => rfl) (Nat.le_of_ble_eq_true rfl) (Nat.le_of_ble_eq_true rfl) dX12_rowByHeight_8)
set_option maxHeartbeats 4000000 in
set_option maxRecDepth 100000 in
/-- columnByHeight -/
theorem mX12_columnByHeight (l : Launch) {E : gE} {ad : Nat → Nat} {N : Nat} {w : Nat → va_E} (d : Nat) (sv : Nat) (fp dq : Option Nat) (dd : Int32) (dc : Option Nat) (ht dr pg wt wr mo : Nat → Nat) (mc ni po dn : Nat) (ra rk : Nat → Nat) (v : Int32) (hb_d : bkP N w d 1 (DMC E ad d sv fp dq dd dc)) (hb_s : bkP N w (d + 1) 7 (SHC E ad (d + 1) ht dr pg wt wr mo mc ni po dn)) (hb_g : bkP N w (d + 87) 1 (RGC E ad (d + 87) )) (hb_k : bkP N w (d + 93) 2 (RKC E ad (d + 93) ra rk)) (hlt : l.stackTraces = false) (hz : gHx E) (hht : ∀ k, k < 36 → ht k ≤ 99) : gXi l yX12_columnByHeight (lw_ws yX12_columnByHeight cX12_columnByHeight 2 (some .int)) ({ frames := 7, cells := 1, slots := 6, locals := 111 } : Room) E ad N w [.ref (ad (d)), .int (v)] (fun r w' => (∃ i, inR v 36 = some i ∧ r = nI (rankN ht rk 36 i % 6)) ∧ (∃ ra' rk' : Nat → Nat, bkP N w' (d + 93) 2 (RKC E ad (d + 93) ra' rk')) ∧ gFr (gIn (d + 93) 2) w w') (fun xc w' => xc = xNS ∧ inR v 36 = none ∧ w' = w) 1 6 := by
  refine vx_ofW (cc := cX12_columnByHeight) (maxL := 2) (ret := (some .int)) (by decide) rfl ?_
  intro p e s m args below meth cd s₁ B hml htab hv
  obtain ⟨rfl, hI, hP⟩ := hv
  obtain ⟨S, hr, hlocks⟩ := gPre (ws := []) B hml (C := RX12) rfl
  have hx := S.1
  have hb := S.2.1
  have hS : va_S (gA E) s.heap s.heap [] := va_S.rf
  have hl := lv_entry ([.ref (ad (d)), .int (v)]) (n := 2) (Nat.le_of_ble_eq_true rfl)
  rw [lg_entry_eq]
  generalize (lg_sl ([.ref (ad (d)), .int (v)]) ++ List.replicate (2 - (lg_sl ([.ref (ad (d)), .int (v)])).length) Slot.unset).toArray = ls at hl ⊢
  have hl : lv_has ls 2 [(0, .ref (ad (d))), (1, .int (v))] := hl
  refine lv_aload_n hx hb dX12_columnByHeight_0 rfl (lv_at hl 0 rfl) ?_
  refine lv_iload_n hx hb dX12_columnByHeight_1 rfl (lv_at hl 1 rfl) ?_
  refine g_xafi (g_xrunV S hI hP hS (k := 1) (As := [.int (v)]) (rest := []) (mX12_cellByHeight l d sv fp dq dd dc ht dr pg wt wr mo mc ni po dn ra rk v hb_d hb_s hb_g hb_k hlt hz hht) q888 q890 q24 q82 q891 rfl rfl (by decide +kernel) ⟨(Nat.le_of_ble_eq_true rfl), (Nat.le_of_ble_eq_true rfl)⟩ rfl (hb_d.lt 0 (by decide)) (hb_d.2 0 (by decide)) rfl hl.1 rfl (Nat.le_of_ble_eq_true rfl) ⟨(Nat.le_of_ble_eq_true rfl), (Nat.le_of_ble_eq_true rfl)⟩ dX12_columnByHeight_2) hS (fun xc w1 xq ce H locs hpx hP hS hcell hcv hcl => ?_) (fun rz w1 H locs hq hP hS => ?_)
  · exact g_xout S hI hS htab hlocks hP hcell hcv hcl (hpx) (Nat.le_of_ble_eq_true rfl) (Nat.le_of_ble_eq_true rfl)
  · obtain ⟨⟨i, hi, hrz⟩, hex, hfx⟩ := hq
    rw [hrz]
    have hi36 := (inR_some (by decide) hi).1
    have hrl := rankN_lt (ht := ht) (rk := rk) (n := 36) (Nat.le_refl _) i hi36
    refine g_bipush S 6 dX12_columnByHeight_5 (by decide +kernel) ?_
    refine g_irem S (by omega) (by omega) (by omega) dX12_columnByHeight_7 ?_
    exact vx_ret (g_iret S hr hlocks hP hS (⟨⟨i, hi, rfl⟩, hex, hfx⟩) (fun _ _ => rfl) (Nat.le_of_ble_eq_true rfl) (Nat.le_of_ble_eq_true rfl) dX12_columnByHeight_8)
set_option maxHeartbeats 4000000 in
set_option maxRecDepth 100000 in
/-- a moth's cell -/
theorem mX12_cellOfMoth (l : Launch) {E : gE} {ad : Nat → Nat} {N : Nat} {w : Nat → va_E} (d : Nat) (sv : Nat) (fp dq : Option Nat) (dd : Int32) (dc : Option Nat) (ht dr pg wt wr mo : Nat → Nat) (mc ni po dn : Nat) (v : Int32) (hb_d : bkP N w d 1 (DMC E ad d sv fp dq dd dc)) (hb_s : bkP N w (d + 1) 7 (SHC E ad (d + 1) ht dr pg wt wr mo mc ni po dn)) (hlt : l.stackTraces = false) (hz : gHx E) (hm : mc ≤ 4) : gXi l yX12_cellOfMoth (lw_ws yX12_cellOfMoth cX12_cellOfMoth 2 (some .int)) ({ frames := 6, cells := 1, slots := 6, locals := 90 } : Room) E ad N w [.ref (ad (d)), .int (v)] (fun r w' => ∃ i, inR v mc = some i ∧ r = nI (mo i) ∧ w' = w) (fun xc w' => xc = xIO ∧ (inR v mc = none) ∧ w' = w) 1 6 := by
  refine vx_ofW (cc := cX12_cellOfMoth) (maxL := 2) (ret := (some .int)) (by decide) rfl ?_
  intro p e s m args below meth cd s₁ B hml htab hv
  obtain ⟨rfl, hI, hP⟩ := hv
  obtain ⟨S, hr, hlocks⟩ := gPre (ws := []) B hml (C := RX12) rfl
  have hx := S.1
  have hb := S.2.1
  have hS : va_S (gA E) s.heap s.heap [] := va_S.rf
  have hl := lv_entry ([.ref (ad (d)), .int (v)]) (n := 2) (Nat.le_of_ble_eq_true rfl)
  rw [lg_entry_eq]
  generalize (lg_sl ([.ref (ad (d)), .int (v)]) ++ List.replicate (2 - (lg_sl ([.ref (ad (d)), .int (v)])).length) Slot.unset).toArray = ls at hl ⊢
  have hl : lv_has ls 2 [(0, .ref (ad (d))), (1, .int (v))] := hl
  refine lv_aload_n hx hb dX12_cellOfMoth_0 rfl (lv_at hl 0 rfl) ?_
  refine g_get S hI hP uX12 rfl (fs := _) (hb_d.lt 0 (by decide)) (hb_d.2 0 (by decide)) 0 (by decide) q402 rfl (v := .ref (ad (d + 1))) rfl dX12_cellOfMoth_1 ?_
  refine lv_iload_n hx hb dX12_cellOfMoth_4 rfl (lv_at hl 1 rfl) ?_
  refine g_roi (g_runV S hI hP hS (k := 1) (As := [.int (v)]) (rest := []) (mX7_isMoth l (d + 1) ht dr pg wt wr mo mc ni po dn v hb_s hm) q1195 q514 q515 q83 q516 rfl rfl (by decide +kernel) ⟨Nat.le_of_ble_eq_true rfl, Nat.le_of_ble_eq_true rfl⟩ rfl (hb_s.lt 0 (by decide)) (hb_s.2 0 (by decide)) rfl hl.1 rfl (Nat.le_of_ble_eq_true rfl) ⟨(Nat.le_of_ble_eq_true rfl), (Nat.le_of_ble_eq_true rfl)⟩ dX12_cellOfMoth_5) hS (fun H locs hP hS => ?_)
  refine g_bne S (b := (inR v mc).isSome) (tgt := 22) dX12_cellOfMoth_8 (by decide) (fun hc => ?_) (fun hc => ?_)
  · obtain ⟨i, hi⟩ := Option.isSome_iff_exists.mp hc
    obtain ⟨hi4, hvi⟩ := inR_some (by omega) hi
    subst hvi
    refine lv_aload_n hx hb dX12_cellOfMoth_22 rfl (lv_at hl 0 rfl) ?_
    refine g_get S hI hP uX12 rfl (fs := _) (hb_d.lt 0 (by decide)) (hb_d.2 0 (by decide)) 0 (by decide) q402 rfl (v := .ref (ad (d + 1))) rfl dX12_cellOfMoth_23 ?_
    refine g_getN S hI hP uX7 rfl (fs := _) (hb_s.lt 0 (by decide)) (hb_s.2 0 (by decide)) 5 (by decide) q152 rfl (v := .ref (ad (d + 7))) rfl dX12_cellOfMoth_26 ?_
    refine lv_iload_n hx hb dX12_cellOfMoth_29 rfl (lv_at hl 1 rfl) ?_
    refine g_iald S hI hP (f := fun j => nI (mo j)) (hb_s.lt 6 (by decide)) (hb_s.2 6 (by decide)) (i) (by omega) (by decide) dX12_cellOfMoth_30 ?_
    exact vx_ret (g_iret S hr hlocks hP hS (⟨i, hi, rfl, rfl⟩) (fun _ _ => rfl) (Nat.le_of_ble_eq_true rfl) (Nat.le_of_ble_eq_true rfl) dX12_cellOfMoth_31)
  · exact g_throwW S hI hP hS hl.1 htab hlocks hlt hz (cls := "java/lang/IndexOutOfBoundsException") (text := "no such moth") q521 q108 (by decide) tx_298 (by decide +kernel) dX12_cellOfMoth_11 dX12_cellOfMoth_14 dX12_cellOfMoth_15 dX12_cellOfMoth_18 dX12_cellOfMoth_21 (Nat.le_of_ble_eq_true rfl) (Nat.le_of_ble_eq_true rfl) (Nat.le_of_ble_eq_true rfl) (Nat.le_of_ble_eq_true rfl) (Nat.le_of_ble_eq_true rfl) (Nat.le_of_ble_eq_true rfl) (⟨rfl, Option.not_isSome_iff_eq_none.mp (by rw [hc]; decide), rfl⟩)
set_option maxHeartbeats 4000000 in
set_option maxRecDepth 100000 in
/-- mothRow -/
theorem mX12_mothRow (l : Launch) {E : gE} {ad : Nat → Nat} {N : Nat} {w : Nat → va_E} (d : Nat) (sv : Nat) (fp dq : Option Nat) (dd : Int32) (dc : Option Nat) (ht dr pg wt wr mo : Nat → Nat) (mc ni po dn : Nat) (v : Int32) (hb_d : bkP N w d 1 (DMC E ad d sv fp dq dd dc)) (hb_s : bkP N w (d + 1) 7 (SHC E ad (d + 1) ht dr pg wt wr mo mc ni po dn)) (hlt : l.stackTraces = false) (hz : gHx E) (hm : mc ≤ 4) (hmo : ∀ k, k < mc → mo k < 36) : gXi l yX12_mothRow (lw_ws yX12_mothRow cX12_mothRow 2 (some .int)) ({ frames := 7, cells := 1, slots := 6, locals := 111 } : Room) E ad N w [.ref (ad (d)), .int (v)] (fun r w' => ∃ i, inR v mc = some i ∧ r = nI (mo i / 6) ∧ w' = w) (fun xc w' => xc = xIO ∧ (inR v mc = none) ∧ w' = w) 1 6 := by
  refine vx_ofW (cc := cX12_mothRow) (maxL := 2) (ret := (some .int)) (by decide) rfl ?_
  intro p e s m args below meth cd s₁ B hml htab hv
  obtain ⟨rfl, hI, hP⟩ := hv
  obtain ⟨S, hr, hlocks⟩ := gPre (ws := []) B hml (C := RX12) rfl
  have hx := S.1
  have hb := S.2.1
  have hS : va_S (gA E) s.heap s.heap [] := va_S.rf
  have hl := lv_entry ([.ref (ad (d)), .int (v)]) (n := 2) (Nat.le_of_ble_eq_true rfl)
  rw [lg_entry_eq]
  generalize (lg_sl ([.ref (ad (d)), .int (v)]) ++ List.replicate (2 - (lg_sl ([.ref (ad (d)), .int (v)])).length) Slot.unset).toArray = ls at hl ⊢
  have hl : lv_has ls 2 [(0, .ref (ad (d))), (1, .int (v))] := hl
  refine lv_aload_n hx hb dX12_mothRow_0 rfl (lv_at hl 0 rfl) ?_
  refine lv_iload_n hx hb dX12_mothRow_1 rfl (lv_at hl 1 rfl) ?_
  refine g_xafi (g_xrunV S hI hP hS (k := 1) (As := [.int (v)]) (rest := []) (mX12_cellOfMoth l d sv fp dq dd dc ht dr pg wt wr mo mc ni po dn v hb_d hb_s hlt hz hm) q1191 q1193 q36 q82 q1194 rfl rfl (by decide +kernel) ⟨(Nat.le_of_ble_eq_true rfl), (Nat.le_of_ble_eq_true rfl)⟩ rfl (hb_d.lt 0 (by decide)) (hb_d.2 0 (by decide)) rfl hl.1 rfl (Nat.le_of_ble_eq_true rfl) ⟨(Nat.le_of_ble_eq_true rfl), (Nat.le_of_ble_eq_true rfl)⟩ dX12_mothRow_2) hS (fun xc w1 xq ce H locs hpx hP hS hcell hcv hcl => ?_) (fun rz w1 H locs hq hP hS => ?_)
  · exact g_xout S hI hS htab hlocks hP hcell hcv hcl (hpx) (Nat.le_of_ble_eq_true rfl) (Nat.le_of_ble_eq_true rfl)
  · obtain ⟨i, hi, hrz, hw⟩ := hq
    rw [hw] at hP
    rw [hrz]
    have hmi := hmo i (inR_some (by omega) hi).1
    refine g_bipush S 6 dX12_mothRow_5 (by decide +kernel) ?_
    refine g_idiv S (by omega) (by omega) (by omega) dX12_mothRow_7 ?_
    exact vx_ret (g_iret S hr hlocks hP hS (⟨i, hi, rfl, rfl⟩) (fun _ _ => rfl) (Nat.le_of_ble_eq_true rfl) (Nat.le_of_ble_eq_true rfl) dX12_mothRow_8)
set_option maxHeartbeats 4000000 in
set_option maxRecDepth 100000 in
/-- mothColumn -/
theorem mX12_mothColumn (l : Launch) {E : gE} {ad : Nat → Nat} {N : Nat} {w : Nat → va_E} (d : Nat) (sv : Nat) (fp dq : Option Nat) (dd : Int32) (dc : Option Nat) (ht dr pg wt wr mo : Nat → Nat) (mc ni po dn : Nat) (v : Int32) (hb_d : bkP N w d 1 (DMC E ad d sv fp dq dd dc)) (hb_s : bkP N w (d + 1) 7 (SHC E ad (d + 1) ht dr pg wt wr mo mc ni po dn)) (hlt : l.stackTraces = false) (hz : gHx E) (hm : mc ≤ 4) (hmo : ∀ k, k < mc → mo k < 36) : gXi l yX12_mothColumn (lw_ws yX12_mothColumn cX12_mothColumn 2 (some .int)) ({ frames := 7, cells := 1, slots := 6, locals := 111 } : Room) E ad N w [.ref (ad (d)), .int (v)] (fun r w' => ∃ i, inR v mc = some i ∧ r = nI (mo i % 6) ∧ w' = w) (fun xc w' => xc = xIO ∧ (inR v mc = none) ∧ w' = w) 1 6 := by
  refine vx_ofW (cc := cX12_mothColumn) (maxL := 2) (ret := (some .int)) (by decide) rfl ?_
  intro p e s m args below meth cd s₁ B hml htab hv
  obtain ⟨rfl, hI, hP⟩ := hv
  obtain ⟨S, hr, hlocks⟩ := gPre (ws := []) B hml (C := RX12) rfl
  have hx := S.1
  have hb := S.2.1
  have hS : va_S (gA E) s.heap s.heap [] := va_S.rf
  have hl := lv_entry ([.ref (ad (d)), .int (v)]) (n := 2) (Nat.le_of_ble_eq_true rfl)
  rw [lg_entry_eq]
  generalize (lg_sl ([.ref (ad (d)), .int (v)]) ++ List.replicate (2 - (lg_sl ([.ref (ad (d)), .int (v)])).length) Slot.unset).toArray = ls at hl ⊢
  have hl : lv_has ls 2 [(0, .ref (ad (d))), (1, .int (v))] := hl
  refine lv_aload_n hx hb dX12_mothColumn_0 rfl (lv_at hl 0 rfl) ?_
  refine lv_iload_n hx hb dX12_mothColumn_1 rfl (lv_at hl 1 rfl) ?_
  refine g_xafi (g_xrunV S hI hP hS (k := 1) (As := [.int (v)]) (rest := []) (mX12_cellOfMoth l d sv fp dq dd dc ht dr pg wt wr mo mc ni po dn v hb_d hb_s hlt hz hm) q1191 q1193 q36 q82 q1194 rfl rfl (by decide +kernel) ⟨(Nat.le_of_ble_eq_true rfl), (Nat.le_of_ble_eq_true rfl)⟩ rfl (hb_d.lt 0 (by decide)) (hb_d.2 0 (by decide)) rfl hl.1 rfl (Nat.le_of_ble_eq_true rfl) ⟨(Nat.le_of_ble_eq_true rfl), (Nat.le_of_ble_eq_true rfl)⟩ dX12_mothColumn_2) hS (fun xc w1 xq ce H locs hpx hP hS hcell hcv hcl => ?_) (fun rz w1 H locs hq hP hS => ?_)
  · exact g_xout S hI hS htab hlocks hP hcell hcv hcl (hpx) (Nat.le_of_ble_eq_true rfl) (Nat.le_of_ble_eq_true rfl)
  · obtain ⟨i, hi, hrz, hw⟩ := hq
    rw [hw] at hP
    rw [hrz]
    have hmi := hmo i (inR_some (by omega) hi).1
    refine g_bipush S 6 dX12_mothColumn_5 (by decide +kernel) ?_
    refine g_irem S (by omega) (by omega) (by omega) dX12_mothColumn_7 ?_
    exact vx_ret (g_iret S hr hlocks hP hS (⟨i, hi, rfl, rfl⟩) (fun _ _ => rfl) (Nat.le_of_ble_eq_true rfl) (Nat.le_of_ble_eq_true rfl) dX12_mothColumn_8)
set_option maxHeartbeats 4000000 in
set_option maxRecDepth 100000 in
/-- height -/
theorem mX12_height (l : Launch) {E : gE} {ad : Nat → Nat} {N : Nat} {w : Nat → va_E} (d : Nat) (sv : Nat) (fp dq : Option Nat) (dd : Int32) (dc : Option Nat) (ht dr pg wt wr mo : Nat → Nat) (mc ni po dn : Nat) (x y : Int32) (hb_d : bkP N w d 1 (DMC E ad d sv fp dq dd dc)) (hb_s : bkP N w (d + 1) 7 (SHC E ad (d + 1) ht dr pg wt wr mo mc ni po dn)) (hlt : l.stackTraces = false) (hz : gHx E)  : gXi l yX12_height (lw_ws yX12_height cX12_height 3 (some .int)) ({ frames := 7, cells := 1, slots := 6, locals := 112 } : Room) E ad N w [.ref (ad (d)), .int (x), .int (y)] (fun r w' => ∃ k, cellV x y = some k ∧ r = nI (ht k) ∧ w' = w) (fun xc w' => xc = xIO ∧ (cellV x y = none) ∧ w' = w) 1 6 := by
  refine vx_ofW (cc := cX12_height) (maxL := 3) (ret := (some .int)) (by decide) rfl ?_
  intro p e s m args below meth cd s₁ B hml htab hv
  obtain ⟨rfl, hI, hP⟩ := hv
  obtain ⟨S, hr, hlocks⟩ := gPre (ws := []) B hml (C := RX12) rfl
  have hx := S.1
  have hb := S.2.1
  have hS : va_S (gA E) s.heap s.heap [] := va_S.rf
  have hl := lv_entry ([.ref (ad (d)), .int (x), .int (y)]) (n := 3) (Nat.le_of_ble_eq_true rfl)
  rw [lg_entry_eq]
  generalize (lg_sl ([.ref (ad (d)), .int (x), .int (y)]) ++ List.replicate (3 - (lg_sl ([.ref (ad (d)), .int (x), .int (y)])).length) Slot.unset).toArray = ls at hl ⊢
  have hl : lv_has ls 3 [(0, .ref (ad (d))), (1, .int (x)), (2, .int (y))] := hl
  refine lv_aload_n hx hb dX12_height_0 rfl (lv_at hl 0 rfl) ?_
  refine g_get S hI hP uX12 rfl (fs := _) (hb_d.lt 0 (by decide)) (hb_d.2 0 (by decide)) 0 (by decide) q402 rfl (v := .ref (ad (d + 1))) rfl dX12_height_1 ?_
  refine g_getN S hI hP uX7 rfl (fs := _) (hb_s.lt 0 (by decide)) (hb_s.2 0 (by decide)) 0 (by decide) q143 rfl (v := .ref (ad (d + 2))) rfl dX12_height_4 ?_
  refine lv_iload_n hx hb dX12_height_7 rfl (lv_at hl 1 rfl) ?_
  refine lv_iload_n hx hb dX12_height_8 rfl (lv_at hl 2 rfl) ?_
  refine g_xafi (g_xrunS S hI hP hS (k := 2) (As := [.int (x), .int (y)]) (rest := [.ref (ad (d + 2))]) (mX12_requiredCell l x y hlt hz) q869 q870 q82 q871 rfl rfl (by decide +kernel) ⟨(Nat.le_of_ble_eq_true rfl), (Nat.le_of_ble_eq_true rfl)⟩ rfl hl.1 rfl (Nat.le_of_ble_eq_true rfl) ⟨(Nat.le_of_ble_eq_true rfl), (Nat.le_of_ble_eq_true rfl)⟩ dX12_height_9) hS (fun xc w1 xq ce H locs hpx hP hS hcell hcv hcl => ?_) (fun rz w1 H locs hq hP hS => ?_)
  · exact g_xout S hI hS htab hlocks hP hcell hcv hcl (hpx) (Nat.le_of_ble_eq_true rfl) (Nat.le_of_ble_eq_true rfl)
  · obtain ⟨k, hck, hrk, hww_k⟩ := hq
    rw [hww_k] at hP
    rw [hrk]
    have hkk := cellV_lt hck
    refine g_iald S hI hP (f := fun j => nI (ht j)) (hb_s.lt 1 (by decide)) (hb_s.2 1 (by decide)) (k) (hkk) (by decide) dX12_height_12 ?_
    exact vx_ret (g_iret S hr hlocks hP hS (⟨k, hck, rfl, rfl⟩) (fun _ _ => rfl) (Nat.le_of_ble_eq_true rfl) (Nat.le_of_ble_eq_true rfl) dX12_height_13)
set_option maxHeartbeats 4000000 in
set_option maxRecDepth 100000 in
/-- isPegged -/
theorem mX12_isPegged (l : Launch) {E : gE} {ad : Nat → Nat} {N : Nat} {w : Nat → va_E} (d : Nat) (sv : Nat) (fp dq : Option Nat) (dd : Int32) (dc : Option Nat) (ht dr pg wt wr mo : Nat → Nat) (mc ni po dn : Nat) (x y : Int32) (hb_d : bkP N w d 1 (DMC E ad d sv fp dq dd dc)) (hb_s : bkP N w (d + 1) 7 (SHC E ad (d + 1) ht dr pg wt wr mo mc ni po dn)) (hlt : l.stackTraces = false) (hz : gHx E) (hpg : ∀ k, k < 36 → pg k ≤ 1) : gXi l yX12_isPegged (lw_ws yX12_isPegged cX12_isPegged 3 (some .boolean)) ({ frames := 7, cells := 1, slots := 6, locals := 112 } : Room) E ad N w [.ref (ad (d)), .int (x), .int (y)] (fun r w' => ∃ k, cellV x y = some k ∧ r = nI (pg k) ∧ w' = w) (fun xc w' => xc = xIO ∧ (cellV x y = none) ∧ w' = w) 1 6 := by
  refine vx_ofW (cc := cX12_isPegged) (maxL := 3) (ret := (some .boolean)) (by decide) rfl ?_
  intro p e s m args below meth cd s₁ B hml htab hv
  obtain ⟨rfl, hI, hP⟩ := hv
  obtain ⟨S, hr, hlocks⟩ := gPre (ws := []) B hml (C := RX12) rfl
  have hx := S.1
  have hb := S.2.1
  have hS : va_S (gA E) s.heap s.heap [] := va_S.rf
  have hl := lv_entry ([.ref (ad (d)), .int (x), .int (y)]) (n := 3) (Nat.le_of_ble_eq_true rfl)
  rw [lg_entry_eq]
  generalize (lg_sl ([.ref (ad (d)), .int (x), .int (y)]) ++ List.replicate (3 - (lg_sl ([.ref (ad (d)), .int (x), .int (y)])).length) Slot.unset).toArray = ls at hl ⊢
  have hl : lv_has ls 3 [(0, .ref (ad (d))), (1, .int (x)), (2, .int (y))] := hl
  refine lv_aload_n hx hb dX12_isPegged_0 rfl (lv_at hl 0 rfl) ?_
  refine g_get S hI hP uX12 rfl (fs := _) (hb_d.lt 0 (by decide)) (hb_d.2 0 (by decide)) 0 (by decide) q402 rfl (v := .ref (ad (d + 1))) rfl dX12_isPegged_1 ?_
  refine g_getN S hI hP uX7 rfl (fs := _) (hb_s.lt 0 (by decide)) (hb_s.2 0 (by decide)) 2 (by decide) q146 rfl (v := .ref (ad (d + 4))) rfl dX12_isPegged_4 ?_
  refine lv_iload_n hx hb dX12_isPegged_7 rfl (lv_at hl 1 rfl) ?_
  refine lv_iload_n hx hb dX12_isPegged_8 rfl (lv_at hl 2 rfl) ?_
  refine g_xafi (g_xrunS S hI hP hS (k := 2) (As := [.int (x), .int (y)]) (rest := [.ref (ad (d + 4))]) (mX12_requiredCell l x y hlt hz) q869 q870 q82 q871 rfl rfl (by decide +kernel) ⟨(Nat.le_of_ble_eq_true rfl), (Nat.le_of_ble_eq_true rfl)⟩ rfl hl.1 rfl (Nat.le_of_ble_eq_true rfl) ⟨(Nat.le_of_ble_eq_true rfl), (Nat.le_of_ble_eq_true rfl)⟩ dX12_isPegged_9) hS (fun xc w1 xq ce H locs hpx hP hS hcell hcv hcl => ?_) (fun rz w1 H locs hq hP hS => ?_)
  · exact g_xout S hI hS htab hlocks hP hcell hcv hcl (hpx) (Nat.le_of_ble_eq_true rfl) (Nat.le_of_ble_eq_true rfl)
  · obtain ⟨k, hck, hrk, hww_k⟩ := hq
    rw [hww_k] at hP
    rw [hrk]
    have hkk := cellV_lt hck
    refine g_zald S hI hP (f := fun j => nI (pg j)) (hb_s.lt 3 (by decide)) (hb_s.2 3 (by decide)) (k) (hkk) (by decide) dX12_isPegged_12 ?_
    exact vx_ret (g_zret S hr hlocks (by rcases (show pg k = 0 ∨ pg k = 1 by have := hpg k hkk; omega) with h | h <;> rw [h] <;> decide +kernel) hP hS (⟨k, hck, rfl, rfl⟩) (fun _ _ => rfl) (Nat.le_of_ble_eq_true rfl) (Nat.le_of_ble_eq_true rfl) dX12_isPegged_13)
set_option maxHeartbeats 4000000 in
set_option maxRecDepth 100000 in
/-- water -/
theorem mX12_water (l : Launch) {E : gE} {ad : Nat → Nat} {N : Nat} {w : Nat → va_E} (d : Nat) (sv : Nat) (fp dq : Option Nat) (dd : Int32) (dc : Option Nat) (ht dr pg wt wr mo : Nat → Nat) (mc ni po dn : Nat) (x y : Int32) (hb_d : bkP N w d 1 (DMC E ad d sv fp dq dd dc)) (hb_s : bkP N w (d + 1) 7 (SHC E ad (d + 1) ht dr pg wt wr mo mc ni po dn)) (hlt : l.stackTraces = false) (hz : gHx E)  : gXi l yX12_water (lw_ws yX12_water cX12_water 3 (some .int)) ({ frames := 7, cells := 1, slots := 6, locals := 112 } : Room) E ad N w [.ref (ad (d)), .int (x), .int (y)] (fun r w' => ∃ k, cellV x y = some k ∧ r = nI (wt k) ∧ w' = w) (fun xc w' => xc = xIO ∧ (cellV x y = none) ∧ w' = w) 1 6 := by
  refine vx_ofW (cc := cX12_water) (maxL := 3) (ret := (some .int)) (by decide) rfl ?_
  intro p e s m args below meth cd s₁ B hml htab hv
  obtain ⟨rfl, hI, hP⟩ := hv
  obtain ⟨S, hr, hlocks⟩ := gPre (ws := []) B hml (C := RX12) rfl
  have hx := S.1
  have hb := S.2.1
  have hS : va_S (gA E) s.heap s.heap [] := va_S.rf
  have hl := lv_entry ([.ref (ad (d)), .int (x), .int (y)]) (n := 3) (Nat.le_of_ble_eq_true rfl)
  rw [lg_entry_eq]
  generalize (lg_sl ([.ref (ad (d)), .int (x), .int (y)]) ++ List.replicate (3 - (lg_sl ([.ref (ad (d)), .int (x), .int (y)])).length) Slot.unset).toArray = ls at hl ⊢
  have hl : lv_has ls 3 [(0, .ref (ad (d))), (1, .int (x)), (2, .int (y))] := hl
  refine lv_aload_n hx hb dX12_water_0 rfl (lv_at hl 0 rfl) ?_
  refine g_get S hI hP uX12 rfl (fs := _) (hb_d.lt 0 (by decide)) (hb_d.2 0 (by decide)) 0 (by decide) q402 rfl (v := .ref (ad (d + 1))) rfl dX12_water_1 ?_
  refine g_getN S hI hP uX7 rfl (fs := _) (hb_s.lt 0 (by decide)) (hb_s.2 0 (by decide)) 3 (by decide) q148 rfl (v := .ref (ad (d + 5))) rfl dX12_water_4 ?_
  refine lv_iload_n hx hb dX12_water_7 rfl (lv_at hl 1 rfl) ?_
  refine lv_iload_n hx hb dX12_water_8 rfl (lv_at hl 2 rfl) ?_
  refine g_xafi (g_xrunS S hI hP hS (k := 2) (As := [.int (x), .int (y)]) (rest := [.ref (ad (d + 5))]) (mX12_requiredCell l x y hlt hz) q869 q870 q82 q871 rfl rfl (by decide +kernel) ⟨(Nat.le_of_ble_eq_true rfl), (Nat.le_of_ble_eq_true rfl)⟩ rfl hl.1 rfl (Nat.le_of_ble_eq_true rfl) ⟨(Nat.le_of_ble_eq_true rfl), (Nat.le_of_ble_eq_true rfl)⟩ dX12_water_9) hS (fun xc w1 xq ce H locs hpx hP hS hcell hcv hcl => ?_) (fun rz w1 H locs hq hP hS => ?_)
  · exact g_xout S hI hS htab hlocks hP hcell hcv hcl (hpx) (Nat.le_of_ble_eq_true rfl) (Nat.le_of_ble_eq_true rfl)
  · obtain ⟨k, hck, hrk, hww_k⟩ := hq
    rw [hww_k] at hP
    rw [hrk]
    have hkk := cellV_lt hck
    refine g_iald S hI hP (f := fun j => nI (wt j)) (hb_s.lt 4 (by decide)) (hb_s.2 4 (by decide)) (k) (hkk) (by decide) dX12_water_12 ?_
    exact vx_ret (g_iret S hr hlocks hP hS (⟨k, hck, rfl, rfl⟩) (fun _ _ => rfl) (Nat.le_of_ble_eq_true rfl) (Nat.le_of_ble_eq_true rfl) dX12_water_13)
set_option maxHeartbeats 4000000 in
set_option maxRecDepth 100000 in
/-- wear -/
theorem mX12_wear (l : Launch) {E : gE} {ad : Nat → Nat} {N : Nat} {w : Nat → va_E} (d : Nat) (sv : Nat) (fp dq : Option Nat) (dd : Int32) (dc : Option Nat) (ht dr pg wt wr mo : Nat → Nat) (mc ni po dn : Nat) (x y : Int32) (hb_d : bkP N w d 1 (DMC E ad d sv fp dq dd dc)) (hb_s : bkP N w (d + 1) 7 (SHC E ad (d + 1) ht dr pg wt wr mo mc ni po dn)) (hlt : l.stackTraces = false) (hz : gHx E)  : gXi l yX12_wear (lw_ws yX12_wear cX12_wear 3 (some .int)) ({ frames := 7, cells := 1, slots := 6, locals := 112 } : Room) E ad N w [.ref (ad (d)), .int (x), .int (y)] (fun r w' => ∃ k, cellV x y = some k ∧ r = nI (wr k) ∧ w' = w) (fun xc w' => xc = xIO ∧ (cellV x y = none) ∧ w' = w) 1 6 := by
  refine vx_ofW (cc := cX12_wear) (maxL := 3) (ret := (some .int)) (by decide) rfl ?_
  intro p e s m args below meth cd s₁ B hml htab hv
  obtain ⟨rfl, hI, hP⟩ := hv
  obtain ⟨S, hr, hlocks⟩ := gPre (ws := []) B hml (C := RX12) rfl
  have hx := S.1
  have hb := S.2.1
  have hS : va_S (gA E) s.heap s.heap [] := va_S.rf
  have hl := lv_entry ([.ref (ad (d)), .int (x), .int (y)]) (n := 3) (Nat.le_of_ble_eq_true rfl)
  rw [lg_entry_eq]
  generalize (lg_sl ([.ref (ad (d)), .int (x), .int (y)]) ++ List.replicate (3 - (lg_sl ([.ref (ad (d)), .int (x), .int (y)])).length) Slot.unset).toArray = ls at hl ⊢
  have hl : lv_has ls 3 [(0, .ref (ad (d))), (1, .int (x)), (2, .int (y))] := hl
  refine lv_aload_n hx hb dX12_wear_0 rfl (lv_at hl 0 rfl) ?_
  refine g_get S hI hP uX12 rfl (fs := _) (hb_d.lt 0 (by decide)) (hb_d.2 0 (by decide)) 0 (by decide) q402 rfl (v := .ref (ad (d + 1))) rfl dX12_wear_1 ?_
  refine g_getN S hI hP uX7 rfl (fs := _) (hb_s.lt 0 (by decide)) (hb_s.2 0 (by decide)) 4 (by decide) q150 rfl (v := .ref (ad (d + 6))) rfl dX12_wear_4 ?_
  refine lv_iload_n hx hb dX12_wear_7 rfl (lv_at hl 1 rfl) ?_
  refine lv_iload_n hx hb dX12_wear_8 rfl (lv_at hl 2 rfl) ?_
  refine g_xafi (g_xrunS S hI hP hS (k := 2) (As := [.int (x), .int (y)]) (rest := [.ref (ad (d + 6))]) (mX12_requiredCell l x y hlt hz) q869 q870 q82 q871 rfl rfl (by decide +kernel) ⟨(Nat.le_of_ble_eq_true rfl), (Nat.le_of_ble_eq_true rfl)⟩ rfl hl.1 rfl (Nat.le_of_ble_eq_true rfl) ⟨(Nat.le_of_ble_eq_true rfl), (Nat.le_of_ble_eq_true rfl)⟩ dX12_wear_9) hS (fun xc w1 xq ce H locs hpx hP hS hcell hcv hcl => ?_) (fun rz w1 H locs hq hP hS => ?_)
  · exact g_xout S hI hS htab hlocks hP hcell hcv hcl (hpx) (Nat.le_of_ble_eq_true rfl) (Nat.le_of_ble_eq_true rfl)
  · obtain ⟨k, hck, hrk, hww_k⟩ := hq
    rw [hww_k] at hP
    rw [hrk]
    have hkk := cellV_lt hck
    refine g_iald S hI hP (f := fun j => nI (wr j)) (hb_s.lt 5 (by decide)) (hb_s.2 5 (by decide)) (k) (hkk) (by decide) dX12_wear_12 ?_
    exact vx_ret (g_iret S hr hlocks hP hS (⟨k, hck, rfl, rfl⟩) (fun _ _ => rfl) (Nat.le_of_ble_eq_true rfl) (Nat.le_of_ble_eq_true rfl) dX12_wear_13)
set_option maxHeartbeats 4000000 in
set_option maxRecDepth 100000 in
/-- endRow -/
theorem mX12_endRow (l : Launch) {E : gE} {ad : Nat → Nat} {N : Nat} {w : Nat → va_E} (d : Nat) (sv : Nat) (fp dq : Option Nat) (dd : Int32) (dc : Option Nat) (ht dr pg wt wr mo : Nat → Nat) (mc ni po dn : Nat) (x y : Int32) (hb_d : bkP N w d 1 (DMC E ad d sv fp dq dd dc)) (hb_s : bkP N w (d + 1) 7 (SHC E ad (d + 1) ht dr pg wt wr mo mc ni po dn)) (hlt : l.stackTraces = false) (hz : gHx E) (hwr : ∀ k, k < 36 → wr k ≤ 3) (hht : ∀ k, k < 36 → ht k ≤ 99) : gXi l yX12_endRow (lw_ws yX12_endRow cX12_endRow 3 (some .int)) ({ frames := 7, cells := 1, slots := 6, locals := 112 } : Room) E ad N w [.ref (ad (d)), .int (x), .int (y)] (fun r w' => ∃ k, cellV x y = some k ∧ r = nI (endN ht wr 36 k / 6) ∧ w' = w) (fun xc w' => xc = xIO ∧ (cellV x y = none) ∧ w' = w) 1 6 := by
  refine vx_ofW (cc := cX12_endRow) (maxL := 3) (ret := (some .int)) (by decide) rfl ?_
  intro p e s m args below meth cd s₁ B hml htab hv
  obtain ⟨rfl, hI, hP⟩ := hv
  obtain ⟨S, hr, hlocks⟩ := gPre (ws := []) B hml (C := RX12) rfl
  have hx := S.1
  have hb := S.2.1
  have hS : va_S (gA E) s.heap s.heap [] := va_S.rf
  have hl := lv_entry ([.ref (ad (d)), .int (x), .int (y)]) (n := 3) (Nat.le_of_ble_eq_true rfl)
  rw [lg_entry_eq]
  generalize (lg_sl ([.ref (ad (d)), .int (x), .int (y)]) ++ List.replicate (3 - (lg_sl ([.ref (ad (d)), .int (x), .int (y)])).length) Slot.unset).toArray = ls at hl ⊢
  have hl : lv_has ls 3 [(0, .ref (ad (d))), (1, .int (x)), (2, .int (y))] := hl
  refine lv_aload_n hx hb dX12_endRow_0 rfl (lv_at hl 0 rfl) ?_
  refine g_get S hI hP uX12 rfl (fs := _) (hb_d.lt 0 (by decide)) (hb_d.2 0 (by decide)) 0 (by decide) q402 rfl (v := .ref (ad (d + 1))) rfl dX12_endRow_1 ?_
  refine lv_iload_n hx hb dX12_endRow_4 rfl (lv_at hl 1 rfl) ?_
  refine lv_iload_n hx hb dX12_endRow_5 rfl (lv_at hl 2 rfl) ?_
  refine g_xafi (g_xrunS S hI hP hS (k := 2) (As := [.int (x), .int (y)]) (rest := [.ref (ad (d + 1))]) (mX12_requiredCell l x y hlt hz) q869 q870 q82 q871 rfl rfl (by decide +kernel) ⟨(Nat.le_of_ble_eq_true rfl), (Nat.le_of_ble_eq_true rfl)⟩ rfl hl.1 rfl (Nat.le_of_ble_eq_true rfl) ⟨(Nat.le_of_ble_eq_true rfl), (Nat.le_of_ble_eq_true rfl)⟩ dX12_endRow_6) hS (fun xc w1 xq ce H locs hpx hP hS hcell hcv hcl => ?_) (fun rz w1 H locs hq hP hS => ?_)
  · exact g_xout S hI hS htab hlocks hP hcell hcv hcl (hpx) (Nat.le_of_ble_eq_true rfl) (Nat.le_of_ble_eq_true rfl)
  · obtain ⟨k, hck, hrk, hww_k⟩ := hq
    rw [hww_k] at hP
    rw [hrk]
    have hkk := cellV_lt hck
    have hek := endN_lt (ht := ht) (wr := wr) (n := 36) hkk
    refine g_roi (g_runV S hI hP hS (k := 1) (As := [.int (nI (k))]) (rest := []) (mX7_endOf l (d + 1) ht dr pg wt wr mo mc ni po dn k hb_s hkk hwr hht) q1005 q689 q690 q83 q691 rfl rfl (by decide +kernel) ⟨Nat.le_of_ble_eq_true rfl, Nat.le_of_ble_eq_true rfl⟩ rfl (hb_s.lt 0 (by decide)) (hb_s.2 0 (by decide)) rfl hl.1 rfl (Nat.le_of_ble_eq_true rfl) ⟨(Nat.le_of_ble_eq_true rfl), (Nat.le_of_ble_eq_true rfl)⟩ dX12_endRow_9) hS (fun H locs hP hS => ?_)
    refine g_bipush S 6 dX12_endRow_12 (by decide +kernel) ?_
    refine g_idiv S (by omega) (by omega) (by omega) dX12_endRow_14 ?_
    exact vx_ret (g_iret S hr hlocks hP hS (⟨k, hck, rfl, rfl⟩) (fun _ _ => rfl) (Nat.le_of_ble_eq_true rfl) (Nat.le_of_ble_eq_true rfl) dX12_endRow_15)
set_option maxHeartbeats 4000000 in
set_option maxRecDepth 100000 in
/-- endColumn -/
theorem mX12_endColumn (l : Launch) {E : gE} {ad : Nat → Nat} {N : Nat} {w : Nat → va_E} (d : Nat) (sv : Nat) (fp dq : Option Nat) (dd : Int32) (dc : Option Nat) (ht dr pg wt wr mo : Nat → Nat) (mc ni po dn : Nat) (x y : Int32) (hb_d : bkP N w d 1 (DMC E ad d sv fp dq dd dc)) (hb_s : bkP N w (d + 1) 7 (SHC E ad (d + 1) ht dr pg wt wr mo mc ni po dn)) (hlt : l.stackTraces = false) (hz : gHx E) (hwr : ∀ k, k < 36 → wr k ≤ 3) (hht : ∀ k, k < 36 → ht k ≤ 99) : gXi l yX12_endColumn (lw_ws yX12_endColumn cX12_endColumn 3 (some .int)) ({ frames := 7, cells := 1, slots := 6, locals := 112 } : Room) E ad N w [.ref (ad (d)), .int (x), .int (y)] (fun r w' => ∃ k, cellV x y = some k ∧ r = nI (endN ht wr 36 k % 6) ∧ w' = w) (fun xc w' => xc = xIO ∧ (cellV x y = none) ∧ w' = w) 1 6 := by
  refine vx_ofW (cc := cX12_endColumn) (maxL := 3) (ret := (some .int)) (by decide) rfl ?_
  intro p e s m args below meth cd s₁ B hml htab hv
  obtain ⟨rfl, hI, hP⟩ := hv
  obtain ⟨S, hr, hlocks⟩ := gPre (ws := []) B hml (C := RX12) rfl
  have hx := S.1
  have hb := S.2.1
  have hS : va_S (gA E) s.heap s.heap [] := va_S.rf
  have hl := lv_entry ([.ref (ad (d)), .int (x), .int (y)]) (n := 3) (Nat.le_of_ble_eq_true rfl)
  rw [lg_entry_eq]
  generalize (lg_sl ([.ref (ad (d)), .int (x), .int (y)]) ++ List.replicate (3 - (lg_sl ([.ref (ad (d)), .int (x), .int (y)])).length) Slot.unset).toArray = ls at hl ⊢
  have hl : lv_has ls 3 [(0, .ref (ad (d))), (1, .int (x)), (2, .int (y))] := hl
  refine lv_aload_n hx hb dX12_endColumn_0 rfl (lv_at hl 0 rfl) ?_
  refine g_get S hI hP uX12 rfl (fs := _) (hb_d.lt 0 (by decide)) (hb_d.2 0 (by decide)) 0 (by decide) q402 rfl (v := .ref (ad (d + 1))) rfl dX12_endColumn_1 ?_
  refine lv_iload_n hx hb dX12_endColumn_4 rfl (lv_at hl 1 rfl) ?_
  refine lv_iload_n hx hb dX12_endColumn_5 rfl (lv_at hl 2 rfl) ?_
  refine g_xafi (g_xrunS S hI hP hS (k := 2) (As := [.int (x), .int (y)]) (rest := [.ref (ad (d + 1))]) (mX12_requiredCell l x y hlt hz) q869 q870 q82 q871 rfl rfl (by decide +kernel) ⟨(Nat.le_of_ble_eq_true rfl), (Nat.le_of_ble_eq_true rfl)⟩ rfl hl.1 rfl (Nat.le_of_ble_eq_true rfl) ⟨(Nat.le_of_ble_eq_true rfl), (Nat.le_of_ble_eq_true rfl)⟩ dX12_endColumn_6) hS (fun xc w1 xq ce H locs hpx hP hS hcell hcv hcl => ?_) (fun rz w1 H locs hq hP hS => ?_)
  · exact g_xout S hI hS htab hlocks hP hcell hcv hcl (hpx) (Nat.le_of_ble_eq_true rfl) (Nat.le_of_ble_eq_true rfl)
  · obtain ⟨k, hck, hrk, hww_k⟩ := hq
    rw [hww_k] at hP
    rw [hrk]
    have hkk := cellV_lt hck
    have hek := endN_lt (ht := ht) (wr := wr) (n := 36) hkk
    refine g_roi (g_runV S hI hP hS (k := 1) (As := [.int (nI (k))]) (rest := []) (mX7_endOf l (d + 1) ht dr pg wt wr mo mc ni po dn k hb_s hkk hwr hht) q1005 q689 q690 q83 q691 rfl rfl (by decide +kernel) ⟨Nat.le_of_ble_eq_true rfl, Nat.le_of_ble_eq_true rfl⟩ rfl (hb_s.lt 0 (by decide)) (hb_s.2 0 (by decide)) rfl hl.1 rfl (Nat.le_of_ble_eq_true rfl) ⟨(Nat.le_of_ble_eq_true rfl), (Nat.le_of_ble_eq_true rfl)⟩ dX12_endColumn_9) hS (fun H locs hP hS => ?_)
    refine g_bipush S 6 dX12_endColumn_12 (by decide +kernel) ?_
    refine g_irem S (by omega) (by omega) (by omega) dX12_endColumn_14 ?_
    exact vx_ret (g_iret S hr hlocks hP hS (⟨k, hck, rfl, rfl⟩) (fun _ _ => rfl) (Nat.le_of_ble_eq_true rfl) (Nat.le_of_ble_eq_true rfl) dX12_endColumn_15)
set_option maxHeartbeats 4000000 in
set_option maxRecDepth 100000 in
/-- slope -/
theorem mX12_slope (l : Launch) {E : gE} {ad : Nat → Nat} {N : Nat} {w : Nat → va_E} (d : Nat) (sv : Nat) (fp dq : Option Nat) (dd : Int32) (dc : Option Nat) (ht dr pg wt wr mo : Nat → Nat) (mc ni po dn : Nat) (x y : Int32) (hb_d : bkP N w d 1 (DMC E ad d sv fp dq dd dc)) (hb_s : bkP N w (d + 1) 7 (SHC E ad (d + 1) ht dr pg wt wr mo mc ni po dn)) (hlt : l.stackTraces = false) (hz : gHx E) (hht : ∀ k, k < 36 → ht k ≤ 99) : gXf l yX12_slope (lw_ws yX12_slope cX12_slope 3 (some .float)) ({ frames := 7, cells := 1, slots := 6, locals := 112 } : Room) E ad N w [.ref (ad (d)), .int (x), .int (y)] (fun r w' => ∃ k, cellV x y = some k ∧ r = FP.fdiv (FP.i2f (nI (slS ht k 4))) (FP.i2f (nI (slC k 4))) ∧ w' = w) (fun xc w' => xc = xIO ∧ (cellV x y = none) ∧ w' = w) 1 6 := by
  refine vx_ofW (cc := cX12_slope) (maxL := 3) (ret := (some .float)) (by decide) rfl ?_
  intro p e s m args below meth cd s₁ B hml htab hv
  obtain ⟨rfl, hI, hP⟩ := hv
  obtain ⟨S, hr, hlocks⟩ := gPre (ws := []) B hml (C := RX12) rfl
  have hx := S.1
  have hb := S.2.1
  have hS : va_S (gA E) s.heap s.heap [] := va_S.rf
  have hl := lv_entry ([.ref (ad (d)), .int (x), .int (y)]) (n := 3) (Nat.le_of_ble_eq_true rfl)
  rw [lg_entry_eq]
  generalize (lg_sl ([.ref (ad (d)), .int (x), .int (y)]) ++ List.replicate (3 - (lg_sl ([.ref (ad (d)), .int (x), .int (y)])).length) Slot.unset).toArray = ls at hl ⊢
  have hl : lv_has ls 3 [(0, .ref (ad (d))), (1, .int (x)), (2, .int (y))] := hl
  refine lv_aload_n hx hb dX12_slope_0 rfl (lv_at hl 0 rfl) ?_
  refine g_get S hI hP uX12 rfl (fs := _) (hb_d.lt 0 (by decide)) (hb_d.2 0 (by decide)) 0 (by decide) q402 rfl (v := .ref (ad (d + 1))) rfl dX12_slope_1 ?_
  refine lv_iload_n hx hb dX12_slope_4 rfl (lv_at hl 1 rfl) ?_
  refine lv_iload_n hx hb dX12_slope_5 rfl (lv_at hl 2 rfl) ?_
  refine g_xafi (g_xrunS S hI hP hS (k := 2) (As := [.int (x), .int (y)]) (rest := [.ref (ad (d + 1))]) (mX12_requiredCell l x y hlt hz) q869 q870 q82 q871 rfl rfl (by decide +kernel) ⟨(Nat.le_of_ble_eq_true rfl), (Nat.le_of_ble_eq_true rfl)⟩ rfl hl.1 rfl (Nat.le_of_ble_eq_true rfl) ⟨(Nat.le_of_ble_eq_true rfl), (Nat.le_of_ble_eq_true rfl)⟩ dX12_slope_6) hS (fun xc w1 xq ce H locs hpx hP hS hcell hcv hcl => ?_) (fun rz w1 H locs hq hP hS => ?_)
  · exact g_xout S hI hS htab hlocks hP hcell hcv hcl (hpx) (Nat.le_of_ble_eq_true rfl) (Nat.le_of_ble_eq_true rfl)
  · obtain ⟨k, hck, hrk, hww_k⟩ := hq
    rw [hww_k] at hP
    rw [hrk]
    have hkk := cellV_lt hck
    refine g_rof (g_runV S hI hP hS (k := 1) (As := [.int (nI (k))]) (rest := []) (mX7_meanDifference l (d + 1) ht dr pg wt wr mo mc ni po dn k hb_s hkk hht) q1228 q1229 q1230 q83 q1231 rfl rfl (by decide +kernel) ⟨Nat.le_of_ble_eq_true rfl, Nat.le_of_ble_eq_true rfl⟩ rfl (hb_s.lt 0 (by decide)) (hb_s.2 0 (by decide)) rfl hl.1 rfl (Nat.le_of_ble_eq_true rfl) ⟨(Nat.le_of_ble_eq_true rfl), (Nat.le_of_ble_eq_true rfl)⟩ dX12_slope_9) hS (fun H locs hP hS => ?_)
    exact vx_ret (g_fret S hr hlocks hP hS (⟨k, hck, rfl, rfl⟩) (fun _ _ => rfl) (Nat.le_of_ble_eq_true rfl) (Nat.le_of_ble_eq_true rfl) dX12_slope_12)
set_option maxHeartbeats 4000000 in
set_option maxRecDepth 100000 in
/-- mothCount -/
theorem mX12_mothCount (l : Launch) {E : gE} {ad : Nat → Nat} {N : Nat} {w : Nat → va_E} (d : Nat) (sv : Nat) (fp dq : Option Nat) (dd : Int32) (dc : Option Nat) (ht dr pg wt wr mo : Nat → Nat) (mc ni po dn : Nat) (hb_d : bkP N w d 1 (DMC E ad d sv fp dq dd dc)) (hb_s : bkP N w (d + 1) 7 (SHC E ad (d + 1) ht dr pg wt wr mo mc ni po dn))  : gMi l yX12_mothCount (lw_ws yX12_mothCount cX12_mothCount 1 (some .int)) ({ frames := 0, cells := 0, slots := 0, locals := 0 } : Room) E ad N w [.ref (ad (d))] (fun r w' => r = nI mc ∧ w' = w) 0 0 := by
  refine Met.ofW (cc := cX12_mothCount) (maxL := 1) (ret := (some .int)) (by decide) rfl ?_
  intro p e s m args below meth cd s₁ B hml hv
  obtain ⟨rfl, hI, hP⟩ := hv
  obtain ⟨S, hr, hlocks⟩ := gPre (ws := []) B hml (C := RX12) rfl
  have hx := S.1
  have hb := S.2.1
  have hS : va_S (gA E) s.heap s.heap [] := va_S.rf
  have hl := lv_entry ([.ref (ad (d))]) (n := 1) (Nat.le_of_ble_eq_true rfl)
  rw [lg_entry_eq]
  generalize (lg_sl ([.ref (ad (d))]) ++ List.replicate (1 - (lg_sl ([.ref (ad (d))])).length) Slot.unset).toArray = ls at hl ⊢
  have hl : lv_has ls 1 [(0, .ref (ad (d)))] := hl
  refine lv_aload_n hx hb dX12_mothCount_0 rfl (lv_at hl 0 rfl) ?_
  refine g_get S hI hP uX12 rfl (fs := _) (hb_d.lt 0 (by decide)) (hb_d.2 0 (by decide)) 0 (by decide) q402 rfl (v := .ref (ad (d + 1))) rfl dX12_mothCount_1 ?_
  refine g_getN S hI hP uX7 rfl (fs := _) (hb_s.lt 0 (by decide)) (hb_s.2 0 (by decide)) 6 (by decide) q154 rfl (v := .int (nI (mc))) rfl dX12_mothCount_4 ?_
  exact g_iret S hr hlocks hP hS (⟨rfl, rfl⟩) (fun _ _ => rfl) (Nat.le_of_ble_eq_true rfl) (Nat.le_of_ble_eq_true rfl) dX12_mothCount_7
set_option maxHeartbeats 4000000 in
set_option maxRecDepth 100000 in
/-- nights -/
theorem mX12_nights (l : Launch) {E : gE} {ad : Nat → Nat} {N : Nat} {w : Nat → va_E} (d : Nat) (sv : Nat) (fp dq : Option Nat) (dd : Int32) (dc : Option Nat) (ht dr pg wt wr mo : Nat → Nat) (mc ni po dn : Nat) (hb_d : bkP N w d 1 (DMC E ad d sv fp dq dd dc)) (hb_s : bkP N w (d + 1) 7 (SHC E ad (d + 1) ht dr pg wt wr mo mc ni po dn))  : gMi l yX12_nights (lw_ws yX12_nights cX12_nights 1 (some .int)) ({ frames := 0, cells := 0, slots := 0, locals := 0 } : Room) E ad N w [.ref (ad (d))] (fun r w' => r = nI ni ∧ w' = w) 0 0 := by
  refine Met.ofW (cc := cX12_nights) (maxL := 1) (ret := (some .int)) (by decide) rfl ?_
  intro p e s m args below meth cd s₁ B hml hv
  obtain ⟨rfl, hI, hP⟩ := hv
  obtain ⟨S, hr, hlocks⟩ := gPre (ws := []) B hml (C := RX12) rfl
  have hx := S.1
  have hb := S.2.1
  have hS : va_S (gA E) s.heap s.heap [] := va_S.rf
  have hl := lv_entry ([.ref (ad (d))]) (n := 1) (Nat.le_of_ble_eq_true rfl)
  rw [lg_entry_eq]
  generalize (lg_sl ([.ref (ad (d))]) ++ List.replicate (1 - (lg_sl ([.ref (ad (d))])).length) Slot.unset).toArray = ls at hl ⊢
  have hl : lv_has ls 1 [(0, .ref (ad (d)))] := hl
  refine lv_aload_n hx hb dX12_nights_0 rfl (lv_at hl 0 rfl) ?_
  refine g_get S hI hP uX12 rfl (fs := _) (hb_d.lt 0 (by decide)) (hb_d.2 0 (by decide)) 0 (by decide) q402 rfl (v := .ref (ad (d + 1))) rfl dX12_nights_1 ?_
  refine g_getN S hI hP uX7 rfl (fs := _) (hb_s.lt 0 (by decide)) (hb_s.2 0 (by decide)) 7 (by decide) q156 rfl (v := .int (nI (ni))) rfl dX12_nights_4 ?_
  exact g_iret S hr hlocks hP hS (⟨rfl, rfl⟩) (fun _ _ => rfl) (Nat.le_of_ble_eq_true rfl) (Nat.le_of_ble_eq_true rfl) dX12_nights_7
set_option maxHeartbeats 4000000 in
set_option maxRecDepth 100000 in
/-- poured -/
theorem mX12_poured (l : Launch) {E : gE} {ad : Nat → Nat} {N : Nat} {w : Nat → va_E} (d : Nat) (sv : Nat) (fp dq : Option Nat) (dd : Int32) (dc : Option Nat) (ht dr pg wt wr mo : Nat → Nat) (mc ni po dn : Nat) (hb_d : bkP N w d 1 (DMC E ad d sv fp dq dd dc)) (hb_s : bkP N w (d + 1) 7 (SHC E ad (d + 1) ht dr pg wt wr mo mc ni po dn))  : gMi l yX12_poured (lw_ws yX12_poured cX12_poured 1 (some .int)) ({ frames := 0, cells := 0, slots := 0, locals := 0 } : Room) E ad N w [.ref (ad (d))] (fun r w' => r = nI po ∧ w' = w) 0 0 := by
  refine Met.ofW (cc := cX12_poured) (maxL := 1) (ret := (some .int)) (by decide) rfl ?_
  intro p e s m args below meth cd s₁ B hml hv
  obtain ⟨rfl, hI, hP⟩ := hv
  obtain ⟨S, hr, hlocks⟩ := gPre (ws := []) B hml (C := RX12) rfl
  have hx := S.1
  have hb := S.2.1
  have hS : va_S (gA E) s.heap s.heap [] := va_S.rf
  have hl := lv_entry ([.ref (ad (d))]) (n := 1) (Nat.le_of_ble_eq_true rfl)
  rw [lg_entry_eq]
  generalize (lg_sl ([.ref (ad (d))]) ++ List.replicate (1 - (lg_sl ([.ref (ad (d))])).length) Slot.unset).toArray = ls at hl ⊢
  have hl : lv_has ls 1 [(0, .ref (ad (d)))] := hl
  refine lv_aload_n hx hb dX12_poured_0 rfl (lv_at hl 0 rfl) ?_
  refine g_get S hI hP uX12 rfl (fs := _) (hb_d.lt 0 (by decide)) (hb_d.2 0 (by decide)) 0 (by decide) q402 rfl (v := .ref (ad (d + 1))) rfl dX12_poured_1 ?_
  refine g_getN S hI hP uX7 rfl (fs := _) (hb_s.lt 0 (by decide)) (hb_s.2 0 (by decide)) 8 (by decide) q158 rfl (v := .int (nI (po))) rfl dX12_poured_4 ?_
  exact g_iret S hr hlocks hP hS (⟨rfl, rfl⟩) (fun _ _ => rfl) (Nat.le_of_ble_eq_true rfl) (Nat.le_of_ble_eq_true rfl) dX12_poured_7
set_option maxHeartbeats 4000000 in
set_option maxRecDepth 100000 in
/-- drained -/
theorem mX12_drained (l : Launch) {E : gE} {ad : Nat → Nat} {N : Nat} {w : Nat → va_E} (d : Nat) (sv : Nat) (fp dq : Option Nat) (dd : Int32) (dc : Option Nat) (ht dr pg wt wr mo : Nat → Nat) (mc ni po dn : Nat) (hb_d : bkP N w d 1 (DMC E ad d sv fp dq dd dc)) (hb_s : bkP N w (d + 1) 7 (SHC E ad (d + 1) ht dr pg wt wr mo mc ni po dn))  : gMi l yX12_drained (lw_ws yX12_drained cX12_drained 1 (some .int)) ({ frames := 0, cells := 0, slots := 0, locals := 0 } : Room) E ad N w [.ref (ad (d))] (fun r w' => r = nI dn ∧ w' = w) 0 0 := by
  refine Met.ofW (cc := cX12_drained) (maxL := 1) (ret := (some .int)) (by decide) rfl ?_
  intro p e s m args below meth cd s₁ B hml hv
  obtain ⟨rfl, hI, hP⟩ := hv
  obtain ⟨S, hr, hlocks⟩ := gPre (ws := []) B hml (C := RX12) rfl
  have hx := S.1
  have hb := S.2.1
  have hS : va_S (gA E) s.heap s.heap [] := va_S.rf
  have hl := lv_entry ([.ref (ad (d))]) (n := 1) (Nat.le_of_ble_eq_true rfl)
  rw [lg_entry_eq]
  generalize (lg_sl ([.ref (ad (d))]) ++ List.replicate (1 - (lg_sl ([.ref (ad (d))])).length) Slot.unset).toArray = ls at hl ⊢
  have hl : lv_has ls 1 [(0, .ref (ad (d)))] := hl
  refine lv_aload_n hx hb dX12_drained_0 rfl (lv_at hl 0 rfl) ?_
  refine g_get S hI hP uX12 rfl (fs := _) (hb_d.lt 0 (by decide)) (hb_d.2 0 (by decide)) 0 (by decide) q402 rfl (v := .ref (ad (d + 1))) rfl dX12_drained_1 ?_
  refine g_getN S hI hP uX7 rfl (fs := _) (hb_s.lt 0 (by decide)) (hb_s.2 0 (by decide)) 9 (by decide) q160 rfl (v := .int (nI (dn))) rfl dX12_drained_4 ?_
  exact g_iret S hr hlocks hP hS (⟨rfl, rfl⟩) (fun _ _ => rfl) (Nat.le_of_ble_eq_true rfl) (Nat.le_of_ble_eq_true rfl) dX12_drained_7
set_option maxHeartbeats 4000000 in
set_option maxRecDepth 100000 in
/-- holes -/
theorem mX12_holes (l : Launch) {E : gE} {ad : Nat → Nat} {N : Nat} {w : Nat → va_E} (d : Nat) (sv : Nat) (fp dq : Option Nat) (dd : Int32) (dc : Option Nat) (ht dr pg wt wr mo : Nat → Nat) (mc ni po dn : Nat) (hb_d : bkP N w d 1 (DMC E ad d sv fp dq dd dc)) (hb_s : bkP N w (d + 1) 7 (SHC E ad (d + 1) ht dr pg wt wr mo mc ni po dn)) (hwr : ∀ k, k < 36 → wr k ≤ 3) : gMi l yX12_holes (lw_ws yX12_holes cX12_holes 1 (some .int)) ({ frames := 2, cells := 0, slots := 0, locals := 43 } : Room) E ad N w [.ref (ad (d))] (fun r w' => r = nI (cnt (fun k => decide (3 ≤ wr k)) 36) ∧ w' = w) 0 0 := by
  refine Met.ofW (cc := cX12_holes) (maxL := 1) (ret := (some .int)) (by decide) rfl ?_
  intro p e s m args below meth cd s₁ B hml hv
  obtain ⟨rfl, hI, hP⟩ := hv
  obtain ⟨S, hr, hlocks⟩ := gPre (ws := []) B hml (C := RX12) rfl
  have hx := S.1
  have hb := S.2.1
  have hS : va_S (gA E) s.heap s.heap [] := va_S.rf
  have hl := lv_entry ([.ref (ad (d))]) (n := 1) (Nat.le_of_ble_eq_true rfl)
  rw [lg_entry_eq]
  generalize (lg_sl ([.ref (ad (d))]) ++ List.replicate (1 - (lg_sl ([.ref (ad (d))])).length) Slot.unset).toArray = ls at hl ⊢
  have hl : lv_has ls 1 [(0, .ref (ad (d)))] := hl
  refine lv_aload_n hx hb dX12_holes_0 rfl (lv_at hl 0 rfl) ?_
  refine g_get S hI hP uX12 rfl (fs := _) (hb_d.lt 0 (by decide)) (hb_d.2 0 (by decide)) 0 (by decide) q402 rfl (v := .ref (ad (d + 1))) rfl dX12_holes_1 ?_
  refine g_roi (g_runV S hI hP hS (k := 0) (As := []) (rest := []) (mX7_countHoles l (d + 1) ht dr pg wt wr mo mc ni po dn hb_s hwr) q793 q617 q618 q83 q619 rfl rfl (by decide +kernel) ⟨Nat.le_of_ble_eq_true rfl, Nat.le_of_ble_eq_true rfl⟩ rfl (hb_s.lt 0 (by decide)) (hb_s.2 0 (by decide)) rfl hl.1 rfl (Nat.le_of_ble_eq_true rfl) ⟨(Nat.le_of_ble_eq_true rfl), (Nat.le_of_ble_eq_true rfl)⟩ dX12_holes_4) hS (fun H locs hP hS => ?_)
  exact g_iret S hr hlocks hP hS (⟨rfl, rfl⟩) (fun _ _ => rfl) (Nat.le_of_ble_eq_true rfl) (Nat.le_of_ble_eq_true rfl) dX12_holes_7
set_option maxHeartbeats 4000000 in
set_option maxRecDepth 100000 in
/-- standing -/
theorem mX12_standing (l : Launch) {E : gE} {ad : Nat → Nat} {N : Nat} {w : Nat → va_E} (d : Nat) (sv : Nat) (fp dq : Option Nat) (dd : Int32) (dc : Option Nat) (ht dr pg wt wr mo : Nat → Nat) (mc ni po dn : Nat) (hb_d : bkP N w d 1 (DMC E ad d sv fp dq dd dc)) (hb_s : bkP N w (d + 1) 7 (SHC E ad (d + 1) ht dr pg wt wr mo mc ni po dn))  : gMi l yX12_standing (lw_ws yX12_standing cX12_standing 1 (some .int)) ({ frames := 1, cells := 0, slots := 0, locals := 22 } : Room) E ad N w [.ref (ad (d))] (fun r w' => r = nI (smN wt 36) ∧ w' = w) 0 0 := by
  refine Met.ofW (cc := cX12_standing) (maxL := 1) (ret := (some .int)) (by decide) rfl ?_
  intro p e s m args below meth cd s₁ B hml hv
  obtain ⟨rfl, hI, hP⟩ := hv
  obtain ⟨S, hr, hlocks⟩ := gPre (ws := []) B hml (C := RX12) rfl
  have hx := S.1
  have hb := S.2.1
  have hS : va_S (gA E) s.heap s.heap [] := va_S.rf
  have hl := lv_entry ([.ref (ad (d))]) (n := 1) (Nat.le_of_ble_eq_true rfl)
  rw [lg_entry_eq]
  generalize (lg_sl ([.ref (ad (d))]) ++ List.replicate (1 - (lg_sl ([.ref (ad (d))])).length) Slot.unset).toArray = ls at hl ⊢
  have hl : lv_has ls 1 [(0, .ref (ad (d)))] := hl
  refine lv_aload_n hx hb dX12_standing_0 rfl (lv_at hl 0 rfl) ?_
  refine g_get S hI hP uX12 rfl (fs := _) (hb_d.lt 0 (by decide)) (hb_d.2 0 (by decide)) 0 (by decide) q402 rfl (v := .ref (ad (d + 1))) rfl dX12_standing_1 ?_
  refine g_roi (g_runV S hI hP hS (k := 0) (As := []) (rest := []) (mX7_sumOfWater l (d + 1) ht dr pg wt wr mo mc ni po dn hb_s) q806 q807 q808 q83 q809 rfl rfl (by decide +kernel) ⟨Nat.le_of_ble_eq_true rfl, Nat.le_of_ble_eq_true rfl⟩ rfl (hb_s.lt 0 (by decide)) (hb_s.2 0 (by decide)) rfl hl.1 rfl (Nat.le_of_ble_eq_true rfl) ⟨(Nat.le_of_ble_eq_true rfl), (Nat.le_of_ble_eq_true rfl)⟩ dX12_standing_4) hS (fun H locs hP hS => ?_)
  exact g_iret S hr hlocks hP hS (⟨rfl, rfl⟩) (fun _ _ => rfl) (Nat.le_of_ble_eq_true rfl) (Nat.le_of_ble_eq_true rfl) dX12_standing_7
set_option maxHeartbeats 4000000 in
set_option maxRecDepth 100000 in
/-- meanHeight -/
theorem mX12_meanHeight (l : Launch) {E : gE} {ad : Nat → Nat} {N : Nat} {w : Nat → va_E} (d : Nat) (sv : Nat) (fp dq : Option Nat) (dd : Int32) (dc : Option Nat) (ht dr pg wt wr mo : Nat → Nat) (mc ni po dn : Nat) (hb_d : bkP N w d 1 (DMC E ad d sv fp dq dd dc)) (hb_s : bkP N w (d + 1) 7 (SHC E ad (d + 1) ht dr pg wt wr mo mc ni po dn)) (hht : ∀ k, k < 36 → ht k ≤ 99) : gMd l yX12_meanHeight (lw_ws yX12_meanHeight cX12_meanHeight 1 (some .double)) ({ frames := 1, cells := 0, slots := 0, locals := 22 } : Room) E ad N w [.ref (ad (d))] (fun r w' => r = FP.ddiv (FP.i2d (nI (smN ht 36))) 4630263366890291200 ∧ w' = w) 0 0 := by
  refine Met.ofW (cc := cX12_meanHeight) (maxL := 1) (ret := (some .double)) (by decide) rfl ?_
  intro p e s m args below meth cd s₁ B hml hv
  obtain ⟨rfl, hI, hP⟩ := hv
  obtain ⟨S, hr, hlocks⟩ := gPre (ws := []) B hml (C := RX12) rfl
  have hx := S.1
  have hb := S.2.1
  have hS : va_S (gA E) s.heap s.heap [] := va_S.rf
  have hl := lv_entry ([.ref (ad (d))]) (n := 1) (Nat.le_of_ble_eq_true rfl)
  rw [lg_entry_eq]
  generalize (lg_sl ([.ref (ad (d))]) ++ List.replicate (1 - (lg_sl ([.ref (ad (d))])).length) Slot.unset).toArray = ls at hl ⊢
  have hl : lv_has ls 1 [(0, .ref (ad (d)))] := hl
  refine lv_aload_n hx hb dX12_meanHeight_0 rfl (lv_at hl 0 rfl) ?_
  refine g_get S hI hP uX12 rfl (fs := _) (hb_d.lt 0 (by decide)) (hb_d.2 0 (by decide)) 0 (by decide) q402 rfl (v := .ref (ad (d + 1))) rfl dX12_meanHeight_1 ?_
  refine g_roi (g_runV S hI hP hS (k := 0) (As := []) (rest := []) (mX7_sumOfHeights l (d + 1) ht dr pg wt wr mo mc ni po dn hb_s) q818 q819 q820 q83 q821 rfl rfl (by decide +kernel) ⟨Nat.le_of_ble_eq_true rfl, Nat.le_of_ble_eq_true rfl⟩ rfl (hb_s.lt 0 (by decide)) (hb_s.2 0 (by decide)) rfl hl.1 rfl (Nat.le_of_ble_eq_true rfl) ⟨(Nat.le_of_ble_eq_true rfl), (Nat.le_of_ble_eq_true rfl)⟩ dX12_meanHeight_4) hS (fun H locs hP hS => ?_)
  refine lv_i2d hx hb dX12_meanHeight_7 ?_
  refine lv_ldc2d (v := 4630263366890291200) hx hb S.2.2.2.1 (S.2.2.2.2 _ q822) dX12_meanHeight_8 ?_
  have hsm := smN_bound (f := ht) (n := 36) hht
  refine lv_ddiv hx hb dX12_meanHeight_11 (by rw [← mh_lit]; exact mh_num _ (by omega)) ?_
  exact g_dret S hr hlocks hP hS (⟨rfl, rfl⟩) (fun _ _ => rfl) (Nat.le_of_ble_eq_true rfl) (Nat.le_of_ble_eq_true rfl) dX12_meanHeight_12
