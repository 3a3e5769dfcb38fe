def FLC (E : gE) (ad : Nat → Nat) (b : Nat) (re ce : Nat → Nat) (rc tc : Nat) : Nat → va_E
  | 0 => .inr (7, [.ref (ad (b + 1)), .ref (ad (b + 2)), .int (nI rc), .int (nI tc)])
  | 1 => gAr (E.2.1 1) 36 re
  | _ => gAr (E.2.1 0) 36 ce
theorem FL_setO {E : gE} {ad : Nat → Nat} {N b : Nat} {re ce : Nat → Nat} {rc tc : Nat} {w : Nat → va_E} (h : bkP N w b 3 (FLC E ad b re ce rc tc)) (rc' tc' : Nat) : bkP N (va_up w (b) (FLC E ad b re ce rc' tc' 0)) b 3 (FLC E ad b re ce rc' tc') := (h.set 0 (by decide) _).to (fun k hk => by match k, hk with | 0, _ => rfl | 1, _ => rfl | 2, _ => rfl)
theorem FL_setA0 {E : gE} {ad : Nat → Nat} {N b : Nat} {re ce : Nat → Nat} {rc tc : Nat} {w : Nat → va_E} (h : bkP N w b 3 (FLC E ad b re ce rc tc)) (f : Nat → Nat) : bkP N (va_up w (b + 1) (FLC E ad b f ce rc tc 1)) b 3 (FLC E ad b f ce rc tc) := (h.set 1 (by decide) _).to (fun k hk => by match k, hk with | 0, _ => rfl | 1, _ => rfl | 2, _ => rfl)
theorem FL_setA1 {E : gE} {ad : Nat → Nat} {N b : Nat} {re ce : Nat → Nat} {rc tc : Nat} {w : Nat → va_E} (h : bkP N w b 3 (FLC E ad b re ce rc tc)) (f : Nat → Nat) : bkP N (va_up w (b + 2) (FLC E ad b re f rc tc 2)) b 3 (FLC E ad b re f rc tc) := (h.set 2 (by decide) _).to (fun k hk => by match k, hk with | 0, _ => rfl | 1, _ => rfl | 2, _ => rfl)
def CQC (E : gE) (ad : Nat → Nat) (b : Nat) (wa ke : Nat → Nat) : Nat → va_E
  | 0 => .inr (5, [.ref (ad (b + 1)), .ref (ad (b + 2))])
  | 1 => gAr (E.2.1 1) 36 wa
  | _ => gAr (E.2.1 0) 36 ke
theorem CQ_setA0 {E : gE} {ad : Nat → Nat} {N b : Nat} {wa ke : Nat → Nat} {w : Nat → va_E} (h : bkP N w b 3 (CQC E ad b wa ke)) (f : Nat → Nat) : bkP N (va_up w (b + 1) (CQC E ad b f ke 1)) b 3 (CQC E ad b f ke) := (h.set 1 (by decide) _).to (fun k hk => by match k, hk with | 0, _ => rfl | 1, _ => rfl | 2, _ => rfl)
theorem CQ_setA1 {E : gE} {ad : Nat → Nat} {N b : Nat} {wa ke : Nat → Nat} {w : Nat → va_E} (h : bkP N w b 3 (CQC E ad b wa ke)) (f : Nat → Nat) : bkP N (va_up w (b + 2) (CQC E ad b wa f 2)) b 3 (CQC E ad b wa f) := (h.set 2 (by decide) _).to (fun k hk => by match k, hk with | 0, _ => rfl | 1, _ => rfl | 2, _ => rfl)
def UNC (E : gE) (ad : Nat → Nat) (b : Nat) (pa : Nat → Nat) : Nat → va_E
  | 0 => .inr (14, [.ref (ad (b + 1))])
  | _ => gAr (E.2.1 0) 36 pa
theorem UN_setA0 {E : gE} {ad : Nat → Nat} {N b : Nat} {pa : Nat → Nat} {w : Nat → va_E} (h : bkP N w b 2 (UNC E ad b pa)) (f : Nat → Nat) : bkP N (va_up w (b + 1) (UNC E ad b f 1)) b 2 (UNC E ad b f) := (h.set 1 (by decide) _).to (fun k hk => by match k, hk with | 0, _ => rfl | 1, _ => rfl)
def RGC (E : gE) (ad : Nat → Nat) (b : Nat) : Nat → va_E
  | _ => .inr (9, [.ref (ad (b + 1)), .ref (ad (b + 4)), .ref (ad (b + 6)), .ref (ad (b + 7))])
def RKC (E : gE) (ad : Nat → Nat) (b : Nat) (ra rk : Nat → Nat) : Nat → va_E
  | 0 => gAr (E.2.1 1) 36 ra
  | _ => gAr (E.2.1 0) 36 rk
theorem RK_setA0 {E : gE} {ad : Nat → Nat} {N b : Nat} {ra rk : Nat → Nat} {w : Nat → va_E} (h : bkP N w b 2 (RKC E ad b ra rk)) (f : Nat → Nat) : bkP N (va_up w (b) (RKC E ad b f rk 0)) b 2 (RKC E ad b f rk) := (h.set 0 (by decide) _).to (fun k hk => by match k, hk with | 0, _ => rfl | 1, _ => rfl)
theorem RK_setA1 {E : gE} {ad : Nat → Nat} {N b : Nat} {ra rk : Nat → Nat} {w : Nat → va_E} (h : bkP N w b 2 (RKC E ad b ra rk)) (f : Nat → Nat) : bkP N (va_up w (b + 1) (RKC E ad b ra f 1)) b 2 (RKC E ad b ra f) := (h.set 1 (by decide) _).to (fun k hk => by match k, hk with | 0, _ => rfl | 1, _ => rfl)
set_option maxHeartbeats 4000000 in
set_option maxRecDepth 100000 in
/-- a flood is dry -/
theorem mX3_dry (l : Launch) {E : gE} {ad : Nat → Nat} {N : Nat} {w : Nat → va_E} (f : Nat) (re ce : Nat → Nat) (rc tc : Nat) (hb_f : bkP N w f 3 (FLC E ad f re ce rc tc))  : gMv l yX3_dry (lw_ws yX3_dry cX3_dry 2 none) ({ frames := 0, cells := 0, slots := 0, locals := 0 } : Room) E ad N w [.ref (ad (f))] (fun w' => bkP N w' f 3 (FLC E ad f (fil 36 (fun _ => 0) re) ce 0 0) ∧ gFr (gIn f 3) w w') 0 0 := by
  refine Met.ofW (cc := cX3_dry) (maxL := 2) (ret := none) (by decide) rfl ?_
  intro p e s m args below meth cd s₁ B hml hv
  obtain ⟨rfl, hI, hP⟩ := hv
  obtain ⟨S, hr, hlocks⟩ := gPre (ws := []) B hml (C := RX3) rfl
  have hx := S.1
  have hb := S.2.1
  have hS : va_S (gA E) s.heap s.heap [] := va_S.rf
  have hfr : gFr (gIn f 3) w w := gFr.rf
  have hl := lv_entry ([.ref (ad (f))]) (n := 2) (Nat.le_of_ble_eq_true rfl)
  rw [lg_entry_eq]
  generalize (lg_sl ([.ref (ad (f))]) ++ List.replicate (2 - (lg_sl ([.ref (ad (f))])).length) Slot.unset).toArray = ls at hl ⊢
  have hl : lv_has ls 2 [(0, .ref (ad (f)))] := hl
  refine g_iconst S 0 dX3_dry_0 (by decide +kernel) ?_
  refine lv_istore_n (lv' := [(1, .int (nI (0))), (0, .ref (ad (f)))]) hx hb dX3_dry_1 rfl hl (by decide) rfl (fun ls hl => ?_)
  have loop1 : ∀ (n : Nat) (i : Nat), 36 - i < n → (i ≤ 36) → ∀ (w1 : Nat → va_E) (H : Heap) (locs : List Loc), gP E ad N w1 H → va_S (gA E) s.heap H locs → bkP N w1 f 3 (FLC E ad f (fil i (fun _ => 0) re) ce rc tc) → gFr (gIn f 3) w w1 → ∀ (ls : Array Slot), lv_has ls 2 [(1, .int (nI (i))), (0, .ref (ad (f)))] → W p l e (headSpec (lw_ws yX3_dry cX3_dry 2 none) ({ frames := 0, cells := 0, slots := 0, locals := 0 } : Room)).room s m ([.ref (ad (f))] : List Value).toArray below meth cd H locs 0 0 (MQ below (va_Qv (fun w' => bkP N w' f 3 (FLC E ad f (fil 36 (fun _ => 0) re) ce 0 0) ∧ gFr (gIn f 3) w w') (gB E ad N) (gA E)) ([.ref (ad (f))] : List Value).toArray s 0 0 (gA E)) (F0 m 2 ls []) := by
    intro n
    induction n with
    | zero => intro i hmeas; omega
    | succ n ih =>
      intro i hmeas hi w1 H locs hP hS hb2 hfr ls hl
      refine lv_iload_n hx hb dX3_dry_2 rfl (lv_at hl 0 rfl) ?_
      refine g_bipush S 36 dX3_dry_3 (by decide +kernel) ?_
      refine g_ge S (a := i) (b := 36) (by omega) (by omega) (tgt := 21) dX3_dry_5 (by decide) (fun h => ?_) (fun h => ?_)
      · have e : i = 36 := by omega
        rw [e] at hb2
        refine lv_aload_n hx hb dX3_dry_21 rfl (lv_at hl 1 rfl) ?_
        refine g_iconst S 0 dX3_dry_22 (by decide +kernel) ?_
        refine g_put S hI hP hS uX3 rfl tyX3 tyX3_ok nmX3 (fs := _) (hb2.lt 0 (by decide)) (hb2.2 0 (by decide)) 2 (by decide) q220 rfl rfl (v := .int (nI (0))) rfl rfl (Nat.le_of_ble_eq_true rfl) dX3_dry_23 (fun H locs hP hS => ?_)
        have hP : gP E ad N (va_up _ (f) (FLC E ad f (fil 36 (fun _ => 0) re) ce 0 tc 0)) H := hP
        have hb3 : bkP N (va_up _ (f) (FLC E ad f (fil 36 (fun _ => 0) re) ce 0 tc 0)) f 3 (FLC E ad f (fil 36 (fun _ => 0) re) ce 0 tc) := FL_setO hb2 _ _
        have hfr := hfr.up (p := f) (e := FLC E ad f (fil 36 (fun _ => 0) re) ce 0 tc 0) (by show _ ∧ _; omega)
        refine lv_aload_n hx hb dX3_dry_26 rfl (lv_at hl 1 rfl) ?_
        refine g_iconst S 0 dX3_dry_27 (by decide +kernel) ?_
        refine g_put S hI hP hS uX3 rfl tyX3 tyX3_ok nmX3 (fs := _) (hb3.lt 0 (by decide)) (hb3.2 0 (by decide)) 3 (by decide) q222 rfl rfl (v := .int (nI (0))) rfl rfl (Nat.le_of_ble_eq_true rfl) dX3_dry_28 (fun H locs hP hS => ?_)
        have hP : gP E ad N (va_up _ (f) (FLC E ad f (fil 36 (fun _ => 0) re) ce 0 0 0)) H := hP
        have hb4 : bkP N (va_up _ (f) (FLC E ad f (fil 36 (fun _ => 0) re) ce 0 0 0)) f 3 (FLC E ad f (fil 36 (fun _ => 0) re) ce 0 0) := FL_setO hb3 _ _
        have hfr := hfr.up (p := f) (e := FLC E ad f (fil 36 (fun _ => 0) re) ce 0 0 0) (by show _ ∧ _; omega)
        exact g_vret S hr hlocks hP hS (⟨hb4, hfr⟩) (fun _ _ => rfl) (Nat.le_of_ble_eq_true rfl) (Nat.le_of_ble_eq_true rfl) dX3_dry_31
      · refine lv_aload_n hx hb dX3_dry_8 rfl (lv_at hl 1 rfl) ?_
        refine g_get S hI hP uX3 rfl (fs := _) (hb2.lt 0 (by decide)) (hb2.2 0 (by decide)) 0 (by decide) q216 rfl (v := .ref (ad (f + 1))) rfl dX3_dry_9 ?_
        refine lv_iload_n hx hb dX3_dry_12 rfl (lv_at hl 0 rfl) ?_
        refine g_iconst S 0 dX3_dry_13 (by decide +kernel) ?_
        refine g_zastN S hI hP hS (f := fil i (fun _ => 0) re) (x := 0) (hb2.lt 1 (by decide)) (hb2.2 1 (by decide)) (i) (h) (by decide) (by omega) dX3_dry_14 (fun H locs hP hS => ?_)
        have hP : gP E ad N (va_up _ (f + 1) (FLC E ad f (va_up (fil i (fun _ => 0) re) i 0) ce rc tc 1)) H := hP
        have hb5 : bkP N (va_up _ (f + 1) (FLC E ad f (va_up (fil i (fun _ => 0) re) i 0) ce rc tc 1)) f 3 (FLC E ad f (va_up (fil i (fun _ => 0) re) i 0) ce rc tc) := FL_setA0 hb2 _
        have hfr := hfr.up (p := f + 1) (e := FLC E ad f (va_up (fil i (fun _ => 0) re) i 0) ce rc tc 1) (by show _ ∧ _; omega)
        rw [fil_up (f := fun _ => 0)] at hb5 hP hfr
        refine lv_iinc (v := nI (i + 1)) (lv' := [(1, .int (nI (i + 1))), (0, .ref (ad (f)))]) hx hb dX3_dry_15 hl (k := 0) rfl (g_inc _ 1 (by decide +kernel)) (by decide) rfl (fun ls hl => ?_)
        refine lv_goto (tgt := 2) hx hb dX3_dry_18 (by decide) ?_
        exact ih (i + 1) (by omega) (by omega) _ _ _ hP hS hb5 hfr ls (lv_sub hl [0, 1] rfl)
  rw [← fil_0 (fun _ => 0) re] at hb_f
  exact loop1 (36 - (0) + 1) (0) (Nat.lt_succ_self _) (by omega) _ _ _ hP hS hb_f hfr ls (lv_sub hl [0, 1] rfl)
set_option maxHeartbeats 4000000 in
set_option maxRecDepth 100000 in
/-- a cell is reached -/
theorem mX3_reach (l : Launch) {E : gE} {ad : Nat → Nat} {N : Nat} {w : Nat → va_E} (f : Nat) (re ce : Nat → Nat) (rc tc : Nat) (c : Nat) (hb_f : bkP N w f 3 (FLC E ad f re ce rc tc)) (hc : c < 36) (hok : flOk (re, ce, rc)) : gMv l yX3_reach (lw_ws yX3_reach cX3_reach 2 none) ({ frames := 0, cells := 0, slots := 0, locals := 0 } : Room) E ad N w [.ref (ad (f)), .int (nI (c))] (fun w' => bkP N w' f 3 (FLC E ad f ((flR (re, ce, rc) c).1) ((flR (re, ce, rc) c).2.1) ((flR (re, ce, rc) c).2.2) tc) ∧ gFr (gIn f 3) w w') 0 0 := by
  refine Met.ofW (cc := cX3_reach) (maxL := 2) (ret := none) (by decide) rfl ?_
  intro p e s m args below meth cd s₁ B hml hv
  obtain ⟨rfl, hI, hP⟩ := hv
  obtain ⟨S, hr, hlocks⟩ := gPre (ws := []) B hml (C := RX3) rfl
  have hx := S.1
  have hb := S.2.1
  have hS : va_S (gA E) s.heap s.heap [] := va_S.rf
  have hfr : gFr (gIn f 3) w w := gFr.rf
  have hl := lv_entry ([.ref (ad (f)), .int (nI (c))]) (n := 2) (Nat.le_of_ble_eq_true rfl)
  rw [lg_entry_eq]
  generalize (lg_sl ([.ref (ad (f)), .int (nI (c))]) ++ List.replicate (2 - (lg_sl ([.ref (ad (f)), .int (nI (c))])).length) Slot.unset).toArray = ls at hl ⊢
  have hl : lv_has ls 2 [(0, .ref (ad (f))), (1, .int (nI (c)))] := hl
  have hrc : re c ≤ 1 := hok.2.2 c hc
  have hrm : rc ≤ 36 := hok.2.1
  refine lv_aload_n hx hb dX3_reach_0 rfl (lv_at hl 0 rfl) ?_
  refine g_get S hI hP uX3 rfl (fs := _) (hb_f.lt 0 (by decide)) (hb_f.2 0 (by decide)) 0 (by decide) q216 rfl (v := .ref (ad (f + 1))) rfl dX3_reach_1 ?_
  refine lv_iload_n hx hb dX3_reach_4 rfl (lv_at hl 1 rfl) ?_
  refine g_zald S hI hP (f := fun j => nI (re j)) (hb_f.lt 1 (by decide)) (hb_f.2 1 (by decide)) (c) (hc) (by decide) dX3_reach_5 ?_
  refine g_ifne S (a := re c) (by omega) (tgt := 45) dX3_reach_6 (by decide) (fun h => ?_) (fun h => ?_)
  · have hn : ¬ (re c = 0 ∧ rc < 36) := by omega
    exact g_vret S hr hlocks hP hS (⟨by simp only [flR, if_neg hn]; exact hb_f, hfr⟩) (fun _ _ => rfl) (Nat.le_of_ble_eq_true rfl) (Nat.le_of_ble_eq_true rfl) dX3_reach_45
  · refine lv_aload_n hx hb dX3_reach_9 rfl (lv_at hl 0 rfl) ?_
    refine g_get S hI hP uX3 rfl (fs := _) (hb_f.lt 0 (by decide)) (hb_f.2 0 (by decide)) 2 (by decide) q220 rfl (v := .int (nI (rc))) rfl dX3_reach_10 ?_
    refine g_bipush S 36 dX3_reach_13 (by decide +kernel) ?_
    refine g_ge S (a := rc) (b := 36) (by omega) (by omega) (tgt := 45) dX3_reach_15 (by decide) (fun h2 => ?_) (fun h2 => ?_)
    · have hn : ¬ (re c = 0 ∧ rc < 36) := by omega
      exact g_vret S hr hlocks hP hS (⟨by simp only [flR, if_neg hn]; exact hb_f, hfr⟩) (fun _ _ => rfl) (Nat.le_of_ble_eq_true rfl) (Nat.le_of_ble_eq_true rfl) dX3_reach_45
    · have hy : re c = 0 ∧ rc < 36 := ⟨h, h2⟩
      refine lv_aload_n hx hb dX3_reach_18 rfl (lv_at hl 0 rfl) ?_
      refine g_get S hI hP uX3 rfl (fs := _) (hb_f.lt 0 (by decide)) (hb_f.2 0 (by decide)) 0 (by decide) q216 rfl (v := .ref (ad (f + 1))) rfl dX3_reach_19 ?_
      refine lv_iload_n hx hb dX3_reach_22 rfl (lv_at hl 1 rfl) ?_
      refine g_iconst S 1 dX3_reach_23 (by decide +kernel) ?_
      refine g_zastN S hI hP hS (f := re) (x := 1) (hb_f.lt 1 (by decide)) (hb_f.2 1 (by decide)) (c) (hc) (by decide) (by omega) dX3_reach_24 (fun H locs hP hS => ?_)
      have hP : gP E ad N (va_up _ (f + 1) (FLC E ad f (va_up re c 1) ce rc tc 1)) H := hP
      have hb1 : bkP N (va_up _ (f + 1) (FLC E ad f (va_up re c 1) ce rc tc 1)) f 3 (FLC E ad f (va_up re c 1) ce rc tc) := FL_setA0 hb_f _
      have hfr := hfr.up (p := f + 1) (e := FLC E ad f (va_up re c 1) ce rc tc 1) (by show _ ∧ _; omega)
      refine lv_aload_n hx hb dX3_reach_25 rfl (lv_at hl 0 rfl) ?_
      refine g_get S hI hP uX3 rfl (fs := _) (hb1.lt 0 (by decide)) (hb1.2 0 (by decide)) 1 (by decide) q219 rfl (v := .ref (ad (f + 2))) rfl dX3_reach_26 ?_
      refine lv_aload_n hx hb dX3_reach_29 rfl (lv_at hl 0 rfl) ?_
      refine g_get S hI hP uX3 rfl (fs := _) (hb1.lt 0 (by decide)) (hb1.2 0 (by decide)) 2 (by decide) q220 rfl (v := .int (nI (rc))) rfl dX3_reach_30 ?_
      refine lv_iload_n hx hb dX3_reach_33 rfl (lv_at hl 1 rfl) ?_
      refine g_iastN S hI hP hS (f := ce) (x := c) (hb1.lt 2 (by decide)) (hb1.2 2 (by decide)) (rc) (h2) (by decide) dX3_reach_34 (fun H locs hP hS => ?_)
      have hP : gP E ad N (va_up _ (f + 2) (FLC E ad f (va_up re c 1) (va_up ce rc c) rc tc 2)) H := hP
      have hb2 : bkP N (va_up _ (f + 2) (FLC E ad f (va_up re c 1) (va_up ce rc c) rc tc 2)) f 3 (FLC E ad f (va_up re c 1) (va_up ce rc c) rc tc) := FL_setA1 hb1 _
      have hfr := hfr.up (p := f + 2) (e := FLC E ad f (va_up re c 1) (va_up ce rc c) rc tc 2) (by show _ ∧ _; omega)
      refine lv_aload_n hx hb dX3_reach_35 rfl (lv_at hl 0 rfl) ?_
      refine lv_dup hx hb dX3_reach_36 rfl ?_
      refine g_get S hI hP uX3 rfl (fs := _) (hb2.lt 0 (by decide)) (hb2.2 0 (by decide)) 2 (by decide) q220 rfl (v := .int (nI (rc))) rfl dX3_reach_37 ?_
      refine g_iconst S 1 dX3_reach_40 (by decide +kernel) ?_
      refine g_iadd S dX3_reach_41 ?_
      refine g_put S hI hP hS uX3 rfl tyX3 tyX3_ok nmX3 (fs := _) (hb2.lt 0 (by decide)) (hb2.2 0 (by decide)) 2 (by decide) q220 rfl rfl (v := .int (nI (rc + 1))) rfl rfl (Nat.le_of_ble_eq_true rfl) dX3_reach_42 (fun H locs hP hS => ?_)
      have hP : gP E ad N (va_up _ (f) (FLC E ad f (va_up re c 1) (va_up ce rc c) (rc + 1) tc 0)) H := hP
      have hb3 : bkP N (va_up _ (f) (FLC E ad f (va_up re c 1) (va_up ce rc c) (rc + 1) tc 0)) f 3 (FLC E ad f (va_up re c 1) (va_up ce rc c) (rc + 1) tc) := FL_setO hb2 _ _
      have hfr := hfr.up (p := f) (e := FLC E ad f (va_up re c 1) (va_up ce rc c) (rc + 1) tc 0) (by show _ ∧ _; omega)
      exact g_vret S hr hlocks hP hS (⟨by simp only [flR, if_pos hy]; exact hb3, hfr⟩) (fun _ _ => rfl) (Nat.le_of_ble_eq_true rfl) (Nat.le_of_ble_eq_true rfl) dX3_reach_45
set_option maxHeartbeats 4000000 in
set_option maxRecDepth 100000 in
/-- a reached cell is taken -/
theorem mX3_take (l : Launch) {E : gE} {ad : Nat → Nat} {N : Nat} {w : Nat → va_E} (f : Nat) (re ce : Nat → Nat) (rc tc : Nat) (hb_f : bkP N w f 3 (FLC E ad f re ce rc tc)) (hrm : rc ≤ 36) (htm : tc ≤ 36) : gMi l yX3_take (lw_ws yX3_take cX3_take 1 (some .int)) ({ frames := 0, cells := 0, slots := 0, locals := 0 } : Room) E ad N w [.ref (ad (f))] (fun r w' => r = oI (if tc < rc then some (ce tc) else none) ∧ bkP N w' f 3 (FLC E ad f re ce rc (if tc < rc then tc + 1 else tc)) ∧ gFr (gIn f 3) w w') 0 0 := by
  refine Met.ofW (cc := cX3_take) (maxL := 1) (ret := (some .int)) (by decide) rfl ?_
  intro p e s m args below meth cd s₁ B hml hv
  obtain ⟨rfl, hI, hP⟩ := hv
  obtain ⟨S, hr, hlocks⟩ := gPre (ws := []) B hml (C := RX3) rfl
  have hx := S.1
  have hb := S.2.1
  have hS : va_S (gA E) s.heap s.heap [] := va_S.rf
  have hfr : gFr (gIn f 3) w w := gFr.rf
  have hl := lv_entry ([.ref (ad (f))]) (n := 1) (Nat.le_of_ble_eq_true rfl)
  rw [lg_entry_eq]
  generalize (lg_sl ([.ref (ad (f))]) ++ List.replicate (1 - (lg_sl ([.ref (ad (f))])).length) Slot.unset).toArray = ls at hl ⊢
  have hl : lv_has ls 1 [(0, .ref (ad (f)))] := hl
  refine lv_aload_n hx hb dX3_take_0 rfl (lv_at hl 0 rfl) ?_
  refine g_get S hI hP uX3 rfl (fs := _) (hb_f.lt 0 (by decide)) (hb_f.2 0 (by decide)) 3 (by decide) q222 rfl (v := .int (nI (tc))) rfl dX3_take_1 ?_
  refine lv_aload_n hx hb dX3_take_4 rfl (lv_at hl 0 rfl) ?_
  refine g_get S hI hP uX3 rfl (fs := _) (hb_f.lt 0 (by decide)) (hb_f.2 0 (by decide)) 2 (by decide) q220 rfl (v := .int (nI (rc))) rfl dX3_take_5 ?_
  refine g_lt S (a := tc) (b := rc) (by omega) (by omega) (tgt := 13) dX3_take_8 (by decide) (fun h => ?_) (fun h => ?_)
  · refine lv_aload_n hx hb dX3_take_13 rfl (lv_at hl 0 rfl) ?_
    refine lv_dup hx hb dX3_take_14 rfl ?_
    refine g_get S hI hP uX3 rfl (fs := _) (hb_f.lt 0 (by decide)) (hb_f.2 0 (by decide)) 3 (by decide) q222 rfl (v := .int (nI (tc))) rfl dX3_take_15 ?_
    refine g_iconst S 1 dX3_take_18 (by decide +kernel) ?_
    refine g_iadd S dX3_take_19 ?_
    refine g_put S hI hP hS uX3 rfl tyX3 tyX3_ok nmX3 (fs := _) (hb_f.lt 0 (by decide)) (hb_f.2 0 (by decide)) 3 (by decide) q222 rfl rfl (v := .int (nI (tc + 1))) rfl rfl (Nat.le_of_ble_eq_true rfl) dX3_take_20 (fun H locs hP hS => ?_)
    have hP : gP E ad N (va_up _ (f) (FLC E ad f re ce rc (tc + 1) 0)) H := hP
    have hb1 : bkP N (va_up _ (f) (FLC E ad f re ce rc (tc + 1) 0)) f 3 (FLC E ad f re ce rc (tc + 1)) := FL_setO hb_f _ _
    have hfr := hfr.up (p := f) (e := FLC E ad f re ce rc (tc + 1) 0) (by show _ ∧ _; omega)
    refine lv_aload_n hx hb dX3_take_23 rfl (lv_at hl 0 rfl) ?_
    refine g_get S hI hP uX3 rfl (fs := _) (hb1.lt 0 (by decide)) (hb1.2 0 (by decide)) 1 (by decide) q219 rfl (v := .ref (ad (f + 2))) rfl dX3_take_24 ?_
    refine lv_aload_n hx hb dX3_take_27 rfl (lv_at hl 0 rfl) ?_
    refine g_get S hI hP uX3 rfl (fs := _) (hb1.lt 0 (by decide)) (hb1.2 0 (by decide)) 3 (by decide) q222 rfl (v := .int (nI (tc + 1))) rfl dX3_take_28 ?_
    refine g_iconst S 1 dX3_take_31 (by decide +kernel) ?_
    refine g_isub S (by omega) dX3_take_32 ?_
    have e2 : tc + 1 - 1 = tc := rfl
    refine g_iald S hI hP (f := fun j => nI (ce j)) (hb1.lt 2 (by decide)) (hb1.2 2 (by decide)) (tc) (by omega) (by decide) dX3_take_33 ?_
    exact g_iret S hr hlocks hP hS (⟨by rw [if_pos h]; rfl, by rw [if_pos h]; exact hb1, hfr⟩) (fun _ _ => rfl) (Nat.le_of_ble_eq_true rfl) (Nat.le_of_ble_eq_true rfl) dX3_take_34
  · refine lv_iconst (v := -1) hx hb dX3_take_11 (by decide +kernel) ?_
    exact g_iret S hr hlocks hP hS (⟨by rw [if_neg (by omega)]; rfl, by rw [if_neg (by omega)]; exact hb_f, hfr⟩) (fun _ _ => rfl) (Nat.le_of_ble_eq_true rfl) (Nat.le_of_ble_eq_true rfl) dX3_take_12
set_option maxHeartbeats 4000000 in
set_option maxRecDepth 100000 in
/-- a cell waits -/
theorem mX1_put (l : Launch) {E : gE} {ad : Nat → Nat} {N : Nat} {w : Nat → va_E} (f : Nat) (wa ke : Nat → Nat) (c k : Nat) (hb_q : bkP N w f 3 (CQC E ad f wa ke)) (hc : c < 36) : gMv l yX1_put (lw_ws yX1_put cX1_put 3 none) ({ frames := 0, cells := 0, slots := 0, locals := 0 } : Room) E ad N w [.ref (ad (f)), .int (nI (c)), .int (nI (k))] (fun w' => bkP N w' f 3 (CQC E ad f (va_up wa c 1) (va_up ke c k)) ∧ gFr (gIn f 3) w w') 0 0 := by
  refine Met.ofW (cc := cX1_put) (maxL := 3) (ret := none) (by decide) rfl ?_
  intro p e s m args below meth cd s₁ B hml hv
  obtain ⟨rfl, hI, hP⟩ := hv
  obtain ⟨S, hr, hlocks⟩ := gPre (ws := []) B hml (C := RX1) rfl
  have hx := S.1
  have hb := S.2.1
  have hS : va_S (gA E) s.heap s.heap [] := va_S.rf
  have hfr : gFr (gIn f 3) w w := gFr.rf
  have hl := lv_entry ([.ref (ad (f)), .int (nI (c)), .int (nI (k))]) (n := 3) (Nat.le_of_ble_eq_true rfl)
  rw [lg_entry_eq]
  generalize (lg_sl ([.ref (ad (f)), .int (nI (c)), .int (nI (k))]) ++ List.replicate (3 - (lg_sl ([.ref (ad (f)), .int (nI (c)), .int (nI (k))])).length) Slot.unset).toArray = ls at hl ⊢
  have hl : lv_has ls 3 [(0, .ref (ad (f))), (1, .int (nI (c))), (2, .int (nI (k)))] := hl
  refine lv_aload_n hx hb dX1_put_0 rfl (lv_at hl 0 rfl) ?_
  refine g_get S hI hP uX1 rfl (fs := _) (hb_q.lt 0 (by decide)) (hb_q.2 0 (by decide)) 0 (by decide) q267 rfl (v := .ref (ad (f + 1))) rfl dX1_put_1 ?_
  refine lv_iload_n hx hb dX1_put_4 rfl (lv_at hl 1 rfl) ?_
  refine g_iconst S 1 dX1_put_5 (by decide +kernel) ?_
  refine g_zastN S hI hP hS (f := wa) (x := 1) (hb_q.lt 1 (by decide)) (hb_q.2 1 (by decide)) (c) (hc) (by decide) (by omega) dX1_put_6 (fun H locs hP hS => ?_)
  have hP : gP E ad N (va_up _ (f + 1) (CQC E ad f (va_up wa c 1) ke 1)) H := hP
  have hb1 : bkP N (va_up _ (f + 1) (CQC E ad f (va_up wa c 1) ke 1)) f 3 (CQC E ad f (va_up wa c 1) ke) := CQ_setA0 hb_q _
  have hfr := hfr.up (p := f + 1) (e := CQC E ad f (va_up wa c 1) ke 1) (by show _ ∧ _; omega)
  refine lv_aload_n hx hb dX1_put_7 rfl (lv_at hl 0 rfl) ?_
  refine g_get S hI hP uX1 rfl (fs := _) (hb1.lt 0 (by decide)) (hb1.2 0 (by decide)) 1 (by decide) q268 rfl (v := .ref (ad (f + 2))) rfl dX1_put_8 ?_
  refine lv_iload_n hx hb dX1_put_11 rfl (lv_at hl 1 rfl) ?_
  refine lv_iload_n hx hb dX1_put_12 rfl (lv_at hl 2 rfl) ?_
  refine g_iastN S hI hP hS (f := ke) (x := k) (hb1.lt 2 (by decide)) (hb1.2 2 (by decide)) (c) (hc) (by decide) dX1_put_13 (fun H locs hP hS => ?_)
  have hP : gP E ad N (va_up _ (f + 2) (CQC E ad f (va_up wa c 1) (va_up ke c k) 2)) H := hP
  have hb2 : bkP N (va_up _ (f + 2) (CQC E ad f (va_up wa c 1) (va_up ke c k) 2)) f 3 (CQC E ad f (va_up wa c 1) (va_up ke c k)) := CQ_setA1 hb1 _
  have hfr := hfr.up (p := f + 2) (e := CQC E ad f (va_up wa c 1) (va_up ke c k) 2) (by show _ ∧ _; omega)
  exact g_vret S hr hlocks hP hS (⟨hb2, hfr⟩) (fun _ _ => rfl) (Nat.le_of_ble_eq_true rfl) (Nat.le_of_ble_eq_true rfl) dX1_put_14
set_option maxHeartbeats 4000000 in
set_option maxRecDepth 100000 in
/-- the least waiting cell is taken -/
theorem mX1_take (l : Launch) {E : gE} {ad : Nat → Nat} {N : Nat} {w : Nat → va_E} (f : Nat) (wa ke : Nat → Nat) (hb_q : bkP N w f 3 (CQC E ad f wa ke)) (hwa : ∀ k, k < 36 → wa k ≤ 1) (hke : ∀ k, k < 36 → ke k < 2 ^ 30) : gMi l yX1_take (lw_ws yX1_take cX1_take 3 (some .int)) ({ frames := 0, cells := 0, slots := 0, locals := 0 } : Room) E ad N w [.ref (ad (f))] (fun r w' => r = oI (qmin wa ke 36) ∧ bkP N w' f 3 (CQC E ad f (match qmin wa ke 36 with | none => wa | some k => va_up wa k 0) ke) ∧ gFr (gIn f 3) w w') 0 0 := by
  refine Met.ofW (cc := cX1_take) (maxL := 3) (ret := (some .int)) (by decide) rfl ?_
  intro p e s m args below meth cd s₁ B hml hv
  obtain ⟨rfl, hI, hP⟩ := hv
  obtain ⟨S, hr, hlocks⟩ := gPre (ws := []) B hml (C := RX1) rfl
  have hx := S.1
  have hb := S.2.1
  have hS : va_S (gA E) s.heap s.heap [] := va_S.rf
  have hfr : gFr (gIn f 3) w w := gFr.rf
  have hl := lv_entry ([.ref (ad (f))]) (n := 3) (Nat.le_of_ble_eq_true rfl)
  rw [lg_entry_eq]
  generalize (lg_sl ([.ref (ad (f))]) ++ List.replicate (3 - (lg_sl ([.ref (ad (f))])).length) Slot.unset).toArray = ls at hl ⊢
  have hl : lv_has ls 3 [(0, .ref (ad (f)))] := hl
  refine lv_iconst (v := -1) hx hb dX1_take_0 (by decide +kernel) ?_
  refine lv_istore_n (lv' := [(1, .int (-1)), (0, .ref (ad (f)))]) hx hb dX1_take_1 rfl hl (by decide) rfl (fun ls hl => ?_)
  refine g_iconst S 0 dX1_take_2 (by decide +kernel) ?_
  refine lv_istore_n (lv' := [(2, .int (nI (0))), (1, .int (-1)), (0, .ref (ad (f)))]) hx hb dX1_take_3 rfl hl (by decide) rfl (fun ls hl => ?_)
  have loop1 : ∀ (n : Nat) (i : Nat), 36 - i < n → (i ≤ 36) → ∀ (ls : Array Slot), lv_has ls 3 [(2, .int (nI (i))), (1, .int (oI (qmin wa ke i))), (0, .ref (ad (f)))] → W p l e (headSpec (lw_ws yX1_take cX1_take 3 (some .int)) ({ frames := 0, cells := 0, slots := 0, locals := 0 } : Room)).room s m ([.ref (ad (f))] : List Value).toArray below meth cd s.heap [] 0 0 (MQ below (va_Qi (fun r w' => r = oI (qmin wa ke 36) ∧ bkP N w' f 3 (CQC E ad f (match qmin wa ke 36 with | none => wa | some k => va_up wa k 0) ke) ∧ gFr (gIn f 3) w w') (gB E ad N) (gA E)) ([.ref (ad (f))] : List Value).toArray s 0 0 (gA E)) (F0 m 4 ls []) := by
    intro n
    induction n with
    | zero => intro i hmeas; omega
    | succ n ih =>
      intro i hmeas hi ls hl
      refine lv_iload_n hx hb dX1_take_4 rfl (lv_at hl 0 rfl) ?_
      refine g_bipush S 36 dX1_take_5 (by decide +kernel) ?_
      refine g_ge S (a := i) (b := 36) (by omega) (by omega) (tgt := 47) dX1_take_7 (by decide) (fun h => ?_) (fun h => ?_)
      · have e_i : i = 36 := by omega
        subst e_i
        refine lv_iload_n hx hb dX1_take_47 rfl (lv_at hl 1 rfl) ?_
        refine lv_iconst (v := -1) hx hb dX1_take_48 (by decide +kernel) ?_
        refine g_oeq S (o := qmin wa ke 36) (fun k hk => by have := qmin_lt hk; omega) (tgt := 59) dX1_take_49 (by decide) (fun hq => ?_) (fun hq_k hq => ?_)
        · refine lv_iload_n hx hb dX1_take_59 rfl (lv_at hl 1 rfl) ?_
          exact g_iret S hr hlocks hP hS (⟨rfl, by rw [hq]; exact hb_q, hfr⟩) (fun _ _ => rfl) (Nat.le_of_ble_eq_true rfl) (Nat.le_of_ble_eq_true rfl) dX1_take_60
        · have hk36 := qmin_lt hq
          have hl : lv_has ls 3 [(2, .int (nI (36))), (1, .int (nI (hq_k))), (0, .ref (ad (f)))] := by rw [hq] at hl; exact hl
          refine lv_aload_n hx hb dX1_take_52 rfl (lv_at hl 2 rfl) ?_
          refine g_get S hI hP uX1 rfl (fs := _) (hb_q.lt 0 (by decide)) (hb_q.2 0 (by decide)) 0 (by decide) q267 rfl (v := .ref (ad (f + 1))) rfl dX1_take_53 ?_
          refine lv_iload_n hx hb dX1_take_56 rfl (lv_at hl 1 rfl) ?_
          refine g_iconst S 0 dX1_take_57 (by decide +kernel) ?_
          refine g_zastN S hI hP hS (f := wa) (x := 0) (hb_q.lt 1 (by decide)) (hb_q.2 1 (by decide)) (hq_k) (hk36) (by decide) (by omega) dX1_take_58 (fun H locs hP hS => ?_)
          have hP : gP E ad N (va_up _ (f + 1) (CQC E ad f (va_up wa hq_k 0) ke 1)) H := hP
          have hb2 : bkP N (va_up _ (f + 1) (CQC E ad f (va_up wa hq_k 0) ke 1)) f 3 (CQC E ad f (va_up wa hq_k 0) ke) := CQ_setA0 hb_q _
          have hfr := hfr.up (p := f + 1) (e := CQC E ad f (va_up wa hq_k 0) ke 1) (by show _ ∧ _; omega)
          refine lv_iload_n hx hb dX1_take_59 rfl (lv_at hl 1 rfl) ?_
          exact g_iret S hr hlocks hP hS (⟨by rw [hq]; rfl, by rw [hq]; exact hb2, hfr⟩) (fun _ _ => rfl) (Nat.le_of_ble_eq_true rfl) (Nat.le_of_ble_eq_true rfl) dX1_take_60
      · have hwi := hwa i h
        have hki := hke i h
        refine lv_aload_n hx hb dX1_take_10 rfl (lv_at hl 2 rfl) ?_
        refine g_get S hI hP uX1 rfl (fs := _) (hb_q.lt 0 (by decide)) (hb_q.2 0 (by decide)) 0 (by decide) q267 rfl (v := .ref (ad (f + 1))) rfl dX1_take_11 ?_
        refine lv_iload_n hx hb dX1_take_14 rfl (lv_at hl 0 rfl) ?_
        refine g_zald S hI hP (f := fun j => nI (wa j)) (hb_q.lt 1 (by decide)) (hb_q.2 1 (by decide)) (i) (h) (by decide) dX1_take_15 ?_
        refine g_ifeq S (a := wa i) (by omega) (tgt := 41) dX1_take_16 (by decide) (fun hw => ?_) (fun hw => ?_)
        · refine lv_iinc (v := nI (i + 1)) (lv' := [(2, .int (nI (i + 1))), (1, .int (oI (qmin wa ke i))), (0, .ref (ad (f)))]) hx hb dX1_take_41 hl (k := 0) rfl (g_inc _ 1 (by decide +kernel)) (by decide) rfl (fun ls hl => ?_)
          refine lv_goto (tgt := 4) hx hb dX1_take_44 (by decide) ?_
          have hl : lv_has ls 3 [(2, .int (nI (i + 1))), (1, .int (oI (qmin wa ke (i + 1)))), (0, .ref (ad (f)))] := by rw [show qmin wa ke (i + 1) = qmin wa ke i by simp only [qmin]; rw [if_pos hw]]; exact hl
          exact ih (i + 1) (by omega) (by omega) ls (lv_sub hl [0, 1, 2] rfl)
        · have hw0 : ¬ wa i = 0 := by omega
          refine lv_iload_n hx hb dX1_take_19 rfl (lv_at hl 1 rfl) ?_
          refine lv_iconst (v := -1) hx hb dX1_take_20 (by decide +kernel) ?_
          refine g_oeq S (o := qmin wa ke i) (fun k hk => by have := qmin_lt hk; omega) (tgt := 39) dX1_take_21 (by decide) (fun hq => ?_) (fun hq_k hq => ?_)
          · refine lv_iload_n hx hb dX1_take_39 rfl (lv_at hl 0 rfl) ?_
            refine lv_istore_n (lv' := [(1, .int (nI (i))), (2, .int (nI (i))), (0, .ref (ad (f)))]) hx hb dX1_take_40 rfl hl (by decide) rfl (fun ls hl => ?_)
            refine lv_iinc (v := nI (i + 1)) (lv' := [(2, .int (nI (i + 1))), (1, .int (nI (i))), (0, .ref (ad (f)))]) hx hb dX1_take_41 hl (k := 1) rfl (g_inc _ 1 (by decide +kernel)) (by decide) rfl (fun ls hl => ?_)
            refine lv_goto (tgt := 4) hx hb dX1_take_44 (by decide) ?_
            have hl : lv_has ls 3 [(2, .int (nI (i + 1))), (1, .int (oI (qmin wa ke (i + 1)))), (0, .ref (ad (f)))] := by rw [show qmin wa ke (i + 1) = some i by simp only [qmin]; rw [if_neg hw0, hq]]; exact hl
            exact ih (i + 1) (by omega) (by omega) ls (lv_sub hl [0, 1, 2] rfl)
          · have hk36 := qmin_lt hq
            have hkk := hke hq_k (by omega)
            have hl : lv_has ls 3 [(2, .int (nI (i))), (1, .int (nI (hq_k))), (0, .ref (ad (f)))] := by rw [hq] at hl; exact hl
            refine lv_aload_n hx hb dX1_take_24 rfl (lv_at hl 2 rfl) ?_
            refine g_get S hI hP uX1 rfl (fs := _) (hb_q.lt 0 (by decide)) (hb_q.2 0 (by decide)) 1 (by decide) q268 rfl (v := .ref (ad (f + 2))) rfl dX1_take_25 ?_
            refine lv_iload_n hx hb dX1_take_28 rfl (lv_at hl 0 rfl) ?_
            refine g_iald S hI hP (f := fun j => nI (ke j)) (hb_q.lt 2 (by decide)) (hb_q.2 2 (by decide)) (i) (h) (by decide) dX1_take_29 ?_
            refine lv_aload_n hx hb dX1_take_30 rfl (lv_at hl 2 rfl) ?_
            refine g_get S hI hP uX1 rfl (fs := _) (hb_q.lt 0 (by decide)) (hb_q.2 0 (by decide)) 1 (by decide) q268 rfl (v := .ref (ad (f + 2))) rfl dX1_take_31 ?_
            refine lv_iload_n hx hb dX1_take_34 rfl (lv_at hl 1 rfl) ?_
            refine g_iald S hI hP (f := fun j => nI (ke j)) (hb_q.lt 2 (by decide)) (hb_q.2 2 (by decide)) (hq_k) (by omega) (by decide) dX1_take_35 ?_
            refine g_ge S (a := ke i) (b := ke hq_k) (by omega) (by omega) (tgt := 41) dX1_take_36 (by decide) (fun hv => ?_) (fun hv => ?_)
            · refine lv_iinc (v := nI (i + 1)) (lv' := [(2, .int (nI (i + 1))), (1, .int (nI (hq_k))), (0, .ref (ad (f)))]) hx hb dX1_take_41 hl (k := 0) rfl (g_inc _ 1 (by decide +kernel)) (by decide) rfl (fun ls hl => ?_)
              refine lv_goto (tgt := 4) hx hb dX1_take_44 (by decide) ?_
              have hl : lv_has ls 3 [(2, .int (nI (i + 1))), (1, .int (oI (qmin wa ke (i + 1)))), (0, .ref (ad (f)))] := by rw [show qmin wa ke (i + 1) = some hq_k by simp only [qmin]; rw [if_neg hw0, hq]; simp only []; rw [if_neg (by omega)]]; exact hl
              exact ih (i + 1) (by omega) (by omega) ls (lv_sub hl [0, 1, 2] rfl)
            · refine lv_iload_n hx hb dX1_take_39 rfl (lv_at hl 0 rfl) ?_
              refine lv_istore_n (lv' := [(1, .int (nI (i))), (2, .int (nI (i))), (0, .ref (ad (f)))]) hx hb dX1_take_40 rfl hl (by decide) rfl (fun ls hl => ?_)
              refine lv_iinc (v := nI (i + 1)) (lv' := [(2, .int (nI (i + 1))), (1, .int (nI (i))), (0, .ref (ad (f)))]) hx hb dX1_take_41 hl (k := 1) rfl (g_inc _ 1 (by decide +kernel)) (by decide) rfl (fun ls hl => ?_)
              refine lv_goto (tgt := 4) hx hb dX1_take_44 (by decide) ?_
              have hl : lv_has ls 3 [(2, .int (nI (i + 1))), (1, .int (oI (qmin wa ke (i + 1)))), (0, .ref (ad (f)))] := by rw [show qmin wa ke (i + 1) = some i by simp only [qmin]; rw [if_neg hw0, hq]; simp only []; rw [if_pos hv]]; exact hl
              exact ih (i + 1) (by omega) (by omega) ls (lv_sub hl [0, 1, 2] rfl)
  exact loop1 (36 - (0) + 1) (0) (Nat.lt_succ_self _) (by omega) ls (lv_sub hl [0, 1, 2] rfl)
set_option maxHeartbeats 4000000 in
set_option maxRecDepth 100000 in
/-- each cell by itself -/
theorem mX10_separate (l : Launch) {E : gE} {ad : Nat → Nat} {N : Nat} {w : Nat → va_E} (f : Nat) (pa : Nat → Nat) (hb_u : bkP N w f 2 (UNC E ad f pa))  : gMv l yX10_separate (lw_ws yX10_separate cX10_separate 2 none) ({ frames := 0, cells := 0, slots := 0, locals := 0 } : Room) E ad N w [.ref (ad (f))] (fun w' => bkP N w' f 2 (UNC E ad f (fil 36 (fun j => j) pa)) ∧ gFr (gIn f 2) w w') 0 0 := by
  refine Met.ofW (cc := cX10_separate) (maxL := 2) (ret := none) (by decide) rfl ?_
  intro p e s m args below meth cd s₁ B hml hv
  obtain ⟨rfl, hI, hP⟩ := hv
  obtain ⟨S, hr, hlocks⟩ := gPre (ws := []) B hml (C := RX10) rfl
  have hx := S.1
  have hb := S.2.1
  have hS : va_S (gA E) s.heap s.heap [] := va_S.rf
  have hfr : gFr (gIn f 2) w w := gFr.rf
  have hl := lv_entry ([.ref (ad (f))]) (n := 2) (Nat.le_of_ble_eq_true rfl)
  rw [lg_entry_eq]
  generalize (lg_sl ([.ref (ad (f))]) ++ List.replicate (2 - (lg_sl ([.ref (ad (f))])).length) Slot.unset).toArray = ls at hl ⊢
  have hl : lv_has ls 2 [(0, .ref (ad (f)))] := hl
  refine g_iconst S 0 dX10_separate_0 (by decide +kernel) ?_
  refine lv_istore_n (lv' := [(1, .int (nI (0))), (0, .ref (ad (f)))]) hx hb dX10_separate_1 rfl hl (by decide) rfl (fun ls hl => ?_)
  have loop1 : ∀ (n : Nat) (i : Nat), 36 - i < n → (i ≤ 36) → ∀ (w1 : Nat → va_E) (H : Heap) (locs : List Loc), gP E ad N w1 H → va_S (gA E) s.heap H locs → bkP N w1 f 2 (UNC E ad f (fil i (fun j => j) pa)) → gFr (gIn f 2) w w1 → ∀ (ls : Array Slot), lv_has ls 2 [(1, .int (nI (i))), (0, .ref (ad (f)))] → W p l e (headSpec (lw_ws yX10_separate cX10_separate 2 none) ({ frames := 0, cells := 0, slots := 0, locals := 0 } : Room)).room s m ([.ref (ad (f))] : List Value).toArray below meth cd H locs 0 0 (MQ below (va_Qv (fun w' => bkP N w' f 2 (UNC E ad f (fil 36 (fun j => j) pa)) ∧ gFr (gIn f 2) w w') (gB E ad N) (gA E)) ([.ref (ad (f))] : List Value).toArray s 0 0 (gA E)) (F0 m 2 ls []) := by
    intro n
    induction n with
    | zero => intro i hmeas; omega
    | succ n ih =>
      intro i hmeas hi w1 H locs hP hS hb2 hfr ls hl
      refine lv_iload_n hx hb dX10_separate_2 rfl (lv_at hl 0 rfl) ?_
      refine g_bipush S 36 dX10_separate_3 (by decide +kernel) ?_
      refine g_ge S (a := i) (b := 36) (by omega) (by omega) (tgt := 21) dX10_separate_5 (by decide) (fun h => ?_) (fun h => ?_)
      · have e : i = 36 := by omega
        rw [e] at hb2
        exact g_vret S hr hlocks hP hS (⟨hb2, hfr⟩) (fun _ _ => rfl) (Nat.le_of_ble_eq_true rfl) (Nat.le_of_ble_eq_true rfl) dX10_separate_21
      · refine lv_aload_n hx hb dX10_separate_8 rfl (lv_at hl 1 rfl) ?_
        refine g_get S hI hP uX10 rfl (fs := _) (hb2.lt 0 (by decide)) (hb2.2 0 (by decide)) 0 (by decide) q238 rfl (v := .ref (ad (f + 1))) rfl dX10_separate_9 ?_
        refine lv_iload_n hx hb dX10_separate_12 rfl (lv_at hl 0 rfl) ?_
        refine lv_iload_n hx hb dX10_separate_13 rfl (lv_at hl 0 rfl) ?_
        refine g_iastN S hI hP hS (f := fil i (fun j => j) pa) (x := i) (hb2.lt 1 (by decide)) (hb2.2 1 (by decide)) (i) (h) (by decide) dX10_separate_14 (fun H locs hP hS => ?_)
        have hP : gP E ad N (va_up _ (f + 1) (UNC E ad f (va_up (fil i (fun j => j) pa) i i) 1)) H := hP
        have hb3 : bkP N (va_up _ (f + 1) (UNC E ad f (va_up (fil i (fun j => j) pa) i i) 1)) f 2 (UNC E ad f (va_up (fil i (fun j => j) pa) i i)) := UN_setA0 hb2 _
        have hfr := hfr.up (p := f + 1) (e := UNC E ad f (va_up (fil i (fun j => j) pa) i i) 1) (by show _ ∧ _; omega)
        rw [fil_up (f := fun j => j)] at hb3 hP hfr
        refine lv_iinc (v := nI (i + 1)) (lv' := [(1, .int (nI (i + 1))), (0, .ref (ad (f)))]) hx hb dX10_separate_15 hl (k := 0) rfl (g_inc _ 1 (by decide +kernel)) (by decide) rfl (fun ls hl => ?_)
        refine lv_goto (tgt := 2) hx hb dX10_separate_18 (by decide) ?_
        exact ih (i + 1) (by omega) (by omega) _ _ _ hP hS hb3 hfr ls (lv_sub hl [0, 1] rfl)
  rw [← fil_0 (fun j => j) pa] at hb_u
  exact loop1 (36 - (0) + 1) (0) (Nat.lt_succ_self _) (by omega) _ _ _ hP hS hb_u hfr ls (lv_sub hl [0, 1] rfl)
set_option maxHeartbeats 4000000 in
set_option maxRecDepth 100000 in
/-- the root of a cell -/
theorem mX10_rootOf (l : Launch) {E : gE} {ad : Nat → Nat} {N : Nat} {w : Nat → va_E} (f : Nat) (pa : Nat → Nat) (c : Nat) (hb_u : bkP N w f 2 (UNC E ad f pa)) (hc : c < 36) (hpa : ∀ k, k < 36 → pa k < 36) : gMi l yX10_rootOf (lw_ws yX10_rootOf cX10_rootOf 4 (some .int)) ({ frames := 0, cells := 0, slots := 0, locals := 0 } : Room) E ad N w [.ref (ad (f)), .int (nI (c))] (fun r w' => r = nI (rtN pa 36 c) ∧ w' = w) 0 0 := by
  refine Met.ofW (cc := cX10_rootOf) (maxL := 4) (ret := (some .int)) (by decide) rfl ?_
  intro p e s m args below meth cd s₁ B hml hv
  obtain ⟨rfl, hI, hP⟩ := hv
  obtain ⟨S, hr, hlocks⟩ := gPre (ws := []) B hml (C := RX10) rfl
  have hx := S.1
  have hb := S.2.1
  have hS : va_S (gA E) s.heap s.heap [] := va_S.rf
  have hl := lv_entry ([.ref (ad (f)), .int (nI (c))]) (n := 4) (Nat.le_of_ble_eq_true rfl)
  rw [lg_entry_eq]
  generalize (lg_sl ([.ref (ad (f)), .int (nI (c))]) ++ List.replicate (4 - (lg_sl ([.ref (ad (f)), .int (nI (c))])).length) Slot.unset).toArray = ls at hl ⊢
  have hl : lv_has ls 4 [(0, .ref (ad (f))), (1, .int (nI (c)))] := hl
  refine lv_iload_n hx hb dX10_rootOf_0 rfl (lv_at hl 1 rfl) ?_
  refine lv_istore_n (lv' := [(2, .int (nI (c))), (0, .ref (ad (f))), (1, .int (nI (c)))]) hx hb dX10_rootOf_1 rfl hl (by decide) rfl (fun ls hl => ?_)
  refine g_iconst S 0 dX10_rootOf_2 (by decide +kernel) ?_
  refine lv_istore_n (lv' := [(3, .int (nI (0))), (2, .int (nI (c))), (0, .ref (ad (f))), (1, .int (nI (c)))]) hx hb dX10_rootOf_3 rfl hl (by decide) rfl (fun ls hl => ?_)
  have loop1 : ∀ (n : Nat) (i : Nat) (u : Nat), 36 - i < n → (i ≤ 36) → (u < 36) → (rtN pa (36 - i) u = rtN pa 36 c) → ∀ (ls : Array Slot), lv_has ls 4 [(3, .int (nI (i))), (2, .int (nI (u))), (1, .int (nI (c))), (0, .ref (ad (f)))] → W p l e (headSpec (lw_ws yX10_rootOf cX10_rootOf 4 (some .int)) ({ frames := 0, cells := 0, slots := 0, locals := 0 } : Room)).room s m ([.ref (ad (f)), .int (nI (c))] : List Value).toArray below meth cd s.heap [] 0 0 (MQ below (va_Qi (fun r w' => r = nI (rtN pa 36 c) ∧ w' = w) (gB E ad N) (gA E)) ([.ref (ad (f)), .int (nI (c))] : List Value).toArray s 0 0 (gA E)) (F0 m 4 ls []) := by
    intro n
    induction n with
    | zero => intro i u hmeas; omega
    | succ n ih =>
      intro i u hmeas hi hu he ls hl
      have hpu := hpa u hu
      refine lv_iload_n hx hb dX10_rootOf_4 rfl (lv_at hl 0 rfl) ?_
      refine g_bipush S 36 dX10_rootOf_5 (by decide +kernel) ?_
      refine g_ge S (a := i) (b := 36) (by omega) (by omega) (tgt := 33) dX10_rootOf_7 (by decide) (fun h => ?_) (fun h => ?_)
      · refine lv_iload_n hx hb dX10_rootOf_33 rfl (lv_at hl 1 rfl) ?_
        have e : 36 - i = 0 := by omega
        rw [e] at he
        exact g_iret S hr hlocks hP hS (⟨by rw [← he]; rfl, rfl⟩) (fun _ _ => rfl) (Nat.le_of_ble_eq_true rfl) (Nat.le_of_ble_eq_true rfl) dX10_rootOf_34
      · have e : 36 - i = (36 - (i + 1)) + 1 := by omega
        rw [e] at he
        refine lv_aload_n hx hb dX10_rootOf_10 rfl (lv_at hl 3 rfl) ?_
        refine g_get S hI hP uX10 rfl (fs := _) (hb_u.lt 0 (by decide)) (hb_u.2 0 (by decide)) 0 (by decide) q238 rfl (v := .ref (ad (f + 1))) rfl dX10_rootOf_11 ?_
        refine lv_iload_n hx hb dX10_rootOf_14 rfl (lv_at hl 1 rfl) ?_
        refine g_iald S hI hP (f := fun j => nI (pa j)) (hb_u.lt 1 (by decide)) (hb_u.2 1 (by decide)) (u) (hu) (by decide) dX10_rootOf_15 ?_
        refine lv_iload_n hx hb dX10_rootOf_16 rfl (lv_at hl 1 rfl) ?_
        refine g_eq S (a := pa u) (b := u) (by omega) (by omega) (tgt := 33) dX10_rootOf_17 (by decide) (fun hq => ?_) (fun hq => ?_)
        · refine lv_iload_n hx hb dX10_rootOf_33 rfl (lv_at hl 1 rfl) ?_
          exact g_iret S hr hlocks hP hS (⟨by rw [← he]; simp only [rtN]; rw [if_pos hq], rfl⟩) (fun _ _ => rfl) (Nat.le_of_ble_eq_true rfl) (Nat.le_of_ble_eq_true rfl) dX10_rootOf_34
        · refine lv_aload_n hx hb dX10_rootOf_20 rfl (lv_at hl 3 rfl) ?_
          refine g_get S hI hP uX10 rfl (fs := _) (hb_u.lt 0 (by decide)) (hb_u.2 0 (by decide)) 0 (by decide) q238 rfl (v := .ref (ad (f + 1))) rfl dX10_rootOf_21 ?_
          refine lv_iload_n hx hb dX10_rootOf_24 rfl (lv_at hl 1 rfl) ?_
          refine g_iald S hI hP (f := fun j => nI (pa j)) (hb_u.lt 1 (by decide)) (hb_u.2 1 (by decide)) (u) (hu) (by decide) dX10_rootOf_25 ?_
          refine lv_istore_n (lv' := [(2, .int (nI (pa u))), (3, .int (nI (i))), (1, .int (nI (c))), (0, .ref (ad (f)))]) hx hb dX10_rootOf_26 rfl hl (by decide) rfl (fun ls hl => ?_)
          refine lv_iinc (v := nI (i + 1)) (lv' := [(3, .int (nI (i + 1))), (2, .int (nI (pa u))), (1, .int (nI (c))), (0, .ref (ad (f)))]) hx hb dX10_rootOf_27 hl (k := 1) rfl (g_inc _ 1 (by decide +kernel)) (by decide) rfl (fun ls hl => ?_)
          refine lv_goto (tgt := 4) hx hb dX10_rootOf_30 (by decide) ?_
          exact ih (i + 1) (pa u) (by omega) (by omega) (hpu) (by simp only [rtN] at he; rw [if_neg hq] at he; exact he) ls (lv_sub hl [0, 1, 2, 3] rfl)
  exact loop1 (36 - (0) + 1) (0) (c) (Nat.lt_succ_self _) (by omega) (hc) (rfl) ls (lv_sub hl [0, 1, 3, 2] rfl)
set_option maxHeartbeats 4000000 in
set_option maxRecDepth 100000 in
/-- two cells are united -/
theorem mX10_unite (l : Launch) {E : gE} {ad : Nat → Nat} {N : Nat} {w : Nat → va_E} (f : Nat) (pa : Nat → Nat) (a b : Nat) (hb_u : bkP N w f 2 (UNC E ad f pa)) (ha : a < 36) (hb1 : b < 36) (hpa : ∀ k, k < 36 → pa k < 36) : gMi l yX10_unite (lw_ws yX10_unite cX10_unite 5 (some .boolean)) ({ frames := 1, cells := 0, slots := 0, locals := 23 } : Room) E ad N w [.ref (ad (f)), .int (nI (a)), .int (nI (b))] (fun r w' => r = bI (!decide (rtN pa 36 a = rtN pa 36 b)) ∧ bkP N w' f 2 (UNC E ad f (unU pa a b)) ∧ gFr (gIn f 2) w w') 0 0 := by
  refine Met.ofW (cc := cX10_unite) (maxL := 5) (ret := (some .boolean)) (by decide) rfl ?_
  intro p e s m args below meth cd s₁ B hml hv
  obtain ⟨rfl, hI, hP⟩ := hv
  obtain ⟨S, hr, hlocks⟩ := gPre (ws := []) B hml (C := RX10) rfl
  have hx := S.1
  have hb := S.2.1
  have hS : va_S (gA E) s.heap s.heap [] := va_S.rf
  have hfr : gFr (gIn f 2) w w := gFr.rf
  have hl := lv_entry ([.ref (ad (f)), .int (nI (a)), .int (nI (b))]) (n := 5) (Nat.le_of_ble_eq_true rfl)
  rw [lg_entry_eq]
  generalize (lg_sl ([.ref (ad (f)), .int (nI (a)), .int (nI (b))]) ++ List.replicate (5 - (lg_sl ([.ref (ad (f)), .int (nI (a)), .int (nI (b))])).length) Slot.unset).toArray = ls at hl ⊢
  have hl : lv_has ls 5 [(0, .ref (ad (f))), (1, .int (nI (a))), (2, .int (nI (b)))] := hl
  have hra := rtN_lt (n := 36) hpa ha
  have hrb := rtN_lt (n := 36) hpa hb1
  refine lv_aload_n hx hb dX10_unite_0 rfl (lv_at hl 0 rfl) ?_
  refine lv_iload_n hx hb dX10_unite_1 rfl (lv_at hl 1 rfl) ?_
  refine g_roi (g_runV S hI hP hS (k := 1) (As := [.int (nI (a))]) (rest := []) (mX10_rootOf l f pa a hb_u ha hpa) q978 q979 q980 q88 q981 rfl rfl (by decide +kernel) ⟨Nat.le_of_ble_eq_true rfl, Nat.le_of_ble_eq_true rfl⟩ rfl (hb_u.lt 0 (by decide)) (hb_u.2 0 (by decide)) rfl hl.1 rfl (Nat.le_of_ble_eq_true rfl) ⟨(Nat.le_of_ble_eq_true rfl), (Nat.le_of_ble_eq_true rfl)⟩ dX10_unite_2) hS (fun H locs hP hS => ?_)
  refine lv_istore_n (lv' := [(3, .int (nI (rtN pa 36 a))), (0, .ref (ad (f))), (1, .int (nI (a))), (2, .int (nI (b)))]) hx hb dX10_unite_5 rfl hl (by decide) rfl (fun ls hl => ?_)
  refine lv_aload_n hx hb dX10_unite_6 rfl (lv_at hl 1 rfl) ?_
  refine lv_iload_n hx hb dX10_unite_7 rfl (lv_at hl 3 rfl) ?_
  refine g_roi (g_runV S hI hP hS (k := 1) (As := [.int (nI (b))]) (rest := []) (mX10_rootOf l f pa b hb_u hb1 hpa) q978 q979 q980 q88 q981 rfl rfl (by decide +kernel) ⟨Nat.le_of_ble_eq_true rfl, Nat.le_of_ble_eq_true rfl⟩ rfl (hb_u.lt 0 (by decide)) (hb_u.2 0 (by decide)) rfl hl.1 rfl (Nat.le_of_ble_eq_true rfl) ⟨(Nat.le_of_ble_eq_true rfl), (Nat.le_of_ble_eq_true rfl)⟩ dX10_unite_8) hS (fun H locs hP hS => ?_)
  refine lv_istore (lv' := [(4, .int (nI (rtN pa 36 b))), (3, .int (nI (rtN pa 36 a))), (0, .ref (ad (f))), (1, .int (nI (a))), (2, .int (nI (b)))]) hx hb dX10_unite_11 hl (by decide) rfl (fun ls hl => ?_)
  refine lv_aload_n hx hb dX10_unite_13 rfl (lv_at hl 2 rfl) ?_
  refine g_get S hI hP uX10 rfl (fs := _) (hb_u.lt 0 (by decide)) (hb_u.2 0 (by decide)) 0 (by decide) q238 rfl (v := .ref (ad (f + 1))) rfl dX10_unite_14 ?_
  refine lv_iload hx hb dX10_unite_17 (lv_at hl 0 rfl) ?_
  refine lv_iload_n hx hb dX10_unite_19 rfl (lv_at hl 1 rfl) ?_
  refine g_iastN S hI hP hS (f := pa) (x := rtN pa 36 a) (hb_u.lt 1 (by decide)) (hb_u.2 1 (by decide)) (rtN pa 36 b) (hrb) (by decide) dX10_unite_20 (fun H locs hP hS => ?_)
  have hP : gP E ad N (va_up _ (f + 1) (UNC E ad f (va_up pa (rtN pa 36 b) (rtN pa 36 a)) 1)) H := hP
  have hb1 : bkP N (va_up _ (f + 1) (UNC E ad f (va_up pa (rtN pa 36 b) (rtN pa 36 a)) 1)) f 2 (UNC E ad f (va_up pa (rtN pa 36 b) (rtN pa 36 a))) := UN_setA0 hb_u _
  have hfr := hfr.up (p := f + 1) (e := UNC E ad f (va_up pa (rtN pa 36 b) (rtN pa 36 a)) 1) (by show _ ∧ _; omega)
  refine lv_iload_n hx hb dX10_unite_21 rfl (lv_at hl 1 rfl) ?_
  refine lv_iload hx hb dX10_unite_22 (lv_at hl 0 rfl) ?_
  refine g_eq S (a := rtN pa 36 a) (b := rtN pa 36 b) (by omega) (by omega) (tgt := 31) dX10_unite_24 (by decide) (fun h => ?_) (fun h => ?_)
  · refine g_iconst S 0 dX10_unite_31 (by decide +kernel) ?_
    exact g_zret S hr hlocks (Or.inl nI_0) hP hS (⟨by rw [decide_eq_true h]; rfl, hb1, hfr⟩) (fun _ _ => rfl) (Nat.le_of_ble_eq_true rfl) (Nat.le_of_ble_eq_true rfl) dX10_unite_32
  · refine g_iconst S 1 dX10_unite_27 (by decide +kernel) ?_
    refine lv_goto (tgt := 32) hx hb dX10_unite_28 (by decide) ?_
    exact g_zret S hr hlocks (Or.inr (by decide +kernel)) hP hS (⟨by rw [decide_eq_false h]; rfl, hb1, hfr⟩) (fun _ _ => rfl) (Nat.le_of_ble_eq_true rfl) (Nat.le_of_ble_eq_true rfl) dX10_unite_32
set_option maxHeartbeats 4000000 in
set_option maxRecDepth 100000 in
/-- the border -/
theorem mX12_isOnBorder (l : Launch) {E : gE} {ad : Nat → Nat} {N : Nat} {w : Nat → va_E} (c : Nat) (hc : c < 36) : gMi l yX12_isOnBorder (lw_ws yX12_isOnBorder cX12_isOnBorder 3 (some .boolean)) ({ frames := 0, cells := 0, slots := 0, locals := 0 } : Room) E ad N w [.int (nI (c))] (fun r w' => r = bI (decide (c / 6 = 0 ∨ c / 6 = 5 ∨ c % 6 = 0 ∨ c % 6 = 5)) ∧ w' = w) 0 0 := by
  refine Met.ofW (cc := cX12_isOnBorder) (maxL := 3) (ret := (some .boolean)) (by decide) rfl ?_
  intro p e s m args below meth cd s₁ B hml hv
  obtain ⟨rfl, hI, hP⟩ := hv
  obtain ⟨S, hr, hlocks⟩ := gPre (ws := []) B hml (C := RX12) rfl
  have hx := S.1
  have hb := S.2.1
  have hS : va_S (gA E) s.heap s.heap [] := va_S.rf
  have hl := lv_entry ([.int (nI (c))]) (n := 3) (Nat.le_of_ble_eq_true rfl)
  rw [lg_entry_eq]
  generalize (lg_sl ([.int (nI (c))]) ++ List.replicate (3 - (lg_sl ([.int (nI (c))])).length) Slot.unset).toArray = ls at hl ⊢
  have hl : lv_has ls 3 [(0, .int (nI (c)))] := hl
  refine lv_iload_n hx hb dX12_isOnBorder_0 rfl (lv_at hl 0 rfl) ?_
  refine g_bipush S 6 dX12_isOnBorder_1 (by decide +kernel) ?_
  refine g_idiv S (by omega) (by omega) (by omega) dX12_isOnBorder_3 ?_
  refine lv_istore_n (lv' := [(1, .int (nI (c / 6))), (0, .int (nI (c)))]) hx hb dX12_isOnBorder_4 rfl hl (by decide) rfl (fun ls hl => ?_)
  refine lv_iload_n hx hb dX12_isOnBorder_5 rfl (lv_at hl 1 rfl) ?_
  refine g_bipush S 6 dX12_isOnBorder_6 (by decide +kernel) ?_
  refine g_irem S (by omega) (by omega) (by omega) dX12_isOnBorder_8 ?_
  refine lv_istore_n (lv' := [(2, .int (nI (c % 6))), (1, .int (nI (c / 6))), (0, .int (nI (c)))]) hx hb dX12_isOnBorder_9 rfl hl (by decide) rfl (fun ls hl => ?_)
  refine lv_iload_n hx hb dX12_isOnBorder_10 rfl (lv_at hl 1 rfl) ?_
  refine g_ifeq S (a := c / 6) (by omega) (tgt := 28) dX12_isOnBorder_11 (by decide) (fun h1 => ?_) (fun h1 => ?_)
  · refine g_iconst S 1 dX12_isOnBorder_28 (by decide +kernel) ?_
    refine lv_goto (tgt := 33) hx hb dX12_isOnBorder_29 (by decide) ?_
    exact g_zret S hr hlocks (Or.inr (by decide +kernel)) hP hS (⟨by rw [decide_eq_true (by omega)]; rfl, rfl⟩) (fun _ _ => rfl) (Nat.le_of_ble_eq_true rfl) (Nat.le_of_ble_eq_true rfl) dX12_isOnBorder_33
  · refine lv_iload_n hx hb dX12_isOnBorder_14 rfl (lv_at hl 1 rfl) ?_
    refine g_iconst S 5 dX12_isOnBorder_15 (by decide +kernel) ?_
    refine g_eq S (a := c / 6) (b := 5) (by omega) (by omega) (tgt := 28) dX12_isOnBorder_16 (by decide) (fun h2 => ?_) (fun h2 => ?_)
    · refine g_iconst S 1 dX12_isOnBorder_28 (by decide +kernel) ?_
      refine lv_goto (tgt := 33) hx hb dX12_isOnBorder_29 (by decide) ?_
      exact g_zret S hr hlocks (Or.inr (by decide +kernel)) hP hS (⟨by rw [decide_eq_true (by omega)]; rfl, rfl⟩) (fun _ _ => rfl) (Nat.le_of_ble_eq_true rfl) (Nat.le_of_ble_eq_true rfl) dX12_isOnBorder_33
    · refine lv_iload_n hx hb dX12_isOnBorder_19 rfl (lv_at hl 0 rfl) ?_
      refine g_ifeq S (a := c % 6) (by omega) (tgt := 28) dX12_isOnBorder_20 (by decide) (fun h3 => ?_) (fun h3 => ?_)
      · refine g_iconst S 1 dX12_isOnBorder_28 (by decide +kernel) ?_
        refine lv_goto (tgt := 33) hx hb dX12_isOnBorder_29 (by decide) ?_
        exact g_zret S hr hlocks (Or.inr (by decide +kernel)) hP hS (⟨by rw [decide_eq_true (by omega)]; rfl, rfl⟩) (fun _ _ => rfl) (Nat.le_of_ble_eq_true rfl) (Nat.le_of_ble_eq_true rfl) dX12_isOnBorder_33
      · refine lv_iload_n hx hb dX12_isOnBorder_23 rfl (lv_at hl 0 rfl) ?_
        refine g_iconst S 5 dX12_isOnBorder_24 (by decide +kernel) ?_
        refine g_ne S (a := c % 6) (b := 5) (by omega) (by omega) (tgt := 32) dX12_isOnBorder_25 (by decide) (fun h4 => ?_) (fun h4 => ?_)
        · refine g_iconst S 0 dX12_isOnBorder_32 (by decide +kernel) ?_
          exact g_zret S hr hlocks (Or.inl nI_0) hP hS (⟨by rw [decide_eq_false (by omega)]; rfl, rfl⟩) (fun _ _ => rfl) (Nat.le_of_ble_eq_true rfl) (Nat.le_of_ble_eq_true rfl) dX12_isOnBorder_33
        · refine g_iconst S 1 dX12_isOnBorder_28 (by decide +kernel) ?_
          refine lv_goto (tgt := 33) hx hb dX12_isOnBorder_29 (by decide) ?_
          exact g_zret S hr hlocks (Or.inr (by decide +kernel)) hP hS (⟨by rw [decide_eq_true (by omega)]; rfl, rfl⟩) (fun _ _ => rfl) (Nat.le_of_ble_eq_true rfl) (Nat.le_of_ble_eq_true rfl) dX12_isOnBorder_33
