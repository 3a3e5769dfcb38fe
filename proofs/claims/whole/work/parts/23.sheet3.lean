set_option maxHeartbeats 4000000 in
set_option maxRecDepth 100000 in
/-- a cell wears down -/
theorem mX7_wearDown (l : Launch) {E : gE} {ad : Nat → Nat} {N : Nat} {w : Nat → va_E} (b : Nat) (ht dr pg wt wr mo : Nat → Nat) (mc ni po dn : Nat) (c : Nat) (hb_s : bkP N w b 7 (SHC E ad b ht dr pg wt wr mo mc ni po dn)) (hc : c < 36) (hwr : ∀ k, k < 36 → wr k ≤ 3) : gMi l yX7_wearDown (lw_ws yX7_wearDown cX7_wearDown 2 (some .int)) ({ frames := 1, cells := 0, slots := 0, locals := 21 } : Room) E ad N w [.ref (ad (b)), .int (nI (c))] (fun r w' => r = nI (if wr c = 2 then 1 else 0) ∧ bkP N w' b 7 (SHC E ad b ht dr pg wt (if 3 ≤ wr c then wr else va_up wr c (wr c + 1)) mo mc ni po dn) ∧ gFr (gIn b 7) w w') 0 0 := by
  refine Met.ofW (cc := cX7_wearDown) (maxL := 2) (ret := (some .int)) (by decide) rfl ?_
  intro p e s m args below meth cd s₁ B hml hv
  obtain ⟨rfl, hI, hP⟩ := hv
  obtain ⟨S, hr, hlocks⟩ := gPre (ws := []) B hml (C := RX7) rfl
  have hx := S.1
  have hb := S.2.1
  have hS : va_S (gA E) s.heap s.heap [] := va_S.rf
  have hfr : gFr (gIn b 7) w w := gFr.rf
  have hl := lv_entry ([.ref (ad (b)), .int (nI (c))]) (n := 2) (Nat.le_of_ble_eq_true rfl)
  rw [lg_entry_eq]
  generalize (lg_sl ([.ref (ad (b)), .int (nI (c))]) ++ List.replicate (2 - (lg_sl ([.ref (ad (b)), .int (nI (c))])).length) Slot.unset).toArray = ls at hl ⊢
  have hl : lv_has ls 2 [(0, .ref (ad (b))), (1, .int (nI (c)))] := hl
  have hwc := hwr c hc
  refine lv_aload_n hx hb dX7_wearDown_0 rfl (lv_at hl 0 rfl) ?_
  refine lv_iload_n hx hb dX7_wearDown_1 rfl (lv_at hl 1 rfl) ?_
  refine g_roi (g_runV S hI hP hS (k := 1) (As := [.int (nI (c))]) (rest := []) (mX7_hasHole l b ht dr pg wt wr mo mc ni po dn c hb_s hc (hwr c hc)) q505 q506 q507 q83 q508 rfl rfl (by decide +kernel) ⟨Nat.le_of_ble_eq_true rfl, Nat.le_of_ble_eq_true rfl⟩ rfl (hb_s.lt 0 (by decide)) (hb_s.2 0 (by decide)) rfl hl.1 rfl (Nat.le_of_ble_eq_true rfl) ⟨(Nat.le_of_ble_eq_true rfl), (Nat.le_of_ble_eq_true rfl)⟩ dX7_wearDown_2) hS (fun H locs hP hS => ?_)
  refine g_beq S (b := decide (3 ≤ wr c)) (tgt := 10) dX7_wearDown_5 (by decide) (fun h => ?_) (fun h => ?_)
  · have hno : ¬ 3 ≤ wr c := of_decide_eq_false h
    refine lv_aload_n hx hb dX7_wearDown_10 rfl (lv_at hl 0 rfl) ?_
    refine g_get S hI hP uX7 rfl (fs := _) (hb_s.lt 0 (by decide)) (hb_s.2 0 (by decide)) 4 (by decide) q149 rfl (v := .ref (ad (b + 5))) rfl dX7_wearDown_11 ?_
    refine lv_iload_n hx hb dX7_wearDown_14 rfl (lv_at hl 1 rfl) ?_
    refine lv_dup2_11 hx hb dX7_wearDown_15 rfl rfl ?_
    refine g_iald S hI hP (f := fun j => nI (wr j)) (hb_s.lt 5 (by decide)) (hb_s.2 5 (by decide)) (c) (hc) (by decide) dX7_wearDown_16 ?_
    refine g_iconst S 1 dX7_wearDown_17 (by decide +kernel) ?_
    refine g_iadd S dX7_wearDown_18 ?_
    refine g_iastN S hI hP hS (f := wr) (x := wr c + 1) (hb_s.lt 5 (by decide)) (hb_s.2 5 (by decide)) (c) (hc) (by decide) dX7_wearDown_19 (fun H locs hP hS => ?_)
    have hP : gP E ad N (va_up _ (b + 5) (SHC E ad b ht dr pg wt (va_up wr c (wr c + 1)) mo mc ni po dn 5)) H := hP
    have hb1 : bkP N (va_up _ (b + 5) (SHC E ad b ht dr pg wt (va_up wr c (wr c + 1)) mo mc ni po dn 5)) b 7 (SHC E ad b ht dr pg wt (va_up wr c (wr c + 1)) mo mc ni po dn) := SH_setA4 hb_s _
    have hfr := hfr.up (p := b + 5) (e := SHC E ad b ht dr pg wt (va_up wr c (wr c + 1)) mo mc ni po dn 5) (by show _ ∧ _; omega)
    refine lv_aload_n hx hb dX7_wearDown_20 rfl (lv_at hl 0 rfl) ?_
    refine lv_iload_n hx hb dX7_wearDown_21 rfl (lv_at hl 1 rfl) ?_
    have hv : va_up wr c (wr c + 1) c = wr c + 1 := va_up_self _ _ _
    refine g_roi (g_runV S hI hP hS (k := 1) (As := [.int (nI (c))]) (rest := []) (mX7_hasHole l b ht dr pg wt (va_up wr c (wr c + 1)) mo mc ni po dn c hb1 hc (by rw [hv]; omega)) q505 q506 q507 q83 q508 rfl rfl (by decide +kernel) ⟨Nat.le_of_ble_eq_true rfl, Nat.le_of_ble_eq_true rfl⟩ rfl (hb1.lt 0 (by decide)) (hb1.2 0 (by decide)) rfl hl.1 rfl (Nat.le_of_ble_eq_true rfl) ⟨(Nat.le_of_ble_eq_true rfl), (Nat.le_of_ble_eq_true rfl)⟩ dX7_wearDown_22) hS (fun H locs hP hS => ?_)
    refine g_beq S (b := decide (3 ≤ va_up wr c (wr c + 1) c)) (tgt := 32) dX7_wearDown_25 (by decide) (fun h2 => ?_) (fun h2 => ?_)
    · have h3 := of_decide_eq_false h2
      rw [hv] at h3
      refine g_iconst S 0 dX7_wearDown_32 (by decide +kernel) ?_
      exact g_iret S hr hlocks hP hS (⟨by rw [if_neg (show ¬ wr c = 2 by omega)], by rw [if_neg hno]; exact hb1, hfr⟩) (fun _ _ => rfl) (Nat.le_of_ble_eq_true rfl) (Nat.le_of_ble_eq_true rfl) dX7_wearDown_33
    · have h3 := of_decide_eq_true h2
      rw [hv] at h3
      refine g_iconst S 1 dX7_wearDown_28 (by decide +kernel) ?_
      refine lv_goto (tgt := 33) hx hb dX7_wearDown_29 (by decide) ?_
      exact g_iret S hr hlocks hP hS (⟨by rw [if_pos (show wr c = 2 by omega)], by rw [if_neg hno]; exact hb1, hfr⟩) (fun _ _ => rfl) (Nat.le_of_ble_eq_true rfl) (Nat.le_of_ble_eq_true rfl) dX7_wearDown_33
  · have hye : 3 ≤ wr c := of_decide_eq_true h
    refine g_iconst S 0 dX7_wearDown_8 (by decide +kernel) ?_
    exact g_iret S hr hlocks hP hS (⟨by rw [if_neg (show ¬ wr c = 2 by omega)], by rw [if_pos hye]; exact hb_s, hfr⟩) (fun _ _ => rfl) (Nat.le_of_ble_eq_true rfl) (Nat.le_of_ble_eq_true rfl) dX7_wearDown_9
set_option maxHeartbeats 4000000 in
set_option maxRecDepth 100000 in
/-- a night passes -/
theorem mX7_letNightPass (l : Launch) {E : gE} {ad : Nat → Nat} {N : Nat} {w : Nat → va_E} (b : Nat) (ht dr pg wt wr mo : Nat → Nat) (mc ni po dn : Nat) (hb_s : bkP N w b 7 (SHC E ad b ht dr pg wt wr mo mc ni po dn)) (hwr : ∀ k, k < 36 → wr k ≤ 3) (hht : ∀ k, k < 36 → ht k ≤ 99) (hm : mc ≤ 4) (hmo : ∀ k, k < mc → mo k < 36) : gMi l yX7_letNightPass (lw_ws yX7_letNightPass cX7_letNightPass 3 (some .int)) ({ frames := 3, cells := 0, slots := 0, locals := 68 } : Room) E ad N w [.ref (ad (b))] (fun r w' => r = nI (night ht wr mo mc mc).2.2 ∧ bkP N w' b 7 (SHC E ad b ht dr pg wt ((night ht wr mo mc mc).2.1) ((night ht wr mo mc mc).1) mc (ni + 1) po dn) ∧ gFr (gIn b 7) w w') 0 0 := by
  refine Met.ofW (cc := cX7_letNightPass) (maxL := 3) (ret := (some .int)) (by decide) rfl ?_
  intro p e s m args below meth cd s₁ B hml hv
  obtain ⟨rfl, hI, hP⟩ := hv
  obtain ⟨S, hr, hlocks⟩ := gPre (ws := []) B hml (C := RX7) rfl
  have hx := S.1
  have hb := S.2.1
  have hS : va_S (gA E) s.heap s.heap [] := va_S.rf
  have hfr : gFr (gIn b 7) w w := gFr.rf
  have hl := lv_entry ([.ref (ad (b))]) (n := 3) (Nat.le_of_ble_eq_true rfl)
  rw [lg_entry_eq]
  generalize (lg_sl ([.ref (ad (b))]) ++ List.replicate (3 - (lg_sl ([.ref (ad (b))])).length) Slot.unset).toArray = ls at hl ⊢
  have hl : lv_has ls 3 [(0, .ref (ad (b)))] := hl
  refine lv_aload_n hx hb dX7_letNightPass_0 rfl (lv_at hl 0 rfl) ?_
  refine lv_dup hx hb dX7_letNightPass_1 rfl ?_
  refine g_get S hI hP uX7 rfl (fs := _) (hb_s.lt 0 (by decide)) (hb_s.2 0 (by decide)) 7 (by decide) q155 rfl (v := .int (nI (ni))) rfl dX7_letNightPass_2 ?_
  refine g_iconst S 1 dX7_letNightPass_5 (by decide +kernel) ?_
  refine g_iadd S dX7_letNightPass_6 ?_
  refine g_put S hI hP hS uX7 rfl tyX7 tyX7_ok nmX7 (fs := _) (hb_s.lt 0 (by decide)) (hb_s.2 0 (by decide)) 7 (by decide) q155 rfl rfl (v := .int (nI (ni + 1))) rfl rfl (Nat.le_of_ble_eq_true rfl) dX7_letNightPass_7 (fun H locs hP hS => ?_)
  have hP : gP E ad N (va_up _ (b) (SHC E ad b ht dr pg wt wr mo mc (ni + 1) po dn 0)) H := hP
  have hb1 : bkP N (va_up _ (b) (SHC E ad b ht dr pg wt wr mo mc (ni + 1) po dn 0)) b 7 (SHC E ad b ht dr pg wt wr mo mc (ni + 1) po dn) := SH_setO hb_s _ _ _ _
  have hfr := hfr.up (p := b) (e := SHC E ad b ht dr pg wt wr mo mc (ni + 1) po dn 0) (by show _ ∧ _; omega)
  refine g_iconst S 0 dX7_letNightPass_10 (by decide +kernel) ?_
  refine lv_istore_n (lv' := [(1, .int (nI (0))), (0, .ref (ad (b)))]) hx hb dX7_letNightPass_11 rfl hl (by decide) rfl (fun ls hl => ?_)
  refine g_iconst S 0 dX7_letNightPass_12 (by decide +kernel) ?_
  refine lv_istore_n (lv' := [(2, .int (nI (0))), (1, .int (nI (0))), (0, .ref (ad (b)))]) hx hb dX7_letNightPass_13 rfl hl (by decide) rfl (fun ls hl => ?_)
  have loop2 : ∀ (n : Nat) (i : Nat), mc - i < n → (i ≤ mc) → ∀ (w1 : Nat → va_E) (H : Heap) (locs : List Loc), gP E ad N w1 H → va_S (gA E) s.heap H locs → bkP N w1 b 7 (SHC E ad b ht dr pg wt ((night ht wr mo mc i).2.1) ((night ht wr mo mc i).1) mc (ni + 1) po dn) → gFr (gIn b 7) w w1 → ∀ (ls : Array Slot), lv_has ls 3 [(2, .int (nI (i))), (1, .int (nI ((night ht wr mo mc i).2.2))), (0, .ref (ad (b)))] → W p l e (headSpec (lw_ws yX7_letNightPass cX7_letNightPass 3 (some .int)) ({ frames := 3, cells := 0, slots := 0, locals := 68 } : Room)).room s m ([.ref (ad (b))] : List Value).toArray below meth cd H locs 0 0 (MQ below (va_Qi (fun r w' => r = nI (night ht wr mo mc mc).2.2 ∧ bkP N w' b 7 (SHC E ad b ht dr pg wt ((night ht wr mo mc mc).2.1) ((night ht wr mo mc mc).1) mc (ni + 1) po dn) ∧ gFr (gIn b 7) w w') (gB E ad N) (gA E)) ([.ref (ad (b))] : List Value).toArray s 0 0 (gA E)) (F0 m 14 ls []) := by
    intro n
    induction n with
    | zero => intro i hmeas; omega
    | succ n ih =>
      intro i hmeas hi w1 H locs hP hS hb3 hfr ls hl
      obtain ⟨hw2, hm2⟩ := night_ok (ht := ht) hwr hmo i hi
      refine lv_iload_n hx hb dX7_letNightPass_14 rfl (lv_at hl 0 rfl) ?_
      refine lv_aload_n hx hb dX7_letNightPass_15 rfl (lv_at hl 2 rfl) ?_
      refine g_get S hI hP uX7 rfl (fs := _) (hb3.lt 0 (by decide)) (hb3.2 0 (by decide)) 6 (by decide) q153 rfl (v := .int (nI (mc))) rfl dX7_letNightPass_16 ?_
      refine g_ge S (a := i) (b := mc) (by omega) (by omega) (tgt := 57) dX7_letNightPass_19 (by decide) (fun h => ?_) (fun h => ?_)
      · have e : i = mc := by omega
        rw [e] at hb3
        refine lv_iload_n hx hb dX7_letNightPass_57 rfl (lv_at hl 1 rfl) ?_
        exact g_iret S hr hlocks hP hS (⟨by rw [e], hb3, hfr⟩) (fun _ _ => rfl) (Nat.le_of_ble_eq_true rfl) (Nat.le_of_ble_eq_true rfl) dX7_letNightPass_58
      · have hto := flyE_lt (ht := ht) (wr := (night ht wr mo mc i).2.1) (mo := (night ht wr mo mc i).1) (mc := mc) (hm2 i h)
        refine lv_aload_n hx hb dX7_letNightPass_22 rfl (lv_at hl 2 rfl) ?_
        refine g_get S hI hP uX7 rfl (fs := _) (hb3.lt 0 (by decide)) (hb3.2 0 (by decide)) 5 (by decide) q151 rfl (v := .ref (ad (b + 6))) rfl dX7_letNightPass_23 ?_
        refine lv_iload_n hx hb dX7_letNightPass_26 rfl (lv_at hl 0 rfl) ?_
        refine lv_aload_n hx hb dX7_letNightPass_27 rfl (lv_at hl 2 rfl) ?_
        refine lv_aload_n hx hb dX7_letNightPass_28 rfl (lv_at hl 2 rfl) ?_
        refine g_get S hI hP uX7 rfl (fs := _) (hb3.lt 0 (by decide)) (hb3.2 0 (by decide)) 5 (by decide) q151 rfl (v := .ref (ad (b + 6))) rfl dX7_letNightPass_29 ?_
        refine lv_iload_n hx hb dX7_letNightPass_32 rfl (lv_at hl 0 rfl) ?_
        refine g_iald S hI hP (f := fun j => nI (((night ht wr mo mc i).1) j)) (hb3.lt 6 (by decide)) (hb3.2 6 (by decide)) (i) (by omega) (by decide) dX7_letNightPass_33 ?_
        refine g_roi (g_runV S hI hP hS (k := 1) (As := [.int (nI (((night ht wr mo mc i).1) i))]) (rest := [.int (nI (i)), .ref (ad (b + 6))]) (mX7_flightEnd l b ht dr pg wt ((night ht wr mo mc i).2.1) ((night ht wr mo mc i).1) mc (ni + 1) po dn ((night ht wr mo mc i).1 i) hb3 (hm2 i h) hw2 hht hm hm2) q712 q714 q17 q83 q715 rfl rfl (by decide +kernel) ⟨Nat.le_of_ble_eq_true rfl, Nat.le_of_ble_eq_true rfl⟩ rfl (hb3.lt 0 (by decide)) (hb3.2 0 (by decide)) rfl hl.1 rfl (Nat.le_of_ble_eq_true rfl) ⟨(Nat.le_of_ble_eq_true rfl), (Nat.le_of_ble_eq_true rfl)⟩ dX7_letNightPass_34) hS (fun H locs hP hS => ?_)
        refine g_iastN S hI hP hS (f := (night ht wr mo mc i).1) (x := flyE ht (night ht wr mo mc i).2.1 (night ht wr mo mc i).1 mc ((night ht wr mo mc i).1 i)) (hb3.lt 6 (by decide)) (hb3.2 6 (by decide)) (i) (by omega) (by decide) dX7_letNightPass_37 (fun H locs hP hS => ?_)
        have hP : gP E ad N (va_up _ (b + 6) (SHC E ad b ht dr pg wt ((night ht wr mo mc i).2.1) (va_up ((night ht wr mo mc i).1) i (flyE ht (night ht wr mo mc i).2.1 (night ht wr mo mc i).1 mc ((night ht wr mo mc i).1 i))) mc (ni + 1) po dn 6)) H := hP
        have hb4 : bkP N (va_up _ (b + 6) (SHC E ad b ht dr pg wt ((night ht wr mo mc i).2.1) (va_up ((night ht wr mo mc i).1) i (flyE ht (night ht wr mo mc i).2.1 (night ht wr mo mc i).1 mc ((night ht wr mo mc i).1 i))) mc (ni + 1) po dn 6)) b 7 (SHC E ad b ht dr pg wt ((night ht wr mo mc i).2.1) (va_up ((night ht wr mo mc i).1) i (flyE ht (night ht wr mo mc i).2.1 (night ht wr mo mc i).1 mc ((night ht wr mo mc i).1 i))) mc (ni + 1) po dn) := SH_setA5 hb3 _
        have hfr := hfr.up (p := b + 6) (e := SHC E ad b ht dr pg wt ((night ht wr mo mc i).2.1) (va_up ((night ht wr mo mc i).1) i (flyE ht (night ht wr mo mc i).2.1 (night ht wr mo mc i).1 mc ((night ht wr mo mc i).1 i))) mc (ni + 1) po dn 6) (by show _ ∧ _; omega)
        refine lv_iload_n hx hb dX7_letNightPass_38 rfl (lv_at hl 1 rfl) ?_
        refine lv_aload_n hx hb dX7_letNightPass_39 rfl (lv_at hl 2 rfl) ?_
        refine lv_aload_n hx hb dX7_letNightPass_40 rfl (lv_at hl 2 rfl) ?_
        refine g_get S hI hP uX7 rfl (fs := _) (hb4.lt 0 (by decide)) (hb4.2 0 (by decide)) 5 (by decide) q151 rfl (v := .ref (ad (b + 6))) rfl dX7_letNightPass_41 ?_
        refine lv_iload_n hx hb dX7_letNightPass_44 rfl (lv_at hl 0 rfl) ?_
        refine g_iald S hI hP (f := fun j => nI ((va_up ((night ht wr mo mc i).1) i (flyE ht (night ht wr mo mc i).2.1 (night ht wr mo mc i).1 mc ((night ht wr mo mc i).1 i))) j)) (hb4.lt 6 (by decide)) (hb4.2 6 (by decide)) (i) (by omega) (by decide) dX7_letNightPass_45 ?_
        rw [va_up_self]
        refine g_afi (g_runV S hI hP hS (k := 1) (As := [.int (nI (flyE ht (night ht wr mo mc i).2.1 (night ht wr mo mc i).1 mc ((night ht wr mo mc i).1 i)))]) (rest := [.int (nI ((night ht wr mo mc i).2.2))]) (mX7_wearDown l b ht dr pg wt ((night ht wr mo mc i).2.1) (va_up ((night ht wr mo mc i).1) i (flyE ht (night ht wr mo mc i).2.1 (night ht wr mo mc i).1 mc ((night ht wr mo mc i).1 i))) mc (ni + 1) po dn (flyE ht (night ht wr mo mc i).2.1 (night ht wr mo mc i).1 mc ((night ht wr mo mc i).1 i)) hb4 hto hw2) q716 q718 q18 q83 q719 rfl rfl (by decide +kernel) ⟨Nat.le_of_ble_eq_true rfl, Nat.le_of_ble_eq_true rfl⟩ rfl (hb4.lt 0 (by decide)) (hb4.2 0 (by decide)) rfl hl.1 rfl (Nat.le_of_ble_eq_true rfl) ⟨(Nat.le_of_ble_eq_true rfl), (Nat.le_of_ble_eq_true rfl)⟩ dX7_letNightPass_46) hS (fun r w1 H locs hq hP hS => ?_)
        obtain ⟨rfl, hb5, hf6⟩ := hq
        have hfr := hfr.trans hf6 (fun q hq => by simp only [gIn] at hq ⊢; omega)
        refine g_iadd S dX7_letNightPass_49 ?_
        refine lv_istore_n (lv' := [(1, .int (nI ((night ht wr mo mc i).2.2 + (if (night ht wr mo mc i).2.1 (flyE ht (night ht wr mo mc i).2.1 (night ht wr mo mc i).1 mc ((night ht wr mo mc i).1 i)) = 2 then 1 else 0)))), (2, .int (nI (i))), (0, .ref (ad (b)))]) hx hb dX7_letNightPass_50 rfl hl (by decide) rfl (fun ls hl => ?_)
        refine lv_iinc (v := nI (i + 1)) (lv' := [(2, .int (nI (i + 1))), (1, .int (nI ((night ht wr mo mc i).2.2 + (if (night ht wr mo mc i).2.1 (flyE ht (night ht wr mo mc i).2.1 (night ht wr mo mc i).1 mc ((night ht wr mo mc i).1 i)) = 2 then 1 else 0)))), (0, .ref (ad (b)))]) hx hb dX7_letNightPass_51 hl (k := 1) rfl (g_inc _ 1 (by decide +kernel)) (by decide) rfl (fun ls hl => ?_)
        refine lv_goto (tgt := 14) hx hb dX7_letNightPass_54 (by decide) ?_
        exact ih (i + 1) (by omega) (by omega) _ _ _ hP hS hb5 hfr ls (lv_sub hl [0, 1, 2] rfl)
  exact loop2 (mc - (0) + 1) (0) (Nat.lt_succ_self _) (by omega) _ _ _ hP hS hb1 hfr ls (lv_sub hl [0, 1, 2] rfl)
set_option maxHeartbeats 4000000 in
set_option maxRecDepth 100000 in
/-- the water settles -/
theorem mX7_settleAll (l : Launch) {E : gE} {ad : Nat → Nat} {N : Nat} {w : Nat → va_E} (b : Nat) (ht dr pg wt wr mo : Nat → Nat) (mc ni po dn : Nat) (hb_s : bkP N w b 7 (SHC E ad b ht dr pg wt wr mo mc ni po dn)) (hwr : ∀ k, k < 36 → wr k ≤ 3) (hht : ∀ k, k < 36 → ht k ≤ 99) : gMi l yX7_settleAll (lw_ws yX7_settleAll cX7_settleAll 4 (some .int)) ({ frames := 5, cells := 0, slots := 0, locals := 115 } : Room) E ad N w [.ref (ad (b))] (fun r w' => r = nI (stl ht wr wt dn 36).2.2 ∧ bkP N w' b 7 (SHC E ad b ht dr pg ((stl ht wr wt dn 36).1) wr mo mc ni po ((stl ht wr wt dn 36).2.1)) ∧ gFr (gIn b 7) w w') 0 0 := by
  refine Met.ofW (cc := cX7_settleAll) (maxL := 4) (ret := (some .int)) (by decide) rfl ?_
  intro p e s m args below meth cd s₁ B hml hv
  obtain ⟨rfl, hI, hP⟩ := hv
  obtain ⟨S, hr, hlocks⟩ := gPre (ws := []) B hml (C := RX7) rfl
  have hx := S.1
  have hb := S.2.1
  have hS : va_S (gA E) s.heap s.heap [] := va_S.rf
  have hfr : gFr (gIn b 7) w w := gFr.rf
  have hl := lv_entry ([.ref (ad (b))]) (n := 4) (Nat.le_of_ble_eq_true rfl)
  rw [lg_entry_eq]
  generalize (lg_sl ([.ref (ad (b))]) ++ List.replicate (4 - (lg_sl ([.ref (ad (b))])).length) Slot.unset).toArray = ls at hl ⊢
  have hl : lv_has ls 4 [(0, .ref (ad (b)))] := hl
  refine g_iconst S 0 dX7_settleAll_0 (by decide +kernel) ?_
  refine lv_istore_n (lv' := [(1, .int (nI (0))), (0, .ref (ad (b)))]) hx hb dX7_settleAll_1 rfl hl (by decide) rfl (fun ls hl => ?_)
  refine g_iconst S 0 dX7_settleAll_2 (by decide +kernel) ?_
  refine lv_istore_n (lv' := [(2, .int (nI (0))), (1, .int (nI (0))), (0, .ref (ad (b)))]) hx hb dX7_settleAll_3 rfl hl (by decide) rfl (fun ls hl => ?_)
  have loop1 : ∀ (n : Nat) (i : Nat), 36 - i < n → (i ≤ 36) → ∀ (w1 : Nat → va_E) (H : Heap) (locs : List Loc), gP E ad N w1 H → va_S (gA E) s.heap H locs → bkP N w1 b 7 (SHC E ad b ht dr pg ((stl ht wr wt dn i).1) wr mo mc ni po ((stl ht wr wt dn i).2.1)) → gFr (gIn b 7) w w1 → ∀ (ls : Array Slot), lv_has ls 4 [(2, .int (nI (i))), (1, .int (nI ((stl ht wr wt dn i).2.2))), (0, .ref (ad (b)))] → W p l e (headSpec (lw_ws yX7_settleAll cX7_settleAll 4 (some .int)) ({ frames := 5, cells := 0, slots := 0, locals := 115 } : Room)).room s m ([.ref (ad (b))] : List Value).toArray below meth cd H locs 0 0 (MQ below (va_Qi (fun r w' => r = nI (stl ht wr wt dn 36).2.2 ∧ bkP N w' b 7 (SHC E ad b ht dr pg ((stl ht wr wt dn 36).1) wr mo mc ni po ((stl ht wr wt dn 36).2.1)) ∧ gFr (gIn b 7) w w') (gB E ad N) (gA E)) ([.ref (ad (b))] : List Value).toArray s 0 0 (gA E)) (F0 m 4 ls []) := by
    intro n
    induction n with
    | zero => intro i hmeas; omega
    | succ n ih =>
      intro i hmeas hi w1 H locs hP hS hb2 hfr ls hl
      refine lv_iload_n hx hb dX7_settleAll_4 rfl (lv_at hl 0 rfl) ?_
      refine g_bipush S 36 dX7_settleAll_5 (by decide +kernel) ?_
      refine g_ge S (a := i) (b := 36) (by omega) (by omega) (tgt := 39) dX7_settleAll_7 (by decide) (fun h => ?_) (fun h => ?_)
      · have e : i = 36 := by omega
        rw [e] at hb2
        refine lv_iload_n hx hb dX7_settleAll_39 rfl (lv_at hl 1 rfl) ?_
        exact g_iret S hr hlocks hP hS (⟨by rw [e], hb2, hfr⟩) (fun _ _ => rfl) (Nat.le_of_ble_eq_true rfl) (Nat.le_of_ble_eq_true rfl) dX7_settleAll_40
      · refine lv_aload_n hx hb dX7_settleAll_10 rfl (lv_at hl 2 rfl) ?_
        refine g_get S hI hP uX7 rfl (fs := _) (hb2.lt 0 (by decide)) (hb2.2 0 (by decide)) 3 (by decide) q147 rfl (v := .ref (ad (b + 4))) rfl dX7_settleAll_11 ?_
        refine lv_iload_n hx hb dX7_settleAll_14 rfl (lv_at hl 0 rfl) ?_
        refine g_iald S hI hP (f := fun j => nI (((stl ht wr wt dn i).1) j)) (hb2.lt 4 (by decide)) (hb2.2 4 (by decide)) (i) (h) (by decide) dX7_settleAll_15 ?_
        refine lv_istore_n (lv' := [(3, .int (nI (((stl ht wr wt dn i).1) i))), (2, .int (nI (i))), (1, .int (nI ((stl ht wr wt dn i).2.2))), (0, .ref (ad (b)))]) hx hb dX7_settleAll_16 rfl hl (by decide) rfl (fun ls hl => ?_)
        refine lv_aload_n hx hb dX7_settleAll_17 rfl (lv_at hl 3 rfl) ?_
        refine g_get S hI hP uX7 rfl (fs := _) (hb2.lt 0 (by decide)) (hb2.2 0 (by decide)) 3 (by decide) q147 rfl (v := .ref (ad (b + 4))) rfl dX7_settleAll_18 ?_
        refine lv_iload_n hx hb dX7_settleAll_21 rfl (lv_at hl 1 rfl) ?_
        refine g_iconst S 0 dX7_settleAll_22 (by decide +kernel) ?_
        refine g_iastN S hI hP hS (f := (stl ht wr wt dn i).1) (x := 0) (hb2.lt 4 (by decide)) (hb2.2 4 (by decide)) (i) (h) (by decide) dX7_settleAll_23 (fun H locs hP hS => ?_)
        have hP : gP E ad N (va_up _ (b + 4) (SHC E ad b ht dr pg (va_up ((stl ht wr wt dn i).1) i 0) wr mo mc ni po ((stl ht wr wt dn i).2.1) 4)) H := hP
        have hb3 : bkP N (va_up _ (b + 4) (SHC E ad b ht dr pg (va_up ((stl ht wr wt dn i).1) i 0) wr mo mc ni po ((stl ht wr wt dn i).2.1) 4)) b 7 (SHC E ad b ht dr pg (va_up ((stl ht wr wt dn i).1) i 0) wr mo mc ni po ((stl ht wr wt dn i).2.1)) := SH_setA3 hb2 _
        have hfr := hfr.up (p := b + 4) (e := SHC E ad b ht dr pg (va_up ((stl ht wr wt dn i).1) i 0) wr mo mc ni po ((stl ht wr wt dn i).2.1) 4) (by show _ ∧ _; omega)
        refine lv_iload_n hx hb dX7_settleAll_24 rfl (lv_at hl 2 rfl) ?_
        refine lv_aload_n hx hb dX7_settleAll_25 rfl (lv_at hl 3 rfl) ?_
        refine lv_iload_n hx hb dX7_settleAll_26 rfl (lv_at hl 1 rfl) ?_
        refine lv_iload_n hx hb dX7_settleAll_27 rfl (lv_at hl 0 rfl) ?_
        refine g_afi (g_runV S hI hP hS (k := 2) (As := [.int (nI (i)), .int (nI (((stl ht wr wt dn i).1) i))]) (rest := [.int (nI ((stl ht wr wt dn i).2.2))]) (mX7_letFlow l b ht dr pg (va_up ((stl ht wr wt dn i).1) i 0) wr mo mc ni po ((stl ht wr wt dn i).2.1) i ((stl ht wr wt dn i).1 i) hb3 h hwr hht) q684 q686 q13 q83 q687 rfl rfl (by decide +kernel) ⟨Nat.le_of_ble_eq_true rfl, Nat.le_of_ble_eq_true rfl⟩ rfl (hb3.lt 0 (by decide)) (hb3.2 0 (by decide)) rfl hl.1 rfl (Nat.le_of_ble_eq_true rfl) ⟨(Nat.le_of_ble_eq_true rfl), (Nat.le_of_ble_eq_true rfl)⟩ dX7_settleAll_28) hS (fun r w1 H locs hq hP hS => ?_)
        obtain ⟨rfl, hb4, hf5⟩ := hq
        have hfr := hfr.trans hf5 (fun q hq => by simp only [gIn] at hq ⊢; omega)
        refine g_iadd S dX7_settleAll_31 ?_
        refine lv_istore_n (lv' := [(1, .int (nI ((stl ht wr wt dn i).2.2 + (if 3 ≤ wr (endN ht wr 36 i) then (stl ht wr wt dn i).1 i else 0)))), (3, .int (nI (((stl ht wr wt dn i).1) i))), (2, .int (nI (i))), (0, .ref (ad (b)))]) hx hb dX7_settleAll_32 rfl hl (by decide) rfl (fun ls hl => ?_)
        refine lv_iinc (v := nI (i + 1)) (lv' := [(2, .int (nI (i + 1))), (1, .int (nI ((stl ht wr wt dn i).2.2 + (if 3 ≤ wr (endN ht wr 36 i) then (stl ht wr wt dn i).1 i else 0)))), (3, .int (nI (((stl ht wr wt dn i).1) i))), (0, .ref (ad (b)))]) hx hb dX7_settleAll_33 hl (k := 2) rfl (g_inc _ 1 (by decide +kernel)) (by decide) rfl (fun ls hl => ?_)
        refine lv_goto (tgt := 4) hx hb dX7_settleAll_36 (by decide) ?_
        exact ih (i + 1) (by omega) (by omega) _ _ _ hP hS hb4 hfr ls (lv_sub hl [0, 1, 3] rfl)
  exact loop1 (36 - (0) + 1) (0) (Nat.lt_succ_self _) (by omega) _ _ _ hP hS hb_s hfr ls (lv_sub hl [0, 1, 2] rfl)
set_option maxHeartbeats 4000000 in
set_option maxRecDepth 100000 in
/-- water is poured -/
theorem mX7_pourOn (l : Launch) {E : gE} {ad : Nat → Nat} {N : Nat} {w : Nat → va_E} (b : Nat) (ht dr pg wt wr mo : Nat → Nat) (mc ni po dn : Nat) (c u : Nat) (hb_s : bkP N w b 7 (SHC E ad b ht dr pg wt wr mo mc ni po dn)) (hc : c < 36) (hwr : ∀ k, k < 36 → wr k ≤ 3) (hht : ∀ k, k < 36 → ht k ≤ 99) : gMi l yX7_pourOn (lw_ws yX7_pourOn cX7_pourOn 3 (some .int)) ({ frames := 5, cells := 0, slots := 0, locals := 115 } : Room) E ad N w [.ref (ad (b)), .int (nI (c)), .int (nI (u))] (fun r w' => r = nI (if 3 ≤ wr (endN ht wr 36 c) then u else 0) ∧ bkP N w' b 7 (SHC E ad b ht dr pg (if 3 ≤ wr (endN ht wr 36 c) then wt else va_up wt (endN ht wr 36 c) (wt (endN ht wr 36 c) + u)) wr mo mc ni (po + u) (if 3 ≤ wr (endN ht wr 36 c) then dn + u else dn)) ∧ gFr (gIn b 7) w w') 0 0 := by
  refine Met.ofW (cc := cX7_pourOn) (maxL := 3) (ret := (some .int)) (by decide) rfl ?_
  intro p e s m args below meth cd s₁ B hml hv
  obtain ⟨rfl, hI, hP⟩ := hv
  obtain ⟨S, hr, hlocks⟩ := gPre (ws := []) B hml (C := RX7) rfl
  have hx := S.1
  have hb := S.2.1
  have hS : va_S (gA E) s.heap s.heap [] := va_S.rf
  have hfr : gFr (gIn b 7) w w := gFr.rf
  have hl := lv_entry ([.ref (ad (b)), .int (nI (c)), .int (nI (u))]) (n := 3) (Nat.le_of_ble_eq_true rfl)
  rw [lg_entry_eq]
  generalize (lg_sl ([.ref (ad (b)), .int (nI (c)), .int (nI (u))]) ++ List.replicate (3 - (lg_sl ([.ref (ad (b)), .int (nI (c)), .int (nI (u))])).length) Slot.unset).toArray = ls at hl ⊢
  have hl : lv_has ls 3 [(0, .ref (ad (b))), (1, .int (nI (c))), (2, .int (nI (u)))] := hl
  refine lv_aload_n hx hb dX7_pourOn_0 rfl (lv_at hl 0 rfl) ?_
  refine lv_dup hx hb dX7_pourOn_1 rfl ?_
  refine g_get S hI hP uX7 rfl (fs := _) (hb_s.lt 0 (by decide)) (hb_s.2 0 (by decide)) 8 (by decide) q157 rfl (v := .int (nI (po))) rfl dX7_pourOn_2 ?_
  refine lv_iload_n hx hb dX7_pourOn_5 rfl (lv_at hl 2 rfl) ?_
  refine g_iadd S dX7_pourOn_6 ?_
  refine g_put S hI hP hS uX7 rfl tyX7 tyX7_ok nmX7 (fs := _) (hb_s.lt 0 (by decide)) (hb_s.2 0 (by decide)) 8 (by decide) q157 rfl rfl (v := .int (nI (po + u))) rfl rfl (Nat.le_of_ble_eq_true rfl) dX7_pourOn_7 (fun H locs hP hS => ?_)
  have hP : gP E ad N (va_up _ (b) (SHC E ad b ht dr pg wt wr mo mc ni (po + u) dn 0)) H := hP
  have hb1 : bkP N (va_up _ (b) (SHC E ad b ht dr pg wt wr mo mc ni (po + u) dn 0)) b 7 (SHC E ad b ht dr pg wt wr mo mc ni (po + u) dn) := SH_setO hb_s _ _ _ _
  have hfr := hfr.up (p := b) (e := SHC E ad b ht dr pg wt wr mo mc ni (po + u) dn 0) (by show _ ∧ _; omega)
  refine lv_aload_n hx hb dX7_pourOn_10 rfl (lv_at hl 0 rfl) ?_
  refine lv_iload_n hx hb dX7_pourOn_11 rfl (lv_at hl 1 rfl) ?_
  refine lv_iload_n hx hb dX7_pourOn_12 rfl (lv_at hl 2 rfl) ?_
  refine g_afi (g_runV S hI hP hS (k := 2) (As := [.int (nI (c)), .int (nI (u))]) (rest := []) (mX7_letFlow l b ht dr pg wt wr mo mc ni (po + u) dn c u hb1 hc hwr hht) q684 q686 q13 q83 q687 rfl rfl (by decide +kernel) ⟨Nat.le_of_ble_eq_true rfl, Nat.le_of_ble_eq_true rfl⟩ rfl (hb1.lt 0 (by decide)) (hb1.2 0 (by decide)) rfl hl.1 rfl (Nat.le_of_ble_eq_true rfl) ⟨(Nat.le_of_ble_eq_true rfl), (Nat.le_of_ble_eq_true rfl)⟩ dX7_pourOn_13) hS (fun r w1 H locs hq hP hS => ?_)
  obtain ⟨rfl, hb2, hf3⟩ := hq
  have hfr := hfr.trans hf3 (fun q hq => by simp only [gIn] at hq ⊢; omega)
  exact g_iret S hr hlocks hP hS (⟨rfl, hb2, hfr⟩) (fun _ _ => rfl) (Nat.le_of_ble_eq_true rfl) (Nat.le_of_ble_eq_true rfl) dX7_pourOn_16
set_option maxHeartbeats 4000000 in
set_option maxRecDepth 100000 in
/-- a moth comes -/
theorem mX7_letMothCome (l : Launch) {E : gE} {ad : Nat → Nat} {N : Nat} {w : Nat → va_E} (b : Nat) (ht dr pg wt wr mo : Nat → Nat) (mc ni po dn : Nat) (c : Nat) (hb_s : bkP N w b 7 (SHC E ad b ht dr pg wt wr mo mc ni po dn)) (hm : mc < 4) : gMi l yX7_letMothCome (lw_ws yX7_letMothCome cX7_letMothCome 3 (some .int)) ({ frames := 0, cells := 0, slots := 0, locals := 0 } : Room) E ad N w [.ref (ad (b)), .int (nI (c))] (fun r w' => r = nI mc ∧ bkP N w' b 7 (SHC E ad b ht dr pg wt wr (va_up mo mc c) (mc + 1) ni po dn) ∧ gFr (gIn b 7) w w') 0 0 := by
  refine Met.ofW (cc := cX7_letMothCome) (maxL := 3) (ret := (some .int)) (by decide) rfl ?_
  intro p e s m args below meth cd s₁ B hml hv
  obtain ⟨rfl, hI, hP⟩ := hv
  obtain ⟨S, hr, hlocks⟩ := gPre (ws := []) B hml (C := RX7) rfl
  have hx := S.1
  have hb := S.2.1
  have hS : va_S (gA E) s.heap s.heap [] := va_S.rf
  have hfr : gFr (gIn b 7) w w := gFr.rf
  have hl := lv_entry ([.ref (ad (b)), .int (nI (c))]) (n := 3) (Nat.le_of_ble_eq_true rfl)
  rw [lg_entry_eq]
  generalize (lg_sl ([.ref (ad (b)), .int (nI (c))]) ++ List.replicate (3 - (lg_sl ([.ref (ad (b)), .int (nI (c))])).length) Slot.unset).toArray = ls at hl ⊢
  have hl : lv_has ls 3 [(0, .ref (ad (b))), (1, .int (nI (c)))] := hl
  refine lv_aload_n hx hb dX7_letMothCome_0 rfl (lv_at hl 0 rfl) ?_
  refine g_get S hI hP uX7 rfl (fs := _) (hb_s.lt 0 (by decide)) (hb_s.2 0 (by decide)) 6 (by decide) q153 rfl (v := .int (nI (mc))) rfl dX7_letMothCome_1 ?_
  refine lv_istore_n (lv' := [(2, .int (nI (mc))), (0, .ref (ad (b))), (1, .int (nI (c)))]) hx hb dX7_letMothCome_4 rfl hl (by decide) rfl (fun ls hl => ?_)
  refine lv_iload_n hx hb dX7_letMothCome_5 rfl (lv_at hl 0 rfl) ?_
  refine g_iconst S 4 dX7_letMothCome_6 (by decide +kernel) ?_
  refine g_ge S (a := mc) (b := 4) (by omega) (by omega) (tgt := 27) dX7_letMothCome_7 (by decide) (fun h => ?_) (fun h => ?_)
  · omega
  · refine lv_aload_n hx hb dX7_letMothCome_10 rfl (lv_at hl 1 rfl) ?_
    refine g_get S hI hP uX7 rfl (fs := _) (hb_s.lt 0 (by decide)) (hb_s.2 0 (by decide)) 5 (by decide) q151 rfl (v := .ref (ad (b + 6))) rfl dX7_letMothCome_11 ?_
    refine lv_iload_n hx hb dX7_letMothCome_14 rfl (lv_at hl 0 rfl) ?_
    refine lv_iload_n hx hb dX7_letMothCome_15 rfl (lv_at hl 2 rfl) ?_
    refine g_iastN S hI hP hS (f := mo) (x := c) (hb_s.lt 6 (by decide)) (hb_s.2 6 (by decide)) (mc) (hm) (by decide) dX7_letMothCome_16 (fun H locs hP hS => ?_)
    have hP : gP E ad N (va_up _ (b + 6) (SHC E ad b ht dr pg wt wr (va_up mo mc c) mc ni po dn 6)) H := hP
    have hb1 : bkP N (va_up _ (b + 6) (SHC E ad b ht dr pg wt wr (va_up mo mc c) mc ni po dn 6)) b 7 (SHC E ad b ht dr pg wt wr (va_up mo mc c) mc ni po dn) := SH_setA5 hb_s _
    have hfr := hfr.up (p := b + 6) (e := SHC E ad b ht dr pg wt wr (va_up mo mc c) mc ni po dn 6) (by show _ ∧ _; omega)
    refine lv_aload_n hx hb dX7_letMothCome_17 rfl (lv_at hl 1 rfl) ?_
    refine lv_dup hx hb dX7_letMothCome_18 rfl ?_
    refine g_get S hI hP uX7 rfl (fs := _) (hb1.lt 0 (by decide)) (hb1.2 0 (by decide)) 6 (by decide) q153 rfl (v := .int (nI (mc))) rfl dX7_letMothCome_19 ?_
    refine g_iconst S 1 dX7_letMothCome_22 (by decide +kernel) ?_
    refine g_iadd S dX7_letMothCome_23 ?_
    refine g_put S hI hP hS uX7 rfl tyX7 tyX7_ok nmX7 (fs := _) (hb1.lt 0 (by decide)) (hb1.2 0 (by decide)) 6 (by decide) q153 rfl rfl (v := .int (nI (mc + 1))) rfl rfl (Nat.le_of_ble_eq_true rfl) dX7_letMothCome_24 (fun H locs hP hS => ?_)
    have hP : gP E ad N (va_up _ (b) (SHC E ad b ht dr pg wt wr (va_up mo mc c) (mc + 1) ni po dn 0)) H := hP
    have hb2 : bkP N (va_up _ (b) (SHC E ad b ht dr pg wt wr (va_up mo mc c) (mc + 1) ni po dn 0)) b 7 (SHC E ad b ht dr pg wt wr (va_up mo mc c) (mc + 1) ni po dn) := SH_setO hb1 _ _ _ _
    have hfr := hfr.up (p := b) (e := SHC E ad b ht dr pg wt wr (va_up mo mc c) (mc + 1) ni po dn 0) (by show _ ∧ _; omega)
    refine lv_iload_n hx hb dX7_letMothCome_27 rfl (lv_at hl 0 rfl) ?_
    exact g_iret S hr hlocks hP hS (⟨rfl, hb2, hfr⟩) (fun _ _ => rfl) (Nat.le_of_ble_eq_true rfl) (Nat.le_of_ble_eq_true rfl) dX7_letMothCome_28
set_option maxHeartbeats 4000000 in
set_option maxRecDepth 100000 in
/-- a moth goes -/
theorem mX7_letMothGo (l : Launch) {E : gE} {ad : Nat → Nat} {N : Nat} {w : Nat → va_E} (b : Nat) (ht dr pg wt wr mo : Nat → Nat) (mc ni po dn : Nat) (q : Nat) (hb_s : bkP N w b 7 (SHC E ad b ht dr pg wt wr mo mc ni po dn)) (hq : q < mc) (hm : mc ≤ 4) : gMi l yX7_letMothGo (lw_ws yX7_letMothGo cX7_letMothGo 3 (some .int)) ({ frames := 0, cells := 0, slots := 0, locals := 0 } : Room) E ad N w [.ref (ad (b)), .int (nI (q))] (fun r w' => r = nI (mc - 1) ∧ bkP N w' b 7 (SHC E ad b ht dr pg wt wr (shf mo q (mc - 1)) (mc - 1) ni po dn) ∧ gFr (gIn b 7) w w') 0 0 := by
  refine Met.ofW (cc := cX7_letMothGo) (maxL := 3) (ret := (some .int)) (by decide) rfl ?_
  intro p e s m args below meth cd s₁ B hml hv
  obtain ⟨rfl, hI, hP⟩ := hv
  obtain ⟨S, hr, hlocks⟩ := gPre (ws := []) B hml (C := RX7) rfl
  have hx := S.1
  have hb := S.2.1
  have hS : va_S (gA E) s.heap s.heap [] := va_S.rf
  have hfr : gFr (gIn b 7) w w := gFr.rf
  have hl := lv_entry ([.ref (ad (b)), .int (nI (q))]) (n := 3) (Nat.le_of_ble_eq_true rfl)
  rw [lg_entry_eq]
  generalize (lg_sl ([.ref (ad (b)), .int (nI (q))]) ++ List.replicate (3 - (lg_sl ([.ref (ad (b)), .int (nI (q))])).length) Slot.unset).toArray = ls at hl ⊢
  have hl : lv_has ls 3 [(0, .ref (ad (b))), (1, .int (nI (q)))] := hl
  have hz := shf_0 mo q
  refine lv_iload_n hx hb dX7_letMothGo_0 rfl (lv_at hl 1 rfl) ?_
  refine g_iconst S 1 dX7_letMothGo_1 (by decide +kernel) ?_
  refine g_iadd S dX7_letMothGo_2 ?_
  refine lv_istore_n (lv' := [(2, .int (nI (q + 1))), (0, .ref (ad (b))), (1, .int (nI (q)))]) hx hb dX7_letMothGo_3 rfl hl (by decide) rfl (fun ls hl => ?_)
  have loop1 : ∀ (n : Nat) (i : Nat), mc - i < n → (i + 1 ≤ mc) → (q ≤ i) → ∀ (w1 : Nat → va_E) (H : Heap) (locs : List Loc), gP E ad N w1 H → va_S (gA E) s.heap H locs → bkP N w1 b 7 (SHC E ad b ht dr pg wt wr (shf mo q i) mc ni po dn) → gFr (gIn b 7) w w1 → ∀ (ls : Array Slot), lv_has ls 3 [(2, .int (nI (i + 1))), (0, .ref (ad (b))), (1, .int (nI (q)))] → W p l e (headSpec (lw_ws yX7_letMothGo cX7_letMothGo 3 (some .int)) ({ frames := 0, cells := 0, slots := 0, locals := 0 } : Room)).room s m ([.ref (ad (b)), .int (nI (q))] : List Value).toArray below meth cd H locs 0 0 (MQ below (va_Qi (fun r w' => r = nI (mc - 1) ∧ bkP N w' b 7 (SHC E ad b ht dr pg wt wr (shf mo q (mc - 1)) (mc - 1) ni po dn) ∧ gFr (gIn b 7) w w') (gB E ad N) (gA E)) ([.ref (ad (b)), .int (nI (q))] : List Value).toArray s 0 0 (gA E)) (F0 m 4 ls []) := by
    intro n
    induction n with
    | zero => intro i hmeas; omega
    | succ n ih =>
      intro i hmeas hi hiq w1 H locs hP hS hb2 hfr ls hl
      refine lv_iload_n hx hb dX7_letMothGo_4 rfl (lv_at hl 0 rfl) ?_
      refine lv_aload_n hx hb dX7_letMothGo_5 rfl (lv_at hl 1 rfl) ?_
      refine g_get S hI hP uX7 rfl (fs := _) (hb2.lt 0 (by decide)) (hb2.2 0 (by decide)) 6 (by decide) q153 rfl (v := .int (nI (mc))) rfl dX7_letMothGo_6 ?_
      refine g_ge S (a := i + 1) (b := mc) (by omega) (by omega) (tgt := 32) dX7_letMothGo_9 (by decide) (fun h => ?_) (fun h => ?_)
      · have e : i = mc - 1 := by omega
        rw [e] at hb2
        refine lv_aload_n hx hb dX7_letMothGo_32 rfl (lv_at hl 1 rfl) ?_
        refine lv_dup hx hb dX7_letMothGo_33 rfl ?_
        refine g_get S hI hP uX7 rfl (fs := _) (hb2.lt 0 (by decide)) (hb2.2 0 (by decide)) 6 (by decide) q153 rfl (v := .int (nI (mc))) rfl dX7_letMothGo_34 ?_
        refine g_iconst S 1 dX7_letMothGo_37 (by decide +kernel) ?_
        refine g_isub S (by omega) dX7_letMothGo_38 ?_
        refine g_put S hI hP hS uX7 rfl tyX7 tyX7_ok nmX7 (fs := _) (hb2.lt 0 (by decide)) (hb2.2 0 (by decide)) 6 (by decide) q153 rfl rfl (v := .int (nI (mc - 1))) rfl rfl (Nat.le_of_ble_eq_true rfl) dX7_letMothGo_39 (fun H locs hP hS => ?_)
        have hP : gP E ad N (va_up _ (b) (SHC E ad b ht dr pg wt wr (shf mo q (mc - 1)) (mc - 1) ni po dn 0)) H := hP
        have hb3 : bkP N (va_up _ (b) (SHC E ad b ht dr pg wt wr (shf mo q (mc - 1)) (mc - 1) ni po dn 0)) b 7 (SHC E ad b ht dr pg wt wr (shf mo q (mc - 1)) (mc - 1) ni po dn) := SH_setO hb2 _ _ _ _
        have hfr := hfr.up (p := b) (e := SHC E ad b ht dr pg wt wr (shf mo q (mc - 1)) (mc - 1) ni po dn 0) (by show _ ∧ _; omega)
        refine lv_aload_n hx hb dX7_letMothGo_42 rfl (lv_at hl 1 rfl) ?_
        refine g_get S hI hP uX7 rfl (fs := _) (hb3.lt 0 (by decide)) (hb3.2 0 (by decide)) 6 (by decide) q153 rfl (v := .int (nI (mc - 1))) rfl dX7_letMothGo_43 ?_
        exact g_iret S hr hlocks hP hS (⟨rfl, hb3, hfr⟩) (fun _ _ => rfl) (Nat.le_of_ble_eq_true rfl) (Nat.le_of_ble_eq_true rfl) dX7_letMothGo_46
      · refine lv_aload_n hx hb dX7_letMothGo_12 rfl (lv_at hl 1 rfl) ?_
        refine g_get S hI hP uX7 rfl (fs := _) (hb2.lt 0 (by decide)) (hb2.2 0 (by decide)) 5 (by decide) q151 rfl (v := .ref (ad (b + 6))) rfl dX7_letMothGo_13 ?_
        refine lv_iload_n hx hb dX7_letMothGo_16 rfl (lv_at hl 0 rfl) ?_
        refine g_iconst S 1 dX7_letMothGo_17 (by decide +kernel) ?_
        refine g_isub S (by omega) dX7_letMothGo_18 ?_
        refine lv_aload_n hx hb dX7_letMothGo_19 rfl (lv_at hl 1 rfl) ?_
        refine g_get S hI hP uX7 rfl (fs := _) (hb2.lt 0 (by decide)) (hb2.2 0 (by decide)) 5 (by decide) q151 rfl (v := .ref (ad (b + 6))) rfl dX7_letMothGo_20 ?_
        refine lv_iload_n hx hb dX7_letMothGo_23 rfl (lv_at hl 0 rfl) ?_
        refine g_iald S hI hP (f := fun j => nI ((shf mo q i) j)) (hb2.lt 6 (by decide)) (hb2.2 6 (by decide)) (i + 1) (by omega) (by decide) dX7_letMothGo_24 ?_
        have e1 : shf mo q i (i + 1) = mo (i + 1) := by unfold shf; rw [if_neg (by omega)]
        rw [e1]
        have e2 : i + 1 - 1 = i := rfl
        refine g_iastN S hI hP hS (f := shf mo q i) (x := mo (i + 1)) (hb2.lt 6 (by decide)) (hb2.2 6 (by decide)) (i) (by omega) (by decide) dX7_letMothGo_25 (fun H locs hP hS => ?_)
        have hP : gP E ad N (va_up _ (b + 6) (SHC E ad b ht dr pg wt wr (va_up (shf mo q i) i (mo (i + 1))) mc ni po dn 6)) H := hP
        have hb4 : bkP N (va_up _ (b + 6) (SHC E ad b ht dr pg wt wr (va_up (shf mo q i) i (mo (i + 1))) mc ni po dn 6)) b 7 (SHC E ad b ht dr pg wt wr (va_up (shf mo q i) i (mo (i + 1))) mc ni po dn) := SH_setA5 hb2 _
        have hfr := hfr.up (p := b + 6) (e := SHC E ad b ht dr pg wt wr (va_up (shf mo q i) i (mo (i + 1))) mc ni po dn 6) (by show _ ∧ _; omega)
        rw [shf_up mo hiq] at hb4 hP hfr
        skip
        refine lv_iinc (v := nI (i + 1 + 1)) (lv' := [(2, .int (nI (i + 1 + 1))), (0, .ref (ad (b))), (1, .int (nI (q)))]) hx hb dX7_letMothGo_26 hl (k := 0) rfl (g_inc _ 1 (by decide +kernel)) (by decide) rfl (fun ls hl => ?_)
        refine lv_goto (tgt := 4) hx hb dX7_letMothGo_29 (by decide) ?_
        exact ih (i + 1) (by omega) (by omega) (by omega) _ _ _ hP hS hb4 hfr ls (lv_sub hl [0, 1, 2] rfl)
  rw [← hz] at hb_s
  exact loop1 (mc - (q) + 1) (q) (Nat.lt_succ_self _) (by omega) (Nat.le_refl _) _ _ _ hP hS hb_s hfr ls (lv_sub hl [0, 1, 2] rfl)
set_option maxHeartbeats 4000000 in
set_option maxRecDepth 100000 in
/-- the sheet is draped -/
theorem mX7_drapeAll (l : Launch) {E : gE} {ad : Nat → Nat} {N : Nat} {w : Nat → va_E} (b : Nat) (ht dr pg wt wr mo : Nat → Nat) (mc ni po dn : Nat) (hb_s : bkP N w b 7 (SHC E ad b ht dr pg wt wr mo mc ni po dn)) (hht : ∀ k, k < 36 → ht k ≤ 99) (hpg : ∀ k, k < 36 → pg k ≤ 1) : gMi l yX7_drapeAll (lw_ws yX7_drapeAll cX7_drapeAll 3 (some .int)) ({ frames := 3, cells := 0, slots := 0, locals := 69 } : Room) E ad N w [.ref (ad (b))] (fun r w' => r = nI (cnt (fun k => !(drA ht pg k == ht k)) 36) ∧ bkP N w' b 7 (SHC E ad b (fil 36 (fil 36 (drA ht pg) dr) ht) (fil 36 (drA ht pg) dr) pg wt wr mo mc ni po dn) ∧ gFr (gIn b 7) w w') 0 0 := by
  refine Met.ofW (cc := cX7_drapeAll) (maxL := 3) (ret := (some .int)) (by decide) rfl ?_
  intro p e s m args below meth cd s₁ B hml hv
  obtain ⟨rfl, hI, hP⟩ := hv
  obtain ⟨S, hr, hlocks⟩ := gPre (ws := []) B hml (C := RX7) rfl
  have hx := S.1
  have hb := S.2.1
  have hS : va_S (gA E) s.heap s.heap [] := va_S.rf
  have hfr : gFr (gIn b 7) w w := gFr.rf
  have hl := lv_entry ([.ref (ad (b))]) (n := 3) (Nat.le_of_ble_eq_true rfl)
  rw [lg_entry_eq]
  generalize (lg_sl ([.ref (ad (b))]) ++ List.replicate (3 - (lg_sl ([.ref (ad (b))])).length) Slot.unset).toArray = ls at hl ⊢
  have hl : lv_has ls 3 [(0, .ref (ad (b)))] := hl
  refine g_iconst S 0 dX7_drapeAll_0 (by decide +kernel) ?_
  refine lv_istore_n (lv' := [(1, .int (nI (0))), (0, .ref (ad (b)))]) hx hb dX7_drapeAll_1 rfl hl (by decide) rfl (fun ls hl => ?_)
  refine g_iconst S 0 dX7_drapeAll_2 (by decide +kernel) ?_
  refine lv_istore_n (lv' := [(2, .int (nI (0))), (1, .int (nI (0))), (0, .ref (ad (b)))]) hx hb dX7_drapeAll_3 rfl hl (by decide) rfl (fun ls hl => ?_)
  have loop1 : ∀ (n : Nat) (i : Nat), 36 - i < n → (i ≤ 36) → ∀ (w1 : Nat → va_E) (H : Heap) (locs : List Loc), gP E ad N w1 H → va_S (gA E) s.heap H locs → bkP N w1 b 7 (SHC E ad b ht (fil i (drA ht pg) dr) pg wt wr mo mc ni po dn) → gFr (gIn b 7) w w1 → ∀ (ls : Array Slot), lv_has ls 3 [(2, .int (nI (i))), (1, .int (nI (cnt (fun k => !(drA ht pg k == ht k)) i))), (0, .ref (ad (b)))] → W p l e (headSpec (lw_ws yX7_drapeAll cX7_drapeAll 3 (some .int)) ({ frames := 3, cells := 0, slots := 0, locals := 69 } : Room)).room s m ([.ref (ad (b))] : List Value).toArray below meth cd H locs 0 0 (MQ below (va_Qi (fun r w' => r = nI (cnt (fun k => !(drA ht pg k == ht k)) 36) ∧ bkP N w' b 7 (SHC E ad b (fil 36 (fil 36 (drA ht pg) dr) ht) (fil 36 (drA ht pg) dr) pg wt wr mo mc ni po dn) ∧ gFr (gIn b 7) w w') (gB E ad N) (gA E)) ([.ref (ad (b))] : List Value).toArray s 0 0 (gA E)) (F0 m 4 ls []) := by
    intro n
    induction n with
    | zero => intro i hmeas; omega
    | succ n ih =>
      intro i hmeas hi w1 H locs hP hS hb2 hfr ls hl
      have hcl := cnt_le (fun k => !(drA ht pg k == ht k)) i
      refine lv_iload_n hx hb dX7_drapeAll_4 rfl (lv_at hl 0 rfl) ?_
      refine g_bipush S 36 dX7_drapeAll_5 (by decide +kernel) ?_
      refine g_ge S (a := i) (b := 36) (by omega) (by omega) (tgt := 63) dX7_drapeAll_7 (by decide) (fun h => ?_) (fun h => ?_)
      · have e : i = 36 := by omega
        rw [e] at hb2
        refine lv_aload_n hx hb dX7_drapeAll_63 rfl (lv_at hl 2 rfl) ?_
        refine g_get S hI hP uX7 rfl (fs := _) (hb2.lt 0 (by decide)) (hb2.2 0 (by decide)) 1 (by decide) q144 rfl (v := .ref (ad (b + 2))) rfl dX7_drapeAll_64 ?_
        refine g_iconst S 0 dX7_drapeAll_67 (by decide +kernel) ?_
        refine lv_aload_n hx hb dX7_drapeAll_68 rfl (lv_at hl 2 rfl) ?_
        refine g_get S hI hP uX7 rfl (fs := _) (hb2.lt 0 (by decide)) (hb2.2 0 (by decide)) 0 (by decide) q140 rfl (v := .ref (ad (b + 1))) rfl dX7_drapeAll_69 ?_
        refine g_iconst S 0 dX7_drapeAll_72 (by decide +kernel) ?_
        refine g_bipush S 36 dX7_drapeAll_73 (by decide +kernel) ?_
        refine g_copy S hl.1 hI hP hS (t := 0) (k := 36) (hb2.lt 2 (by decide)) (hb2.2 2 (by decide)) (hb2.lt 1 (by decide)) (hb2.2 1 (by decide)) rfl rfl (by decide) (by decide) (by decide) (fun _ _ => rfl) q648 q650 q649 q111 (Nat.le_of_ble_eq_true rfl) (Nat.le_of_ble_eq_true rfl) dX7_drapeAll_75 (fun H locs hP hS => ?_)
        have hP : gP E ad N (va_up _ (b + 1) (SHC E ad b (fil 36 (fil 36 (drA ht pg) dr) ht) (fil 36 (drA ht pg) dr) pg wt wr mo mc ni po dn 1)) H := hP
        have hb3 : bkP N (va_up _ (b + 1) (SHC E ad b (fil 36 (fil 36 (drA ht pg) dr) ht) (fil 36 (drA ht pg) dr) pg wt wr mo mc ni po dn 1)) b 7 (SHC E ad b (fil 36 (fil 36 (drA ht pg) dr) ht) (fil 36 (drA ht pg) dr) pg wt wr mo mc ni po dn) := SH_setA0 hb2 _
        have hfr := hfr.up (p := b + 1) (e := SHC E ad b (fil 36 (fil 36 (drA ht pg) dr) ht) (fil 36 (drA ht pg) dr) pg wt wr mo mc ni po dn 1) (by show _ ∧ _; omega)
        refine lv_iload_n hx hb dX7_drapeAll_78 rfl (lv_at hl 1 rfl) ?_
        exact g_iret S hr hlocks hP hS (⟨by rw [e], hb3, hfr⟩) (fun _ _ => rfl) (Nat.le_of_ble_eq_true rfl) (Nat.le_of_ble_eq_true rfl) dX7_drapeAll_79
      · have hpi := hpg i h
        have hzi := hht i h
        refine lv_aload_n hx hb dX7_drapeAll_10 rfl (lv_at hl 2 rfl) ?_
        refine g_get S hI hP uX7 rfl (fs := _) (hb2.lt 0 (by decide)) (hb2.2 0 (by decide)) 1 (by decide) q144 rfl (v := .ref (ad (b + 2))) rfl dX7_drapeAll_11 ?_
        refine lv_iload_n hx hb dX7_drapeAll_14 rfl (lv_at hl 0 rfl) ?_
        refine lv_aload_n hx hb dX7_drapeAll_15 rfl (lv_at hl 2 rfl) ?_
        refine g_get S hI hP uX7 rfl (fs := _) (hb2.lt 0 (by decide)) (hb2.2 0 (by decide)) 2 (by decide) q145 rfl (v := .ref (ad (b + 3))) rfl dX7_drapeAll_16 ?_
        refine lv_iload_n hx hb dX7_drapeAll_19 rfl (lv_at hl 0 rfl) ?_
        refine g_zald S hI hP (f := fun j => nI (pg j)) (hb2.lt 3 (by decide)) (hb2.2 3 (by decide)) (i) (h) (by decide) dX7_drapeAll_20 ?_
        refine g_ifeq S (a := pg i) (by omega) (tgt := 33) dX7_drapeAll_21 (by decide) (fun hp => ?_) (fun hp => ?_)
        · refine lv_aload_n hx hb dX7_drapeAll_33 rfl (lv_at hl 2 rfl) ?_
          refine lv_iload_n hx hb dX7_drapeAll_34 rfl (lv_at hl 0 rfl) ?_
          refine g_roi (g_runV S hI hP hS (k := 1) (As := [.int (nI (i))]) (rest := [.int (nI (i)), .ref (ad (b + 2))]) (mX7_drapedHeight l b ht (fil i (drA ht pg) dr) pg wt wr mo mc ni po dn i hb2 h hht) q670 q672 q11 q83 q673 rfl rfl (by decide +kernel) ⟨Nat.le_of_ble_eq_true rfl, Nat.le_of_ble_eq_true rfl⟩ rfl (hb2.lt 0 (by decide)) (hb2.2 0 (by decide)) rfl hl.1 rfl (Nat.le_of_ble_eq_true rfl) ⟨(Nat.le_of_ble_eq_true rfl), (Nat.le_of_ble_eq_true rfl)⟩ dX7_drapeAll_35) hS (fun H locs hP hS => ?_)
          have hda : drA ht pg i = drH ht i := by rw [drA, if_pos hp]
          have hdi : drA ht pg i ≤ 99 := by rw [hda]; first | exact drH_le h hht | exact hht i h
          rw [← hda]
          refine g_iastN S hI hP hS (f := fil i (drA ht pg) dr) (x := drA ht pg i) (hb2.lt 2 (by decide)) (hb2.2 2 (by decide)) (i) (h) (by decide) dX7_drapeAll_38 (fun H locs hP hS => ?_)
          have hP : gP E ad N (va_up _ (b + 2) (SHC E ad b ht (va_up (fil i (drA ht pg) dr) i (drA ht pg i)) pg wt wr mo mc ni po dn 2)) H := hP
          have hb4 : bkP N (va_up _ (b + 2) (SHC E ad b ht (va_up (fil i (drA ht pg) dr) i (drA ht pg i)) pg wt wr mo mc ni po dn 2)) b 7 (SHC E ad b ht (va_up (fil i (drA ht pg) dr) i (drA ht pg i)) pg wt wr mo mc ni po dn) := SH_setA1 hb2 _
          have hfr := hfr.up (p := b + 2) (e := SHC E ad b ht (va_up (fil i (drA ht pg) dr) i (drA ht pg i)) pg wt wr mo mc ni po dn 2) (by show _ ∧ _; omega)
          rw [fil_up] at hb4 hP hfr
          refine lv_aload_n hx hb dX7_drapeAll_39 rfl (lv_at hl 2 rfl) ?_
          refine g_get S hI hP uX7 rfl (fs := _) (hb4.lt 0 (by decide)) (hb4.2 0 (by decide)) 1 (by decide) q144 rfl (v := .ref (ad (b + 2))) rfl dX7_drapeAll_40 ?_
          refine lv_iload_n hx hb dX7_drapeAll_43 rfl (lv_at hl 0 rfl) ?_
          refine g_iald S hI hP (f := fun j => nI ((fil (i + 1) (drA ht pg) dr) j)) (hb4.lt 2 (by decide)) (hb4.2 2 (by decide)) (i) (h) (by decide) dX7_drapeAll_44 ?_
          rw [fil_in (show i < i + 1 by omega)]
          refine lv_aload_n hx hb dX7_drapeAll_45 rfl (lv_at hl 2 rfl) ?_
          refine g_get S hI hP uX7 rfl (fs := _) (hb4.lt 0 (by decide)) (hb4.2 0 (by decide)) 0 (by decide) q140 rfl (v := .ref (ad (b + 1))) rfl dX7_drapeAll_46 ?_
          refine lv_iload_n hx hb dX7_drapeAll_49 rfl (lv_at hl 0 rfl) ?_
          refine g_iald S hI hP (f := fun j => nI (ht j)) (hb4.lt 1 (by decide)) (hb4.2 1 (by decide)) (i) (h) (by decide) dX7_drapeAll_50 ?_
          refine g_eq S (a := drA ht pg i) (b := ht i) (by omega) (by omega) (tgt := 57) dX7_drapeAll_51 (by decide) (fun hv => ?_) (fun hv => ?_)
          · refine lv_iinc (v := nI (i + 1)) (lv' := [(2, .int (nI (i + 1))), (1, .int (nI (cnt (fun k => !(drA ht pg k == ht k)) i))), (0, .ref (ad (b)))]) hx hb dX7_drapeAll_57 hl (k := 0) rfl (g_inc _ 1 (by decide +kernel)) (by decide) rfl (fun ls hl => ?_)
            refine lv_goto (tgt := 4) hx hb dX7_drapeAll_60 (by decide) ?_
            have hl : lv_has ls 3 [(2, .int (nI (i + 1))), (1, .int (nI (cnt (fun k => !(drA ht pg k == ht k)) (i + 1)))), (0, .ref (ad (b)))] := by rw [cnt_n (p := (fun k => !(drA ht pg k == ht k))) (by simp [hv])]; exact hl
            exact ih (i + 1) (by omega) (by omega) _ _ _ hP hS hb4 hfr ls (lv_sub hl [0, 1, 2] rfl)
          · refine lv_iinc (v := nI (cnt (fun k => !(drA ht pg k == ht k)) i + 1)) (lv' := [(1, .int (nI (cnt (fun k => !(drA ht pg k == ht k)) i + 1))), (2, .int (nI (i))), (0, .ref (ad (b)))]) hx hb dX7_drapeAll_54 hl (k := 1) rfl (g_inc _ 1 (by decide +kernel)) (by decide) rfl (fun ls hl => ?_)
            refine lv_iinc (v := nI (i + 1)) (lv' := [(2, .int (nI (i + 1))), (1, .int (nI (cnt (fun k => !(drA ht pg k == ht k)) i + 1))), (0, .ref (ad (b)))]) hx hb dX7_drapeAll_57 hl (k := 1) rfl (g_inc _ 1 (by decide +kernel)) (by decide) rfl (fun ls hl => ?_)
            refine lv_goto (tgt := 4) hx hb dX7_drapeAll_60 (by decide) ?_
            have hl : lv_has ls 3 [(2, .int (nI (i + 1))), (1, .int (nI (cnt (fun k => !(drA ht pg k == ht k)) (i + 1)))), (0, .ref (ad (b)))] := by rw [cnt_y (p := (fun k => !(drA ht pg k == ht k))) (by simp [hv])]; exact hl
            exact ih (i + 1) (by omega) (by omega) _ _ _ hP hS hb4 hfr ls (lv_sub hl [0, 1, 2] rfl)
        · refine lv_aload_n hx hb dX7_drapeAll_24 rfl (lv_at hl 2 rfl) ?_
          refine g_get S hI hP uX7 rfl (fs := _) (hb2.lt 0 (by decide)) (hb2.2 0 (by decide)) 0 (by decide) q140 rfl (v := .ref (ad (b + 1))) rfl dX7_drapeAll_25 ?_
          refine lv_iload_n hx hb dX7_drapeAll_28 rfl (lv_at hl 0 rfl) ?_
          refine g_iald S hI hP (f := fun j => nI (ht j)) (hb2.lt 1 (by decide)) (hb2.2 1 (by decide)) (i) (h) (by decide) dX7_drapeAll_29 ?_
          refine lv_goto (tgt := 38) hx hb dX7_drapeAll_30 (by decide) ?_
          have hda : drA ht pg i = ht i := by rw [drA, if_neg (by omega)]
          have hdi : drA ht pg i ≤ 99 := by rw [hda]; first | exact drH_le h hht | exact hht i h
          rw [← hda]
          refine g_iastN S hI hP hS (f := fil i (drA ht pg) dr) (x := drA ht pg i) (hb2.lt 2 (by decide)) (hb2.2 2 (by decide)) (i) (h) (by decide) dX7_drapeAll_38 (fun H locs hP hS => ?_)
          have hP : gP E ad N (va_up _ (b + 2) (SHC E ad b ht (va_up (fil i (drA ht pg) dr) i (drA ht pg i)) pg wt wr mo mc ni po dn 2)) H := hP
          have hb5 : bkP N (va_up _ (b + 2) (SHC E ad b ht (va_up (fil i (drA ht pg) dr) i (drA ht pg i)) pg wt wr mo mc ni po dn 2)) b 7 (SHC E ad b ht (va_up (fil i (drA ht pg) dr) i (drA ht pg i)) pg wt wr mo mc ni po dn) := SH_setA1 hb2 _
          have hfr := hfr.up (p := b + 2) (e := SHC E ad b ht (va_up (fil i (drA ht pg) dr) i (drA ht pg i)) pg wt wr mo mc ni po dn 2) (by show _ ∧ _; omega)
          rw [fil_up] at hb5 hP hfr
          refine lv_aload_n hx hb dX7_drapeAll_39 rfl (lv_at hl 2 rfl) ?_
          refine g_get S hI hP uX7 rfl (fs := _) (hb5.lt 0 (by decide)) (hb5.2 0 (by decide)) 1 (by decide) q144 rfl (v := .ref (ad (b + 2))) rfl dX7_drapeAll_40 ?_
          refine lv_iload_n hx hb dX7_drapeAll_43 rfl (lv_at hl 0 rfl) ?_
          refine g_iald S hI hP (f := fun j => nI ((fil (i + 1) (drA ht pg) dr) j)) (hb5.lt 2 (by decide)) (hb5.2 2 (by decide)) (i) (h) (by decide) dX7_drapeAll_44 ?_
          rw [fil_in (show i < i + 1 by omega)]
          refine lv_aload_n hx hb dX7_drapeAll_45 rfl (lv_at hl 2 rfl) ?_
          refine g_get S hI hP uX7 rfl (fs := _) (hb5.lt 0 (by decide)) (hb5.2 0 (by decide)) 0 (by decide) q140 rfl (v := .ref (ad (b + 1))) rfl dX7_drapeAll_46 ?_
          refine lv_iload_n hx hb dX7_drapeAll_49 rfl (lv_at hl 0 rfl) ?_
          refine g_iald S hI hP (f := fun j => nI (ht j)) (hb5.lt 1 (by decide)) (hb5.2 1 (by decide)) (i) (h) (by decide) dX7_drapeAll_50 ?_
          refine g_eq S (a := drA ht pg i) (b := ht i) (by omega) (by omega) (tgt := 57) dX7_drapeAll_51 (by decide) (fun hv => ?_) (fun hv => ?_)
          · refine lv_iinc (v := nI (i + 1)) (lv' := [(2, .int (nI (i + 1))), (1, .int (nI (cnt (fun k => !(drA ht pg k == ht k)) i))), (0, .ref (ad (b)))]) hx hb dX7_drapeAll_57 hl (k := 0) rfl (g_inc _ 1 (by decide +kernel)) (by decide) rfl (fun ls hl => ?_)
            refine lv_goto (tgt := 4) hx hb dX7_drapeAll_60 (by decide) ?_
            have hl : lv_has ls 3 [(2, .int (nI (i + 1))), (1, .int (nI (cnt (fun k => !(drA ht pg k == ht k)) (i + 1)))), (0, .ref (ad (b)))] := by rw [cnt_n (p := (fun k => !(drA ht pg k == ht k))) (by simp [hv])]; exact hl
            exact ih (i + 1) (by omega) (by omega) _ _ _ hP hS hb5 hfr ls (lv_sub hl [0, 1, 2] rfl)
          · refine lv_iinc (v := nI (cnt (fun k => !(drA ht pg k == ht k)) i + 1)) (lv' := [(1, .int (nI (cnt (fun k => !(drA ht pg k == ht k)) i + 1))), (2, .int (nI (i))), (0, .ref (ad (b)))]) hx hb dX7_drapeAll_54 hl (k := 1) rfl (g_inc _ 1 (by decide +kernel)) (by decide) rfl (fun ls hl => ?_)
            refine lv_iinc (v := nI (i + 1)) (lv' := [(2, .int (nI (i + 1))), (1, .int (nI (cnt (fun k => !(drA ht pg k == ht k)) i + 1))), (0, .ref (ad (b)))]) hx hb dX7_drapeAll_57 hl (k := 1) rfl (g_inc _ 1 (by decide +kernel)) (by decide) rfl (fun ls hl => ?_)
            refine lv_goto (tgt := 4) hx hb dX7_drapeAll_60 (by decide) ?_
            have hl : lv_has ls 3 [(2, .int (nI (i + 1))), (1, .int (nI (cnt (fun k => !(drA ht pg k == ht k)) (i + 1)))), (0, .ref (ad (b)))] := by rw [cnt_y (p := (fun k => !(drA ht pg k == ht k))) (by simp [hv])]; exact hl
            exact ih (i + 1) (by omega) (by omega) _ _ _ hP hS hb5 hfr ls (lv_sub hl [0, 1, 2] rfl)
  rw [← fil_0 (drA ht pg) dr] at hb_s
  exact loop1 (36 - (0) + 1) (0) (Nat.lt_succ_self _) (by omega) _ _ _ hP hS hb_s hfr ls (lv_sub hl [0, 1, 2] rfl)
