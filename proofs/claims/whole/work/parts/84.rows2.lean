set_option maxHeartbeats 4000000 in
set_option maxRecDepth 100000 in
/-- a sign -/
theorem mX13_writes (l : Launch) {E : gE} {ad : Nat → Nat} {N : Nat} {w : Nat → va_E} (b : Nat) (g kp sv bf sd ip sg mk td lv tl : Nat → Nat) (qs qc qw qd co wy : Nat) (de : Int32) (ca ln : Nat) (fa : Option Nat) (sm pa tm : Nat) (ch : Nat) (hb_m : bkP N w b 12 (MDC E ad b g kp sv bf sd ip sg mk td lv tl qs qc qw qd co wy de ca ln fa sm pa tm)) (hsm : sm < 60) (hch : ch < 128) (hsg : ∀ j, j < 60 → sg j < 128) : gMv l yX13_writes (lw_ws yX13_writes cX13_writes 2 none) ({ frames := 0, cells := 0, slots := 0, locals := 0 } : Room) E ad N w [.ref (ad (b)), .int (nI (ch))] (fun w' => ∃ sg' : Nat → Nat, lnT sg' (sm + 1) = lnT sg sm ++ [ch] ∧ (∀ j, j < 60 → sg' j < 128) ∧ bkP N w' b 12 (MDC E ad b g kp sv bf sd ip sg' mk td lv tl qs qc qw qd co wy de ca ln fa (sm + 1) pa tm) ∧ gFr (gIn b 12) w w') 0 0 := by
  refine Met.ofW (cc := cX13_writes) (maxL := 2) (ret := none) (by decide) rfl ?_
  intro p e s m args below meth cd s₁ B hml hv
  obtain ⟨rfl, hI, hP⟩ := hv
  obtain ⟨S, hr, hlocks⟩ := gPre (ws := []) B hml (C := RX13) rfl
  have hx := S.1
  have hb := S.2.1
  have hS : va_S (gA E) s.heap s.heap [] := va_S.rf
  have hfr : gFr (gIn b 12) w w := gFr.rf
  have hl := lv_entry ([.ref (ad (b)), .int (nI (ch))]) (n := 2) (Nat.le_of_ble_eq_true rfl)
  rw [lg_entry_eq]
  generalize (lg_sl ([.ref (ad (b)), .int (nI (ch))]) ++ List.replicate (2 - (lg_sl ([.ref (ad (b)), .int (nI (ch))])).length) Slot.unset).toArray = ls at hl ⊢
  have hl : lv_has ls 2 [(0, .ref (ad (b))), (1, .int (nI (ch)))] := hl
  refine lv_aload_n hx hb dX13_writes_0 rfl (lv_at hl 0 rfl) ?_
  refine g_get S hI hP uX13 rfl (fs := _) (hb_m.lt 0 (by decide)) (hb_m.2 0 (by decide)) 16 (by decide) q1803 rfl (v := .ref (ad (b + 7))) rfl dX13_writes_1 ?_
  refine lv_aload_n hx hb dX13_writes_4 rfl (lv_at hl 0 rfl) ?_
  refine g_get S hI hP uX13 rfl (fs := _) (hb_m.lt 0 (by decide)) (hb_m.2 0 (by decide)) 17 (by decide) q1804 rfl (v := .int (nI (sm))) rfl dX13_writes_5 ?_
  refine lv_iload_n hx hb dX13_writes_8 rfl (lv_at hl 1 rfl) ?_
  refine lv_i2c hx hb dX13_writes_9 (nI_i2c (by omega)) ?_
  refine g_castN S hI hP hS (f := sg) (x := ch) (hb_m.lt 7 (by decide)) (hb_m.2 7 (by decide)) (sm) (hsm) (by decide) (by omega) dX13_writes_10 (fun H locs hP hS => ?_)
  have hP : gP E ad N (va_up _ (b + 7) (MDC E ad b g kp sv bf sd ip (va_up sg sm ch) mk td lv tl qs qc qw qd co wy de ca ln fa sm pa tm 7)) H := hP
  have hb1 : bkP N (va_up _ (b + 7) (MDC E ad b g kp sv bf sd ip (va_up sg sm ch) mk td lv tl qs qc qw qd co wy de ca ln fa sm pa tm 7)) b 12 (MDC E ad b g kp sv bf sd ip (va_up sg sm ch) mk td lv tl qs qc qw qd co wy de ca ln fa sm pa tm) := MD_setA6 hb_m _
  have hfr := hfr.up (p := b + 7) (e := MDC E ad b g kp sv bf sd ip (va_up sg sm ch) mk td lv tl qs qc qw qd co wy de ca ln fa sm pa tm 7) (by show _ ∧ _; omega)
  refine lv_aload_n hx hb dX13_writes_11 rfl (lv_at hl 0 rfl) ?_
  refine lv_dup hx hb dX13_writes_12 rfl ?_
  refine g_get S hI hP uX13 rfl (fs := _) (hb1.lt 0 (by decide)) (hb1.2 0 (by decide)) 17 (by decide) q1804 rfl (v := .int (nI (sm))) rfl dX13_writes_13 ?_
  refine g_iconst S 1 dX13_writes_16 (by decide +kernel) ?_
  refine g_iadd S dX13_writes_17 ?_
  refine g_put S hI hP hS uX13 rfl tyX13 tyX13_ok nmX13 (fs := _) (hb1.lt 0 (by decide)) (hb1.2 0 (by decide)) 17 (by decide) q1804 rfl rfl (v := .int (nI (sm + 1))) rfl rfl (Nat.le_of_ble_eq_true rfl) dX13_writes_18 (fun H locs hP hS => ?_)
  have hP : gP E ad N (va_up _ (b) (MDC E ad b g kp sv bf sd ip (va_up sg sm ch) mk td lv tl qs qc qw qd co wy de ca ln fa (sm + 1) pa tm 0)) H := hP
  have hb2 : bkP N (va_up _ (b) (MDC E ad b g kp sv bf sd ip (va_up sg sm ch) mk td lv tl qs qc qw qd co wy de ca ln fa (sm + 1) pa tm 0)) b 12 (MDC E ad b g kp sv bf sd ip (va_up sg sm ch) mk td lv tl qs qc qw qd co wy de ca ln fa (sm + 1) pa tm) := MD_setO hb1 _ _ _ _ _ _ _ _ _ _ _ _ _
  have hfr := hfr.up (p := b) (e := MDC E ad b g kp sv bf sd ip (va_up sg sm ch) mk td lv tl qs qc qw qd co wy de ca ln fa (sm + 1) pa tm 0) (by show _ ∧ _; omega)
  exact g_vret S hr hlocks hP hS (⟨va_up sg sm ch, lnT_one (fun j hj => va_up_ne _ _ (Nat.ne_of_lt hj)) (va_up_self _ _ _), fun j hj => by unfold va_up; split; exact hch; exact hsg j hj, hb2, hfr⟩) (fun _ _ => rfl) (Nat.le_of_ble_eq_true rfl) (Nat.le_of_ble_eq_true rfl) dX13_writes_21
set_option maxHeartbeats 4000000 in
set_option maxRecDepth 100000 in
/-- a digit -/
theorem mX13_writesNumber1 (l : Launch) {E : gE} {ad : Nat → Nat} {N : Nat} {w : Nat → va_E} (b : Nat) (g kp sv bf sd ip sg mk td lv tl : Nat → Nat) (qs qc qw qd co wy : Nat) (de : Int32) (ca ln : Nat) (fa : Option Nat) (sm pa tm : Nat) (x : Nat) (hb_m : bkP N w b 12 (MDC E ad b g kp sv bf sd ip sg mk td lv tl qs qc qw qd co wy de ca ln fa sm pa tm)) (hsm : sm < 60) (hx9 : x ≤ 9) (hsg : ∀ j, j < 60 → sg j < 128) : gMv l yX13_writesNumber (lw_ws yX13_writesNumber cX13_writesNumber 2 none) ({ frames := 1, cells := 0, slots := 0, locals := 21 } : Room) E ad N w [.ref (ad (b)), .int (nI (x))] (fun w' => ∃ sg' : Nat → Nat, lnT sg' (sm + 1) = lnT sg sm ++ [48 + x] ∧ (∀ j, j < 60 → sg' j < 128) ∧ bkP N w' b 12 (MDC E ad b g kp sv bf sd ip sg' mk td lv tl qs qc qw qd co wy de ca ln fa (sm + 1) pa tm) ∧ gFr (gIn b 12) w w') 0 0 := by
  refine Met.ofW (cc := cX13_writesNumber) (maxL := 2) (ret := none) (by decide) rfl ?_
  intro p e s m args below meth cd s₁ B hml hv
  obtain ⟨rfl, hI, hP⟩ := hv
  obtain ⟨S, hr, hlocks⟩ := gPre (ws := []) B hml (C := RX13) rfl
  have hx := S.1
  have hb := S.2.1
  have hS : va_S (gA E) s.heap s.heap [] := va_S.rf
  have hfr : gFr (gIn b 12) w w := gFr.rf
  have hl := lv_entry ([.ref (ad (b)), .int (nI (x))]) (n := 2) (Nat.le_of_ble_eq_true rfl)
  rw [lg_entry_eq]
  generalize (lg_sl ([.ref (ad (b)), .int (nI (x))]) ++ List.replicate (2 - (lg_sl ([.ref (ad (b)), .int (nI (x))])).length) Slot.unset).toArray = ls at hl ⊢
  have hl : lv_has ls 2 [(0, .ref (ad (b))), (1, .int (nI (x)))] := hl
  refine lv_iload_n hx hb dX13_writesNumber_0 rfl (lv_at hl 1 rfl) ?_
  refine g_bipush S 9 dX13_writesNumber_1 (by decide +kernel) ?_
  refine g_le S (a := x) (b := 9) (by omega) (by omega) (tgt := 14) dX13_writesNumber_3 (by decide) (fun h => ?_) (fun h => ?_)
  · refine lv_aload_n hx hb dX13_writesNumber_14 rfl (lv_at hl 0 rfl) ?_
    refine g_bipush S 48 dX13_writesNumber_15 (by decide +kernel) ?_
    refine lv_iload_n hx hb dX13_writesNumber_17 rfl (lv_at hl 1 rfl) ?_
    refine g_bipush S 10 dX13_writesNumber_18 (by decide +kernel) ?_
    refine g_irem S (by omega) (by omega) (by omega) dX13_writesNumber_20 ?_
    refine g_iadd S dX13_writesNumber_21 ?_
    rw [show x % 10 = x by omega]
    refine g_afv (g_runV S hI hP hS (k := 1) (As := [.int (nI (48 + x))]) (rest := []) (mX13_writes l b g kp sv bf sd ip sg mk td lv tl qs qc qw qd co wy de ca ln fa sm pa tm (48 + x) hb_m hsm (by omega) hsg) q2210 q2212 q79 q100 q2213 rfl rfl (by decide +kernel) ⟨Nat.le_of_ble_eq_true rfl, Nat.le_of_ble_eq_true rfl⟩ rfl (hb_m.lt 0 (by decide)) (hb_m.2 0 (by decide)) rfl hl.1 rfl (Nat.le_of_ble_eq_true rfl) ⟨(Nat.le_of_ble_eq_true rfl), (Nat.le_of_ble_eq_true rfl)⟩ dX13_writesNumber_22) hS (fun w1 H locs hq hP hS => ?_)
    obtain ⟨sg1, hT1, hs1, hb_1, hf1⟩ := hq
    have hfr := hfr.trans hf1 (fun q hq => hq)
    exact g_vret S hr hlocks hP hS (⟨sg1, hT1, hs1, hb_1, hfr⟩) (fun _ _ => rfl) (Nat.le_of_ble_eq_true rfl) (Nat.le_of_ble_eq_true rfl) dX13_writesNumber_25
  · omega
set_option maxHeartbeats 4000000 in
set_option maxRecDepth 100000 in
/-- a number -/
theorem mX13_writesNumber (l : Launch) {E : gE} {ad : Nat → Nat} {N : Nat} {w : Nat → va_E} (b : Nat) (g kp sv bf sd ip sg mk td lv tl : Nat → Nat) (qs qc qw qd co wy : Nat) (de : Int32) (ca ln : Nat) (fa : Option Nat) (sm pa tm : Nat) (x : Nat) (hb_m : bkP N w b 12 (MDC E ad b g kp sv bf sd ip sg mk td lv tl qs qc qw qd co wy de ca ln fa sm pa tm)) (hsm : sm + 2 ≤ 60) (hx9 : x ≤ 99) (hsg : ∀ j, j < 60 → sg j < 128) : gMv l yX13_writesNumber (lw_ws yX13_writesNumber cX13_writesNumber 2 none) ({ frames := 2, cells := 0, slots := 0, locals := 42 } : Room) E ad N w [.ref (ad (b)), .int (nI (x))] (fun w' => ∃ sg' : Nat → Nat, lnT sg' (sm + ndg x) = lnT sg sm ++ numT x ∧ (∀ j, j < 60 → sg' j < 128) ∧ bkP N w' b 12 (MDC E ad b g kp sv bf sd ip sg' mk td lv tl qs qc qw qd co wy de ca ln fa (sm + ndg x) pa tm) ∧ gFr (gIn b 12) w w') 0 0 := by
  refine Met.ofW (cc := cX13_writesNumber) (maxL := 2) (ret := none) (by decide) rfl ?_
  intro p e s m args below meth cd s₁ B hml hv
  obtain ⟨rfl, hI, hP⟩ := hv
  obtain ⟨S, hr, hlocks⟩ := gPre (ws := []) B hml (C := RX13) rfl
  have hx := S.1
  have hb := S.2.1
  have hS : va_S (gA E) s.heap s.heap [] := va_S.rf
  have hfr : gFr (gIn b 12) w w := gFr.rf
  have hl := lv_entry ([.ref (ad (b)), .int (nI (x))]) (n := 2) (Nat.le_of_ble_eq_true rfl)
  rw [lg_entry_eq]
  generalize (lg_sl ([.ref (ad (b)), .int (nI (x))]) ++ List.replicate (2 - (lg_sl ([.ref (ad (b)), .int (nI (x))])).length) Slot.unset).toArray = ls at hl ⊢
  have hl : lv_has ls 2 [(0, .ref (ad (b))), (1, .int (nI (x)))] := hl
  have hnd := ndg_b x
  refine lv_iload_n hx hb dX13_writesNumber_0 rfl (lv_at hl 1 rfl) ?_
  refine g_bipush S 9 dX13_writesNumber_1 (by decide +kernel) ?_
  refine g_le S (a := x) (b := 9) (by omega) (by omega) (tgt := 14) dX13_writesNumber_3 (by decide) (fun h => ?_) (fun h => ?_)
  · have hn1 : ndg x = 1 := if_pos (by omega)
    have hn2 : numT x = [48 + x] := if_pos (by omega)
    refine lv_aload_n hx hb dX13_writesNumber_14 rfl (lv_at hl 0 rfl) ?_
    refine g_bipush S 48 dX13_writesNumber_15 (by decide +kernel) ?_
    refine lv_iload_n hx hb dX13_writesNumber_17 rfl (lv_at hl 1 rfl) ?_
    refine g_bipush S 10 dX13_writesNumber_18 (by decide +kernel) ?_
    refine g_irem S (by omega) (by omega) (by omega) dX13_writesNumber_20 ?_
    refine g_iadd S dX13_writesNumber_21 ?_
    rw [show x % 10 = x by omega]
    refine g_afv (g_runV S hI hP hS (k := 1) (As := [.int (nI (48 + x))]) (rest := []) (mX13_writes l b g kp sv bf sd ip sg mk td lv tl qs qc qw qd co wy de ca ln fa sm pa tm (48 + x) hb_m (by omega) (by omega) hsg) q2210 q2212 q79 q100 q2213 rfl rfl (by decide +kernel) ⟨Nat.le_of_ble_eq_true rfl, Nat.le_of_ble_eq_true rfl⟩ rfl (hb_m.lt 0 (by decide)) (hb_m.2 0 (by decide)) rfl hl.1 rfl (Nat.le_of_ble_eq_true rfl) ⟨(Nat.le_of_ble_eq_true rfl), (Nat.le_of_ble_eq_true rfl)⟩ dX13_writesNumber_22) hS (fun w1 H locs hq hP hS => ?_)
    obtain ⟨sg1, hT1, hs1, hb_1, hf1⟩ := hq
    have hfr := hfr.trans hf1 (fun q hq => hq)
    exact g_vret S hr hlocks hP hS (⟨sg1, by rw [hn1, hn2]; exact hT1, hs1, by rw [hn1]; exact hb_1, hfr⟩) (fun _ _ => rfl) (Nat.le_of_ble_eq_true rfl) (Nat.le_of_ble_eq_true rfl) dX13_writesNumber_25
  · have hn1 : ndg x = 2 := if_neg (by omega)
    have hn2 : numT x = [48 + x / 10, 48 + x % 10] := if_neg (by omega)
    refine lv_aload_n hx hb dX13_writesNumber_6 rfl (lv_at hl 0 rfl) ?_
    refine lv_iload_n hx hb dX13_writesNumber_7 rfl (lv_at hl 1 rfl) ?_
    refine g_bipush S 10 dX13_writesNumber_8 (by decide +kernel) ?_
    refine g_idiv S (by omega) (by omega) (by omega) dX13_writesNumber_10 ?_
    refine g_afv (g_runV S hI hP hS (k := 1) (As := [.int (nI (x / 10))]) (rest := []) (mX13_writesNumber1 l b g kp sv bf sd ip sg mk td lv tl qs qc qw qd co wy de ca ln fa sm pa tm (x / 10) hb_m (by omega) (by omega) hsg) q2214 q2216 q80 q100 q2217 rfl rfl (by decide +kernel) ⟨Nat.le_of_ble_eq_true rfl, Nat.le_of_ble_eq_true rfl⟩ rfl (hb_m.lt 0 (by decide)) (hb_m.2 0 (by decide)) rfl hl.1 rfl (Nat.le_of_ble_eq_true rfl) ⟨(Nat.le_of_ble_eq_true rfl), (Nat.le_of_ble_eq_true rfl)⟩ dX13_writesNumber_11) hS (fun w1 H locs hq hP hS => ?_)
    obtain ⟨sg1, hT1, hs1, hb_1, hf1⟩ := hq
    have hfr := hfr.trans hf1 (fun q hq => hq)
    refine lv_aload_n hx hb dX13_writesNumber_14 rfl (lv_at hl 0 rfl) ?_
    refine g_bipush S 48 dX13_writesNumber_15 (by decide +kernel) ?_
    refine lv_iload_n hx hb dX13_writesNumber_17 rfl (lv_at hl 1 rfl) ?_
    refine g_bipush S 10 dX13_writesNumber_18 (by decide +kernel) ?_
    refine g_irem S (by omega) (by omega) (by omega) dX13_writesNumber_20 ?_
    refine g_iadd S dX13_writesNumber_21 ?_
    refine g_afv (g_runV S hI hP hS (k := 1) (As := [.int (nI (48 + (x % 10)))]) (rest := []) (mX13_writes l b g kp sv bf sd ip sg1 mk td lv tl qs qc qw qd co wy de ca ln fa (sm + 1) pa tm (48 + x % 10) hb_1 (by omega) (by omega) hs1) q2210 q2212 q79 q100 q2213 rfl rfl (by decide +kernel) ⟨Nat.le_of_ble_eq_true rfl, Nat.le_of_ble_eq_true rfl⟩ rfl (hb_1.lt 0 (by decide)) (hb_1.2 0 (by decide)) rfl hl.1 rfl (Nat.le_of_ble_eq_true rfl) ⟨(Nat.le_of_ble_eq_true rfl), (Nat.le_of_ble_eq_true rfl)⟩ dX13_writesNumber_22) hS (fun w1 H locs hq hP hS => ?_)
    obtain ⟨sg2, hT2, hs2, hb_2, hf2⟩ := hq
    have hfr := hfr.trans hf2 (fun q hq => hq)
    exact g_vret S hr hlocks hP hS (⟨sg2, by rw [hn1, hn2]; rw [show sm + 2 = sm + 1 + 1 from rfl, hT2, hT1, List.append_assoc]; rfl, hs2, by rw [hn1]; exact hb_2, hfr⟩) (fun _ _ => rfl) (Nat.le_of_ble_eq_true rfl) (Nat.le_of_ble_eq_true rfl) dX13_writesNumber_25
set_option maxHeartbeats 4000000 in
set_option maxRecDepth 100000 in
/-- a row is written -/
theorem mX13_writeRow (l : Launch) {E : gE} {ad : Nat → Nat} {N : Nat} {w : Nat → va_E} (b : Nat) (g kp sv bf sd ip sg mk td lv tl : Nat → Nat) (qs qc qw qd co wy : Nat) (de : Int32) (ca ln : Nat) (fa : Option Nat) (sm pa tm : Nat) (ht dr pg wt wr mo : Nat → Nat) (mc ni po dn : Nat) (v : Int32) (hb_m : bkP N w b 12 (MDC E ad b g kp sv bf sd ip sg mk td lv tl qs qc qw qd co wy de ca ln fa sm pa tm)) (hR : mRg g ht pg wt wr mo mc ni po dn) (hht : ∀ k, k < 36 → ht k ≤ 99) (hpg : ∀ k, k < 36 → pg k ≤ 1) (hwr : ∀ k, k < 36 → wr k ≤ 3) (hm : mc ≤ 4) (hmo : ∀ k, k < mc → mo k < 36) (hwt : ∀ k, k < 36 → wt k < 2 ^ 31) (hsg : ∀ j, j < 60 → sg j < 128) : gMi l yX13_writeRow (lw_ws yX13_writeRow cX13_writeRow 3 (some .int)) ({ frames := 3, cells := 0, slots := 0, locals := 65 } : Room) E ad N w [.ref (ad (b)), .int (v)] (fun r w' => ((∃ (k : Nat) (sg' : Nat → Nat), cellV v (nI 0) = some k ∧ r = nI ((rowT ht pg wt wr mo mc k) 6).length ∧ lnT sg' ((rowT ht pg wt wr mo mc k) 6).length = (rowT ht pg wt wr mo mc k) 6 ∧ (∀ j, j < 60 → sg' j < 128) ∧ bkP N w' b 12 (MDC E ad b g kp sv bf sd ip sg' mk td lv tl qs qc qw 0 0 wy de ca ln fa (((rowT ht pg wt wr mo mc k) 6).length) pa tm)) ∨ (cellV v (nI 0) = none ∧ bkP N w' b 12 (MDC E ad b g kp sv bf sd ip sg mk td lv tl qs qc qw 0 1 wy de ca ln fa sm pa tm))) ∧ gFr (gIn b 12) w w') 0 0 := by
  refine Met.ofW (cc := cX13_writeRow) (maxL := 3) (ret := (some .int)) (by decide) rfl ?_
  intro p e s m args below meth cd s₁ B hml hv
  obtain ⟨rfl, hI, hP⟩ := hv
  obtain ⟨S, hr, hlocks⟩ := gPre (ws := []) B hml (C := RX13) rfl
  have hx := S.1
  have hb := S.2.1
  have hS : va_S (gA E) s.heap s.heap [] := va_S.rf
  have hfr : gFr (gIn b 12) w w := gFr.rf
  have hl := lv_entry ([.ref (ad (b)), .int (v)]) (n := 3) (Nat.le_of_ble_eq_true rfl)
  rw [lg_entry_eq]
  generalize (lg_sl ([.ref (ad (b)), .int (v)]) ++ List.replicate (3 - (lg_sl ([.ref (ad (b)), .int (v)])).length) Slot.unset).toArray = ls at hl ⊢
  have hl : lv_has ls 3 [(0, .ref (ad (b))), (1, .int (v))] := hl
  obtain ⟨hgh, hgw, hgp, hgt, hgm, hg3, hg0, hg1, hg2⟩ := id hR
  refine lv_aload_n hx hb dX13_writeRow_0 rfl (lv_at hl 0 rfl) ?_
  refine lv_iload_n hx hb dX13_writeRow_1 rfl (lv_at hl 1 rfl) ?_
  refine g_iconst S 0 dX13_writeRow_2 (by decide +kernel) ?_
  refine g_afi (g_runV S hI hP hS (k := 2) (As := [.int (v), .int (nI (0))]) (rest := []) (mX13_isNone l b g kp sv bf sd ip sg mk td lv tl qs qc qw qd co wy de ca ln fa sm pa tm v (nI (0)) hb_m ) q1868 q1870 q48 q100 q1871 rfl rfl (by decide +kernel) ⟨Nat.le_of_ble_eq_true rfl, Nat.le_of_ble_eq_true rfl⟩ rfl (hb_m.lt 0 (by decide)) (hb_m.2 0 (by decide)) rfl hl.1 rfl (Nat.le_of_ble_eq_true rfl) ⟨(Nat.le_of_ble_eq_true rfl), (Nat.le_of_ble_eq_true rfl)⟩ dX13_writeRow_3) hS (fun rz w1 H locs hq hP hS => ?_)
  obtain ⟨hr3, hb1, hf2⟩ := hq
  rw [hr3]
  have hfr := hfr.trans hf2 (fun q hq => by (try simp only [gIn] at hq ⊢); (try dsimp only at hq ⊢); omega)
  refine g_beq S (b := (cellV v (nI 0)).isNone) (tgt := 11) dX13_writeRow_6 (by decide) (fun h1 => ?_) (fun h1 => ?_)
  · obtain ⟨k, hck⟩ : ∃ k, cellV v (nI 0) = some k := by cases q : cellV v (nI 0) with | none => (rw [q] at h1; cases h1) | some a => exact ⟨a, rfl⟩
    rw [if_pos (show (cellV v (nI 0)).isSome = true by rw [hck]; rfl)] at hb1
    (try rw [if_pos (show (cellV v (nI 0)).isSome = true by rw [hck]; rfl)] at hP)
    (try rw [if_pos (show (cellV v (nI 0)).isSome = true by rw [hck]; rfl)] at hfr)
    obtain ⟨rr, j0, hrr, hj0, hvr, hj00, hke⟩ := cell_ij hck
    have hj1 : j0 = 0 := ((nI_eq (by omega) (by decide)).mp hj00.symm)
    have hke : k = 6 * rr := by omega
    have hl : lv_has ls 3 [(0, .ref (ad (b))), (1, .int (nI (rr)))] := by rw [hvr] at hl; exact hl
    refine lv_aload_n hx hb dX13_writeRow_11 rfl (lv_at hl 0 rfl) ?_
    refine g_iconst S 0 dX13_writeRow_12 (by decide +kernel) ?_
    refine g_put S hI hP hS uX13 rfl tyX13 tyX13_ok nmX13 (fs := _) (hb1.lt 0 (by decide)) (hb1.2 0 (by decide)) 17 (by decide) q1804 rfl rfl (v := .int (nI (0))) rfl rfl (Nat.le_of_ble_eq_true rfl) dX13_writeRow_13 (fun H locs hP hS => ?_)
    have hP : gP E ad N (va_up _ (b) (MDC E ad b g kp sv bf sd ip sg mk td lv tl qs qc qw 0 0 wy de ca ln fa 0 pa tm 0)) H := hP
    have hb4 : bkP N (va_up _ (b) (MDC E ad b g kp sv bf sd ip sg mk td lv tl qs qc qw 0 0 wy de ca ln fa 0 pa tm 0)) b 12 (MDC E ad b g kp sv bf sd ip sg mk td lv tl qs qc qw 0 0 wy de ca ln fa 0 pa tm) := MD_setO hb1 _ _ _ _ _ _ _ _ _ _ _ _ _
    have hfr := hfr.up (p := b) (e := MDC E ad b g kp sv bf sd ip sg mk td lv tl qs qc qw 0 0 wy de ca ln fa 0 pa tm 0) (by show _ ∧ _; omega)
    refine g_bipush S 6 dX13_writeRow_16 (by decide +kernel) ?_
    refine lv_iload_n hx hb dX13_writeRow_18 rfl (lv_at hl 1 rfl) ?_
    refine g_imul S dX13_writeRow_19 ?_
    refine lv_istore_n (lv' := [(2, .int (nI (6 * rr))), (0, .ref (ad (b))), (1, .int (nI (rr)))]) hx hb dX13_writeRow_20 rfl hl (by decide) rfl (fun ls hl => ?_)
    have loop5 : ∀ (fz : Nat) (i : Nat) (sg5 : Nat → Nat) (sm5 : Nat), 7 - i < fz → (i ≤ 6) → (lnT sg5 sm5 = (rowT ht pg wt wr mo mc k) i) → (∀ j, j < 60 → sg5 j < 128) → ∀ (w1 : Nat → va_E) (H : Heap) (locs : List Loc), gP E ad N w1 H → va_S (gA E) s.heap H locs → bkP N w1 b 12 (MDC E ad b g kp sv bf sd ip sg5 mk td lv tl qs qc qw 0 0 wy de ca ln fa sm5 pa tm) → gFr (gIn b 12) w w1 → ∀ (ls : Array Slot), lv_has ls 3 [(2, .int (nI (6 * rr + i))), (1, .int (nI (rr))), (0, .ref (ad (b)))] → W p l e (headSpec (lw_ws yX13_writeRow cX13_writeRow 3 (some .int)) ({ frames := 3, cells := 0, slots := 0, locals := 65 } : Room)).room s m ([.ref (ad (b)), .int (v)] : List Value).toArray below meth cd H locs 0 0 (MQ below (va_Qi (fun r w' => ((∃ (k : Nat) (sg' : Nat → Nat), cellV v (nI 0) = some k ∧ r = nI ((rowT ht pg wt wr mo mc k) 6).length ∧ lnT sg' ((rowT ht pg wt wr mo mc k) 6).length = (rowT ht pg wt wr mo mc k) 6 ∧ (∀ j, j < 60 → sg' j < 128) ∧ bkP N w' b 12 (MDC E ad b g kp sv bf sd ip sg' mk td lv tl qs qc qw 0 0 wy de ca ln fa (((rowT ht pg wt wr mo mc k) 6).length) pa tm)) ∨ (cellV v (nI 0) = none ∧ bkP N w' b 12 (MDC E ad b g kp sv bf sd ip sg mk td lv tl qs qc qw 0 1 wy de ca ln fa sm pa tm))) ∧ gFr (gIn b 12) w w') (gB E ad N) (gA E)) ([.ref (ad (b)), .int (v)] : List Value).toArray s 0 0 (gA E)) (F0 m 21 ls []) := by
      intro fz
      induction fz with
      | zero => intro i sg5 sm5 hmeas; omega
      | succ fz ih_loop5 =>
        intro i sg5 sm5 hmeas hi hT5 hs5 w1 H locs hP hS hb6 hfr ls hl
        have hrl := rowT_len ht pg wt wr mo mc k i
        have hsl : sm5 = ((rowT ht pg wt wr mo mc k) i).length := by rw [← hT5, lnT_len]
        refine lv_iload_n hx hb dX13_writeRow_21 rfl (lv_at hl 0 rfl) ?_
        refine g_bipush S 6 dX13_writeRow_22 (by decide +kernel) ?_
        refine lv_iload_n hx hb dX13_writeRow_24 rfl (lv_at hl 1 rfl) ?_
        refine g_imul S dX13_writeRow_25 ?_
        refine g_bipush S 6 dX13_writeRow_26 (by decide +kernel) ?_
        refine g_iadd S dX13_writeRow_28 ?_
        refine g_ge S (a := 6 * rr + i) (b := 6 * rr + 6) (by omega) (by omega) (tgt := 126) dX13_writeRow_29 (by decide) (fun h => ?_) (fun h => ?_)
        · have e6 : i = 6 := by omega
          subst e6
          subst hsl
          refine lv_aload_n hx hb dX13_writeRow_126 rfl (lv_at hl 2 rfl) ?_
          refine g_get S hI hP uX13 rfl (fs := _) (hb6.lt 0 (by decide)) (hb6.2 0 (by decide)) 17 (by decide) q1804 rfl (v := .int (nI (((rowT ht pg wt wr mo mc k) 6).length))) rfl dX13_writeRow_127 ?_
          exact g_iret S hr hlocks hP hS (⟨Or.inl ⟨k, sg5, hck, rfl, hT5, hs5, hb6⟩, hfr⟩) (fun _ _ => rfl) (Nat.le_of_ble_eq_true rfl) (Nat.le_of_ble_eq_true rfl) dX13_writeRow_130
        · have hk36 : 6 * rr + i < 36 := by omega
          have hkk : 6 * rr + i = k + i := by omega
          have hl : lv_has ls 3 [(2, .int (nI (k + i))), (1, .int (nI (rr))), (0, .ref (ad (b)))] := by rw [hkk] at hl; exact hl
          rw [hkk] at hk36
          have hht9 := hht (k + i) hk36
          have hpg1 := hpg (k + i) hk36
          have hwr3 := hwr (k + i) hk36
          have hwtk := hwt (k + i) hk36
          have hnl := numT_len (ht (k + i))
          have hnd := ndg_b (ht (k + i))
          refine lv_iload_n hx hb dX13_writeRow_32 rfl (lv_at hl 0 rfl) ?_
          refine g_bipush S 6 dX13_writeRow_33 (by decide +kernel) ?_
          refine lv_iload_n hx hb dX13_writeRow_35 rfl (lv_at hl 1 rfl) ?_
          refine g_imul S dX13_writeRow_36 ?_
          refine g_le S (a := k + i) (b := 6 * rr) (by omega) (by omega) (tgt := 46) dX13_writeRow_37 (by decide) (fun h3 => ?_) (fun h3 => ?_)
          · have hc8 : cndT (decide (0 < i)) 32 = [] := by rw [decide_eq_false (show ¬ 0 < i by omega)]; rfl
            refine lv_aload_n hx hb dX13_writeRow_46 rfl (lv_at hl 2 rfl) ?_
            refine lv_aload_n hx hb dX13_writeRow_47 rfl (lv_at hl 2 rfl) ?_
            refine lv_iload_n hx hb dX13_writeRow_48 rfl (lv_at hl 0 rfl) ?_
            refine g_roi (g_runV S hI hP hS (k := 1) (As := [.int (nI (k + i))]) (rest := [.ref (ad (b))]) (mX13_high l b g kp sv bf sd ip sg5 mk td lv tl qs qc qw 0 0 wy de ca ln fa sm5 pa tm (k + i) (ht (k + i)) hb6 hk36 (hgh (k + i) hk36)) q1882 q1884 q50 q100 q1885 rfl rfl (by decide +kernel) ⟨Nat.le_of_ble_eq_true rfl, Nat.le_of_ble_eq_true rfl⟩ rfl (hb6.lt 0 (by decide)) (hb6.2 0 (by decide)) rfl hl.1 rfl (Nat.le_of_ble_eq_true rfl) ⟨(Nat.le_of_ble_eq_true rfl), (Nat.le_of_ble_eq_true rfl)⟩ dX13_writeRow_49) hS (fun H locs hP hS => ?_)
            refine g_afv (g_runV S hI hP hS (k := 1) (As := [.int (nI (ht (k + i)))]) (rest := []) (mX13_writesNumber l b g kp sv bf sd ip sg5 mk td lv tl qs qc qw 0 0 wy de ca ln fa sm5 pa tm (ht (k + i)) hb6 (by omega) hht9 hs5) q2214 q2216 q80 q100 q2217 rfl rfl (by decide +kernel) ⟨Nat.le_of_ble_eq_true rfl, Nat.le_of_ble_eq_true rfl⟩ rfl (hb6.lt 0 (by decide)) (hb6.2 0 (by decide)) rfl hl.1 rfl (Nat.le_of_ble_eq_true rfl) ⟨(Nat.le_of_ble_eq_true rfl), (Nat.le_of_ble_eq_true rfl)⟩ dX13_writeRow_52) hS (fun w1 H locs hq hP hS => ?_)
            obtain ⟨sgn, hTn, hsn, hb_n, hfn⟩ := hq
            have hfr := hfr.trans hfn (fun q hq => hq)
            refine lv_aload_n hx hb dX13_writeRow_55 rfl (lv_at hl 2 rfl) ?_
            refine g_get S hI hP uX13 rfl (fs := _) (hb_n.lt 0 (by decide)) (hb_n.2 0 (by decide)) 0 (by decide) q1787 rfl (v := .ref (ad (b + 1))) rfl dX13_writeRow_56 ?_
            refine g_bipush S 76 dX13_writeRow_59 (by decide +kernel) ?_
            refine lv_iload_n hx hb dX13_writeRow_61 rfl (lv_at hl 0 rfl) ?_
            refine g_iadd S dX13_writeRow_62 ?_
            refine g_iald S hI hP (f := fun j => nI (g j)) (hb_n.lt 1 (by decide)) (hb_n.2 1 (by decide)) (76 + (k + i)) (by omega) (by decide) dX13_writeRow_63 ?_
            rw [hgp (k + i) hk36]
            refine g_iconst S 1 dX13_writeRow_64 (by decide +kernel) ?_
            refine g_ne S (a := pg (k + i)) (b := 1) (by omega) (by omega) (tgt := 74) dX13_writeRow_65 (by decide) (fun hz0 => ?_) (fun hz0 => ?_)
            · have hc0 : cndT (decide (pg (k + i) = 1)) 94 = [] := by rw [decide_eq_false (show ¬ pg (k + i) = 1 by omega)]; rfl
              refine lv_aload_n hx hb dX13_writeRow_74 rfl (lv_at hl 2 rfl) ?_
              refine g_get S hI hP uX13 rfl (fs := _) (hb_n.lt 0 (by decide)) (hb_n.2 0 (by decide)) 0 (by decide) q1787 rfl (v := .ref (ad (b + 1))) rfl dX13_writeRow_75 ?_
              refine g_bipush S 112 dX13_writeRow_78 (by decide +kernel) ?_
              refine lv_iload_n hx hb dX13_writeRow_80 rfl (lv_at hl 0 rfl) ?_
              refine g_iadd S dX13_writeRow_81 ?_
              refine g_iald S hI hP (f := fun j => nI (g j)) (hb_n.lt 1 (by decide)) (hb_n.2 1 (by decide)) (112 + (k + i)) (by omega) (by decide) dX13_writeRow_82 ?_
              rw [hgt (k + i) hk36]
              refine g_ifle S (a := wt (k + i)) (by omega) (tgt := 92) dX13_writeRow_83 (by decide) (fun hz1 => ?_) (fun hz1 => ?_)
              · have hc1 : cndT (decide (0 < wt (k + i))) 126 = [] := by rw [decide_eq_false (show ¬ 0 < wt (k + i) by omega)]; rfl
                refine lv_aload_n hx hb dX13_writeRow_92 rfl (lv_at hl 2 rfl) ?_
                refine lv_iload_n hx hb dX13_writeRow_93 rfl (lv_at hl 0 rfl) ?_
                refine g_roi (g_runV S hI hP hS (k := 1) (As := [.int (nI (k + i))]) (rest := []) (mX13_isHole l b g kp sv bf sd ip sgn mk td lv tl qs qc qw 0 0 wy de ca ln fa (sm5 + ndg (ht (k + i))) pa tm (k + i) (wr (k + i)) hb_n hk36 (hgw (k + i) hk36) hwr3) q1968 q1970 q60 q100 q1971 rfl rfl (by decide +kernel) ⟨Nat.le_of_ble_eq_true rfl, Nat.le_of_ble_eq_true rfl⟩ rfl (hb_n.lt 0 (by decide)) (hb_n.2 0 (by decide)) rfl hl.1 rfl (Nat.le_of_ble_eq_true rfl) ⟨(Nat.le_of_ble_eq_true rfl), (Nat.le_of_ble_eq_true rfl)⟩ dX13_writeRow_94) hS (fun H locs hP hS => ?_)
                refine g_beq S (b := decide (3 ≤ wr (k + i))) (tgt := 106) dX13_writeRow_97 (by decide) (fun hz2 => ?_) (fun hz2 => ?_)
                · have hc2 : cndT (decide (3 ≤ wr (k + i))) 111 = [] := by rw [hz2]; rfl
                  refine lv_aload_n hx hb dX13_writeRow_106 rfl (lv_at hl 2 rfl) ?_
                  refine lv_iload_n hx hb dX13_writeRow_107 rfl (lv_at hl 0 rfl) ?_
                  refine g_roi (g_runV S hI hP hS (k := 1) (As := [.int (nI (k + i))]) (rest := []) (mX13_mothOn l b g kp sv bf sd ip sgn mk td lv tl qs qc qw 0 0 wy de ca ln fa (sm5 + ndg (ht (k + i))) pa tm ht dr pg wt wr mo mc ni po dn (k + i) hb_n hk36 hR hm hmo) q2063 q2065 q67 q100 q2066 rfl rfl (by decide +kernel) ⟨Nat.le_of_ble_eq_true rfl, Nat.le_of_ble_eq_true rfl⟩ rfl (hb_n.lt 0 (by decide)) (hb_n.2 0 (by decide)) rfl hl.1 rfl (Nat.le_of_ble_eq_true rfl) ⟨(Nat.le_of_ble_eq_true rfl), (Nat.le_of_ble_eq_true rfl)⟩ dX13_writeRow_108) hS (fun H locs hP hS => ?_)
                  refine g_oltZ S (o := fstN (fun j => mo j == k + i) mc) (fun j hj => by have := fstN_lt hj; omega) (tgt := 120) dX13_writeRow_111 (by decide) (fun hz3 => ?_) (fun hz3_k hz3 => ?_)
                  · have hc3 : cndT (fstN (fun j => mo j == k + i) mc).isSome 109 = [] := by rw [hz3]; rfl
                    refine lv_iinc (v := nI (k + i + 1)) (lv' := [(2, .int (nI (k + i + 1))), (1, .int (nI (rr))), (0, .ref (ad (b)))]) hx hb dX13_writeRow_120 hl (k := 0) rfl (g_inc _ 1 (by decide +kernel)) (by decide) rfl (fun ls hl => ?_)
                    refine lv_goto (tgt := 21) hx hb dX13_writeRow_123 (by decide) ?_
                    have hl : lv_has ls 3 [(2, .int (nI (6 * rr + (i + 1)))), (1, .int (nI (rr))), (0, .ref (ad (b)))] := by rw [show k + i + 1 = 6 * rr + (i + 1) by omega] at hl; exact hl
                    exact ih_loop5 (i + 1) (sgn) ((sm5 + ndg (ht (k + i)))) (by omega) (by omega) (by rw [hTn, hT5]; show _ = (rowT ht pg wt wr mo mc k) i ++ (cndT (decide (0 < i)) 32 ++ celT ht pg wt wr mo mc (k + i)); unfold celT; rw [hc8, hc0, hc1, hc2, hc3]; simp only [List.append_assoc, List.nil_append, List.append_nil, List.cons_append]) (hsn) _ _ _ hP hS hb_n hfr ls (lv_sub hl [0, 1, 2] rfl)
                  · have hc3 : cndT (fstN (fun j => mo j == k + i) mc).isSome 109 = [109] := by rw [hz3]; rfl
                    refine lv_aload_n hx hb dX13_writeRow_114 rfl (lv_at hl 2 rfl) ?_
                    refine g_bipush S 109 dX13_writeRow_115 (by decide +kernel) ?_
                    refine g_afv (g_runV S hI hP hS (k := 1) (As := [.int (nI (109))]) (rest := []) (mX13_writes l b g kp sv bf sd ip sgn mk td lv tl qs qc qw 0 0 wy de ca ln fa (sm5 + ndg (ht (k + i))) pa tm 109 hb_n (by omega) (by decide) hsn) q2210 q2212 q79 q100 q2213 rfl rfl (by decide +kernel) ⟨Nat.le_of_ble_eq_true rfl, Nat.le_of_ble_eq_true rfl⟩ rfl (hb_n.lt 0 (by decide)) (hb_n.2 0 (by decide)) rfl hl.1 rfl (Nat.le_of_ble_eq_true rfl) ⟨(Nat.le_of_ble_eq_true rfl), (Nat.le_of_ble_eq_true rfl)⟩ dX13_writeRow_117) hS (fun w1 H locs hq hP hS => ?_)
                    obtain ⟨sgx3, hTx3, hsx3, hb_x3, hfx3⟩ := hq
                    have hfr := hfr.trans hfx3 (fun q hq => hq)
                    refine lv_iinc (v := nI (k + i + 1)) (lv' := [(2, .int (nI (k + i + 1))), (1, .int (nI (rr))), (0, .ref (ad (b)))]) hx hb dX13_writeRow_120 hl (k := 0) rfl (g_inc _ 1 (by decide +kernel)) (by decide) rfl (fun ls hl => ?_)
                    refine lv_goto (tgt := 21) hx hb dX13_writeRow_123 (by decide) ?_
                    have hl : lv_has ls 3 [(2, .int (nI (6 * rr + (i + 1)))), (1, .int (nI (rr))), (0, .ref (ad (b)))] := by rw [show k + i + 1 = 6 * rr + (i + 1) by omega] at hl; exact hl
                    exact ih_loop5 (i + 1) (sgx3) (((sm5 + ndg (ht (k + i))) + 1)) (by omega) (by omega) (by rw [hTx3, hTn, hT5]; show _ = (rowT ht pg wt wr mo mc k) i ++ (cndT (decide (0 < i)) 32 ++ celT ht pg wt wr mo mc (k + i)); unfold celT; rw [hc8, hc0, hc1, hc2, hc3]; simp only [List.append_assoc, List.nil_append, List.append_nil, List.cons_append]) (hsx3) _ _ _ hP hS hb_x3 hfr ls (lv_sub hl [0, 1, 2] rfl)
                · have hc2 : cndT (decide (3 ≤ wr (k + i))) 111 = [111] := by rw [hz2]; rfl
                  refine lv_aload_n hx hb dX13_writeRow_100 rfl (lv_at hl 2 rfl) ?_
                  refine g_bipush S 111 dX13_writeRow_101 (by decide +kernel) ?_
                  refine g_afv (g_runV S hI hP hS (k := 1) (As := [.int (nI (111))]) (rest := []) (mX13_writes l b g kp sv bf sd ip sgn mk td lv tl qs qc qw 0 0 wy de ca ln fa (sm5 + ndg (ht (k + i))) pa tm 111 hb_n (by omega) (by decide) hsn) q2210 q2212 q79 q100 q2213 rfl rfl (by decide +kernel) ⟨Nat.le_of_ble_eq_true rfl, Nat.le_of_ble_eq_true rfl⟩ rfl (hb_n.lt 0 (by decide)) (hb_n.2 0 (by decide)) rfl hl.1 rfl (Nat.le_of_ble_eq_true rfl) ⟨(Nat.le_of_ble_eq_true rfl), (Nat.le_of_ble_eq_true rfl)⟩ dX13_writeRow_103) hS (fun w1 H locs hq hP hS => ?_)
                  obtain ⟨sgx2, hTx2, hsx2, hb_x2, hfx2⟩ := hq
                  have hfr := hfr.trans hfx2 (fun q hq => hq)
                  refine lv_aload_n hx hb dX13_writeRow_106 rfl (lv_at hl 2 rfl) ?_
                  refine lv_iload_n hx hb dX13_writeRow_107 rfl (lv_at hl 0 rfl) ?_
                  refine g_roi (g_runV S hI hP hS (k := 1) (As := [.int (nI (k + i))]) (rest := []) (mX13_mothOn l b g kp sv bf sd ip sgx2 mk td lv tl qs qc qw 0 0 wy de ca ln fa ((sm5 + ndg (ht (k + i))) + 1) pa tm ht dr pg wt wr mo mc ni po dn (k + i) hb_x2 hk36 hR hm hmo) q2063 q2065 q67 q100 q2066 rfl rfl (by decide +kernel) ⟨Nat.le_of_ble_eq_true rfl, Nat.le_of_ble_eq_true rfl⟩ rfl (hb_x2.lt 0 (by decide)) (hb_x2.2 0 (by decide)) rfl hl.1 rfl (Nat.le_of_ble_eq_true rfl) ⟨(Nat.le_of_ble_eq_true rfl), (Nat.le_of_ble_eq_true rfl)⟩ dX13_writeRow_108) hS (fun H locs hP hS => ?_)
                  refine g_oltZ S (o := fstN (fun j => mo j == k + i) mc) (fun j hj => by have := fstN_lt hj; omega) (tgt := 120) dX13_writeRow_111 (by decide) (fun hz3 => ?_) (fun hz3_k hz3 => ?_)
                  · have hc3 : cndT (fstN (fun j => mo j == k + i) mc).isSome 109 = [] := by rw [hz3]; rfl
                    refine lv_iinc (v := nI (k + i + 1)) (lv' := [(2, .int (nI (k + i + 1))), (1, .int (nI (rr))), (0, .ref (ad (b)))]) hx hb dX13_writeRow_120 hl (k := 0) rfl (g_inc _ 1 (by decide +kernel)) (by decide) rfl (fun ls hl => ?_)
                    refine lv_goto (tgt := 21) hx hb dX13_writeRow_123 (by decide) ?_
                    have hl : lv_has ls 3 [(2, .int (nI (6 * rr + (i + 1)))), (1, .int (nI (rr))), (0, .ref (ad (b)))] := by rw [show k + i + 1 = 6 * rr + (i + 1) by omega] at hl; exact hl
                    exact ih_loop5 (i + 1) (sgx2) (((sm5 + ndg (ht (k + i))) + 1)) (by omega) (by omega) (by rw [hTx2, hTn, hT5]; show _ = (rowT ht pg wt wr mo mc k) i ++ (cndT (decide (0 < i)) 32 ++ celT ht pg wt wr mo mc (k + i)); unfold celT; rw [hc8, hc0, hc1, hc2, hc3]; simp only [List.append_assoc, List.nil_append, List.append_nil, List.cons_append]) (hsx2) _ _ _ hP hS hb_x2 hfr ls (lv_sub hl [0, 1, 2] rfl)
                  · have hc3 : cndT (fstN (fun j => mo j == k + i) mc).isSome 109 = [109] := by rw [hz3]; rfl
                    refine lv_aload_n hx hb dX13_writeRow_114 rfl (lv_at hl 2 rfl) ?_
                    refine g_bipush S 109 dX13_writeRow_115 (by decide +kernel) ?_
                    refine g_afv (g_runV S hI hP hS (k := 1) (As := [.int (nI (109))]) (rest := []) (mX13_writes l b g kp sv bf sd ip sgx2 mk td lv tl qs qc qw 0 0 wy de ca ln fa ((sm5 + ndg (ht (k + i))) + 1) pa tm 109 hb_x2 (by omega) (by decide) hsx2) q2210 q2212 q79 q100 q2213 rfl rfl (by decide +kernel) ⟨Nat.le_of_ble_eq_true rfl, Nat.le_of_ble_eq_true rfl⟩ rfl (hb_x2.lt 0 (by decide)) (hb_x2.2 0 (by decide)) rfl hl.1 rfl (Nat.le_of_ble_eq_true rfl) ⟨(Nat.le_of_ble_eq_true rfl), (Nat.le_of_ble_eq_true rfl)⟩ dX13_writeRow_117) hS (fun w1 H locs hq hP hS => ?_)
                    obtain ⟨sgx3, hTx3, hsx3, hb_x3, hfx3⟩ := hq
                    have hfr := hfr.trans hfx3 (fun q hq => hq)
                    refine lv_iinc (v := nI (k + i + 1)) (lv' := [(2, .int (nI (k + i + 1))), (1, .int (nI (rr))), (0, .ref (ad (b)))]) hx hb dX13_writeRow_120 hl (k := 0) rfl (g_inc _ 1 (by decide +kernel)) (by decide) rfl (fun ls hl => ?_)
                    refine lv_goto (tgt := 21) hx hb dX13_writeRow_123 (by decide) ?_
                    have hl : lv_has ls 3 [(2, .int (nI (6 * rr + (i + 1)))), (1, .int (nI (rr))), (0, .ref (ad (b)))] := by rw [show k + i + 1 = 6 * rr + (i + 1) by omega] at hl; exact hl
                    exact ih_loop5 (i + 1) (sgx3) ((((sm5 + ndg (ht (k + i))) + 1) + 1)) (by omega) (by omega) (by rw [hTx3, hTx2, hTn, hT5]; show _ = (rowT ht pg wt wr mo mc k) i ++ (cndT (decide (0 < i)) 32 ++ celT ht pg wt wr mo mc (k + i)); unfold celT; rw [hc8, hc0, hc1, hc2, hc3]; simp only [List.append_assoc, List.nil_append, List.append_nil, List.cons_append]) (hsx3) _ _ _ hP hS hb_x3 hfr ls (lv_sub hl [0, 1, 2] rfl)
              · have hc1 : cndT (decide (0 < wt (k + i))) 126 = [126] := by rw [decide_eq_true (show 0 < wt (k + i) by omega)]; rfl
                refine lv_aload_n hx hb dX13_writeRow_86 rfl (lv_at hl 2 rfl) ?_
                refine g_bipush S 126 dX13_writeRow_87 (by decide +kernel) ?_
                refine g_afv (g_runV S hI hP hS (k := 1) (As := [.int (nI (126))]) (rest := []) (mX13_writes l b g kp sv bf sd ip sgn mk td lv tl qs qc qw 0 0 wy de ca ln fa (sm5 + ndg (ht (k + i))) pa tm 126 hb_n (by omega) (by decide) hsn) q2210 q2212 q79 q100 q2213 rfl rfl (by decide +kernel) ⟨Nat.le_of_ble_eq_true rfl, Nat.le_of_ble_eq_true rfl⟩ rfl (hb_n.lt 0 (by decide)) (hb_n.2 0 (by decide)) rfl hl.1 rfl (Nat.le_of_ble_eq_true rfl) ⟨(Nat.le_of_ble_eq_true rfl), (Nat.le_of_ble_eq_true rfl)⟩ dX13_writeRow_89) hS (fun w1 H locs hq hP hS => ?_)
                obtain ⟨sgx1, hTx1, hsx1, hb_x1, hfx1⟩ := hq
                have hfr := hfr.trans hfx1 (fun q hq => hq)
                refine lv_aload_n hx hb dX13_writeRow_92 rfl (lv_at hl 2 rfl) ?_
                refine lv_iload_n hx hb dX13_writeRow_93 rfl (lv_at hl 0 rfl) ?_
                refine g_roi (g_runV S hI hP hS (k := 1) (As := [.int (nI (k + i))]) (rest := []) (mX13_isHole l b g kp sv bf sd ip sgx1 mk td lv tl qs qc qw 0 0 wy de ca ln fa ((sm5 + ndg (ht (k + i))) + 1) pa tm (k + i) (wr (k + i)) hb_x1 hk36 (hgw (k + i) hk36) hwr3) q1968 q1970 q60 q100 q1971 rfl rfl (by decide +kernel) ⟨Nat.le_of_ble_eq_true rfl, Nat.le_of_ble_eq_true rfl⟩ rfl (hb_x1.lt 0 (by decide)) (hb_x1.2 0 (by decide)) rfl hl.1 rfl (Nat.le_of_ble_eq_true rfl) ⟨(Nat.le_of_ble_eq_true rfl), (Nat.le_of_ble_eq_true rfl)⟩ dX13_writeRow_94) hS (fun H locs hP hS => ?_)
                refine g_beq S (b := decide (3 ≤ wr (k + i))) (tgt := 106) dX13_writeRow_97 (by decide) (fun hz2 => ?_) (fun hz2 => ?_)
                · have hc2 : cndT (decide (3 ≤ wr (k + i))) 111 = [] := by rw [hz2]; rfl
                  refine lv_aload_n hx hb dX13_writeRow_106 rfl (lv_at hl 2 rfl) ?_
                  refine lv_iload_n hx hb dX13_writeRow_107 rfl (lv_at hl 0 rfl) ?_
                  refine g_roi (g_runV S hI hP hS (k := 1) (As := [.int (nI (k + i))]) (rest := []) (mX13_mothOn l b g kp sv bf sd ip sgx1 mk td lv tl qs qc qw 0 0 wy de ca ln fa ((sm5 + ndg (ht (k + i))) + 1) pa tm ht dr pg wt wr mo mc ni po dn (k + i) hb_x1 hk36 hR hm hmo) q2063 q2065 q67 q100 q2066 rfl rfl (by decide +kernel) ⟨Nat.le_of_ble_eq_true rfl, Nat.le_of_ble_eq_true rfl⟩ rfl (hb_x1.lt 0 (by decide)) (hb_x1.2 0 (by decide)) rfl hl.1 rfl (Nat.le_of_ble_eq_true rfl) ⟨(Nat.le_of_ble_eq_true rfl), (Nat.le_of_ble_eq_true rfl)⟩ dX13_writeRow_108) hS (fun H locs hP hS => ?_)
                  refine g_oltZ S (o := fstN (fun j => mo j == k + i) mc) (fun j hj => by have := fstN_lt hj; omega) (tgt := 120) dX13_writeRow_111 (by decide) (fun hz3 => ?_) (fun hz3_k hz3 => ?_)
                  · have hc3 : cndT (fstN (fun j => mo j == k + i) mc).isSome 109 = [] := by rw [hz3]; rfl
                    refine lv_iinc (v := nI (k + i + 1)) (lv' := [(2, .int (nI (k + i + 1))), (1, .int (nI (rr))), (0, .ref (ad (b)))]) hx hb dX13_writeRow_120 hl (k := 0) rfl (g_inc _ 1 (by decide +kernel)) (by decide) rfl (fun ls hl => ?_)
                    refine lv_goto (tgt := 21) hx hb dX13_writeRow_123 (by decide) ?_
                    have hl : lv_has ls 3 [(2, .int (nI (6 * rr + (i + 1)))), (1, .int (nI (rr))), (0, .ref (ad (b)))] := by rw [show k + i + 1 = 6 * rr + (i + 1) by omega] at hl; exact hl
                    exact ih_loop5 (i + 1) (sgx1) (((sm5 + ndg (ht (k + i))) + 1)) (by omega) (by omega) (by rw [hTx1, hTn, hT5]; show _ = (rowT ht pg wt wr mo mc k) i ++ (cndT (decide (0 < i)) 32 ++ celT ht pg wt wr mo mc (k + i)); unfold celT; rw [hc8, hc0, hc1, hc2, hc3]; simp only [List.append_assoc, List.nil_append, List.append_nil, List.cons_append]) (hsx1) _ _ _ hP hS hb_x1 hfr ls (lv_sub hl [0, 1, 2] rfl)
                  · have hc3 : cndT (fstN (fun j => mo j == k + i) mc).isSome 109 = [109] := by rw [hz3]; rfl
                    refine lv_aload_n hx hb dX13_writeRow_114 rfl (lv_at hl 2 rfl) ?_
                    refine g_bipush S 109 dX13_writeRow_115 (by decide +kernel) ?_
                    refine g_afv (g_runV S hI hP hS (k := 1) (As := [.int (nI (109))]) (rest := []) (mX13_writes l b g kp sv bf sd ip sgx1 mk td lv tl qs qc qw 0 0 wy de ca ln fa ((sm5 + ndg (ht (k + i))) + 1) pa tm 109 hb_x1 (by omega) (by decide) hsx1) q2210 q2212 q79 q100 q2213 rfl rfl (by decide +kernel) ⟨Nat.le_of_ble_eq_true rfl, Nat.le_of_ble_eq_true rfl⟩ rfl (hb_x1.lt 0 (by decide)) (hb_x1.2 0 (by decide)) rfl hl.1 rfl (Nat.le_of_ble_eq_true rfl) ⟨(Nat.le_of_ble_eq_true rfl), (Nat.le_of_ble_eq_true rfl)⟩ dX13_writeRow_117) hS (fun w1 H locs hq hP hS => ?_)
                    obtain ⟨sgx3, hTx3, hsx3, hb_x3, hfx3⟩ := hq
                    have hfr := hfr.trans hfx3 (fun q hq => hq)
                    refine lv_iinc (v := nI (k + i + 1)) (lv' := [(2, .int (nI (k + i + 1))), (1, .int (nI (rr))), (0, .ref (ad (b)))]) hx hb dX13_writeRow_120 hl (k := 0) rfl (g_inc _ 1 (by decide +kernel)) (by decide) rfl (fun ls hl => ?_)
                    refine lv_goto (tgt := 21) hx hb dX13_writeRow_123 (by decide) ?_
                    have hl : lv_has ls 3 [(2, .int (nI (6 * rr + (i + 1)))), (1, .int (nI (rr))), (0, .ref (ad (b)))] := by rw [show k + i + 1 = 6 * rr + (i + 1) by omega] at hl; exact hl
                    exact ih_loop5 (i + 1) (sgx3) ((((sm5 + ndg (ht (k + i))) + 1) + 1)) (by omega) (by omega) (by rw [hTx3, hTx1, hTn, hT5]; show _ = (rowT ht pg wt wr mo mc k) i ++ (cndT (decide (0 < i)) 32 ++ celT ht pg wt wr mo mc (k + i)); unfold celT; rw [hc8, hc0, hc1, hc2, hc3]; simp only [List.append_assoc, List.nil_append, List.append_nil, List.cons_append]) (hsx3) _ _ _ hP hS hb_x3 hfr ls (lv_sub hl [0, 1, 2] rfl)
                · have hc2 : cndT (decide (3 ≤ wr (k + i))) 111 = [111] := by rw [hz2]; rfl
                  refine lv_aload_n hx hb dX13_writeRow_100 rfl (lv_at hl 2 rfl) ?_
                  refine g_bipush S 111 dX13_writeRow_101 (by decide +kernel) ?_
                  refine g_afv (g_runV S hI hP hS (k := 1) (As := [.int (nI (111))]) (rest := []) (mX13_writes l b g kp sv bf sd ip sgx1 mk td lv tl qs qc qw 0 0 wy de ca ln fa ((sm5 + ndg (ht (k + i))) + 1) pa tm 111 hb_x1 (by omega) (by decide) hsx1) q2210 q2212 q79 q100 q2213 rfl rfl (by decide +kernel) ⟨Nat.le_of_ble_eq_true rfl, Nat.le_of_ble_eq_true rfl⟩ rfl (hb_x1.lt 0 (by decide)) (hb_x1.2 0 (by decide)) rfl hl.1 rfl (Nat.le_of_ble_eq_true rfl) ⟨(Nat.le_of_ble_eq_true rfl), (Nat.le_of_ble_eq_true rfl)⟩ dX13_writeRow_103) hS (fun w1 H locs hq hP hS => ?_)
                  obtain ⟨sgx2, hTx2, hsx2, hb_x2, hfx2⟩ := hq
                  have hfr := hfr.trans hfx2 (fun q hq => hq)
                  refine lv_aload_n hx hb dX13_writeRow_106 rfl (lv_at hl 2 rfl) ?_
                  refine lv_iload_n hx hb dX13_writeRow_107 rfl (lv_at hl 0 rfl) ?_
                  refine g_roi (g_runV S hI hP hS (k := 1) (As := [.int (nI (k + i))]) (rest := []) (mX13_mothOn l b g kp sv bf sd ip sgx2 mk td lv tl qs qc qw 0 0 wy de ca ln fa (((sm5 + ndg (ht (k + i))) + 1) + 1) pa tm ht dr pg wt wr mo mc ni po dn (k + i) hb_x2 hk36 hR hm hmo) q2063 q2065 q67 q100 q2066 rfl rfl (by decide +kernel) ⟨Nat.le_of_ble_eq_true rfl, Nat.le_of_ble_eq_true rfl⟩ rfl (hb_x2.lt 0 (by decide)) (hb_x2.2 0 (by decide)) rfl hl.1 rfl (Nat.le_of_ble_eq_true rfl) ⟨(Nat.le_of_ble_eq_true rfl), (Nat.le_of_ble_eq_true rfl)⟩ dX13_writeRow_108) hS (fun H locs hP hS => ?_)
                  refine g_oltZ S (o := fstN (fun j => mo j == k + i) mc) (fun j hj => by have := fstN_lt hj; omega) (tgt := 120) dX13_writeRow_111 (by decide) (fun hz3 => ?_) (fun hz3_k hz3 => ?_)
                  · have hc3 : cndT (fstN (fun j => mo j == k + i) mc).isSome 109 = [] := by rw [hz3]; rfl
                    refine lv_iinc (v := nI (k + i + 1)) (lv' := [(2, .int (nI (k + i + 1))), (1, .int (nI (rr))), (0, .ref (ad (b)))]) hx hb dX13_writeRow_120 hl (k := 0) rfl (g_inc _ 1 (by decide +kernel)) (by decide) rfl (fun ls hl => ?_)
                    refine lv_goto (tgt := 21) hx hb dX13_writeRow_123 (by decide) ?_
                    have hl : lv_has ls 3 [(2, .int (nI (6 * rr + (i + 1)))), (1, .int (nI (rr))), (0, .ref (ad (b)))] := by rw [show k + i + 1 = 6 * rr + (i + 1) by omega] at hl; exact hl
                    exact ih_loop5 (i + 1) (sgx2) ((((sm5 + ndg (ht (k + i))) + 1) + 1)) (by omega) (by omega) (by rw [hTx2, hTx1, hTn, hT5]; show _ = (rowT ht pg wt wr mo mc k) i ++ (cndT (decide (0 < i)) 32 ++ celT ht pg wt wr mo mc (k + i)); unfold celT; rw [hc8, hc0, hc1, hc2, hc3]; simp only [List.append_assoc, List.nil_append, List.append_nil, List.cons_append]) (hsx2) _ _ _ hP hS hb_x2 hfr ls (lv_sub hl [0, 1, 2] rfl)
                  · have hc3 : cndT (fstN (fun j => mo j == k + i) mc).isSome 109 = [109] := by rw [hz3]; rfl
                    refine lv_aload_n hx hb dX13_writeRow_114 rfl (lv_at hl 2 rfl) ?_
                    refine g_bipush S 109 dX13_writeRow_115 (by decide +kernel) ?_
                    refine g_afv (g_runV S hI hP hS (k := 1) (As := [.int (nI (109))]) (rest := []) (mX13_writes l b g kp sv bf sd ip sgx2 mk td lv tl qs qc qw 0 0 wy de ca ln fa (((sm5 + ndg (ht (k + i))) + 1) + 1) pa tm 109 hb_x2 (by omega) (by decide) hsx2) q2210 q2212 q79 q100 q2213 rfl rfl (by decide +kernel) ⟨Nat.le_of_ble_eq_true rfl, Nat.le_of_ble_eq_true rfl⟩ rfl (hb_x2.lt 0 (by decide)) (hb_x2.2 0 (by decide)) rfl hl.1 rfl (Nat.le_of_ble_eq_true rfl) ⟨(Nat.le_of_ble_eq_true rfl), (Nat.le_of_ble_eq_true rfl)⟩ dX13_writeRow_117) hS (fun w1 H locs hq hP hS => ?_)
                    obtain ⟨sgx3, hTx3, hsx3, hb_x3, hfx3⟩ := hq
                    have hfr := hfr.trans hfx3 (fun q hq => hq)
                    refine lv_iinc (v := nI (k + i + 1)) (lv' := [(2, .int (nI (k + i + 1))), (1, .int (nI (rr))), (0, .ref (ad (b)))]) hx hb dX13_writeRow_120 hl (k := 0) rfl (g_inc _ 1 (by decide +kernel)) (by decide) rfl (fun ls hl => ?_)
                    refine lv_goto (tgt := 21) hx hb dX13_writeRow_123 (by decide) ?_
                    have hl : lv_has ls 3 [(2, .int (nI (6 * rr + (i + 1)))), (1, .int (nI (rr))), (0, .ref (ad (b)))] := by rw [show k + i + 1 = 6 * rr + (i + 1) by omega] at hl; exact hl
                    exact ih_loop5 (i + 1) (sgx3) (((((sm5 + ndg (ht (k + i))) + 1) + 1) + 1)) (by omega) (by omega) (by rw [hTx3, hTx2, hTx1, hTn, hT5]; show _ = (rowT ht pg wt wr mo mc k) i ++ (cndT (decide (0 < i)) 32 ++ celT ht pg wt wr mo mc (k + i)); unfold celT; rw [hc8, hc0, hc1, hc2, hc3]; simp only [List.append_assoc, List.nil_append, List.append_nil, List.cons_append]) (hsx3) _ _ _ hP hS hb_x3 hfr ls (lv_sub hl [0, 1, 2] rfl)
            · have hc0 : cndT (decide (pg (k + i) = 1)) 94 = [94] := by rw [decide_eq_true (show pg (k + i) = 1 by omega)]; rfl
              refine lv_aload_n hx hb dX13_writeRow_68 rfl (lv_at hl 2 rfl) ?_
              refine g_bipush S 94 dX13_writeRow_69 (by decide +kernel) ?_
              refine g_afv (g_runV S hI hP hS (k := 1) (As := [.int (nI (94))]) (rest := []) (mX13_writes l b g kp sv bf sd ip sgn mk td lv tl qs qc qw 0 0 wy de ca ln fa (sm5 + ndg (ht (k + i))) pa tm 94 hb_n (by omega) (by decide) hsn) q2210 q2212 q79 q100 q2213 rfl rfl (by decide +kernel) ⟨Nat.le_of_ble_eq_true rfl, Nat.le_of_ble_eq_true rfl⟩ rfl (hb_n.lt 0 (by decide)) (hb_n.2 0 (by decide)) rfl hl.1 rfl (Nat.le_of_ble_eq_true rfl) ⟨(Nat.le_of_ble_eq_true rfl), (Nat.le_of_ble_eq_true rfl)⟩ dX13_writeRow_71) hS (fun w1 H locs hq hP hS => ?_)
              obtain ⟨sgx0, hTx0, hsx0, hb_x0, hfx0⟩ := hq
              have hfr := hfr.trans hfx0 (fun q hq => hq)
              refine lv_aload_n hx hb dX13_writeRow_74 rfl (lv_at hl 2 rfl) ?_
              refine g_get S hI hP uX13 rfl (fs := _) (hb_x0.lt 0 (by decide)) (hb_x0.2 0 (by decide)) 0 (by decide) q1787 rfl (v := .ref (ad (b + 1))) rfl dX13_writeRow_75 ?_
              refine g_bipush S 112 dX13_writeRow_78 (by decide +kernel) ?_
              refine lv_iload_n hx hb dX13_writeRow_80 rfl (lv_at hl 0 rfl) ?_
              refine g_iadd S dX13_writeRow_81 ?_
              refine g_iald S hI hP (f := fun j => nI (g j)) (hb_x0.lt 1 (by decide)) (hb_x0.2 1 (by decide)) (112 + (k + i)) (by omega) (by decide) dX13_writeRow_82 ?_
              rw [hgt (k + i) hk36]
              refine g_ifle S (a := wt (k + i)) (by omega) (tgt := 92) dX13_writeRow_83 (by decide) (fun hz1 => ?_) (fun hz1 => ?_)
              · have hc1 : cndT (decide (0 < wt (k + i))) 126 = [] := by rw [decide_eq_false (show ¬ 0 < wt (k + i) by omega)]; rfl
                refine lv_aload_n hx hb dX13_writeRow_92 rfl (lv_at hl 2 rfl) ?_
                refine lv_iload_n hx hb dX13_writeRow_93 rfl (lv_at hl 0 rfl) ?_
                refine g_roi (g_runV S hI hP hS (k := 1) (As := [.int (nI (k + i))]) (rest := []) (mX13_isHole l b g kp sv bf sd ip sgx0 mk td lv tl qs qc qw 0 0 wy de ca ln fa ((sm5 + ndg (ht (k + i))) + 1) pa tm (k + i) (wr (k + i)) hb_x0 hk36 (hgw (k + i) hk36) hwr3) q1968 q1970 q60 q100 q1971 rfl rfl (by decide +kernel) ⟨Nat.le_of_ble_eq_true rfl, Nat.le_of_ble_eq_true rfl⟩ rfl (hb_x0.lt 0 (by decide)) (hb_x0.2 0 (by decide)) rfl hl.1 rfl (Nat.le_of_ble_eq_true rfl) ⟨(Nat.le_of_ble_eq_true rfl), (Nat.le_of_ble_eq_true rfl)⟩ dX13_writeRow_94) hS (fun H locs hP hS => ?_)
                refine g_beq S (b := decide (3 ≤ wr (k + i))) (tgt := 106) dX13_writeRow_97 (by decide) (fun hz2 => ?_) (fun hz2 => ?_)
                · have hc2 : cndT (decide (3 ≤ wr (k + i))) 111 = [] := by rw [hz2]; rfl
                  refine lv_aload_n hx hb dX13_writeRow_106 rfl (lv_at hl 2 rfl) ?_
                  refine lv_iload_n hx hb dX13_writeRow_107 rfl (lv_at hl 0 rfl) ?_
                  refine g_roi (g_runV S hI hP hS (k := 1) (As := [.int (nI (k + i))]) (rest := []) (mX13_mothOn l b g kp sv bf sd ip sgx0 mk td lv tl qs qc qw 0 0 wy de ca ln fa ((sm5 + ndg (ht (k + i))) + 1) pa tm ht dr pg wt wr mo mc ni po dn (k + i) hb_x0 hk36 hR hm hmo) q2063 q2065 q67 q100 q2066 rfl rfl (by decide +kernel) ⟨Nat.le_of_ble_eq_true rfl, Nat.le_of_ble_eq_true rfl⟩ rfl (hb_x0.lt 0 (by decide)) (hb_x0.2 0 (by decide)) rfl hl.1 rfl (Nat.le_of_ble_eq_true rfl) ⟨(Nat.le_of_ble_eq_true rfl), (Nat.le_of_ble_eq_true rfl)⟩ dX13_writeRow_108) hS (fun H locs hP hS => ?_)
                  refine g_oltZ S (o := fstN (fun j => mo j == k + i) mc) (fun j hj => by have := fstN_lt hj; omega) (tgt := 120) dX13_writeRow_111 (by decide) (fun hz3 => ?_) (fun hz3_k hz3 => ?_)
                  · have hc3 : cndT (fstN (fun j => mo j == k + i) mc).isSome 109 = [] := by rw [hz3]; rfl
                    refine lv_iinc (v := nI (k + i + 1)) (lv' := [(2, .int (nI (k + i + 1))), (1, .int (nI (rr))), (0, .ref (ad (b)))]) hx hb dX13_writeRow_120 hl (k := 0) rfl (g_inc _ 1 (by decide +kernel)) (by decide) rfl (fun ls hl => ?_)
                    refine lv_goto (tgt := 21) hx hb dX13_writeRow_123 (by decide) ?_
                    have hl : lv_has ls 3 [(2, .int (nI (6 * rr + (i + 1)))), (1, .int (nI (rr))), (0, .ref (ad (b)))] := by rw [show k + i + 1 = 6 * rr + (i + 1) by omega] at hl; exact hl
                    exact ih_loop5 (i + 1) (sgx0) (((sm5 + ndg (ht (k + i))) + 1)) (by omega) (by omega) (by rw [hTx0, hTn, hT5]; show _ = (rowT ht pg wt wr mo mc k) i ++ (cndT (decide (0 < i)) 32 ++ celT ht pg wt wr mo mc (k + i)); unfold celT; rw [hc8, hc0, hc1, hc2, hc3]; simp only [List.append_assoc, List.nil_append, List.append_nil, List.cons_append]) (hsx0) _ _ _ hP hS hb_x0 hfr ls (lv_sub hl [0, 1, 2] rfl)
                  · have hc3 : cndT (fstN (fun j => mo j == k + i) mc).isSome 109 = [109] := by rw [hz3]; rfl
                    refine lv_aload_n hx hb dX13_writeRow_114 rfl (lv_at hl 2 rfl) ?_
                    refine g_bipush S 109 dX13_writeRow_115 (by decide +kernel) ?_
                    refine g_afv (g_runV S hI hP hS (k := 1) (As := [.int (nI (109))]) (rest := []) (mX13_writes l b g kp sv bf sd ip sgx0 mk td lv tl qs qc qw 0 0 wy de ca ln fa ((sm5 + ndg (ht (k + i))) + 1) pa tm 109 hb_x0 (by omega) (by decide) hsx0) q2210 q2212 q79 q100 q2213 rfl rfl (by decide +kernel) ⟨Nat.le_of_ble_eq_true rfl, Nat.le_of_ble_eq_true rfl⟩ rfl (hb_x0.lt 0 (by decide)) (hb_x0.2 0 (by decide)) rfl hl.1 rfl (Nat.le_of_ble_eq_true rfl) ⟨(Nat.le_of_ble_eq_true rfl), (Nat.le_of_ble_eq_true rfl)⟩ dX13_writeRow_117) hS (fun w1 H locs hq hP hS => ?_)
                    obtain ⟨sgx3, hTx3, hsx3, hb_x3, hfx3⟩ := hq
                    have hfr := hfr.trans hfx3 (fun q hq => hq)
                    refine lv_iinc (v := nI (k + i + 1)) (lv' := [(2, .int (nI (k + i + 1))), (1, .int (nI (rr))), (0, .ref (ad (b)))]) hx hb dX13_writeRow_120 hl (k := 0) rfl (g_inc _ 1 (by decide +kernel)) (by decide) rfl (fun ls hl => ?_)
                    refine lv_goto (tgt := 21) hx hb dX13_writeRow_123 (by decide) ?_
                    have hl : lv_has ls 3 [(2, .int (nI (6 * rr + (i + 1)))), (1, .int (nI (rr))), (0, .ref (ad (b)))] := by rw [show k + i + 1 = 6 * rr + (i + 1) by omega] at hl; exact hl
                    exact ih_loop5 (i + 1) (sgx3) ((((sm5 + ndg (ht (k + i))) + 1) + 1)) (by omega) (by omega) (by rw [hTx3, hTx0, hTn, hT5]; show _ = (rowT ht pg wt wr mo mc k) i ++ (cndT (decide (0 < i)) 32 ++ celT ht pg wt wr mo mc (k + i)); unfold celT; rw [hc8, hc0, hc1, hc2, hc3]; simp only [List.append_assoc, List.nil_append, List.append_nil, List.cons_append]) (hsx3) _ _ _ hP hS hb_x3 hfr ls (lv_sub hl [0, 1, 2] rfl)
                · have hc2 : cndT (decide (3 ≤ wr (k + i))) 111 = [111] := by rw [hz2]; rfl
                  refine lv_aload_n hx hb dX13_writeRow_100 rfl (lv_at hl 2 rfl) ?_
                  refine g_bipush S 111 dX13_writeRow_101 (by decide +kernel) ?_
                  refine g_afv (g_runV S hI hP hS (k := 1) (As := [.int (nI (111))]) (rest := []) (mX13_writes l b g kp sv bf sd ip sgx0 mk td lv tl qs qc qw 0 0 wy de ca ln fa ((sm5 + ndg (ht (k + i))) + 1) pa tm 111 hb_x0 (by omega) (by decide) hsx0) q2210 q2212 q79 q100 q2213 rfl rfl (by decide +kernel) ⟨Nat.le_of_ble_eq_true rfl, Nat.le_of_ble_eq_true rfl⟩ rfl (hb_x0.lt 0 (by decide)) (hb_x0.2 0 (by decide)) rfl hl.1 rfl (Nat.le_of_ble_eq_true rfl) ⟨(Nat.le_of_ble_eq_true rfl), (Nat.le_of_ble_eq_true rfl)⟩ dX13_writeRow_103) hS (fun w1 H locs hq hP hS => ?_)
                  obtain ⟨sgx2, hTx2, hsx2, hb_x2, hfx2⟩ := hq
                  have hfr := hfr.trans hfx2 (fun q hq => hq)
                  refine lv_aload_n hx hb dX13_writeRow_106 rfl (lv_at hl 2 rfl) ?_
                  refine lv_iload_n hx hb dX13_writeRow_107 rfl (lv_at hl 0 rfl) ?_
                  refine g_roi (g_runV S hI hP hS (k := 1) (As := [.int (nI (k + i))]) (rest := []) (mX13_mothOn l b g kp sv bf sd ip sgx2 mk td lv tl qs qc qw 0 0 wy de ca ln fa (((sm5 + ndg (ht (k + i))) + 1) + 1) pa tm ht dr pg wt wr mo mc ni po dn (k + i) hb_x2 hk36 hR hm hmo) q2063 q2065 q67 q100 q2066 rfl rfl (by decide +kernel) ⟨Nat.le_of_ble_eq_true rfl, Nat.le_of_ble_eq_true rfl⟩ rfl (hb_x2.lt 0 (by decide)) (hb_x2.2 0 (by decide)) rfl hl.1 rfl (Nat.le_of_ble_eq_true rfl) ⟨(Nat.le_of_ble_eq_true rfl), (Nat.le_of_ble_eq_true rfl)⟩ dX13_writeRow_108) hS (fun H locs hP hS => ?_)
                  refine g_oltZ S (o := fstN (fun j => mo j == k + i) mc) (fun j hj => by have := fstN_lt hj; omega) (tgt := 120) dX13_writeRow_111 (by decide) (fun hz3 => ?_) (fun hz3_k hz3 => ?_)
                  · have hc3 : cndT (fstN (fun j => mo j == k + i) mc).isSome 109 = [] := by rw [hz3]; rfl
                    refine lv_iinc (v := nI (k + i + 1)) (lv' := [(2, .int (nI (k + i + 1))), (1, .int (nI (rr))), (0, .ref (ad (b)))]) hx hb dX13_writeRow_120 hl (k := 0) rfl (g_inc _ 1 (by decide +kernel)) (by decide) rfl (fun ls hl => ?_)
                    refine lv_goto (tgt := 21) hx hb dX13_writeRow_123 (by decide) ?_
                    have hl : lv_has ls 3 [(2, .int (nI (6 * rr + (i + 1)))), (1, .int (nI (rr))), (0, .ref (ad (b)))] := by rw [show k + i + 1 = 6 * rr + (i + 1) by omega] at hl; exact hl
                    exact ih_loop5 (i + 1) (sgx2) ((((sm5 + ndg (ht (k + i))) + 1) + 1)) (by omega) (by omega) (by rw [hTx2, hTx0, hTn, hT5]; show _ = (rowT ht pg wt wr mo mc k) i ++ (cndT (decide (0 < i)) 32 ++ celT ht pg wt wr mo mc (k + i)); unfold celT; rw [hc8, hc0, hc1, hc2, hc3]; simp only [List.append_assoc, List.nil_append, List.append_nil, List.cons_append]) (hsx2) _ _ _ hP hS hb_x2 hfr ls (lv_sub hl [0, 1, 2] rfl)
                  · have hc3 : cndT (fstN (fun j => mo j == k + i) mc).isSome 109 = [109] := by rw [hz3]; rfl
                    refine lv_aload_n hx hb dX13_writeRow_114 rfl (lv_at hl 2 rfl) ?_
                    refine g_bipush S 109 dX13_writeRow_115 (by decide +kernel) ?_
                    refine g_afv (g_runV S hI hP hS (k := 1) (As := [.int (nI (109))]) (rest := []) (mX13_writes l b g kp sv bf sd ip sgx2 mk td lv tl qs qc qw 0 0 wy de ca ln fa (((sm5 + ndg (ht (k + i))) + 1) + 1) pa tm 109 hb_x2 (by omega) (by decide) hsx2) q2210 q2212 q79 q100 q2213 rfl rfl (by decide +kernel) ⟨Nat.le_of_ble_eq_true rfl, Nat.le_of_ble_eq_true rfl⟩ rfl (hb_x2.lt 0 (by decide)) (hb_x2.2 0 (by decide)) rfl hl.1 rfl (Nat.le_of_ble_eq_true rfl) ⟨(Nat.le_of_ble_eq_true rfl), (Nat.le_of_ble_eq_true rfl)⟩ dX13_writeRow_117) hS (fun w1 H locs hq hP hS => ?_)
                    obtain ⟨sgx3, hTx3, hsx3, hb_x3, hfx3⟩ := hq
                    have hfr := hfr.trans hfx3 (fun q hq => hq)
                    refine lv_iinc (v := nI (k + i + 1)) (lv' := [(2, .int (nI (k + i + 1))), (1, .int (nI (rr))), (0, .ref (ad (b)))]) hx hb dX13_writeRow_120 hl (k := 0) rfl (g_inc _ 1 (by decide +kernel)) (by decide) rfl (fun ls hl => ?_)
                    refine lv_goto (tgt := 21) hx hb dX13_writeRow_123 (by decide) ?_
                    have hl : lv_has ls 3 [(2, .int (nI (6 * rr + (i + 1)))), (1, .int (nI (rr))), (0, .ref (ad (b)))] := by rw [show k + i + 1 = 6 * rr + (i + 1) by omega] at hl; exact hl
                    exact ih_loop5 (i + 1) (sgx3) (((((sm5 + ndg (ht (k + i))) + 1) + 1) + 1)) (by omega) (by omega) (by rw [hTx3, hTx2, hTx0, hTn, hT5]; show _ = (rowT ht pg wt wr mo mc k) i ++ (cndT (decide (0 < i)) 32 ++ celT ht pg wt wr mo mc (k + i)); unfold celT; rw [hc8, hc0, hc1, hc2, hc3]; simp only [List.append_assoc, List.nil_append, List.append_nil, List.cons_append]) (hsx3) _ _ _ hP hS hb_x3 hfr ls (lv_sub hl [0, 1, 2] rfl)
              · have hc1 : cndT (decide (0 < wt (k + i))) 126 = [126] := by rw [decide_eq_true (show 0 < wt (k + i) by omega)]; rfl
                refine lv_aload_n hx hb dX13_writeRow_86 rfl (lv_at hl 2 rfl) ?_
                refine g_bipush S 126 dX13_writeRow_87 (by decide +kernel) ?_
                refine g_afv (g_runV S hI hP hS (k := 1) (As := [.int (nI (126))]) (rest := []) (mX13_writes l b g kp sv bf sd ip sgx0 mk td lv tl qs qc qw 0 0 wy de ca ln fa ((sm5 + ndg (ht (k + i))) + 1) pa tm 126 hb_x0 (by omega) (by decide) hsx0) q2210 q2212 q79 q100 q2213 rfl rfl (by decide +kernel) ⟨Nat.le_of_ble_eq_true rfl, Nat.le_of_ble_eq_true rfl⟩ rfl (hb_x0.lt 0 (by decide)) (hb_x0.2 0 (by decide)) rfl hl.1 rfl (Nat.le_of_ble_eq_true rfl) ⟨(Nat.le_of_ble_eq_true rfl), (Nat.le_of_ble_eq_true rfl)⟩ dX13_writeRow_89) hS (fun w1 H locs hq hP hS => ?_)
                obtain ⟨sgx1, hTx1, hsx1, hb_x1, hfx1⟩ := hq
                have hfr := hfr.trans hfx1 (fun q hq => hq)
                refine lv_aload_n hx hb dX13_writeRow_92 rfl (lv_at hl 2 rfl) ?_
                refine lv_iload_n hx hb dX13_writeRow_93 rfl (lv_at hl 0 rfl) ?_
                refine g_roi (g_runV S hI hP hS (k := 1) (As := [.int (nI (k + i))]) (rest := []) (mX13_isHole l b g kp sv bf sd ip sgx1 mk td lv tl qs qc qw 0 0 wy de ca ln fa (((sm5 + ndg (ht (k + i))) + 1) + 1) pa tm (k + i) (wr (k + i)) hb_x1 hk36 (hgw (k + i) hk36) hwr3) q1968 q1970 q60 q100 q1971 rfl rfl (by decide +kernel) ⟨Nat.le_of_ble_eq_true rfl, Nat.le_of_ble_eq_true rfl⟩ rfl (hb_x1.lt 0 (by decide)) (hb_x1.2 0 (by decide)) rfl hl.1 rfl (Nat.le_of_ble_eq_true rfl) ⟨(Nat.le_of_ble_eq_true rfl), (Nat.le_of_ble_eq_true rfl)⟩ dX13_writeRow_94) hS (fun H locs hP hS => ?_)
                refine g_beq S (b := decide (3 ≤ wr (k + i))) (tgt := 106) dX13_writeRow_97 (by decide) (fun hz2 => ?_) (fun hz2 => ?_)
                · have hc2 : cndT (decide (3 ≤ wr (k + i))) 111 = [] := by rw [hz2]; rfl
                  refine lv_aload_n hx hb dX13_writeRow_106 rfl (lv_at hl 2 rfl) ?_
                  refine lv_iload_n hx hb dX13_writeRow_107 rfl (lv_at hl 0 rfl) ?_
                  refine g_roi (g_runV S hI hP hS (k := 1) (As := [.int (nI (k + i))]) (rest := []) (mX13_mothOn l b g kp sv bf sd ip sgx1 mk td lv tl qs qc qw 0 0 wy de ca ln fa (((sm5 + ndg (ht (k + i))) + 1) + 1) pa tm ht dr pg wt wr mo mc ni po dn (k + i) hb_x1 hk36 hR hm hmo) q2063 q2065 q67 q100 q2066 rfl rfl (by decide +kernel) ⟨Nat.le_of_ble_eq_true rfl, Nat.le_of_ble_eq_true rfl⟩ rfl (hb_x1.lt 0 (by decide)) (hb_x1.2 0 (by decide)) rfl hl.1 rfl (Nat.le_of_ble_eq_true rfl) ⟨(Nat.le_of_ble_eq_true rfl), (Nat.le_of_ble_eq_true rfl)⟩ dX13_writeRow_108) hS (fun H locs hP hS => ?_)
                  refine g_oltZ S (o := fstN (fun j => mo j == k + i) mc) (fun j hj => by have := fstN_lt hj; omega) (tgt := 120) dX13_writeRow_111 (by decide) (fun hz3 => ?_) (fun hz3_k hz3 => ?_)
                  · have hc3 : cndT (fstN (fun j => mo j == k + i) mc).isSome 109 = [] := by rw [hz3]; rfl
                    refine lv_iinc (v := nI (k + i + 1)) (lv' := [(2, .int (nI (k + i + 1))), (1, .int (nI (rr))), (0, .ref (ad (b)))]) hx hb dX13_writeRow_120 hl (k := 0) rfl (g_inc _ 1 (by decide +kernel)) (by decide) rfl (fun ls hl => ?_)
                    refine lv_goto (tgt := 21) hx hb dX13_writeRow_123 (by decide) ?_
                    have hl : lv_has ls 3 [(2, .int (nI (6 * rr + (i + 1)))), (1, .int (nI (rr))), (0, .ref (ad (b)))] := by rw [show k + i + 1 = 6 * rr + (i + 1) by omega] at hl; exact hl
                    exact ih_loop5 (i + 1) (sgx1) ((((sm5 + ndg (ht (k + i))) + 1) + 1)) (by omega) (by omega) (by rw [hTx1, hTx0, hTn, hT5]; show _ = (rowT ht pg wt wr mo mc k) i ++ (cndT (decide (0 < i)) 32 ++ celT ht pg wt wr mo mc (k + i)); unfold celT; rw [hc8, hc0, hc1, hc2, hc3]; simp only [List.append_assoc, List.nil_append, List.append_nil, List.cons_append]) (hsx1) _ _ _ hP hS hb_x1 hfr ls (lv_sub hl [0, 1, 2] rfl)
                  · have hc3 : cndT (fstN (fun j => mo j == k + i) mc).isSome 109 = [109] := by rw [hz3]; rfl
                    refine lv_aload_n hx hb dX13_writeRow_114 rfl (lv_at hl 2 rfl) ?_
                    refine g_bipush S 109 dX13_writeRow_115 (by decide +kernel) ?_
                    refine g_afv (g_runV S hI hP hS (k := 1) (As := [.int (nI (109))]) (rest := []) (mX13_writes l b g kp sv bf sd ip sgx1 mk td lv tl qs qc qw 0 0 wy de ca ln fa (((sm5 + ndg (ht (k + i))) + 1) + 1) pa tm 109 hb_x1 (by omega) (by decide) hsx1) q2210 q2212 q79 q100 q2213 rfl rfl (by decide +kernel) ⟨Nat.le_of_ble_eq_true rfl, Nat.le_of_ble_eq_true rfl⟩ rfl (hb_x1.lt 0 (by decide)) (hb_x1.2 0 (by decide)) rfl hl.1 rfl (Nat.le_of_ble_eq_true rfl) ⟨(Nat.le_of_ble_eq_true rfl), (Nat.le_of_ble_eq_true rfl)⟩ dX13_writeRow_117) hS (fun w1 H locs hq hP hS => ?_)
                    obtain ⟨sgx3, hTx3, hsx3, hb_x3, hfx3⟩ := hq
                    have hfr := hfr.trans hfx3 (fun q hq => hq)
                    refine lv_iinc (v := nI (k + i + 1)) (lv' := [(2, .int (nI (k + i + 1))), (1, .int (nI (rr))), (0, .ref (ad (b)))]) hx hb dX13_writeRow_120 hl (k := 0) rfl (g_inc _ 1 (by decide +kernel)) (by decide) rfl (fun ls hl => ?_)
                    refine lv_goto (tgt := 21) hx hb dX13_writeRow_123 (by decide) ?_
                    have hl : lv_has ls 3 [(2, .int (nI (6 * rr + (i + 1)))), (1, .int (nI (rr))), (0, .ref (ad (b)))] := by rw [show k + i + 1 = 6 * rr + (i + 1) by omega] at hl; exact hl
                    exact ih_loop5 (i + 1) (sgx3) (((((sm5 + ndg (ht (k + i))) + 1) + 1) + 1)) (by omega) (by omega) (by rw [hTx3, hTx1, hTx0, hTn, hT5]; show _ = (rowT ht pg wt wr mo mc k) i ++ (cndT (decide (0 < i)) 32 ++ celT ht pg wt wr mo mc (k + i)); unfold celT; rw [hc8, hc0, hc1, hc2, hc3]; simp only [List.append_assoc, List.nil_append, List.append_nil, List.cons_append]) (hsx3) _ _ _ hP hS hb_x3 hfr ls (lv_sub hl [0, 1, 2] rfl)
                · have hc2 : cndT (decide (3 ≤ wr (k + i))) 111 = [111] := by rw [hz2]; rfl
                  refine lv_aload_n hx hb dX13_writeRow_100 rfl (lv_at hl 2 rfl) ?_
                  refine g_bipush S 111 dX13_writeRow_101 (by decide +kernel) ?_
                  refine g_afv (g_runV S hI hP hS (k := 1) (As := [.int (nI (111))]) (rest := []) (mX13_writes l b g kp sv bf sd ip sgx1 mk td lv tl qs qc qw 0 0 wy de ca ln fa (((sm5 + ndg (ht (k + i))) + 1) + 1) pa tm 111 hb_x1 (by omega) (by decide) hsx1) q2210 q2212 q79 q100 q2213 rfl rfl (by decide +kernel) ⟨Nat.le_of_ble_eq_true rfl, Nat.le_of_ble_eq_true rfl⟩ rfl (hb_x1.lt 0 (by decide)) (hb_x1.2 0 (by decide)) rfl hl.1 rfl (Nat.le_of_ble_eq_true rfl) ⟨(Nat.le_of_ble_eq_true rfl), (Nat.le_of_ble_eq_true rfl)⟩ dX13_writeRow_103) hS (fun w1 H locs hq hP hS => ?_)
                  obtain ⟨sgx2, hTx2, hsx2, hb_x2, hfx2⟩ := hq
                  have hfr := hfr.trans hfx2 (fun q hq => hq)
                  refine lv_aload_n hx hb dX13_writeRow_106 rfl (lv_at hl 2 rfl) ?_
                  refine lv_iload_n hx hb dX13_writeRow_107 rfl (lv_at hl 0 rfl) ?_
                  refine g_roi (g_runV S hI hP hS (k := 1) (As := [.int (nI (k + i))]) (rest := []) (mX13_mothOn l b g kp sv bf sd ip sgx2 mk td lv tl qs qc qw 0 0 wy de ca ln fa ((((sm5 + ndg (ht (k + i))) + 1) + 1) + 1) pa tm ht dr pg wt wr mo mc ni po dn (k + i) hb_x2 hk36 hR hm hmo) q2063 q2065 q67 q100 q2066 rfl rfl (by decide +kernel) ⟨Nat.le_of_ble_eq_true rfl, Nat.le_of_ble_eq_true rfl⟩ rfl (hb_x2.lt 0 (by decide)) (hb_x2.2 0 (by decide)) rfl hl.1 rfl (Nat.le_of_ble_eq_true rfl) ⟨(Nat.le_of_ble_eq_true rfl), (Nat.le_of_ble_eq_true rfl)⟩ dX13_writeRow_108) hS (fun H locs hP hS => ?_)
                  refine g_oltZ S (o := fstN (fun j => mo j == k + i) mc) (fun j hj => by have := fstN_lt hj; omega) (tgt := 120) dX13_writeRow_111 (by decide) (fun hz3 => ?_) (fun hz3_k hz3 => ?_)
                  · have hc3 : cndT (fstN (fun j => mo j == k + i) mc).isSome 109 = [] := by rw [hz3]; rfl
                    refine lv_iinc (v := nI (k + i + 1)) (lv' := [(2, .int (nI (k + i + 1))), (1, .int (nI (rr))), (0, .ref (ad (b)))]) hx hb dX13_writeRow_120 hl (k := 0) rfl (g_inc _ 1 (by decide +kernel)) (by decide) rfl (fun ls hl => ?_)
                    refine lv_goto (tgt := 21) hx hb dX13_writeRow_123 (by decide) ?_
                    have hl : lv_has ls 3 [(2, .int (nI (6 * rr + (i + 1)))), (1, .int (nI (rr))), (0, .ref (ad (b)))] := by rw [show k + i + 1 = 6 * rr + (i + 1) by omega] at hl; exact hl
                    exact ih_loop5 (i + 1) (sgx2) (((((sm5 + ndg (ht (k + i))) + 1) + 1) + 1)) (by omega) (by omega) (by rw [hTx2, hTx1, hTx0, hTn, hT5]; show _ = (rowT ht pg wt wr mo mc k) i ++ (cndT (decide (0 < i)) 32 ++ celT ht pg wt wr mo mc (k + i)); unfold celT; rw [hc8, hc0, hc1, hc2, hc3]; simp only [List.append_assoc, List.nil_append, List.append_nil, List.cons_append]) (hsx2) _ _ _ hP hS hb_x2 hfr ls (lv_sub hl [0, 1, 2] rfl)
                  · have hc3 : cndT (fstN (fun j => mo j == k + i) mc).isSome 109 = [109] := by rw [hz3]; rfl
                    refine lv_aload_n hx hb dX13_writeRow_114 rfl (lv_at hl 2 rfl) ?_
                    refine g_bipush S 109 dX13_writeRow_115 (by decide +kernel) ?_
                    refine g_afv (g_runV S hI hP hS (k := 1) (As := [.int (nI (109))]) (rest := []) (mX13_writes l b g kp sv bf sd ip sgx2 mk td lv tl qs qc qw 0 0 wy de ca ln fa ((((sm5 + ndg (ht (k + i))) + 1) + 1) + 1) pa tm 109 hb_x2 (by omega) (by decide) hsx2) q2210 q2212 q79 q100 q2213 rfl rfl (by decide +kernel) ⟨Nat.le_of_ble_eq_true rfl, Nat.le_of_ble_eq_true rfl⟩ rfl (hb_x2.lt 0 (by decide)) (hb_x2.2 0 (by decide)) rfl hl.1 rfl (Nat.le_of_ble_eq_true rfl) ⟨(Nat.le_of_ble_eq_true rfl), (Nat.le_of_ble_eq_true rfl)⟩ dX13_writeRow_117) hS (fun w1 H locs hq hP hS => ?_)
                    obtain ⟨sgx3, hTx3, hsx3, hb_x3, hfx3⟩ := hq
                    have hfr := hfr.trans hfx3 (fun q hq => hq)
                    refine lv_iinc (v := nI (k + i + 1)) (lv' := [(2, .int (nI (k + i + 1))), (1, .int (nI (rr))), (0, .ref (ad (b)))]) hx hb dX13_writeRow_120 hl (k := 0) rfl (g_inc _ 1 (by decide +kernel)) (by decide) rfl (fun ls hl => ?_)
                    refine lv_goto (tgt := 21) hx hb dX13_writeRow_123 (by decide) ?_
                    have hl : lv_has ls 3 [(2, .int (nI (6 * rr + (i + 1)))), (1, .int (nI (rr))), (0, .ref (ad (b)))] := by rw [show k + i + 1 = 6 * rr + (i + 1) by omega] at hl; exact hl
                    exact ih_loop5 (i + 1) (sgx3) ((((((sm5 + ndg (ht (k + i))) + 1) + 1) + 1) + 1)) (by omega) (by omega) (by rw [hTx3, hTx2, hTx1, hTx0, hTn, hT5]; show _ = (rowT ht pg wt wr mo mc k) i ++ (cndT (decide (0 < i)) 32 ++ celT ht pg wt wr mo mc (k + i)); unfold celT; rw [hc8, hc0, hc1, hc2, hc3]; simp only [List.append_assoc, List.nil_append, List.append_nil, List.cons_append]) (hsx3) _ _ _ hP hS hb_x3 hfr ls (lv_sub hl [0, 1, 2] rfl)
          · have hc8 : cndT (decide (0 < i)) 32 = [32] := by rw [decide_eq_true (show 0 < i by omega)]; rfl
            refine lv_aload_n hx hb dX13_writeRow_40 rfl (lv_at hl 2 rfl) ?_
            refine g_bipush S 32 dX13_writeRow_41 (by decide +kernel) ?_
            refine g_afv (g_runV S hI hP hS (k := 1) (As := [.int (nI (32))]) (rest := []) (mX13_writes l b g kp sv bf sd ip sg5 mk td lv tl qs qc qw 0 0 wy de ca ln fa sm5 pa tm 32 hb6 (by omega) (by decide) hs5) q2210 q2212 q79 q100 q2213 rfl rfl (by decide +kernel) ⟨Nat.le_of_ble_eq_true rfl, Nat.le_of_ble_eq_true rfl⟩ rfl (hb6.lt 0 (by decide)) (hb6.2 0 (by decide)) rfl hl.1 rfl (Nat.le_of_ble_eq_true rfl) ⟨(Nat.le_of_ble_eq_true rfl), (Nat.le_of_ble_eq_true rfl)⟩ dX13_writeRow_43) hS (fun w1 H locs hq hP hS => ?_)
            obtain ⟨sgs, hTs, hss, hb_s, hfs⟩ := hq
            have hfr := hfr.trans hfs (fun q hq => hq)
            refine lv_aload_n hx hb dX13_writeRow_46 rfl (lv_at hl 2 rfl) ?_
            refine lv_aload_n hx hb dX13_writeRow_47 rfl (lv_at hl 2 rfl) ?_
            refine lv_iload_n hx hb dX13_writeRow_48 rfl (lv_at hl 0 rfl) ?_
            refine g_roi (g_runV S hI hP hS (k := 1) (As := [.int (nI (k + i))]) (rest := [.ref (ad (b))]) (mX13_high l b g kp sv bf sd ip sgs mk td lv tl qs qc qw 0 0 wy de ca ln fa (sm5 + 1) pa tm (k + i) (ht (k + i)) hb_s hk36 (hgh (k + i) hk36)) q1882 q1884 q50 q100 q1885 rfl rfl (by decide +kernel) ⟨Nat.le_of_ble_eq_true rfl, Nat.le_of_ble_eq_true rfl⟩ rfl (hb_s.lt 0 (by decide)) (hb_s.2 0 (by decide)) rfl hl.1 rfl (Nat.le_of_ble_eq_true rfl) ⟨(Nat.le_of_ble_eq_true rfl), (Nat.le_of_ble_eq_true rfl)⟩ dX13_writeRow_49) hS (fun H locs hP hS => ?_)
            refine g_afv (g_runV S hI hP hS (k := 1) (As := [.int (nI (ht (k + i)))]) (rest := []) (mX13_writesNumber l b g kp sv bf sd ip sgs mk td lv tl qs qc qw 0 0 wy de ca ln fa (sm5 + 1) pa tm (ht (k + i)) hb_s (by omega) hht9 hss) q2214 q2216 q80 q100 q2217 rfl rfl (by decide +kernel) ⟨Nat.le_of_ble_eq_true rfl, Nat.le_of_ble_eq_true rfl⟩ rfl (hb_s.lt 0 (by decide)) (hb_s.2 0 (by decide)) rfl hl.1 rfl (Nat.le_of_ble_eq_true rfl) ⟨(Nat.le_of_ble_eq_true rfl), (Nat.le_of_ble_eq_true rfl)⟩ dX13_writeRow_52) hS (fun w1 H locs hq hP hS => ?_)
            obtain ⟨sgn, hTn, hsn, hb_n, hfn⟩ := hq
            have hfr := hfr.trans hfn (fun q hq => hq)
            refine lv_aload_n hx hb dX13_writeRow_55 rfl (lv_at hl 2 rfl) ?_
            refine g_get S hI hP uX13 rfl (fs := _) (hb_n.lt 0 (by decide)) (hb_n.2 0 (by decide)) 0 (by decide) q1787 rfl (v := .ref (ad (b + 1))) rfl dX13_writeRow_56 ?_
            refine g_bipush S 76 dX13_writeRow_59 (by decide +kernel) ?_
            refine lv_iload_n hx hb dX13_writeRow_61 rfl (lv_at hl 0 rfl) ?_
            refine g_iadd S dX13_writeRow_62 ?_
            refine g_iald S hI hP (f := fun j => nI (g j)) (hb_n.lt 1 (by decide)) (hb_n.2 1 (by decide)) (76 + (k + i)) (by omega) (by decide) dX13_writeRow_63 ?_
            rw [hgp (k + i) hk36]
            refine g_iconst S 1 dX13_writeRow_64 (by decide +kernel) ?_
            refine g_ne S (a := pg (k + i)) (b := 1) (by omega) (by omega) (tgt := 74) dX13_writeRow_65 (by decide) (fun hz0 => ?_) (fun hz0 => ?_)
            · have hc0 : cndT (decide (pg (k + i) = 1)) 94 = [] := by rw [decide_eq_false (show ¬ pg (k + i) = 1 by omega)]; rfl
              refine lv_aload_n hx hb dX13_writeRow_74 rfl (lv_at hl 2 rfl) ?_
              refine g_get S hI hP uX13 rfl (fs := _) (hb_n.lt 0 (by decide)) (hb_n.2 0 (by decide)) 0 (by decide) q1787 rfl (v := .ref (ad (b + 1))) rfl dX13_writeRow_75 ?_
              refine g_bipush S 112 dX13_writeRow_78 (by decide +kernel) ?_
              refine lv_iload_n hx hb dX13_writeRow_80 rfl (lv_at hl 0 rfl) ?_
              refine g_iadd S dX13_writeRow_81 ?_
              refine g_iald S hI hP (f := fun j => nI (g j)) (hb_n.lt 1 (by decide)) (hb_n.2 1 (by decide)) (112 + (k + i)) (by omega) (by decide) dX13_writeRow_82 ?_
              rw [hgt (k + i) hk36]
              refine g_ifle S (a := wt (k + i)) (by omega) (tgt := 92) dX13_writeRow_83 (by decide) (fun hz1 => ?_) (fun hz1 => ?_)
              · have hc1 : cndT (decide (0 < wt (k + i))) 126 = [] := by rw [decide_eq_false (show ¬ 0 < wt (k + i) by omega)]; rfl
                refine lv_aload_n hx hb dX13_writeRow_92 rfl (lv_at hl 2 rfl) ?_
                refine lv_iload_n hx hb dX13_writeRow_93 rfl (lv_at hl 0 rfl) ?_
                refine g_roi (g_runV S hI hP hS (k := 1) (As := [.int (nI (k + i))]) (rest := []) (mX13_isHole l b g kp sv bf sd ip sgn mk td lv tl qs qc qw 0 0 wy de ca ln fa ((sm5 + 1) + ndg (ht (k + i))) pa tm (k + i) (wr (k + i)) hb_n hk36 (hgw (k + i) hk36) hwr3) q1968 q1970 q60 q100 q1971 rfl rfl (by decide +kernel) ⟨Nat.le_of_ble_eq_true rfl, Nat.le_of_ble_eq_true rfl⟩ rfl (hb_n.lt 0 (by decide)) (hb_n.2 0 (by decide)) rfl hl.1 rfl (Nat.le_of_ble_eq_true rfl) ⟨(Nat.le_of_ble_eq_true rfl), (Nat.le_of_ble_eq_true rfl)⟩ dX13_writeRow_94) hS (fun H locs hP hS => ?_)
                refine g_beq S (b := decide (3 ≤ wr (k + i))) (tgt := 106) dX13_writeRow_97 (by decide) (fun hz2 => ?_) (fun hz2 => ?_)
                · have hc2 : cndT (decide (3 ≤ wr (k + i))) 111 = [] := by rw [hz2]; rfl
                  refine lv_aload_n hx hb dX13_writeRow_106 rfl (lv_at hl 2 rfl) ?_
                  refine lv_iload_n hx hb dX13_writeRow_107 rfl (lv_at hl 0 rfl) ?_
                  refine g_roi (g_runV S hI hP hS (k := 1) (As := [.int (nI (k + i))]) (rest := []) (mX13_mothOn l b g kp sv bf sd ip sgn mk td lv tl qs qc qw 0 0 wy de ca ln fa ((sm5 + 1) + ndg (ht (k + i))) pa tm ht dr pg wt wr mo mc ni po dn (k + i) hb_n hk36 hR hm hmo) q2063 q2065 q67 q100 q2066 rfl rfl (by decide +kernel) ⟨Nat.le_of_ble_eq_true rfl, Nat.le_of_ble_eq_true rfl⟩ rfl (hb_n.lt 0 (by decide)) (hb_n.2 0 (by decide)) rfl hl.1 rfl (Nat.le_of_ble_eq_true rfl) ⟨(Nat.le_of_ble_eq_true rfl), (Nat.le_of_ble_eq_true rfl)⟩ dX13_writeRow_108) hS (fun H locs hP hS => ?_)
                  refine g_oltZ S (o := fstN (fun j => mo j == k + i) mc) (fun j hj => by have := fstN_lt hj; omega) (tgt := 120) dX13_writeRow_111 (by decide) (fun hz3 => ?_) (fun hz3_k hz3 => ?_)
                  · have hc3 : cndT (fstN (fun j => mo j == k + i) mc).isSome 109 = [] := by rw [hz3]; rfl
                    refine lv_iinc (v := nI (k + i + 1)) (lv' := [(2, .int (nI (k + i + 1))), (1, .int (nI (rr))), (0, .ref (ad (b)))]) hx hb dX13_writeRow_120 hl (k := 0) rfl (g_inc _ 1 (by decide +kernel)) (by decide) rfl (fun ls hl => ?_)
                    refine lv_goto (tgt := 21) hx hb dX13_writeRow_123 (by decide) ?_
                    have hl : lv_has ls 3 [(2, .int (nI (6 * rr + (i + 1)))), (1, .int (nI (rr))), (0, .ref (ad (b)))] := by rw [show k + i + 1 = 6 * rr + (i + 1) by omega] at hl; exact hl
                    exact ih_loop5 (i + 1) (sgn) (((sm5 + 1) + ndg (ht (k + i)))) (by omega) (by omega) (by rw [hTn, hTs, hT5]; show _ = (rowT ht pg wt wr mo mc k) i ++ (cndT (decide (0 < i)) 32 ++ celT ht pg wt wr mo mc (k + i)); unfold celT; rw [hc8, hc0, hc1, hc2, hc3]; simp only [List.append_assoc, List.nil_append, List.append_nil, List.cons_append]) (hsn) _ _ _ hP hS hb_n hfr ls (lv_sub hl [0, 1, 2] rfl)
                  · have hc3 : cndT (fstN (fun j => mo j == k + i) mc).isSome 109 = [109] := by rw [hz3]; rfl
                    refine lv_aload_n hx hb dX13_writeRow_114 rfl (lv_at hl 2 rfl) ?_
                    refine g_bipush S 109 dX13_writeRow_115 (by decide +kernel) ?_
                    refine g_afv (g_runV S hI hP hS (k := 1) (As := [.int (nI (109))]) (rest := []) (mX13_writes l b g kp sv bf sd ip sgn mk td lv tl qs qc qw 0 0 wy de ca ln fa ((sm5 + 1) + ndg (ht (k + i))) pa tm 109 hb_n (by omega) (by decide) hsn) q2210 q2212 q79 q100 q2213 rfl rfl (by decide +kernel) ⟨Nat.le_of_ble_eq_true rfl, Nat.le_of_ble_eq_true rfl⟩ rfl (hb_n.lt 0 (by decide)) (hb_n.2 0 (by decide)) rfl hl.1 rfl (Nat.le_of_ble_eq_true rfl) ⟨(Nat.le_of_ble_eq_true rfl), (Nat.le_of_ble_eq_true rfl)⟩ dX13_writeRow_117) hS (fun w1 H locs hq hP hS => ?_)
                    obtain ⟨sgx3, hTx3, hsx3, hb_x3, hfx3⟩ := hq
                    have hfr := hfr.trans hfx3 (fun q hq => hq)
                    refine lv_iinc (v := nI (k + i + 1)) (lv' := [(2, .int (nI (k + i + 1))), (1, .int (nI (rr))), (0, .ref (ad (b)))]) hx hb dX13_writeRow_120 hl (k := 0) rfl (g_inc _ 1 (by decide +kernel)) (by decide) rfl (fun ls hl => ?_)
                    refine lv_goto (tgt := 21) hx hb dX13_writeRow_123 (by decide) ?_
                    have hl : lv_has ls 3 [(2, .int (nI (6 * rr + (i + 1)))), (1, .int (nI (rr))), (0, .ref (ad (b)))] := by rw [show k + i + 1 = 6 * rr + (i + 1) by omega] at hl; exact hl
                    exact ih_loop5 (i + 1) (sgx3) ((((sm5 + 1) + ndg (ht (k + i))) + 1)) (by omega) (by omega) (by rw [hTx3, hTn, hTs, hT5]; show _ = (rowT ht pg wt wr mo mc k) i ++ (cndT (decide (0 < i)) 32 ++ celT ht pg wt wr mo mc (k + i)); unfold celT; rw [hc8, hc0, hc1, hc2, hc3]; simp only [List.append_assoc, List.nil_append, List.append_nil, List.cons_append]) (hsx3) _ _ _ hP hS hb_x3 hfr ls (lv_sub hl [0, 1, 2] rfl)
                · have hc2 : cndT (decide (3 ≤ wr (k + i))) 111 = [111] := by rw [hz2]; rfl
                  refine lv_aload_n hx hb dX13_writeRow_100 rfl (lv_at hl 2 rfl) ?_
                  refine g_bipush S 111 dX13_writeRow_101 (by decide +kernel) ?_
                  refine g_afv (g_runV S hI hP hS (k := 1) (As := [.int (nI (111))]) (rest := []) (mX13_writes l b g kp sv bf sd ip sgn mk td lv tl qs qc qw 0 0 wy de ca ln fa ((sm5 + 1) + ndg (ht (k + i))) pa tm 111 hb_n (by omega) (by decide) hsn) q2210 q2212 q79 q100 q2213 rfl rfl (by decide +kernel) ⟨Nat.le_of_ble_eq_true rfl, Nat.le_of_ble_eq_true rfl⟩ rfl (hb_n.lt 0 (by decide)) (hb_n.2 0 (by decide)) rfl hl.1 rfl (Nat.le_of_ble_eq_true rfl) ⟨(Nat.le_of_ble_eq_true rfl), (Nat.le_of_ble_eq_true rfl)⟩ dX13_writeRow_103) hS (fun w1 H locs hq hP hS => ?_)
                  obtain ⟨sgx2, hTx2, hsx2, hb_x2, hfx2⟩ := hq
                  have hfr := hfr.trans hfx2 (fun q hq => hq)
                  refine lv_aload_n hx hb dX13_writeRow_106 rfl (lv_at hl 2 rfl) ?_
                  refine lv_iload_n hx hb dX13_writeRow_107 rfl (lv_at hl 0 rfl) ?_
                  refine g_roi (g_runV S hI hP hS (k := 1) (As := [.int (nI (k + i))]) (rest := []) (mX13_mothOn l b g kp sv bf sd ip sgx2 mk td lv tl qs qc qw 0 0 wy de ca ln fa (((sm5 + 1) + ndg (ht (k + i))) + 1) pa tm ht dr pg wt wr mo mc ni po dn (k + i) hb_x2 hk36 hR hm hmo) q2063 q2065 q67 q100 q2066 rfl rfl (by decide +kernel) ⟨Nat.le_of_ble_eq_true rfl, Nat.le_of_ble_eq_true rfl⟩ rfl (hb_x2.lt 0 (by decide)) (hb_x2.2 0 (by decide)) rfl hl.1 rfl (Nat.le_of_ble_eq_true rfl) ⟨(Nat.le_of_ble_eq_true rfl), (Nat.le_of_ble_eq_true rfl)⟩ dX13_writeRow_108) hS (fun H locs hP hS => ?_)
                  refine g_oltZ S (o := fstN (fun j => mo j == k + i) mc) (fun j hj => by have := fstN_lt hj; omega) (tgt := 120) dX13_writeRow_111 (by decide) (fun hz3 => ?_) (fun hz3_k hz3 => ?_)
                  · have hc3 : cndT (fstN (fun j => mo j == k + i) mc).isSome 109 = [] := by rw [hz3]; rfl
                    refine lv_iinc (v := nI (k + i + 1)) (lv' := [(2, .int (nI (k + i + 1))), (1, .int (nI (rr))), (0, .ref (ad (b)))]) hx hb dX13_writeRow_120 hl (k := 0) rfl (g_inc _ 1 (by decide +kernel)) (by decide) rfl (fun ls hl => ?_)
                    refine lv_goto (tgt := 21) hx hb dX13_writeRow_123 (by decide) ?_
                    have hl : lv_has ls 3 [(2, .int (nI (6 * rr + (i + 1)))), (1, .int (nI (rr))), (0, .ref (ad (b)))] := by rw [show k + i + 1 = 6 * rr + (i + 1) by omega] at hl; exact hl
                    exact ih_loop5 (i + 1) (sgx2) ((((sm5 + 1) + ndg (ht (k + i))) + 1)) (by omega) (by omega) (by rw [hTx2, hTn, hTs, hT5]; show _ = (rowT ht pg wt wr mo mc k) i ++ (cndT (decide (0 < i)) 32 ++ celT ht pg wt wr mo mc (k + i)); unfold celT; rw [hc8, hc0, hc1, hc2, hc3]; simp only [List.append_assoc, List.nil_append, List.append_nil, List.cons_append]) (hsx2) _ _ _ hP hS hb_x2 hfr ls (lv_sub hl [0, 1, 2] rfl)
                  · have hc3 : cndT (fstN (fun j => mo j == k + i) mc).isSome 109 = [109] := by rw [hz3]; rfl
                    refine lv_aload_n hx hb dX13_writeRow_114 rfl (lv_at hl 2 rfl) ?_
                    refine g_bipush S 109 dX13_writeRow_115 (by decide +kernel) ?_
                    refine g_afv (g_runV S hI hP hS (k := 1) (As := [.int (nI (109))]) (rest := []) (mX13_writes l b g kp sv bf sd ip sgx2 mk td lv tl qs qc qw 0 0 wy de ca ln fa (((sm5 + 1) + ndg (ht (k + i))) + 1) pa tm 109 hb_x2 (by omega) (by decide) hsx2) q2210 q2212 q79 q100 q2213 rfl rfl (by decide +kernel) ⟨Nat.le_of_ble_eq_true rfl, Nat.le_of_ble_eq_true rfl⟩ rfl (hb_x2.lt 0 (by decide)) (hb_x2.2 0 (by decide)) rfl hl.1 rfl (Nat.le_of_ble_eq_true rfl) ⟨(Nat.le_of_ble_eq_true rfl), (Nat.le_of_ble_eq_true rfl)⟩ dX13_writeRow_117) hS (fun w1 H locs hq hP hS => ?_)
                    obtain ⟨sgx3, hTx3, hsx3, hb_x3, hfx3⟩ := hq
                    have hfr := hfr.trans hfx3 (fun q hq => hq)
                    refine lv_iinc (v := nI (k + i + 1)) (lv' := [(2, .int (nI (k + i + 1))), (1, .int (nI (rr))), (0, .ref (ad (b)))]) hx hb dX13_writeRow_120 hl (k := 0) rfl (g_inc _ 1 (by decide +kernel)) (by decide) rfl (fun ls hl => ?_)
                    refine lv_goto (tgt := 21) hx hb dX13_writeRow_123 (by decide) ?_
                    have hl : lv_has ls 3 [(2, .int (nI (6 * rr + (i + 1)))), (1, .int (nI (rr))), (0, .ref (ad (b)))] := by rw [show k + i + 1 = 6 * rr + (i + 1) by omega] at hl; exact hl
                    exact ih_loop5 (i + 1) (sgx3) (((((sm5 + 1) + ndg (ht (k + i))) + 1) + 1)) (by omega) (by omega) (by rw [hTx3, hTx2, hTn, hTs, hT5]; show _ = (rowT ht pg wt wr mo mc k) i ++ (cndT (decide (0 < i)) 32 ++ celT ht pg wt wr mo mc (k + i)); unfold celT; rw [hc8, hc0, hc1, hc2, hc3]; simp only [List.append_assoc, List.nil_append, List.append_nil, List.cons_append]) (hsx3) _ _ _ hP hS hb_x3 hfr ls (lv_sub hl [0, 1, 2] rfl)
              · have hc1 : cndT (decide (0 < wt (k + i))) 126 = [126] := by rw [decide_eq_true (show 0 < wt (k + i) by omega)]; rfl
                refine lv_aload_n hx hb dX13_writeRow_86 rfl (lv_at hl 2 rfl) ?_
                refine g_bipush S 126 dX13_writeRow_87 (by decide +kernel) ?_
                refine g_afv (g_runV S hI hP hS (k := 1) (As := [.int (nI (126))]) (rest := []) (mX13_writes l b g kp sv bf sd ip sgn mk td lv tl qs qc qw 0 0 wy de ca ln fa ((sm5 + 1) + ndg (ht (k + i))) pa tm 126 hb_n (by omega) (by decide) hsn) q2210 q2212 q79 q100 q2213 rfl rfl (by decide +kernel) ⟨Nat.le_of_ble_eq_true rfl, Nat.le_of_ble_eq_true rfl⟩ rfl (hb_n.lt 0 (by decide)) (hb_n.2 0 (by decide)) rfl hl.1 rfl (Nat.le_of_ble_eq_true rfl) ⟨(Nat.le_of_ble_eq_true rfl), (Nat.le_of_ble_eq_true rfl)⟩ dX13_writeRow_89) hS (fun w1 H locs hq hP hS => ?_)
                obtain ⟨sgx1, hTx1, hsx1, hb_x1, hfx1⟩ := hq
                have hfr := hfr.trans hfx1 (fun q hq => hq)
                refine lv_aload_n hx hb dX13_writeRow_92 rfl (lv_at hl 2 rfl) ?_
                refine lv_iload_n hx hb dX13_writeRow_93 rfl (lv_at hl 0 rfl) ?_
                refine g_roi (g_runV S hI hP hS (k := 1) (As := [.int (nI (k + i))]) (rest := []) (mX13_isHole l b g kp sv bf sd ip sgx1 mk td lv tl qs qc qw 0 0 wy de ca ln fa (((sm5 + 1) + ndg (ht (k + i))) + 1) pa tm (k + i) (wr (k + i)) hb_x1 hk36 (hgw (k + i) hk36) hwr3) q1968 q1970 q60 q100 q1971 rfl rfl (by decide +kernel) ⟨Nat.le_of_ble_eq_true rfl, Nat.le_of_ble_eq_true rfl⟩ rfl (hb_x1.lt 0 (by decide)) (hb_x1.2 0 (by decide)) rfl hl.1 rfl (Nat.le_of_ble_eq_true rfl) ⟨(Nat.le_of_ble_eq_true rfl), (Nat.le_of_ble_eq_true rfl)⟩ dX13_writeRow_94) hS (fun H locs hP hS => ?_)
                refine g_beq S (b := decide (3 ≤ wr (k + i))) (tgt := 106) dX13_writeRow_97 (by decide) (fun hz2 => ?_) (fun hz2 => ?_)
                · have hc2 : cndT (decide (3 ≤ wr (k + i))) 111 = [] := by rw [hz2]; rfl
                  refine lv_aload_n hx hb dX13_writeRow_106 rfl (lv_at hl 2 rfl) ?_
                  refine lv_iload_n hx hb dX13_writeRow_107 rfl (lv_at hl 0 rfl) ?_
                  refine g_roi (g_runV S hI hP hS (k := 1) (As := [.int (nI (k + i))]) (rest := []) (mX13_mothOn l b g kp sv bf sd ip sgx1 mk td lv tl qs qc qw 0 0 wy de ca ln fa (((sm5 + 1) + ndg (ht (k + i))) + 1) pa tm ht dr pg wt wr mo mc ni po dn (k + i) hb_x1 hk36 hR hm hmo) q2063 q2065 q67 q100 q2066 rfl rfl (by decide +kernel) ⟨Nat.le_of_ble_eq_true rfl, Nat.le_of_ble_eq_true rfl⟩ rfl (hb_x1.lt 0 (by decide)) (hb_x1.2 0 (by decide)) rfl hl.1 rfl (Nat.le_of_ble_eq_true rfl) ⟨(Nat.le_of_ble_eq_true rfl), (Nat.le_of_ble_eq_true rfl)⟩ dX13_writeRow_108) hS (fun H locs hP hS => ?_)
                  refine g_oltZ S (o := fstN (fun j => mo j == k + i) mc) (fun j hj => by have := fstN_lt hj; omega) (tgt := 120) dX13_writeRow_111 (by decide) (fun hz3 => ?_) (fun hz3_k hz3 => ?_)
                  · have hc3 : cndT (fstN (fun j => mo j == k + i) mc).isSome 109 = [] := by rw [hz3]; rfl
                    refine lv_iinc (v := nI (k + i + 1)) (lv' := [(2, .int (nI (k + i + 1))), (1, .int (nI (rr))), (0, .ref (ad (b)))]) hx hb dX13_writeRow_120 hl (k := 0) rfl (g_inc _ 1 (by decide +kernel)) (by decide) rfl (fun ls hl => ?_)
                    refine lv_goto (tgt := 21) hx hb dX13_writeRow_123 (by decide) ?_
                    have hl : lv_has ls 3 [(2, .int (nI (6 * rr + (i + 1)))), (1, .int (nI (rr))), (0, .ref (ad (b)))] := by rw [show k + i + 1 = 6 * rr + (i + 1) by omega] at hl; exact hl
                    exact ih_loop5 (i + 1) (sgx1) ((((sm5 + 1) + ndg (ht (k + i))) + 1)) (by omega) (by omega) (by rw [hTx1, hTn, hTs, hT5]; show _ = (rowT ht pg wt wr mo mc k) i ++ (cndT (decide (0 < i)) 32 ++ celT ht pg wt wr mo mc (k + i)); unfold celT; rw [hc8, hc0, hc1, hc2, hc3]; simp only [List.append_assoc, List.nil_append, List.append_nil, List.cons_append]) (hsx1) _ _ _ hP hS hb_x1 hfr ls (lv_sub hl [0, 1, 2] rfl)
                  · have hc3 : cndT (fstN (fun j => mo j == k + i) mc).isSome 109 = [109] := by rw [hz3]; rfl
                    refine lv_aload_n hx hb dX13_writeRow_114 rfl (lv_at hl 2 rfl) ?_
                    refine g_bipush S 109 dX13_writeRow_115 (by decide +kernel) ?_
                    refine g_afv (g_runV S hI hP hS (k := 1) (As := [.int (nI (109))]) (rest := []) (mX13_writes l b g kp sv bf sd ip sgx1 mk td lv tl qs qc qw 0 0 wy de ca ln fa (((sm5 + 1) + ndg (ht (k + i))) + 1) pa tm 109 hb_x1 (by omega) (by decide) hsx1) q2210 q2212 q79 q100 q2213 rfl rfl (by decide +kernel) ⟨Nat.le_of_ble_eq_true rfl, Nat.le_of_ble_eq_true rfl⟩ rfl (hb_x1.lt 0 (by decide)) (hb_x1.2 0 (by decide)) rfl hl.1 rfl (Nat.le_of_ble_eq_true rfl) ⟨(Nat.le_of_ble_eq_true rfl), (Nat.le_of_ble_eq_true rfl)⟩ dX13_writeRow_117) hS (fun w1 H locs hq hP hS => ?_)
                    obtain ⟨sgx3, hTx3, hsx3, hb_x3, hfx3⟩ := hq
                    have hfr := hfr.trans hfx3 (fun q hq => hq)
                    refine lv_iinc (v := nI (k + i + 1)) (lv' := [(2, .int (nI (k + i + 1))), (1, .int (nI (rr))), (0, .ref (ad (b)))]) hx hb dX13_writeRow_120 hl (k := 0) rfl (g_inc _ 1 (by decide +kernel)) (by decide) rfl (fun ls hl => ?_)
                    refine lv_goto (tgt := 21) hx hb dX13_writeRow_123 (by decide) ?_
                    have hl : lv_has ls 3 [(2, .int (nI (6 * rr + (i + 1)))), (1, .int (nI (rr))), (0, .ref (ad (b)))] := by rw [show k + i + 1 = 6 * rr + (i + 1) by omega] at hl; exact hl
                    exact ih_loop5 (i + 1) (sgx3) (((((sm5 + 1) + ndg (ht (k + i))) + 1) + 1)) (by omega) (by omega) (by rw [hTx3, hTx1, hTn, hTs, hT5]; show _ = (rowT ht pg wt wr mo mc k) i ++ (cndT (decide (0 < i)) 32 ++ celT ht pg wt wr mo mc (k + i)); unfold celT; rw [hc8, hc0, hc1, hc2, hc3]; simp only [List.append_assoc, List.nil_append, List.append_nil, List.cons_append]) (hsx3) _ _ _ hP hS hb_x3 hfr ls (lv_sub hl [0, 1, 2] rfl)
                · have hc2 : cndT (decide (3 ≤ wr (k + i))) 111 = [111] := by rw [hz2]; rfl
                  refine lv_aload_n hx hb dX13_writeRow_100 rfl (lv_at hl 2 rfl) ?_
                  refine g_bipush S 111 dX13_writeRow_101 (by decide +kernel) ?_
                  refine g_afv (g_runV S hI hP hS (k := 1) (As := [.int (nI (111))]) (rest := []) (mX13_writes l b g kp sv bf sd ip sgx1 mk td lv tl qs qc qw 0 0 wy de ca ln fa (((sm5 + 1) + ndg (ht (k + i))) + 1) pa tm 111 hb_x1 (by omega) (by decide) hsx1) q2210 q2212 q79 q100 q2213 rfl rfl (by decide +kernel) ⟨Nat.le_of_ble_eq_true rfl, Nat.le_of_ble_eq_true rfl⟩ rfl (hb_x1.lt 0 (by decide)) (hb_x1.2 0 (by decide)) rfl hl.1 rfl (Nat.le_of_ble_eq_true rfl) ⟨(Nat.le_of_ble_eq_true rfl), (Nat.le_of_ble_eq_true rfl)⟩ dX13_writeRow_103) hS (fun w1 H locs hq hP hS => ?_)
                  obtain ⟨sgx2, hTx2, hsx2, hb_x2, hfx2⟩ := hq
                  have hfr := hfr.trans hfx2 (fun q hq => hq)
                  refine lv_aload_n hx hb dX13_writeRow_106 rfl (lv_at hl 2 rfl) ?_
                  refine lv_iload_n hx hb dX13_writeRow_107 rfl (lv_at hl 0 rfl) ?_
                  refine g_roi (g_runV S hI hP hS (k := 1) (As := [.int (nI (k + i))]) (rest := []) (mX13_mothOn l b g kp sv bf sd ip sgx2 mk td lv tl qs qc qw 0 0 wy de ca ln fa ((((sm5 + 1) + ndg (ht (k + i))) + 1) + 1) pa tm ht dr pg wt wr mo mc ni po dn (k + i) hb_x2 hk36 hR hm hmo) q2063 q2065 q67 q100 q2066 rfl rfl (by decide +kernel) ⟨Nat.le_of_ble_eq_true rfl, Nat.le_of_ble_eq_true rfl⟩ rfl (hb_x2.lt 0 (by decide)) (hb_x2.2 0 (by decide)) rfl hl.1 rfl (Nat.le_of_ble_eq_true rfl) ⟨(Nat.le_of_ble_eq_true rfl), (Nat.le_of_ble_eq_true rfl)⟩ dX13_writeRow_108) hS (fun H locs hP hS => ?_)
                  refine g_oltZ S (o := fstN (fun j => mo j == k + i) mc) (fun j hj => by have := fstN_lt hj; omega) (tgt := 120) dX13_writeRow_111 (by decide) (fun hz3 => ?_) (fun hz3_k hz3 => ?_)
                  · have hc3 : cndT (fstN (fun j => mo j == k + i) mc).isSome 109 = [] := by rw [hz3]; rfl
                    refine lv_iinc (v := nI (k + i + 1)) (lv' := [(2, .int (nI (k + i + 1))), (1, .int (nI (rr))), (0, .ref (ad (b)))]) hx hb dX13_writeRow_120 hl (k := 0) rfl (g_inc _ 1 (by decide +kernel)) (by decide) rfl (fun ls hl => ?_)
                    refine lv_goto (tgt := 21) hx hb dX13_writeRow_123 (by decide) ?_
                    have hl : lv_has ls 3 [(2, .int (nI (6 * rr + (i + 1)))), (1, .int (nI (rr))), (0, .ref (ad (b)))] := by rw [show k + i + 1 = 6 * rr + (i + 1) by omega] at hl; exact hl
                    exact ih_loop5 (i + 1) (sgx2) (((((sm5 + 1) + ndg (ht (k + i))) + 1) + 1)) (by omega) (by omega) (by rw [hTx2, hTx1, hTn, hTs, hT5]; show _ = (rowT ht pg wt wr mo mc k) i ++ (cndT (decide (0 < i)) 32 ++ celT ht pg wt wr mo mc (k + i)); unfold celT; rw [hc8, hc0, hc1, hc2, hc3]; simp only [List.append_assoc, List.nil_append, List.append_nil, List.cons_append]) (hsx2) _ _ _ hP hS hb_x2 hfr ls (lv_sub hl [0, 1, 2] rfl)
                  · have hc3 : cndT (fstN (fun j => mo j == k + i) mc).isSome 109 = [109] := by rw [hz3]; rfl
                    refine lv_aload_n hx hb dX13_writeRow_114 rfl (lv_at hl 2 rfl) ?_
                    refine g_bipush S 109 dX13_writeRow_115 (by decide +kernel) ?_
                    refine g_afv (g_runV S hI hP hS (k := 1) (As := [.int (nI (109))]) (rest := []) (mX13_writes l b g kp sv bf sd ip sgx2 mk td lv tl qs qc qw 0 0 wy de ca ln fa ((((sm5 + 1) + ndg (ht (k + i))) + 1) + 1) pa tm 109 hb_x2 (by omega) (by decide) hsx2) q2210 q2212 q79 q100 q2213 rfl rfl (by decide +kernel) ⟨Nat.le_of_ble_eq_true rfl, Nat.le_of_ble_eq_true rfl⟩ rfl (hb_x2.lt 0 (by decide)) (hb_x2.2 0 (by decide)) rfl hl.1 rfl (Nat.le_of_ble_eq_true rfl) ⟨(Nat.le_of_ble_eq_true rfl), (Nat.le_of_ble_eq_true rfl)⟩ dX13_writeRow_117) hS (fun w1 H locs hq hP hS => ?_)
                    obtain ⟨sgx3, hTx3, hsx3, hb_x3, hfx3⟩ := hq
                    have hfr := hfr.trans hfx3 (fun q hq => hq)
                    refine lv_iinc (v := nI (k + i + 1)) (lv' := [(2, .int (nI (k + i + 1))), (1, .int (nI (rr))), (0, .ref (ad (b)))]) hx hb dX13_writeRow_120 hl (k := 0) rfl (g_inc _ 1 (by decide +kernel)) (by decide) rfl (fun ls hl => ?_)
                    refine lv_goto (tgt := 21) hx hb dX13_writeRow_123 (by decide) ?_
                    have hl : lv_has ls 3 [(2, .int (nI (6 * rr + (i + 1)))), (1, .int (nI (rr))), (0, .ref (ad (b)))] := by rw [show k + i + 1 = 6 * rr + (i + 1) by omega] at hl; exact hl
                    exact ih_loop5 (i + 1) (sgx3) ((((((sm5 + 1) + ndg (ht (k + i))) + 1) + 1) + 1)) (by omega) (by omega) (by rw [hTx3, hTx2, hTx1, hTn, hTs, hT5]; show _ = (rowT ht pg wt wr mo mc k) i ++ (cndT (decide (0 < i)) 32 ++ celT ht pg wt wr mo mc (k + i)); unfold celT; rw [hc8, hc0, hc1, hc2, hc3]; simp only [List.append_assoc, List.nil_append, List.append_nil, List.cons_append]) (hsx3) _ _ _ hP hS hb_x3 hfr ls (lv_sub hl [0, 1, 2] rfl)
            · have hc0 : cndT (decide (pg (k + i) = 1)) 94 = [94] := by rw [decide_eq_true (show pg (k + i) = 1 by omega)]; rfl
              refine lv_aload_n hx hb dX13_writeRow_68 rfl (lv_at hl 2 rfl) ?_
              refine g_bipush S 94 dX13_writeRow_69 (by decide +kernel) ?_
              refine g_afv (g_runV S hI hP hS (k := 1) (As := [.int (nI (94))]) (rest := []) (mX13_writes l b g kp sv bf sd ip sgn mk td lv tl qs qc qw 0 0 wy de ca ln fa ((sm5 + 1) + ndg (ht (k + i))) pa tm 94 hb_n (by omega) (by decide) hsn) q2210 q2212 q79 q100 q2213 rfl rfl (by decide +kernel) ⟨Nat.le_of_ble_eq_true rfl, Nat.le_of_ble_eq_true rfl⟩ rfl (hb_n.lt 0 (by decide)) (hb_n.2 0 (by decide)) rfl hl.1 rfl (Nat.le_of_ble_eq_true rfl) ⟨(Nat.le_of_ble_eq_true rfl), (Nat.le_of_ble_eq_true rfl)⟩ dX13_writeRow_71) hS (fun w1 H locs hq hP hS => ?_)
              obtain ⟨sgx0, hTx0, hsx0, hb_x0, hfx0⟩ := hq
              have hfr := hfr.trans hfx0 (fun q hq => hq)
              refine lv_aload_n hx hb dX13_writeRow_74 rfl (lv_at hl 2 rfl) ?_
              refine g_get S hI hP uX13 rfl (fs := _) (hb_x0.lt 0 (by decide)) (hb_x0.2 0 (by decide)) 0 (by decide) q1787 rfl (v := .ref (ad (b + 1))) rfl dX13_writeRow_75 ?_
              refine g_bipush S 112 dX13_writeRow_78 (by decide +kernel) ?_
              refine lv_iload_n hx hb dX13_writeRow_80 rfl (lv_at hl 0 rfl) ?_
              refine g_iadd S dX13_writeRow_81 ?_
              refine g_iald S hI hP (f := fun j => nI (g j)) (hb_x0.lt 1 (by decide)) (hb_x0.2 1 (by decide)) (112 + (k + i)) (by omega) (by decide) dX13_writeRow_82 ?_
              rw [hgt (k + i) hk36]
              refine g_ifle S (a := wt (k + i)) (by omega) (tgt := 92) dX13_writeRow_83 (by decide) (fun hz1 => ?_) (fun hz1 => ?_)
              · have hc1 : cndT (decide (0 < wt (k + i))) 126 = [] := by rw [decide_eq_false (show ¬ 0 < wt (k + i) by omega)]; rfl
                refine lv_aload_n hx hb dX13_writeRow_92 rfl (lv_at hl 2 rfl) ?_
                refine lv_iload_n hx hb dX13_writeRow_93 rfl (lv_at hl 0 rfl) ?_
                refine g_roi (g_runV S hI hP hS (k := 1) (As := [.int (nI (k + i))]) (rest := []) (mX13_isHole l b g kp sv bf sd ip sgx0 mk td lv tl qs qc qw 0 0 wy de ca ln fa (((sm5 + 1) + ndg (ht (k + i))) + 1) pa tm (k + i) (wr (k + i)) hb_x0 hk36 (hgw (k + i) hk36) hwr3) q1968 q1970 q60 q100 q1971 rfl rfl (by decide +kernel) ⟨Nat.le_of_ble_eq_true rfl, Nat.le_of_ble_eq_true rfl⟩ rfl (hb_x0.lt 0 (by decide)) (hb_x0.2 0 (by decide)) rfl hl.1 rfl (Nat.le_of_ble_eq_true rfl) ⟨(Nat.le_of_ble_eq_true rfl), (Nat.le_of_ble_eq_true rfl)⟩ dX13_writeRow_94) hS (fun H locs hP hS => ?_)
                refine g_beq S (b := decide (3 ≤ wr (k + i))) (tgt := 106) dX13_writeRow_97 (by decide) (fun hz2 => ?_) (fun hz2 => ?_)
                · have hc2 : cndT (decide (3 ≤ wr (k + i))) 111 = [] := by rw [hz2]; rfl
                  refine lv_aload_n hx hb dX13_writeRow_106 rfl (lv_at hl 2 rfl) ?_
                  refine lv_iload_n hx hb dX13_writeRow_107 rfl (lv_at hl 0 rfl) ?_
                  refine g_roi (g_runV S hI hP hS (k := 1) (As := [.int (nI (k + i))]) (rest := []) (mX13_mothOn l b g kp sv bf sd ip sgx0 mk td lv tl qs qc qw 0 0 wy de ca ln fa (((sm5 + 1) + ndg (ht (k + i))) + 1) pa tm ht dr pg wt wr mo mc ni po dn (k + i) hb_x0 hk36 hR hm hmo) q2063 q2065 q67 q100 q2066 rfl rfl (by decide +kernel) ⟨Nat.le_of_ble_eq_true rfl, Nat.le_of_ble_eq_true rfl⟩ rfl (hb_x0.lt 0 (by decide)) (hb_x0.2 0 (by decide)) rfl hl.1 rfl (Nat.le_of_ble_eq_true rfl) ⟨(Nat.le_of_ble_eq_true rfl), (Nat.le_of_ble_eq_true rfl)⟩ dX13_writeRow_108) hS (fun H locs hP hS => ?_)
                  refine g_oltZ S (o := fstN (fun j => mo j == k + i) mc) (fun j hj => by have := fstN_lt hj; omega) (tgt := 120) dX13_writeRow_111 (by decide) (fun hz3 => ?_) (fun hz3_k hz3 => ?_)
                  · have hc3 : cndT (fstN (fun j => mo j == k + i) mc).isSome 109 = [] := by rw [hz3]; rfl
                    refine lv_iinc (v := nI (k + i + 1)) (lv' := [(2, .int (nI (k + i + 1))), (1, .int (nI (rr))), (0, .ref (ad (b)))]) hx hb dX13_writeRow_120 hl (k := 0) rfl (g_inc _ 1 (by decide +kernel)) (by decide) rfl (fun ls hl => ?_)
                    refine lv_goto (tgt := 21) hx hb dX13_writeRow_123 (by decide) ?_
                    have hl : lv_has ls 3 [(2, .int (nI (6 * rr + (i + 1)))), (1, .int (nI (rr))), (0, .ref (ad (b)))] := by rw [show k + i + 1 = 6 * rr + (i + 1) by omega] at hl; exact hl
                    exact ih_loop5 (i + 1) (sgx0) ((((sm5 + 1) + ndg (ht (k + i))) + 1)) (by omega) (by omega) (by rw [hTx0, hTn, hTs, hT5]; show _ = (rowT ht pg wt wr mo mc k) i ++ (cndT (decide (0 < i)) 32 ++ celT ht pg wt wr mo mc (k + i)); unfold celT; rw [hc8, hc0, hc1, hc2, hc3]; simp only [List.append_assoc, List.nil_append, List.append_nil, List.cons_append]) (hsx0) _ _ _ hP hS hb_x0 hfr ls (lv_sub hl [0, 1, 2] rfl)
                  · have hc3 : cndT (fstN (fun j => mo j == k + i) mc).isSome 109 = [109] := by rw [hz3]; rfl
                    refine lv_aload_n hx hb dX13_writeRow_114 rfl (lv_at hl 2 rfl) ?_
                    refine g_bipush S 109 dX13_writeRow_115 (by decide +kernel) ?_
                    refine g_afv (g_runV S hI hP hS (k := 1) (As := [.int (nI (109))]) (rest := []) (mX13_writes l b g kp sv bf sd ip sgx0 mk td lv tl qs qc qw 0 0 wy de ca ln fa (((sm5 + 1) + ndg (ht (k + i))) + 1) pa tm 109 hb_x0 (by omega) (by decide) hsx0) q2210 q2212 q79 q100 q2213 rfl rfl (by decide +kernel) ⟨Nat.le_of_ble_eq_true rfl, Nat.le_of_ble_eq_true rfl⟩ rfl (hb_x0.lt 0 (by decide)) (hb_x0.2 0 (by decide)) rfl hl.1 rfl (Nat.le_of_ble_eq_true rfl) ⟨(Nat.le_of_ble_eq_true rfl), (Nat.le_of_ble_eq_true rfl)⟩ dX13_writeRow_117) hS (fun w1 H locs hq hP hS => ?_)
                    obtain ⟨sgx3, hTx3, hsx3, hb_x3, hfx3⟩ := hq
                    have hfr := hfr.trans hfx3 (fun q hq => hq)
                    refine lv_iinc (v := nI (k + i + 1)) (lv' := [(2, .int (nI (k + i + 1))), (1, .int (nI (rr))), (0, .ref (ad (b)))]) hx hb dX13_writeRow_120 hl (k := 0) rfl (g_inc _ 1 (by decide +kernel)) (by decide) rfl (fun ls hl => ?_)
                    refine lv_goto (tgt := 21) hx hb dX13_writeRow_123 (by decide) ?_
                    have hl : lv_has ls 3 [(2, .int (nI (6 * rr + (i + 1)))), (1, .int (nI (rr))), (0, .ref (ad (b)))] := by rw [show k + i + 1 = 6 * rr + (i + 1) by omega] at hl; exact hl
                    exact ih_loop5 (i + 1) (sgx3) (((((sm5 + 1) + ndg (ht (k + i))) + 1) + 1)) (by omega) (by omega) (by rw [hTx3, hTx0, hTn, hTs, hT5]; show _ = (rowT ht pg wt wr mo mc k) i ++ (cndT (decide (0 < i)) 32 ++ celT ht pg wt wr mo mc (k + i)); unfold celT; rw [hc8, hc0, hc1, hc2, hc3]; simp only [List.append_assoc, List.nil_append, List.append_nil, List.cons_append]) (hsx3) _ _ _ hP hS hb_x3 hfr ls (lv_sub hl [0, 1, 2] rfl)
                · have hc2 : cndT (decide (3 ≤ wr (k + i))) 111 = [111] := by rw [hz2]; rfl
                  refine lv_aload_n hx hb dX13_writeRow_100 rfl (lv_at hl 2 rfl) ?_
                  refine g_bipush S 111 dX13_writeRow_101 (by decide +kernel) ?_
                  refine g_afv (g_runV S hI hP hS (k := 1) (As := [.int (nI (111))]) (rest := []) (mX13_writes l b g kp sv bf sd ip sgx0 mk td lv tl qs qc qw 0 0 wy de ca ln fa (((sm5 + 1) + ndg (ht (k + i))) + 1) pa tm 111 hb_x0 (by omega) (by decide) hsx0) q2210 q2212 q79 q100 q2213 rfl rfl (by decide +kernel) ⟨Nat.le_of_ble_eq_true rfl, Nat.le_of_ble_eq_true rfl⟩ rfl (hb_x0.lt 0 (by decide)) (hb_x0.2 0 (by decide)) rfl hl.1 rfl (Nat.le_of_ble_eq_true rfl) ⟨(Nat.le_of_ble_eq_true rfl), (Nat.le_of_ble_eq_true rfl)⟩ dX13_writeRow_103) hS (fun w1 H locs hq hP hS => ?_)
                  obtain ⟨sgx2, hTx2, hsx2, hb_x2, hfx2⟩ := hq
                  have hfr := hfr.trans hfx2 (fun q hq => hq)
                  refine lv_aload_n hx hb dX13_writeRow_106 rfl (lv_at hl 2 rfl) ?_
                  refine lv_iload_n hx hb dX13_writeRow_107 rfl (lv_at hl 0 rfl) ?_
                  refine g_roi (g_runV S hI hP hS (k := 1) (As := [.int (nI (k + i))]) (rest := []) (mX13_mothOn l b g kp sv bf sd ip sgx2 mk td lv tl qs qc qw 0 0 wy de ca ln fa ((((sm5 + 1) + ndg (ht (k + i))) + 1) + 1) pa tm ht dr pg wt wr mo mc ni po dn (k + i) hb_x2 hk36 hR hm hmo) q2063 q2065 q67 q100 q2066 rfl rfl (by decide +kernel) ⟨Nat.le_of_ble_eq_true rfl, Nat.le_of_ble_eq_true rfl⟩ rfl (hb_x2.lt 0 (by decide)) (hb_x2.2 0 (by decide)) rfl hl.1 rfl (Nat.le_of_ble_eq_true rfl) ⟨(Nat.le_of_ble_eq_true rfl), (Nat.le_of_ble_eq_true rfl)⟩ dX13_writeRow_108) hS (fun H locs hP hS => ?_)
                  refine g_oltZ S (o := fstN (fun j => mo j == k + i) mc) (fun j hj => by have := fstN_lt hj; omega) (tgt := 120) dX13_writeRow_111 (by decide) (fun hz3 => ?_) (fun hz3_k hz3 => ?_)
                  · have hc3 : cndT (fstN (fun j => mo j == k + i) mc).isSome 109 = [] := by rw [hz3]; rfl
                    refine lv_iinc (v := nI (k + i + 1)) (lv' := [(2, .int (nI (k + i + 1))), (1, .int (nI (rr))), (0, .ref (ad (b)))]) hx hb dX13_writeRow_120 hl (k := 0) rfl (g_inc _ 1 (by decide +kernel)) (by decide) rfl (fun ls hl => ?_)
                    refine lv_goto (tgt := 21) hx hb dX13_writeRow_123 (by decide) ?_
                    have hl : lv_has ls 3 [(2, .int (nI (6 * rr + (i + 1)))), (1, .int (nI (rr))), (0, .ref (ad (b)))] := by rw [show k + i + 1 = 6 * rr + (i + 1) by omega] at hl; exact hl
                    exact ih_loop5 (i + 1) (sgx2) (((((sm5 + 1) + ndg (ht (k + i))) + 1) + 1)) (by omega) (by omega) (by rw [hTx2, hTx0, hTn, hTs, hT5]; show _ = (rowT ht pg wt wr mo mc k) i ++ (cndT (decide (0 < i)) 32 ++ celT ht pg wt wr mo mc (k + i)); unfold celT; rw [hc8, hc0, hc1, hc2, hc3]; simp only [List.append_assoc, List.nil_append, List.append_nil, List.cons_append]) (hsx2) _ _ _ hP hS hb_x2 hfr ls (lv_sub hl [0, 1, 2] rfl)
                  · have hc3 : cndT (fstN (fun j => mo j == k + i) mc).isSome 109 = [109] := by rw [hz3]; rfl
                    refine lv_aload_n hx hb dX13_writeRow_114 rfl (lv_at hl 2 rfl) ?_
                    refine g_bipush S 109 dX13_writeRow_115 (by decide +kernel) ?_
                    refine g_afv (g_runV S hI hP hS (k := 1) (As := [.int (nI (109))]) (rest := []) (mX13_writes l b g kp sv bf sd ip sgx2 mk td lv tl qs qc qw 0 0 wy de ca ln fa ((((sm5 + 1) + ndg (ht (k + i))) + 1) + 1) pa tm 109 hb_x2 (by omega) (by decide) hsx2) q2210 q2212 q79 q100 q2213 rfl rfl (by decide +kernel) ⟨Nat.le_of_ble_eq_true rfl, Nat.le_of_ble_eq_true rfl⟩ rfl (hb_x2.lt 0 (by decide)) (hb_x2.2 0 (by decide)) rfl hl.1 rfl (Nat.le_of_ble_eq_true rfl) ⟨(Nat.le_of_ble_eq_true rfl), (Nat.le_of_ble_eq_true rfl)⟩ dX13_writeRow_117) hS (fun w1 H locs hq hP hS => ?_)
                    obtain ⟨sgx3, hTx3, hsx3, hb_x3, hfx3⟩ := hq
                    have hfr := hfr.trans hfx3 (fun q hq => hq)
                    refine lv_iinc (v := nI (k + i + 1)) (lv' := [(2, .int (nI (k + i + 1))), (1, .int (nI (rr))), (0, .ref (ad (b)))]) hx hb dX13_writeRow_120 hl (k := 0) rfl (g_inc _ 1 (by decide +kernel)) (by decide) rfl (fun ls hl => ?_)
                    refine lv_goto (tgt := 21) hx hb dX13_writeRow_123 (by decide) ?_
                    have hl : lv_has ls 3 [(2, .int (nI (6 * rr + (i + 1)))), (1, .int (nI (rr))), (0, .ref (ad (b)))] := by rw [show k + i + 1 = 6 * rr + (i + 1) by omega] at hl; exact hl
                    exact ih_loop5 (i + 1) (sgx3) ((((((sm5 + 1) + ndg (ht (k + i))) + 1) + 1) + 1)) (by omega) (by omega) (by rw [hTx3, hTx2, hTx0, hTn, hTs, hT5]; show _ = (rowT ht pg wt wr mo mc k) i ++ (cndT (decide (0 < i)) 32 ++ celT ht pg wt wr mo mc (k + i)); unfold celT; rw [hc8, hc0, hc1, hc2, hc3]; simp only [List.append_assoc, List.nil_append, List.append_nil, List.cons_append]) (hsx3) _ _ _ hP hS hb_x3 hfr ls (lv_sub hl [0, 1, 2] rfl)
              · have hc1 : cndT (decide (0 < wt (k + i))) 126 = [126] := by rw [decide_eq_true (show 0 < wt (k + i) by omega)]; rfl
                refine lv_aload_n hx hb dX13_writeRow_86 rfl (lv_at hl 2 rfl) ?_
                refine g_bipush S 126 dX13_writeRow_87 (by decide +kernel) ?_
                refine g_afv (g_runV S hI hP hS (k := 1) (As := [.int (nI (126))]) (rest := []) (mX13_writes l b g kp sv bf sd ip sgx0 mk td lv tl qs qc qw 0 0 wy de ca ln fa (((sm5 + 1) + ndg (ht (k + i))) + 1) pa tm 126 hb_x0 (by omega) (by decide) hsx0) q2210 q2212 q79 q100 q2213 rfl rfl (by decide +kernel) ⟨Nat.le_of_ble_eq_true rfl, Nat.le_of_ble_eq_true rfl⟩ rfl (hb_x0.lt 0 (by decide)) (hb_x0.2 0 (by decide)) rfl hl.1 rfl (Nat.le_of_ble_eq_true rfl) ⟨(Nat.le_of_ble_eq_true rfl), (Nat.le_of_ble_eq_true rfl)⟩ dX13_writeRow_89) hS (fun w1 H locs hq hP hS => ?_)
                obtain ⟨sgx1, hTx1, hsx1, hb_x1, hfx1⟩ := hq
                have hfr := hfr.trans hfx1 (fun q hq => hq)
                refine lv_aload_n hx hb dX13_writeRow_92 rfl (lv_at hl 2 rfl) ?_
                refine lv_iload_n hx hb dX13_writeRow_93 rfl (lv_at hl 0 rfl) ?_
                refine g_roi (g_runV S hI hP hS (k := 1) (As := [.int (nI (k + i))]) (rest := []) (mX13_isHole l b g kp sv bf sd ip sgx1 mk td lv tl qs qc qw 0 0 wy de ca ln fa ((((sm5 + 1) + ndg (ht (k + i))) + 1) + 1) pa tm (k + i) (wr (k + i)) hb_x1 hk36 (hgw (k + i) hk36) hwr3) q1968 q1970 q60 q100 q1971 rfl rfl (by decide +kernel) ⟨Nat.le_of_ble_eq_true rfl, Nat.le_of_ble_eq_true rfl⟩ rfl (hb_x1.lt 0 (by decide)) (hb_x1.2 0 (by decide)) rfl hl.1 rfl (Nat.le_of_ble_eq_true rfl) ⟨(Nat.le_of_ble_eq_true rfl), (Nat.le_of_ble_eq_true rfl)⟩ dX13_writeRow_94) hS (fun H locs hP hS => ?_)
                refine g_beq S (b := decide (3 ≤ wr (k + i))) (tgt := 106) dX13_writeRow_97 (by decide) (fun hz2 => ?_) (fun hz2 => ?_)
                · have hc2 : cndT (decide (3 ≤ wr (k + i))) 111 = [] := by rw [hz2]; rfl
                  refine lv_aload_n hx hb dX13_writeRow_106 rfl (lv_at hl 2 rfl) ?_
                  refine lv_iload_n hx hb dX13_writeRow_107 rfl (lv_at hl 0 rfl) ?_
                  refine g_roi (g_runV S hI hP hS (k := 1) (As := [.int (nI (k + i))]) (rest := []) (mX13_mothOn l b g kp sv bf sd ip sgx1 mk td lv tl qs qc qw 0 0 wy de ca ln fa ((((sm5 + 1) + ndg (ht (k + i))) + 1) + 1) pa tm ht dr pg wt wr mo mc ni po dn (k + i) hb_x1 hk36 hR hm hmo) q2063 q2065 q67 q100 q2066 rfl rfl (by decide +kernel) ⟨Nat.le_of_ble_eq_true rfl, Nat.le_of_ble_eq_true rfl⟩ rfl (hb_x1.lt 0 (by decide)) (hb_x1.2 0 (by decide)) rfl hl.1 rfl (Nat.le_of_ble_eq_true rfl) ⟨(Nat.le_of_ble_eq_true rfl), (Nat.le_of_ble_eq_true rfl)⟩ dX13_writeRow_108) hS (fun H locs hP hS => ?_)
                  refine g_oltZ S (o := fstN (fun j => mo j == k + i) mc) (fun j hj => by have := fstN_lt hj; omega) (tgt := 120) dX13_writeRow_111 (by decide) (fun hz3 => ?_) (fun hz3_k hz3 => ?_)
                  · have hc3 : cndT (fstN (fun j => mo j == k + i) mc).isSome 109 = [] := by rw [hz3]; rfl
                    refine lv_iinc (v := nI (k + i + 1)) (lv' := [(2, .int (nI (k + i + 1))), (1, .int (nI (rr))), (0, .ref (ad (b)))]) hx hb dX13_writeRow_120 hl (k := 0) rfl (g_inc _ 1 (by decide +kernel)) (by decide) rfl (fun ls hl => ?_)
                    refine lv_goto (tgt := 21) hx hb dX13_writeRow_123 (by decide) ?_
                    have hl : lv_has ls 3 [(2, .int (nI (6 * rr + (i + 1)))), (1, .int (nI (rr))), (0, .ref (ad (b)))] := by rw [show k + i + 1 = 6 * rr + (i + 1) by omega] at hl; exact hl
                    exact ih_loop5 (i + 1) (sgx1) (((((sm5 + 1) + ndg (ht (k + i))) + 1) + 1)) (by omega) (by omega) (by rw [hTx1, hTx0, hTn, hTs, hT5]; show _ = (rowT ht pg wt wr mo mc k) i ++ (cndT (decide (0 < i)) 32 ++ celT ht pg wt wr mo mc (k + i)); unfold celT; rw [hc8, hc0, hc1, hc2, hc3]; simp only [List.append_assoc, List.nil_append, List.append_nil, List.cons_append]) (hsx1) _ _ _ hP hS hb_x1 hfr ls (lv_sub hl [0, 1, 2] rfl)
                  · have hc3 : cndT (fstN (fun j => mo j == k + i) mc).isSome 109 = [109] := by rw [hz3]; rfl
                    refine lv_aload_n hx hb dX13_writeRow_114 rfl (lv_at hl 2 rfl) ?_
                    refine g_bipush S 109 dX13_writeRow_115 (by decide +kernel) ?_
                    refine g_afv (g_runV S hI hP hS (k := 1) (As := [.int (nI (109))]) (rest := []) (mX13_writes l b g kp sv bf sd ip sgx1 mk td lv tl qs qc qw 0 0 wy de ca ln fa ((((sm5 + 1) + ndg (ht (k + i))) + 1) + 1) pa tm 109 hb_x1 (by omega) (by decide) hsx1) q2210 q2212 q79 q100 q2213 rfl rfl (by decide +kernel) ⟨Nat.le_of_ble_eq_true rfl, Nat.le_of_ble_eq_true rfl⟩ rfl (hb_x1.lt 0 (by decide)) (hb_x1.2 0 (by decide)) rfl hl.1 rfl (Nat.le_of_ble_eq_true rfl) ⟨(Nat.le_of_ble_eq_true rfl), (Nat.le_of_ble_eq_true rfl)⟩ dX13_writeRow_117) hS (fun w1 H locs hq hP hS => ?_)
                    obtain ⟨sgx3, hTx3, hsx3, hb_x3, hfx3⟩ := hq
                    have hfr := hfr.trans hfx3 (fun q hq => hq)
                    refine lv_iinc (v := nI (k + i + 1)) (lv' := [(2, .int (nI (k + i + 1))), (1, .int (nI (rr))), (0, .ref (ad (b)))]) hx hb dX13_writeRow_120 hl (k := 0) rfl (g_inc _ 1 (by decide +kernel)) (by decide) rfl (fun ls hl => ?_)
                    refine lv_goto (tgt := 21) hx hb dX13_writeRow_123 (by decide) ?_
                    have hl : lv_has ls 3 [(2, .int (nI (6 * rr + (i + 1)))), (1, .int (nI (rr))), (0, .ref (ad (b)))] := by rw [show k + i + 1 = 6 * rr + (i + 1) by omega] at hl; exact hl
                    exact ih_loop5 (i + 1) (sgx3) ((((((sm5 + 1) + ndg (ht (k + i))) + 1) + 1) + 1)) (by omega) (by omega) (by rw [hTx3, hTx1, hTx0, hTn, hTs, hT5]; show _ = (rowT ht pg wt wr mo mc k) i ++ (cndT (decide (0 < i)) 32 ++ celT ht pg wt wr mo mc (k + i)); unfold celT; rw [hc8, hc0, hc1, hc2, hc3]; simp only [List.append_assoc, List.nil_append, List.append_nil, List.cons_append]) (hsx3) _ _ _ hP hS hb_x3 hfr ls (lv_sub hl [0, 1, 2] rfl)
                · have hc2 : cndT (decide (3 ≤ wr (k + i))) 111 = [111] := by rw [hz2]; rfl
                  refine lv_aload_n hx hb dX13_writeRow_100 rfl (lv_at hl 2 rfl) ?_
                  refine g_bipush S 111 dX13_writeRow_101 (by decide +kernel) ?_
                  refine g_afv (g_runV S hI hP hS (k := 1) (As := [.int (nI (111))]) (rest := []) (mX13_writes l b g kp sv bf sd ip sgx1 mk td lv tl qs qc qw 0 0 wy de ca ln fa ((((sm5 + 1) + ndg (ht (k + i))) + 1) + 1) pa tm 111 hb_x1 (by omega) (by decide) hsx1) q2210 q2212 q79 q100 q2213 rfl rfl (by decide +kernel) ⟨Nat.le_of_ble_eq_true rfl, Nat.le_of_ble_eq_true rfl⟩ rfl (hb_x1.lt 0 (by decide)) (hb_x1.2 0 (by decide)) rfl hl.1 rfl (Nat.le_of_ble_eq_true rfl) ⟨(Nat.le_of_ble_eq_true rfl), (Nat.le_of_ble_eq_true rfl)⟩ dX13_writeRow_103) hS (fun w1 H locs hq hP hS => ?_)
                  obtain ⟨sgx2, hTx2, hsx2, hb_x2, hfx2⟩ := hq
                  have hfr := hfr.trans hfx2 (fun q hq => hq)
                  refine lv_aload_n hx hb dX13_writeRow_106 rfl (lv_at hl 2 rfl) ?_
                  refine lv_iload_n hx hb dX13_writeRow_107 rfl (lv_at hl 0 rfl) ?_
                  refine g_roi (g_runV S hI hP hS (k := 1) (As := [.int (nI (k + i))]) (rest := []) (mX13_mothOn l b g kp sv bf sd ip sgx2 mk td lv tl qs qc qw 0 0 wy de ca ln fa (((((sm5 + 1) + ndg (ht (k + i))) + 1) + 1) + 1) pa tm ht dr pg wt wr mo mc ni po dn (k + i) hb_x2 hk36 hR hm hmo) q2063 q2065 q67 q100 q2066 rfl rfl (by decide +kernel) ⟨Nat.le_of_ble_eq_true rfl, Nat.le_of_ble_eq_true rfl⟩ rfl (hb_x2.lt 0 (by decide)) (hb_x2.2 0 (by decide)) rfl hl.1 rfl (Nat.le_of_ble_eq_true rfl) ⟨(Nat.le_of_ble_eq_true rfl), (Nat.le_of_ble_eq_true rfl)⟩ dX13_writeRow_108) hS (fun H locs hP hS => ?_)
                  refine g_oltZ S (o := fstN (fun j => mo j == k + i) mc) (fun j hj => by have := fstN_lt hj; omega) (tgt := 120) dX13_writeRow_111 (by decide) (fun hz3 => ?_) (fun hz3_k hz3 => ?_)
                  · have hc3 : cndT (fstN (fun j => mo j == k + i) mc).isSome 109 = [] := by rw [hz3]; rfl
                    refine lv_iinc (v := nI (k + i + 1)) (lv' := [(2, .int (nI (k + i + 1))), (1, .int (nI (rr))), (0, .ref (ad (b)))]) hx hb dX13_writeRow_120 hl (k := 0) rfl (g_inc _ 1 (by decide +kernel)) (by decide) rfl (fun ls hl => ?_)
                    refine lv_goto (tgt := 21) hx hb dX13_writeRow_123 (by decide) ?_
                    have hl : lv_has ls 3 [(2, .int (nI (6 * rr + (i + 1)))), (1, .int (nI (rr))), (0, .ref (ad (b)))] := by rw [show k + i + 1 = 6 * rr + (i + 1) by omega] at hl; exact hl
                    exact ih_loop5 (i + 1) (sgx2) ((((((sm5 + 1) + ndg (ht (k + i))) + 1) + 1) + 1)) (by omega) (by omega) (by rw [hTx2, hTx1, hTx0, hTn, hTs, hT5]; show _ = (rowT ht pg wt wr mo mc k) i ++ (cndT (decide (0 < i)) 32 ++ celT ht pg wt wr mo mc (k + i)); unfold celT; rw [hc8, hc0, hc1, hc2, hc3]; simp only [List.append_assoc, List.nil_append, List.append_nil, List.cons_append]) (hsx2) _ _ _ hP hS hb_x2 hfr ls (lv_sub hl [0, 1, 2] rfl)
                  · have hc3 : cndT (fstN (fun j => mo j == k + i) mc).isSome 109 = [109] := by rw [hz3]; rfl
                    refine lv_aload_n hx hb dX13_writeRow_114 rfl (lv_at hl 2 rfl) ?_
                    refine g_bipush S 109 dX13_writeRow_115 (by decide +kernel) ?_
                    refine g_afv (g_runV S hI hP hS (k := 1) (As := [.int (nI (109))]) (rest := []) (mX13_writes l b g kp sv bf sd ip sgx2 mk td lv tl qs qc qw 0 0 wy de ca ln fa (((((sm5 + 1) + ndg (ht (k + i))) + 1) + 1) + 1) pa tm 109 hb_x2 (by omega) (by decide) hsx2) q2210 q2212 q79 q100 q2213 rfl rfl (by decide +kernel) ⟨Nat.le_of_ble_eq_true rfl, Nat.le_of_ble_eq_true rfl⟩ rfl (hb_x2.lt 0 (by decide)) (hb_x2.2 0 (by decide)) rfl hl.1 rfl (Nat.le_of_ble_eq_true rfl) ⟨(Nat.le_of_ble_eq_true rfl), (Nat.le_of_ble_eq_true rfl)⟩ dX13_writeRow_117) hS (fun w1 H locs hq hP hS => ?_)
                    obtain ⟨sgx3, hTx3, hsx3, hb_x3, hfx3⟩ := hq
                    have hfr := hfr.trans hfx3 (fun q hq => hq)
                    refine lv_iinc (v := nI (k + i + 1)) (lv' := [(2, .int (nI (k + i + 1))), (1, .int (nI (rr))), (0, .ref (ad (b)))]) hx hb dX13_writeRow_120 hl (k := 0) rfl (g_inc _ 1 (by decide +kernel)) (by decide) rfl (fun ls hl => ?_)
                    refine lv_goto (tgt := 21) hx hb dX13_writeRow_123 (by decide) ?_
                    have hl : lv_has ls 3 [(2, .int (nI (6 * rr + (i + 1)))), (1, .int (nI (rr))), (0, .ref (ad (b)))] := by rw [show k + i + 1 = 6 * rr + (i + 1) by omega] at hl; exact hl
                    exact ih_loop5 (i + 1) (sgx3) (((((((sm5 + 1) + ndg (ht (k + i))) + 1) + 1) + 1) + 1)) (by omega) (by omega) (by rw [hTx3, hTx2, hTx1, hTx0, hTn, hTs, hT5]; show _ = (rowT ht pg wt wr mo mc k) i ++ (cndT (decide (0 < i)) 32 ++ celT ht pg wt wr mo mc (k + i)); unfold celT; rw [hc8, hc0, hc1, hc2, hc3]; simp only [List.append_assoc, List.nil_append, List.append_nil, List.cons_append]) (hsx3) _ _ _ hP hS hb_x3 hfr ls (lv_sub hl [0, 1, 2] rfl)
    have hT0 : lnT sg 0 = (rowT ht pg wt wr mo mc k) 0 := rfl
    exact loop5 (7 - (0) + 1) (0) (sg) (0) (Nat.lt_succ_self _) (by omega) (rfl) (hsg) _ _ _ hP hS hb4 hfr ls (lv_sub hl [0, 2, 1] rfl)
  · have hcn := Option.isNone_iff_eq_none.mp h1
    rw [if_neg (show ¬ (cellV v (nI 0)).isSome = true by rw [hcn]; decide)] at hb1
    (try rw [if_neg (show ¬ (cellV v (nI 0)).isSome = true by rw [hcn]; decide)] at hP)
    (try rw [if_neg (show ¬ (cellV v (nI 0)).isSome = true by rw [hcn]; decide)] at hfr)
    refine g_iconst S 0 dX13_writeRow_9 (by decide +kernel) ?_
    exact g_iret S hr hlocks hP hS (⟨Or.inr ⟨hcn, hb1⟩, hfr⟩) (fun _ _ => rfl) (Nat.le_of_ble_eq_true rfl) (Nat.le_of_ble_eq_true rfl) dX13_writeRow_10
