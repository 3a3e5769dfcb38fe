/-! THE MODEL'S READS: simple ones -/
theorem dif_comm (a b : Nat) : dif a b = dif b a := by
  unfold dif
  by_cases h : a ≤ b
  · by_cases g : b ≤ a
    · rw [if_pos h, if_pos g]; omega
    · rw [if_pos h, if_neg g]
  · rw [if_neg h, if_pos (by omega)]
theorem night_cnt {ht wr mo : Nat → Nat} {mc : Nat} : ∀ n, (night ht wr mo mc n).2.2 ≤ n
  | 0 => Nat.le_refl _
  | n + 1 => by
    have h := night_cnt (ht := ht) (wr := wr) (mo := mo) (mc := mc) n
    simp only [night]
    split <;> omega
theorem mRg.cpB {g g1 ht pg wt wr mo : Nat → Nat} {mc ni po dn : Nat} (h : mRg g ht pg wt wr mo mc ni po dn) (hm : mc ≤ 4) (e : ∀ j, j < 152 → g1 j = g j) : mRg g1 ht pg wt wr mo mc ni po dn := by
  obtain ⟨h1, h2, h3, h4, h5, h6, h7, h8, h9⟩ := h
  exact ⟨fun j hj => by rw [e _ (by omega)]; exact h1 j hj, fun j hj => by rw [e _ (by omega)]; exact h2 j hj, fun j hj => by rw [e _ (by omega)]; exact h3 j hj, fun j hj => by rw [e _ (by omega)]; exact h4 j hj, fun j hj => by rw [e _ (by omega)]; exact h5 j hj, by rw [e _ (by omega)]; exact h6, by rw [e _ (by omega)]; exact h7, by rw [e _ (by omega)]; exact h8, by rw [e _ (by omega)]; exact h9⟩
theorem cpA_at {f g : Nat → Nat} {a o n j : Nat} (h : j < n) : cpA f a g o n (o + j) = f (a + j) := by
  unfold cpA; rw [if_pos (by omega), show o + j - o = j by omega]
theorem cpA_at0 {f g : Nat → Nat} {a n j : Nat} (h : j < n) : cpA f a g 0 n j = f (a + j) := by
  have := cpA_at (f := f) (g := g) (a := a) (o := 0) h
  rwa [Nat.zero_add] at this
theorem in_M2 {v : Int32} {mc : Nat} (hm : mc < 2 ^ 30) : decide (nI 0 ≤ v ∧ v ≤ nI mc - nI 1) = (inR v mc).isSome := by
  cases mc with
  | zero => exact in_M (by decide)
  | succ k => rw [show nI (k + 1) - nI 1 = nI k by rw [pk_sub (by omega)]; rfl]; exact in_inR (by omega)
set_option maxHeartbeats 4000000 in
set_option maxRecDepth 100000 in
/-- height -/
theorem mX13_height (l : Launch) {E : gE} {ad : Nat → Nat} {N : Nat} {w : Nat → va_E} (b : Nat) (g kp sv bf sd ip sg mk td lv tl : Nat → Nat) (qs qc qw qd co wy : Nat) (de : Int32) (ca ln : Nat) (fa : Option Nat) (sm pa tm : Nat) (ht dr pg wt wr mo : Nat → Nat) (mc ni po dn : Nat) (x y : Int32) (hb_m : bkP N w b 12 (MDC E ad b g kp sv bf sd ip sg mk td lv tl qs qc qw qd co wy de ca ln fa sm pa tm)) (hR : mRg g ht pg wt wr mo mc ni po dn)  : gMi l yX13_height (lw_ws yX13_height cX13_height 3 (some .int)) ({ frames := 3, cells := 0, slots := 0, locals := 65 } : Room) E ad N w [.ref (ad (b)), .int (x), .int (y)] (fun r w' => ((∃ k, cellV x y = some k ∧ r = nI (ht k) ∧ bkP N w' b 12 (MDC E ad b g kp sv bf sd ip sg mk td lv tl qs qc qw 0 0 wy de ca ln fa sm pa tm)) ∨ (cellV x y = none ∧ bkP N w' b 12 (MDC E ad b g kp sv bf sd ip sg mk td lv tl qs qc qw 0 1 wy de ca ln fa sm pa tm))) ∧ gFr (gIn b 12) w w') 0 0 := by
  refine Met.ofW (cc := cX13_height) (maxL := 3) (ret := (some .int)) (by decide) rfl ?_
  intro p e s m args below meth cd s₁ B hml hv
  obtain ⟨rfl, hI, hP⟩ := hv
  obtain ⟨S, hr, hlocks⟩ := gPre (ws := []) B hml (C := RX13) rfl
  have hx := S.1
  have hb := S.2.1
  have hS : va_S (gA E) s.heap s.heap [] := va_S.rf
  have hfr : gFr (gIn b 12) w w := gFr.rf
  have hl := lv_entry ([.ref (ad (b)), .int (x), .int (y)]) (n := 3) (Nat.le_of_ble_eq_true rfl)
  rw [lg_entry_eq]
  generalize (lg_sl ([.ref (ad (b)), .int (x), .int (y)]) ++ List.replicate (3 - (lg_sl ([.ref (ad (b)), .int (x), .int (y)])).length) Slot.unset).toArray = ls at hl ⊢
  have hl : lv_has ls 3 [(0, .ref (ad (b))), (1, .int (x)), (2, .int (y))] := hl
  obtain ⟨hgh, hgw, hgp, hgt, hgm, hg3, hg0, hg1, hg2⟩ := id hR
  refine lv_aload_n hx hb dX13_height_0 rfl (lv_at hl 0 rfl) ?_
  refine lv_iload_n hx hb dX13_height_1 rfl (lv_at hl 1 rfl) ?_
  refine lv_iload_n hx hb dX13_height_2 rfl (lv_at hl 2 rfl) ?_
  refine g_afi (g_runV S hI hP hS (k := 2) (As := [.int (x), .int (y)]) (rest := []) (mX13_isNone l b g kp sv bf sd ip sg mk td lv tl qs qc qw qd co wy de ca ln fa sm pa tm x y hb_m ) q1868 q1870 q48 q100 q1871 rfl rfl (by decide +kernel) ⟨Nat.le_of_ble_eq_true rfl, Nat.le_of_ble_eq_true rfl⟩ rfl (hb_m.lt 0 (by decide)) (hb_m.2 0 (by decide)) rfl hl.1 rfl (Nat.le_of_ble_eq_true rfl) ⟨(Nat.le_of_ble_eq_true rfl), (Nat.le_of_ble_eq_true rfl)⟩ dX13_height_3) hS (fun rz w1 H locs hq hP hS => ?_)
  obtain ⟨hr3, hb1, hf2⟩ := hq
  rw [hr3]
  have hfr := hfr.trans hf2 (fun q hq => by (try simp only [gIn] at hq ⊢); (try dsimp only at hq ⊢); omega)
  refine g_beq S (b := (cellV x y).isNone) (tgt := 13) dX13_height_6 (by decide) (fun h1 => ?_) (fun h1 => ?_)
  · obtain ⟨k, hck⟩ : ∃ k, cellV x y = some k := by cases q : cellV x y with | none => (rw [q] at h1; cases h1) | some a => exact ⟨a, rfl⟩
    have hk36 := cellV_lt hck
    rw [if_pos (show (cellV x y).isSome = true by rw [hck]; rfl)] at hb1
    (try rw [if_pos (show (cellV x y).isSome = true by rw [hck]; rfl)] at hP)
    (try rw [if_pos (show (cellV x y).isSome = true by rw [hck]; rfl)] at hfr)
    refine lv_aload_n hx hb dX13_height_13 rfl (lv_at hl 0 rfl) ?_
    refine g_bipush S 6 dX13_height_14 (by decide +kernel) ?_
    refine lv_iload_n hx hb dX13_height_16 rfl (lv_at hl 1 rfl) ?_
    refine lv_imul hx hb dX13_height_17 ?_
    refine lv_iload_n hx hb dX13_height_18 rfl (lv_at hl 2 rfl) ?_
    refine lv_iadd hx hb dX13_height_19 ?_
    rw [cell6 hck]
    refine g_roi (g_runV S hI hP hS (k := 1) (As := [.int (nI (k))]) (rest := []) (mX13_high l b g kp sv bf sd ip sg mk td lv tl qs qc qw 0 0 wy de ca ln fa sm pa tm k (ht k) hb1 hk36 (hgh k hk36)) q1882 q1884 q50 q100 q1885 rfl rfl (by decide +kernel) ⟨Nat.le_of_ble_eq_true rfl, Nat.le_of_ble_eq_true rfl⟩ rfl (hb1.lt 0 (by decide)) (hb1.2 0 (by decide)) rfl hl.1 rfl (Nat.le_of_ble_eq_true rfl) ⟨(Nat.le_of_ble_eq_true rfl), (Nat.le_of_ble_eq_true rfl)⟩ dX13_height_20) hS (fun H locs hP hS => ?_)
    exact g_iret S hr hlocks hP hS (⟨Or.inl ⟨k, hck, rfl, hb1⟩, hfr⟩) (fun _ _ => rfl) (Nat.le_of_ble_eq_true rfl) (Nat.le_of_ble_eq_true rfl) dX13_height_23
  · have hcn := Option.isNone_iff_eq_none.mp h1
    rw [if_neg (show ¬ (cellV x y).isSome = true by rw [hcn]; decide)] at hb1
    (try rw [if_neg (show ¬ (cellV x y).isSome = true by rw [hcn]; decide)] at hP)
    (try rw [if_neg (show ¬ (cellV x y).isSome = true by rw [hcn]; decide)] at hfr)
    refine g_iconst S 0 dX13_height_9 (by decide +kernel) ?_
    refine lv_goto (tgt := 23) hx hb dX13_height_10 (by decide) ?_
    exact g_iret S hr hlocks hP hS (⟨Or.inr ⟨hcn, hb1⟩, hfr⟩) (fun _ _ => rfl) (Nat.le_of_ble_eq_true rfl) (Nat.le_of_ble_eq_true rfl) dX13_height_23
set_option maxHeartbeats 4000000 in
set_option maxRecDepth 100000 in
/-- water -/
theorem mX13_water (l : Launch) {E : gE} {ad : Nat → Nat} {N : Nat} {w : Nat → va_E} (b : Nat) (g kp sv bf sd ip sg mk td lv tl : Nat → Nat) (qs qc qw qd co wy : Nat) (de : Int32) (ca ln : Nat) (fa : Option Nat) (sm pa tm : Nat) (ht dr pg wt wr mo : Nat → Nat) (mc ni po dn : Nat) (x y : Int32) (hb_m : bkP N w b 12 (MDC E ad b g kp sv bf sd ip sg mk td lv tl qs qc qw qd co wy de ca ln fa sm pa tm)) (hR : mRg g ht pg wt wr mo mc ni po dn)  : gMi l yX13_water (lw_ws yX13_water cX13_water 3 (some .int)) ({ frames := 3, cells := 0, slots := 0, locals := 65 } : Room) E ad N w [.ref (ad (b)), .int (x), .int (y)] (fun r w' => ((∃ k, cellV x y = some k ∧ r = nI (wt k) ∧ bkP N w' b 12 (MDC E ad b g kp sv bf sd ip sg mk td lv tl qs qc qw 0 0 wy de ca ln fa sm pa tm)) ∨ (cellV x y = none ∧ bkP N w' b 12 (MDC E ad b g kp sv bf sd ip sg mk td lv tl qs qc qw 0 1 wy de ca ln fa sm pa tm))) ∧ gFr (gIn b 12) w w') 0 0 := by
  refine Met.ofW (cc := cX13_water) (maxL := 3) (ret := (some .int)) (by decide) rfl ?_
  intro p e s m args below meth cd s₁ B hml hv
  obtain ⟨rfl, hI, hP⟩ := hv
  obtain ⟨S, hr, hlocks⟩ := gPre (ws := []) B hml (C := RX13) rfl
  have hx := S.1
  have hb := S.2.1
  have hS : va_S (gA E) s.heap s.heap [] := va_S.rf
  have hfr : gFr (gIn b 12) w w := gFr.rf
  have hl := lv_entry ([.ref (ad (b)), .int (x), .int (y)]) (n := 3) (Nat.le_of_ble_eq_true rfl)
  rw [lg_entry_eq]
  generalize (lg_sl ([.ref (ad (b)), .int (x), .int (y)]) ++ List.replicate (3 - (lg_sl ([.ref (ad (b)), .int (x), .int (y)])).length) Slot.unset).toArray = ls at hl ⊢
  have hl : lv_has ls 3 [(0, .ref (ad (b))), (1, .int (x)), (2, .int (y))] := hl
  obtain ⟨hgh, hgw, hgp, hgt, hgm, hg3, hg0, hg1, hg2⟩ := id hR
  refine lv_aload_n hx hb dX13_water_0 rfl (lv_at hl 0 rfl) ?_
  refine lv_iload_n hx hb dX13_water_1 rfl (lv_at hl 1 rfl) ?_
  refine lv_iload_n hx hb dX13_water_2 rfl (lv_at hl 2 rfl) ?_
  refine g_afi (g_runV S hI hP hS (k := 2) (As := [.int (x), .int (y)]) (rest := []) (mX13_isNone l b g kp sv bf sd ip sg mk td lv tl qs qc qw qd co wy de ca ln fa sm pa tm x y hb_m ) q1868 q1870 q48 q100 q1871 rfl rfl (by decide +kernel) ⟨Nat.le_of_ble_eq_true rfl, Nat.le_of_ble_eq_true rfl⟩ rfl (hb_m.lt 0 (by decide)) (hb_m.2 0 (by decide)) rfl hl.1 rfl (Nat.le_of_ble_eq_true rfl) ⟨(Nat.le_of_ble_eq_true rfl), (Nat.le_of_ble_eq_true rfl)⟩ dX13_water_3) hS (fun rz w1 H locs hq hP hS => ?_)
  obtain ⟨hr3, hb1, hf2⟩ := hq
  rw [hr3]
  have hfr := hfr.trans hf2 (fun q hq => by (try simp only [gIn] at hq ⊢); (try dsimp only at hq ⊢); omega)
  refine g_beq S (b := (cellV x y).isNone) (tgt := 13) dX13_water_6 (by decide) (fun h1 => ?_) (fun h1 => ?_)
  · obtain ⟨k, hck⟩ : ∃ k, cellV x y = some k := by cases q : cellV x y with | none => (rw [q] at h1; cases h1) | some a => exact ⟨a, rfl⟩
    have hk36 := cellV_lt hck
    rw [if_pos (show (cellV x y).isSome = true by rw [hck]; rfl)] at hb1
    (try rw [if_pos (show (cellV x y).isSome = true by rw [hck]; rfl)] at hP)
    (try rw [if_pos (show (cellV x y).isSome = true by rw [hck]; rfl)] at hfr)
    refine lv_aload_n hx hb dX13_water_13 rfl (lv_at hl 0 rfl) ?_
    refine g_get S hI hP uX13 rfl (fs := _) (hb1.lt 0 (by decide)) (hb1.2 0 (by decide)) 0 (by decide) q1787 rfl (v := .ref (ad (b + 1))) rfl dX13_water_14 ?_
    refine g_bipush S 112 dX13_water_17 (by decide +kernel) ?_
    refine g_bipush S 6 dX13_water_19 (by decide +kernel) ?_
    refine lv_iload_n hx hb dX13_water_21 rfl (lv_at hl 1 rfl) ?_
    refine lv_imul hx hb dX13_water_22 ?_
    refine lv_iadd hx hb dX13_water_23 ?_
    refine lv_iload_n hx hb dX13_water_24 rfl (lv_at hl 2 rfl) ?_
    refine lv_iadd hx hb dX13_water_25 ?_
    rw [cell6p hck]
    refine g_iald S hI hP (f := fun j => nI (g j)) (hb1.lt 1 (by decide)) (hb1.2 1 (by decide)) (112 + k) (by omega) (by decide) dX13_water_26 ?_
    rw [hgt k hk36]
    exact g_iret S hr hlocks hP hS (⟨Or.inl ⟨k, hck, rfl, hb1⟩, hfr⟩) (fun _ _ => rfl) (Nat.le_of_ble_eq_true rfl) (Nat.le_of_ble_eq_true rfl) dX13_water_27
  · have hcn := Option.isNone_iff_eq_none.mp h1
    rw [if_neg (show ¬ (cellV x y).isSome = true by rw [hcn]; decide)] at hb1
    (try rw [if_neg (show ¬ (cellV x y).isSome = true by rw [hcn]; decide)] at hP)
    (try rw [if_neg (show ¬ (cellV x y).isSome = true by rw [hcn]; decide)] at hfr)
    refine g_iconst S 0 dX13_water_9 (by decide +kernel) ?_
    refine lv_goto (tgt := 27) hx hb dX13_water_10 (by decide) ?_
    exact g_iret S hr hlocks hP hS (⟨Or.inr ⟨hcn, hb1⟩, hfr⟩) (fun _ _ => rfl) (Nat.le_of_ble_eq_true rfl) (Nat.le_of_ble_eq_true rfl) dX13_water_27
set_option maxHeartbeats 4000000 in
set_option maxRecDepth 100000 in
/-- wear -/
theorem mX13_wear (l : Launch) {E : gE} {ad : Nat → Nat} {N : Nat} {w : Nat → va_E} (b : Nat) (g kp sv bf sd ip sg mk td lv tl : Nat → Nat) (qs qc qw qd co wy : Nat) (de : Int32) (ca ln : Nat) (fa : Option Nat) (sm pa tm : Nat) (ht dr pg wt wr mo : Nat → Nat) (mc ni po dn : Nat) (x y : Int32) (hb_m : bkP N w b 12 (MDC E ad b g kp sv bf sd ip sg mk td lv tl qs qc qw qd co wy de ca ln fa sm pa tm)) (hR : mRg g ht pg wt wr mo mc ni po dn)  : gMi l yX13_wear (lw_ws yX13_wear cX13_wear 3 (some .int)) ({ frames := 3, cells := 0, slots := 0, locals := 65 } : Room) E ad N w [.ref (ad (b)), .int (x), .int (y)] (fun r w' => ((∃ k, cellV x y = some k ∧ r = nI (wr k) ∧ bkP N w' b 12 (MDC E ad b g kp sv bf sd ip sg mk td lv tl qs qc qw 0 0 wy de ca ln fa sm pa tm)) ∨ (cellV x y = none ∧ bkP N w' b 12 (MDC E ad b g kp sv bf sd ip sg mk td lv tl qs qc qw 0 1 wy de ca ln fa sm pa tm))) ∧ gFr (gIn b 12) w w') 0 0 := by
  refine Met.ofW (cc := cX13_wear) (maxL := 3) (ret := (some .int)) (by decide) rfl ?_
  intro p e s m args below meth cd s₁ B hml hv
  obtain ⟨rfl, hI, hP⟩ := hv
  obtain ⟨S, hr, hlocks⟩ := gPre (ws := []) B hml (C := RX13) rfl
  have hx := S.1
  have hb := S.2.1
  have hS : va_S (gA E) s.heap s.heap [] := va_S.rf
  have hfr : gFr (gIn b 12) w w := gFr.rf
  have hl := lv_entry ([.ref (ad (b)), .int (x), .int (y)]) (n := 3) (Nat.le_of_ble_eq_true rfl)
  rw [lg_entry_eq]
  generalize (lg_sl ([.ref (ad (b)), .int (x), .int (y)]) ++ List.replicate (3 - (lg_sl ([.ref (ad (b)), .int (x), .int (y)])).length) Slot.unset).toArray = ls at hl ⊢
  have hl : lv_has ls 3 [(0, .ref (ad (b))), (1, .int (x)), (2, .int (y))] := hl
  obtain ⟨hgh, hgw, hgp, hgt, hgm, hg3, hg0, hg1, hg2⟩ := id hR
  refine lv_aload_n hx hb dX13_wear_0 rfl (lv_at hl 0 rfl) ?_
  refine lv_iload_n hx hb dX13_wear_1 rfl (lv_at hl 1 rfl) ?_
  refine lv_iload_n hx hb dX13_wear_2 rfl (lv_at hl 2 rfl) ?_
  refine g_afi (g_runV S hI hP hS (k := 2) (As := [.int (x), .int (y)]) (rest := []) (mX13_isNone l b g kp sv bf sd ip sg mk td lv tl qs qc qw qd co wy de ca ln fa sm pa tm x y hb_m ) q1868 q1870 q48 q100 q1871 rfl rfl (by decide +kernel) ⟨Nat.le_of_ble_eq_true rfl, Nat.le_of_ble_eq_true rfl⟩ rfl (hb_m.lt 0 (by decide)) (hb_m.2 0 (by decide)) rfl hl.1 rfl (Nat.le_of_ble_eq_true rfl) ⟨(Nat.le_of_ble_eq_true rfl), (Nat.le_of_ble_eq_true rfl)⟩ dX13_wear_3) hS (fun rz w1 H locs hq hP hS => ?_)
  obtain ⟨hr3, hb1, hf2⟩ := hq
  rw [hr3]
  have hfr := hfr.trans hf2 (fun q hq => by (try simp only [gIn] at hq ⊢); (try dsimp only at hq ⊢); omega)
  refine g_beq S (b := (cellV x y).isNone) (tgt := 13) dX13_wear_6 (by decide) (fun h1 => ?_) (fun h1 => ?_)
  · obtain ⟨k, hck⟩ : ∃ k, cellV x y = some k := by cases q : cellV x y with | none => (rw [q] at h1; cases h1) | some a => exact ⟨a, rfl⟩
    have hk36 := cellV_lt hck
    rw [if_pos (show (cellV x y).isSome = true by rw [hck]; rfl)] at hb1
    (try rw [if_pos (show (cellV x y).isSome = true by rw [hck]; rfl)] at hP)
    (try rw [if_pos (show (cellV x y).isSome = true by rw [hck]; rfl)] at hfr)
    refine lv_aload_n hx hb dX13_wear_13 rfl (lv_at hl 0 rfl) ?_
    refine g_get S hI hP uX13 rfl (fs := _) (hb1.lt 0 (by decide)) (hb1.2 0 (by decide)) 0 (by decide) q1787 rfl (v := .ref (ad (b + 1))) rfl dX13_wear_14 ?_
    refine g_bipush S 40 dX13_wear_17 (by decide +kernel) ?_
    refine g_bipush S 6 dX13_wear_19 (by decide +kernel) ?_
    refine lv_iload_n hx hb dX13_wear_21 rfl (lv_at hl 1 rfl) ?_
    refine lv_imul hx hb dX13_wear_22 ?_
    refine lv_iadd hx hb dX13_wear_23 ?_
    refine lv_iload_n hx hb dX13_wear_24 rfl (lv_at hl 2 rfl) ?_
    refine lv_iadd hx hb dX13_wear_25 ?_
    rw [cell6p hck]
    refine g_iald S hI hP (f := fun j => nI (g j)) (hb1.lt 1 (by decide)) (hb1.2 1 (by decide)) (40 + k) (by omega) (by decide) dX13_wear_26 ?_
    rw [hgw k hk36]
    exact g_iret S hr hlocks hP hS (⟨Or.inl ⟨k, hck, rfl, hb1⟩, hfr⟩) (fun _ _ => rfl) (Nat.le_of_ble_eq_true rfl) (Nat.le_of_ble_eq_true rfl) dX13_wear_27
  · have hcn := Option.isNone_iff_eq_none.mp h1
    rw [if_neg (show ¬ (cellV x y).isSome = true by rw [hcn]; decide)] at hb1
    (try rw [if_neg (show ¬ (cellV x y).isSome = true by rw [hcn]; decide)] at hP)
    (try rw [if_neg (show ¬ (cellV x y).isSome = true by rw [hcn]; decide)] at hfr)
    refine g_iconst S 0 dX13_wear_9 (by decide +kernel) ?_
    refine lv_goto (tgt := 27) hx hb dX13_wear_10 (by decide) ?_
    exact g_iret S hr hlocks hP hS (⟨Or.inr ⟨hcn, hb1⟩, hfr⟩) (fun _ _ => rfl) (Nat.le_of_ble_eq_true rfl) (Nat.le_of_ble_eq_true rfl) dX13_wear_27
set_option maxHeartbeats 4000000 in
set_option maxRecDepth 100000 in
/-- endRow -/
theorem mX13_endRow (l : Launch) {E : gE} {ad : Nat → Nat} {N : Nat} {w : Nat → va_E} (b : Nat) (g kp sv bf sd ip sg mk td lv tl : Nat → Nat) (qs qc qw qd co wy : Nat) (de : Int32) (ca ln : Nat) (fa : Option Nat) (sm pa tm : Nat) (ht dr pg wt wr mo : Nat → Nat) (mc ni po dn : Nat) (x y : Int32) (hb_m : bkP N w b 12 (MDC E ad b g kp sv bf sd ip sg mk td lv tl qs qc qw qd co wy de ca ln fa sm pa tm)) (hR : mRg g ht pg wt wr mo mc ni po dn) (hht : ∀ k, k < 36 → ht k ≤ 99) (hwr : ∀ k, k < 36 → wr k ≤ 3) : gMi l yX13_endRow (lw_ws yX13_endRow cX13_endRow 3 (some .int)) ({ frames := 5, cells := 0, slots := 0, locals := 112 } : Room) E ad N w [.ref (ad (b)), .int (x), .int (y)] (fun r w' => ((∃ k, cellV x y = some k ∧ r = nI (endN ht wr 36 k / 6) ∧ bkP N w' b 12 (MDC E ad b g kp sv bf sd ip sg mk td lv tl qs qc qw 0 0 wy de ca ln fa sm pa tm)) ∨ (cellV x y = none ∧ bkP N w' b 12 (MDC E ad b g kp sv bf sd ip sg mk td lv tl qs qc qw 0 1 wy de ca ln fa sm pa tm))) ∧ gFr (gIn b 12) w w') 0 0 := by
  refine Met.ofW (cc := cX13_endRow) (maxL := 3) (ret := (some .int)) (by decide) rfl ?_
  intro p e s m args below meth cd s₁ B hml hv
  obtain ⟨rfl, hI, hP⟩ := hv
  obtain ⟨S, hr, hlocks⟩ := gPre (ws := []) B hml (C := RX13) rfl
  have hx := S.1
  have hb := S.2.1
  have hS : va_S (gA E) s.heap s.heap [] := va_S.rf
  have hfr : gFr (gIn b 12) w w := gFr.rf
  have hl := lv_entry ([.ref (ad (b)), .int (x), .int (y)]) (n := 3) (Nat.le_of_ble_eq_true rfl)
  rw [lg_entry_eq]
  generalize (lg_sl ([.ref (ad (b)), .int (x), .int (y)]) ++ List.replicate (3 - (lg_sl ([.ref (ad (b)), .int (x), .int (y)])).length) Slot.unset).toArray = ls at hl ⊢
  have hl : lv_has ls 3 [(0, .ref (ad (b))), (1, .int (x)), (2, .int (y))] := hl
  obtain ⟨hgh, hgw, hgp, hgt, hgm, hg3, hg0, hg1, hg2⟩ := id hR
  refine lv_aload_n hx hb dX13_endRow_0 rfl (lv_at hl 0 rfl) ?_
  refine lv_iload_n hx hb dX13_endRow_1 rfl (lv_at hl 1 rfl) ?_
  refine lv_iload_n hx hb dX13_endRow_2 rfl (lv_at hl 2 rfl) ?_
  refine g_afi (g_runV S hI hP hS (k := 2) (As := [.int (x), .int (y)]) (rest := []) (mX13_isNone l b g kp sv bf sd ip sg mk td lv tl qs qc qw qd co wy de ca ln fa sm pa tm x y hb_m ) q1868 q1870 q48 q100 q1871 rfl rfl (by decide +kernel) ⟨Nat.le_of_ble_eq_true rfl, Nat.le_of_ble_eq_true rfl⟩ rfl (hb_m.lt 0 (by decide)) (hb_m.2 0 (by decide)) rfl hl.1 rfl (Nat.le_of_ble_eq_true rfl) ⟨(Nat.le_of_ble_eq_true rfl), (Nat.le_of_ble_eq_true rfl)⟩ dX13_endRow_3) hS (fun rz w1 H locs hq hP hS => ?_)
  obtain ⟨hr3, hb1, hf2⟩ := hq
  rw [hr3]
  have hfr := hfr.trans hf2 (fun q hq => by (try simp only [gIn] at hq ⊢); (try dsimp only at hq ⊢); omega)
  refine g_beq S (b := (cellV x y).isNone) (tgt := 13) dX13_endRow_6 (by decide) (fun h1 => ?_) (fun h1 => ?_)
  · obtain ⟨k, hck⟩ : ∃ k, cellV x y = some k := by cases q : cellV x y with | none => (rw [q] at h1; cases h1) | some a => exact ⟨a, rfl⟩
    have hk36 := cellV_lt hck
    rw [if_pos (show (cellV x y).isSome = true by rw [hck]; rfl)] at hb1
    (try rw [if_pos (show (cellV x y).isSome = true by rw [hck]; rfl)] at hP)
    (try rw [if_pos (show (cellV x y).isSome = true by rw [hck]; rfl)] at hfr)
    refine lv_aload_n hx hb dX13_endRow_13 rfl (lv_at hl 0 rfl) ?_
    refine g_bipush S 6 dX13_endRow_14 (by decide +kernel) ?_
    refine lv_iload_n hx hb dX13_endRow_16 rfl (lv_at hl 1 rfl) ?_
    refine lv_imul hx hb dX13_endRow_17 ?_
    refine lv_iload_n hx hb dX13_endRow_18 rfl (lv_at hl 2 rfl) ?_
    refine lv_iadd hx hb dX13_endRow_19 ?_
    rw [cell6 hck]
    refine g_roi (g_runV S hI hP hS (k := 1) (As := [.int (nI (k))]) (rest := []) (mX13_end l b g kp sv bf sd ip sg mk td lv tl qs qc qw 0 0 wy de ca ln fa sm pa tm ht dr pg wt wr mo mc ni po dn k hb1 hk36 hR hht hwr) q1960 q1962 q58 q100 q1963 rfl rfl (by decide +kernel) ⟨Nat.le_of_ble_eq_true rfl, Nat.le_of_ble_eq_true rfl⟩ rfl (hb1.lt 0 (by decide)) (hb1.2 0 (by decide)) rfl hl.1 rfl (Nat.le_of_ble_eq_true rfl) ⟨(Nat.le_of_ble_eq_true rfl), (Nat.le_of_ble_eq_true rfl)⟩ dX13_endRow_20) hS (fun H locs hP hS => ?_)
    have he36 := endN_lt (ht := ht) (wr := wr) (n := 36) hk36
    refine g_bipush S 6 dX13_endRow_23 (by decide +kernel) ?_
    refine g_idiv S (by omega) (by omega) (by omega) dX13_endRow_25 ?_
    exact g_iret S hr hlocks hP hS (⟨Or.inl ⟨k, hck, rfl, hb1⟩, hfr⟩) (fun _ _ => rfl) (Nat.le_of_ble_eq_true rfl) (Nat.le_of_ble_eq_true rfl) dX13_endRow_26
  · have hcn := Option.isNone_iff_eq_none.mp h1
    rw [if_neg (show ¬ (cellV x y).isSome = true by rw [hcn]; decide)] at hb1
    (try rw [if_neg (show ¬ (cellV x y).isSome = true by rw [hcn]; decide)] at hP)
    (try rw [if_neg (show ¬ (cellV x y).isSome = true by rw [hcn]; decide)] at hfr)
    refine g_iconst S 0 dX13_endRow_9 (by decide +kernel) ?_
    refine lv_goto (tgt := 26) hx hb dX13_endRow_10 (by decide) ?_
    exact g_iret S hr hlocks hP hS (⟨Or.inr ⟨hcn, hb1⟩, hfr⟩) (fun _ _ => rfl) (Nat.le_of_ble_eq_true rfl) (Nat.le_of_ble_eq_true rfl) dX13_endRow_26
set_option maxHeartbeats 4000000 in
set_option maxRecDepth 100000 in
/-- endColumn -/
theorem mX13_endColumn (l : Launch) {E : gE} {ad : Nat → Nat} {N : Nat} {w : Nat → va_E} (b : Nat) (g kp sv bf sd ip sg mk td lv tl : Nat → Nat) (qs qc qw qd co wy : Nat) (de : Int32) (ca ln : Nat) (fa : Option Nat) (sm pa tm : Nat) (ht dr pg wt wr mo : Nat → Nat) (mc ni po dn : Nat) (x y : Int32) (hb_m : bkP N w b 12 (MDC E ad b g kp sv bf sd ip sg mk td lv tl qs qc qw qd co wy de ca ln fa sm pa tm)) (hR : mRg g ht pg wt wr mo mc ni po dn) (hht : ∀ k, k < 36 → ht k ≤ 99) (hwr : ∀ k, k < 36 → wr k ≤ 3) : gMi l yX13_endColumn (lw_ws yX13_endColumn cX13_endColumn 3 (some .int)) ({ frames := 5, cells := 0, slots := 0, locals := 112 } : Room) E ad N w [.ref (ad (b)), .int (x), .int (y)] (fun r w' => ((∃ k, cellV x y = some k ∧ r = nI (endN ht wr 36 k % 6) ∧ bkP N w' b 12 (MDC E ad b g kp sv bf sd ip sg mk td lv tl qs qc qw 0 0 wy de ca ln fa sm pa tm)) ∨ (cellV x y = none ∧ bkP N w' b 12 (MDC E ad b g kp sv bf sd ip sg mk td lv tl qs qc qw 0 1 wy de ca ln fa sm pa tm))) ∧ gFr (gIn b 12) w w') 0 0 := by
  refine Met.ofW (cc := cX13_endColumn) (maxL := 3) (ret := (some .int)) (by decide) rfl ?_
  intro p e s m args below meth cd s₁ B hml hv
  obtain ⟨rfl, hI, hP⟩ := hv
  obtain ⟨S, hr, hlocks⟩ := gPre (ws := []) B hml (C := RX13) rfl
  have hx := S.1
  have hb := S.2.1
  have hS : va_S (gA E) s.heap s.heap [] := va_S.rf
  have hfr : gFr (gIn b 12) w w := gFr.rf
  have hl := lv_entry ([.ref (ad (b)), .int (x), .int (y)]) (n := 3) (Nat.le_of_ble_eq_true rfl)
  rw [lg_entry_eq]
  generalize (lg_sl ([.ref (ad (b)), .int (x), .int (y)]) ++ List.replicate (3 - (lg_sl ([.ref (ad (b)), .int (x), .int (y)])).length) Slot.unset).toArray = ls at hl ⊢
  have hl : lv_has ls 3 [(0, .ref (ad (b))), (1, .int (x)), (2, .int (y))] := hl
  obtain ⟨hgh, hgw, hgp, hgt, hgm, hg3, hg0, hg1, hg2⟩ := id hR
  refine lv_aload_n hx hb dX13_endColumn_0 rfl (lv_at hl 0 rfl) ?_
  refine lv_iload_n hx hb dX13_endColumn_1 rfl (lv_at hl 1 rfl) ?_
  refine lv_iload_n hx hb dX13_endColumn_2 rfl (lv_at hl 2 rfl) ?_
  refine g_afi (g_runV S hI hP hS (k := 2) (As := [.int (x), .int (y)]) (rest := []) (mX13_isNone l b g kp sv bf sd ip sg mk td lv tl qs qc qw qd co wy de ca ln fa sm pa tm x y hb_m ) q1868 q1870 q48 q100 q1871 rfl rfl (by decide +kernel) ⟨Nat.le_of_ble_eq_true rfl, Nat.le_of_ble_eq_true rfl⟩ rfl (hb_m.lt 0 (by decide)) (hb_m.2 0 (by decide)) rfl hl.1 rfl (Nat.le_of_ble_eq_true rfl) ⟨(Nat.le_of_ble_eq_true rfl), (Nat.le_of_ble_eq_true rfl)⟩ dX13_endColumn_3) hS (fun rz w1 H locs hq hP hS => ?_)
  obtain ⟨hr3, hb1, hf2⟩ := hq
  rw [hr3]
  have hfr := hfr.trans hf2 (fun q hq => by (try simp only [gIn] at hq ⊢); (try dsimp only at hq ⊢); omega)
  refine g_beq S (b := (cellV x y).isNone) (tgt := 13) dX13_endColumn_6 (by decide) (fun h1 => ?_) (fun h1 => ?_)
  · obtain ⟨k, hck⟩ : ∃ k, cellV x y = some k := by cases q : cellV x y with | none => (rw [q] at h1; cases h1) | some a => exact ⟨a, rfl⟩
    have hk36 := cellV_lt hck
    rw [if_pos (show (cellV x y).isSome = true by rw [hck]; rfl)] at hb1
    (try rw [if_pos (show (cellV x y).isSome = true by rw [hck]; rfl)] at hP)
    (try rw [if_pos (show (cellV x y).isSome = true by rw [hck]; rfl)] at hfr)
    refine lv_aload_n hx hb dX13_endColumn_13 rfl (lv_at hl 0 rfl) ?_
    refine g_bipush S 6 dX13_endColumn_14 (by decide +kernel) ?_
    refine lv_iload_n hx hb dX13_endColumn_16 rfl (lv_at hl 1 rfl) ?_
    refine lv_imul hx hb dX13_endColumn_17 ?_
    refine lv_iload_n hx hb dX13_endColumn_18 rfl (lv_at hl 2 rfl) ?_
    refine lv_iadd hx hb dX13_endColumn_19 ?_
    rw [cell6 hck]
    refine g_roi (g_runV S hI hP hS (k := 1) (As := [.int (nI (k))]) (rest := []) (mX13_end l b g kp sv bf sd ip sg mk td lv tl qs qc qw 0 0 wy de ca ln fa sm pa tm ht dr pg wt wr mo mc ni po dn k hb1 hk36 hR hht hwr) q1960 q1962 q58 q100 q1963 rfl rfl (by decide +kernel) ⟨Nat.le_of_ble_eq_true rfl, Nat.le_of_ble_eq_true rfl⟩ rfl (hb1.lt 0 (by decide)) (hb1.2 0 (by decide)) rfl hl.1 rfl (Nat.le_of_ble_eq_true rfl) ⟨(Nat.le_of_ble_eq_true rfl), (Nat.le_of_ble_eq_true rfl)⟩ dX13_endColumn_20) hS (fun H locs hP hS => ?_)
    have he36 := endN_lt (ht := ht) (wr := wr) (n := 36) hk36
    refine g_bipush S 6 dX13_endColumn_23 (by decide +kernel) ?_
    refine g_irem S (by omega) (by omega) (by omega) dX13_endColumn_25 ?_
    exact g_iret S hr hlocks hP hS (⟨Or.inl ⟨k, hck, rfl, hb1⟩, hfr⟩) (fun _ _ => rfl) (Nat.le_of_ble_eq_true rfl) (Nat.le_of_ble_eq_true rfl) dX13_endColumn_26
  · have hcn := Option.isNone_iff_eq_none.mp h1
    rw [if_neg (show ¬ (cellV x y).isSome = true by rw [hcn]; decide)] at hb1
    (try rw [if_neg (show ¬ (cellV x y).isSome = true by rw [hcn]; decide)] at hP)
    (try rw [if_neg (show ¬ (cellV x y).isSome = true by rw [hcn]; decide)] at hfr)
    refine g_iconst S 0 dX13_endColumn_9 (by decide +kernel) ?_
    refine lv_goto (tgt := 26) hx hb dX13_endColumn_10 (by decide) ?_
    exact g_iret S hr hlocks hP hS (⟨Or.inr ⟨hcn, hb1⟩, hfr⟩) (fun _ _ => rfl) (Nat.le_of_ble_eq_true rfl) (Nat.le_of_ble_eq_true rfl) dX13_endColumn_26
set_option maxHeartbeats 4000000 in
set_option maxRecDepth 100000 in
/-- isPegged -/
theorem mX13_isPegged (l : Launch) {E : gE} {ad : Nat → Nat} {N : Nat} {w : Nat → va_E} (b : Nat) (g kp sv bf sd ip sg mk td lv tl : Nat → Nat) (qs qc qw qd co wy : Nat) (de : Int32) (ca ln : Nat) (fa : Option Nat) (sm pa tm : Nat) (ht dr pg wt wr mo : Nat → Nat) (mc ni po dn : Nat) (x y : Int32) (hb_m : bkP N w b 12 (MDC E ad b g kp sv bf sd ip sg mk td lv tl qs qc qw qd co wy de ca ln fa sm pa tm)) (hR : mRg g ht pg wt wr mo mc ni po dn) (hpg : ∀ k, k < 36 → pg k ≤ 1) : gMi l yX13_isPegged (lw_ws yX13_isPegged cX13_isPegged 3 (some .boolean)) ({ frames := 3, cells := 0, slots := 0, locals := 65 } : Room) E ad N w [.ref (ad (b)), .int (x), .int (y)] (fun r w' => ((∃ k, cellV x y = some k ∧ r = nI (pg k) ∧ bkP N w' b 12 (MDC E ad b g kp sv bf sd ip sg mk td lv tl qs qc qw 0 0 wy de ca ln fa sm pa tm)) ∨ (cellV x y = none ∧ bkP N w' b 12 (MDC E ad b g kp sv bf sd ip sg mk td lv tl qs qc qw 0 1 wy de ca ln fa sm pa tm))) ∧ gFr (gIn b 12) w w') 0 0 := by
  refine Met.ofW (cc := cX13_isPegged) (maxL := 3) (ret := (some .boolean)) (by decide) rfl ?_
  intro p e s m args below meth cd s₁ B hml hv
  obtain ⟨rfl, hI, hP⟩ := hv
  obtain ⟨S, hr, hlocks⟩ := gPre (ws := []) B hml (C := RX13) rfl
  have hx := S.1
  have hb := S.2.1
  have hS : va_S (gA E) s.heap s.heap [] := va_S.rf
  have hfr : gFr (gIn b 12) w w := gFr.rf
  have hl := lv_entry ([.ref (ad (b)), .int (x), .int (y)]) (n := 3) (Nat.le_of_ble_eq_true rfl)
  rw [lg_entry_eq]
  generalize (lg_sl ([.ref (ad (b)), .int (x), .int (y)]) ++ List.replicate (3 - (lg_sl ([.ref (ad (b)), .int (x), .int (y)])).length) Slot.unset).toArray = ls at hl ⊢
  have hl : lv_has ls 3 [(0, .ref (ad (b))), (1, .int (x)), (2, .int (y))] := hl
  obtain ⟨hgh, hgw, hgp, hgt, hgm, hg3, hg0, hg1, hg2⟩ := id hR
  refine lv_aload_n hx hb dX13_isPegged_0 rfl (lv_at hl 0 rfl) ?_
  refine lv_iload_n hx hb dX13_isPegged_1 rfl (lv_at hl 1 rfl) ?_
  refine lv_iload_n hx hb dX13_isPegged_2 rfl (lv_at hl 2 rfl) ?_
  refine g_afi (g_runV S hI hP hS (k := 2) (As := [.int (x), .int (y)]) (rest := []) (mX13_isNone l b g kp sv bf sd ip sg mk td lv tl qs qc qw qd co wy de ca ln fa sm pa tm x y hb_m ) q1868 q1870 q48 q100 q1871 rfl rfl (by decide +kernel) ⟨Nat.le_of_ble_eq_true rfl, Nat.le_of_ble_eq_true rfl⟩ rfl (hb_m.lt 0 (by decide)) (hb_m.2 0 (by decide)) rfl hl.1 rfl (Nat.le_of_ble_eq_true rfl) ⟨(Nat.le_of_ble_eq_true rfl), (Nat.le_of_ble_eq_true rfl)⟩ dX13_isPegged_3) hS (fun rz w1 H locs hq hP hS => ?_)
  obtain ⟨hr3, hb1, hf2⟩ := hq
  rw [hr3]
  have hfr := hfr.trans hf2 (fun q hq => by (try simp only [gIn] at hq ⊢); (try dsimp only at hq ⊢); omega)
  refine g_bne S (b := (cellV x y).isNone) (tgt := 31) dX13_isPegged_6 (by decide) (fun h1 => ?_) (fun h1 => ?_)
  · have hcn := Option.isNone_iff_eq_none.mp h1
    rw [if_neg (show ¬ (cellV x y).isSome = true by rw [hcn]; decide)] at hb1
    (try rw [if_neg (show ¬ (cellV x y).isSome = true by rw [hcn]; decide)] at hP)
    (try rw [if_neg (show ¬ (cellV x y).isSome = true by rw [hcn]; decide)] at hfr)
    refine g_iconst S 0 dX13_isPegged_31 (by decide +kernel) ?_
    exact g_zret S hr hlocks (Or.inl nI_0) hP hS (⟨Or.inr ⟨hcn, hb1⟩, hfr⟩) (fun _ _ => rfl) (Nat.le_of_ble_eq_true rfl) (Nat.le_of_ble_eq_true rfl) dX13_isPegged_32
  · obtain ⟨k, hck⟩ : ∃ k, cellV x y = some k := by cases q : cellV x y with | none => (rw [q] at h1; cases h1) | some a => exact ⟨a, rfl⟩
    have hk36 := cellV_lt hck
    rw [if_pos (show (cellV x y).isSome = true by rw [hck]; rfl)] at hb1
    (try rw [if_pos (show (cellV x y).isSome = true by rw [hck]; rfl)] at hP)
    (try rw [if_pos (show (cellV x y).isSome = true by rw [hck]; rfl)] at hfr)
    have hpk := hpg k hk36
    refine lv_aload_n hx hb dX13_isPegged_9 rfl (lv_at hl 0 rfl) ?_
    refine g_get S hI hP uX13 rfl (fs := _) (hb1.lt 0 (by decide)) (hb1.2 0 (by decide)) 0 (by decide) q1787 rfl (v := .ref (ad (b + 1))) rfl dX13_isPegged_10 ?_
    refine g_bipush S 76 dX13_isPegged_13 (by decide +kernel) ?_
    refine g_bipush S 6 dX13_isPegged_15 (by decide +kernel) ?_
    refine lv_iload_n hx hb dX13_isPegged_17 rfl (lv_at hl 1 rfl) ?_
    refine lv_imul hx hb dX13_isPegged_18 ?_
    refine lv_iadd hx hb dX13_isPegged_19 ?_
    refine lv_iload_n hx hb dX13_isPegged_20 rfl (lv_at hl 2 rfl) ?_
    refine lv_iadd hx hb dX13_isPegged_21 ?_
    rw [cell6p hck]
    refine g_iald S hI hP (f := fun j => nI (g j)) (hb1.lt 1 (by decide)) (hb1.2 1 (by decide)) (76 + k) (by omega) (by decide) dX13_isPegged_22 ?_
    rw [hgp k hk36]
    refine g_iconst S 1 dX13_isPegged_23 (by decide +kernel) ?_
    refine g_ne S (a := pg k) (b := 1) (by omega) (by omega) (tgt := 31) dX13_isPegged_24 (by decide) (fun h9 => ?_) (fun h9 => ?_)
    · refine g_iconst S 0 dX13_isPegged_31 (by decide +kernel) ?_
      exact g_zret S hr hlocks (Or.inl nI_0) hP hS (⟨Or.inl ⟨k, hck, by rw [show pg k = 0 by omega], hb1⟩, hfr⟩) (fun _ _ => rfl) (Nat.le_of_ble_eq_true rfl) (Nat.le_of_ble_eq_true rfl) dX13_isPegged_32
    · refine g_iconst S 1 dX13_isPegged_27 (by decide +kernel) ?_
      refine lv_goto (tgt := 32) hx hb dX13_isPegged_28 (by decide) ?_
      exact g_zret S hr hlocks (Or.inr (by decide +kernel)) hP hS (⟨Or.inl ⟨k, hck, by rw [h9], hb1⟩, hfr⟩) (fun _ _ => rfl) (Nat.le_of_ble_eq_true rfl) (Nat.le_of_ble_eq_true rfl) dX13_isPegged_32
set_option maxHeartbeats 4000000 in
set_option maxRecDepth 100000 in
/-- mothCount -/
theorem mX13_mothCount (l : Launch) {E : gE} {ad : Nat → Nat} {N : Nat} {w : Nat → va_E} (b : Nat) (g kp sv bf sd ip sg mk td lv tl : Nat → Nat) (qs qc qw qd co wy : Nat) (de : Int32) (ca ln : Nat) (fa : Option Nat) (sm pa tm : Nat) (ht dr pg wt wr mo : Nat → Nat) (mc ni po dn : Nat) (hb_m : bkP N w b 12 (MDC E ad b g kp sv bf sd ip sg mk td lv tl qs qc qw qd co wy de ca ln fa sm pa tm)) (hR : mRg g ht pg wt wr mo mc ni po dn)  : gMi l yX13_mothCount (lw_ws yX13_mothCount cX13_mothCount 1 (some .int)) ({ frames := 0, cells := 0, slots := 0, locals := 0 } : Room) E ad N w [.ref (ad (b))] (fun r w' => r = nI mc ∧ bkP N w' b 12 (MDC E ad b g kp sv bf sd ip sg mk td lv tl qs qc qw qd 0 wy de ca ln fa sm pa tm) ∧ gFr (gIn b 12) w w') 0 0 := by
  refine Met.ofW (cc := cX13_mothCount) (maxL := 1) (ret := (some .int)) (by decide) rfl ?_
  intro p e s m args below meth cd s₁ B hml hv
  obtain ⟨rfl, hI, hP⟩ := hv
  obtain ⟨S, hr, hlocks⟩ := gPre (ws := []) B hml (C := RX13) rfl
  have hx := S.1
  have hb := S.2.1
  have hS : va_S (gA E) s.heap s.heap [] := va_S.rf
  have hfr : gFr (gIn b 12) w w := gFr.rf
  have hl := lv_entry ([.ref (ad (b))]) (n := 1) (Nat.le_of_ble_eq_true rfl)
  rw [lg_entry_eq]
  generalize (lg_sl ([.ref (ad (b))]) ++ List.replicate (1 - (lg_sl ([.ref (ad (b))])).length) Slot.unset).toArray = ls at hl ⊢
  have hl : lv_has ls 1 [(0, .ref (ad (b)))] := hl
  obtain ⟨hgh, hgw, hgp, hgt, hgm, hg3, hg0, hg1, hg2⟩ := id hR
  refine lv_aload_n hx hb dX13_mothCount_0 rfl (lv_at hl 0 rfl) ?_
  refine g_iconst S 0 dX13_mothCount_1 (by decide +kernel) ?_
  refine g_put S hI hP hS uX13 rfl tyX13 tyX13_ok nmX13 (fs := _) (hb_m.lt 0 (by decide)) (hb_m.2 0 (by decide)) 9 (by decide) q1796 rfl rfl (v := .int (nI (0))) rfl rfl (Nat.le_of_ble_eq_true rfl) dX13_mothCount_2 (fun H locs hP hS => ?_)
  have hP : gP E ad N (va_up _ (b) (MDC E ad b g kp sv bf sd ip sg mk td lv tl qs qc qw qd 0 wy de ca ln fa sm pa tm 0)) H := hP
  have hb1 : bkP N (va_up _ (b) (MDC E ad b g kp sv bf sd ip sg mk td lv tl qs qc qw qd 0 wy de ca ln fa sm pa tm 0)) b 12 (MDC E ad b g kp sv bf sd ip sg mk td lv tl qs qc qw qd 0 wy de ca ln fa sm pa tm) := MD_setO hb_m _ _ _ _ _ _ _ _ _ _ _ _ _
  have hfr := hfr.up (p := b) (e := MDC E ad b g kp sv bf sd ip sg mk td lv tl qs qc qw qd 0 wy de ca ln fa sm pa tm 0) (by show _ ∧ _; omega)
  refine lv_aload_n hx hb dX13_mothCount_5 rfl (lv_at hl 0 rfl) ?_
  refine g_get S hI hP uX13 rfl (fs := _) (hb1.lt 0 (by decide)) (hb1.2 0 (by decide)) 0 (by decide) q1787 rfl (v := .ref (ad (b + 1))) rfl dX13_mothCount_6 ?_
  refine g_iconst S 3 dX13_mothCount_9 (by decide +kernel) ?_
  refine g_iald S hI hP (f := fun j => nI (g j)) (hb1.lt 1 (by decide)) (hb1.2 1 (by decide)) (3) (by decide) (by decide) dX13_mothCount_10 ?_
  rw [hg3]
  exact g_iret S hr hlocks hP hS (⟨rfl, hb1, hfr⟩) (fun _ _ => rfl) (Nat.le_of_ble_eq_true rfl) (Nat.le_of_ble_eq_true rfl) dX13_mothCount_11
set_option maxHeartbeats 4000000 in
set_option maxRecDepth 100000 in
/-- nights -/
theorem mX13_nights (l : Launch) {E : gE} {ad : Nat → Nat} {N : Nat} {w : Nat → va_E} (b : Nat) (g kp sv bf sd ip sg mk td lv tl : Nat → Nat) (qs qc qw qd co wy : Nat) (de : Int32) (ca ln : Nat) (fa : Option Nat) (sm pa tm : Nat) (ht dr pg wt wr mo : Nat → Nat) (mc ni po dn : Nat) (hb_m : bkP N w b 12 (MDC E ad b g kp sv bf sd ip sg mk td lv tl qs qc qw qd co wy de ca ln fa sm pa tm)) (hR : mRg g ht pg wt wr mo mc ni po dn)  : gMi l yX13_nights (lw_ws yX13_nights cX13_nights 1 (some .int)) ({ frames := 0, cells := 0, slots := 0, locals := 0 } : Room) E ad N w [.ref (ad (b))] (fun r w' => r = nI ni ∧ bkP N w' b 12 (MDC E ad b g kp sv bf sd ip sg mk td lv tl qs qc qw qd 0 wy de ca ln fa sm pa tm) ∧ gFr (gIn b 12) w w') 0 0 := by
  refine Met.ofW (cc := cX13_nights) (maxL := 1) (ret := (some .int)) (by decide) rfl ?_
  intro p e s m args below meth cd s₁ B hml hv
  obtain ⟨rfl, hI, hP⟩ := hv
  obtain ⟨S, hr, hlocks⟩ := gPre (ws := []) B hml (C := RX13) rfl
  have hx := S.1
  have hb := S.2.1
  have hS : va_S (gA E) s.heap s.heap [] := va_S.rf
  have hfr : gFr (gIn b 12) w w := gFr.rf
  have hl := lv_entry ([.ref (ad (b))]) (n := 1) (Nat.le_of_ble_eq_true rfl)
  rw [lg_entry_eq]
  generalize (lg_sl ([.ref (ad (b))]) ++ List.replicate (1 - (lg_sl ([.ref (ad (b))])).length) Slot.unset).toArray = ls at hl ⊢
  have hl : lv_has ls 1 [(0, .ref (ad (b)))] := hl
  obtain ⟨hgh, hgw, hgp, hgt, hgm, hg3, hg0, hg1, hg2⟩ := id hR
  refine lv_aload_n hx hb dX13_nights_0 rfl (lv_at hl 0 rfl) ?_
  refine g_iconst S 0 dX13_nights_1 (by decide +kernel) ?_
  refine g_put S hI hP hS uX13 rfl tyX13 tyX13_ok nmX13 (fs := _) (hb_m.lt 0 (by decide)) (hb_m.2 0 (by decide)) 9 (by decide) q1796 rfl rfl (v := .int (nI (0))) rfl rfl (Nat.le_of_ble_eq_true rfl) dX13_nights_2 (fun H locs hP hS => ?_)
  have hP : gP E ad N (va_up _ (b) (MDC E ad b g kp sv bf sd ip sg mk td lv tl qs qc qw qd 0 wy de ca ln fa sm pa tm 0)) H := hP
  have hb1 : bkP N (va_up _ (b) (MDC E ad b g kp sv bf sd ip sg mk td lv tl qs qc qw qd 0 wy de ca ln fa sm pa tm 0)) b 12 (MDC E ad b g kp sv bf sd ip sg mk td lv tl qs qc qw qd 0 wy de ca ln fa sm pa tm) := MD_setO hb_m _ _ _ _ _ _ _ _ _ _ _ _ _
  have hfr := hfr.up (p := b) (e := MDC E ad b g kp sv bf sd ip sg mk td lv tl qs qc qw qd 0 wy de ca ln fa sm pa tm 0) (by show _ ∧ _; omega)
  refine lv_aload_n hx hb dX13_nights_5 rfl (lv_at hl 0 rfl) ?_
  refine g_get S hI hP uX13 rfl (fs := _) (hb1.lt 0 (by decide)) (hb1.2 0 (by decide)) 0 (by decide) q1787 rfl (v := .ref (ad (b + 1))) rfl dX13_nights_6 ?_
  refine g_iconst S 0 dX13_nights_9 (by decide +kernel) ?_
  refine g_iald S hI hP (f := fun j => nI (g j)) (hb1.lt 1 (by decide)) (hb1.2 1 (by decide)) (0) (by decide) (by decide) dX13_nights_10 ?_
  rw [hg0]
  exact g_iret S hr hlocks hP hS (⟨rfl, hb1, hfr⟩) (fun _ _ => rfl) (Nat.le_of_ble_eq_true rfl) (Nat.le_of_ble_eq_true rfl) dX13_nights_11
set_option maxHeartbeats 4000000 in
set_option maxRecDepth 100000 in
/-- poured -/
theorem mX13_poured (l : Launch) {E : gE} {ad : Nat → Nat} {N : Nat} {w : Nat → va_E} (b : Nat) (g kp sv bf sd ip sg mk td lv tl : Nat → Nat) (qs qc qw qd co wy : Nat) (de : Int32) (ca ln : Nat) (fa : Option Nat) (sm pa tm : Nat) (ht dr pg wt wr mo : Nat → Nat) (mc ni po dn : Nat) (hb_m : bkP N w b 12 (MDC E ad b g kp sv bf sd ip sg mk td lv tl qs qc qw qd co wy de ca ln fa sm pa tm)) (hR : mRg g ht pg wt wr mo mc ni po dn)  : gMi l yX13_poured (lw_ws yX13_poured cX13_poured 1 (some .int)) ({ frames := 0, cells := 0, slots := 0, locals := 0 } : Room) E ad N w [.ref (ad (b))] (fun r w' => r = nI po ∧ bkP N w' b 12 (MDC E ad b g kp sv bf sd ip sg mk td lv tl qs qc qw qd 0 wy de ca ln fa sm pa tm) ∧ gFr (gIn b 12) w w') 0 0 := by
  refine Met.ofW (cc := cX13_poured) (maxL := 1) (ret := (some .int)) (by decide) rfl ?_
  intro p e s m args below meth cd s₁ B hml hv
  obtain ⟨rfl, hI, hP⟩ := hv
  obtain ⟨S, hr, hlocks⟩ := gPre (ws := []) B hml (C := RX13) rfl
  have hx := S.1
  have hb := S.2.1
  have hS : va_S (gA E) s.heap s.heap [] := va_S.rf
  have hfr : gFr (gIn b 12) w w := gFr.rf
  have hl := lv_entry ([.ref (ad (b))]) (n := 1) (Nat.le_of_ble_eq_true rfl)
  rw [lg_entry_eq]
  generalize (lg_sl ([.ref (ad (b))]) ++ List.replicate (1 - (lg_sl ([.ref (ad (b))])).length) Slot.unset).toArray = ls at hl ⊢
  have hl : lv_has ls 1 [(0, .ref (ad (b)))] := hl
  obtain ⟨hgh, hgw, hgp, hgt, hgm, hg3, hg0, hg1, hg2⟩ := id hR
  refine lv_aload_n hx hb dX13_poured_0 rfl (lv_at hl 0 rfl) ?_
  refine g_iconst S 0 dX13_poured_1 (by decide +kernel) ?_
  refine g_put S hI hP hS uX13 rfl tyX13 tyX13_ok nmX13 (fs := _) (hb_m.lt 0 (by decide)) (hb_m.2 0 (by decide)) 9 (by decide) q1796 rfl rfl (v := .int (nI (0))) rfl rfl (Nat.le_of_ble_eq_true rfl) dX13_poured_2 (fun H locs hP hS => ?_)
  have hP : gP E ad N (va_up _ (b) (MDC E ad b g kp sv bf sd ip sg mk td lv tl qs qc qw qd 0 wy de ca ln fa sm pa tm 0)) H := hP
  have hb1 : bkP N (va_up _ (b) (MDC E ad b g kp sv bf sd ip sg mk td lv tl qs qc qw qd 0 wy de ca ln fa sm pa tm 0)) b 12 (MDC E ad b g kp sv bf sd ip sg mk td lv tl qs qc qw qd 0 wy de ca ln fa sm pa tm) := MD_setO hb_m _ _ _ _ _ _ _ _ _ _ _ _ _
  have hfr := hfr.up (p := b) (e := MDC E ad b g kp sv bf sd ip sg mk td lv tl qs qc qw qd 0 wy de ca ln fa sm pa tm 0) (by show _ ∧ _; omega)
  refine lv_aload_n hx hb dX13_poured_5 rfl (lv_at hl 0 rfl) ?_
  refine g_get S hI hP uX13 rfl (fs := _) (hb1.lt 0 (by decide)) (hb1.2 0 (by decide)) 0 (by decide) q1787 rfl (v := .ref (ad (b + 1))) rfl dX13_poured_6 ?_
  refine g_iconst S 1 dX13_poured_9 (by decide +kernel) ?_
  refine g_iald S hI hP (f := fun j => nI (g j)) (hb1.lt 1 (by decide)) (hb1.2 1 (by decide)) (1) (by decide) (by decide) dX13_poured_10 ?_
  rw [hg1]
  exact g_iret S hr hlocks hP hS (⟨rfl, hb1, hfr⟩) (fun _ _ => rfl) (Nat.le_of_ble_eq_true rfl) (Nat.le_of_ble_eq_true rfl) dX13_poured_11
set_option maxHeartbeats 4000000 in
set_option maxRecDepth 100000 in
/-- drained -/
theorem mX13_drained (l : Launch) {E : gE} {ad : Nat → Nat} {N : Nat} {w : Nat → va_E} (b : Nat) (g kp sv bf sd ip sg mk td lv tl : Nat → Nat) (qs qc qw qd co wy : Nat) (de : Int32) (ca ln : Nat) (fa : Option Nat) (sm pa tm : Nat) (ht dr pg wt wr mo : Nat → Nat) (mc ni po dn : Nat) (hb_m : bkP N w b 12 (MDC E ad b g kp sv bf sd ip sg mk td lv tl qs qc qw qd co wy de ca ln fa sm pa tm)) (hR : mRg g ht pg wt wr mo mc ni po dn)  : gMi l yX13_drained (lw_ws yX13_drained cX13_drained 1 (some .int)) ({ frames := 0, cells := 0, slots := 0, locals := 0 } : Room) E ad N w [.ref (ad (b))] (fun r w' => r = nI dn ∧ bkP N w' b 12 (MDC E ad b g kp sv bf sd ip sg mk td lv tl qs qc qw qd 0 wy de ca ln fa sm pa tm) ∧ gFr (gIn b 12) w w') 0 0 := by
  refine Met.ofW (cc := cX13_drained) (maxL := 1) (ret := (some .int)) (by decide) rfl ?_
  intro p e s m args below meth cd s₁ B hml hv
  obtain ⟨rfl, hI, hP⟩ := hv
  obtain ⟨S, hr, hlocks⟩ := gPre (ws := []) B hml (C := RX13) rfl
  have hx := S.1
  have hb := S.2.1
  have hS : va_S (gA E) s.heap s.heap [] := va_S.rf
  have hfr : gFr (gIn b 12) w w := gFr.rf
  have hl := lv_entry ([.ref (ad (b))]) (n := 1) (Nat.le_of_ble_eq_true rfl)
  rw [lg_entry_eq]
  generalize (lg_sl ([.ref (ad (b))]) ++ List.replicate (1 - (lg_sl ([.ref (ad (b))])).length) Slot.unset).toArray = ls at hl ⊢
  have hl : lv_has ls 1 [(0, .ref (ad (b)))] := hl
  obtain ⟨hgh, hgw, hgp, hgt, hgm, hg3, hg0, hg1, hg2⟩ := id hR
  refine lv_aload_n hx hb dX13_drained_0 rfl (lv_at hl 0 rfl) ?_
  refine g_iconst S 0 dX13_drained_1 (by decide +kernel) ?_
  refine g_put S hI hP hS uX13 rfl tyX13 tyX13_ok nmX13 (fs := _) (hb_m.lt 0 (by decide)) (hb_m.2 0 (by decide)) 9 (by decide) q1796 rfl rfl (v := .int (nI (0))) rfl rfl (Nat.le_of_ble_eq_true rfl) dX13_drained_2 (fun H locs hP hS => ?_)
  have hP : gP E ad N (va_up _ (b) (MDC E ad b g kp sv bf sd ip sg mk td lv tl qs qc qw qd 0 wy de ca ln fa sm pa tm 0)) H := hP
  have hb1 : bkP N (va_up _ (b) (MDC E ad b g kp sv bf sd ip sg mk td lv tl qs qc qw qd 0 wy de ca ln fa sm pa tm 0)) b 12 (MDC E ad b g kp sv bf sd ip sg mk td lv tl qs qc qw qd 0 wy de ca ln fa sm pa tm) := MD_setO hb_m _ _ _ _ _ _ _ _ _ _ _ _ _
  have hfr := hfr.up (p := b) (e := MDC E ad b g kp sv bf sd ip sg mk td lv tl qs qc qw qd 0 wy de ca ln fa sm pa tm 0) (by show _ ∧ _; omega)
  refine lv_aload_n hx hb dX13_drained_5 rfl (lv_at hl 0 rfl) ?_
  refine g_get S hI hP uX13 rfl (fs := _) (hb1.lt 0 (by decide)) (hb1.2 0 (by decide)) 0 (by decide) q1787 rfl (v := .ref (ad (b + 1))) rfl dX13_drained_6 ?_
  refine g_iconst S 2 dX13_drained_9 (by decide +kernel) ?_
  refine g_iald S hI hP (f := fun j => nI (g j)) (hb1.lt 1 (by decide)) (hb1.2 1 (by decide)) (2) (by decide) (by decide) dX13_drained_10 ?_
  rw [hg2]
  exact g_iret S hr hlocks hP hS (⟨rfl, hb1, hfr⟩) (fun _ _ => rfl) (Nat.le_of_ble_eq_true rfl) (Nat.le_of_ble_eq_true rfl) dX13_drained_11
set_option maxHeartbeats 4000000 in
set_option maxRecDepth 100000 in
/-- holes -/
theorem mX13_holes (l : Launch) {E : gE} {ad : Nat → Nat} {N : Nat} {w : Nat → va_E} (b : Nat) (g kp sv bf sd ip sg mk td lv tl : Nat → Nat) (qs qc qw qd co wy : Nat) (de : Int32) (ca ln : Nat) (fa : Option Nat) (sm pa tm : Nat) (ht dr pg wt wr mo : Nat → Nat) (mc ni po dn : Nat) (hb_m : bkP N w b 12 (MDC E ad b g kp sv bf sd ip sg mk td lv tl qs qc qw qd co wy de ca ln fa sm pa tm)) (hR : mRg g ht pg wt wr mo mc ni po dn) (hwr : ∀ k, k < 36 → wr k ≤ 3) : gMi l yX13_holes (lw_ws yX13_holes cX13_holes 1 (some .int)) ({ frames := 2, cells := 0, slots := 0, locals := 43 } : Room) E ad N w [.ref (ad (b))] (fun r w' => r = nI (cnt (fun k => decide (3 ≤ wr k)) 36) ∧ bkP N w' b 12 (MDC E ad b g kp sv bf sd ip sg mk td lv tl qs qc qw qd 0 wy de ca ln fa sm pa tm) ∧ gFr (gIn b 12) w w') 0 0 := by
  refine Met.ofW (cc := cX13_holes) (maxL := 1) (ret := (some .int)) (by decide) rfl ?_
  intro p e s m args below meth cd s₁ B hml hv
  obtain ⟨rfl, hI, hP⟩ := hv
  obtain ⟨S, hr, hlocks⟩ := gPre (ws := []) B hml (C := RX13) rfl
  have hx := S.1
  have hb := S.2.1
  have hS : va_S (gA E) s.heap s.heap [] := va_S.rf
  have hfr : gFr (gIn b 12) w w := gFr.rf
  have hl := lv_entry ([.ref (ad (b))]) (n := 1) (Nat.le_of_ble_eq_true rfl)
  rw [lg_entry_eq]
  generalize (lg_sl ([.ref (ad (b))]) ++ List.replicate (1 - (lg_sl ([.ref (ad (b))])).length) Slot.unset).toArray = ls at hl ⊢
  have hl : lv_has ls 1 [(0, .ref (ad (b)))] := hl
  obtain ⟨hgh, hgw, hgp, hgt, hgm, hg3, hg0, hg1, hg2⟩ := id hR
  refine lv_aload_n hx hb dX13_holes_0 rfl (lv_at hl 0 rfl) ?_
  refine g_iconst S 0 dX13_holes_1 (by decide +kernel) ?_
  refine g_put S hI hP hS uX13 rfl tyX13 tyX13_ok nmX13 (fs := _) (hb_m.lt 0 (by decide)) (hb_m.2 0 (by decide)) 9 (by decide) q1796 rfl rfl (v := .int (nI (0))) rfl rfl (Nat.le_of_ble_eq_true rfl) dX13_holes_2 (fun H locs hP hS => ?_)
  have hP : gP E ad N (va_up _ (b) (MDC E ad b g kp sv bf sd ip sg mk td lv tl qs qc qw qd 0 wy de ca ln fa sm pa tm 0)) H := hP
  have hb1 : bkP N (va_up _ (b) (MDC E ad b g kp sv bf sd ip sg mk td lv tl qs qc qw qd 0 wy de ca ln fa sm pa tm 0)) b 12 (MDC E ad b g kp sv bf sd ip sg mk td lv tl qs qc qw qd 0 wy de ca ln fa sm pa tm) := MD_setO hb_m _ _ _ _ _ _ _ _ _ _ _ _ _
  have hfr := hfr.up (p := b) (e := MDC E ad b g kp sv bf sd ip sg mk td lv tl qs qc qw qd 0 wy de ca ln fa sm pa tm 0) (by show _ ∧ _; omega)
  refine lv_aload_n hx hb dX13_holes_5 rfl (lv_at hl 0 rfl) ?_
  refine g_roi (g_runV S hI hP hS (k := 0) (As := []) (rest := []) (mX13_holesNow l b g kp sv bf sd ip sg mk td lv tl qs qc qw qd 0 wy de ca ln fa sm pa tm ht dr pg wt wr mo mc ni po dn hb1 hR hwr) q2059 q2061 q66 q100 q2062 rfl rfl (by decide +kernel) ⟨Nat.le_of_ble_eq_true rfl, Nat.le_of_ble_eq_true rfl⟩ rfl (hb1.lt 0 (by decide)) (hb1.2 0 (by decide)) rfl hl.1 rfl (Nat.le_of_ble_eq_true rfl) ⟨(Nat.le_of_ble_eq_true rfl), (Nat.le_of_ble_eq_true rfl)⟩ dX13_holes_6) hS (fun H locs hP hS => ?_)
  exact g_iret S hr hlocks hP hS (⟨rfl, hb1, hfr⟩) (fun _ _ => rfl) (Nat.le_of_ble_eq_true rfl) (Nat.le_of_ble_eq_true rfl) dX13_holes_9
set_option maxHeartbeats 4000000 in
set_option maxRecDepth 100000 in
/-- undoCount -/
theorem mX13_undoCount (l : Launch) {E : gE} {ad : Nat → Nat} {N : Nat} {w : Nat → va_E} (b : Nat) (g kp sv bf sd ip sg mk td lv tl : Nat → Nat) (qs qc qw qd co wy : Nat) (de : Int32) (ca ln : Nat) (fa : Option Nat) (sm pa tm : Nat)  (hb_m : bkP N w b 12 (MDC E ad b g kp sv bf sd ip sg mk td lv tl qs qc qw qd co wy de ca ln fa sm pa tm))  : gMi l yX13_undoCount (lw_ws yX13_undoCount cX13_undoCount 1 (some .int)) ({ frames := 0, cells := 0, slots := 0, locals := 0 } : Room) E ad N w [.ref (ad (b))] (fun r w' => r = nI qc ∧ bkP N w' b 12 (MDC E ad b g kp sv bf sd ip sg mk td lv tl qs qc qw qd 0 wy de ca ln fa sm pa tm) ∧ gFr (gIn b 12) w w') 0 0 := by
  refine Met.ofW (cc := cX13_undoCount) (maxL := 1) (ret := (some .int)) (by decide) rfl ?_
  intro p e s m args below meth cd s₁ B hml hv
  obtain ⟨rfl, hI, hP⟩ := hv
  obtain ⟨S, hr, hlocks⟩ := gPre (ws := []) B hml (C := RX13) rfl
  have hx := S.1
  have hb := S.2.1
  have hS : va_S (gA E) s.heap s.heap [] := va_S.rf
  have hfr : gFr (gIn b 12) w w := gFr.rf
  have hl := lv_entry ([.ref (ad (b))]) (n := 1) (Nat.le_of_ble_eq_true rfl)
  rw [lg_entry_eq]
  generalize (lg_sl ([.ref (ad (b))]) ++ List.replicate (1 - (lg_sl ([.ref (ad (b))])).length) Slot.unset).toArray = ls at hl ⊢
  have hl : lv_has ls 1 [(0, .ref (ad (b)))] := hl
  refine lv_aload_n hx hb dX13_undoCount_0 rfl (lv_at hl 0 rfl) ?_
  refine g_iconst S 0 dX13_undoCount_1 (by decide +kernel) ?_
  refine g_put S hI hP hS uX13 rfl tyX13 tyX13_ok nmX13 (fs := _) (hb_m.lt 0 (by decide)) (hb_m.2 0 (by decide)) 9 (by decide) q1796 rfl rfl (v := .int (nI (0))) rfl rfl (Nat.le_of_ble_eq_true rfl) dX13_undoCount_2 (fun H locs hP hS => ?_)
  have hP : gP E ad N (va_up _ (b) (MDC E ad b g kp sv bf sd ip sg mk td lv tl qs qc qw qd 0 wy de ca ln fa sm pa tm 0)) H := hP
  have hb1 : bkP N (va_up _ (b) (MDC E ad b g kp sv bf sd ip sg mk td lv tl qs qc qw qd 0 wy de ca ln fa sm pa tm 0)) b 12 (MDC E ad b g kp sv bf sd ip sg mk td lv tl qs qc qw qd 0 wy de ca ln fa sm pa tm) := MD_setO hb_m _ _ _ _ _ _ _ _ _ _ _ _ _
  have hfr := hfr.up (p := b) (e := MDC E ad b g kp sv bf sd ip sg mk td lv tl qs qc qw qd 0 wy de ca ln fa sm pa tm 0) (by show _ ∧ _; omega)
  refine lv_aload_n hx hb dX13_undoCount_5 rfl (lv_at hl 0 rfl) ?_
  refine g_get S hI hP uX13 rfl (fs := _) (hb1.lt 0 (by decide)) (hb1.2 0 (by decide)) 6 (by decide) q1793 rfl (v := .int (nI (qc))) rfl dX13_undoCount_6 ?_
  exact g_iret S hr hlocks hP hS (⟨rfl, hb1, hfr⟩) (fun _ _ => rfl) (Nat.le_of_ble_eq_true rfl) (Nat.le_of_ble_eq_true rfl) dX13_undoCount_9
set_option maxHeartbeats 4000000 in
set_option maxRecDepth 100000 in
/-- standing -/
theorem mX13_standing (l : Launch) {E : gE} {ad : Nat → Nat} {N : Nat} {w : Nat → va_E} (b : Nat) (g kp sv bf sd ip sg mk td lv tl : Nat → Nat) (qs qc qw qd co wy : Nat) (de : Int32) (ca ln : Nat) (fa : Option Nat) (sm pa tm : Nat) (ht dr pg wt wr mo : Nat → Nat) (mc ni po dn : Nat) (hb_m : bkP N w b 12 (MDC E ad b g kp sv bf sd ip sg mk td lv tl qs qc qw qd co wy de ca ln fa sm pa tm)) (hR : mRg g ht pg wt wr mo mc ni po dn)  : gMi l yX13_standing (lw_ws yX13_standing cX13_standing 3 (some .int)) ({ frames := 0, cells := 0, slots := 0, locals := 0 } : Room) E ad N w [.ref (ad (b))] (fun r w' => r = nI (smN wt 36) ∧ bkP N w' b 12 (MDC E ad b g kp sv bf sd ip sg mk td lv tl qs qc qw qd 0 wy de ca ln fa sm pa tm) ∧ gFr (gIn b 12) w w') 0 0 := by
  refine Met.ofW (cc := cX13_standing) (maxL := 3) (ret := (some .int)) (by decide) rfl ?_
  intro p e s m args below meth cd s₁ B hml hv
  obtain ⟨rfl, hI, hP⟩ := hv
  obtain ⟨S, hr, hlocks⟩ := gPre (ws := []) B hml (C := RX13) rfl
  have hx := S.1
  have hb := S.2.1
  have hS : va_S (gA E) s.heap s.heap [] := va_S.rf
  have hfr : gFr (gIn b 12) w w := gFr.rf
  have hl := lv_entry ([.ref (ad (b))]) (n := 3) (Nat.le_of_ble_eq_true rfl)
  rw [lg_entry_eq]
  generalize (lg_sl ([.ref (ad (b))]) ++ List.replicate (3 - (lg_sl ([.ref (ad (b))])).length) Slot.unset).toArray = ls at hl ⊢
  have hl : lv_has ls 3 [(0, .ref (ad (b)))] := hl
  obtain ⟨hgh, hgw, hgp, hgt, hgm, hg3, hg0, hg1, hg2⟩ := id hR
  refine lv_aload_n hx hb dX13_standing_0 rfl (lv_at hl 0 rfl) ?_
  refine g_iconst S 0 dX13_standing_1 (by decide +kernel) ?_
  refine g_put S hI hP hS uX13 rfl tyX13 tyX13_ok nmX13 (fs := _) (hb_m.lt 0 (by decide)) (hb_m.2 0 (by decide)) 9 (by decide) q1796 rfl rfl (v := .int (nI (0))) rfl rfl (Nat.le_of_ble_eq_true rfl) dX13_standing_2 (fun H locs hP hS => ?_)
  have hP : gP E ad N (va_up _ (b) (MDC E ad b g kp sv bf sd ip sg mk td lv tl qs qc qw qd 0 wy de ca ln fa sm pa tm 0)) H := hP
  have hb1 : bkP N (va_up _ (b) (MDC E ad b g kp sv bf sd ip sg mk td lv tl qs qc qw qd 0 wy de ca ln fa sm pa tm 0)) b 12 (MDC E ad b g kp sv bf sd ip sg mk td lv tl qs qc qw qd 0 wy de ca ln fa sm pa tm) := MD_setO hb_m _ _ _ _ _ _ _ _ _ _ _ _ _
  have hfr := hfr.up (p := b) (e := MDC E ad b g kp sv bf sd ip sg mk td lv tl qs qc qw qd 0 wy de ca ln fa sm pa tm 0) (by show _ ∧ _; omega)
  refine g_iconst S 0 dX13_standing_5 (by decide +kernel) ?_
  refine lv_istore_n (lv' := [(1, .int (nI (0))), (0, .ref (ad (b)))]) hx hb dX13_standing_6 rfl hl (by decide) rfl (fun ls hl => ?_)
  refine g_iconst S 0 dX13_standing_7 (by decide +kernel) ?_
  refine lv_istore_n (lv' := [(2, .int (nI (0))), (1, .int (nI (0))), (0, .ref (ad (b)))]) hx hb dX13_standing_8 rfl hl (by decide) rfl (fun ls hl => ?_)
  have loop2 : ∀ (n : Nat) (i : Nat), 36 - i < n → (i ≤ 36) → ∀ (w1 : Nat → va_E) (H : Heap) (locs : List Loc), gP E ad N w1 H → va_S (gA E) s.heap H locs → bkP N w1 b 12 (MDC E ad b g kp sv bf sd ip sg mk td lv tl qs qc qw qd 0 wy de ca ln fa sm pa tm) → gFr (gIn b 12) w w1 → ∀ (ls : Array Slot), lv_has ls 3 [(2, .int (nI (i))), (1, .int (nI (smN wt i))), (0, .ref (ad (b)))] → W p l e (headSpec (lw_ws yX13_standing cX13_standing 3 (some .int)) ({ frames := 0, cells := 0, slots := 0, locals := 0 } : Room)).room s m ([.ref (ad (b))] : List Value).toArray below meth cd H locs 0 0 (MQ below (va_Qi (fun r w' => r = nI (smN wt 36) ∧ bkP N w' b 12 (MDC E ad b g kp sv bf sd ip sg mk td lv tl qs qc qw qd 0 wy de ca ln fa sm pa tm) ∧ gFr (gIn b 12) w w') (gB E ad N) (gA E)) ([.ref (ad (b))] : List Value).toArray s 0 0 (gA E)) (F0 m 9 ls []) := by
    intro n
    induction n with
    | zero => intro i hmeas; omega
    | succ n ih_loop2 =>
      intro i hmeas hi w1 H locs hP hS hb3 hfr ls hl
      refine lv_iload_n hx hb dX13_standing_9 rfl (lv_at hl 0 rfl) ?_
      refine g_bipush S 36 dX13_standing_10 (by decide +kernel) ?_
      refine g_ge S (a := i) (b := 36) (by omega) (by omega) (tgt := 33) dX13_standing_12 (by decide) (fun h => ?_) (fun h => ?_)
      · have e36 : i = 36 := by omega
        subst e36
        refine lv_iload_n hx hb dX13_standing_33 rfl (lv_at hl 1 rfl) ?_
        exact g_iret S hr hlocks hP hS (⟨rfl, hb3, hfr⟩) (fun _ _ => rfl) (Nat.le_of_ble_eq_true rfl) (Nat.le_of_ble_eq_true rfl) dX13_standing_34
      · refine lv_iload_n hx hb dX13_standing_15 rfl (lv_at hl 1 rfl) ?_
        refine lv_aload_n hx hb dX13_standing_16 rfl (lv_at hl 2 rfl) ?_
        refine g_get S hI hP uX13 rfl (fs := _) (hb3.lt 0 (by decide)) (hb3.2 0 (by decide)) 0 (by decide) q1787 rfl (v := .ref (ad (b + 1))) rfl dX13_standing_17 ?_
        refine g_bipush S 112 dX13_standing_20 (by decide +kernel) ?_
        refine lv_iload_n hx hb dX13_standing_22 rfl (lv_at hl 0 rfl) ?_
        refine g_iadd S dX13_standing_23 ?_
        refine g_iald S hI hP (f := fun j => nI (g j)) (hb3.lt 1 (by decide)) (hb3.2 1 (by decide)) (112 + i) (by omega) (by decide) dX13_standing_24 ?_
        rw [hgt i h]
        refine g_iadd S dX13_standing_25 ?_
        refine lv_istore_n (lv' := [(1, .int (nI (smN wt i + (wt i)))), (2, .int (nI (i))), (0, .ref (ad (b)))]) hx hb dX13_standing_26 rfl hl (by decide) rfl (fun ls hl => ?_)
        refine lv_iinc (v := nI (i + 1)) (lv' := [(2, .int (nI (i + 1))), (1, .int (nI (smN wt i + (wt i)))), (0, .ref (ad (b)))]) hx hb dX13_standing_27 hl (k := 1) rfl (g_inc _ 1 (by decide +kernel)) (by decide) rfl (fun ls hl => ?_)
        refine lv_goto (tgt := 9) hx hb dX13_standing_30 (by decide) ?_
        have hl : lv_has ls 3 [(2, .int (nI (i + 1))), (1, .int (nI (smN wt (i + 1)))), (0, .ref (ad (b)))] := by exact hl
        exact ih_loop2 (i + 1) (by omega) (by omega) _ _ _ hP hS hb3 hfr ls (lv_sub hl [0, 1, 2] rfl)
  exact loop2 (36 - (0) + 1) (0) (Nat.lt_succ_self _) (by omega) _ _ _ hP hS hb1 hfr ls (lv_sub hl [0, 1, 2] rfl)
set_option maxHeartbeats 4000000 in
set_option maxRecDepth 100000 in
/-- meanHeight -/
theorem mX13_meanHeight (l : Launch) {E : gE} {ad : Nat → Nat} {N : Nat} {w : Nat → va_E} (b : Nat) (g kp sv bf sd ip sg mk td lv tl : Nat → Nat) (qs qc qw qd co wy : Nat) (de : Int32) (ca ln : Nat) (fa : Option Nat) (sm pa tm : Nat) (ht dr pg wt wr mo : Nat → Nat) (mc ni po dn : Nat) (hb_m : bkP N w b 12 (MDC E ad b g kp sv bf sd ip sg mk td lv tl qs qc qw qd co wy de ca ln fa sm pa tm)) (hR : mRg g ht pg wt wr mo mc ni po dn) (hht : ∀ k, k < 36 → ht k ≤ 99) : gMd l yX13_meanHeight (lw_ws yX13_meanHeight cX13_meanHeight 3 (some .double)) ({ frames := 1, cells := 0, slots := 0, locals := 21 } : Room) E ad N w [.ref (ad (b))] (fun r w' => r = FP.ddiv (FP.i2d (nI (smN ht 36))) 4630263366890291200 ∧ bkP N w' b 12 (MDC E ad b g kp sv bf sd ip sg mk td lv tl qs qc qw qd 0 wy de ca ln fa sm pa tm) ∧ gFr (gIn b 12) w w') 0 0 := by
  refine Met.ofW (cc := cX13_meanHeight) (maxL := 3) (ret := (some .double)) (by decide) rfl ?_
  intro p e s m args below meth cd s₁ B hml hv
  obtain ⟨rfl, hI, hP⟩ := hv
  obtain ⟨S, hr, hlocks⟩ := gPre (ws := []) B hml (C := RX13) rfl
  have hx := S.1
  have hb := S.2.1
  have hS : va_S (gA E) s.heap s.heap [] := va_S.rf
  have hfr : gFr (gIn b 12) w w := gFr.rf
  have hl := lv_entry ([.ref (ad (b))]) (n := 3) (Nat.le_of_ble_eq_true rfl)
  rw [lg_entry_eq]
  generalize (lg_sl ([.ref (ad (b))]) ++ List.replicate (3 - (lg_sl ([.ref (ad (b))])).length) Slot.unset).toArray = ls at hl ⊢
  have hl : lv_has ls 3 [(0, .ref (ad (b)))] := hl
  obtain ⟨hgh, hgw, hgp, hgt, hgm, hg3, hg0, hg1, hg2⟩ := id hR
  refine lv_aload_n hx hb dX13_meanHeight_0 rfl (lv_at hl 0 rfl) ?_
  refine g_iconst S 0 dX13_meanHeight_1 (by decide +kernel) ?_
  refine g_put S hI hP hS uX13 rfl tyX13 tyX13_ok nmX13 (fs := _) (hb_m.lt 0 (by decide)) (hb_m.2 0 (by decide)) 9 (by decide) q1796 rfl rfl (v := .int (nI (0))) rfl rfl (Nat.le_of_ble_eq_true rfl) dX13_meanHeight_2 (fun H locs hP hS => ?_)
  have hP : gP E ad N (va_up _ (b) (MDC E ad b g kp sv bf sd ip sg mk td lv tl qs qc qw qd 0 wy de ca ln fa sm pa tm 0)) H := hP
  have hb1 : bkP N (va_up _ (b) (MDC E ad b g kp sv bf sd ip sg mk td lv tl qs qc qw qd 0 wy de ca ln fa sm pa tm 0)) b 12 (MDC E ad b g kp sv bf sd ip sg mk td lv tl qs qc qw qd 0 wy de ca ln fa sm pa tm) := MD_setO hb_m _ _ _ _ _ _ _ _ _ _ _ _ _
  have hfr := hfr.up (p := b) (e := MDC E ad b g kp sv bf sd ip sg mk td lv tl qs qc qw qd 0 wy de ca ln fa sm pa tm 0) (by show _ ∧ _; omega)
  refine g_iconst S 0 dX13_meanHeight_5 (by decide +kernel) ?_
  refine lv_istore_n (lv' := [(1, .int (nI (0))), (0, .ref (ad (b)))]) hx hb dX13_meanHeight_6 rfl hl (by decide) rfl (fun ls hl => ?_)
  refine g_iconst S 0 dX13_meanHeight_7 (by decide +kernel) ?_
  refine lv_istore_n (lv' := [(2, .int (nI (0))), (1, .int (nI (0))), (0, .ref (ad (b)))]) hx hb dX13_meanHeight_8 rfl hl (by decide) rfl (fun ls hl => ?_)
  have loop2 : ∀ (n : Nat) (i : Nat), 36 - i < n → (i ≤ 36) → ∀ (w1 : Nat → va_E) (H : Heap) (locs : List Loc), gP E ad N w1 H → va_S (gA E) s.heap H locs → bkP N w1 b 12 (MDC E ad b g kp sv bf sd ip sg mk td lv tl qs qc qw qd 0 wy de ca ln fa sm pa tm) → gFr (gIn b 12) w w1 → ∀ (ls : Array Slot), lv_has ls 3 [(2, .int (nI (i))), (1, .int (nI (smN ht i))), (0, .ref (ad (b)))] → W p l e (headSpec (lw_ws yX13_meanHeight cX13_meanHeight 3 (some .double)) ({ frames := 1, cells := 0, slots := 0, locals := 21 } : Room)).room s m ([.ref (ad (b))] : List Value).toArray below meth cd H locs 0 0 (MQ below (va_Qd (fun r w' => r = FP.ddiv (FP.i2d (nI (smN ht 36))) 4630263366890291200 ∧ bkP N w' b 12 (MDC E ad b g kp sv bf sd ip sg mk td lv tl qs qc qw qd 0 wy de ca ln fa sm pa tm) ∧ gFr (gIn b 12) w w') (gB E ad N) (gA E)) ([.ref (ad (b))] : List Value).toArray s 0 0 (gA E)) (F0 m 9 ls []) := by
    intro n
    induction n with
    | zero => intro i hmeas; omega
    | succ n ih_loop2 =>
      intro i hmeas hi w1 H locs hP hS hb3 hfr ls hl
      refine lv_iload_n hx hb dX13_meanHeight_9 rfl (lv_at hl 0 rfl) ?_
      refine g_bipush S 36 dX13_meanHeight_10 (by decide +kernel) ?_
      refine g_ge S (a := i) (b := 36) (by omega) (by omega) (tgt := 29) dX13_meanHeight_12 (by decide) (fun h => ?_) (fun h => ?_)
      · have e36 : i = 36 := by omega
        subst e36
        refine lv_iload_n hx hb dX13_meanHeight_29 rfl (lv_at hl 1 rfl) ?_
        refine lv_i2d hx hb dX13_meanHeight_30 ?_
        refine lv_ldc2d (v := 4630263366890291200) hx hb S.2.2.2.1 (S.2.2.2.2 _ q2131) dX13_meanHeight_31 ?_
        have hsm := smN_bound (f := ht) (n := 36) hht
        refine lv_ddiv hx hb dX13_meanHeight_34 (by rw [← mh_lit]; exact mh_num _ (by omega)) ?_
        exact g_dret S hr hlocks hP hS (⟨rfl, hb3, hfr⟩) (fun _ _ => rfl) (Nat.le_of_ble_eq_true rfl) (Nat.le_of_ble_eq_true rfl) dX13_meanHeight_35
      · refine lv_iload_n hx hb dX13_meanHeight_15 rfl (lv_at hl 1 rfl) ?_
        refine lv_aload_n hx hb dX13_meanHeight_16 rfl (lv_at hl 2 rfl) ?_
        refine lv_iload_n hx hb dX13_meanHeight_17 rfl (lv_at hl 0 rfl) ?_
        refine g_roi (g_runV S hI hP hS (k := 1) (As := [.int (nI (i))]) (rest := [.int (nI (smN ht i))]) (mX13_high l b g kp sv bf sd ip sg mk td lv tl qs qc qw qd 0 wy de ca ln fa sm pa tm i (ht i) hb3 h (hgh i h)) q1882 q1884 q50 q100 q1885 rfl rfl (by decide +kernel) ⟨Nat.le_of_ble_eq_true rfl, Nat.le_of_ble_eq_true rfl⟩ rfl (hb3.lt 0 (by decide)) (hb3.2 0 (by decide)) rfl hl.1 rfl (Nat.le_of_ble_eq_true rfl) ⟨(Nat.le_of_ble_eq_true rfl), (Nat.le_of_ble_eq_true rfl)⟩ dX13_meanHeight_18) hS (fun H locs hP hS => ?_)
        refine g_iadd S dX13_meanHeight_21 ?_
        refine lv_istore_n (lv' := [(1, .int (nI (smN ht i + (ht i)))), (2, .int (nI (i))), (0, .ref (ad (b)))]) hx hb dX13_meanHeight_22 rfl hl (by decide) rfl (fun ls hl => ?_)
        refine lv_iinc (v := nI (i + 1)) (lv' := [(2, .int (nI (i + 1))), (1, .int (nI (smN ht i + (ht i)))), (0, .ref (ad (b)))]) hx hb dX13_meanHeight_23 hl (k := 1) rfl (g_inc _ 1 (by decide +kernel)) (by decide) rfl (fun ls hl => ?_)
        refine lv_goto (tgt := 9) hx hb dX13_meanHeight_26 (by decide) ?_
        have hl : lv_has ls 3 [(2, .int (nI (i + 1))), (1, .int (nI (smN ht (i + 1)))), (0, .ref (ad (b)))] := by exact hl
        exact ih_loop2 (i + 1) (by omega) (by omega) _ _ _ hP hS hb3 hfr ls (lv_sub hl [0, 1, 2] rfl)
  exact loop2 (36 - (0) + 1) (0) (Nat.lt_succ_self _) (by omega) _ _ _ hP hS hb1 hfr ls (lv_sub hl [0, 1, 2] rfl)
set_option maxHeartbeats 4000000 in
set_option maxRecDepth 100000 in
/-- basins -/
theorem mX13_basins (l : Launch) {E : gE} {ad : Nat → Nat} {N : Nat} {w : Nat → va_E} (b : Nat) (g kp sv bf sd ip sg mk td lv tl : Nat → Nat) (qs qc qw qd co wy : Nat) (de : Int32) (ca ln : Nat) (fa : Option Nat) (sm pa tm : Nat) (ht dr pg wt wr mo : Nat → Nat) (mc ni po dn : Nat) (hb_m : bkP N w b 12 (MDC E ad b g kp sv bf sd ip sg mk td lv tl qs qc qw qd co wy de ca ln fa sm pa tm)) (hR : mRg g ht pg wt wr mo mc ni po dn) (hht : ∀ k, k < 36 → ht k ≤ 99) (hwr : ∀ k, k < 36 → wr k ≤ 3) : gMi l yX13_basins (lw_ws yX13_basins cX13_basins 3 (some .int)) ({ frames := 4, cells := 0, slots := 0, locals := 90 } : Room) E ad N w [.ref (ad (b))] (fun r w' => r = nI (cnt (fun k => (flow ht wr k).isNone) 36) ∧ bkP N w' b 12 (MDC E ad b g kp sv bf sd ip sg mk td lv tl qs qc qw qd 0 wy de ca ln fa sm pa tm) ∧ gFr (gIn b 12) w w') 0 0 := by
  refine Met.ofW (cc := cX13_basins) (maxL := 3) (ret := (some .int)) (by decide) rfl ?_
  intro p e s m args below meth cd s₁ B hml hv
  obtain ⟨rfl, hI, hP⟩ := hv
  obtain ⟨S, hr, hlocks⟩ := gPre (ws := []) B hml (C := RX13) rfl
  have hx := S.1
  have hb := S.2.1
  have hS : va_S (gA E) s.heap s.heap [] := va_S.rf
  have hfr : gFr (gIn b 12) w w := gFr.rf
  have hl := lv_entry ([.ref (ad (b))]) (n := 3) (Nat.le_of_ble_eq_true rfl)
  rw [lg_entry_eq]
  generalize (lg_sl ([.ref (ad (b))]) ++ List.replicate (3 - (lg_sl ([.ref (ad (b))])).length) Slot.unset).toArray = ls at hl ⊢
  have hl : lv_has ls 3 [(0, .ref (ad (b)))] := hl
  obtain ⟨hgh, hgw, hgp, hgt, hgm, hg3, hg0, hg1, hg2⟩ := id hR
  refine lv_aload_n hx hb dX13_basins_0 rfl (lv_at hl 0 rfl) ?_
  refine g_iconst S 0 dX13_basins_1 (by decide +kernel) ?_
  refine g_put S hI hP hS uX13 rfl tyX13 tyX13_ok nmX13 (fs := _) (hb_m.lt 0 (by decide)) (hb_m.2 0 (by decide)) 9 (by decide) q1796 rfl rfl (v := .int (nI (0))) rfl rfl (Nat.le_of_ble_eq_true rfl) dX13_basins_2 (fun H locs hP hS => ?_)
  have hP : gP E ad N (va_up _ (b) (MDC E ad b g kp sv bf sd ip sg mk td lv tl qs qc qw qd 0 wy de ca ln fa sm pa tm 0)) H := hP
  have hb1 : bkP N (va_up _ (b) (MDC E ad b g kp sv bf sd ip sg mk td lv tl qs qc qw qd 0 wy de ca ln fa sm pa tm 0)) b 12 (MDC E ad b g kp sv bf sd ip sg mk td lv tl qs qc qw qd 0 wy de ca ln fa sm pa tm) := MD_setO hb_m _ _ _ _ _ _ _ _ _ _ _ _ _
  have hfr := hfr.up (p := b) (e := MDC E ad b g kp sv bf sd ip sg mk td lv tl qs qc qw qd 0 wy de ca ln fa sm pa tm 0) (by show _ ∧ _; omega)
  refine g_iconst S 0 dX13_basins_5 (by decide +kernel) ?_
  refine lv_istore_n (lv' := [(1, .int (nI (0))), (0, .ref (ad (b)))]) hx hb dX13_basins_6 rfl hl (by decide) rfl (fun ls hl => ?_)
  refine g_iconst S 0 dX13_basins_7 (by decide +kernel) ?_
  refine lv_istore_n (lv' := [(2, .int (nI (0))), (1, .int (nI (0))), (0, .ref (ad (b)))]) hx hb dX13_basins_8 rfl hl (by decide) rfl (fun ls hl => ?_)
  have loop2 : ∀ (n : Nat) (i : Nat), 36 - i < n → (i ≤ 36) → ∀ (w1 : Nat → va_E) (H : Heap) (locs : List Loc), gP E ad N w1 H → va_S (gA E) s.heap H locs → bkP N w1 b 12 (MDC E ad b g kp sv bf sd ip sg mk td lv tl qs qc qw qd 0 wy de ca ln fa sm pa tm) → gFr (gIn b 12) w w1 → ∀ (ls : Array Slot), lv_has ls 3 [(2, .int (nI (i))), (1, .int (nI (cnt (fun k => (flow ht wr k).isNone) i))), (0, .ref (ad (b)))] → W p l e (headSpec (lw_ws yX13_basins cX13_basins 3 (some .int)) ({ frames := 4, cells := 0, slots := 0, locals := 90 } : Room)).room s m ([.ref (ad (b))] : List Value).toArray below meth cd H locs 0 0 (MQ below (va_Qi (fun r w' => r = nI (cnt (fun k => (flow ht wr k).isNone) 36) ∧ bkP N w' b 12 (MDC E ad b g kp sv bf sd ip sg mk td lv tl qs qc qw qd 0 wy de ca ln fa sm pa tm) ∧ gFr (gIn b 12) w w') (gB E ad N) (gA E)) ([.ref (ad (b))] : List Value).toArray s 0 0 (gA E)) (F0 m 9 ls []) := by
    intro n
    induction n with
    | zero => intro i hmeas; omega
    | succ n ih_loop2 =>
      intro i hmeas hi w1 H locs hP hS hb3 hfr ls hl
      refine lv_iload_n hx hb dX13_basins_9 rfl (lv_at hl 0 rfl) ?_
      refine g_bipush S 36 dX13_basins_10 (by decide +kernel) ?_
      refine g_ge S (a := i) (b := 36) (by omega) (by omega) (tgt := 38) dX13_basins_12 (by decide) (fun h => ?_) (fun h => ?_)
      · have e36 : i = 36 := by omega
        subst e36
        refine lv_iload_n hx hb dX13_basins_38 rfl (lv_at hl 1 rfl) ?_
        exact g_iret S hr hlocks hP hS (⟨rfl, hb3, hfr⟩) (fun _ _ => rfl) (Nat.le_of_ble_eq_true rfl) (Nat.le_of_ble_eq_true rfl) dX13_basins_39
      · refine lv_iload_n hx hb dX13_basins_15 rfl (lv_at hl 1 rfl) ?_
        refine lv_aload_n hx hb dX13_basins_16 rfl (lv_at hl 2 rfl) ?_
        refine lv_iload_n hx hb dX13_basins_17 rfl (lv_at hl 0 rfl) ?_
        have hcl := cnt_le (fun k => (flow ht wr k).isNone) i
        have hnl := nxtN_lt (ht := ht) (wr := wr) h
        refine g_roi (g_runV S hI hP hS (k := 1) (As := [.int (nI (i))]) (rest := [.int (nI (cnt (fun k => (flow ht wr k).isNone) i))]) (mX13_next l b g kp sv bf sd ip sg mk td lv tl qs qc qw qd 0 wy de ca ln fa sm pa tm ht dr pg wt wr mo mc ni po dn i hb3 h hR hht hwr) q1964 q1966 q59 q100 q1967 rfl rfl (by decide +kernel) ⟨Nat.le_of_ble_eq_true rfl, Nat.le_of_ble_eq_true rfl⟩ rfl (hb3.lt 0 (by decide)) (hb3.2 0 (by decide)) rfl hl.1 rfl (Nat.le_of_ble_eq_true rfl) ⟨(Nat.le_of_ble_eq_true rfl), (Nat.le_of_ble_eq_true rfl)⟩ dX13_basins_18) hS (fun H locs hP hS => ?_)
        refine lv_iload_n hx hb dX13_basins_21 rfl (lv_at hl 0 rfl) ?_
        refine g_ne S (a := nxtN ht wr i) (b := i) (by omega) (by omega) (tgt := 29) dX13_basins_22 (by decide) (fun h9 => ?_) (fun h9 => ?_)
        · refine g_iconst S 0 dX13_basins_29 (by decide +kernel) ?_
          refine g_iadd S dX13_basins_30 ?_
          refine lv_istore_n (lv' := [(1, .int (nI (cnt (fun k => (flow ht wr k).isNone) i + 0))), (2, .int (nI (i))), (0, .ref (ad (b)))]) hx hb dX13_basins_31 rfl hl (by decide) rfl (fun ls hl => ?_)
          refine lv_iinc (v := nI (i + 1)) (lv' := [(2, .int (nI (i + 1))), (1, .int (nI (cnt (fun k => (flow ht wr k).isNone) i + 0))), (0, .ref (ad (b)))]) hx hb dX13_basins_32 hl (k := 1) rfl (g_inc _ 1 (by decide +kernel)) (by decide) rfl (fun ls hl => ?_)
          refine lv_goto (tgt := 9) hx hb dX13_basins_35 (by decide) ?_
          have hl : lv_has ls 3 [(2, .int (nI (i + 1))), (1, .int (nI (cnt (fun k => (flow ht wr k).isNone) (i + 1)))), (0, .ref (ad (b)))] := by rw [show cnt (fun k => (flow ht wr k).isNone) (i + 1) = cnt (fun k => (flow ht wr k).isNone) i + 0 from cnt_n (by cases q : flow ht wr i with | none => exact absurd (nxtN_eq.mpr q) h9 | some k => rfl)]; exact hl
          exact ih_loop2 (i + 1) (by omega) (by omega) _ _ _ hP hS hb3 hfr ls (lv_sub hl [0, 1, 2] rfl)
        · refine g_iconst S 1 dX13_basins_25 (by decide +kernel) ?_
          refine lv_goto (tgt := 30) hx hb dX13_basins_26 (by decide) ?_
          refine g_iadd S dX13_basins_30 ?_
          refine lv_istore_n (lv' := [(1, .int (nI (cnt (fun k => (flow ht wr k).isNone) i + 1))), (2, .int (nI (i))), (0, .ref (ad (b)))]) hx hb dX13_basins_31 rfl hl (by decide) rfl (fun ls hl => ?_)
          refine lv_iinc (v := nI (i + 1)) (lv' := [(2, .int (nI (i + 1))), (1, .int (nI (cnt (fun k => (flow ht wr k).isNone) i + 1))), (0, .ref (ad (b)))]) hx hb dX13_basins_32 hl (k := 1) rfl (g_inc _ 1 (by decide +kernel)) (by decide) rfl (fun ls hl => ?_)
          refine lv_goto (tgt := 9) hx hb dX13_basins_35 (by decide) ?_
          have hl : lv_has ls 3 [(2, .int (nI (i + 1))), (1, .int (nI (cnt (fun k => (flow ht wr k).isNone) (i + 1)))), (0, .ref (ad (b)))] := by rw [show cnt (fun k => (flow ht wr k).isNone) (i + 1) = cnt (fun k => (flow ht wr k).isNone) i + 1 from cnt_y (by rw [nxtN_eq.mp h9]; rfl)]; exact hl
          exact ih_loop2 (i + 1) (by omega) (by omega) _ _ _ hP hS hb3 hfr ls (lv_sub hl [0, 1, 2] rfl)
  exact loop2 (36 - (0) + 1) (0) (Nat.lt_succ_self _) (by omega) _ _ _ hP hS hb1 hfr ls (lv_sub hl [0, 1, 2] rfl)
set_option maxHeartbeats 4000000 in
set_option maxRecDepth 100000 in
/-- basin -/
theorem mX13_basin (l : Launch) {E : gE} {ad : Nat → Nat} {N : Nat} {w : Nat → va_E} (b : Nat) (g kp sv bf sd ip sg mk td lv tl : Nat → Nat) (qs qc qw qd co wy : Nat) (de : Int32) (ca ln : Nat) (fa : Option Nat) (sm pa tm : Nat) (ht dr pg wt wr mo : Nat → Nat) (mc ni po dn : Nat) (x y : Int32) (hb_m : bkP N w b 12 (MDC E ad b g kp sv bf sd ip sg mk td lv tl qs qc qw qd co wy de ca ln fa sm pa tm)) (hR : mRg g ht pg wt wr mo mc ni po dn) (hht : ∀ k, k < 36 → ht k ≤ 99) (hwr : ∀ k, k < 36 → wr k ≤ 3) : gMi l yX13_basin (lw_ws yX13_basin cX13_basin 6 (some .int)) ({ frames := 5, cells := 0, slots := 0, locals := 112 } : Room) E ad N w [.ref (ad (b)), .int (x), .int (y)] (fun r w' => ((∃ k, cellV x y = some k ∧ r = nI (cnt (fun j => endN ht wr 36 j == endN ht wr 36 k) 36) ∧ bkP N w' b 12 (MDC E ad b g kp sv bf sd ip sg mk td lv tl qs qc qw 0 0 wy de ca ln fa sm pa tm)) ∨ (cellV x y = none ∧ bkP N w' b 12 (MDC E ad b g kp sv bf sd ip sg mk td lv tl qs qc qw 0 1 wy de ca ln fa sm pa tm))) ∧ gFr (gIn b 12) w w') 0 0 := by
  refine Met.ofW (cc := cX13_basin) (maxL := 6) (ret := (some .int)) (by decide) rfl ?_
  intro p e s m args below meth cd s₁ B hml hv
  obtain ⟨rfl, hI, hP⟩ := hv
  obtain ⟨S, hr, hlocks⟩ := gPre (ws := []) B hml (C := RX13) rfl
  have hx := S.1
  have hb := S.2.1
  have hS : va_S (gA E) s.heap s.heap [] := va_S.rf
  have hfr : gFr (gIn b 12) w w := gFr.rf
  have hl := lv_entry ([.ref (ad (b)), .int (x), .int (y)]) (n := 6) (Nat.le_of_ble_eq_true rfl)
  rw [lg_entry_eq]
  generalize (lg_sl ([.ref (ad (b)), .int (x), .int (y)]) ++ List.replicate (6 - (lg_sl ([.ref (ad (b)), .int (x), .int (y)])).length) Slot.unset).toArray = ls at hl ⊢
  have hl : lv_has ls 6 [(0, .ref (ad (b))), (1, .int (x)), (2, .int (y))] := hl
  obtain ⟨hgh, hgw, hgp, hgt, hgm, hg3, hg0, hg1, hg2⟩ := id hR
  refine lv_aload_n hx hb dX13_basin_0 rfl (lv_at hl 0 rfl) ?_
  refine lv_iload_n hx hb dX13_basin_1 rfl (lv_at hl 1 rfl) ?_
  refine lv_iload_n hx hb dX13_basin_2 rfl (lv_at hl 2 rfl) ?_
  refine g_afi (g_runV S hI hP hS (k := 2) (As := [.int (x), .int (y)]) (rest := []) (mX13_isNone l b g kp sv bf sd ip sg mk td lv tl qs qc qw qd co wy de ca ln fa sm pa tm x y hb_m ) q1868 q1870 q48 q100 q1871 rfl rfl (by decide +kernel) ⟨Nat.le_of_ble_eq_true rfl, Nat.le_of_ble_eq_true rfl⟩ rfl (hb_m.lt 0 (by decide)) (hb_m.2 0 (by decide)) rfl hl.1 rfl (Nat.le_of_ble_eq_true rfl) ⟨(Nat.le_of_ble_eq_true rfl), (Nat.le_of_ble_eq_true rfl)⟩ dX13_basin_3) hS (fun rz w1 H locs hq hP hS => ?_)
  obtain ⟨hr3, hb1, hf2⟩ := hq
  rw [hr3]
  have hfr := hfr.trans hf2 (fun q hq => by (try simp only [gIn] at hq ⊢); (try dsimp only at hq ⊢); omega)
  refine g_beq S (b := (cellV x y).isNone) (tgt := 11) dX13_basin_6 (by decide) (fun h1 => ?_) (fun h1 => ?_)
  · obtain ⟨k, hck⟩ : ∃ k, cellV x y = some k := by cases q : cellV x y with | none => (rw [q] at h1; cases h1) | some a => exact ⟨a, rfl⟩
    have hk36 := cellV_lt hck
    rw [if_pos (show (cellV x y).isSome = true by rw [hck]; rfl)] at hb1
    (try rw [if_pos (show (cellV x y).isSome = true by rw [hck]; rfl)] at hP)
    (try rw [if_pos (show (cellV x y).isSome = true by rw [hck]; rfl)] at hfr)
    refine lv_aload_n hx hb dX13_basin_11 rfl (lv_at hl 0 rfl) ?_
    refine g_bipush S 6 dX13_basin_12 (by decide +kernel) ?_
    refine lv_iload_n hx hb dX13_basin_14 rfl (lv_at hl 1 rfl) ?_
    refine lv_imul hx hb dX13_basin_15 ?_
    refine lv_iload_n hx hb dX13_basin_16 rfl (lv_at hl 2 rfl) ?_
    refine lv_iadd hx hb dX13_basin_17 ?_
    rw [cell6 hck]
    refine g_roi (g_runV S hI hP hS (k := 1) (As := [.int (nI (k))]) (rest := []) (mX13_end l b g kp sv bf sd ip sg mk td lv tl qs qc qw 0 0 wy de ca ln fa sm pa tm ht dr pg wt wr mo mc ni po dn k hb1 hk36 hR hht hwr) q1960 q1962 q58 q100 q1963 rfl rfl (by decide +kernel) ⟨Nat.le_of_ble_eq_true rfl, Nat.le_of_ble_eq_true rfl⟩ rfl (hb1.lt 0 (by decide)) (hb1.2 0 (by decide)) rfl hl.1 rfl (Nat.le_of_ble_eq_true rfl) ⟨(Nat.le_of_ble_eq_true rfl), (Nat.le_of_ble_eq_true rfl)⟩ dX13_basin_18) hS (fun H locs hP hS => ?_)
    have he36 := endN_lt (ht := ht) (wr := wr) (n := 36) hk36
    refine lv_istore_n (lv' := [(3, .int (nI (endN ht wr 36 k))), (0, .ref (ad (b))), (1, .int (x)), (2, .int (y))]) hx hb dX13_basin_21 rfl hl (by decide) rfl (fun ls hl => ?_)
    refine g_iconst S 0 dX13_basin_22 (by decide +kernel) ?_
    refine lv_istore (lv' := [(4, .int (nI (0))), (3, .int (nI (endN ht wr 36 k))), (0, .ref (ad (b))), (1, .int (x)), (2, .int (y))]) hx hb dX13_basin_23 hl (by decide) rfl (fun ls hl => ?_)
    refine g_iconst S 0 dX13_basin_25 (by decide +kernel) ?_
    refine lv_istore (lv' := [(5, .int (nI (0))), (4, .int (nI (0))), (3, .int (nI (endN ht wr 36 k))), (0, .ref (ad (b))), (1, .int (x)), (2, .int (y))]) hx hb dX13_basin_26 hl (by decide) rfl (fun ls hl => ?_)
    have loop4 : ∀ (n : Nat) (i : Nat), 36 - i < n → (i ≤ 36) → ∀ (w1 : Nat → va_E) (H : Heap) (locs : List Loc), gP E ad N w1 H → va_S (gA E) s.heap H locs → bkP N w1 b 12 (MDC E ad b g kp sv bf sd ip sg mk td lv tl qs qc qw 0 0 wy de ca ln fa sm pa tm) → gFr (gIn b 12) w w1 → ∀ (ls : Array Slot), lv_has ls 6 [(5, .int (nI (i))), (4, .int (nI (cnt (fun j => endN ht wr 36 j == endN ht wr 36 k) i))), (3, .int (nI (endN ht wr 36 k))), (0, .ref (ad (b)))] → W p l e (headSpec (lw_ws yX13_basin cX13_basin 6 (some .int)) ({ frames := 5, cells := 0, slots := 0, locals := 112 } : Room)).room s m ([.ref (ad (b)), .int (x), .int (y)] : List Value).toArray below meth cd H locs 0 0 (MQ below (va_Qi (fun r w' => ((∃ k, cellV x y = some k ∧ r = nI (cnt (fun j => endN ht wr 36 j == endN ht wr 36 k) 36) ∧ bkP N w' b 12 (MDC E ad b g kp sv bf sd ip sg mk td lv tl qs qc qw 0 0 wy de ca ln fa sm pa tm)) ∨ (cellV x y = none ∧ bkP N w' b 12 (MDC E ad b g kp sv bf sd ip sg mk td lv tl qs qc qw 0 1 wy de ca ln fa sm pa tm))) ∧ gFr (gIn b 12) w w') (gB E ad N) (gA E)) ([.ref (ad (b)), .int (x), .int (y)] : List Value).toArray s 0 0 (gA E)) (F0 m 28 ls []) := by
      intro n
      induction n with
      | zero => intro i hmeas; omega
      | succ n ih_loop4 =>
        intro i hmeas hi w1 H locs hP hS hb5 hfr ls hl
        have hcl := cnt_le (fun j => endN ht wr 36 j == endN ht wr 36 k) i
        refine lv_iload hx hb dX13_basin_28 (lv_at hl 0 rfl) ?_
        refine g_bipush S 36 dX13_basin_30 (by decide +kernel) ?_
        refine g_ge S (a := i) (b := 36) (by omega) (by omega) (tgt := 61) dX13_basin_32 (by decide) (fun h => ?_) (fun h => ?_)
        · have e36 : i = 36 := by omega
          subst e36
          refine lv_iload hx hb dX13_basin_61 (lv_at hl 1 rfl) ?_
          exact g_iret S hr hlocks hP hS (⟨Or.inl ⟨k, hck, rfl, hb5⟩, hfr⟩) (fun _ _ => rfl) (Nat.le_of_ble_eq_true rfl) (Nat.le_of_ble_eq_true rfl) dX13_basin_63
        · have hei := endN_lt (ht := ht) (wr := wr) (n := 36) h
          refine lv_iload hx hb dX13_basin_35 (lv_at hl 1 rfl) ?_
          refine lv_aload_n hx hb dX13_basin_37 rfl (lv_at hl 3 rfl) ?_
          refine lv_iload hx hb dX13_basin_38 (lv_at hl 0 rfl) ?_
          refine g_roi (g_runV S hI hP hS (k := 1) (As := [.int (nI (i))]) (rest := [.int (nI (cnt (fun j => endN ht wr 36 j == endN ht wr 36 k) i))]) (mX13_end l b g kp sv bf sd ip sg mk td lv tl qs qc qw 0 0 wy de ca ln fa sm pa tm ht dr pg wt wr mo mc ni po dn i hb5 h hR hht hwr) q1960 q1962 q58 q100 q1963 rfl rfl (by decide +kernel) ⟨Nat.le_of_ble_eq_true rfl, Nat.le_of_ble_eq_true rfl⟩ rfl (hb5.lt 0 (by decide)) (hb5.2 0 (by decide)) rfl hl.1 rfl (Nat.le_of_ble_eq_true rfl) ⟨(Nat.le_of_ble_eq_true rfl), (Nat.le_of_ble_eq_true rfl)⟩ dX13_basin_40) hS (fun H locs hP hS => ?_)
          refine lv_iload_n hx hb dX13_basin_43 rfl (lv_at hl 2 rfl) ?_
          refine g_ne S (a := endN ht wr 36 i) (b := endN ht wr 36 k) (by omega) (by omega) (tgt := 51) dX13_basin_44 (by decide) (fun h9 => ?_) (fun h9 => ?_)
          · refine g_iconst S 0 dX13_basin_51 (by decide +kernel) ?_
            refine g_iadd S dX13_basin_52 ?_
            refine lv_istore (lv' := [(4, .int (nI (cnt (fun j => endN ht wr 36 j == endN ht wr 36 k) i + 0))), (5, .int (nI (i))), (3, .int (nI (endN ht wr 36 k))), (0, .ref (ad (b)))]) hx hb dX13_basin_53 hl (by decide) rfl (fun ls hl => ?_)
            refine lv_iinc (v := nI (i + 1)) (lv' := [(5, .int (nI (i + 1))), (4, .int (nI (cnt (fun j => endN ht wr 36 j == endN ht wr 36 k) i + 0))), (3, .int (nI (endN ht wr 36 k))), (0, .ref (ad (b)))]) hx hb dX13_basin_55 hl (k := 1) rfl (g_inc _ 1 (by decide +kernel)) (by decide) rfl (fun ls hl => ?_)
            refine lv_goto (tgt := 28) hx hb dX13_basin_58 (by decide) ?_
            have hl : lv_has ls 6 [(5, .int (nI (i + 1))), (4, .int (nI (cnt (fun j => endN ht wr 36 j == endN ht wr 36 k) (i + 1)))), (3, .int (nI (endN ht wr 36 k))), (0, .ref (ad (b)))] := by rw [show cnt (fun j => endN ht wr 36 j == endN ht wr 36 k) (i + 1) = cnt (fun j => endN ht wr 36 j == endN ht wr 36 k) i + 0 from cnt_n (by simpa using h9)]; exact hl
            exact ih_loop4 (i + 1) (by omega) (by omega) _ _ _ hP hS hb5 hfr ls (lv_sub hl [0, 1, 2, 3] rfl)
          · refine g_iconst S 1 dX13_basin_47 (by decide +kernel) ?_
            refine lv_goto (tgt := 52) hx hb dX13_basin_48 (by decide) ?_
            refine g_iadd S dX13_basin_52 ?_
            refine lv_istore (lv' := [(4, .int (nI (cnt (fun j => endN ht wr 36 j == endN ht wr 36 k) i + 1))), (5, .int (nI (i))), (3, .int (nI (endN ht wr 36 k))), (0, .ref (ad (b)))]) hx hb dX13_basin_53 hl (by decide) rfl (fun ls hl => ?_)
            refine lv_iinc (v := nI (i + 1)) (lv' := [(5, .int (nI (i + 1))), (4, .int (nI (cnt (fun j => endN ht wr 36 j == endN ht wr 36 k) i + 1))), (3, .int (nI (endN ht wr 36 k))), (0, .ref (ad (b)))]) hx hb dX13_basin_55 hl (k := 1) rfl (g_inc _ 1 (by decide +kernel)) (by decide) rfl (fun ls hl => ?_)
            refine lv_goto (tgt := 28) hx hb dX13_basin_58 (by decide) ?_
            have hl : lv_has ls 6 [(5, .int (nI (i + 1))), (4, .int (nI (cnt (fun j => endN ht wr 36 j == endN ht wr 36 k) (i + 1)))), (3, .int (nI (endN ht wr 36 k))), (0, .ref (ad (b)))] := by rw [show cnt (fun j => endN ht wr 36 j == endN ht wr 36 k) (i + 1) = cnt (fun j => endN ht wr 36 j == endN ht wr 36 k) i + 1 from cnt_y (by simpa using h9)]; exact hl
            exact ih_loop4 (i + 1) (by omega) (by omega) _ _ _ hP hS hb5 hfr ls (lv_sub hl [0, 1, 2, 3] rfl)
    exact loop4 (36 - (0) + 1) (0) (Nat.lt_succ_self _) (by omega) _ _ _ hP hS hb1 hfr ls (lv_sub hl [0, 1, 2, 3] rfl)
  · have hcn := Option.isNone_iff_eq_none.mp h1
    rw [if_neg (show ¬ (cellV x y).isSome = true by rw [hcn]; decide)] at hb1
    (try rw [if_neg (show ¬ (cellV x y).isSome = true by rw [hcn]; decide)] at hP)
    (try rw [if_neg (show ¬ (cellV x y).isSome = true by rw [hcn]; decide)] at hfr)
    refine g_iconst S 0 dX13_basin_9 (by decide +kernel) ?_
    exact g_iret S hr hlocks hP hS (⟨Or.inr ⟨hcn, hb1⟩, hfr⟩) (fun _ _ => rfl) (Nat.le_of_ble_eq_true rfl) (Nat.le_of_ble_eq_true rfl) dX13_basin_10
set_option maxHeartbeats 4000000 in
set_option maxRecDepth 100000 in
/-- basinSize -/
theorem mX13_basinSize (l : Launch) {E : gE} {ad : Nat → Nat} {N : Nat} {w : Nat → va_E} (b : Nat) (g kp sv bf sd ip sg mk td lv tl : Nat → Nat) (qs qc qw qd co wy : Nat) (de : Int32) (ca ln : Nat) (fa : Option Nat) (sm pa tm : Nat) (ht dr pg wt wr mo : Nat → Nat) (mc ni po dn : Nat) (x y : Int32) (hb_m : bkP N w b 12 (MDC E ad b g kp sv bf sd ip sg mk td lv tl qs qc qw qd co wy de ca ln fa sm pa tm)) (hR : mRg g ht pg wt wr mo mc ni po dn) (hht : ∀ k, k < 36 → ht k ≤ 99) (hwr : ∀ k, k < 36 → wr k ≤ 3) : gMi l yX13_basinSize (lw_ws yX13_basinSize cX13_basinSize 3 (some .int)) ({ frames := 6, cells := 0, slots := 0, locals := 137 } : Room) E ad N w [.ref (ad (b)), .int (x), .int (y)] (fun r w' => ((∃ k, cellV x y = some k ∧ r = nI (cnt (fun j => endN ht wr 36 j == endN ht wr 36 k) 36) ∧ bkP N w' b 12 (MDC E ad b g kp sv bf sd ip sg mk td lv tl qs qc qw 0 0 wy de ca ln fa sm pa tm)) ∨ (cellV x y = none ∧ bkP N w' b 12 (MDC E ad b g kp sv bf sd ip sg mk td lv tl qs qc qw 0 1 wy de ca ln fa sm pa tm))) ∧ gFr (gIn b 12) w w') 0 0 := by
  refine Met.ofW (cc := cX13_basinSize) (maxL := 3) (ret := (some .int)) (by decide) rfl ?_
  intro p e s m args below meth cd s₁ B hml hv
  obtain ⟨rfl, hI, hP⟩ := hv
  obtain ⟨S, hr, hlocks⟩ := gPre (ws := []) B hml (C := RX13) rfl
  have hx := S.1
  have hb := S.2.1
  have hS : va_S (gA E) s.heap s.heap [] := va_S.rf
  have hfr : gFr (gIn b 12) w w := gFr.rf
  have hl := lv_entry ([.ref (ad (b)), .int (x), .int (y)]) (n := 3) (Nat.le_of_ble_eq_true rfl)
  rw [lg_entry_eq]
  generalize (lg_sl ([.ref (ad (b)), .int (x), .int (y)]) ++ List.replicate (3 - (lg_sl ([.ref (ad (b)), .int (x), .int (y)])).length) Slot.unset).toArray = ls at hl ⊢
  have hl : lv_has ls 3 [(0, .ref (ad (b))), (1, .int (x)), (2, .int (y))] := hl
  refine lv_aload_n hx hb dX13_basinSize_0 rfl (lv_at hl 0 rfl) ?_
  refine lv_iload_n hx hb dX13_basinSize_1 rfl (lv_at hl 1 rfl) ?_
  refine lv_iload_n hx hb dX13_basinSize_2 rfl (lv_at hl 2 rfl) ?_
  refine g_afi (g_runV S hI hP hS (k := 2) (As := [.int (x), .int (y)]) (rest := []) (mX13_basin l b g kp sv bf sd ip sg mk td lv tl qs qc qw qd co wy de ca ln fa sm pa tm ht dr pg wt wr mo mc ni po dn x y hb_m hR hht hwr) q1996 q1998 q61 q100 q1999 rfl rfl (by decide +kernel) ⟨Nat.le_of_ble_eq_true rfl, Nat.le_of_ble_eq_true rfl⟩ rfl (hb_m.lt 0 (by decide)) (hb_m.2 0 (by decide)) rfl hl.1 rfl (Nat.le_of_ble_eq_true rfl) ⟨(Nat.le_of_ble_eq_true rfl), (Nat.le_of_ble_eq_true rfl)⟩ dX13_basinSize_3) hS (fun rz w1 H locs hq hP hS => ?_)
  obtain hq := hq
  exact g_iret S hr hlocks hP hS (hq) (fun _ _ => rfl) (Nat.le_of_ble_eq_true rfl) (Nat.le_of_ble_eq_true rfl) dX13_basinSize_6
set_option maxHeartbeats 4000000 in
set_option maxRecDepth 100000 in
/-- basinSizeUpwards -/
theorem mX13_basinSizeUpwards (l : Launch) {E : gE} {ad : Nat → Nat} {N : Nat} {w : Nat → va_E} (b : Nat) (g kp sv bf sd ip sg mk td lv tl : Nat → Nat) (qs qc qw qd co wy : Nat) (de : Int32) (ca ln : Nat) (fa : Option Nat) (sm pa tm : Nat) (ht dr pg wt wr mo : Nat → Nat) (mc ni po dn : Nat) (x y : Int32) (hb_m : bkP N w b 12 (MDC E ad b g kp sv bf sd ip sg mk td lv tl qs qc qw qd co wy de ca ln fa sm pa tm)) (hR : mRg g ht pg wt wr mo mc ni po dn) (hht : ∀ k, k < 36 → ht k ≤ 99) (hwr : ∀ k, k < 36 → wr k ≤ 3) : gMi l yX13_basinSizeUpwards (lw_ws yX13_basinSizeUpwards cX13_basinSizeUpwards 3 (some .int)) ({ frames := 6, cells := 0, slots := 0, locals := 137 } : Room) E ad N w [.ref (ad (b)), .int (x), .int (y)] (fun r w' => ((∃ k, cellV x y = some k ∧ r = nI (cnt (fun j => endN ht wr 36 j == endN ht wr 36 k) 36) ∧ bkP N w' b 12 (MDC E ad b g kp sv bf sd ip sg mk td lv tl qs qc qw 0 0 wy de ca ln fa sm pa tm)) ∨ (cellV x y = none ∧ bkP N w' b 12 (MDC E ad b g kp sv bf sd ip sg mk td lv tl qs qc qw 0 1 wy de ca ln fa sm pa tm))) ∧ gFr (gIn b 12) w w') 0 0 := by
  refine Met.ofW (cc := cX13_basinSizeUpwards) (maxL := 3) (ret := (some .int)) (by decide) rfl ?_
  intro p e s m args below meth cd s₁ B hml hv
  obtain ⟨rfl, hI, hP⟩ := hv
  obtain ⟨S, hr, hlocks⟩ := gPre (ws := []) B hml (C := RX13) rfl
  have hx := S.1
  have hb := S.2.1
  have hS : va_S (gA E) s.heap s.heap [] := va_S.rf
  have hfr : gFr (gIn b 12) w w := gFr.rf
  have hl := lv_entry ([.ref (ad (b)), .int (x), .int (y)]) (n := 3) (Nat.le_of_ble_eq_true rfl)
  rw [lg_entry_eq]
  generalize (lg_sl ([.ref (ad (b)), .int (x), .int (y)]) ++ List.replicate (3 - (lg_sl ([.ref (ad (b)), .int (x), .int (y)])).length) Slot.unset).toArray = ls at hl ⊢
  have hl : lv_has ls 3 [(0, .ref (ad (b))), (1, .int (x)), (2, .int (y))] := hl
  refine lv_aload_n hx hb dX13_basinSizeUpwards_0 rfl (lv_at hl 0 rfl) ?_
  refine lv_iload_n hx hb dX13_basinSizeUpwards_1 rfl (lv_at hl 1 rfl) ?_
  refine lv_iload_n hx hb dX13_basinSizeUpwards_2 rfl (lv_at hl 2 rfl) ?_
  refine g_afi (g_runV S hI hP hS (k := 2) (As := [.int (x), .int (y)]) (rest := []) (mX13_basin l b g kp sv bf sd ip sg mk td lv tl qs qc qw qd co wy de ca ln fa sm pa tm ht dr pg wt wr mo mc ni po dn x y hb_m hR hht hwr) q1996 q1998 q61 q100 q1999 rfl rfl (by decide +kernel) ⟨Nat.le_of_ble_eq_true rfl, Nat.le_of_ble_eq_true rfl⟩ rfl (hb_m.lt 0 (by decide)) (hb_m.2 0 (by decide)) rfl hl.1 rfl (Nat.le_of_ble_eq_true rfl) ⟨(Nat.le_of_ble_eq_true rfl), (Nat.le_of_ble_eq_true rfl)⟩ dX13_basinSizeUpwards_3) hS (fun rz w1 H locs hq hP hS => ?_)
  obtain hq := hq
  exact g_iret S hr hlocks hP hS (hq) (fun _ _ => rfl) (Nat.le_of_ble_eq_true rfl) (Nat.le_of_ble_eq_true rfl) dX13_basinSizeUpwards_6
set_option maxHeartbeats 4000000 in
set_option maxRecDepth 100000 in
/-- mothRow -/
theorem mX13_mothRow (l : Launch) {E : gE} {ad : Nat → Nat} {N : Nat} {w : Nat → va_E} (b : Nat) (g kp sv bf sd ip sg mk td lv tl : Nat → Nat) (qs qc qw qd co wy : Nat) (de : Int32) (ca ln : Nat) (fa : Option Nat) (sm pa tm : Nat) (ht dr pg wt wr mo : Nat → Nat) (mc ni po dn : Nat) (v : Int32) (hb_m : bkP N w b 12 (MDC E ad b g kp sv bf sd ip sg mk td lv tl qs qc qw qd co wy de ca ln fa sm pa tm)) (hR : mRg g ht pg wt wr mo mc ni po dn) (hm : mc ≤ 4) (hmo : ∀ k, k < mc → mo k < 36) : gMi l yX13_mothRow (lw_ws yX13_mothRow cX13_mothRow 2 (some .int)) ({ frames := 2, cells := 0, slots := 0, locals := 43 } : Room) E ad N w [.ref (ad (b)), .int (v)] (fun r w' => ((∃ i, inR v mc = some i ∧ r = nI (mo i / 6) ∧ bkP N w' b 12 (MDC E ad b g kp sv bf sd ip sg mk td lv tl qs qc qw 0 0 wy de ca ln fa sm pa tm)) ∨ (inR v mc = none ∧ bkP N w' b 12 (MDC E ad b g kp sv bf sd ip sg mk td lv tl qs qc qw 0 1 wy de ca ln fa sm pa tm))) ∧ gFr (gIn b 12) w w') 0 0 := by
  refine Met.ofW (cc := cX13_mothRow) (maxL := 2) (ret := (some .int)) (by decide) rfl ?_
  intro p e s m args below meth cd s₁ B hml hv
  obtain ⟨rfl, hI, hP⟩ := hv
  obtain ⟨S, hr, hlocks⟩ := gPre (ws := []) B hml (C := RX13) rfl
  have hx := S.1
  have hb := S.2.1
  have hS : va_S (gA E) s.heap s.heap [] := va_S.rf
  have hfr : gFr (gIn b 12) w w := gFr.rf
  have hl := lv_entry ([.ref (ad (b)), .int (v)]) (n := 2) (Nat.le_of_ble_eq_true rfl)
  rw [lg_entry_eq]
  generalize (lg_sl ([.ref (ad (b)), .int (v)]) ++ List.replicate (2 - (lg_sl ([.ref (ad (b)), .int (v)])).length) Slot.unset).toArray = ls at hl ⊢
  have hl : lv_has ls 2 [(0, .ref (ad (b))), (1, .int (v))] := hl
  obtain ⟨hgh, hgw, hgp, hgt, hgm, hg3, hg0, hg1, hg2⟩ := id hR
  refine lv_aload_n hx hb dX13_mothRow_0 rfl (lv_at hl 0 rfl) ?_
  refine lv_aload_n hx hb dX13_mothRow_1 rfl (lv_at hl 0 rfl) ?_
  refine lv_iload_n hx hb dX13_mothRow_2 rfl (lv_at hl 1 rfl) ?_
  refine g_roi (g_runV S hI hP hS (k := 1) (As := [.int (v)]) (rest := [.ref (ad (b))]) (mX13_isMoth l b g kp sv bf sd ip sg mk td lv tl qs qc qw qd co wy de ca ln fa sm pa tm ht dr pg wt wr mo mc ni po dn v hb_m hR hm) q2071 q2073 q68 q100 q2074 rfl rfl (by decide +kernel) ⟨Nat.le_of_ble_eq_true rfl, Nat.le_of_ble_eq_true rfl⟩ rfl (hb_m.lt 0 (by decide)) (hb_m.2 0 (by decide)) rfl hl.1 rfl (Nat.le_of_ble_eq_true rfl) ⟨(Nat.le_of_ble_eq_true rfl), (Nat.le_of_ble_eq_true rfl)⟩ dX13_mothRow_3) hS (fun H locs hP hS => ?_)
  refine g_beq S (b := (inR v mc).isSome) (tgt := 13) dX13_mothRow_6 (by decide) (fun h1 => ?_) (fun h1 => ?_)
  · refine g_iconst S 1 dX13_mothRow_13 (by decide +kernel) ?_
    refine g_afi (g_runV S hI hP hS (k := 1) (As := [.int (nI (1))]) (rest := []) (mX13_fails l b g kp sv bf sd ip sg mk td lv tl qs qc qw qd co wy de ca ln fa sm pa tm 1 hb_m (by decide)) q1878 q1880 q49 q100 q1881 rfl rfl (by decide +kernel) ⟨Nat.le_of_ble_eq_true rfl, Nat.le_of_ble_eq_true rfl⟩ rfl (hb_m.lt 0 (by decide)) (hb_m.2 0 (by decide)) rfl hl.1 rfl (Nat.le_of_ble_eq_true rfl) ⟨(Nat.le_of_ble_eq_true rfl), (Nat.le_of_ble_eq_true rfl)⟩ dX13_mothRow_14) hS (fun rz w1 H locs hq hP hS => ?_)
    obtain ⟨hr3, hb1, hf2⟩ := hq
    rw [hr3]
    have hfr := hfr.trans hf2 (fun q hq => by (try simp only [gIn] at hq ⊢); (try dsimp only at hq ⊢); omega)
    refine g_beq S (b := decide (0 < 1)) (tgt := 24) dX13_mothRow_17 (by decide) (fun h2 => ?_) (fun h2 => ?_)
    · exact absurd h2 (by decide)
    · refine g_iconst S 0 dX13_mothRow_20 (by decide +kernel) ?_
      refine lv_goto (tgt := 37) hx hb dX13_mothRow_21 (by decide) ?_
      exact g_iret S hr hlocks hP hS (⟨Or.inr ⟨Option.not_isSome_iff_eq_none.mp (by rw [h1]; decide), hb1⟩, hfr⟩) (fun _ _ => rfl) (Nat.le_of_ble_eq_true rfl) (Nat.le_of_ble_eq_true rfl) dX13_mothRow_37
  · obtain ⟨i, hi⟩ := Option.isSome_iff_exists.mp h1
    obtain ⟨him, hvi⟩ := inR_some (by omega) hi
    subst hvi
    have hmi := hmo i him
    refine g_iconst S 0 dX13_mothRow_9 (by decide +kernel) ?_
    refine lv_goto (tgt := 14) hx hb dX13_mothRow_10 (by decide) ?_
    refine g_afi (g_runV S hI hP hS (k := 1) (As := [.int (nI (0))]) (rest := []) (mX13_fails l b g kp sv bf sd ip sg mk td lv tl qs qc qw qd co wy de ca ln fa sm pa tm 0 hb_m (by decide)) q1878 q1880 q49 q100 q1881 rfl rfl (by decide +kernel) ⟨Nat.le_of_ble_eq_true rfl, Nat.le_of_ble_eq_true rfl⟩ rfl (hb_m.lt 0 (by decide)) (hb_m.2 0 (by decide)) rfl hl.1 rfl (Nat.le_of_ble_eq_true rfl) ⟨(Nat.le_of_ble_eq_true rfl), (Nat.le_of_ble_eq_true rfl)⟩ dX13_mothRow_14) hS (fun rz w1 H locs hq hP hS => ?_)
    obtain ⟨hr6, hb4, hf5⟩ := hq
    rw [hr6]
    have hfr := hfr.trans hf5 (fun q hq => by (try simp only [gIn] at hq ⊢); (try dsimp only at hq ⊢); omega)
    refine g_beq S (b := decide (0 < 0)) (tgt := 24) dX13_mothRow_17 (by decide) (fun h2 => ?_) (fun h2 => ?_)
    · refine lv_aload_n hx hb dX13_mothRow_24 rfl (lv_at hl 0 rfl) ?_
      refine g_get S hI hP uX13 rfl (fs := _) (hb4.lt 0 (by decide)) (hb4.2 0 (by decide)) 0 (by decide) q1787 rfl (v := .ref (ad (b + 1))) rfl dX13_mothRow_25 ?_
      refine g_sipush S 148 dX13_mothRow_28 (by decide +kernel) ?_
      refine lv_iload_n hx hb dX13_mothRow_31 rfl (lv_at hl 1 rfl) ?_
      refine g_iadd S dX13_mothRow_32 ?_
      refine g_iald S hI hP (f := fun j => nI (g j)) (hb4.lt 1 (by decide)) (hb4.2 1 (by decide)) (148 + i) (by omega) (by decide) dX13_mothRow_33 ?_
      rw [hgm i him]
      refine g_bipush S 6 dX13_mothRow_34 (by decide +kernel) ?_
      refine g_idiv S (by omega) (by omega) (by omega) dX13_mothRow_36 ?_
      exact g_iret S hr hlocks hP hS (⟨Or.inl ⟨i, hi, rfl, hb4⟩, hfr⟩) (fun _ _ => rfl) (Nat.le_of_ble_eq_true rfl) (Nat.le_of_ble_eq_true rfl) dX13_mothRow_37
    · exact absurd h2 (by decide)
set_option maxHeartbeats 4000000 in
set_option maxRecDepth 100000 in
/-- mothColumn -/
theorem mX13_mothColumn (l : Launch) {E : gE} {ad : Nat → Nat} {N : Nat} {w : Nat → va_E} (b : Nat) (g kp sv bf sd ip sg mk td lv tl : Nat → Nat) (qs qc qw qd co wy : Nat) (de : Int32) (ca ln : Nat) (fa : Option Nat) (sm pa tm : Nat) (ht dr pg wt wr mo : Nat → Nat) (mc ni po dn : Nat) (v : Int32) (hb_m : bkP N w b 12 (MDC E ad b g kp sv bf sd ip sg mk td lv tl qs qc qw qd co wy de ca ln fa sm pa tm)) (hR : mRg g ht pg wt wr mo mc ni po dn) (hm : mc ≤ 4) (hmo : ∀ k, k < mc → mo k < 36) : gMi l yX13_mothColumn (lw_ws yX13_mothColumn cX13_mothColumn 2 (some .int)) ({ frames := 2, cells := 0, slots := 0, locals := 43 } : Room) E ad N w [.ref (ad (b)), .int (v)] (fun r w' => ((∃ i, inR v mc = some i ∧ r = nI (mo i % 6) ∧ bkP N w' b 12 (MDC E ad b g kp sv bf sd ip sg mk td lv tl qs qc qw 0 0 wy de ca ln fa sm pa tm)) ∨ (inR v mc = none ∧ bkP N w' b 12 (MDC E ad b g kp sv bf sd ip sg mk td lv tl qs qc qw 0 1 wy de ca ln fa sm pa tm))) ∧ gFr (gIn b 12) w w') 0 0 := by
  refine Met.ofW (cc := cX13_mothColumn) (maxL := 2) (ret := (some .int)) (by decide) rfl ?_
  intro p e s m args below meth cd s₁ B hml hv
  obtain ⟨rfl, hI, hP⟩ := hv
  obtain ⟨S, hr, hlocks⟩ := gPre (ws := []) B hml (C := RX13) rfl
  have hx := S.1
  have hb := S.2.1
  have hS : va_S (gA E) s.heap s.heap [] := va_S.rf
  have hfr : gFr (gIn b 12) w w := gFr.rf
  have hl := lv_entry ([.ref (ad (b)), .int (v)]) (n := 2) (Nat.le_of_ble_eq_true rfl)
  rw [lg_entry_eq]
  generalize (lg_sl ([.ref (ad (b)), .int (v)]) ++ List.replicate (2 - (lg_sl ([.ref (ad (b)), .int (v)])).length) Slot.unset).toArray = ls at hl ⊢
  have hl : lv_has ls 2 [(0, .ref (ad (b))), (1, .int (v))] := hl
  obtain ⟨hgh, hgw, hgp, hgt, hgm, hg3, hg0, hg1, hg2⟩ := id hR
  refine lv_aload_n hx hb dX13_mothColumn_0 rfl (lv_at hl 0 rfl) ?_
  refine lv_aload_n hx hb dX13_mothColumn_1 rfl (lv_at hl 0 rfl) ?_
  refine lv_iload_n hx hb dX13_mothColumn_2 rfl (lv_at hl 1 rfl) ?_
  refine g_roi (g_runV S hI hP hS (k := 1) (As := [.int (v)]) (rest := [.ref (ad (b))]) (mX13_isMoth l b g kp sv bf sd ip sg mk td lv tl qs qc qw qd co wy de ca ln fa sm pa tm ht dr pg wt wr mo mc ni po dn v hb_m hR hm) q2071 q2073 q68 q100 q2074 rfl rfl (by decide +kernel) ⟨Nat.le_of_ble_eq_true rfl, Nat.le_of_ble_eq_true rfl⟩ rfl (hb_m.lt 0 (by decide)) (hb_m.2 0 (by decide)) rfl hl.1 rfl (Nat.le_of_ble_eq_true rfl) ⟨(Nat.le_of_ble_eq_true rfl), (Nat.le_of_ble_eq_true rfl)⟩ dX13_mothColumn_3) hS (fun H locs hP hS => ?_)
  refine g_beq S (b := (inR v mc).isSome) (tgt := 13) dX13_mothColumn_6 (by decide) (fun h1 => ?_) (fun h1 => ?_)
  · refine g_iconst S 1 dX13_mothColumn_13 (by decide +kernel) ?_
    refine g_afi (g_runV S hI hP hS (k := 1) (As := [.int (nI (1))]) (rest := []) (mX13_fails l b g kp sv bf sd ip sg mk td lv tl qs qc qw qd co wy de ca ln fa sm pa tm 1 hb_m (by decide)) q1878 q1880 q49 q100 q1881 rfl rfl (by decide +kernel) ⟨Nat.le_of_ble_eq_true rfl, Nat.le_of_ble_eq_true rfl⟩ rfl (hb_m.lt 0 (by decide)) (hb_m.2 0 (by decide)) rfl hl.1 rfl (Nat.le_of_ble_eq_true rfl) ⟨(Nat.le_of_ble_eq_true rfl), (Nat.le_of_ble_eq_true rfl)⟩ dX13_mothColumn_14) hS (fun rz w1 H locs hq hP hS => ?_)
    obtain ⟨hr3, hb1, hf2⟩ := hq
    rw [hr3]
    have hfr := hfr.trans hf2 (fun q hq => by (try simp only [gIn] at hq ⊢); (try dsimp only at hq ⊢); omega)
    refine g_beq S (b := decide (0 < 1)) (tgt := 24) dX13_mothColumn_17 (by decide) (fun h2 => ?_) (fun h2 => ?_)
    · exact absurd h2 (by decide)
    · refine g_iconst S 0 dX13_mothColumn_20 (by decide +kernel) ?_
      refine lv_goto (tgt := 37) hx hb dX13_mothColumn_21 (by decide) ?_
      exact g_iret S hr hlocks hP hS (⟨Or.inr ⟨Option.not_isSome_iff_eq_none.mp (by rw [h1]; decide), hb1⟩, hfr⟩) (fun _ _ => rfl) (Nat.le_of_ble_eq_true rfl) (Nat.le_of_ble_eq_true rfl) dX13_mothColumn_37
  · obtain ⟨i, hi⟩ := Option.isSome_iff_exists.mp h1
    obtain ⟨him, hvi⟩ := inR_some (by omega) hi
    subst hvi
    have hmi := hmo i him
    refine g_iconst S 0 dX13_mothColumn_9 (by decide +kernel) ?_
    refine lv_goto (tgt := 14) hx hb dX13_mothColumn_10 (by decide) ?_
    refine g_afi (g_runV S hI hP hS (k := 1) (As := [.int (nI (0))]) (rest := []) (mX13_fails l b g kp sv bf sd ip sg mk td lv tl qs qc qw qd co wy de ca ln fa sm pa tm 0 hb_m (by decide)) q1878 q1880 q49 q100 q1881 rfl rfl (by decide +kernel) ⟨Nat.le_of_ble_eq_true rfl, Nat.le_of_ble_eq_true rfl⟩ rfl (hb_m.lt 0 (by decide)) (hb_m.2 0 (by decide)) rfl hl.1 rfl (Nat.le_of_ble_eq_true rfl) ⟨(Nat.le_of_ble_eq_true rfl), (Nat.le_of_ble_eq_true rfl)⟩ dX13_mothColumn_14) hS (fun rz w1 H locs hq hP hS => ?_)
    obtain ⟨hr6, hb4, hf5⟩ := hq
    rw [hr6]
    have hfr := hfr.trans hf5 (fun q hq => by (try simp only [gIn] at hq ⊢); (try dsimp only at hq ⊢); omega)
    refine g_beq S (b := decide (0 < 0)) (tgt := 24) dX13_mothColumn_17 (by decide) (fun h2 => ?_) (fun h2 => ?_)
    · refine lv_aload_n hx hb dX13_mothColumn_24 rfl (lv_at hl 0 rfl) ?_
      refine g_get S hI hP uX13 rfl (fs := _) (hb4.lt 0 (by decide)) (hb4.2 0 (by decide)) 0 (by decide) q1787 rfl (v := .ref (ad (b + 1))) rfl dX13_mothColumn_25 ?_
      refine g_sipush S 148 dX13_mothColumn_28 (by decide +kernel) ?_
      refine lv_iload_n hx hb dX13_mothColumn_31 rfl (lv_at hl 1 rfl) ?_
      refine g_iadd S dX13_mothColumn_32 ?_
      refine g_iald S hI hP (f := fun j => nI (g j)) (hb4.lt 1 (by decide)) (hb4.2 1 (by decide)) (148 + i) (by omega) (by decide) dX13_mothColumn_33 ?_
      rw [hgm i him]
      refine g_bipush S 6 dX13_mothColumn_34 (by decide +kernel) ?_
      refine g_irem S (by omega) (by omega) (by omega) dX13_mothColumn_36 ?_
      exact g_iret S hr hlocks hP hS (⟨Or.inl ⟨i, hi, rfl, hb4⟩, hfr⟩) (fun _ _ => rfl) (Nat.le_of_ble_eq_true rfl) (Nat.le_of_ble_eq_true rfl) dX13_mothColumn_37
    · exact absurd h2 (by decide)
set_option maxHeartbeats 4000000 in
set_option maxRecDepth 100000 in
/-- slope -/
theorem mX13_slope (l : Launch) {E : gE} {ad : Nat → Nat} {N : Nat} {w : Nat → va_E} (b : Nat) (g kp sv bf sd ip sg mk td lv tl : Nat → Nat) (qs qc qw qd co wy : Nat) (de : Int32) (ca ln : Nat) (fa : Option Nat) (sm pa tm : Nat) (ht dr pg wt wr mo : Nat → Nat) (mc ni po dn : Nat) (x y : Int32) (hb_m : bkP N w b 12 (MDC E ad b g kp sv bf sd ip sg mk td lv tl qs qc qw qd co wy de ca ln fa sm pa tm)) (hR : mRg g ht pg wt wr mo mc ni po dn) (hht : ∀ k, k < 36 → ht k ≤ 99) : gMf l yX13_slope (lw_ws yX13_slope cX13_slope 8 (some .float)) ({ frames := 3, cells := 0, slots := 0, locals := 66 } : Room) E ad N w [.ref (ad (b)), .int (x), .int (y)] (fun r w' => ((∃ k, cellV x y = some k ∧ r = FP.fdiv (FP.i2f (nI (slS ht k 4))) (FP.i2f (nI (slC k 4))) ∧ bkP N w' b 12 (MDC E ad b g kp sv bf sd ip sg mk td lv tl qs qc qw 0 0 wy de ca ln fa sm pa tm)) ∨ (cellV x y = none ∧ bkP N w' b 12 (MDC E ad b g kp sv bf sd ip sg mk td lv tl qs qc qw 0 1 wy de ca ln fa sm pa tm))) ∧ gFr (gIn b 12) w w') 0 0 := by
  refine Met.ofW (cc := cX13_slope) (maxL := 8) (ret := (some .float)) (by decide) rfl ?_
  intro p e s m args below meth cd s₁ B hml hv
  obtain ⟨rfl, hI, hP⟩ := hv
  obtain ⟨S, hr, hlocks⟩ := gPre (ws := []) B hml (C := RX13) rfl
  have hx := S.1
  have hb := S.2.1
  have hS : va_S (gA E) s.heap s.heap [] := va_S.rf
  have hfr : gFr (gIn b 12) w w := gFr.rf
  have hl := lv_entry ([.ref (ad (b)), .int (x), .int (y)]) (n := 8) (Nat.le_of_ble_eq_true rfl)
  rw [lg_entry_eq]
  generalize (lg_sl ([.ref (ad (b)), .int (x), .int (y)]) ++ List.replicate (8 - (lg_sl ([.ref (ad (b)), .int (x), .int (y)])).length) Slot.unset).toArray = ls at hl ⊢
  have hl : lv_has ls 8 [(0, .ref (ad (b))), (1, .int (x)), (2, .int (y))] := hl
  obtain ⟨hgh, hgw, hgp, hgt, hgm, hg3, hg0, hg1, hg2⟩ := id hR
  refine lv_aload_n hx hb dX13_slope_0 rfl (lv_at hl 0 rfl) ?_
  refine lv_iload_n hx hb dX13_slope_1 rfl (lv_at hl 1 rfl) ?_
  refine lv_iload_n hx hb dX13_slope_2 rfl (lv_at hl 2 rfl) ?_
  refine g_afi (g_runV S hI hP hS (k := 2) (As := [.int (x), .int (y)]) (rest := []) (mX13_isNone l b g kp sv bf sd ip sg mk td lv tl qs qc qw qd co wy de ca ln fa sm pa tm x y hb_m ) q1868 q1870 q48 q100 q1871 rfl rfl (by decide +kernel) ⟨Nat.le_of_ble_eq_true rfl, Nat.le_of_ble_eq_true rfl⟩ rfl (hb_m.lt 0 (by decide)) (hb_m.2 0 (by decide)) rfl hl.1 rfl (Nat.le_of_ble_eq_true rfl) ⟨(Nat.le_of_ble_eq_true rfl), (Nat.le_of_ble_eq_true rfl)⟩ dX13_slope_3) hS (fun rz w1 H locs hq hP hS => ?_)
  obtain ⟨hr3, hb1, hf2⟩ := hq
  rw [hr3]
  have hfr := hfr.trans hf2 (fun q hq => by (try simp only [gIn] at hq ⊢); (try dsimp only at hq ⊢); omega)
  refine g_beq S (b := (cellV x y).isNone) (tgt := 11) dX13_slope_6 (by decide) (fun h1 => ?_) (fun h1 => ?_)
  · obtain ⟨k, hck⟩ : ∃ k, cellV x y = some k := by cases q : cellV x y with | none => (rw [q] at h1; cases h1) | some a => exact ⟨a, rfl⟩
    have hk36 := cellV_lt hck
    rw [if_pos (show (cellV x y).isSome = true by rw [hck]; rfl)] at hb1
    (try rw [if_pos (show (cellV x y).isSome = true by rw [hck]; rfl)] at hP)
    (try rw [if_pos (show (cellV x y).isSome = true by rw [hck]; rfl)] at hfr)
    refine g_bipush S 6 dX13_slope_11 (by decide +kernel) ?_
    refine lv_iload_n hx hb dX13_slope_13 rfl (lv_at hl 1 rfl) ?_
    refine lv_imul hx hb dX13_slope_14 ?_
    refine lv_iload_n hx hb dX13_slope_15 rfl (lv_at hl 2 rfl) ?_
    refine lv_iadd hx hb dX13_slope_16 ?_
    rw [cell6 hck]
    refine lv_istore_n (lv' := [(3, .int (nI (k))), (0, .ref (ad (b))), (1, .int (x)), (2, .int (y))]) hx hb dX13_slope_17 rfl hl (by decide) rfl (fun ls hl => ?_)
    refine g_iconst S 0 dX13_slope_18 (by decide +kernel) ?_
    refine lv_istore (lv' := [(4, .int (nI (0))), (3, .int (nI (k))), (0, .ref (ad (b))), (1, .int (x)), (2, .int (y))]) hx hb dX13_slope_19 hl (by decide) rfl (fun ls hl => ?_)
    refine g_iconst S 0 dX13_slope_21 (by decide +kernel) ?_
    refine lv_istore (lv' := [(5, .int (nI (0))), (4, .int (nI (0))), (3, .int (nI (k))), (0, .ref (ad (b))), (1, .int (x)), (2, .int (y))]) hx hb dX13_slope_22 hl (by decide) rfl (fun ls hl => ?_)
    refine g_iconst S 0 dX13_slope_24 (by decide +kernel) ?_
    refine lv_istore (lv' := [(6, .int (nI (0))), (5, .int (nI (0))), (4, .int (nI (0))), (3, .int (nI (k))), (0, .ref (ad (b))), (1, .int (x)), (2, .int (y))]) hx hb dX13_slope_25 hl (by decide) rfl (fun ls hl => ?_)
    have loop4 : ∀ (n : Nat) (d : Nat), 4 - d < n → (d ≤ 4) → ∀ (w1 : Nat → va_E) (H : Heap) (locs : List Loc), gP E ad N w1 H → va_S (gA E) s.heap H locs → bkP N w1 b 12 (MDC E ad b g kp sv bf sd ip sg mk td lv tl qs qc qw 0 0 wy de ca ln fa sm pa tm) → gFr (gIn b 12) w w1 → ∀ (ls : Array Slot), lv_has ls 8 [(6, .int (nI (d))), (5, .int (nI (slC k d))), (4, .int (nI (slS ht k d))), (3, .int (nI (k))), (0, .ref (ad (b)))] → W p l e (headSpec (lw_ws yX13_slope cX13_slope 8 (some .float)) ({ frames := 3, cells := 0, slots := 0, locals := 66 } : Room)).room s m ([.ref (ad (b)), .int (x), .int (y)] : List Value).toArray below meth cd H locs 0 0 (MQ below (va_Qf (fun r w' => ((∃ k, cellV x y = some k ∧ r = FP.fdiv (FP.i2f (nI (slS ht k 4))) (FP.i2f (nI (slC k 4))) ∧ bkP N w' b 12 (MDC E ad b g kp sv bf sd ip sg mk td lv tl qs qc qw 0 0 wy de ca ln fa sm pa tm)) ∨ (cellV x y = none ∧ bkP N w' b 12 (MDC E ad b g kp sv bf sd ip sg mk td lv tl qs qc qw 0 1 wy de ca ln fa sm pa tm))) ∧ gFr (gIn b 12) w w') (gB E ad N) (gA E)) ([.ref (ad (b)), .int (x), .int (y)] : List Value).toArray s 0 0 (gA E)) (F0 m 27 ls []) := by
      intro n
      induction n with
      | zero => intro d hmeas; omega
      | succ n ih_loop4 =>
        intro d hmeas hd w1 H locs hP hS hb5 hfr ls hl
        have hsb := slS_b hk36 hht d
        have hsc := slC_le k d
        refine lv_iload hx hb dX13_slope_27 (lv_at hl 0 rfl) ?_
        refine g_iconst S 4 dX13_slope_29 (by decide +kernel) ?_
        refine g_ge S (a := d) (b := 4) (by omega) (by omega) (tgt := 78) dX13_slope_30 (by decide) (fun hd4 => ?_) (fun hd4 => ?_)
        · have e_d : d = 4 := by omega
          subst e_d
          have h2 := slC_4 k hk36
          refine lv_iload hx hb dX13_slope_78 (lv_at hl 2 rfl) ?_
          refine lv_i2f hx hb dX13_slope_80 ?_
          refine lv_iload hx hb dX13_slope_81 (lv_at hl 1 rfl) ?_
          refine lv_i2f hx hb dX13_slope_83 ?_
          refine lv_fdiv hx hb dX13_slope_84 (sl_num _ (by omega) _ (by omega) h2) ?_
          exact g_fret S hr hlocks hP hS (⟨Or.inl ⟨k, hck, rfl, hb5⟩, hfr⟩) (fun _ _ => rfl) (Nat.le_of_ble_eq_true rfl) (Nat.le_of_ble_eq_true rfl) dX13_slope_85
        · refine lv_iload_n hx hb dX13_slope_33 rfl (lv_at hl 3 rfl) ?_
          refine lv_iload hx hb dX13_slope_34 (lv_at hl 0 rfl) ?_
          refine g_roi (g_runS S hI hP hS (k := 2) (As := [.int (nI (k)), .int (nI (d))]) (rest := []) (mX13_beside l k d hk36 hd4) q1917 q1918 q100 q1919 rfl rfl (by decide +kernel) ⟨Nat.le_of_ble_eq_true rfl, Nat.le_of_ble_eq_true rfl⟩ rfl hl.1 rfl (Nat.le_of_ble_eq_true rfl) ⟨(Nat.le_of_ble_eq_true rfl), (Nat.le_of_ble_eq_true rfl)⟩ dX13_slope_36) hS (fun H locs hP hS => ?_)
          refine lv_istore (lv' := [(7, .int (oI (nb k d))), (6, .int (nI (d))), (5, .int (nI (slC k d))), (4, .int (nI (slS ht k d))), (3, .int (nI (k))), (0, .ref (ad (b)))]) hx hb dX13_slope_39 hl (by decide) rfl (fun ls hl => ?_)
          refine lv_iload hx hb dX13_slope_41 (lv_at hl 0 rfl) ?_
          refine g_ogeZ S (o := nb k d) (fun j hj => Nat.lt_trans (nb_lt hk36 hj) (by decide)) (tgt := 49) dX13_slope_43 (by decide) (fun hn_k hn => ?_) (fun hn => ?_)
          · have hn36 := nb_lt hk36 hn
            have z1 := hht hn_k hn36
            have z2 := hht k hk36
            have hl : lv_has ls 8 [(7, .int (nI (hn_k))), (6, .int (nI (d))), (5, .int (nI (slC k d))), (4, .int (nI (slS ht k d))), (3, .int (nI (k))), (0, .ref (ad (b)))] := by rw [hn] at hl; exact hl
            refine lv_iload hx hb dX13_slope_49 (lv_at hl 3 rfl) ?_
            refine lv_aload_n hx hb dX13_slope_51 rfl (lv_at hl 5 rfl) ?_
            refine lv_iload hx hb dX13_slope_52 (lv_at hl 0 rfl) ?_
            refine g_roi (g_runV S hI hP hS (k := 1) (As := [.int (nI (hn_k))]) (rest := [.int (nI (slS ht k d))]) (mX13_high l b g kp sv bf sd ip sg mk td lv tl qs qc qw 0 0 wy de ca ln fa sm pa tm hn_k (ht hn_k) hb5 hn36 (hgh hn_k hn36)) q1882 q1884 q50 q100 q1885 rfl rfl (by decide +kernel) ⟨Nat.le_of_ble_eq_true rfl, Nat.le_of_ble_eq_true rfl⟩ rfl (hb5.lt 0 (by decide)) (hb5.2 0 (by decide)) rfl hl.1 rfl (Nat.le_of_ble_eq_true rfl) ⟨(Nat.le_of_ble_eq_true rfl), (Nat.le_of_ble_eq_true rfl)⟩ dX13_slope_54) hS (fun H locs hP hS => ?_)
            refine lv_aload_n hx hb dX13_slope_57 rfl (lv_at hl 5 rfl) ?_
            refine lv_iload_n hx hb dX13_slope_58 rfl (lv_at hl 4 rfl) ?_
            refine g_roi (g_runV S hI hP hS (k := 1) (As := [.int (nI (k))]) (rest := [.int (nI (ht hn_k)), .int (nI (slS ht k d))]) (mX13_high l b g kp sv bf sd ip sg mk td lv tl qs qc qw 0 0 wy de ca ln fa sm pa tm k (ht k) hb5 hk36 (hgh k hk36)) q1882 q1884 q50 q100 q1885 rfl rfl (by decide +kernel) ⟨Nat.le_of_ble_eq_true rfl, Nat.le_of_ble_eq_true rfl⟩ rfl (hb5.lt 0 (by decide)) (hb5.2 0 (by decide)) rfl hl.1 rfl (Nat.le_of_ble_eq_true rfl) ⟨(Nat.le_of_ble_eq_true rfl), (Nat.le_of_ble_eq_true rfl)⟩ dX13_slope_59) hS (fun H locs hP hS => ?_)
            refine lv_isub hx hb dX13_slope_62 ?_
            refine g_roi (g_runS S hI hP hS (k := 1) (As := [.int (nI (ht hn_k) - nI (ht k))]) (rest := [.int (nI (slS ht k d))]) (mX13_size l (ht hn_k) (ht k) (by omega) (by omega)) q2040 q2041 q100 q2042 rfl rfl (by decide +kernel) ⟨Nat.le_of_ble_eq_true rfl, Nat.le_of_ble_eq_true rfl⟩ rfl hl.1 rfl (Nat.le_of_ble_eq_true rfl) ⟨(Nat.le_of_ble_eq_true rfl), (Nat.le_of_ble_eq_true rfl)⟩ dX13_slope_63) hS (fun H locs hP hS => ?_)
            refine g_iadd S dX13_slope_66 ?_
            refine lv_istore (lv' := [(4, .int (nI (slS ht k d + (dif (ht hn_k) (ht k))))), (7, .int (nI (hn_k))), (6, .int (nI (d))), (5, .int (nI (slC k d))), (3, .int (nI (k))), (0, .ref (ad (b)))]) hx hb dX13_slope_67 hl (by decide) rfl (fun ls hl => ?_)
            refine lv_iinc (v := nI (slC k d + 1)) (lv' := [(5, .int (nI (slC k d + 1))), (4, .int (nI (slS ht k d + (dif (ht hn_k) (ht k))))), (7, .int (nI (hn_k))), (6, .int (nI (d))), (3, .int (nI (k))), (0, .ref (ad (b)))]) hx hb dX13_slope_69 hl (k := 3) rfl (g_inc _ 1 (by decide +kernel)) (by decide) rfl (fun ls hl => ?_)
            refine lv_iinc (v := nI (d + 1)) (lv' := [(6, .int (nI (d + 1))), (5, .int (nI (slC k d + 1))), (4, .int (nI (slS ht k d + (dif (ht hn_k) (ht k))))), (7, .int (nI (hn_k))), (3, .int (nI (k))), (0, .ref (ad (b)))]) hx hb dX13_slope_72 hl (k := 3) rfl (g_inc _ 1 (by decide +kernel)) (by decide) rfl (fun ls hl => ?_)
            refine lv_goto (tgt := 27) hx hb dX13_slope_75 (by decide) ?_
            have hl : lv_has ls 8 [(6, .int (nI (d + 1))), (5, .int (nI (slC k d + 1))), (4, .int (nI (slS ht k (d + 1)))), (7, .int (nI (hn_k))), (3, .int (nI (k))), (0, .ref (ad (b)))] := by rw [show slS ht k (d + 1) = slS ht k d + dif (ht hn_k) (ht k) by simp only [slS, hn]; rw [dif_comm]]; exact hl
            have hl : lv_has ls 8 [(6, .int (nI (d + 1))), (5, .int (nI (slC k (d + 1)))), (4, .int (nI (slS ht k (d + 1)))), (7, .int (nI (hn_k))), (3, .int (nI (k))), (0, .ref (ad (b)))] := by rw [show slC k (d + 1) = slC k d + 1 by simp [slC, hn]]; exact hl
            exact ih_loop4 (d + 1) (by omega) (by omega) _ _ _ hP hS hb5 hfr ls (lv_sub hl [0, 1, 2, 4, 5] rfl)
          · refine lv_goto (tgt := 72) hx hb dX13_slope_46 (by decide) ?_
            refine lv_iinc (v := nI (d + 1)) (lv' := [(6, .int (nI (d + 1))), (7, .int (oI (nb k d))), (5, .int (nI (slC k d))), (4, .int (nI (slS ht k d))), (3, .int (nI (k))), (0, .ref (ad (b)))]) hx hb dX13_slope_72 hl (k := 1) rfl (g_inc _ 1 (by decide +kernel)) (by decide) rfl (fun ls hl => ?_)
            refine lv_goto (tgt := 27) hx hb dX13_slope_75 (by decide) ?_
            have hl : lv_has ls 8 [(6, .int (nI (d + 1))), (7, .int (oI (nb k d))), (5, .int (nI (slC k d))), (4, .int (nI (slS ht k (d + 1)))), (3, .int (nI (k))), (0, .ref (ad (b)))] := by rw [show slS ht k (d + 1) = slS ht k d by simp [slS, hn]]; exact hl
            have hl : lv_has ls 8 [(6, .int (nI (d + 1))), (7, .int (oI (nb k d))), (5, .int (nI (slC k (d + 1)))), (4, .int (nI (slS ht k (d + 1)))), (3, .int (nI (k))), (0, .ref (ad (b)))] := by rw [show slC k (d + 1) = slC k d by simp [slC, hn]]; exact hl
            exact ih_loop4 (d + 1) (by omega) (by omega) _ _ _ hP hS hb5 hfr ls (lv_sub hl [0, 2, 3, 4, 5] rfl)
    exact loop4 (4 - (0) + 1) (0) (Nat.lt_succ_self _) (by omega) _ _ _ hP hS hb1 hfr ls (lv_sub hl [0, 1, 2, 3, 4] rfl)
  · have hcn := Option.isNone_iff_eq_none.mp h1
    rw [if_neg (show ¬ (cellV x y).isSome = true by rw [hcn]; decide)] at hb1
    (try rw [if_neg (show ¬ (cellV x y).isSome = true by rw [hcn]; decide)] at hP)
    (try rw [if_neg (show ¬ (cellV x y).isSome = true by rw [hcn]; decide)] at hfr)
    refine lv_fconst0 hx hb dX13_slope_9 ?_
    exact g_fret S hr hlocks hP hS (⟨Or.inr ⟨hcn, hb1⟩, hfr⟩) (fun _ _ => rfl) (Nat.le_of_ble_eq_true rfl) (Nat.le_of_ble_eq_true rfl) dX13_slope_10
set_option maxHeartbeats 4000000 in
set_option maxRecDepth 100000 in
/-- feed -/
theorem mX13_feed (l : Launch) {E : gE} {ad : Nat → Nat} {N : Nat} {w : Nat → va_E} (b : Nat) (g kp sv bf sd ip sg mk td lv tl : Nat → Nat) (qs qc qw qd co wy : Nat) (de : Int32) (ca ln : Nat) (fa : Option Nat) (sm pa tm : Nat) (ch : Nat) (hb_m : bkP N w b 12 (MDC E ad b g kp sv bf sd ip sg mk td lv tl qs qc qw qd co wy de ca ln fa sm pa tm)) (hln : ln ≤ 60) : gMi l yX13_feed (lw_ws yX13_feed cX13_feed 2 (some .int)) ({ frames := 1, cells := 0, slots := 0, locals := 21 } : Room) E ad N w [.ref (ad (b)), .int (nI (ch))] (fun r w' => ((ln < 60 ∧ r = nI (ln + 1) ∧ bkP N w' b 12 (MDC E ad b g kp sv bf sd (va_up ip ln ch) sg mk td lv tl qs qc qw 0 0 wy de ca (ln + 1) fa sm pa tm)) ∨ (ln = 60 ∧ bkP N w' b 12 (MDC E ad b g kp sv bf sd ip sg mk td lv tl qs qc qw 0 1 wy de ca ln fa sm pa tm))) ∧ gFr (gIn b 12) w w') 0 0 := by
  refine Met.ofW (cc := cX13_feed) (maxL := 2) (ret := (some .int)) (by decide) rfl ?_
  intro p e s m args below meth cd s₁ B hml hv
  obtain ⟨rfl, hI, hP⟩ := hv
  obtain ⟨S, hr, hlocks⟩ := gPre (ws := []) B hml (C := RX13) rfl
  have hx := S.1
  have hb := S.2.1
  have hS : va_S (gA E) s.heap s.heap [] := va_S.rf
  have hfr : gFr (gIn b 12) w w := gFr.rf
  have hl := lv_entry ([.ref (ad (b)), .int (nI (ch))]) (n := 2) (Nat.le_of_ble_eq_true rfl)
  rw [lg_entry_eq]
  generalize (lg_sl ([.ref (ad (b)), .int (nI (ch))]) ++ List.replicate (2 - (lg_sl ([.ref (ad (b)), .int (nI (ch))])).length) Slot.unset).toArray = ls at hl ⊢
  have hl : lv_has ls 2 [(0, .ref (ad (b))), (1, .int (nI (ch)))] := hl
  refine lv_aload_n hx hb dX13_feed_0 rfl (lv_at hl 0 rfl) ?_
  refine lv_aload_n hx hb dX13_feed_1 rfl (lv_at hl 0 rfl) ?_
  refine g_get S hI hP uX13 rfl (fs := _) (hb_m.lt 0 (by decide)) (hb_m.2 0 (by decide)) 14 (by decide) q1801 rfl (v := .int (nI (ln))) rfl dX13_feed_2 ?_
  refine g_bipush S 60 dX13_feed_5 (by decide +kernel) ?_
  refine g_ne S (a := ln) (b := 60) (by omega) (by omega) (tgt := 14) dX13_feed_7 (by decide) (fun h6 => ?_) (fun h6 => ?_)
  · have hl60 : ln < 60 := by omega
    refine g_iconst S 0 dX13_feed_14 (by decide +kernel) ?_
    refine g_afi (g_runV S hI hP hS (k := 1) (As := [.int (nI (0))]) (rest := []) (mX13_fails l b g kp sv bf sd ip sg mk td lv tl qs qc qw qd co wy de ca ln fa sm pa tm 0 hb_m (by decide)) q1878 q1880 q49 q100 q1881 rfl rfl (by decide +kernel) ⟨Nat.le_of_ble_eq_true rfl, Nat.le_of_ble_eq_true rfl⟩ rfl (hb_m.lt 0 (by decide)) (hb_m.2 0 (by decide)) rfl hl.1 rfl (Nat.le_of_ble_eq_true rfl) ⟨(Nat.le_of_ble_eq_true rfl), (Nat.le_of_ble_eq_true rfl)⟩ dX13_feed_15) hS (fun rz w1 H locs hq hP hS => ?_)
    obtain ⟨hr3, hb1, hf2⟩ := hq
    rw [hr3]
    have hfr := hfr.trans hf2 (fun q hq => by (try simp only [gIn] at hq ⊢); (try dsimp only at hq ⊢); omega)
    refine g_beq S (b := decide (0 < 0)) (tgt := 23) dX13_feed_18 (by decide) (fun h2 => ?_) (fun h2 => ?_)
    · refine lv_aload_n hx hb dX13_feed_23 rfl (lv_at hl 0 rfl) ?_
      refine g_get S hI hP uX13 rfl (fs := _) (hb1.lt 0 (by decide)) (hb1.2 0 (by decide)) 13 (by decide) q1800 rfl (v := .ref (ad (b + 6))) rfl dX13_feed_24 ?_
      refine lv_aload_n hx hb dX13_feed_27 rfl (lv_at hl 0 rfl) ?_
      refine g_get S hI hP uX13 rfl (fs := _) (hb1.lt 0 (by decide)) (hb1.2 0 (by decide)) 14 (by decide) q1801 rfl (v := .int (nI (ln))) rfl dX13_feed_28 ?_
      refine lv_iload_n hx hb dX13_feed_31 rfl (lv_at hl 1 rfl) ?_
      refine g_iastN S hI hP hS (f := ip) (x := ch) (hb1.lt 6 (by decide)) (hb1.2 6 (by decide)) (ln) (hl60) (by decide) dX13_feed_32 (fun H locs hP hS => ?_)
      have hP : gP E ad N (va_up _ (b + 6) (MDC E ad b g kp sv bf sd (va_up ip ln ch) sg mk td lv tl qs qc qw 0 0 wy de ca ln fa sm pa tm 6)) H := hP
      have hb4 : bkP N (va_up _ (b + 6) (MDC E ad b g kp sv bf sd (va_up ip ln ch) sg mk td lv tl qs qc qw 0 0 wy de ca ln fa sm pa tm 6)) b 12 (MDC E ad b g kp sv bf sd (va_up ip ln ch) sg mk td lv tl qs qc qw 0 0 wy de ca ln fa sm pa tm) := MD_setA5 hb1 _
      have hfr := hfr.up (p := b + 6) (e := MDC E ad b g kp sv bf sd (va_up ip ln ch) sg mk td lv tl qs qc qw 0 0 wy de ca ln fa sm pa tm 6) (by show _ ∧ _; omega)
      refine lv_aload_n hx hb dX13_feed_33 rfl (lv_at hl 0 rfl) ?_
      refine lv_dup hx hb dX13_feed_34 rfl ?_
      refine g_get S hI hP uX13 rfl (fs := _) (hb4.lt 0 (by decide)) (hb4.2 0 (by decide)) 14 (by decide) q1801 rfl (v := .int (nI (ln))) rfl dX13_feed_35 ?_
      refine g_iconst S 1 dX13_feed_38 (by decide +kernel) ?_
      refine g_iadd S dX13_feed_39 ?_
      refine g_put S hI hP hS uX13 rfl tyX13 tyX13_ok nmX13 (fs := _) (hb4.lt 0 (by decide)) (hb4.2 0 (by decide)) 14 (by decide) q1801 rfl rfl (v := .int (nI (ln + 1))) rfl rfl (Nat.le_of_ble_eq_true rfl) dX13_feed_40 (fun H locs hP hS => ?_)
      have hP : gP E ad N (va_up _ (b) (MDC E ad b g kp sv bf sd (va_up ip ln ch) sg mk td lv tl qs qc qw 0 0 wy de ca (ln + 1) fa sm pa tm 0)) H := hP
      have hb5 : bkP N (va_up _ (b) (MDC E ad b g kp sv bf sd (va_up ip ln ch) sg mk td lv tl qs qc qw 0 0 wy de ca (ln + 1) fa sm pa tm 0)) b 12 (MDC E ad b g kp sv bf sd (va_up ip ln ch) sg mk td lv tl qs qc qw 0 0 wy de ca (ln + 1) fa sm pa tm) := MD_setO hb4 _ _ _ _ _ _ _ _ _ _ _ _ _
      have hfr := hfr.up (p := b) (e := MDC E ad b g kp sv bf sd (va_up ip ln ch) sg mk td lv tl qs qc qw 0 0 wy de ca (ln + 1) fa sm pa tm 0) (by show _ ∧ _; omega)
      refine lv_aload_n hx hb dX13_feed_43 rfl (lv_at hl 0 rfl) ?_
      refine g_get S hI hP uX13 rfl (fs := _) (hb5.lt 0 (by decide)) (hb5.2 0 (by decide)) 14 (by decide) q1801 rfl (v := .int (nI (ln + 1))) rfl dX13_feed_44 ?_
      exact g_iret S hr hlocks hP hS (⟨Or.inl ⟨hl60, rfl, hb5⟩, hfr⟩) (fun _ _ => rfl) (Nat.le_of_ble_eq_true rfl) (Nat.le_of_ble_eq_true rfl) dX13_feed_47
    · exact absurd h2 (by decide)
  · refine g_iconst S 1 dX13_feed_10 (by decide +kernel) ?_
    refine lv_goto (tgt := 15) hx hb dX13_feed_11 (by decide) ?_
    refine g_afi (g_runV S hI hP hS (k := 1) (As := [.int (nI (1))]) (rest := []) (mX13_fails l b g kp sv bf sd ip sg mk td lv tl qs qc qw qd co wy de ca ln fa sm pa tm 1 hb_m (by decide)) q1878 q1880 q49 q100 q1881 rfl rfl (by decide +kernel) ⟨Nat.le_of_ble_eq_true rfl, Nat.le_of_ble_eq_true rfl⟩ rfl (hb_m.lt 0 (by decide)) (hb_m.2 0 (by decide)) rfl hl.1 rfl (Nat.le_of_ble_eq_true rfl) ⟨(Nat.le_of_ble_eq_true rfl), (Nat.le_of_ble_eq_true rfl)⟩ dX13_feed_15) hS (fun rz w1 H locs hq hP hS => ?_)
    obtain ⟨hr8, hb6, hf7⟩ := hq
    rw [hr8]
    have hfr := hfr.trans hf7 (fun q hq => by (try simp only [gIn] at hq ⊢); (try dsimp only at hq ⊢); omega)
    refine g_beq S (b := decide (0 < 1)) (tgt := 23) dX13_feed_18 (by decide) (fun h2 => ?_) (fun h2 => ?_)
    · exact absurd h2 (by decide)
    · refine g_iconst S 0 dX13_feed_21 (by decide +kernel) ?_
      exact g_iret S hr hlocks hP hS (⟨Or.inr ⟨h6, hb6⟩, hfr⟩) (fun _ _ => rfl) (Nat.le_of_ble_eq_true rfl) (Nat.le_of_ble_eq_true rfl) dX13_feed_22
set_option maxHeartbeats 4000000 in
set_option maxRecDepth 100000 in
/-- faultPosition -/
theorem mX13_faultPosition (l : Launch) {E : gE} {ad : Nat → Nat} {N : Nat} {w : Nat → va_E} (b : Nat) (g kp sv bf sd ip sg mk td lv tl : Nat → Nat) (qs qc qw qd co wy : Nat) (de : Int32) (ca ln : Nat) (fa : Option Nat) (sm pa tm : Nat)  (hb_m : bkP N w b 12 (MDC E ad b g kp sv bf sd ip sg mk td lv tl qs qc qw qd co wy de ca ln fa sm pa tm)) (hfa : ∀ k, fa = some k → k < 2 ^ 31) : gMi l yX13_faultPosition (lw_ws yX13_faultPosition cX13_faultPosition 1 (some .int)) ({ frames := 1, cells := 0, slots := 0, locals := 21 } : Room) E ad N w [.ref (ad (b))] (fun r w' => ((∃ k, fa = some k ∧ r = nI k ∧ bkP N w' b 12 (MDC E ad b g kp sv bf sd ip sg mk td lv tl qs qc qw 0 0 wy de ca ln fa sm pa tm)) ∨ (fa = none ∧ bkP N w' b 12 (MDC E ad b g kp sv bf sd ip sg mk td lv tl qs qc qw 0 1 wy de ca ln fa sm pa tm))) ∧ gFr (gIn b 12) w w') 0 0 := by
  refine Met.ofW (cc := cX13_faultPosition) (maxL := 1) (ret := (some .int)) (by decide) rfl ?_
  intro p e s m args below meth cd s₁ B hml hv
  obtain ⟨rfl, hI, hP⟩ := hv
  obtain ⟨S, hr, hlocks⟩ := gPre (ws := []) B hml (C := RX13) rfl
  have hx := S.1
  have hb := S.2.1
  have hS : va_S (gA E) s.heap s.heap [] := va_S.rf
  have hfr : gFr (gIn b 12) w w := gFr.rf
  have hl := lv_entry ([.ref (ad (b))]) (n := 1) (Nat.le_of_ble_eq_true rfl)
  rw [lg_entry_eq]
  generalize (lg_sl ([.ref (ad (b))]) ++ List.replicate (1 - (lg_sl ([.ref (ad (b))])).length) Slot.unset).toArray = ls at hl ⊢
  have hl : lv_has ls 1 [(0, .ref (ad (b)))] := hl
  refine lv_aload_n hx hb dX13_faultPosition_0 rfl (lv_at hl 0 rfl) ?_
  refine lv_aload_n hx hb dX13_faultPosition_1 rfl (lv_at hl 0 rfl) ?_
  refine g_get S hI hP uX13 rfl (fs := _) (hb_m.lt 0 (by decide)) (hb_m.2 0 (by decide)) 15 (by decide) q1802 rfl (v := .int (oI (fa))) rfl dX13_faultPosition_2 ?_
  refine g_ogeZ S (o := fa) (hfa) (tgt := 12) dX13_faultPosition_5 (by decide) (fun hn_k hn => ?_) (fun hn => ?_)
  · refine g_iconst S 0 dX13_faultPosition_12 (by decide +kernel) ?_
    refine g_afi (g_runV S hI hP hS (k := 1) (As := [.int (nI (0))]) (rest := []) (mX13_fails l b g kp sv bf sd ip sg mk td lv tl qs qc qw qd co wy de ca ln fa sm pa tm 0 hb_m (by decide)) q1878 q1880 q49 q100 q1881 rfl rfl (by decide +kernel) ⟨Nat.le_of_ble_eq_true rfl, Nat.le_of_ble_eq_true rfl⟩ rfl (hb_m.lt 0 (by decide)) (hb_m.2 0 (by decide)) rfl hl.1 rfl (Nat.le_of_ble_eq_true rfl) ⟨(Nat.le_of_ble_eq_true rfl), (Nat.le_of_ble_eq_true rfl)⟩ dX13_faultPosition_13) hS (fun rz w1 H locs hq hP hS => ?_)
    obtain ⟨hr3, hb1, hf2⟩ := hq
    rw [hr3]
    have hfr := hfr.trans hf2 (fun q hq => by (try simp only [gIn] at hq ⊢); (try dsimp only at hq ⊢); omega)
    refine g_beq S (b := decide (0 < 0)) (tgt := 23) dX13_faultPosition_16 (by decide) (fun hfk => ?_) (fun hfk => ?_)
    · refine lv_aload_n hx hb dX13_faultPosition_23 rfl (lv_at hl 0 rfl) ?_
      refine g_get S hI hP uX13 rfl (fs := _) (hb1.lt 0 (by decide)) (hb1.2 0 (by decide)) 15 (by decide) q1802 rfl (v := .int (oI (fa))) rfl dX13_faultPosition_24 ?_
      exact g_iret S hr hlocks hP hS (⟨Or.inl ⟨hn_k, hn, by rw [hn]; rfl, hb1⟩, hfr⟩) (fun _ _ => rfl) (Nat.le_of_ble_eq_true rfl) (Nat.le_of_ble_eq_true rfl) dX13_faultPosition_27
    · exact absurd hfk (by decide)
  · refine g_iconst S 1 dX13_faultPosition_8 (by decide +kernel) ?_
    refine lv_goto (tgt := 13) hx hb dX13_faultPosition_9 (by decide) ?_
    refine g_afi (g_runV S hI hP hS (k := 1) (As := [.int (nI (1))]) (rest := []) (mX13_fails l b g kp sv bf sd ip sg mk td lv tl qs qc qw qd co wy de ca ln fa sm pa tm 1 hb_m (by decide)) q1878 q1880 q49 q100 q1881 rfl rfl (by decide +kernel) ⟨Nat.le_of_ble_eq_true rfl, Nat.le_of_ble_eq_true rfl⟩ rfl (hb_m.lt 0 (by decide)) (hb_m.2 0 (by decide)) rfl hl.1 rfl (Nat.le_of_ble_eq_true rfl) ⟨(Nat.le_of_ble_eq_true rfl), (Nat.le_of_ble_eq_true rfl)⟩ dX13_faultPosition_13) hS (fun rz w1 H locs hq hP hS => ?_)
    obtain ⟨hr6, hb4, hf5⟩ := hq
    rw [hr6]
    have hfr := hfr.trans hf5 (fun q hq => by (try simp only [gIn] at hq ⊢); (try dsimp only at hq ⊢); omega)
    refine g_beq S (b := decide (0 < 1)) (tgt := 23) dX13_faultPosition_16 (by decide) (fun hfk => ?_) (fun hfk => ?_)
    · exact absurd hfk (by decide)
    · refine g_iconst S 0 dX13_faultPosition_19 (by decide +kernel) ?_
      refine lv_goto (tgt := 27) hx hb dX13_faultPosition_20 (by decide) ?_
      exact g_iret S hr hlocks hP hS (⟨Or.inr ⟨hn, hb4⟩, hfr⟩) (fun _ _ => rfl) (Nat.le_of_ble_eq_true rfl) (Nat.le_of_ble_eq_true rfl) dX13_faultPosition_27
set_option maxHeartbeats 4000000 in
set_option maxRecDepth 100000 in
/-- denial -/
theorem mX13_denial (l : Launch) {E : gE} {ad : Nat → Nat} {N : Nat} {w : Nat → va_E} (b : Nat) (g kp sv bf sd ip sg mk td lv tl : Nat → Nat) (qs qc qw qd co wy : Nat) (de : Int32) (ca ln : Nat) (fa : Option Nat) (sm pa tm : Nat)  (hb_m : bkP N w b 12 (MDC E ad b g kp sv bf sd ip sg mk td lv tl qs qc qw qd co wy de ca ln fa sm pa tm)) (hw3 : wy < 2 ^ 31) : gMi l yX13_denial (lw_ws yX13_denial cX13_denial 1 (some .int)) ({ frames := 1, cells := 0, slots := 0, locals := 21 } : Room) E ad N w [.ref (ad (b))] (fun r w' => ((0 < wy ∧ r = nI wy ∧ bkP N w' b 12 (MDC E ad b g kp sv bf sd ip sg mk td lv tl qs qc qw 0 0 wy de ca ln fa sm pa tm)) ∨ (wy = 0 ∧ bkP N w' b 12 (MDC E ad b g kp sv bf sd ip sg mk td lv tl qs qc qw 0 1 wy de ca ln fa sm pa tm))) ∧ gFr (gIn b 12) w w') 0 0 := by
  refine Met.ofW (cc := cX13_denial) (maxL := 1) (ret := (some .int)) (by decide) rfl ?_
  intro p e s m args below meth cd s₁ B hml hv
  obtain ⟨rfl, hI, hP⟩ := hv
  obtain ⟨S, hr, hlocks⟩ := gPre (ws := []) B hml (C := RX13) rfl
  have hx := S.1
  have hb := S.2.1
  have hS : va_S (gA E) s.heap s.heap [] := va_S.rf
  have hfr : gFr (gIn b 12) w w := gFr.rf
  have hl := lv_entry ([.ref (ad (b))]) (n := 1) (Nat.le_of_ble_eq_true rfl)
  rw [lg_entry_eq]
  generalize (lg_sl ([.ref (ad (b))]) ++ List.replicate (1 - (lg_sl ([.ref (ad (b))])).length) Slot.unset).toArray = ls at hl ⊢
  have hl : lv_has ls 1 [(0, .ref (ad (b)))] := hl
  refine lv_aload_n hx hb dX13_denial_0 rfl (lv_at hl 0 rfl) ?_
  refine lv_aload_n hx hb dX13_denial_1 rfl (lv_at hl 0 rfl) ?_
  refine g_get S hI hP uX13 rfl (fs := _) (hb_m.lt 0 (by decide)) (hb_m.2 0 (by decide)) 10 (by decide) q1797 rfl (v := .int (nI (wy))) rfl dX13_denial_2 ?_
  refine g_ifne S (a := wy) (by omega) (tgt := 12) dX13_denial_5 (by decide) (fun hn => ?_) (fun hn => ?_)
  · refine g_iconst S 0 dX13_denial_12 (by decide +kernel) ?_
    refine g_afi (g_runV S hI hP hS (k := 1) (As := [.int (nI (0))]) (rest := []) (mX13_fails l b g kp sv bf sd ip sg mk td lv tl qs qc qw qd co wy de ca ln fa sm pa tm 0 hb_m (by decide)) q1878 q1880 q49 q100 q1881 rfl rfl (by decide +kernel) ⟨Nat.le_of_ble_eq_true rfl, Nat.le_of_ble_eq_true rfl⟩ rfl (hb_m.lt 0 (by decide)) (hb_m.2 0 (by decide)) rfl hl.1 rfl (Nat.le_of_ble_eq_true rfl) ⟨(Nat.le_of_ble_eq_true rfl), (Nat.le_of_ble_eq_true rfl)⟩ dX13_denial_13) hS (fun rz w1 H locs hq hP hS => ?_)
    obtain ⟨hr3, hb1, hf2⟩ := hq
    rw [hr3]
    have hfr := hfr.trans hf2 (fun q hq => by (try simp only [gIn] at hq ⊢); (try dsimp only at hq ⊢); omega)
    refine g_beq S (b := decide (0 < 0)) (tgt := 23) dX13_denial_16 (by decide) (fun hfk => ?_) (fun hfk => ?_)
    · refine lv_aload_n hx hb dX13_denial_23 rfl (lv_at hl 0 rfl) ?_
      refine g_get S hI hP uX13 rfl (fs := _) (hb1.lt 0 (by decide)) (hb1.2 0 (by decide)) 10 (by decide) q1797 rfl (v := .int (nI (wy))) rfl dX13_denial_24 ?_
      exact g_iret S hr hlocks hP hS (⟨Or.inl ⟨hn, rfl, hb1⟩, hfr⟩) (fun _ _ => rfl) (Nat.le_of_ble_eq_true rfl) (Nat.le_of_ble_eq_true rfl) dX13_denial_27
    · exact absurd hfk (by decide)
  · refine g_iconst S 1 dX13_denial_8 (by decide +kernel) ?_
    refine lv_goto (tgt := 13) hx hb dX13_denial_9 (by decide) ?_
    refine g_afi (g_runV S hI hP hS (k := 1) (As := [.int (nI (1))]) (rest := []) (mX13_fails l b g kp sv bf sd ip sg mk td lv tl qs qc qw qd co wy de ca ln fa sm pa tm 1 hb_m (by decide)) q1878 q1880 q49 q100 q1881 rfl rfl (by decide +kernel) ⟨Nat.le_of_ble_eq_true rfl, Nat.le_of_ble_eq_true rfl⟩ rfl (hb_m.lt 0 (by decide)) (hb_m.2 0 (by decide)) rfl hl.1 rfl (Nat.le_of_ble_eq_true rfl) ⟨(Nat.le_of_ble_eq_true rfl), (Nat.le_of_ble_eq_true rfl)⟩ dX13_denial_13) hS (fun rz w1 H locs hq hP hS => ?_)
    obtain ⟨hr6, hb4, hf5⟩ := hq
    rw [hr6]
    have hfr := hfr.trans hf5 (fun q hq => by (try simp only [gIn] at hq ⊢); (try dsimp only at hq ⊢); omega)
    refine g_beq S (b := decide (0 < 1)) (tgt := 23) dX13_denial_16 (by decide) (fun hfk => ?_) (fun hfk => ?_)
    · exact absurd hfk (by decide)
    · refine g_iconst S 0 dX13_denial_19 (by decide +kernel) ?_
      refine lv_goto (tgt := 27) hx hb dX13_denial_20 (by decide) ?_
      exact g_iret S hr hlocks hP hS (⟨Or.inr ⟨hn, hb4⟩, hfr⟩) (fun _ _ => rfl) (Nat.le_of_ble_eq_true rfl) (Nat.le_of_ble_eq_true rfl) dX13_denial_27
set_option maxHeartbeats 4000000 in
set_option maxRecDepth 100000 in
/-- denialDetail -/
theorem mX13_denialDetail (l : Launch) {E : gE} {ad : Nat → Nat} {N : Nat} {w : Nat → va_E} (b : Nat) (g kp sv bf sd ip sg mk td lv tl : Nat → Nat) (qs qc qw qd co wy : Nat) (de : Int32) (ca ln : Nat) (fa : Option Nat) (sm pa tm : Nat)  (hb_m : bkP N w b 12 (MDC E ad b g kp sv bf sd ip sg mk td lv tl qs qc qw qd co wy de ca ln fa sm pa tm)) (hw3 : wy < 2 ^ 31) : gMi l yX13_denialDetail (lw_ws yX13_denialDetail cX13_denialDetail 1 (some .int)) ({ frames := 1, cells := 0, slots := 0, locals := 21 } : Room) E ad N w [.ref (ad (b))] (fun r w' => ((0 < wy ∧ r = de ∧ bkP N w' b 12 (MDC E ad b g kp sv bf sd ip sg mk td lv tl qs qc qw 0 0 wy de ca ln fa sm pa tm)) ∨ (wy = 0 ∧ bkP N w' b 12 (MDC E ad b g kp sv bf sd ip sg mk td lv tl qs qc qw 0 1 wy de ca ln fa sm pa tm))) ∧ gFr (gIn b 12) w w') 0 0 := by
  refine Met.ofW (cc := cX13_denialDetail) (maxL := 1) (ret := (some .int)) (by decide) rfl ?_
  intro p e s m args below meth cd s₁ B hml hv
  obtain ⟨rfl, hI, hP⟩ := hv
  obtain ⟨S, hr, hlocks⟩ := gPre (ws := []) B hml (C := RX13) rfl
  have hx := S.1
  have hb := S.2.1
  have hS : va_S (gA E) s.heap s.heap [] := va_S.rf
  have hfr : gFr (gIn b 12) w w := gFr.rf
  have hl := lv_entry ([.ref (ad (b))]) (n := 1) (Nat.le_of_ble_eq_true rfl)
  rw [lg_entry_eq]
  generalize (lg_sl ([.ref (ad (b))]) ++ List.replicate (1 - (lg_sl ([.ref (ad (b))])).length) Slot.unset).toArray = ls at hl ⊢
  have hl : lv_has ls 1 [(0, .ref (ad (b)))] := hl
  refine lv_aload_n hx hb dX13_denialDetail_0 rfl (lv_at hl 0 rfl) ?_
  refine lv_aload_n hx hb dX13_denialDetail_1 rfl (lv_at hl 0 rfl) ?_
  refine g_get S hI hP uX13 rfl (fs := _) (hb_m.lt 0 (by decide)) (hb_m.2 0 (by decide)) 10 (by decide) q1797 rfl (v := .int (nI (wy))) rfl dX13_denialDetail_2 ?_
  refine g_ifne S (a := wy) (by omega) (tgt := 12) dX13_denialDetail_5 (by decide) (fun hn => ?_) (fun hn => ?_)
  · refine g_iconst S 0 dX13_denialDetail_12 (by decide +kernel) ?_
    refine g_afi (g_runV S hI hP hS (k := 1) (As := [.int (nI (0))]) (rest := []) (mX13_fails l b g kp sv bf sd ip sg mk td lv tl qs qc qw qd co wy de ca ln fa sm pa tm 0 hb_m (by decide)) q1878 q1880 q49 q100 q1881 rfl rfl (by decide +kernel) ⟨Nat.le_of_ble_eq_true rfl, Nat.le_of_ble_eq_true rfl⟩ rfl (hb_m.lt 0 (by decide)) (hb_m.2 0 (by decide)) rfl hl.1 rfl (Nat.le_of_ble_eq_true rfl) ⟨(Nat.le_of_ble_eq_true rfl), (Nat.le_of_ble_eq_true rfl)⟩ dX13_denialDetail_13) hS (fun rz w1 H locs hq hP hS => ?_)
    obtain ⟨hr3, hb1, hf2⟩ := hq
    rw [hr3]
    have hfr := hfr.trans hf2 (fun q hq => by (try simp only [gIn] at hq ⊢); (try dsimp only at hq ⊢); omega)
    refine g_beq S (b := decide (0 < 0)) (tgt := 23) dX13_denialDetail_16 (by decide) (fun hfk => ?_) (fun hfk => ?_)
    · refine lv_aload_n hx hb dX13_denialDetail_23 rfl (lv_at hl 0 rfl) ?_
      refine g_get S hI hP uX13 rfl (fs := _) (hb1.lt 0 (by decide)) (hb1.2 0 (by decide)) 11 (by decide) q1798 rfl (v := .int (de)) rfl dX13_denialDetail_24 ?_
      exact g_iret S hr hlocks hP hS (⟨Or.inl ⟨hn, rfl, hb1⟩, hfr⟩) (fun _ _ => rfl) (Nat.le_of_ble_eq_true rfl) (Nat.le_of_ble_eq_true rfl) dX13_denialDetail_27
    · exact absurd hfk (by decide)
  · refine g_iconst S 1 dX13_denialDetail_8 (by decide +kernel) ?_
    refine lv_goto (tgt := 13) hx hb dX13_denialDetail_9 (by decide) ?_
    refine g_afi (g_runV S hI hP hS (k := 1) (As := [.int (nI (1))]) (rest := []) (mX13_fails l b g kp sv bf sd ip sg mk td lv tl qs qc qw qd co wy de ca ln fa sm pa tm 1 hb_m (by decide)) q1878 q1880 q49 q100 q1881 rfl rfl (by decide +kernel) ⟨Nat.le_of_ble_eq_true rfl, Nat.le_of_ble_eq_true rfl⟩ rfl (hb_m.lt 0 (by decide)) (hb_m.2 0 (by decide)) rfl hl.1 rfl (Nat.le_of_ble_eq_true rfl) ⟨(Nat.le_of_ble_eq_true rfl), (Nat.le_of_ble_eq_true rfl)⟩ dX13_denialDetail_13) hS (fun rz w1 H locs hq hP hS => ?_)
    obtain ⟨hr6, hb4, hf5⟩ := hq
    rw [hr6]
    have hfr := hfr.trans hf5 (fun q hq => by (try simp only [gIn] at hq ⊢); (try dsimp only at hq ⊢); omega)
    refine g_beq S (b := decide (0 < 1)) (tgt := 23) dX13_denialDetail_16 (by decide) (fun hfk => ?_) (fun hfk => ?_)
    · exact absurd hfk (by decide)
    · refine g_iconst S 0 dX13_denialDetail_19 (by decide +kernel) ?_
      refine lv_goto (tgt := 27) hx hb dX13_denialDetail_20 (by decide) ?_
      exact g_iret S hr hlocks hP hS (⟨Or.inr ⟨hn, hb4⟩, hfr⟩) (fun _ _ => rfl) (Nat.le_of_ble_eq_true rfl) (Nat.le_of_ble_eq_true rfl) dX13_denialDetail_27
set_option maxHeartbeats 4000000 in
set_option maxRecDepth 100000 in
/-- denialCause -/
theorem mX13_denialCause (l : Launch) {E : gE} {ad : Nat → Nat} {N : Nat} {w : Nat → va_E} (b : Nat) (g kp sv bf sd ip sg mk td lv tl : Nat → Nat) (qs qc qw qd co wy : Nat) (de : Int32) (ca ln : Nat) (fa : Option Nat) (sm pa tm : Nat)  (hb_m : bkP N w b 12 (MDC E ad b g kp sv bf sd ip sg mk td lv tl qs qc qw qd co wy de ca ln fa sm pa tm)) (hw3 : ca < 2 ^ 31) : gMi l yX13_denialCause (lw_ws yX13_denialCause cX13_denialCause 1 (some .int)) ({ frames := 1, cells := 0, slots := 0, locals := 21 } : Room) E ad N w [.ref (ad (b))] (fun r w' => ((0 < ca ∧ r = nI ca ∧ bkP N w' b 12 (MDC E ad b g kp sv bf sd ip sg mk td lv tl qs qc qw 0 0 wy de ca ln fa sm pa tm)) ∨ (ca = 0 ∧ bkP N w' b 12 (MDC E ad b g kp sv bf sd ip sg mk td lv tl qs qc qw 0 1 wy de ca ln fa sm pa tm))) ∧ gFr (gIn b 12) w w') 0 0 := by
  refine Met.ofW (cc := cX13_denialCause) (maxL := 1) (ret := (some .int)) (by decide) rfl ?_
  intro p e s m args below meth cd s₁ B hml hv
  obtain ⟨rfl, hI, hP⟩ := hv
  obtain ⟨S, hr, hlocks⟩ := gPre (ws := []) B hml (C := RX13) rfl
  have hx := S.1
  have hb := S.2.1
  have hS : va_S (gA E) s.heap s.heap [] := va_S.rf
  have hfr : gFr (gIn b 12) w w := gFr.rf
  have hl := lv_entry ([.ref (ad (b))]) (n := 1) (Nat.le_of_ble_eq_true rfl)
  rw [lg_entry_eq]
  generalize (lg_sl ([.ref (ad (b))]) ++ List.replicate (1 - (lg_sl ([.ref (ad (b))])).length) Slot.unset).toArray = ls at hl ⊢
  have hl : lv_has ls 1 [(0, .ref (ad (b)))] := hl
  refine lv_aload_n hx hb dX13_denialCause_0 rfl (lv_at hl 0 rfl) ?_
  refine lv_aload_n hx hb dX13_denialCause_1 rfl (lv_at hl 0 rfl) ?_
  refine g_get S hI hP uX13 rfl (fs := _) (hb_m.lt 0 (by decide)) (hb_m.2 0 (by decide)) 12 (by decide) q1799 rfl (v := .int (nI (ca))) rfl dX13_denialCause_2 ?_
  refine g_ifne S (a := ca) (by omega) (tgt := 12) dX13_denialCause_5 (by decide) (fun hn => ?_) (fun hn => ?_)
  · refine g_iconst S 0 dX13_denialCause_12 (by decide +kernel) ?_
    refine g_afi (g_runV S hI hP hS (k := 1) (As := [.int (nI (0))]) (rest := []) (mX13_fails l b g kp sv bf sd ip sg mk td lv tl qs qc qw qd co wy de ca ln fa sm pa tm 0 hb_m (by decide)) q1878 q1880 q49 q100 q1881 rfl rfl (by decide +kernel) ⟨Nat.le_of_ble_eq_true rfl, Nat.le_of_ble_eq_true rfl⟩ rfl (hb_m.lt 0 (by decide)) (hb_m.2 0 (by decide)) rfl hl.1 rfl (Nat.le_of_ble_eq_true rfl) ⟨(Nat.le_of_ble_eq_true rfl), (Nat.le_of_ble_eq_true rfl)⟩ dX13_denialCause_13) hS (fun rz w1 H locs hq hP hS => ?_)
    obtain ⟨hr3, hb1, hf2⟩ := hq
    rw [hr3]
    have hfr := hfr.trans hf2 (fun q hq => by (try simp only [gIn] at hq ⊢); (try dsimp only at hq ⊢); omega)
    refine g_beq S (b := decide (0 < 0)) (tgt := 23) dX13_denialCause_16 (by decide) (fun hfk => ?_) (fun hfk => ?_)
    · refine lv_aload_n hx hb dX13_denialCause_23 rfl (lv_at hl 0 rfl) ?_
      refine g_get S hI hP uX13 rfl (fs := _) (hb1.lt 0 (by decide)) (hb1.2 0 (by decide)) 12 (by decide) q1799 rfl (v := .int (nI (ca))) rfl dX13_denialCause_24 ?_
      exact g_iret S hr hlocks hP hS (⟨Or.inl ⟨hn, rfl, hb1⟩, hfr⟩) (fun _ _ => rfl) (Nat.le_of_ble_eq_true rfl) (Nat.le_of_ble_eq_true rfl) dX13_denialCause_27
    · exact absurd hfk (by decide)
  · refine g_iconst S 1 dX13_denialCause_8 (by decide +kernel) ?_
    refine lv_goto (tgt := 13) hx hb dX13_denialCause_9 (by decide) ?_
    refine g_afi (g_runV S hI hP hS (k := 1) (As := [.int (nI (1))]) (rest := []) (mX13_fails l b g kp sv bf sd ip sg mk td lv tl qs qc qw qd co wy de ca ln fa sm pa tm 1 hb_m (by decide)) q1878 q1880 q49 q100 q1881 rfl rfl (by decide +kernel) ⟨Nat.le_of_ble_eq_true rfl, Nat.le_of_ble_eq_true rfl⟩ rfl (hb_m.lt 0 (by decide)) (hb_m.2 0 (by decide)) rfl hl.1 rfl (Nat.le_of_ble_eq_true rfl) ⟨(Nat.le_of_ble_eq_true rfl), (Nat.le_of_ble_eq_true rfl)⟩ dX13_denialCause_13) hS (fun rz w1 H locs hq hP hS => ?_)
    obtain ⟨hr6, hb4, hf5⟩ := hq
    rw [hr6]
    have hfr := hfr.trans hf5 (fun q hq => by (try simp only [gIn] at hq ⊢); (try dsimp only at hq ⊢); omega)
    refine g_beq S (b := decide (0 < 1)) (tgt := 23) dX13_denialCause_16 (by decide) (fun hfk => ?_) (fun hfk => ?_)
    · exact absurd hfk (by decide)
    · refine g_iconst S 0 dX13_denialCause_19 (by decide +kernel) ?_
      refine lv_goto (tgt := 27) hx hb dX13_denialCause_20 (by decide) ?_
      exact g_iret S hr hlocks hP hS (⟨Or.inr ⟨hn, hb4⟩, hfr⟩) (fun _ _ => rfl) (Nat.le_of_ble_eq_true rfl) (Nat.le_of_ble_eq_true rfl) dX13_denialCause_27
set_option maxHeartbeats 4000000 in
set_option maxRecDepth 100000 in
/-- undo -/
theorem mX13_undo (l : Launch) {E : gE} {ad : Nat → Nat} {N : Nat} {w : Nat → va_E} (b : Nat) (g kp sv bf sd ip sg mk td lv tl : Nat → Nat) (qs qc qw qd co wy : Nat) (de : Int32) (ca ln : Nat) (fa : Option Nat) (sm pa tm : Nat)  (hb_m : bkP N w b 12 (MDC E ad b g kp sv bf sd ip sg mk td lv tl qs qc qw qd co wy de ca ln fa sm pa tm)) (hqc : qc ≤ 8) : gMi l yX13_undo (lw_ws yX13_undo cX13_undo 1 (some .int)) ({ frames := 1, cells := 0, slots := 0, locals := 24 } : Room) E ad N w [.ref (ad (b))] (fun r w' => ((0 < qc ∧ r = nI (qc - 1) ∧ bkP N w' b 12 (MDC E ad b (cpA kp (152 * (qc - 1)) g 0 152) kp sv bf sd ip sg mk td lv tl qs (qc - 1) qw 0 0 wy de ca ln fa sm pa tm)) ∨ (qc = 0 ∧ bkP N w' b 12 (MDC E ad b g kp sv bf sd ip sg mk td lv tl qs qc qw 0 1 wy de ca ln fa sm pa tm))) ∧ gFr (gIn b 12) w w') 0 0 := by
  refine Met.ofW (cc := cX13_undo) (maxL := 1) (ret := (some .int)) (by decide) rfl ?_
  intro p e s m args below meth cd s₁ B hml hv
  obtain ⟨rfl, hI, hP⟩ := hv
  obtain ⟨S, hr, hlocks⟩ := gPre (ws := []) B hml (C := RX13) rfl
  have hx := S.1
  have hb := S.2.1
  have hS : va_S (gA E) s.heap s.heap [] := va_S.rf
  have hfr : gFr (gIn b 12) w w := gFr.rf
  have hl := lv_entry ([.ref (ad (b))]) (n := 1) (Nat.le_of_ble_eq_true rfl)
  rw [lg_entry_eq]
  generalize (lg_sl ([.ref (ad (b))]) ++ List.replicate (1 - (lg_sl ([.ref (ad (b))])).length) Slot.unset).toArray = ls at hl ⊢
  have hl : lv_has ls 1 [(0, .ref (ad (b)))] := hl
  refine lv_aload_n hx hb dX13_undo_0 rfl (lv_at hl 0 rfl) ?_
  refine lv_aload_n hx hb dX13_undo_1 rfl (lv_at hl 0 rfl) ?_
  refine g_get S hI hP uX13 rfl (fs := _) (hb_m.lt 0 (by decide)) (hb_m.2 0 (by decide)) 6 (by decide) q1793 rfl (v := .int (nI (qc))) rfl dX13_undo_2 ?_
  refine g_ifne S (a := qc) (by omega) (tgt := 12) dX13_undo_5 (by decide) (fun hn => ?_) (fun hn => ?_)
  · refine g_iconst S 0 dX13_undo_12 (by decide +kernel) ?_
    refine g_afi (g_runV S hI hP hS (k := 1) (As := [.int (nI (0))]) (rest := []) (mX13_fails l b g kp sv bf sd ip sg mk td lv tl qs qc qw qd co wy de ca ln fa sm pa tm 0 hb_m (by decide)) q1878 q1880 q49 q100 q1881 rfl rfl (by decide +kernel) ⟨Nat.le_of_ble_eq_true rfl, Nat.le_of_ble_eq_true rfl⟩ rfl (hb_m.lt 0 (by decide)) (hb_m.2 0 (by decide)) rfl hl.1 rfl (Nat.le_of_ble_eq_true rfl) ⟨(Nat.le_of_ble_eq_true rfl), (Nat.le_of_ble_eq_true rfl)⟩ dX13_undo_13) hS (fun rz w1 H locs hq hP hS => ?_)
    obtain ⟨hr3, hb1, hf2⟩ := hq
    rw [hr3]
    have hfr := hfr.trans hf2 (fun q hq => by (try simp only [gIn] at hq ⊢); (try dsimp only at hq ⊢); omega)
    refine g_beq S (b := decide (0 < 0)) (tgt := 21) dX13_undo_16 (by decide) (fun hfk => ?_) (fun hfk => ?_)
    · refine lv_aload_n hx hb dX13_undo_21 rfl (lv_at hl 0 rfl) ?_
      refine lv_dup hx hb dX13_undo_22 rfl ?_
      refine g_get S hI hP uX13 rfl (fs := _) (hb1.lt 0 (by decide)) (hb1.2 0 (by decide)) 6 (by decide) q1793 rfl (v := .int (nI (qc))) rfl dX13_undo_23 ?_
      refine g_iconst S 1 dX13_undo_26 (by decide +kernel) ?_
      refine g_isub S (by omega) dX13_undo_27 ?_
      refine g_put S hI hP hS uX13 rfl tyX13 tyX13_ok nmX13 (fs := _) (hb1.lt 0 (by decide)) (hb1.2 0 (by decide)) 6 (by decide) q1793 rfl rfl (v := .int (nI (qc - 1))) rfl rfl (Nat.le_of_ble_eq_true rfl) dX13_undo_28 (fun H locs hP hS => ?_)
      have hP : gP E ad N (va_up _ (b) (MDC E ad b g kp sv bf sd ip sg mk td lv tl qs (qc - 1) qw 0 0 wy de ca ln fa sm pa tm 0)) H := hP
      have hb4 : bkP N (va_up _ (b) (MDC E ad b g kp sv bf sd ip sg mk td lv tl qs (qc - 1) qw 0 0 wy de ca ln fa sm pa tm 0)) b 12 (MDC E ad b g kp sv bf sd ip sg mk td lv tl qs (qc - 1) qw 0 0 wy de ca ln fa sm pa tm) := MD_setO hb1 _ _ _ _ _ _ _ _ _ _ _ _ _
      have hfr := hfr.up (p := b) (e := MDC E ad b g kp sv bf sd ip sg mk td lv tl qs (qc - 1) qw 0 0 wy de ca ln fa sm pa tm 0) (by show _ ∧ _; omega)
      refine lv_aload_n hx hb dX13_undo_31 rfl (lv_at hl 0 rfl) ?_
      refine g_get S hI hP uX13 rfl (fs := _) (hb4.lt 0 (by decide)) (hb4.2 0 (by decide)) 1 (by decide) q1788 rfl (v := .ref (ad (b + 2))) rfl dX13_undo_32 ?_
      refine g_sipush S 152 dX13_undo_35 (by decide +kernel) ?_
      refine lv_aload_n hx hb dX13_undo_38 rfl (lv_at hl 0 rfl) ?_
      refine g_get S hI hP uX13 rfl (fs := _) (hb4.lt 0 (by decide)) (hb4.2 0 (by decide)) 6 (by decide) q1793 rfl (v := .int (nI (qc - 1))) rfl dX13_undo_39 ?_
      refine g_imul S dX13_undo_42 ?_
      refine lv_aload_n hx hb dX13_undo_43 rfl (lv_at hl 0 rfl) ?_
      refine g_get S hI hP uX13 rfl (fs := _) (hb4.lt 0 (by decide)) (hb4.2 0 (by decide)) 0 (by decide) q1787 rfl (v := .ref (ad (b + 1))) rfl dX13_undo_44 ?_
      refine g_iconst S 0 dX13_undo_47 (by decide +kernel) ?_
      refine g_afv (g_runS S hI hP hS (k := 4) (As := [.ref (ad (b + 2)), .int (nI (152 * (qc - 1))), .ref (ad (b + 1)), .int (nI (0))]) (rest := []) (mX13_copies l (b + 2) (b + 1) (152 * (qc - 1)) (0) 1216 152 kp g (hb4.lt 2 (by decide)) (hb4.lt 1 (by decide)) (by omega) (hb4.2 2 (by decide)) (hb4.2 1 (by decide)) (by omega) (by omega) (by decide) (by decide)) q1894 q1895 q100 q1896 rfl rfl (by decide +kernel) ⟨Nat.le_of_ble_eq_true rfl, Nat.le_of_ble_eq_true rfl⟩ rfl hl.1 rfl (Nat.le_of_ble_eq_true rfl) ⟨(Nat.le_of_ble_eq_true rfl), (Nat.le_of_ble_eq_true rfl)⟩ dX13_undo_48) hS (fun w1 H locs hq hP hS => ?_)
      obtain hq := hq
      subst hq
      have hP : gP E ad N (va_up _ (b + 1) (MDC E ad b (cpA kp (152 * (qc - 1)) g 0 152) kp sv bf sd ip sg mk td lv tl qs (qc - 1) qw 0 0 wy de ca ln fa sm pa tm 1)) H := hP
      have hb5 : bkP N (va_up _ (b + 1) (MDC E ad b (cpA kp (152 * (qc - 1)) g 0 152) kp sv bf sd ip sg mk td lv tl qs (qc - 1) qw 0 0 wy de ca ln fa sm pa tm 1)) b 12 (MDC E ad b (cpA kp (152 * (qc - 1)) g 0 152) kp sv bf sd ip sg mk td lv tl qs (qc - 1) qw 0 0 wy de ca ln fa sm pa tm) := MD_setA0 hb4 _
      have hfr := hfr.up (p := b + 1) (e := MDC E ad b (cpA kp (152 * (qc - 1)) g 0 152) kp sv bf sd ip sg mk td lv tl qs (qc - 1) qw 0 0 wy de ca ln fa sm pa tm 1) (by show _ ∧ _; omega)
      refine lv_aload_n hx hb dX13_undo_51 rfl (lv_at hl 0 rfl) ?_
      refine g_get S hI hP uX13 rfl (fs := _) (hb5.lt 0 (by decide)) (hb5.2 0 (by decide)) 6 (by decide) q1793 rfl (v := .int (nI (qc - 1))) rfl dX13_undo_52 ?_
      exact g_iret S hr hlocks hP hS (⟨Or.inl ⟨hn, rfl, hb5⟩, hfr⟩) (fun _ _ => rfl) (Nat.le_of_ble_eq_true rfl) (Nat.le_of_ble_eq_true rfl) dX13_undo_55
    · exact absurd hfk (by decide)
  · refine g_iconst S 1 dX13_undo_8 (by decide +kernel) ?_
    refine lv_goto (tgt := 13) hx hb dX13_undo_9 (by decide) ?_
    refine g_afi (g_runV S hI hP hS (k := 1) (As := [.int (nI (1))]) (rest := []) (mX13_fails l b g kp sv bf sd ip sg mk td lv tl qs qc qw qd co wy de ca ln fa sm pa tm 1 hb_m (by decide)) q1878 q1880 q49 q100 q1881 rfl rfl (by decide +kernel) ⟨Nat.le_of_ble_eq_true rfl, Nat.le_of_ble_eq_true rfl⟩ rfl (hb_m.lt 0 (by decide)) (hb_m.2 0 (by decide)) rfl hl.1 rfl (Nat.le_of_ble_eq_true rfl) ⟨(Nat.le_of_ble_eq_true rfl), (Nat.le_of_ble_eq_true rfl)⟩ dX13_undo_13) hS (fun rz w1 H locs hq hP hS => ?_)
    obtain ⟨hr8, hb6, hf7⟩ := hq
    rw [hr8]
    have hfr := hfr.trans hf7 (fun q hq => by (try simp only [gIn] at hq ⊢); (try dsimp only at hq ⊢); omega)
    refine g_beq S (b := decide (0 < 1)) (tgt := 21) dX13_undo_16 (by decide) (fun hfk => ?_) (fun hfk => ?_)
    · exact absurd hfk (by decide)
    · refine g_iconst S 0 dX13_undo_19 (by decide +kernel) ?_
      exact g_iret S hr hlocks hP hS (⟨Or.inr ⟨hn, hb6⟩, hfr⟩) (fun _ _ => rfl) (Nat.le_of_ble_eq_true rfl) (Nat.le_of_ble_eq_true rfl) dX13_undo_20
set_option maxHeartbeats 4000000 in
set_option maxRecDepth 100000 in
/-- saveSnapshot -/
theorem mX13_saveSnapshot (l : Launch) {E : gE} {ad : Nat → Nat} {N : Nat} {w : Nat → va_E} (b : Nat) (g kp sv bf sd ip sg mk td lv tl : Nat → Nat) (qs qc qw qd co wy : Nat) (de : Int32) (ca ln : Nat) (fa : Option Nat) (sm pa tm : Nat) (ht dr pg wt wr mo : Nat → Nat) (mc ni po dn : Nat) (hb_m : bkP N w b 12 (MDC E ad b g kp sv bf sd ip sg mk td lv tl qs qc qw qd co wy de ca ln fa sm pa tm)) (hR : mRg g ht pg wt wr mo mc ni po dn) : gMi l yX13_saveSnapshot (lw_ws yX13_saveSnapshot cX13_saveSnapshot 1 (some .int)) ({ frames := 1, cells := 0, slots := 0, locals := 24 } : Room) E ad N w [.ref (ad (b))] (fun r w' => r = nI mc ∧ bkP N w' b 12 (MDC E ad b g kp (cpA g 0 sv 0 152) bf sd ip sg mk td lv tl 1 qc qw qd 0 wy de ca ln fa sm pa tm) ∧ gFr (gIn b 12) w w') 0 0 := by
  refine Met.ofW (cc := cX13_saveSnapshot) (maxL := 1) (ret := (some .int)) (by decide) rfl ?_
  intro p e s m args below meth cd s₁ B hml hv
  obtain ⟨rfl, hI, hP⟩ := hv
  obtain ⟨S, hr, hlocks⟩ := gPre (ws := []) B hml (C := RX13) rfl
  have hx := S.1
  have hb := S.2.1
  have hS : va_S (gA E) s.heap s.heap [] := va_S.rf
  have hfr : gFr (gIn b 12) w w := gFr.rf
  have hl := lv_entry ([.ref (ad (b))]) (n := 1) (Nat.le_of_ble_eq_true rfl)
  rw [lg_entry_eq]
  generalize (lg_sl ([.ref (ad (b))]) ++ List.replicate (1 - (lg_sl ([.ref (ad (b))])).length) Slot.unset).toArray = ls at hl ⊢
  have hl : lv_has ls 1 [(0, .ref (ad (b)))] := hl
  obtain ⟨hgh, hgw, hgp, hgt, hgm, hg3, hg0, hg1, hg2⟩ := id hR
  refine lv_aload_n hx hb dX13_saveSnapshot_0 rfl (lv_at hl 0 rfl) ?_
  refine g_iconst S 0 dX13_saveSnapshot_1 (by decide +kernel) ?_
  refine g_put S hI hP hS uX13 rfl tyX13 tyX13_ok nmX13 (fs := _) (hb_m.lt 0 (by decide)) (hb_m.2 0 (by decide)) 9 (by decide) q1796 rfl rfl (v := .int (nI (0))) rfl rfl (Nat.le_of_ble_eq_true rfl) dX13_saveSnapshot_2 (fun H locs hP hS => ?_)
  have hP : gP E ad N (va_up _ (b) (MDC E ad b g kp sv bf sd ip sg mk td lv tl qs qc qw qd 0 wy de ca ln fa sm pa tm 0)) H := hP
  have hb1 : bkP N (va_up _ (b) (MDC E ad b g kp sv bf sd ip sg mk td lv tl qs qc qw qd 0 wy de ca ln fa sm pa tm 0)) b 12 (MDC E ad b g kp sv bf sd ip sg mk td lv tl qs qc qw qd 0 wy de ca ln fa sm pa tm) := MD_setO hb_m _ _ _ _ _ _ _ _ _ _ _ _ _
  have hfr := hfr.up (p := b) (e := MDC E ad b g kp sv bf sd ip sg mk td lv tl qs qc qw qd 0 wy de ca ln fa sm pa tm 0) (by show _ ∧ _; omega)
  refine lv_aload_n hx hb dX13_saveSnapshot_5 rfl (lv_at hl 0 rfl) ?_
  refine g_iconst S 1 dX13_saveSnapshot_6 (by decide +kernel) ?_
  refine g_put S hI hP hS uX13 rfl tyX13 tyX13_ok nmX13 (fs := _) (hb1.lt 0 (by decide)) (hb1.2 0 (by decide)) 5 (by decide) q1792 rfl rfl (v := .int (nI (1))) rfl rfl (Nat.le_of_ble_eq_true rfl) dX13_saveSnapshot_7 (fun H locs hP hS => ?_)
  have hP : gP E ad N (va_up _ (b) (MDC E ad b g kp sv bf sd ip sg mk td lv tl 1 qc qw qd 0 wy de ca ln fa sm pa tm 0)) H := hP
  have hb2 : bkP N (va_up _ (b) (MDC E ad b g kp sv bf sd ip sg mk td lv tl 1 qc qw qd 0 wy de ca ln fa sm pa tm 0)) b 12 (MDC E ad b g kp sv bf sd ip sg mk td lv tl 1 qc qw qd 0 wy de ca ln fa sm pa tm) := MD_setO hb1 _ _ _ _ _ _ _ _ _ _ _ _ _
  have hfr := hfr.up (p := b) (e := MDC E ad b g kp sv bf sd ip sg mk td lv tl 1 qc qw qd 0 wy de ca ln fa sm pa tm 0) (by show _ ∧ _; omega)
  refine lv_aload_n hx hb dX13_saveSnapshot_10 rfl (lv_at hl 0 rfl) ?_
  refine g_get S hI hP uX13 rfl (fs := _) (hb2.lt 0 (by decide)) (hb2.2 0 (by decide)) 0 (by decide) q1787 rfl (v := .ref (ad (b + 1))) rfl dX13_saveSnapshot_11 ?_
  refine g_iconst S 0 dX13_saveSnapshot_14 (by decide +kernel) ?_
  refine lv_aload_n hx hb dX13_saveSnapshot_15 rfl (lv_at hl 0 rfl) ?_
  refine g_get S hI hP uX13 rfl (fs := _) (hb2.lt 0 (by decide)) (hb2.2 0 (by decide)) 2 (by decide) q1789 rfl (v := .ref (ad (b + 3))) rfl dX13_saveSnapshot_16 ?_
  refine g_iconst S 0 dX13_saveSnapshot_19 (by decide +kernel) ?_
  refine g_afv (g_runS S hI hP hS (k := 4) (As := [.ref (ad (b + 1)), .int (nI (0)), .ref (ad (b + 3)), .int (nI (0))]) (rest := []) (mX13_copies l (b + 1) (b + 3) (0) (0) 152 152 g sv (hb2.lt 1 (by decide)) (hb2.lt 3 (by decide)) (by omega) (hb2.2 1 (by decide)) (hb2.2 3 (by decide)) (by omega) (by omega) (by decide) (by decide)) q1894 q1895 q100 q1896 rfl rfl (by decide +kernel) ⟨Nat.le_of_ble_eq_true rfl, Nat.le_of_ble_eq_true rfl⟩ rfl hl.1 rfl (Nat.le_of_ble_eq_true rfl) ⟨(Nat.le_of_ble_eq_true rfl), (Nat.le_of_ble_eq_true rfl)⟩ dX13_saveSnapshot_20) hS (fun w1 H locs hq hP hS => ?_)
  obtain hq := hq
  subst hq
  have hP : gP E ad N (va_up _ (b + 3) (MDC E ad b g kp (cpA g 0 sv 0 152) bf sd ip sg mk td lv tl 1 qc qw qd 0 wy de ca ln fa sm pa tm 3)) H := hP
  have hb3 : bkP N (va_up _ (b + 3) (MDC E ad b g kp (cpA g 0 sv 0 152) bf sd ip sg mk td lv tl 1 qc qw qd 0 wy de ca ln fa sm pa tm 3)) b 12 (MDC E ad b g kp (cpA g 0 sv 0 152) bf sd ip sg mk td lv tl 1 qc qw qd 0 wy de ca ln fa sm pa tm) := MD_setA2 hb2 _
  have hfr := hfr.up (p := b + 3) (e := MDC E ad b g kp (cpA g 0 sv 0 152) bf sd ip sg mk td lv tl 1 qc qw qd 0 wy de ca ln fa sm pa tm 3) (by show _ ∧ _; omega)
  refine lv_aload_n hx hb dX13_saveSnapshot_23 rfl (lv_at hl 0 rfl) ?_
  refine g_get S hI hP uX13 rfl (fs := _) (hb3.lt 0 (by decide)) (hb3.2 0 (by decide)) 0 (by decide) q1787 rfl (v := .ref (ad (b + 1))) rfl dX13_saveSnapshot_24 ?_
  refine g_iconst S 3 dX13_saveSnapshot_27 (by decide +kernel) ?_
  refine g_iald S hI hP (f := fun j => nI (g j)) (hb3.lt 1 (by decide)) (hb3.2 1 (by decide)) (3) (by decide) (by decide) dX13_saveSnapshot_28 ?_
  rw [hg3]
  exact g_iret S hr hlocks hP hS (⟨rfl, hb3, hfr⟩) (fun _ _ => rfl) (Nat.le_of_ble_eq_true rfl) (Nat.le_of_ble_eq_true rfl) dX13_saveSnapshot_29
set_option maxHeartbeats 4000000 in
set_option maxRecDepth 100000 in
/-- restoreSnapshot -/
theorem mX13_restoreSnapshot (l : Launch) {E : gE} {ad : Nat → Nat} {N : Nat} {w : Nat → va_E} (b : Nat) (g kp sv bf sd ip sg mk td lv tl : Nat → Nat) (qs qc qw qd co wy : Nat) (de : Int32) (ca ln : Nat) (fa : Option Nat) (sm pa tm : Nat)  (hb_m : bkP N w b 12 (MDC E ad b g kp sv bf sd ip sg mk td lv tl qs qc qw qd co wy de ca ln fa sm pa tm)) (hqs : qs ≤ 1) : gMi l yX13_restoreSnapshot (lw_ws yX13_restoreSnapshot cX13_restoreSnapshot 1 (some .int)) ({ frames := 1, cells := 0, slots := 0, locals := 24 } : Room) E ad N w [.ref (ad (b))] (fun r w' => ((0 < qs ∧ r = nI (sv 3) ∧ bkP N w' b 12 (MDC E ad b (cpA sv 0 g 0 152) kp sv bf sd ip sg mk td lv tl qs 0 qw 0 0 wy de ca ln fa sm pa tm)) ∨ (qs = 0 ∧ bkP N w' b 12 (MDC E ad b g kp sv bf sd ip sg mk td lv tl qs qc qw 0 1 wy de ca ln fa sm pa tm))) ∧ gFr (gIn b 12) w w') 0 0 := by
  refine Met.ofW (cc := cX13_restoreSnapshot) (maxL := 1) (ret := (some .int)) (by decide) rfl ?_
  intro p e s m args below meth cd s₁ B hml hv
  obtain ⟨rfl, hI, hP⟩ := hv
  obtain ⟨S, hr, hlocks⟩ := gPre (ws := []) B hml (C := RX13) rfl
  have hx := S.1
  have hb := S.2.1
  have hS : va_S (gA E) s.heap s.heap [] := va_S.rf
  have hfr : gFr (gIn b 12) w w := gFr.rf
  have hl := lv_entry ([.ref (ad (b))]) (n := 1) (Nat.le_of_ble_eq_true rfl)
  rw [lg_entry_eq]
  generalize (lg_sl ([.ref (ad (b))]) ++ List.replicate (1 - (lg_sl ([.ref (ad (b))])).length) Slot.unset).toArray = ls at hl ⊢
  have hl : lv_has ls 1 [(0, .ref (ad (b)))] := hl
  refine lv_aload_n hx hb dX13_restoreSnapshot_0 rfl (lv_at hl 0 rfl) ?_
  refine lv_aload_n hx hb dX13_restoreSnapshot_1 rfl (lv_at hl 0 rfl) ?_
  refine g_get S hI hP uX13 rfl (fs := _) (hb_m.lt 0 (by decide)) (hb_m.2 0 (by decide)) 5 (by decide) q1792 rfl (v := .int (nI (qs))) rfl dX13_restoreSnapshot_2 ?_
  refine g_ifeq S (a := qs) (by omega) (tgt := 12) dX13_restoreSnapshot_5 (by decide) (fun hn => ?_) (fun hn => ?_)
  · refine g_iconst S 1 dX13_restoreSnapshot_12 (by decide +kernel) ?_
    refine g_afi (g_runV S hI hP hS (k := 1) (As := [.int (nI (1))]) (rest := []) (mX13_fails l b g kp sv bf sd ip sg mk td lv tl qs qc qw qd co wy de ca ln fa sm pa tm 1 hb_m (by decide)) q1878 q1880 q49 q100 q1881 rfl rfl (by decide +kernel) ⟨Nat.le_of_ble_eq_true rfl, Nat.le_of_ble_eq_true rfl⟩ rfl (hb_m.lt 0 (by decide)) (hb_m.2 0 (by decide)) rfl hl.1 rfl (Nat.le_of_ble_eq_true rfl) ⟨(Nat.le_of_ble_eq_true rfl), (Nat.le_of_ble_eq_true rfl)⟩ dX13_restoreSnapshot_13) hS (fun rz w1 H locs hq hP hS => ?_)
    obtain ⟨hr3, hb1, hf2⟩ := hq
    rw [hr3]
    have hfr := hfr.trans hf2 (fun q hq => by (try simp only [gIn] at hq ⊢); (try dsimp only at hq ⊢); omega)
    refine g_beq S (b := decide (0 < 1)) (tgt := 21) dX13_restoreSnapshot_16 (by decide) (fun hfk => ?_) (fun hfk => ?_)
    · exact absurd hfk (by decide)
    · refine g_iconst S 0 dX13_restoreSnapshot_19 (by decide +kernel) ?_
      exact g_iret S hr hlocks hP hS (⟨Or.inr ⟨hn, hb1⟩, hfr⟩) (fun _ _ => rfl) (Nat.le_of_ble_eq_true rfl) (Nat.le_of_ble_eq_true rfl) dX13_restoreSnapshot_20
  · refine g_iconst S 0 dX13_restoreSnapshot_8 (by decide +kernel) ?_
    refine lv_goto (tgt := 13) hx hb dX13_restoreSnapshot_9 (by decide) ?_
    refine g_afi (g_runV S hI hP hS (k := 1) (As := [.int (nI (0))]) (rest := []) (mX13_fails l b g kp sv bf sd ip sg mk td lv tl qs qc qw qd co wy de ca ln fa sm pa tm 0 hb_m (by decide)) q1878 q1880 q49 q100 q1881 rfl rfl (by decide +kernel) ⟨Nat.le_of_ble_eq_true rfl, Nat.le_of_ble_eq_true rfl⟩ rfl (hb_m.lt 0 (by decide)) (hb_m.2 0 (by decide)) rfl hl.1 rfl (Nat.le_of_ble_eq_true rfl) ⟨(Nat.le_of_ble_eq_true rfl), (Nat.le_of_ble_eq_true rfl)⟩ dX13_restoreSnapshot_13) hS (fun rz w1 H locs hq hP hS => ?_)
    obtain ⟨hr6, hb4, hf5⟩ := hq
    rw [hr6]
    have hfr := hfr.trans hf5 (fun q hq => by (try simp only [gIn] at hq ⊢); (try dsimp only at hq ⊢); omega)
    refine g_beq S (b := decide (0 < 0)) (tgt := 21) dX13_restoreSnapshot_16 (by decide) (fun hfk => ?_) (fun hfk => ?_)
    · refine lv_aload_n hx hb dX13_restoreSnapshot_21 rfl (lv_at hl 0 rfl) ?_
      refine g_get S hI hP uX13 rfl (fs := _) (hb4.lt 0 (by decide)) (hb4.2 0 (by decide)) 2 (by decide) q1789 rfl (v := .ref (ad (b + 3))) rfl dX13_restoreSnapshot_22 ?_
      refine g_iconst S 0 dX13_restoreSnapshot_25 (by decide +kernel) ?_
      refine lv_aload_n hx hb dX13_restoreSnapshot_26 rfl (lv_at hl 0 rfl) ?_
      refine g_get S hI hP uX13 rfl (fs := _) (hb4.lt 0 (by decide)) (hb4.2 0 (by decide)) 0 (by decide) q1787 rfl (v := .ref (ad (b + 1))) rfl dX13_restoreSnapshot_27 ?_
      refine g_iconst S 0 dX13_restoreSnapshot_30 (by decide +kernel) ?_
      refine g_afv (g_runS S hI hP hS (k := 4) (As := [.ref (ad (b + 3)), .int (nI (0)), .ref (ad (b + 1)), .int (nI (0))]) (rest := []) (mX13_copies l (b + 3) (b + 1) (0) (0) 152 152 sv g (hb4.lt 3 (by decide)) (hb4.lt 1 (by decide)) (by omega) (hb4.2 3 (by decide)) (hb4.2 1 (by decide)) (by omega) (by omega) (by decide) (by decide)) q1894 q1895 q100 q1896 rfl rfl (by decide +kernel) ⟨Nat.le_of_ble_eq_true rfl, Nat.le_of_ble_eq_true rfl⟩ rfl hl.1 rfl (Nat.le_of_ble_eq_true rfl) ⟨(Nat.le_of_ble_eq_true rfl), (Nat.le_of_ble_eq_true rfl)⟩ dX13_restoreSnapshot_31) hS (fun w1 H locs hq hP hS => ?_)
      obtain hq := hq
      subst hq
      have hP : gP E ad N (va_up _ (b + 1) (MDC E ad b (cpA sv 0 g 0 152) kp sv bf sd ip sg mk td lv tl qs qc qw 0 0 wy de ca ln fa sm pa tm 1)) H := hP
      have hb7 : bkP N (va_up _ (b + 1) (MDC E ad b (cpA sv 0 g 0 152) kp sv bf sd ip sg mk td lv tl qs qc qw 0 0 wy de ca ln fa sm pa tm 1)) b 12 (MDC E ad b (cpA sv 0 g 0 152) kp sv bf sd ip sg mk td lv tl qs qc qw 0 0 wy de ca ln fa sm pa tm) := MD_setA0 hb4 _
      have hfr := hfr.up (p := b + 1) (e := MDC E ad b (cpA sv 0 g 0 152) kp sv bf sd ip sg mk td lv tl qs qc qw 0 0 wy de ca ln fa sm pa tm 1) (by show _ ∧ _; omega)
      refine lv_aload_n hx hb dX13_restoreSnapshot_34 rfl (lv_at hl 0 rfl) ?_
      refine g_iconst S 0 dX13_restoreSnapshot_35 (by decide +kernel) ?_
      refine g_put S hI hP hS uX13 rfl tyX13 tyX13_ok nmX13 (fs := _) (hb7.lt 0 (by decide)) (hb7.2 0 (by decide)) 6 (by decide) q1793 rfl rfl (v := .int (nI (0))) rfl rfl (Nat.le_of_ble_eq_true rfl) dX13_restoreSnapshot_36 (fun H locs hP hS => ?_)
      have hP : gP E ad N (va_up _ (b) (MDC E ad b (cpA sv 0 g 0 152) kp sv bf sd ip sg mk td lv tl qs 0 qw 0 0 wy de ca ln fa sm pa tm 0)) H := hP
      have hb8 : bkP N (va_up _ (b) (MDC E ad b (cpA sv 0 g 0 152) kp sv bf sd ip sg mk td lv tl qs 0 qw 0 0 wy de ca ln fa sm pa tm 0)) b 12 (MDC E ad b (cpA sv 0 g 0 152) kp sv bf sd ip sg mk td lv tl qs 0 qw 0 0 wy de ca ln fa sm pa tm) := MD_setO hb7 _ _ _ _ _ _ _ _ _ _ _ _ _
      have hfr := hfr.up (p := b) (e := MDC E ad b (cpA sv 0 g 0 152) kp sv bf sd ip sg mk td lv tl qs 0 qw 0 0 wy de ca ln fa sm pa tm 0) (by show _ ∧ _; omega)
      refine lv_aload_n hx hb dX13_restoreSnapshot_39 rfl (lv_at hl 0 rfl) ?_
      refine g_get S hI hP uX13 rfl (fs := _) (hb8.lt 0 (by decide)) (hb8.2 0 (by decide)) 0 (by decide) q1787 rfl (v := .ref (ad (b + 1))) rfl dX13_restoreSnapshot_40 ?_
      refine g_iconst S 3 dX13_restoreSnapshot_43 (by decide +kernel) ?_
      refine g_iald S hI hP (f := fun j => nI ((cpA sv 0 g 0 152) j)) (hb8.lt 1 (by decide)) (hb8.2 1 (by decide)) (3) (by decide) (by decide) dX13_restoreSnapshot_44 ?_
      rw [show cpA sv 0 g 0 152 3 = sv 3 from cpA_at0 (by decide)]
      exact g_iret S hr hlocks hP hS (⟨Or.inl ⟨hn, rfl, hb8⟩, hfr⟩) (fun _ _ => rfl) (Nat.le_of_ble_eq_true rfl) (Nat.le_of_ble_eq_true rfl) dX13_restoreSnapshot_45
    · exact absurd hfk (by decide)
set_option maxHeartbeats 4000000 in
set_option maxRecDepth 100000 in
/-- lineCharacter -/
theorem mX13_lineCharacter (l : Launch) {E : gE} {ad : Nat → Nat} {N : Nat} {w : Nat → va_E} (b : Nat) (g kp sv bf sd ip sg mk td lv tl : Nat → Nat) (qs qc qw qd co wy : Nat) (de : Int32) (ca ln : Nat) (fa : Option Nat) (sm pa tm : Nat) (v : Int32) (hb_m : bkP N w b 12 (MDC E ad b g kp sv bf sd ip sg mk td lv tl qs qc qw qd co wy de ca ln fa sm pa tm)) (hsm : sm ≤ 60) (hsg : ∀ j, j < 60 → sg j < 65536) : gMi l yX13_lineCharacter (lw_ws yX13_lineCharacter cX13_lineCharacter 2 (some .char)) ({ frames := 1, cells := 0, slots := 0, locals := 22 } : Room) E ad N w [.ref (ad (b)), .int (v)] (fun r w' => ((∃ i, inR v sm = some i ∧ r = nI (sg i) ∧ bkP N w' b 12 (MDC E ad b g kp sv bf sd ip sg mk td lv tl qs qc qw 0 0 wy de ca ln fa sm pa tm)) ∨ (inR v sm = none ∧ bkP N w' b 12 (MDC E ad b g kp sv bf sd ip sg mk td lv tl qs qc qw 0 1 wy de ca ln fa sm pa tm))) ∧ gFr (gIn b 12) w w') 0 0 := by
  refine Met.ofW (cc := cX13_lineCharacter) (maxL := 2) (ret := (some .char)) (by decide) rfl ?_
  intro p e s m args below meth cd s₁ B hml hv
  obtain ⟨rfl, hI, hP⟩ := hv
  obtain ⟨S, hr, hlocks⟩ := gPre (ws := []) B hml (C := RX13) rfl
  have hx := S.1
  have hb := S.2.1
  have hS : va_S (gA E) s.heap s.heap [] := va_S.rf
  have hfr : gFr (gIn b 12) w w := gFr.rf
  have hl := lv_entry ([.ref (ad (b)), .int (v)]) (n := 2) (Nat.le_of_ble_eq_true rfl)
  rw [lg_entry_eq]
  generalize (lg_sl ([.ref (ad (b)), .int (v)]) ++ List.replicate (2 - (lg_sl ([.ref (ad (b)), .int (v)])).length) Slot.unset).toArray = ls at hl ⊢
  have hl : lv_has ls 2 [(0, .ref (ad (b))), (1, .int (v))] := hl
  refine lv_aload_n hx hb dX13_lineCharacter_0 rfl (lv_at hl 0 rfl) ?_
  refine lv_iload_n hx hb dX13_lineCharacter_1 rfl (lv_at hl 1 rfl) ?_
  refine g_iconst S 0 dX13_lineCharacter_2 (by decide +kernel) ?_
  refine lv_aload_n hx hb dX13_lineCharacter_3 rfl (lv_at hl 0 rfl) ?_
  refine g_get S hI hP uX13 rfl (fs := _) (hb_m.lt 0 (by decide)) (hb_m.2 0 (by decide)) 17 (by decide) q1804 rfl (v := .int (nI (sm))) rfl dX13_lineCharacter_4 ?_
  refine g_iconst S 1 dX13_lineCharacter_7 (by decide +kernel) ?_
  refine lv_isub hx hb dX13_lineCharacter_8 ?_
  refine g_roi (g_runS S hI hP hS (k := 3) (As := [.int (v), .int (nI (0)), .int (nI (sm) - nI (1))]) (rest := [.ref (ad (b))]) (mX13_in l v (nI (0)) (nI (sm) - nI (1))) q1875 q1876 q100 q1877 rfl rfl (by decide +kernel) ⟨Nat.le_of_ble_eq_true rfl, Nat.le_of_ble_eq_true rfl⟩ rfl hl.1 rfl (Nat.le_of_ble_eq_true rfl) ⟨(Nat.le_of_ble_eq_true rfl), (Nat.le_of_ble_eq_true rfl)⟩ dX13_lineCharacter_9) hS (fun H locs hP hS => ?_)
  rw [in_M2 (by omega)]
  refine g_beq S (b := (inR v sm).isSome) (tgt := 19) dX13_lineCharacter_12 (by decide) (fun h1 => ?_) (fun h1 => ?_)
  · refine g_iconst S 1 dX13_lineCharacter_19 (by decide +kernel) ?_
    refine g_afi (g_runV S hI hP hS (k := 1) (As := [.int (nI (1))]) (rest := []) (mX13_fails l b g kp sv bf sd ip sg mk td lv tl qs qc qw qd co wy de ca ln fa sm pa tm 1 hb_m (by decide)) q1878 q1880 q49 q100 q1881 rfl rfl (by decide +kernel) ⟨Nat.le_of_ble_eq_true rfl, Nat.le_of_ble_eq_true rfl⟩ rfl (hb_m.lt 0 (by decide)) (hb_m.2 0 (by decide)) rfl hl.1 rfl (Nat.le_of_ble_eq_true rfl) ⟨(Nat.le_of_ble_eq_true rfl), (Nat.le_of_ble_eq_true rfl)⟩ dX13_lineCharacter_20) hS (fun rz w1 H locs hq hP hS => ?_)
    obtain ⟨hr3, hb1, hf2⟩ := hq
    rw [hr3]
    have hfr := hfr.trans hf2 (fun q hq => by (try simp only [gIn] at hq ⊢); (try dsimp only at hq ⊢); omega)
    refine g_beq S (b := decide (0 < 1)) (tgt := 31) dX13_lineCharacter_23 (by decide) (fun hfk => ?_) (fun hfk => ?_)
    · exact absurd hfk (by decide)
    · refine g_bipush S 32 dX13_lineCharacter_26 (by decide +kernel) ?_
      refine lv_goto (tgt := 37) hx hb dX13_lineCharacter_28 (by decide) ?_
      exact g_cret S hr hlocks (⟨32, by decide, rfl⟩) hP hS (⟨Or.inr ⟨Option.not_isSome_iff_eq_none.mp (by rw [h1]; decide), hb1⟩, hfr⟩) (fun _ _ => rfl) (Nat.le_of_ble_eq_true rfl) (Nat.le_of_ble_eq_true rfl) dX13_lineCharacter_37
  · obtain ⟨i, hi⟩ := Option.isSome_iff_exists.mp h1
    obtain ⟨him, hvi⟩ := inR_some (by omega) hi
    subst hvi
    refine g_iconst S 0 dX13_lineCharacter_15 (by decide +kernel) ?_
    refine lv_goto (tgt := 20) hx hb dX13_lineCharacter_16 (by decide) ?_
    refine g_afi (g_runV S hI hP hS (k := 1) (As := [.int (nI (0))]) (rest := []) (mX13_fails l b g kp sv bf sd ip sg mk td lv tl qs qc qw qd co wy de ca ln fa sm pa tm 0 hb_m (by decide)) q1878 q1880 q49 q100 q1881 rfl rfl (by decide +kernel) ⟨Nat.le_of_ble_eq_true rfl, Nat.le_of_ble_eq_true rfl⟩ rfl (hb_m.lt 0 (by decide)) (hb_m.2 0 (by decide)) rfl hl.1 rfl (Nat.le_of_ble_eq_true rfl) ⟨(Nat.le_of_ble_eq_true rfl), (Nat.le_of_ble_eq_true rfl)⟩ dX13_lineCharacter_20) hS (fun rz w1 H locs hq hP hS => ?_)
    obtain ⟨hr6, hb4, hf5⟩ := hq
    rw [hr6]
    have hfr := hfr.trans hf5 (fun q hq => by (try simp only [gIn] at hq ⊢); (try dsimp only at hq ⊢); omega)
    refine g_beq S (b := decide (0 < 0)) (tgt := 31) dX13_lineCharacter_23 (by decide) (fun hfk => ?_) (fun hfk => ?_)
    · refine lv_aload_n hx hb dX13_lineCharacter_31 rfl (lv_at hl 0 rfl) ?_
      refine g_get S hI hP uX13 rfl (fs := _) (hb4.lt 0 (by decide)) (hb4.2 0 (by decide)) 16 (by decide) q1803 rfl (v := .ref (ad (b + 7))) rfl dX13_lineCharacter_32 ?_
      refine lv_iload_n hx hb dX13_lineCharacter_35 rfl (lv_at hl 1 rfl) ?_
      refine g_cald S hI hP (f := fun j => nI (sg j)) (hb4.lt 7 (by decide)) (hb4.2 7 (by decide)) (i) (by omega) (by decide) dX13_lineCharacter_36 ?_
      exact g_cret S hr hlocks (⟨sg i, hsg i (by omega), rfl⟩) hP hS (⟨Or.inl ⟨i, hi, rfl, hb4⟩, hfr⟩) (fun _ _ => rfl) (Nat.le_of_ble_eq_true rfl) (Nat.le_of_ble_eq_true rfl) dX13_lineCharacter_37
    · exact absurd hfk (by decide)
set_option maxHeartbeats 4000000 in
set_option maxRecDepth 100000 in
/-- nightsUntilHole -/
theorem mX13_nightsUntilHole (l : Launch) {E : gE} {ad : Nat → Nat} {N : Nat} {w : Nat → va_E} (b : Nat) (g kp sv bf sd ip sg mk td lv tl : Nat → Nat) (qs qc qw qd co wy : Nat) (de : Int32) (ca ln : Nat) (fa : Option Nat) (sm pa tm : Nat) (ht dr pg wt wr mo : Nat → Nat) (mc ni po dn : Nat) (x y : Int32) (hb_m : bkP N w b 12 (MDC E ad b g kp sv bf sd ip sg mk td lv tl qs qc qw qd co wy de ca ln fa sm pa tm)) (hR : mRg g ht pg wt wr mo mc ni po dn) (hht : ∀ k, k < 36 → ht k ≤ 99) (hpg : ∀ k, k < 36 → pg k ≤ 1) (hwr : ∀ k, k < 36 → wr k ≤ 3) (hm : mc ≤ 4) (hmo : ∀ k, k < mc → mo k < 36) : gMi l yX13_nightsUntilHole (lw_ws yX13_nightsUntilHole cX13_nightsUntilHole 7 (some .int)) ({ frames := 4, cells := 0, slots := 0, locals := 91 } : Room) E ad N w [.ref (ad (b)), .int (x), .int (y)] (fun r w' => ((∃ k i, cellV x y = some k ∧ fstN (fun i => decide (3 ≤ (ngN (ht, dr, pg, wt, wr, mo, mc, ni, po, dn) i).2.2.2.2.1 k)) 31 = some i ∧ r = nI i ∧ ∃ g' sd' : Nat → Nat, mRg g' ht pg wt wr mo mc ni po dn ∧ bkP N w' b 12 (MDC E ad b g' kp sv bf sd' ip sg mk td lv tl qs qc qw 0 0 wy de ca ln fa sm pa tm)) ∨ (∃ k, cellV x y = some k ∧ fstN (fun i => decide (3 ≤ (ngN (ht, dr, pg, wt, wr, mo, mc, ni, po, dn) i).2.2.2.2.1 k)) 31 = none ∧ ∃ g' sd' : Nat → Nat, mRg g' ht pg wt wr mo mc ni po dn ∧ bkP N w' b 12 (MDC E ad b g' kp sv bf sd' ip sg mk td lv tl qs qc qw 0 2 wy de ca ln fa sm pa tm)) ∨ (cellV x y = none ∧ ∃ g' sd' : Nat → Nat, mRg g' ht pg wt wr mo mc ni po dn ∧ bkP N w' b 12 (MDC E ad b g' kp sv bf sd' ip sg mk td lv tl qs qc qw 0 1 wy de ca ln fa sm pa tm))) ∧ gFr (gIn b 12) w w') 0 0 := by
  refine Met.ofW (cc := cX13_nightsUntilHole) (maxL := 7) (ret := (some .int)) (by decide) rfl ?_
  intro p e s m args below meth cd s₁ B hml hv
  obtain ⟨rfl, hI, hP⟩ := hv
  obtain ⟨S, hr, hlocks⟩ := gPre (ws := []) B hml (C := RX13) rfl
  have hx := S.1
  have hb := S.2.1
  have hS : va_S (gA E) s.heap s.heap [] := va_S.rf
  have hfr : gFr (gIn b 12) w w := gFr.rf
  have hl := lv_entry ([.ref (ad (b)), .int (x), .int (y)]) (n := 7) (Nat.le_of_ble_eq_true rfl)
  rw [lg_entry_eq]
  generalize (lg_sl ([.ref (ad (b)), .int (x), .int (y)]) ++ List.replicate (7 - (lg_sl ([.ref (ad (b)), .int (x), .int (y)])).length) Slot.unset).toArray = ls at hl ⊢
  have hl : lv_has ls 7 [(0, .ref (ad (b))), (1, .int (x)), (2, .int (y))] := hl
  obtain ⟨hgh, hgw, hgp, hgt, hgm, hg3, hg0, hg1, hg2⟩ := id hR
  refine lv_aload_n hx hb dX13_nightsUntilHole_0 rfl (lv_at hl 0 rfl) ?_
  refine lv_iload_n hx hb dX13_nightsUntilHole_1 rfl (lv_at hl 1 rfl) ?_
  refine lv_iload_n hx hb dX13_nightsUntilHole_2 rfl (lv_at hl 2 rfl) ?_
  refine g_afi (g_runV S hI hP hS (k := 2) (As := [.int (x), .int (y)]) (rest := []) (mX13_isNone l b g kp sv bf sd ip sg mk td lv tl qs qc qw qd co wy de ca ln fa sm pa tm x y hb_m ) q1868 q1870 q48 q100 q1871 rfl rfl (by decide +kernel) ⟨Nat.le_of_ble_eq_true rfl, Nat.le_of_ble_eq_true rfl⟩ rfl (hb_m.lt 0 (by decide)) (hb_m.2 0 (by decide)) rfl hl.1 rfl (Nat.le_of_ble_eq_true rfl) ⟨(Nat.le_of_ble_eq_true rfl), (Nat.le_of_ble_eq_true rfl)⟩ dX13_nightsUntilHole_3) hS (fun rz w1 H locs hq hP hS => ?_)
  obtain ⟨hr3, hb1, hf2⟩ := hq
  rw [hr3]
  have hfr := hfr.trans hf2 (fun q hq => by (try simp only [gIn] at hq ⊢); (try dsimp only at hq ⊢); omega)
  refine g_beq S (b := (cellV x y).isNone) (tgt := 11) dX13_nightsUntilHole_6 (by decide) (fun h1 => ?_) (fun h1 => ?_)
  · obtain ⟨k, hck⟩ : ∃ k, cellV x y = some k := by cases q : cellV x y with | none => (rw [q] at h1; cases h1) | some a => exact ⟨a, rfl⟩
    have hk36 := cellV_lt hck
    rw [if_pos (show (cellV x y).isSome = true by rw [hck]; rfl)] at hb1
    (try rw [if_pos (show (cellV x y).isSome = true by rw [hck]; rfl)] at hP)
    (try rw [if_pos (show (cellV x y).isSome = true by rw [hck]; rfl)] at hfr)
    have hSk0 : shOk (smN wt 36) (ht, dr, pg, wt, wr, mo, mc, ni, po, dn) := ⟨hht, hpg, Nat.le_refl _, hwr, hm, hmo⟩
    refine g_bipush S 6 dX13_nightsUntilHole_11 (by decide +kernel) ?_
    refine lv_iload_n hx hb dX13_nightsUntilHole_13 rfl (lv_at hl 1 rfl) ?_
    refine lv_imul hx hb dX13_nightsUntilHole_14 ?_
    refine lv_iload_n hx hb dX13_nightsUntilHole_15 rfl (lv_at hl 2 rfl) ?_
    refine lv_iadd hx hb dX13_nightsUntilHole_16 ?_
    rw [cell6 hck]
    refine lv_istore_n (lv' := [(3, .int (nI (k))), (0, .ref (ad (b))), (1, .int (x)), (2, .int (y))]) hx hb dX13_nightsUntilHole_17 rfl hl (by decide) rfl (fun ls hl => ?_)
    refine lv_aload_n hx hb dX13_nightsUntilHole_18 rfl (lv_at hl 1 rfl) ?_
    refine g_get S hI hP uX13 rfl (fs := _) (hb1.lt 0 (by decide)) (hb1.2 0 (by decide)) 0 (by decide) q1787 rfl (v := .ref (ad (b + 1))) rfl dX13_nightsUntilHole_19 ?_
    refine g_iconst S 0 dX13_nightsUntilHole_22 (by decide +kernel) ?_
    refine lv_aload_n hx hb dX13_nightsUntilHole_23 rfl (lv_at hl 1 rfl) ?_
    refine g_get S hI hP uX13 rfl (fs := _) (hb1.lt 0 (by decide)) (hb1.2 0 (by decide)) 4 (by decide) q1791 rfl (v := .ref (ad (b + 5))) rfl dX13_nightsUntilHole_24 ?_
    refine g_iconst S 0 dX13_nightsUntilHole_27 (by decide +kernel) ?_
    refine g_afv (g_runS S hI hP hS (k := 4) (As := [.ref (ad (b + 1)), .int (nI (0)), .ref (ad (b + 5)), .int (nI (0))]) (rest := []) (mX13_copies l (b + 1) (b + 5) (0) (0) 152 152 g sd (hb1.lt 1 (by decide)) (hb1.lt 5 (by decide)) (by omega) (hb1.2 1 (by decide)) (hb1.2 5 (by decide)) (by omega) (by omega) (by decide) (by decide)) q1894 q1895 q100 q1896 rfl rfl (by decide +kernel) ⟨Nat.le_of_ble_eq_true rfl, Nat.le_of_ble_eq_true rfl⟩ rfl hl.1 rfl (Nat.le_of_ble_eq_true rfl) ⟨(Nat.le_of_ble_eq_true rfl), (Nat.le_of_ble_eq_true rfl)⟩ dX13_nightsUntilHole_28) hS (fun w1 H locs hq hP hS => ?_)
    obtain hq := hq
    subst hq
    have hP : gP E ad N (va_up _ (b + 5) (MDC E ad b g kp sv bf (cpA g 0 sd 0 152) ip sg mk td lv tl qs qc qw 0 0 wy de ca ln fa sm pa tm 5)) H := hP
    have hb4 : bkP N (va_up _ (b + 5) (MDC E ad b g kp sv bf (cpA g 0 sd 0 152) ip sg mk td lv tl qs qc qw 0 0 wy de ca ln fa sm pa tm 5)) b 12 (MDC E ad b g kp sv bf (cpA g 0 sd 0 152) ip sg mk td lv tl qs qc qw 0 0 wy de ca ln fa sm pa tm) := MD_setA4 hb1 _
    have hfr := hfr.up (p := b + 5) (e := MDC E ad b g kp sv bf (cpA g 0 sd 0 152) ip sg mk td lv tl qs qc qw 0 0 wy de ca ln fa sm pa tm 5) (by show _ ∧ _; omega)
    obtain ⟨sd1, hsd1⟩ : ∃ z, z = cpA g 0 sd 0 152 := ⟨_, rfl⟩
    have hsd : ∀ j, j < 152 → sd1 j = g j := fun j hj => by rw [hsd1, cpA_at0 hj, Nat.zero_add]
    rw [← hsd1] at hb4
    (try rw [← hsd1] at hP)
    (try rw [← hsd1] at hfr)
    refine g_iconst S 0 dX13_nightsUntilHole_31 (by decide +kernel) ?_
    refine lv_istore (lv' := [(4, .int (nI (0))), (3, .int (nI (k))), (0, .ref (ad (b))), (1, .int (x)), (2, .int (y))]) hx hb dX13_nightsUntilHole_32 hl (by decide) rfl (fun ls hl => ?_)
    refine g_iconst S 0 dX13_nightsUntilHole_34 (by decide +kernel) ?_
    refine lv_istore (lv' := [(5, .int (nI (0))), (4, .int (nI (0))), (3, .int (nI (k))), (0, .ref (ad (b))), (1, .int (x)), (2, .int (y))]) hx hb dX13_nightsUntilHole_35 hl (by decide) rfl (fun ls hl => ?_)
    have lpa : ∀ (n : Nat) (i : Nat) (sm1 : Nat) (g1 : Nat → Nat), 31 - i < n → (i ≤ 30) → (sm1 ≤ 4 * i) → (mRS g1 (ngN (ht, dr, pg, wt, wr, mo, mc, ni, po, dn) i)) → (∀ j, j < i → decide (3 ≤ (ngN (ht, dr, pg, wt, wr, mo, mc, ni, po, dn) j).2.2.2.2.1 k) = false) → ∀ (w1 : Nat → va_E) (H : Heap) (locs : List Loc), gP E ad N w1 H → va_S (gA E) s.heap H locs → bkP N w1 b 12 (MDC E ad b g1 kp sv bf sd1 ip sg mk td lv tl qs qc qw 0 0 wy de ca ln fa sm pa tm) → gFr (gIn b 12) w w1 → ∀ (ls : Array Slot), lv_has ls 7 [(5, .int (nI (sm1))), (4, .int (nI (i))), (3, .int (nI (k))), (0, .ref (ad (b)))] → W p l e (headSpec (lw_ws yX13_nightsUntilHole cX13_nightsUntilHole 7 (some .int)) ({ frames := 4, cells := 0, slots := 0, locals := 91 } : Room)).room s m ([.ref (ad (b)), .int (x), .int (y)] : List Value).toArray below meth cd H locs 0 0 (MQ below (va_Qi (fun r w' => ((∃ k i, cellV x y = some k ∧ fstN (fun i => decide (3 ≤ (ngN (ht, dr, pg, wt, wr, mo, mc, ni, po, dn) i).2.2.2.2.1 k)) 31 = some i ∧ r = nI i ∧ ∃ g' sd' : Nat → Nat, mRg g' ht pg wt wr mo mc ni po dn ∧ bkP N w' b 12 (MDC E ad b g' kp sv bf sd' ip sg mk td lv tl qs qc qw 0 0 wy de ca ln fa sm pa tm)) ∨ (∃ k, cellV x y = some k ∧ fstN (fun i => decide (3 ≤ (ngN (ht, dr, pg, wt, wr, mo, mc, ni, po, dn) i).2.2.2.2.1 k)) 31 = none ∧ ∃ g' sd' : Nat → Nat, mRg g' ht pg wt wr mo mc ni po dn ∧ bkP N w' b 12 (MDC E ad b g' kp sv bf sd' ip sg mk td lv tl qs qc qw 0 2 wy de ca ln fa sm pa tm)) ∨ (cellV x y = none ∧ ∃ g' sd' : Nat → Nat, mRg g' ht pg wt wr mo mc ni po dn ∧ bkP N w' b 12 (MDC E ad b g' kp sv bf sd' ip sg mk td lv tl qs qc qw 0 1 wy de ca ln fa sm pa tm))) ∧ gFr (gIn b 12) w w') (gB E ad N) (gA E)) ([.ref (ad (b)), .int (x), .int (y)] : List Value).toArray s 0 0 (gA E)) (F0 m 37 ls []) := by
      intro n
      induction n with
      | zero => intro i sm1 g1 hmeas; omega
      | succ n ih_lpa =>
        intro i sm1 g1 hmeas hi hs1 hR1 hno w1 H locs hP hS hb5 hfr ls hl
        obtain ⟨q1, q2, q3, q4, q5, q6⟩ := ngN_ok hSk0 i
        refine lv_iload hx hb dX13_nightsUntilHole_37 (lv_at hl 1 rfl) ?_
        refine g_bipush S 30 dX13_nightsUntilHole_39 (by decide +kernel) ?_
        refine g_ge S (a := i) (b := 30) (by omega) (by omega) (tgt := 67) dX13_nightsUntilHole_41 (by decide) (fun h => ?_) (fun h => ?_)
        · have ei : i = 30 := by omega
          refine lv_aload_n hx hb dX13_nightsUntilHole_67 rfl (lv_at hl 3 rfl) ?_
          refine lv_iload_n hx hb dX13_nightsUntilHole_68 rfl (lv_at hl 2 rfl) ?_
          refine g_roi (g_runV S hI hP hS (k := 1) (As := [.int (nI (k))]) (rest := []) (mX13_isHole l b g1 kp sv bf sd1 ip sg mk td lv tl qs qc qw 0 0 wy de ca ln fa sm pa tm k ((ngN (ht, dr, pg, wt, wr, mo, mc, ni, po, dn) i).2.2.2.2.1 k) hb5 hk36 (hR1.2.1 k hk36) (q4 k hk36)) q1968 q1970 q60 q100 q1971 rfl rfl (by decide +kernel) ⟨Nat.le_of_ble_eq_true rfl, Nat.le_of_ble_eq_true rfl⟩ rfl (hb5.lt 0 (by decide)) (hb5.2 0 (by decide)) rfl hl.1 rfl (Nat.le_of_ble_eq_true rfl) ⟨(Nat.le_of_ble_eq_true rfl), (Nat.le_of_ble_eq_true rfl)⟩ dX13_nightsUntilHole_69) hS (fun H locs hP hS => ?_)
          refine g_beq S (b := decide (3 ≤ (ngN (ht, dr, pg, wt, wr, mo, mc, ni, po, dn) i).2.2.2.2.1 k)) (tgt := 84) dX13_nightsUntilHole_72 (by decide) (fun ha => ?_) (fun ha => ?_)
          · refine g_iconst S 0 dX13_nightsUntilHole_84 (by decide +kernel) ?_
            refine lv_istore (lv' := [(6, .int (nI (0))), (5, .int (nI (sm1))), (4, .int (nI (i))), (3, .int (nI (k))), (0, .ref (ad (b)))]) hx hb dX13_nightsUntilHole_85 hl (by decide) rfl (fun ls hl => ?_)
            refine lv_aload_n hx hb dX13_nightsUntilHole_87 rfl (lv_at hl 4 rfl) ?_
            refine g_get S hI hP uX13 rfl (fs := _) (hb5.lt 0 (by decide)) (hb5.2 0 (by decide)) 4 (by decide) q1791 rfl (v := .ref (ad (b + 5))) rfl dX13_nightsUntilHole_88 ?_
            refine g_iconst S 0 dX13_nightsUntilHole_91 (by decide +kernel) ?_
            refine lv_aload_n hx hb dX13_nightsUntilHole_92 rfl (lv_at hl 4 rfl) ?_
            refine g_get S hI hP uX13 rfl (fs := _) (hb5.lt 0 (by decide)) (hb5.2 0 (by decide)) 0 (by decide) q1787 rfl (v := .ref (ad (b + 1))) rfl dX13_nightsUntilHole_93 ?_
            refine g_iconst S 0 dX13_nightsUntilHole_96 (by decide +kernel) ?_
            refine g_afv (g_runS S hI hP hS (k := 4) (As := [.ref (ad (b + 5)), .int (nI (0)), .ref (ad (b + 1)), .int (nI (0))]) (rest := []) (mX13_copies l (b + 5) (b + 1) (0) (0) 152 152 sd1 g1 (hb5.lt 5 (by decide)) (hb5.lt 1 (by decide)) (by omega) (hb5.2 5 (by decide)) (hb5.2 1 (by decide)) (by omega) (by omega) (by decide) (by decide)) q1894 q1895 q100 q1896 rfl rfl (by decide +kernel) ⟨Nat.le_of_ble_eq_true rfl, Nat.le_of_ble_eq_true rfl⟩ rfl hl.1 rfl (Nat.le_of_ble_eq_true rfl) ⟨(Nat.le_of_ble_eq_true rfl), (Nat.le_of_ble_eq_true rfl)⟩ dX13_nightsUntilHole_97) hS (fun w1 H locs hq hP hS => ?_)
            obtain hq := hq
            subst hq
            have hP : gP E ad N (va_up _ (b + 1) (MDC E ad b (cpA sd1 0 g1 0 152) kp sv bf sd1 ip sg mk td lv tl qs qc qw 0 0 wy de ca ln fa sm pa tm 1)) H := hP
            have hb6 : bkP N (va_up _ (b + 1) (MDC E ad b (cpA sd1 0 g1 0 152) kp sv bf sd1 ip sg mk td lv tl qs qc qw 0 0 wy de ca ln fa sm pa tm 1)) b 12 (MDC E ad b (cpA sd1 0 g1 0 152) kp sv bf sd1 ip sg mk td lv tl qs qc qw 0 0 wy de ca ln fa sm pa tm) := MD_setA0 hb5 _
            have hfr := hfr.up (p := b + 1) (e := MDC E ad b (cpA sd1 0 g1 0 152) kp sv bf sd1 ip sg mk td lv tl qs qc qw 0 0 wy de ca ln fa sm pa tm 1) (by show _ ∧ _; omega)
            have hRb : mRg (cpA sd1 0 g1 0 152) ht pg wt wr mo mc ni po dn := hR.cpB hm (fun j hj => by rw [cpA_at0 hj, Nat.zero_add]; exact hsd j hj)
            refine lv_aload_n hx hb dX13_nightsUntilHole_100 rfl (lv_at hl 4 rfl) ?_
            refine lv_iload hx hb dX13_nightsUntilHole_101 (lv_at hl 0 rfl) ?_
            refine g_ifeq S (a := 0) (by omega) (tgt := 110) dX13_nightsUntilHole_103 (by decide) (fun hbb => ?_) (fun hbb => ?_)
            · refine g_iconst S 2 dX13_nightsUntilHole_110 (by decide +kernel) ?_
              refine g_afi (g_runV S hI hP hS (k := 1) (As := [.int (nI (2))]) (rest := []) (mX13_fails l b (cpA sd1 0 g1 0 152) kp sv bf sd1 ip sg mk td lv tl qs qc qw 0 0 wy de ca ln fa sm pa tm 2 hb6 (by decide)) q1878 q1880 q49 q100 q1881 rfl rfl (by decide +kernel) ⟨Nat.le_of_ble_eq_true rfl, Nat.le_of_ble_eq_true rfl⟩ rfl (hb6.lt 0 (by decide)) (hb6.2 0 (by decide)) rfl hl.1 rfl (Nat.le_of_ble_eq_true rfl) ⟨(Nat.le_of_ble_eq_true rfl), (Nat.le_of_ble_eq_true rfl)⟩ dX13_nightsUntilHole_111) hS (fun rz w1 H locs hq hP hS => ?_)
              obtain ⟨hr9, hb7, hf8⟩ := hq
              rw [hr9]
              have hfr := hfr.trans hf8 (fun q hq => by (try simp only [gIn] at hq ⊢); (try dsimp only at hq ⊢); omega)
              refine g_beq S (b := decide (0 < 2)) (tgt := 121) dX13_nightsUntilHole_114 (by decide) (fun hfk => ?_) (fun hfk => ?_)
              · exact absurd hfk (by decide)
              · refine g_iconst S 0 dX13_nightsUntilHole_117 (by decide +kernel) ?_
                refine lv_goto (tgt := 123) hx hb dX13_nightsUntilHole_118 (by decide) ?_
                exact g_iret S hr hlocks hP hS (⟨Or.inr (Or.inl ⟨k, hck, fstN_none.mpr (fun j hj => by by_cases q : j < i; exact hno j q; rw [show j = i by omega]; exact ha), _, _, hRb, hb7⟩), hfr⟩) (fun _ _ => rfl) (Nat.le_of_ble_eq_true rfl) (Nat.le_of_ble_eq_true rfl) dX13_nightsUntilHole_123
            · omega
          · refine lv_iload hx hb dX13_nightsUntilHole_75 (lv_at hl 0 rfl) ?_
            refine g_iflt S (a := sm1) (by omega) (tgt := 84) dX13_nightsUntilHole_77 (by decide) ?_
            refine g_iconst S 1 dX13_nightsUntilHole_80 (by decide +kernel) ?_
            refine lv_goto (tgt := 85) hx hb dX13_nightsUntilHole_81 (by decide) ?_
            refine lv_istore (lv' := [(6, .int (nI (1))), (5, .int (nI (sm1))), (4, .int (nI (i))), (3, .int (nI (k))), (0, .ref (ad (b)))]) hx hb dX13_nightsUntilHole_85 hl (by decide) rfl (fun ls hl => ?_)
            refine lv_aload_n hx hb dX13_nightsUntilHole_87 rfl (lv_at hl 4 rfl) ?_
            refine g_get S hI hP uX13 rfl (fs := _) (hb5.lt 0 (by decide)) (hb5.2 0 (by decide)) 4 (by decide) q1791 rfl (v := .ref (ad (b + 5))) rfl dX13_nightsUntilHole_88 ?_
            refine g_iconst S 0 dX13_nightsUntilHole_91 (by decide +kernel) ?_
            refine lv_aload_n hx hb dX13_nightsUntilHole_92 rfl (lv_at hl 4 rfl) ?_
            refine g_get S hI hP uX13 rfl (fs := _) (hb5.lt 0 (by decide)) (hb5.2 0 (by decide)) 0 (by decide) q1787 rfl (v := .ref (ad (b + 1))) rfl dX13_nightsUntilHole_93 ?_
            refine g_iconst S 0 dX13_nightsUntilHole_96 (by decide +kernel) ?_
            refine g_afv (g_runS S hI hP hS (k := 4) (As := [.ref (ad (b + 5)), .int (nI (0)), .ref (ad (b + 1)), .int (nI (0))]) (rest := []) (mX13_copies l (b + 5) (b + 1) (0) (0) 152 152 sd1 g1 (hb5.lt 5 (by decide)) (hb5.lt 1 (by decide)) (by omega) (hb5.2 5 (by decide)) (hb5.2 1 (by decide)) (by omega) (by omega) (by decide) (by decide)) q1894 q1895 q100 q1896 rfl rfl (by decide +kernel) ⟨Nat.le_of_ble_eq_true rfl, Nat.le_of_ble_eq_true rfl⟩ rfl hl.1 rfl (Nat.le_of_ble_eq_true rfl) ⟨(Nat.le_of_ble_eq_true rfl), (Nat.le_of_ble_eq_true rfl)⟩ dX13_nightsUntilHole_97) hS (fun w1 H locs hq hP hS => ?_)
            obtain hq := hq
            subst hq
            have hP : gP E ad N (va_up _ (b + 1) (MDC E ad b (cpA sd1 0 g1 0 152) kp sv bf sd1 ip sg mk td lv tl qs qc qw 0 0 wy de ca ln fa sm pa tm 1)) H := hP
            have hb10 : bkP N (va_up _ (b + 1) (MDC E ad b (cpA sd1 0 g1 0 152) kp sv bf sd1 ip sg mk td lv tl qs qc qw 0 0 wy de ca ln fa sm pa tm 1)) b 12 (MDC E ad b (cpA sd1 0 g1 0 152) kp sv bf sd1 ip sg mk td lv tl qs qc qw 0 0 wy de ca ln fa sm pa tm) := MD_setA0 hb5 _
            have hfr := hfr.up (p := b + 1) (e := MDC E ad b (cpA sd1 0 g1 0 152) kp sv bf sd1 ip sg mk td lv tl qs qc qw 0 0 wy de ca ln fa sm pa tm 1) (by show _ ∧ _; omega)
            have hRb : mRg (cpA sd1 0 g1 0 152) ht pg wt wr mo mc ni po dn := hR.cpB hm (fun j hj => by rw [cpA_at0 hj, Nat.zero_add]; exact hsd j hj)
            refine lv_aload_n hx hb dX13_nightsUntilHole_100 rfl (lv_at hl 4 rfl) ?_
            refine lv_iload hx hb dX13_nightsUntilHole_101 (lv_at hl 0 rfl) ?_
            refine g_ifeq S (a := 1) (by omega) (tgt := 110) dX13_nightsUntilHole_103 (by decide) (fun hbb => ?_) (fun hbb => ?_)
            · omega
            · refine g_iconst S 0 dX13_nightsUntilHole_106 (by decide +kernel) ?_
              refine lv_goto (tgt := 111) hx hb dX13_nightsUntilHole_107 (by decide) ?_
              refine g_afi (g_runV S hI hP hS (k := 1) (As := [.int (nI (0))]) (rest := []) (mX13_fails l b (cpA sd1 0 g1 0 152) kp sv bf sd1 ip sg mk td lv tl qs qc qw 0 0 wy de ca ln fa sm pa tm 0 hb10 (by decide)) q1878 q1880 q49 q100 q1881 rfl rfl (by decide +kernel) ⟨Nat.le_of_ble_eq_true rfl, Nat.le_of_ble_eq_true rfl⟩ rfl (hb10.lt 0 (by decide)) (hb10.2 0 (by decide)) rfl hl.1 rfl (Nat.le_of_ble_eq_true rfl) ⟨(Nat.le_of_ble_eq_true rfl), (Nat.le_of_ble_eq_true rfl)⟩ dX13_nightsUntilHole_111) hS (fun rz w1 H locs hq hP hS => ?_)
              obtain ⟨hr13, hb11, hf12⟩ := hq
              rw [hr13]
              have hfr := hfr.trans hf12 (fun q hq => by (try simp only [gIn] at hq ⊢); (try dsimp only at hq ⊢); omega)
              refine g_beq S (b := decide (0 < 0)) (tgt := 121) dX13_nightsUntilHole_114 (by decide) (fun hfk => ?_) (fun hfk => ?_)
              · refine lv_iload hx hb dX13_nightsUntilHole_121 (lv_at hl 2 rfl) ?_
                exact g_iret S hr hlocks hP hS (⟨Or.inl ⟨k, i, hck, fstN_some.mpr ⟨by omega, ha, hno⟩, rfl, _, _, hRb, hb11⟩, hfr⟩) (fun _ _ => rfl) (Nat.le_of_ble_eq_true rfl) (Nat.le_of_ble_eq_true rfl) dX13_nightsUntilHole_123
              · exact absurd hfk (by decide)
        · refine lv_aload_n hx hb dX13_nightsUntilHole_44 rfl (lv_at hl 3 rfl) ?_
          refine lv_iload_n hx hb dX13_nightsUntilHole_45 rfl (lv_at hl 2 rfl) ?_
          refine g_roi (g_runV S hI hP hS (k := 1) (As := [.int (nI (k))]) (rest := []) (mX13_isHole l b g1 kp sv bf sd1 ip sg mk td lv tl qs qc qw 0 0 wy de ca ln fa sm pa tm k ((ngN (ht, dr, pg, wt, wr, mo, mc, ni, po, dn) i).2.2.2.2.1 k) hb5 hk36 (hR1.2.1 k hk36) (q4 k hk36)) q1968 q1970 q60 q100 q1971 rfl rfl (by decide +kernel) ⟨Nat.le_of_ble_eq_true rfl, Nat.le_of_ble_eq_true rfl⟩ rfl (hb5.lt 0 (by decide)) (hb5.2 0 (by decide)) rfl hl.1 rfl (Nat.le_of_ble_eq_true rfl) ⟨(Nat.le_of_ble_eq_true rfl), (Nat.le_of_ble_eq_true rfl)⟩ dX13_nightsUntilHole_46) hS (fun H locs hP hS => ?_)
          refine g_bne S (b := decide (3 ≤ (ngN (ht, dr, pg, wt, wr, mo, mc, ni, po, dn) i).2.2.2.2.1 k)) (tgt := 67) dX13_nightsUntilHole_49 (by decide) (fun hh => ?_) (fun hh => ?_)
          · have known := hh
            refine lv_aload_n hx hb dX13_nightsUntilHole_67 rfl (lv_at hl 3 rfl) ?_
            refine lv_iload_n hx hb dX13_nightsUntilHole_68 rfl (lv_at hl 2 rfl) ?_
            refine g_roi (g_runV S hI hP hS (k := 1) (As := [.int (nI (k))]) (rest := []) (mX13_isHole l b g1 kp sv bf sd1 ip sg mk td lv tl qs qc qw 0 0 wy de ca ln fa sm pa tm k ((ngN (ht, dr, pg, wt, wr, mo, mc, ni, po, dn) i).2.2.2.2.1 k) hb5 hk36 (hR1.2.1 k hk36) (q4 k hk36)) q1968 q1970 q60 q100 q1971 rfl rfl (by decide +kernel) ⟨Nat.le_of_ble_eq_true rfl, Nat.le_of_ble_eq_true rfl⟩ rfl (hb5.lt 0 (by decide)) (hb5.2 0 (by decide)) rfl hl.1 rfl (Nat.le_of_ble_eq_true rfl) ⟨(Nat.le_of_ble_eq_true rfl), (Nat.le_of_ble_eq_true rfl)⟩ dX13_nightsUntilHole_69) hS (fun H locs hP hS => ?_)
            refine g_beq S (b := decide (3 ≤ (ngN (ht, dr, pg, wt, wr, mo, mc, ni, po, dn) i).2.2.2.2.1 k)) (tgt := 84) dX13_nightsUntilHole_72 (by decide) (fun ha => ?_) (fun ha => ?_)
            · rw [known] at ha; cases ha
            · refine lv_iload hx hb dX13_nightsUntilHole_75 (lv_at hl 0 rfl) ?_
              refine g_iflt S (a := sm1) (by omega) (tgt := 84) dX13_nightsUntilHole_77 (by decide) ?_
              refine g_iconst S 1 dX13_nightsUntilHole_80 (by decide +kernel) ?_
              refine lv_goto (tgt := 85) hx hb dX13_nightsUntilHole_81 (by decide) ?_
              refine lv_istore (lv' := [(6, .int (nI (1))), (5, .int (nI (sm1))), (4, .int (nI (i))), (3, .int (nI (k))), (0, .ref (ad (b)))]) hx hb dX13_nightsUntilHole_85 hl (by decide) rfl (fun ls hl => ?_)
              refine lv_aload_n hx hb dX13_nightsUntilHole_87 rfl (lv_at hl 4 rfl) ?_
              refine g_get S hI hP uX13 rfl (fs := _) (hb5.lt 0 (by decide)) (hb5.2 0 (by decide)) 4 (by decide) q1791 rfl (v := .ref (ad (b + 5))) rfl dX13_nightsUntilHole_88 ?_
              refine g_iconst S 0 dX13_nightsUntilHole_91 (by decide +kernel) ?_
              refine lv_aload_n hx hb dX13_nightsUntilHole_92 rfl (lv_at hl 4 rfl) ?_
              refine g_get S hI hP uX13 rfl (fs := _) (hb5.lt 0 (by decide)) (hb5.2 0 (by decide)) 0 (by decide) q1787 rfl (v := .ref (ad (b + 1))) rfl dX13_nightsUntilHole_93 ?_
              refine g_iconst S 0 dX13_nightsUntilHole_96 (by decide +kernel) ?_
              refine g_afv (g_runS S hI hP hS (k := 4) (As := [.ref (ad (b + 5)), .int (nI (0)), .ref (ad (b + 1)), .int (nI (0))]) (rest := []) (mX13_copies l (b + 5) (b + 1) (0) (0) 152 152 sd1 g1 (hb5.lt 5 (by decide)) (hb5.lt 1 (by decide)) (by omega) (hb5.2 5 (by decide)) (hb5.2 1 (by decide)) (by omega) (by omega) (by decide) (by decide)) q1894 q1895 q100 q1896 rfl rfl (by decide +kernel) ⟨Nat.le_of_ble_eq_true rfl, Nat.le_of_ble_eq_true rfl⟩ rfl hl.1 rfl (Nat.le_of_ble_eq_true rfl) ⟨(Nat.le_of_ble_eq_true rfl), (Nat.le_of_ble_eq_true rfl)⟩ dX13_nightsUntilHole_97) hS (fun w1 H locs hq hP hS => ?_)
              obtain hq := hq
              subst hq
              have hP : gP E ad N (va_up _ (b + 1) (MDC E ad b (cpA sd1 0 g1 0 152) kp sv bf sd1 ip sg mk td lv tl qs qc qw 0 0 wy de ca ln fa sm pa tm 1)) H := hP
              have hb14 : bkP N (va_up _ (b + 1) (MDC E ad b (cpA sd1 0 g1 0 152) kp sv bf sd1 ip sg mk td lv tl qs qc qw 0 0 wy de ca ln fa sm pa tm 1)) b 12 (MDC E ad b (cpA sd1 0 g1 0 152) kp sv bf sd1 ip sg mk td lv tl qs qc qw 0 0 wy de ca ln fa sm pa tm) := MD_setA0 hb5 _
              have hfr := hfr.up (p := b + 1) (e := MDC E ad b (cpA sd1 0 g1 0 152) kp sv bf sd1 ip sg mk td lv tl qs qc qw 0 0 wy de ca ln fa sm pa tm 1) (by show _ ∧ _; omega)
              have hRb : mRg (cpA sd1 0 g1 0 152) ht pg wt wr mo mc ni po dn := hR.cpB hm (fun j hj => by rw [cpA_at0 hj, Nat.zero_add]; exact hsd j hj)
              refine lv_aload_n hx hb dX13_nightsUntilHole_100 rfl (lv_at hl 4 rfl) ?_
              refine lv_iload hx hb dX13_nightsUntilHole_101 (lv_at hl 0 rfl) ?_
              refine g_ifeq S (a := 1) (by omega) (tgt := 110) dX13_nightsUntilHole_103 (by decide) (fun hbb => ?_) (fun hbb => ?_)
              · omega
              · refine g_iconst S 0 dX13_nightsUntilHole_106 (by decide +kernel) ?_
                refine lv_goto (tgt := 111) hx hb dX13_nightsUntilHole_107 (by decide) ?_
                refine g_afi (g_runV S hI hP hS (k := 1) (As := [.int (nI (0))]) (rest := []) (mX13_fails l b (cpA sd1 0 g1 0 152) kp sv bf sd1 ip sg mk td lv tl qs qc qw 0 0 wy de ca ln fa sm pa tm 0 hb14 (by decide)) q1878 q1880 q49 q100 q1881 rfl rfl (by decide +kernel) ⟨Nat.le_of_ble_eq_true rfl, Nat.le_of_ble_eq_true rfl⟩ rfl (hb14.lt 0 (by decide)) (hb14.2 0 (by decide)) rfl hl.1 rfl (Nat.le_of_ble_eq_true rfl) ⟨(Nat.le_of_ble_eq_true rfl), (Nat.le_of_ble_eq_true rfl)⟩ dX13_nightsUntilHole_111) hS (fun rz w1 H locs hq hP hS => ?_)
                obtain ⟨hr17, hb15, hf16⟩ := hq
                rw [hr17]
                have hfr := hfr.trans hf16 (fun q hq => by (try simp only [gIn] at hq ⊢); (try dsimp only at hq ⊢); omega)
                refine g_beq S (b := decide (0 < 0)) (tgt := 121) dX13_nightsUntilHole_114 (by decide) (fun hfk => ?_) (fun hfk => ?_)
                · refine lv_iload hx hb dX13_nightsUntilHole_121 (lv_at hl 2 rfl) ?_
                  exact g_iret S hr hlocks hP hS (⟨Or.inl ⟨k, i, hck, fstN_some.mpr ⟨by omega, ha, hno⟩, rfl, _, _, hRb, hb15⟩, hfr⟩) (fun _ _ => rfl) (Nat.le_of_ble_eq_true rfl) (Nat.le_of_ble_eq_true rfl) dX13_nightsUntilHole_123
                · exact absurd hfk (by decide)
          · refine lv_iload hx hb dX13_nightsUntilHole_52 (lv_at hl 0 rfl) ?_
            refine lv_aload_n hx hb dX13_nightsUntilHole_54 rfl (lv_at hl 3 rfl) ?_
            refine g_afi (g_runV S hI hP hS (k := 0) (As := []) (rest := [.int (nI (sm1))]) (mX13_darkens l b g1 kp sv bf sd1 ip sg mk td lv tl qs qc qw 0 0 wy de ca ln fa sm pa tm (ngN (ht, dr, pg, wt, wr, mo, mc, ni, po, dn) i).1 (ngN (ht, dr, pg, wt, wr, mo, mc, ni, po, dn) i).2.1 (ngN (ht, dr, pg, wt, wr, mo, mc, ni, po, dn) i).2.2.1 (ngN (ht, dr, pg, wt, wr, mo, mc, ni, po, dn) i).2.2.2.1 (ngN (ht, dr, pg, wt, wr, mo, mc, ni, po, dn) i).2.2.2.2.1 (ngN (ht, dr, pg, wt, wr, mo, mc, ni, po, dn) i).2.2.2.2.2.1 (ngN (ht, dr, pg, wt, wr, mo, mc, ni, po, dn) i).2.2.2.2.2.2.1 (ngN (ht, dr, pg, wt, wr, mo, mc, ni, po, dn) i).2.2.2.2.2.2.2.1 (ngN (ht, dr, pg, wt, wr, mo, mc, ni, po, dn) i).2.2.2.2.2.2.2.2.1 (ngN (ht, dr, pg, wt, wr, mo, mc, ni, po, dn) i).2.2.2.2.2.2.2.2.2 hb5 hR1 q1 q4 q5 q6) q2079 q2081 q69 q100 q2082 rfl rfl (by decide +kernel) ⟨Nat.le_of_ble_eq_true rfl, Nat.le_of_ble_eq_true rfl⟩ rfl (hb5.lt 0 (by decide)) (hb5.2 0 (by decide)) rfl hl.1 rfl (Nat.le_of_ble_eq_true rfl) ⟨(Nat.le_of_ble_eq_true rfl), (Nat.le_of_ble_eq_true rfl)⟩ dX13_nightsUntilHole_55) hS (fun rz w1 H locs hq hP hS => ?_)
            obtain ⟨hr9, g9, hR9, hb9, hf9⟩ := hq
            rw [hr9]
            have hfr := hfr.trans hf9 (fun q hq => hq)
            have hnc := night_cnt (ht := (ngN (ht, dr, pg, wt, wr, mo, mc, ni, po, dn) i).1) (wr := (ngN (ht, dr, pg, wt, wr, mo, mc, ni, po, dn) i).2.2.2.2.1) (mo := (ngN (ht, dr, pg, wt, wr, mo, mc, ni, po, dn) i).2.2.2.2.2.1) (mc := (ngN (ht, dr, pg, wt, wr, mo, mc, ni, po, dn) i).2.2.2.2.2.2.1) (ngN (ht, dr, pg, wt, wr, mo, mc, ni, po, dn) i).2.2.2.2.2.2.1
            refine g_iadd S dX13_nightsUntilHole_58 ?_
            refine lv_istore (lv' := [(5, .int (nI (sm1 + ((night (ngN (ht, dr, pg, wt, wr, mo, mc, ni, po, dn) i).1 (ngN (ht, dr, pg, wt, wr, mo, mc, ni, po, dn) i).2.2.2.2.1 (ngN (ht, dr, pg, wt, wr, mo, mc, ni, po, dn) i).2.2.2.2.2.1 (ngN (ht, dr, pg, wt, wr, mo, mc, ni, po, dn) i).2.2.2.2.2.2.1 (ngN (ht, dr, pg, wt, wr, mo, mc, ni, po, dn) i).2.2.2.2.2.2.1).2.2)))), (4, .int (nI (i))), (3, .int (nI (k))), (0, .ref (ad (b)))]) hx hb dX13_nightsUntilHole_59 hl (by decide) rfl (fun ls hl => ?_)
            refine lv_iinc (v := nI (i + 1)) (lv' := [(4, .int (nI (i + 1))), (5, .int (nI (sm1 + ((night (ngN (ht, dr, pg, wt, wr, mo, mc, ni, po, dn) i).1 (ngN (ht, dr, pg, wt, wr, mo, mc, ni, po, dn) i).2.2.2.2.1 (ngN (ht, dr, pg, wt, wr, mo, mc, ni, po, dn) i).2.2.2.2.2.1 (ngN (ht, dr, pg, wt, wr, mo, mc, ni, po, dn) i).2.2.2.2.2.2.1 (ngN (ht, dr, pg, wt, wr, mo, mc, ni, po, dn) i).2.2.2.2.2.2.1).2.2)))), (3, .int (nI (k))), (0, .ref (ad (b)))]) hx hb dX13_nightsUntilHole_61 hl (k := 1) rfl (g_inc _ 1 (by decide +kernel)) (by decide) rfl (fun ls hl => ?_)
            refine lv_goto (tgt := 37) hx hb dX13_nightsUntilHole_64 (by decide) ?_
            exact ih_lpa (i + 1) (sm1 + (night (ngN (ht, dr, pg, wt, wr, mo, mc, ni, po, dn) i).1 (ngN (ht, dr, pg, wt, wr, mo, mc, ni, po, dn) i).2.2.2.2.1 (ngN (ht, dr, pg, wt, wr, mo, mc, ni, po, dn) i).2.2.2.2.2.1 (ngN (ht, dr, pg, wt, wr, mo, mc, ni, po, dn) i).2.2.2.2.2.2.1 (ngN (ht, dr, pg, wt, wr, mo, mc, ni, po, dn) i).2.2.2.2.2.2.1).2.2) (g9) (by omega) (by omega) (by omega) (hR9) (fun j hj => by by_cases q : j < i; exact hno j q; rw [show j = i by omega]; exact hh) _ _ _ hP hS hb9 hfr ls (lv_sub hl [1, 0, 2, 3] rfl)
    exact lpa (31 - (0) + 1) (0) (0) (g) (Nat.lt_succ_self _) (by omega) (by omega) (hR) (fun j hj => absurd hj (Nat.not_lt_zero _)) _ _ _ hP hS hb4 hfr ls (lv_sub hl [0, 1, 2, 3] rfl)
  · have hcn := Option.isNone_iff_eq_none.mp h1
    rw [if_neg (show ¬ (cellV x y).isSome = true by rw [hcn]; decide)] at hb1
    (try rw [if_neg (show ¬ (cellV x y).isSome = true by rw [hcn]; decide)] at hP)
    (try rw [if_neg (show ¬ (cellV x y).isSome = true by rw [hcn]; decide)] at hfr)
    refine g_iconst S 0 dX13_nightsUntilHole_9 (by decide +kernel) ?_
    exact g_iret S hr hlocks hP hS (⟨Or.inr (Or.inr ⟨hcn, g, sd, hR, hb1⟩), hfr⟩) (fun _ _ => rfl) (Nat.le_of_ble_eq_true rfl) (Nat.le_of_ble_eq_true rfl) dX13_nightsUntilHole_10
