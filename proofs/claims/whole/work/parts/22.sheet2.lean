set_option maxHeartbeats 4000000 in
set_option maxRecDepth 100000 in
/-- the holes -/
theorem mX7_countHoles (l : Launch) {E : gE} {ad : Nat → Nat} {N : Nat} {w : Nat → va_E} (b : Nat) (ht dr pg wt wr mo : Nat → Nat) (mc ni po dn : Nat) (hb_s : bkP N w b 7 (SHC E ad b ht dr pg wt wr mo mc ni po dn)) (hwr : ∀ k, k < 36 → wr k ≤ 3) : gMi l yX7_countHoles (lw_ws yX7_countHoles cX7_countHoles 3 (some .int)) ({ frames := 1, cells := 0, slots := 0, locals := 21 } : Room) E ad N w [.ref (ad (b))] (fun r w' => r = nI (cnt (fun k => decide (3 ≤ wr k)) 36) ∧ w' = w) 0 0 := by
  refine Met.ofW (cc := cX7_countHoles) (maxL := 3) (ret := (some .int)) (by decide) rfl ?_
  intro p e s m args below meth cd s₁ B hml hv
  obtain ⟨rfl, hI, hP⟩ := hv
  obtain ⟨S, hr, hlocks⟩ := gPre (ws := []) B hml (C := RX7) rfl
  have hx := S.1
  have hb := S.2.1
  have hS : va_S (gA E) s.heap s.heap [] := va_S.rf
  have hl := lv_entry ([.ref (ad (b))]) (n := 3) (Nat.le_of_ble_eq_true rfl)
  rw [lg_entry_eq]
  generalize (lg_sl ([.ref (ad (b))]) ++ List.replicate (3 - (lg_sl ([.ref (ad (b))])).length) Slot.unset).toArray = ls at hl ⊢
  have hl : lv_has ls 3 [(0, .ref (ad (b)))] := hl
  refine g_iconst S 0 dX7_countHoles_0 (by decide +kernel) ?_
  refine lv_istore_n (lv' := [(1, .int (nI (0))), (0, .ref (ad (b)))]) hx hb dX7_countHoles_1 rfl hl (by decide) rfl (fun ls hl => ?_)
  refine g_iconst S 0 dX7_countHoles_2 (by decide +kernel) ?_
  refine lv_istore_n (lv' := [(2, .int (nI (0))), (1, .int (nI (0))), (0, .ref (ad (b)))]) hx hb dX7_countHoles_3 rfl hl (by decide) rfl (fun ls hl => ?_)
  have loop1 : ∀ (n : Nat) (i : Nat), 36 - i < n → (i ≤ 36) → ∀ (H : Heap) (locs : List Loc), gP E ad N w H → va_S (gA E) s.heap H locs → ∀ (ls : Array Slot), lv_has ls 3 [(2, .int (nI (i))), (1, .int (nI (cnt (fun k => decide (3 ≤ wr k)) i))), (0, .ref (ad (b)))] → W p l e (headSpec (lw_ws yX7_countHoles cX7_countHoles 3 (some .int)) ({ frames := 1, cells := 0, slots := 0, locals := 21 } : Room)).room s m ([.ref (ad (b))] : List Value).toArray below meth cd H locs 0 0 (MQ below (va_Qi (fun r w' => r = nI (cnt (fun k => decide (3 ≤ wr k)) 36) ∧ w' = w) (gB E ad N) (gA E)) ([.ref (ad (b))] : List Value).toArray s 0 0 (gA E)) (F0 m 4 ls []) := by
    intro n
    induction n with
    | zero => intro i hmeas; omega
    | succ n ih =>
      intro i hmeas hi H locs hP hS ls hl
      refine lv_iload_n hx hb dX7_countHoles_4 rfl (lv_at hl 0 rfl) ?_
      refine g_bipush S 36 dX7_countHoles_5 (by decide +kernel) ?_
      refine g_ge S (a := i) (b := 36) (by omega) (by omega) (tgt := 27) dX7_countHoles_7 (by decide) (fun h => ?_) (fun h => ?_)
      · refine lv_iload_n hx hb dX7_countHoles_27 rfl (lv_at hl 1 rfl) ?_
        have e_i : i = 36 := by omega
        subst e_i
        exact g_iret S hr hlocks hP hS (⟨rfl, rfl⟩) (fun _ _ => rfl) (Nat.le_of_ble_eq_true rfl) (Nat.le_of_ble_eq_true rfl) dX7_countHoles_28
      · refine lv_aload_n hx hb dX7_countHoles_10 rfl (lv_at hl 2 rfl) ?_
        refine lv_iload_n hx hb dX7_countHoles_11 rfl (lv_at hl 0 rfl) ?_
        refine g_roi (g_runV S hI hP hS (k := 1) (As := [.int (nI (i))]) (rest := []) (mX7_hasHole l b ht dr pg wt wr mo mc ni po dn i hb_s h (hwr i h)) q505 q506 q507 q83 q508 rfl rfl (by decide +kernel) ⟨Nat.le_of_ble_eq_true rfl, Nat.le_of_ble_eq_true rfl⟩ rfl (hb_s.lt 0 (by decide)) (hb_s.2 0 (by decide)) rfl hl.1 rfl (Nat.le_of_ble_eq_true rfl) ⟨(Nat.le_of_ble_eq_true rfl), (Nat.le_of_ble_eq_true rfl)⟩ dX7_countHoles_12) hS (fun H locs hP hS => ?_)
        refine g_beq S (b := decide (3 ≤ wr i)) (tgt := 21) dX7_countHoles_15 (by decide) (fun h2 => ?_) (fun h2 => ?_)
        · refine lv_iinc (v := nI (i + 1)) (lv' := [(2, .int (nI (i + 1))), (1, .int (nI (cnt (fun k => decide (3 ≤ wr k)) i))), (0, .ref (ad (b)))]) hx hb dX7_countHoles_21 hl (k := 0) rfl (g_inc _ 1 (by decide +kernel)) (by decide) rfl (fun ls hl => ?_)
          refine lv_goto (tgt := 4) hx hb dX7_countHoles_24 (by decide) ?_
          rw [← cnt_n (p := (fun k => decide (3 ≤ wr k))) (n := i) h2] at hl
          exact ih (i + 1) (by omega) (by omega) _ _ hP hS ls (lv_sub hl [0, 1, 2] rfl)
        · refine lv_iinc (v := nI (cnt (fun k => decide (3 ≤ wr k)) i + 1)) (lv' := [(1, .int (nI (cnt (fun k => decide (3 ≤ wr k)) i + 1))), (2, .int (nI (i))), (0, .ref (ad (b)))]) hx hb dX7_countHoles_18 hl (k := 1) rfl (g_inc _ 1 (by decide +kernel)) (by decide) rfl (fun ls hl => ?_)
          refine lv_iinc (v := nI (i + 1)) (lv' := [(2, .int (nI (i + 1))), (1, .int (nI (cnt (fun k => decide (3 ≤ wr k)) i + 1))), (0, .ref (ad (b)))]) hx hb dX7_countHoles_21 hl (k := 1) rfl (g_inc _ 1 (by decide +kernel)) (by decide) rfl (fun ls hl => ?_)
          refine lv_goto (tgt := 4) hx hb dX7_countHoles_24 (by decide) ?_
          rw [← cnt_y (p := (fun k => decide (3 ≤ wr k))) (n := i) h2] at hl
          exact ih (i + 1) (by omega) (by omega) _ _ hP hS ls (lv_sub hl [0, 1, 2] rfl)
  exact loop1 (36 - (0) + 1) (0) (Nat.lt_succ_self _) (by omega) _ _ hP hS ls (lv_sub hl [0, 1, 2] rfl)
set_option maxHeartbeats 4000000 in
set_option maxRecDepth 100000 in
/-- the difference of two heights -/
theorem mX7_difference (l : Launch) {E : gE} {ad : Nat → Nat} {N : Nat} {w : Nat → va_E} (b : Nat) (ht dr pg wt wr mo : Nat → Nat) (mc ni po dn : Nat) (i j : Nat) (hb_s : bkP N w b 7 (SHC E ad b ht dr pg wt wr mo mc ni po dn)) (hi : i < 36) (hj : j < 36) (hht : ∀ k, k < 36 → ht k ≤ 99) : gMi l yX7_difference (lw_ws yX7_difference cX7_difference 3 (some .int)) ({ frames := 1, cells := 0, slots := 0, locals := 21 } : Room) E ad N w [.ref (ad (b)), .int (nI (i)), .int (nI (j))] (fun r w' => r = nI (dif (ht i) (ht j)) ∧ w' = w) 0 0 := by
  refine Met.ofW (cc := cX7_difference) (maxL := 3) (ret := (some .int)) (by decide) rfl ?_
  intro p e s m args below meth cd s₁ B hml hv
  obtain ⟨rfl, hI, hP⟩ := hv
  obtain ⟨S, hr, hlocks⟩ := gPre (ws := []) B hml (C := RX7) rfl
  have hx := S.1
  have hb := S.2.1
  have hS : va_S (gA E) s.heap s.heap [] := va_S.rf
  have hl := lv_entry ([.ref (ad (b)), .int (nI (i)), .int (nI (j))]) (n := 3) (Nat.le_of_ble_eq_true rfl)
  rw [lg_entry_eq]
  generalize (lg_sl ([.ref (ad (b)), .int (nI (i)), .int (nI (j))]) ++ List.replicate (3 - (lg_sl ([.ref (ad (b)), .int (nI (i)), .int (nI (j))])).length) Slot.unset).toArray = ls at hl ⊢
  have hl : lv_has ls 3 [(0, .ref (ad (b))), (1, .int (nI (i))), (2, .int (nI (j)))] := hl
  have h1 := hht i hi
  have h2 := hht j hj
  refine lv_aload_n hx hb dX7_difference_0 rfl (lv_at hl 0 rfl) ?_
  refine g_get S hI hP uX7 rfl (fs := _) (hb_s.lt 0 (by decide)) (hb_s.2 0 (by decide)) 0 (by decide) q140 rfl (v := .ref (ad (b + 1))) rfl dX7_difference_1 ?_
  refine lv_iload_n hx hb dX7_difference_4 rfl (lv_at hl 1 rfl) ?_
  refine g_iald S hI hP (f := fun j => nI (ht j)) (hb_s.lt 1 (by decide)) (hb_s.2 1 (by decide)) (i) (hi) (by decide) dX7_difference_5 ?_
  refine lv_aload_n hx hb dX7_difference_6 rfl (lv_at hl 0 rfl) ?_
  refine g_get S hI hP uX7 rfl (fs := _) (hb_s.lt 0 (by decide)) (hb_s.2 0 (by decide)) 0 (by decide) q140 rfl (v := .ref (ad (b + 1))) rfl dX7_difference_7 ?_
  refine lv_iload_n hx hb dX7_difference_10 rfl (lv_at hl 2 rfl) ?_
  refine g_iald S hI hP (f := fun j => nI (ht j)) (hb_s.lt 1 (by decide)) (hb_s.2 1 (by decide)) (j) (hj) (by decide) dX7_difference_11 ?_
  refine lv_isub hx hb dX7_difference_12 ?_
  refine g_abs S hl.1 (a := ht i) (b := ht j) (by omega) (by omega) q1091 q1092 q112 q1093 (Nat.le_of_ble_eq_true rfl) (Nat.le_of_ble_eq_true rfl) (Nat.le_of_ble_eq_true rfl) (Nat.le_of_ble_eq_true rfl) dX7_difference_13 ?_
  exact g_iret S hr hlocks hP hS (⟨rfl, rfl⟩) (fun _ _ => rfl) (Nat.le_of_ble_eq_true rfl) (Nat.le_of_ble_eq_true rfl) dX7_difference_16
set_option maxHeartbeats 4000000 in
set_option maxRecDepth 100000 in
/-- where water flows to -/
theorem mX7_flowOf (l : Launch) {E : gE} {ad : Nat → Nat} {N : Nat} {w : Nat → va_E} (b : Nat) (ht dr pg wt wr mo : Nat → Nat) (mc ni po dn : Nat) (c : Nat) (hb_s : bkP N w b 7 (SHC E ad b ht dr pg wt wr mo mc ni po dn)) (hc : c < 36) (hwr : ∀ k, k < 36 → wr k ≤ 3) (hht : ∀ k, k < 36 → ht k ≤ 99) : gMi l yX7_flowOf (lw_ws yX7_flowOf cX7_flowOf 5 (some .int)) ({ frames := 2, cells := 0, slots := 0, locals := 44 } : Room) E ad N w [.ref (ad (b)), .int (nI (c))] (fun r w' => r = oI (flow ht wr c) ∧ w' = w) 0 0 := by
  refine Met.ofW (cc := cX7_flowOf) (maxL := 5) (ret := (some .int)) (by decide) rfl ?_
  intro p e s m args below meth cd s₁ B hml hv
  obtain ⟨rfl, hI, hP⟩ := hv
  obtain ⟨S, hr, hlocks⟩ := gPre (ws := []) B hml (C := RX7) rfl
  have hx := S.1
  have hb := S.2.1
  have hS : va_S (gA E) s.heap s.heap [] := va_S.rf
  have hl := lv_entry ([.ref (ad (b)), .int (nI (c))]) (n := 5) (Nat.le_of_ble_eq_true rfl)
  rw [lg_entry_eq]
  generalize (lg_sl ([.ref (ad (b)), .int (nI (c))]) ++ List.replicate (5 - (lg_sl ([.ref (ad (b)), .int (nI (c))])).length) Slot.unset).toArray = ls at hl ⊢
  have hl : lv_has ls 5 [(0, .ref (ad (b))), (1, .int (nI (c)))] := hl
  refine lv_aload_n hx hb dX7_flowOf_0 rfl (lv_at hl 0 rfl) ?_
  refine lv_iload_n hx hb dX7_flowOf_1 rfl (lv_at hl 1 rfl) ?_
  refine g_roi (g_runV S hI hP hS (k := 1) (As := [.int (nI (c))]) (rest := []) (mX7_hasHole l b ht dr pg wt wr mo mc ni po dn c hb_s hc (hwr c hc)) q505 q506 q507 q83 q508 rfl rfl (by decide +kernel) ⟨Nat.le_of_ble_eq_true rfl, Nat.le_of_ble_eq_true rfl⟩ rfl (hb_s.lt 0 (by decide)) (hb_s.2 0 (by decide)) rfl hl.1 rfl (Nat.le_of_ble_eq_true rfl) ⟨(Nat.le_of_ble_eq_true rfl), (Nat.le_of_ble_eq_true rfl)⟩ dX7_flowOf_2) hS (fun H locs hP hS => ?_)
  refine g_beq S (b := decide (3 ≤ wr c)) (tgt := 10) dX7_flowOf_5 (by decide) (fun h => ?_) (fun h => ?_)
  · have hnh : ¬ 3 ≤ wr c := of_decide_eq_false h
    refine lv_iload_n hx hb dX7_flowOf_10 rfl (lv_at hl 1 rfl) ?_
    refine lv_istore_n (lv' := [(2, .int (nI (c))), (0, .ref (ad (b))), (1, .int (nI (c)))]) hx hb dX7_flowOf_11 rfl hl (by decide) rfl (fun ls hl => ?_)
    refine g_iconst S 0 dX7_flowOf_12 (by decide +kernel) ?_
    refine lv_istore_n (lv' := [(3, .int (nI (0))), (2, .int (nI (c))), (0, .ref (ad (b))), (1, .int (nI (c)))]) hx hb dX7_flowOf_13 rfl hl (by decide) rfl (fun ls hl => ?_)
    have loop1 : ∀ (n : Nat) (d : Nat), 4 - d < n → (d ≤ 4) → ∀ (H : Heap) (locs : List Loc), gP E ad N w H → va_S (gA E) s.heap H locs → ∀ (ls : Array Slot), lv_has ls 5 [(3, .int (nI (d))), (2, .int (nI (lowN ht c d))), (1, .int (nI (c))), (0, .ref (ad (b)))] → W p l e (headSpec (lw_ws yX7_flowOf cX7_flowOf 5 (some .int)) ({ frames := 2, cells := 0, slots := 0, locals := 44 } : Room)).room s m ([.ref (ad (b)), .int (nI (c))] : List Value).toArray below meth cd H locs 0 0 (MQ below (va_Qi (fun r w' => r = oI (flow ht wr c) ∧ w' = w) (gB E ad N) (gA E)) ([.ref (ad (b)), .int (nI (c))] : List Value).toArray s 0 0 (gA E)) (F0 m 14 ls []) := by
      intro n
      induction n with
      | zero => intro d hmeas; omega
      | succ n ih =>
        intro d hmeas hd H locs hP hS ls hl
        have hlo := lowN_lt (ht := ht) hc d
        refine lv_iload_n hx hb dX7_flowOf_14 rfl (lv_at hl 0 rfl) ?_
        refine g_iconst S 4 dX7_flowOf_15 (by decide +kernel) ?_
        refine g_ge S (a := d) (b := 4) (by omega) (by omega) (tgt := 57) dX7_flowOf_16 (by decide) (fun hd4 => ?_) (fun hd4 => ?_)
        · have e_d : d = 4 := by omega
          subst e_d
          refine lv_iload_n hx hb dX7_flowOf_57 rfl (lv_at hl 1 rfl) ?_
          refine lv_iload_n hx hb dX7_flowOf_58 rfl (lv_at hl 2 rfl) ?_
          refine g_ne S (a := lowN ht c 4) (b := c) (by omega) (by omega) (tgt := 66) dX7_flowOf_59 (by decide) (fun hq => ?_) (fun hq => ?_)
          · refine lv_iload_n hx hb dX7_flowOf_66 rfl (lv_at hl 1 rfl) ?_
            exact g_iret S hr hlocks hP hS (⟨by rw [flow, if_neg hnh, if_neg hq]; rfl, rfl⟩) (fun _ _ => rfl) (Nat.le_of_ble_eq_true rfl) (Nat.le_of_ble_eq_true rfl) dX7_flowOf_67
          · refine lv_iconst (v := -1) hx hb dX7_flowOf_62 (by decide +kernel) ?_
            refine lv_goto (tgt := 67) hx hb dX7_flowOf_63 (by decide) ?_
            exact g_iret S hr hlocks hP hS (⟨by rw [flow, if_neg hnh, if_pos hq]; rfl, rfl⟩) (fun _ _ => rfl) (Nat.le_of_ble_eq_true rfl) (Nat.le_of_ble_eq_true rfl) dX7_flowOf_67
        · refine lv_iload_n hx hb dX7_flowOf_19 rfl (lv_at hl 2 rfl) ?_
          refine lv_iload_n hx hb dX7_flowOf_20 rfl (lv_at hl 0 rfl) ?_
          refine g_roi (g_runSN S hI hP hS (k := 2) (As := [.int (nI (c)), .int (nI (d))]) (rest := []) (mX12_neighbour l c d hc hd4) q674 q675 q82 q676 rfl rfl (by decide +kernel) ⟨Nat.le_of_ble_eq_true rfl, Nat.le_of_ble_eq_true rfl⟩ rfl hl.1 rfl (Nat.le_of_ble_eq_true rfl) ⟨(Nat.le_of_ble_eq_true rfl), (Nat.le_of_ble_eq_true rfl)⟩ dX7_flowOf_21) hS (fun H locs hP hS => ?_)
          refine lv_istore (lv' := [(4, .int (oI (nb c d))), (3, .int (nI (d))), (2, .int (nI (lowN ht c d))), (1, .int (nI (c))), (0, .ref (ad (b)))]) hx hb dX7_flowOf_24 hl (by decide) rfl (fun ls hl => ?_)
          refine lv_iload hx hb dX7_flowOf_26 (lv_at hl 0 rfl) ?_
          refine lv_iconst (v := -1) hx hb dX7_flowOf_28 (by decide +kernel) ?_
          refine g_oeq S (o := nb c d) (fun k hk => Nat.lt_trans (nb_lt hc hk) (by decide)) (tgt := 51) dX7_flowOf_29 (by decide) (fun hn => ?_) (fun hn_k hn => ?_)
          · refine lv_iinc (v := nI (d + 1)) (lv' := [(3, .int (nI (d + 1))), (4, .int (oI (nb c d))), (2, .int (nI (lowN ht c d))), (1, .int (nI (c))), (0, .ref (ad (b)))]) hx hb dX7_flowOf_51 hl (k := 1) rfl (g_inc _ 1 (by decide +kernel)) (by decide) rfl (fun ls hl => ?_)
            refine lv_goto (tgt := 14) hx hb dX7_flowOf_54 (by decide) ?_
            have hl : lv_has ls 5 [(3, .int (nI (d + 1))), (4, .int (oI (nb c d))), (2, .int (nI (lowN ht c (d + 1)))), (1, .int (nI (c))), (0, .ref (ad (b)))] := by rw [show lowN ht c (d + 1) = lowN ht c d by simp [lowN, hn]]; exact hl
            exact ih (d + 1) (by omega) (by omega) _ _ hP hS ls (lv_sub hl [0, 2, 3, 4] rfl)
          · have hk36 := nb_lt hc hn
            have z1 := hht hn_k hk36
            have z2 := hht _ hlo
            have hl : lv_has ls 5 [(4, .int (nI (hn_k))), (3, .int (nI (d))), (2, .int (nI (lowN ht c d))), (1, .int (nI (c))), (0, .ref (ad (b)))] := by rw [hn] at hl; exact hl
            refine lv_aload_n hx hb dX7_flowOf_32 rfl (lv_at hl 4 rfl) ?_
            refine g_get S hI hP uX7 rfl (fs := _) (hb_s.lt 0 (by decide)) (hb_s.2 0 (by decide)) 0 (by decide) q140 rfl (v := .ref (ad (b + 1))) rfl dX7_flowOf_33 ?_
            refine lv_iload hx hb dX7_flowOf_36 (lv_at hl 0 rfl) ?_
            refine g_iald S hI hP (f := fun j => nI (ht j)) (hb_s.lt 1 (by decide)) (hb_s.2 1 (by decide)) (hn_k) (hk36) (by decide) dX7_flowOf_38 ?_
            refine lv_aload_n hx hb dX7_flowOf_39 rfl (lv_at hl 4 rfl) ?_
            refine g_get S hI hP uX7 rfl (fs := _) (hb_s.lt 0 (by decide)) (hb_s.2 0 (by decide)) 0 (by decide) q140 rfl (v := .ref (ad (b + 1))) rfl dX7_flowOf_40 ?_
            refine lv_iload_n hx hb dX7_flowOf_43 rfl (lv_at hl 2 rfl) ?_
            refine g_iald S hI hP (f := fun j => nI (ht j)) (hb_s.lt 1 (by decide)) (hb_s.2 1 (by decide)) (lowN ht c d) (hlo) (by decide) dX7_flowOf_44 ?_
            refine g_ge S (a := ht hn_k) (b := ht (lowN ht c d)) (by omega) (by omega) (tgt := 51) dX7_flowOf_45 (by decide) (fun hq => ?_) (fun hq => ?_)
            · refine lv_iinc (v := nI (d + 1)) (lv' := [(3, .int (nI (d + 1))), (4, .int (nI (hn_k))), (2, .int (nI (lowN ht c d))), (1, .int (nI (c))), (0, .ref (ad (b)))]) hx hb dX7_flowOf_51 hl (k := 1) rfl (g_inc _ 1 (by decide +kernel)) (by decide) rfl (fun ls hl => ?_)
              refine lv_goto (tgt := 14) hx hb dX7_flowOf_54 (by decide) ?_
              have hl : lv_has ls 5 [(3, .int (nI (d + 1))), (4, .int (nI (hn_k))), (2, .int (nI (lowN ht c (d + 1)))), (1, .int (nI (c))), (0, .ref (ad (b)))] := by rw [show lowN ht c (d + 1) = lowN ht c d by simp only [lowN, hn]; rw [if_neg (by omega)]]; exact hl
              exact ih (d + 1) (by omega) (by omega) _ _ hP hS ls (lv_sub hl [0, 2, 3, 4] rfl)
            · refine lv_iload hx hb dX7_flowOf_48 (lv_at hl 0 rfl) ?_
              refine lv_istore_n (lv' := [(2, .int (nI (hn_k))), (4, .int (nI (hn_k))), (3, .int (nI (d))), (1, .int (nI (c))), (0, .ref (ad (b)))]) hx hb dX7_flowOf_50 rfl hl (by decide) rfl (fun ls hl => ?_)
              refine lv_iinc (v := nI (d + 1)) (lv' := [(3, .int (nI (d + 1))), (2, .int (nI (hn_k))), (4, .int (nI (hn_k))), (1, .int (nI (c))), (0, .ref (ad (b)))]) hx hb dX7_flowOf_51 hl (k := 2) rfl (g_inc _ 1 (by decide +kernel)) (by decide) rfl (fun ls hl => ?_)
              refine lv_goto (tgt := 14) hx hb dX7_flowOf_54 (by decide) ?_
              have hl : lv_has ls 5 [(3, .int (nI (d + 1))), (2, .int (nI (lowN ht c (d + 1)))), (4, .int (nI (hn_k))), (1, .int (nI (c))), (0, .ref (ad (b)))] := by rw [show lowN ht c (d + 1) = hn_k by simp only [lowN, hn]; rw [if_pos hq]]; exact hl
              exact ih (d + 1) (by omega) (by omega) _ _ hP hS ls (lv_sub hl [0, 1, 3, 4] rfl)
    exact loop1 (4 - (0) + 1) (0) (Nat.lt_succ_self _) (by omega) _ _ hP hS ls (lv_sub hl [0, 1, 3, 2] rfl)
  · refine lv_iconst (v := -1) hx hb dX7_flowOf_8 (by decide +kernel) ?_
    exact g_iret S hr hlocks hP hS (⟨by rw [flow, if_pos (of_decide_eq_true h)]; rfl, rfl⟩) (fun _ _ => rfl) (Nat.le_of_ble_eq_true rfl) (Nat.le_of_ble_eq_true rfl) dX7_flowOf_9
set_option maxHeartbeats 4000000 in
set_option maxRecDepth 100000 in
/-- the end of a cell -/
theorem mX7_endOf (l : Launch) {E : gE} {ad : Nat → Nat} {N : Nat} {w : Nat → va_E} (b : Nat) (ht dr pg wt wr mo : Nat → Nat) (mc ni po dn : Nat) (c : Nat) (hb_s : bkP N w b 7 (SHC E ad b ht dr pg wt wr mo mc ni po dn)) (hc : c < 36) (hwr : ∀ k, k < 36 → wr k ≤ 3) (hht : ∀ k, k < 36 → ht k ≤ 99) : gMi l yX7_endOf (lw_ws yX7_endOf cX7_endOf 5 (some .int)) ({ frames := 3, cells := 0, slots := 0, locals := 68 } : Room) E ad N w [.ref (ad (b)), .int (nI (c))] (fun r w' => r = nI (endN ht wr 36 c) ∧ w' = w) 0 0 := by
  refine Met.ofW (cc := cX7_endOf) (maxL := 5) (ret := (some .int)) (by decide) rfl ?_
  intro p e s m args below meth cd s₁ B hml hv
  obtain ⟨rfl, hI, hP⟩ := hv
  obtain ⟨S, hr, hlocks⟩ := gPre (ws := []) B hml (C := RX7) rfl
  have hx := S.1
  have hb := S.2.1
  have hS : va_S (gA E) s.heap s.heap [] := va_S.rf
  have hl := lv_entry ([.ref (ad (b)), .int (nI (c))]) (n := 5) (Nat.le_of_ble_eq_true rfl)
  rw [lg_entry_eq]
  generalize (lg_sl ([.ref (ad (b)), .int (nI (c))]) ++ List.replicate (5 - (lg_sl ([.ref (ad (b)), .int (nI (c))])).length) Slot.unset).toArray = ls at hl ⊢
  have hl : lv_has ls 5 [(0, .ref (ad (b))), (1, .int (nI (c)))] := hl
  refine lv_iload_n hx hb dX7_endOf_0 rfl (lv_at hl 1 rfl) ?_
  refine lv_istore_n (lv' := [(2, .int (nI (c))), (0, .ref (ad (b))), (1, .int (nI (c)))]) hx hb dX7_endOf_1 rfl hl (by decide) rfl (fun ls hl => ?_)
  refine g_iconst S 0 dX7_endOf_2 (by decide +kernel) ?_
  refine lv_istore_n (lv' := [(3, .int (nI (0))), (2, .int (nI (c))), (0, .ref (ad (b))), (1, .int (nI (c)))]) hx hb dX7_endOf_3 rfl hl (by decide) rfl (fun ls hl => ?_)
  have loop1 : ∀ (n : Nat) (i : Nat) (u : Nat), 36 - i < n → (i ≤ 36) → (u < 36) → (endN ht wr (36 - i) u = endN ht wr 36 c) → ∀ (H : Heap) (locs : List Loc), gP E ad N w H → va_S (gA E) s.heap H locs → ∀ (ls : Array Slot), lv_has ls 5 [(3, .int (nI (i))), (2, .int (nI (u))), (1, .int (nI (c))), (0, .ref (ad (b)))] → W p l e (headSpec (lw_ws yX7_endOf cX7_endOf 5 (some .int)) ({ frames := 3, cells := 0, slots := 0, locals := 68 } : Room)).room s m ([.ref (ad (b)), .int (nI (c))] : List Value).toArray below meth cd H locs 0 0 (MQ below (va_Qi (fun r w' => r = nI (endN ht wr 36 c) ∧ w' = w) (gB E ad N) (gA E)) ([.ref (ad (b)), .int (nI (c))] : List Value).toArray s 0 0 (gA E)) (F0 m 4 ls []) := by
    intro n
    induction n with
    | zero => intro i u hmeas; omega
    | succ n ih =>
      intro i u hmeas hi hu he H locs hP hS ls hl
      refine lv_iload_n hx hb dX7_endOf_4 rfl (lv_at hl 0 rfl) ?_
      refine g_bipush S 36 dX7_endOf_5 (by decide +kernel) ?_
      refine g_ge S (a := i) (b := 36) (by omega) (by omega) (tgt := 34) dX7_endOf_7 (by decide) (fun h => ?_) (fun h => ?_)
      · refine lv_iload_n hx hb dX7_endOf_34 rfl (lv_at hl 1 rfl) ?_
        have e : 36 - i = 0 := by omega
        rw [e] at he
        exact g_iret S hr hlocks hP hS (⟨by rw [← he]; rfl, rfl⟩) (fun _ _ => rfl) (Nat.le_of_ble_eq_true rfl) (Nat.le_of_ble_eq_true rfl) dX7_endOf_35
      · refine lv_aload_n hx hb dX7_endOf_10 rfl (lv_at hl 3 rfl) ?_
        refine lv_iload_n hx hb dX7_endOf_11 rfl (lv_at hl 1 rfl) ?_
        refine g_roi (g_runV S hI hP hS (k := 1) (As := [.int (nI (u))]) (rest := []) (mX7_flowOf l b ht dr pg wt wr mo mc ni po dn u hb_s hu hwr hht) q692 q693 q694 q83 q695 rfl rfl (by decide +kernel) ⟨Nat.le_of_ble_eq_true rfl, Nat.le_of_ble_eq_true rfl⟩ rfl (hb_s.lt 0 (by decide)) (hb_s.2 0 (by decide)) rfl hl.1 rfl (Nat.le_of_ble_eq_true rfl) ⟨(Nat.le_of_ble_eq_true rfl), (Nat.le_of_ble_eq_true rfl)⟩ dX7_endOf_12) hS (fun H locs hP hS => ?_)
        refine lv_istore (lv' := [(4, .int (oI (flow ht wr u))), (3, .int (nI (i))), (2, .int (nI (u))), (1, .int (nI (c))), (0, .ref (ad (b)))]) hx hb dX7_endOf_15 hl (by decide) rfl (fun ls hl => ?_)
        refine lv_iload hx hb dX7_endOf_17 (lv_at hl 0 rfl) ?_
        refine lv_iconst (v := -1) hx hb dX7_endOf_19 (by decide +kernel) ?_
        have e : 36 - i = (36 - (i + 1)) + 1 := by omega
        rw [e] at he
        refine g_one S (o := flow ht wr u) (fun k hk => Nat.lt_trans (flow_lt hu hk) (by decide)) (tgt := 25) dX7_endOf_20 (by decide) (fun hn_k hn => ?_) (fun hn => ?_)
        · have hl : lv_has ls 5 [(4, .int (nI (hn_k))), (3, .int (nI (i))), (2, .int (nI (u))), (1, .int (nI (c))), (0, .ref (ad (b)))] := by rw [hn] at hl; exact hl
          refine lv_iload hx hb dX7_endOf_25 (lv_at hl 0 rfl) ?_
          refine lv_istore_n (lv' := [(2, .int (nI (hn_k))), (4, .int (nI (hn_k))), (3, .int (nI (i))), (1, .int (nI (c))), (0, .ref (ad (b)))]) hx hb dX7_endOf_27 rfl hl (by decide) rfl (fun ls hl => ?_)
          refine lv_iinc (v := nI (i + 1)) (lv' := [(3, .int (nI (i + 1))), (2, .int (nI (hn_k))), (4, .int (nI (hn_k))), (1, .int (nI (c))), (0, .ref (ad (b)))]) hx hb dX7_endOf_28 hl (k := 2) rfl (g_inc _ 1 (by decide +kernel)) (by decide) rfl (fun ls hl => ?_)
          refine lv_goto (tgt := 4) hx hb dX7_endOf_31 (by decide) ?_
          exact ih (i + 1) (hn_k) (by omega) (by omega) (flow_lt hu hn) (by simpa only [endN, hn] using he) _ _ hP hS ls (lv_sub hl [0, 1, 3, 4] rfl)
        · refine lv_iload_n hx hb dX7_endOf_23 rfl (lv_at hl 2 rfl) ?_
          exact g_iret S hr hlocks hP hS (⟨by rw [← he]; simp only [endN, hn], rfl⟩) (fun _ _ => rfl) (Nat.le_of_ble_eq_true rfl) (Nat.le_of_ble_eq_true rfl) dX7_endOf_24
  exact loop1 (36 - (0) + 1) (0) (c) (Nat.lt_succ_self _) (by omega) (hc) (rfl) _ _ hP hS ls (lv_sub hl [0, 1, 3, 2] rfl)
set_option maxHeartbeats 4000000 in
set_option maxRecDepth 100000 in
/-- a draped height -/
theorem mX7_drapedHeight (l : Launch) {E : gE} {ad : Nat → Nat} {N : Nat} {w : Nat → va_E} (b : Nat) (ht dr pg wt wr mo : Nat → Nat) (mc ni po dn : Nat) (c : Nat) (hb_s : bkP N w b 7 (SHC E ad b ht dr pg wt wr mo mc ni po dn)) (hc : c < 36) (hht : ∀ k, k < 36 → ht k ≤ 99) : gMi l yX7_drapedHeight (lw_ws yX7_drapedHeight cX7_drapedHeight 6 (some .int)) ({ frames := 2, cells := 0, slots := 0, locals := 44 } : Room) E ad N w [.ref (ad (b)), .int (nI (c))] (fun r w' => r = nI (drH ht c) ∧ w' = w) 0 0 := by
  refine Met.ofW (cc := cX7_drapedHeight) (maxL := 6) (ret := (some .int)) (by decide) rfl ?_
  intro p e s m args below meth cd s₁ B hml hv
  obtain ⟨rfl, hI, hP⟩ := hv
  obtain ⟨S, hr, hlocks⟩ := gPre (ws := []) B hml (C := RX7) rfl
  have hx := S.1
  have hb := S.2.1
  have hS : va_S (gA E) s.heap s.heap [] := va_S.rf
  have hl := lv_entry ([.ref (ad (b)), .int (nI (c))]) (n := 6) (Nat.le_of_ble_eq_true rfl)
  rw [lg_entry_eq]
  generalize (lg_sl ([.ref (ad (b)), .int (nI (c))]) ++ List.replicate (6 - (lg_sl ([.ref (ad (b)), .int (nI (c))])).length) Slot.unset).toArray = ls at hl ⊢
  have hl : lv_has ls 6 [(0, .ref (ad (b))), (1, .int (nI (c)))] := hl
  have hzc := hht c hc
  refine g_iconst S 2 dX7_drapedHeight_0 (by decide +kernel) ?_
  refine lv_aload_n hx hb dX7_drapedHeight_1 rfl (lv_at hl 0 rfl) ?_
  refine g_get S hI hP uX7 rfl (fs := _) (hb_s.lt 0 (by decide)) (hb_s.2 0 (by decide)) 0 (by decide) q140 rfl (v := .ref (ad (b + 1))) rfl dX7_drapedHeight_2 ?_
  refine lv_iload_n hx hb dX7_drapedHeight_5 rfl (lv_at hl 1 rfl) ?_
  refine g_iald S hI hP (f := fun j => nI (ht j)) (hb_s.lt 1 (by decide)) (hb_s.2 1 (by decide)) (c) (hc) (by decide) dX7_drapedHeight_6 ?_
  refine g_imul S dX7_drapedHeight_7 ?_
  refine lv_istore_n (lv' := [(2, .int (nI (2 * (ht c)))), (0, .ref (ad (b))), (1, .int (nI (c)))]) hx hb dX7_drapedHeight_8 rfl hl (by decide) rfl (fun ls hl => ?_)
  refine g_iconst S 2 dX7_drapedHeight_9 (by decide +kernel) ?_
  refine lv_istore_n (lv' := [(3, .int (nI (2))), (2, .int (nI (2 * (ht c)))), (0, .ref (ad (b))), (1, .int (nI (c)))]) hx hb dX7_drapedHeight_10 rfl hl (by decide) rfl (fun ls hl => ?_)
  refine g_iconst S 0 dX7_drapedHeight_11 (by decide +kernel) ?_
  refine lv_istore (lv' := [(4, .int (nI (0))), (3, .int (nI (2))), (2, .int (nI (2 * (ht c)))), (0, .ref (ad (b))), (1, .int (nI (c)))]) hx hb dX7_drapedHeight_12 hl (by decide) rfl (fun ls hl => ?_)
  have loop1 : ∀ (n : Nat) (d : Nat), 4 - d < n → (d ≤ 4) → ∀ (H : Heap) (locs : List Loc), gP E ad N w H → va_S (gA E) s.heap H locs → ∀ (ls : Array Slot), lv_has ls 6 [(4, .int (nI (d))), (3, .int (nI (drp c d))), (2, .int (nI (drs ht c d))), (1, .int (nI (c))), (0, .ref (ad (b)))] → W p l e (headSpec (lw_ws yX7_drapedHeight cX7_drapedHeight 6 (some .int)) ({ frames := 2, cells := 0, slots := 0, locals := 44 } : Room)).room s m ([.ref (ad (b)), .int (nI (c))] : List Value).toArray below meth cd H locs 0 0 (MQ below (va_Qi (fun r w' => r = nI (drH ht c) ∧ w' = w) (gB E ad N) (gA E)) ([.ref (ad (b)), .int (nI (c))] : List Value).toArray s 0 0 (gA E)) (F0 m 14 ls []) := by
    intro n
    induction n with
    | zero => intro d hmeas; omega
    | succ n ih =>
      intro d hmeas hd H locs hP hS ls hl
      have hp := drp_b c d
      have hs1 := drs_b hc hht d
      refine lv_iload hx hb dX7_drapedHeight_14 (lv_at hl 0 rfl) ?_
      refine g_iconst S 4 dX7_drapedHeight_16 (by decide +kernel) ?_
      refine g_ge S (a := d) (b := 4) (by omega) (by omega) (tgt := 53) dX7_drapedHeight_17 (by decide) (fun hd4 => ?_) (fun hd4 => ?_)
      · have e_d : d = 4 := by omega
        subst e_d
        refine lv_iload_n hx hb dX7_drapedHeight_53 rfl (lv_at hl 2 rfl) ?_
        refine lv_iload_n hx hb dX7_drapedHeight_54 rfl (lv_at hl 1 rfl) ?_
        refine g_idiv S (by omega) (by omega) (by omega) dX7_drapedHeight_55 ?_
        exact g_iret S hr hlocks hP hS (⟨rfl, rfl⟩) (fun _ _ => rfl) (Nat.le_of_ble_eq_true rfl) (Nat.le_of_ble_eq_true rfl) dX7_drapedHeight_56
      · refine lv_iload_n hx hb dX7_drapedHeight_20 rfl (lv_at hl 3 rfl) ?_
        refine lv_iload hx hb dX7_drapedHeight_21 (lv_at hl 0 rfl) ?_
        refine g_roi (g_runSN S hI hP hS (k := 2) (As := [.int (nI (c)), .int (nI (d))]) (rest := []) (mX12_neighbour l c d hc hd4) q674 q675 q82 q676 rfl rfl (by decide +kernel) ⟨Nat.le_of_ble_eq_true rfl, Nat.le_of_ble_eq_true rfl⟩ rfl hl.1 rfl (Nat.le_of_ble_eq_true rfl) ⟨(Nat.le_of_ble_eq_true rfl), (Nat.le_of_ble_eq_true rfl)⟩ dX7_drapedHeight_23) hS (fun H locs hP hS => ?_)
        refine lv_istore (lv' := [(5, .int (oI (nb c d))), (4, .int (nI (d))), (3, .int (nI (drp c d))), (2, .int (nI (drs ht c d))), (1, .int (nI (c))), (0, .ref (ad (b)))]) hx hb dX7_drapedHeight_26 hl (by decide) rfl (fun ls hl => ?_)
        refine lv_iload hx hb dX7_drapedHeight_28 (lv_at hl 0 rfl) ?_
        refine lv_iconst (v := -1) hx hb dX7_drapedHeight_30 (by decide +kernel) ?_
        refine g_oeq S (o := nb c d) (fun k hk => Nat.lt_trans (nb_lt hc hk) (by decide)) (tgt := 47) dX7_drapedHeight_31 (by decide) (fun hn => ?_) (fun hn_k hn => ?_)
        · refine lv_iinc (v := nI (d + 1)) (lv' := [(4, .int (nI (d + 1))), (5, .int (oI (nb c d))), (3, .int (nI (drp c d))), (2, .int (nI (drs ht c d))), (1, .int (nI (c))), (0, .ref (ad (b)))]) hx hb dX7_drapedHeight_47 hl (k := 1) rfl (g_inc _ 1 (by decide +kernel)) (by decide) rfl (fun ls hl => ?_)
          refine lv_goto (tgt := 14) hx hb dX7_drapedHeight_50 (by decide) ?_
          have hl : lv_has ls 6 [(4, .int (nI (d + 1))), (5, .int (oI (nb c d))), (3, .int (nI (drp c d))), (2, .int (nI (drs ht c (d + 1)))), (1, .int (nI (c))), (0, .ref (ad (b)))] := by rw [show drs ht c (d + 1) = drs ht c d by simp [drs, hn]]; exact hl
          have hl : lv_has ls 6 [(4, .int (nI (d + 1))), (5, .int (oI (nb c d))), (3, .int (nI (drp c (d + 1)))), (2, .int (nI (drs ht c (d + 1)))), (1, .int (nI (c))), (0, .ref (ad (b)))] := by rw [show drp c (d + 1) = drp c d by simp [drp, hn]]; exact hl
          exact ih (d + 1) (by omega) (by omega) _ _ hP hS ls (lv_sub hl [0, 2, 3, 4, 5] rfl)
        · have hk36 := nb_lt hc hn
          have z1 := hht hn_k hk36
          have hl : lv_has ls 6 [(5, .int (nI (hn_k))), (4, .int (nI (d))), (3, .int (nI (drp c d))), (2, .int (nI (drs ht c d))), (1, .int (nI (c))), (0, .ref (ad (b)))] := by rw [hn] at hl; exact hl
          refine lv_iload_n hx hb dX7_drapedHeight_34 rfl (lv_at hl 3 rfl) ?_
          refine lv_aload_n hx hb dX7_drapedHeight_35 rfl (lv_at hl 5 rfl) ?_
          refine g_get S hI hP uX7 rfl (fs := _) (hb_s.lt 0 (by decide)) (hb_s.2 0 (by decide)) 0 (by decide) q140 rfl (v := .ref (ad (b + 1))) rfl dX7_drapedHeight_36 ?_
          refine lv_iload hx hb dX7_drapedHeight_39 (lv_at hl 0 rfl) ?_
          refine g_iald S hI hP (f := fun j => nI (ht j)) (hb_s.lt 1 (by decide)) (hb_s.2 1 (by decide)) (hn_k) (hk36) (by decide) dX7_drapedHeight_41 ?_
          refine g_iadd S dX7_drapedHeight_42 ?_
          refine lv_istore_n (lv' := [(2, .int (nI (drs ht c d + (ht hn_k)))), (5, .int (nI (hn_k))), (4, .int (nI (d))), (3, .int (nI (drp c d))), (1, .int (nI (c))), (0, .ref (ad (b)))]) hx hb dX7_drapedHeight_43 rfl hl (by decide) rfl (fun ls hl => ?_)
          refine lv_iinc (v := nI (drp c d + 1)) (lv' := [(3, .int (nI (drp c d + 1))), (2, .int (nI (drs ht c d + (ht hn_k)))), (5, .int (nI (hn_k))), (4, .int (nI (d))), (1, .int (nI (c))), (0, .ref (ad (b)))]) hx hb dX7_drapedHeight_44 hl (k := 3) rfl (g_inc _ 1 (by decide +kernel)) (by decide) rfl (fun ls hl => ?_)
          refine lv_iinc (v := nI (d + 1)) (lv' := [(4, .int (nI (d + 1))), (3, .int (nI (drp c d + 1))), (2, .int (nI (drs ht c d + (ht hn_k)))), (5, .int (nI (hn_k))), (1, .int (nI (c))), (0, .ref (ad (b)))]) hx hb dX7_drapedHeight_47 hl (k := 3) rfl (g_inc _ 1 (by decide +kernel)) (by decide) rfl (fun ls hl => ?_)
          refine lv_goto (tgt := 14) hx hb dX7_drapedHeight_50 (by decide) ?_
          have hl : lv_has ls 6 [(4, .int (nI (d + 1))), (3, .int (nI (drp c d + 1))), (2, .int (nI (drs ht c (d + 1)))), (5, .int (nI (hn_k))), (1, .int (nI (c))), (0, .ref (ad (b)))] := by rw [show drs ht c (d + 1) = drs ht c d + ht hn_k by simp [drs, hn]]; exact hl
          have hl : lv_has ls 6 [(4, .int (nI (d + 1))), (3, .int (nI (drp c (d + 1)))), (2, .int (nI (drs ht c (d + 1)))), (5, .int (nI (hn_k))), (1, .int (nI (c))), (0, .ref (ad (b)))] := by rw [show drp c (d + 1) = drp c d + 1 by simp [drp, hn]]; exact hl
          exact ih (d + 1) (by omega) (by omega) _ _ hP hS ls (lv_sub hl [0, 1, 2, 4, 5] rfl)
  exact loop1 (4 - (0) + 1) (0) (Nat.lt_succ_self _) (by omega) _ _ hP hS ls (lv_sub hl [0, 1, 2, 4, 3] rfl)
set_option maxHeartbeats 4000000 in
set_option maxRecDepth 100000 in
/-- a moth's flight -/
theorem mX7_flightEnd (l : Launch) {E : gE} {ad : Nat → Nat} {N : Nat} {w : Nat → va_E} (b : Nat) (ht dr pg wt wr mo : Nat → Nat) (mc ni po dn : Nat) (c : Nat) (hb_s : bkP N w b 7 (SHC E ad b ht dr pg wt wr mo mc ni po dn)) (hc : c < 36) (hwr : ∀ k, k < 36 → wr k ≤ 3) (hht : ∀ k, k < 36 → ht k ≤ 99) (hm : mc ≤ 4) (hmo : ∀ k, k < mc → mo k < 36) : gMi l yX7_flightEnd (lw_ws yX7_flightEnd cX7_flightEnd 5 (some .int)) ({ frames := 2, cells := 0, slots := 0, locals := 44 } : Room) E ad N w [.ref (ad (b)), .int (nI (c))] (fun r w' => r = nI (flyE ht wr mo mc c) ∧ w' = w) 0 0 := by
  refine Met.ofW (cc := cX7_flightEnd) (maxL := 5) (ret := (some .int)) (by decide) rfl ?_
  intro p e s m args below meth cd s₁ B hml hv
  obtain ⟨rfl, hI, hP⟩ := hv
  obtain ⟨S, hr, hlocks⟩ := gPre (ws := []) B hml (C := RX7) rfl
  have hx := S.1
  have hb := S.2.1
  have hS : va_S (gA E) s.heap s.heap [] := va_S.rf
  have hl := lv_entry ([.ref (ad (b)), .int (nI (c))]) (n := 5) (Nat.le_of_ble_eq_true rfl)
  rw [lg_entry_eq]
  generalize (lg_sl ([.ref (ad (b)), .int (nI (c))]) ++ List.replicate (5 - (lg_sl ([.ref (ad (b)), .int (nI (c))])).length) Slot.unset).toArray = ls at hl ⊢
  have hl : lv_has ls 5 [(0, .ref (ad (b))), (1, .int (nI (c)))] := hl
  refine lv_iconst (v := -1) hx hb dX7_flightEnd_0 (by decide +kernel) ?_
  refine lv_istore_n (lv' := [(2, .int (-1)), (0, .ref (ad (b))), (1, .int (nI (c)))]) hx hb dX7_flightEnd_1 rfl hl (by decide) rfl (fun ls hl => ?_)
  refine g_iconst S 0 dX7_flightEnd_2 (by decide +kernel) ?_
  refine lv_istore_n (lv' := [(3, .int (nI (0))), (2, .int (-1)), (0, .ref (ad (b))), (1, .int (nI (c)))]) hx hb dX7_flightEnd_3 rfl hl (by decide) rfl (fun ls hl => ?_)
  have loop1 : ∀ (n : Nat) (d : Nat), 4 - d < n → (d ≤ 4) → ∀ (H : Heap) (locs : List Loc), gP E ad N w H → va_S (gA E) s.heap H locs → ∀ (ls : Array Slot), lv_has ls 5 [(3, .int (nI (d))), (2, .int (oI (fly ht wr mo mc c d))), (1, .int (nI (c))), (0, .ref (ad (b)))] → W p l e (headSpec (lw_ws yX7_flightEnd cX7_flightEnd 5 (some .int)) ({ frames := 2, cells := 0, slots := 0, locals := 44 } : Room)).room s m ([.ref (ad (b)), .int (nI (c))] : List Value).toArray below meth cd H locs 0 0 (MQ below (va_Qi (fun r w' => r = nI (flyE ht wr mo mc c) ∧ w' = w) (gB E ad N) (gA E)) ([.ref (ad (b)), .int (nI (c))] : List Value).toArray s 0 0 (gA E)) (F0 m 4 ls []) := by
    intro n
    induction n with
    | zero => intro d hmeas; omega
    | succ n ih =>
      intro d hmeas hd H locs hP hS ls hl
      refine lv_iload_n hx hb dX7_flightEnd_4 rfl (lv_at hl 0 rfl) ?_
      refine g_iconst S 4 dX7_flightEnd_5 (by decide +kernel) ?_
      refine g_ge S (a := d) (b := 4) (by omega) (by omega) (tgt := 71) dX7_flightEnd_6 (by decide) (fun hd4 => ?_) (fun hd4 => ?_)
      · have e_d : d = 4 := by omega
        subst e_d
        refine lv_iload_n hx hb dX7_flightEnd_71 rfl (lv_at hl 1 rfl) ?_
        refine lv_iconst (v := -1) hx hb dX7_flightEnd_72 (by decide +kernel) ?_
        refine g_one S (o := fly ht wr mo mc c 4) (fun k hk => Nat.lt_trans (fly_lt hc hk) (by decide)) (tgt := 80) dX7_flightEnd_73 (by decide) (fun hq_k hq => ?_) (fun hq => ?_)
        · have hl : lv_has ls 5 [(3, .int (nI (4))), (2, .int (nI (hq_k))), (1, .int (nI (c))), (0, .ref (ad (b)))] := by rw [hq] at hl; exact hl
          refine lv_iload_n hx hb dX7_flightEnd_80 rfl (lv_at hl 1 rfl) ?_
          exact g_iret S hr hlocks hP hS (⟨by rw [flyE, hq]; rfl, rfl⟩) (fun _ _ => rfl) (Nat.le_of_ble_eq_true rfl) (Nat.le_of_ble_eq_true rfl) dX7_flightEnd_81
        · refine lv_iload_n hx hb dX7_flightEnd_76 rfl (lv_at hl 2 rfl) ?_
          refine lv_goto (tgt := 81) hx hb dX7_flightEnd_77 (by decide) ?_
          exact g_iret S hr hlocks hP hS (⟨by rw [flyE, hq]; rfl, rfl⟩) (fun _ _ => rfl) (Nat.le_of_ble_eq_true rfl) (Nat.le_of_ble_eq_true rfl) dX7_flightEnd_81
      · refine lv_iload_n hx hb dX7_flightEnd_9 rfl (lv_at hl 2 rfl) ?_
        refine lv_iload_n hx hb dX7_flightEnd_10 rfl (lv_at hl 0 rfl) ?_
        refine g_roi (g_runSN S hI hP hS (k := 2) (As := [.int (nI (c)), .int (nI (d))]) (rest := []) (mX12_neighbour l c d hc hd4) q674 q675 q82 q676 rfl rfl (by decide +kernel) ⟨Nat.le_of_ble_eq_true rfl, Nat.le_of_ble_eq_true rfl⟩ rfl hl.1 rfl (Nat.le_of_ble_eq_true rfl) ⟨(Nat.le_of_ble_eq_true rfl), (Nat.le_of_ble_eq_true rfl)⟩ dX7_flightEnd_11) hS (fun H locs hP hS => ?_)
        refine lv_istore (lv' := [(4, .int (oI (nb c d))), (3, .int (nI (d))), (2, .int (oI (fly ht wr mo mc c d))), (1, .int (nI (c))), (0, .ref (ad (b)))]) hx hb dX7_flightEnd_14 hl (by decide) rfl (fun ls hl => ?_)
        refine lv_iload hx hb dX7_flightEnd_16 (lv_at hl 0 rfl) ?_
        refine lv_iconst (v := -1) hx hb dX7_flightEnd_18 (by decide +kernel) ?_
        refine g_oeq S (o := nb c d) (fun k hk => Nat.lt_trans (nb_lt hc hk) (by decide)) (tgt := 65) dX7_flightEnd_19 (by decide) (fun hn => ?_) (fun hn_k hn => ?_)
        · refine lv_iinc (v := nI (d + 1)) (lv' := [(3, .int (nI (d + 1))), (4, .int (oI (nb c d))), (2, .int (oI (fly ht wr mo mc c d))), (1, .int (nI (c))), (0, .ref (ad (b)))]) hx hb dX7_flightEnd_65 hl (k := 1) rfl (g_inc _ 1 (by decide +kernel)) (by decide) rfl (fun ls hl => ?_)
          refine lv_goto (tgt := 4) hx hb dX7_flightEnd_68 (by decide) ?_
          have hl : lv_has ls 5 [(3, .int (nI (d + 1))), (4, .int (oI (nb c d))), (2, .int (oI (fly ht wr mo mc c (d + 1)))), (1, .int (nI (c))), (0, .ref (ad (b)))] := by rw [show fly ht wr mo mc c (d + 1) = fly ht wr mo mc c d by simp [fly, hn]]; exact hl
          exact ih (d + 1) (by omega) (by omega) _ _ hP hS ls (lv_sub hl [0, 2, 3, 4] rfl)
        · have hk36 := nb_lt hc hn
          have z1 := hht hn_k hk36
          have hl : lv_has ls 5 [(4, .int (nI (hn_k))), (3, .int (nI (d))), (2, .int (oI (fly ht wr mo mc c d))), (1, .int (nI (c))), (0, .ref (ad (b)))] := by rw [hn] at hl; exact hl
          refine lv_aload_n hx hb dX7_flightEnd_22 rfl (lv_at hl 4 rfl) ?_
          refine lv_iload hx hb dX7_flightEnd_23 (lv_at hl 0 rfl) ?_
          refine g_roi (g_runV S hI hP hS (k := 1) (As := [.int (nI (hn_k))]) (rest := []) (mX7_hasHole l b ht dr pg wt wr mo mc ni po dn hn_k hb_s hk36 (hwr hn_k hk36)) q505 q506 q507 q83 q508 rfl rfl (by decide +kernel) ⟨Nat.le_of_ble_eq_true rfl, Nat.le_of_ble_eq_true rfl⟩ rfl (hb_s.lt 0 (by decide)) (hb_s.2 0 (by decide)) rfl hl.1 rfl (Nat.le_of_ble_eq_true rfl) ⟨(Nat.le_of_ble_eq_true rfl), (Nat.le_of_ble_eq_true rfl)⟩ dX7_flightEnd_25) hS (fun H locs hP hS => ?_)
          refine g_bne S (b := decide (3 ≤ wr hn_k)) (tgt := 65) dX7_flightEnd_28 (by decide) (fun hh => ?_) (fun hh => ?_)
          · refine lv_iinc (v := nI (d + 1)) (lv' := [(3, .int (nI (d + 1))), (4, .int (nI (hn_k))), (2, .int (oI (fly ht wr mo mc c d))), (1, .int (nI (c))), (0, .ref (ad (b)))]) hx hb dX7_flightEnd_65 hl (k := 1) rfl (g_inc _ 1 (by decide +kernel)) (by decide) rfl (fun ls hl => ?_)
            refine lv_goto (tgt := 4) hx hb dX7_flightEnd_68 (by decide) ?_
            have hl : lv_has ls 5 [(3, .int (nI (d + 1))), (4, .int (nI (hn_k))), (2, .int (oI (fly ht wr mo mc c (d + 1)))), (1, .int (nI (c))), (0, .ref (ad (b)))] := by rw [show fly ht wr mo mc c (d + 1) = fly ht wr mo mc c d by simp [fly, hn, of_decide_eq_true hh]]; exact hl
            exact ih (d + 1) (by omega) (by omega) _ _ hP hS ls (lv_sub hl [0, 2, 3, 4] rfl)
          · have hh2 : ¬ 3 ≤ wr hn_k := of_decide_eq_false hh
            refine lv_aload_n hx hb dX7_flightEnd_31 rfl (lv_at hl 4 rfl) ?_
            refine lv_iload hx hb dX7_flightEnd_32 (lv_at hl 0 rfl) ?_
            refine g_roi (g_runV S hI hP hS (k := 1) (As := [.int (nI (hn_k))]) (rest := []) (mX7_mothOn l b ht dr pg wt wr mo mc ni po dn hn_k hb_s hk36 hm hmo) q509 q510 q511 q83 q512 rfl rfl (by decide +kernel) ⟨Nat.le_of_ble_eq_true rfl, Nat.le_of_ble_eq_true rfl⟩ rfl (hb_s.lt 0 (by decide)) (hb_s.2 0 (by decide)) rfl hl.1 rfl (Nat.le_of_ble_eq_true rfl) ⟨(Nat.le_of_ble_eq_true rfl), (Nat.le_of_ble_eq_true rfl)⟩ dX7_flightEnd_34) hS (fun H locs hP hS => ?_)
            refine lv_iconst (v := -1) hx hb dX7_flightEnd_37 (by decide +kernel) ?_
            refine g_one S (o := fstN (fun j => mo j == hn_k) mc) (fun k hk => by have := fstN_lt hk; omega) (tgt := 65) dX7_flightEnd_38 (by decide) (fun ho_k ho => ?_) (fun ho => ?_)
            · refine lv_iinc (v := nI (d + 1)) (lv' := [(3, .int (nI (d + 1))), (4, .int (nI (hn_k))), (2, .int (oI (fly ht wr mo mc c d))), (1, .int (nI (c))), (0, .ref (ad (b)))]) hx hb dX7_flightEnd_65 hl (k := 1) rfl (g_inc _ 1 (by decide +kernel)) (by decide) rfl (fun ls hl => ?_)
              refine lv_goto (tgt := 4) hx hb dX7_flightEnd_68 (by decide) ?_
              have hl : lv_has ls 5 [(3, .int (nI (d + 1))), (4, .int (nI (hn_k))), (2, .int (oI (fly ht wr mo mc c (d + 1)))), (1, .int (nI (c))), (0, .ref (ad (b)))] := by rw [show fly ht wr mo mc c (d + 1) = fly ht wr mo mc c d by simp [fly, hn, hh2, ho]]; exact hl
              exact ih (d + 1) (by omega) (by omega) _ _ hP hS ls (lv_sub hl [0, 2, 3, 4] rfl)
            · refine lv_iload_n hx hb dX7_flightEnd_41 rfl (lv_at hl 2 rfl) ?_
              refine lv_iconst (v := -1) hx hb dX7_flightEnd_42 (by decide +kernel) ?_
              refine g_oeq S (o := fly ht wr mo mc c d) (fun k hk => Nat.lt_trans (fly_lt hc hk) (by decide)) (tgt := 62) dX7_flightEnd_43 (by decide) (fun hq => ?_) (fun hq_k hq => ?_)
              · refine lv_iload hx hb dX7_flightEnd_62 (lv_at hl 0 rfl) ?_
                refine lv_istore_n (lv' := [(2, .int (nI (hn_k))), (4, .int (nI (hn_k))), (3, .int (nI (d))), (1, .int (nI (c))), (0, .ref (ad (b)))]) hx hb dX7_flightEnd_64 rfl hl (by decide) rfl (fun ls hl => ?_)
                refine lv_iinc (v := nI (d + 1)) (lv' := [(3, .int (nI (d + 1))), (2, .int (nI (hn_k))), (4, .int (nI (hn_k))), (1, .int (nI (c))), (0, .ref (ad (b)))]) hx hb dX7_flightEnd_65 hl (k := 2) rfl (g_inc _ 1 (by decide +kernel)) (by decide) rfl (fun ls hl => ?_)
                refine lv_goto (tgt := 4) hx hb dX7_flightEnd_68 (by decide) ?_
                have hl : lv_has ls 5 [(3, .int (nI (d + 1))), (2, .int (oI (fly ht wr mo mc c (d + 1)))), (4, .int (nI (hn_k))), (1, .int (nI (c))), (0, .ref (ad (b)))] := by rw [show fly ht wr mo mc c (d + 1) = some hn_k by simp [fly, hn, hh2, ho, hq]]; exact hl
                exact ih (d + 1) (by omega) (by omega) _ _ hP hS ls (lv_sub hl [0, 1, 3, 4] rfl)
              · have hq36 := fly_lt hc hq
                have z2 := hht hq_k hq36
                have hl : lv_has ls 5 [(4, .int (nI (hn_k))), (3, .int (nI (d))), (2, .int (nI (hq_k))), (1, .int (nI (c))), (0, .ref (ad (b)))] := by rw [hq] at hl; exact hl
                refine lv_aload_n hx hb dX7_flightEnd_46 rfl (lv_at hl 4 rfl) ?_
                refine g_get S hI hP uX7 rfl (fs := _) (hb_s.lt 0 (by decide)) (hb_s.2 0 (by decide)) 0 (by decide) q140 rfl (v := .ref (ad (b + 1))) rfl dX7_flightEnd_47 ?_
                refine lv_iload hx hb dX7_flightEnd_50 (lv_at hl 0 rfl) ?_
                refine g_iald S hI hP (f := fun j => nI (ht j)) (hb_s.lt 1 (by decide)) (hb_s.2 1 (by decide)) (hn_k) (hk36) (by decide) dX7_flightEnd_52 ?_
                refine lv_aload_n hx hb dX7_flightEnd_53 rfl (lv_at hl 4 rfl) ?_
                refine g_get S hI hP uX7 rfl (fs := _) (hb_s.lt 0 (by decide)) (hb_s.2 0 (by decide)) 0 (by decide) q140 rfl (v := .ref (ad (b + 1))) rfl dX7_flightEnd_54 ?_
                refine lv_iload_n hx hb dX7_flightEnd_57 rfl (lv_at hl 2 rfl) ?_
                refine g_iald S hI hP (f := fun j => nI (ht j)) (hb_s.lt 1 (by decide)) (hb_s.2 1 (by decide)) (hq_k) (hq36) (by decide) dX7_flightEnd_58 ?_
                refine g_le S (a := ht hn_k) (b := ht hq_k) (by omega) (by omega) (tgt := 65) dX7_flightEnd_59 (by decide) (fun hv => ?_) (fun hv => ?_)
                · refine lv_iinc (v := nI (d + 1)) (lv' := [(3, .int (nI (d + 1))), (4, .int (nI (hn_k))), (2, .int (nI (hq_k))), (1, .int (nI (c))), (0, .ref (ad (b)))]) hx hb dX7_flightEnd_65 hl (k := 1) rfl (g_inc _ 1 (by decide +kernel)) (by decide) rfl (fun ls hl => ?_)
                  refine lv_goto (tgt := 4) hx hb dX7_flightEnd_68 (by decide) ?_
                  have hl : lv_has ls 5 [(3, .int (nI (d + 1))), (4, .int (nI (hn_k))), (2, .int (oI (fly ht wr mo mc c (d + 1)))), (1, .int (nI (c))), (0, .ref (ad (b)))] := by rw [show fly ht wr mo mc c (d + 1) = some hq_k by simp only [fly, hn, ho, hq]; rw [if_neg hh2, if_neg (by omega)]]; exact hl
                  exact ih (d + 1) (by omega) (by omega) _ _ hP hS ls (lv_sub hl [0, 2, 3, 4] rfl)
                · refine lv_iload hx hb dX7_flightEnd_62 (lv_at hl 0 rfl) ?_
                  refine lv_istore_n (lv' := [(2, .int (nI (hn_k))), (4, .int (nI (hn_k))), (3, .int (nI (d))), (1, .int (nI (c))), (0, .ref (ad (b)))]) hx hb dX7_flightEnd_64 rfl hl (by decide) rfl (fun ls hl => ?_)
                  refine lv_iinc (v := nI (d + 1)) (lv' := [(3, .int (nI (d + 1))), (2, .int (nI (hn_k))), (4, .int (nI (hn_k))), (1, .int (nI (c))), (0, .ref (ad (b)))]) hx hb dX7_flightEnd_65 hl (k := 2) rfl (g_inc _ 1 (by decide +kernel)) (by decide) rfl (fun ls hl => ?_)
                  refine lv_goto (tgt := 4) hx hb dX7_flightEnd_68 (by decide) ?_
                  have hl : lv_has ls 5 [(3, .int (nI (d + 1))), (2, .int (oI (fly ht wr mo mc c (d + 1)))), (4, .int (nI (hn_k))), (1, .int (nI (c))), (0, .ref (ad (b)))] := by rw [show fly ht wr mo mc c (d + 1) = some hn_k by simp only [fly, hn, ho, hq]; rw [if_neg hh2, if_pos hv]]; exact hl
                  exact ih (d + 1) (by omega) (by omega) _ _ hP hS ls (lv_sub hl [0, 1, 3, 4] rfl)
  exact loop1 (4 - (0) + 1) (0) (Nat.lt_succ_self _) (by omega) _ _ hP hS ls (lv_sub hl [0, 1, 3, 2] rfl)
set_option maxHeartbeats 4000000 in
set_option maxRecDepth 100000 in
/-- a height is set -/
theorem mX7_replaceHeight (l : Launch) {E : gE} {ad : Nat → Nat} {N : Nat} {w : Nat → va_E} (b : Nat) (ht dr pg wt wr mo : Nat → Nat) (mc ni po dn : Nat) (c v : Nat) (hb_s : bkP N w b 7 (SHC E ad b ht dr pg wt wr mo mc ni po dn)) (hc : c < 36) : gMi l yX7_replaceHeight (lw_ws yX7_replaceHeight cX7_replaceHeight 4 (some .int)) ({ frames := 0, cells := 0, slots := 0, locals := 0 } : Room) E ad N w [.ref (ad (b)), .int (nI (c)), .int (nI (v))] (fun r w' => r = nI (ht c) ∧ bkP N w' b 7 (SHC E ad b (va_up ht c v) dr pg wt wr mo mc ni po dn) ∧ gFr (gIn b 7) w w') 0 0 := by
  refine Met.ofW (cc := cX7_replaceHeight) (maxL := 4) (ret := (some .int)) (by decide) rfl ?_
  intro p e s m args below meth cd s₁ B hml hv
  obtain ⟨rfl, hI, hP⟩ := hv
  obtain ⟨S, hr, hlocks⟩ := gPre (ws := []) B hml (C := RX7) rfl
  have hx := S.1
  have hb := S.2.1
  have hS : va_S (gA E) s.heap s.heap [] := va_S.rf
  have hfr : gFr (gIn b 7) w w := gFr.rf
  have hl := lv_entry ([.ref (ad (b)), .int (nI (c)), .int (nI (v))]) (n := 4) (Nat.le_of_ble_eq_true rfl)
  rw [lg_entry_eq]
  generalize (lg_sl ([.ref (ad (b)), .int (nI (c)), .int (nI (v))]) ++ List.replicate (4 - (lg_sl ([.ref (ad (b)), .int (nI (c)), .int (nI (v))])).length) Slot.unset).toArray = ls at hl ⊢
  have hl : lv_has ls 4 [(0, .ref (ad (b))), (1, .int (nI (c))), (2, .int (nI (v)))] := hl
  refine lv_aload_n hx hb dX7_replaceHeight_0 rfl (lv_at hl 0 rfl) ?_
  refine g_get S hI hP uX7 rfl (fs := _) (hb_s.lt 0 (by decide)) (hb_s.2 0 (by decide)) 0 (by decide) q140 rfl (v := .ref (ad (b + 1))) rfl dX7_replaceHeight_1 ?_
  refine lv_iload_n hx hb dX7_replaceHeight_4 rfl (lv_at hl 1 rfl) ?_
  refine g_iald S hI hP (f := fun j => nI (ht j)) (hb_s.lt 1 (by decide)) (hb_s.2 1 (by decide)) (c) (hc) (by decide) dX7_replaceHeight_5 ?_
  refine lv_istore_n (lv' := [(3, .int (nI (ht c))), (0, .ref (ad (b))), (1, .int (nI (c))), (2, .int (nI (v)))]) hx hb dX7_replaceHeight_6 rfl hl (by decide) rfl (fun ls hl => ?_)
  refine lv_aload_n hx hb dX7_replaceHeight_7 rfl (lv_at hl 1 rfl) ?_
  refine g_get S hI hP uX7 rfl (fs := _) (hb_s.lt 0 (by decide)) (hb_s.2 0 (by decide)) 0 (by decide) q140 rfl (v := .ref (ad (b + 1))) rfl dX7_replaceHeight_8 ?_
  refine lv_iload_n hx hb dX7_replaceHeight_11 rfl (lv_at hl 2 rfl) ?_
  refine lv_iload_n hx hb dX7_replaceHeight_12 rfl (lv_at hl 3 rfl) ?_
  refine g_iastN S hI hP hS (f := ht) (x := v) (hb_s.lt 1 (by decide)) (hb_s.2 1 (by decide)) (c) (hc) (by decide) dX7_replaceHeight_13 (fun H locs hP hS => ?_)
  have hP : gP E ad N (va_up _ (b + 1) (SHC E ad b (va_up ht c v) dr pg wt wr mo mc ni po dn 1)) H := hP
  have hb1 : bkP N (va_up _ (b + 1) (SHC E ad b (va_up ht c v) dr pg wt wr mo mc ni po dn 1)) b 7 (SHC E ad b (va_up ht c v) dr pg wt wr mo mc ni po dn) := SH_setA0 hb_s _
  have hfr := hfr.up (p := b + 1) (e := SHC E ad b (va_up ht c v) dr pg wt wr mo mc ni po dn 1) (by show _ ∧ _; omega)
  refine lv_iload_n hx hb dX7_replaceHeight_14 rfl (lv_at hl 0 rfl) ?_
  exact g_iret S hr hlocks hP hS (⟨rfl, hb1, hfr⟩) (fun _ _ => rfl) (Nat.le_of_ble_eq_true rfl) (Nat.le_of_ble_eq_true rfl) dX7_replaceHeight_15
set_option maxHeartbeats 4000000 in
set_option maxRecDepth 100000 in
/-- a cell is patched -/
theorem mX7_patchUp (l : Launch) {E : gE} {ad : Nat → Nat} {N : Nat} {w : Nat → va_E} (b : Nat) (ht dr pg wt wr mo : Nat → Nat) (mc ni po dn : Nat) (c : Nat) (hb_s : bkP N w b 7 (SHC E ad b ht dr pg wt wr mo mc ni po dn)) (hc : c < 36) : gMi l yX7_patchUp (lw_ws yX7_patchUp cX7_patchUp 3 (some .int)) ({ frames := 0, cells := 0, slots := 0, locals := 0 } : Room) E ad N w [.ref (ad (b)), .int (nI (c))] (fun r w' => r = nI (wr c) ∧ bkP N w' b 7 (SHC E ad b ht dr pg wt (va_up wr c 0) mo mc ni po dn) ∧ gFr (gIn b 7) w w') 0 0 := by
  refine Met.ofW (cc := cX7_patchUp) (maxL := 3) (ret := (some .int)) (by decide) rfl ?_
  intro p e s m args below meth cd s₁ B hml hv
  obtain ⟨rfl, hI, hP⟩ := hv
  obtain ⟨S, hr, hlocks⟩ := gPre (ws := []) B hml (C := RX7) rfl
  have hx := S.1
  have hb := S.2.1
  have hS : va_S (gA E) s.heap s.heap [] := va_S.rf
  have hfr : gFr (gIn b 7) w w := gFr.rf
  have hl := lv_entry ([.ref (ad (b)), .int (nI (c))]) (n := 3) (Nat.le_of_ble_eq_true rfl)
  rw [lg_entry_eq]
  generalize (lg_sl ([.ref (ad (b)), .int (nI (c))]) ++ List.replicate (3 - (lg_sl ([.ref (ad (b)), .int (nI (c))])).length) Slot.unset).toArray = ls at hl ⊢
  have hl : lv_has ls 3 [(0, .ref (ad (b))), (1, .int (nI (c)))] := hl
  refine lv_aload_n hx hb dX7_patchUp_0 rfl (lv_at hl 0 rfl) ?_
  refine g_get S hI hP uX7 rfl (fs := _) (hb_s.lt 0 (by decide)) (hb_s.2 0 (by decide)) 4 (by decide) q149 rfl (v := .ref (ad (b + 5))) rfl dX7_patchUp_1 ?_
  refine lv_iload_n hx hb dX7_patchUp_4 rfl (lv_at hl 1 rfl) ?_
  refine g_iald S hI hP (f := fun j => nI (wr j)) (hb_s.lt 5 (by decide)) (hb_s.2 5 (by decide)) (c) (hc) (by decide) dX7_patchUp_5 ?_
  refine lv_istore_n (lv' := [(2, .int (nI (wr c))), (0, .ref (ad (b))), (1, .int (nI (c)))]) hx hb dX7_patchUp_6 rfl hl (by decide) rfl (fun ls hl => ?_)
  refine lv_aload_n hx hb dX7_patchUp_7 rfl (lv_at hl 1 rfl) ?_
  refine g_get S hI hP uX7 rfl (fs := _) (hb_s.lt 0 (by decide)) (hb_s.2 0 (by decide)) 4 (by decide) q149 rfl (v := .ref (ad (b + 5))) rfl dX7_patchUp_8 ?_
  refine lv_iload_n hx hb dX7_patchUp_11 rfl (lv_at hl 2 rfl) ?_
  refine g_iconst S 0 dX7_patchUp_12 (by decide +kernel) ?_
  refine g_iastN S hI hP hS (f := wr) (x := 0) (hb_s.lt 5 (by decide)) (hb_s.2 5 (by decide)) (c) (hc) (by decide) dX7_patchUp_13 (fun H locs hP hS => ?_)
  have hP : gP E ad N (va_up _ (b + 5) (SHC E ad b ht dr pg wt (va_up wr c 0) mo mc ni po dn 5)) H := hP
  have hb1 : bkP N (va_up _ (b + 5) (SHC E ad b ht dr pg wt (va_up wr c 0) mo mc ni po dn 5)) b 7 (SHC E ad b ht dr pg wt (va_up wr c 0) mo mc ni po dn) := SH_setA4 hb_s _
  have hfr := hfr.up (p := b + 5) (e := SHC E ad b ht dr pg wt (va_up wr c 0) mo mc ni po dn 5) (by show _ ∧ _; omega)
  refine lv_iload_n hx hb dX7_patchUp_14 rfl (lv_at hl 0 rfl) ?_
  exact g_iret S hr hlocks hP hS (⟨rfl, hb1, hfr⟩) (fun _ _ => rfl) (Nat.le_of_ble_eq_true rfl) (Nat.le_of_ble_eq_true rfl) dX7_patchUp_15
set_option maxHeartbeats 4000000 in
set_option maxRecDepth 100000 in
/-- a peg is set or taken -/
theorem mX7_replacePeg (l : Launch) {E : gE} {ad : Nat → Nat} {N : Nat} {w : Nat → va_E} (b : Nat) (ht dr pg wt wr mo : Nat → Nat) (mc ni po dn : Nat) (c v : Nat) (hb_s : bkP N w b 7 (SHC E ad b ht dr pg wt wr mo mc ni po dn)) (hc : c < 36) (hv : v ≤ 1) (hpg : ∀ k, k < 36 → pg k ≤ 1) : gMi l yX7_replacePeg (lw_ws yX7_replacePeg cX7_replacePeg 3 (some .int)) ({ frames := 1, cells := 0, slots := 0, locals := 22 } : Room) E ad N w [.ref (ad (b)), .int (nI (c)), .int (nI (v))] (fun r w' => r = nI (cnt (fun k => va_up pg c v k == 1) 36) ∧ bkP N w' b 7 (SHC E ad b ht dr (va_up pg c v) wt wr mo mc ni po dn) ∧ gFr (gIn b 7) w w') 0 0 := by
  refine Met.ofW (cc := cX7_replacePeg) (maxL := 3) (ret := (some .int)) (by decide) rfl ?_
  intro p e s m args below meth cd s₁ B hml hv
  obtain ⟨rfl, hI, hP⟩ := hv
  obtain ⟨S, hr, hlocks⟩ := gPre (ws := []) B hml (C := RX7) rfl
  have hx := S.1
  have hb := S.2.1
  have hS : va_S (gA E) s.heap s.heap [] := va_S.rf
  have hfr : gFr (gIn b 7) w w := gFr.rf
  have hl := lv_entry ([.ref (ad (b)), .int (nI (c)), .int (nI (v))]) (n := 3) (Nat.le_of_ble_eq_true rfl)
  rw [lg_entry_eq]
  generalize (lg_sl ([.ref (ad (b)), .int (nI (c)), .int (nI (v))]) ++ List.replicate (3 - (lg_sl ([.ref (ad (b)), .int (nI (c)), .int (nI (v))])).length) Slot.unset).toArray = ls at hl ⊢
  have hl : lv_has ls 3 [(0, .ref (ad (b))), (1, .int (nI (c))), (2, .int (nI (v)))] := hl
  refine lv_aload_n hx hb dX7_replacePeg_0 rfl (lv_at hl 0 rfl) ?_
  refine g_get S hI hP uX7 rfl (fs := _) (hb_s.lt 0 (by decide)) (hb_s.2 0 (by decide)) 2 (by decide) q145 rfl (v := .ref (ad (b + 3))) rfl dX7_replacePeg_1 ?_
  refine lv_iload_n hx hb dX7_replacePeg_4 rfl (lv_at hl 1 rfl) ?_
  refine lv_iload_n hx hb dX7_replacePeg_5 rfl (lv_at hl 2 rfl) ?_
  refine g_zastN S hI hP hS (f := pg) (x := v) (hb_s.lt 3 (by decide)) (hb_s.2 3 (by decide)) (c) (hc) (by decide) (by omega) dX7_replacePeg_6 (fun H locs hP hS => ?_)
  have hP : gP E ad N (va_up _ (b + 3) (SHC E ad b ht dr (va_up pg c v) wt wr mo mc ni po dn 3)) H := hP
  have hb1 : bkP N (va_up _ (b + 3) (SHC E ad b ht dr (va_up pg c v) wt wr mo mc ni po dn 3)) b 7 (SHC E ad b ht dr (va_up pg c v) wt wr mo mc ni po dn) := SH_setA2 hb_s _
  have hfr := hfr.up (p := b + 3) (e := SHC E ad b ht dr (va_up pg c v) wt wr mo mc ni po dn 3) (by show _ ∧ _; omega)
  refine lv_aload_n hx hb dX7_replacePeg_7 rfl (lv_at hl 0 rfl) ?_
  have hpg2 : ∀ k, k < 36 → va_up pg c v k ≤ 1 := fun k hk => by by_cases q : k = c; rw [q, va_up_self]; exact hv; rw [va_up_ne _ _ q]; exact hpg k hk
  refine g_roi (g_runV S hI hP hS (k := 0) (As := []) (rest := []) (mX7_countPegs l b ht dr (va_up pg c v) wt wr mo mc ni po dn hb1 hpg2) q612 q613 q614 q83 q615 rfl rfl (by decide +kernel) ⟨Nat.le_of_ble_eq_true rfl, Nat.le_of_ble_eq_true rfl⟩ rfl (hb1.lt 0 (by decide)) (hb1.2 0 (by decide)) rfl hl.1 rfl (Nat.le_of_ble_eq_true rfl) ⟨(Nat.le_of_ble_eq_true rfl), (Nat.le_of_ble_eq_true rfl)⟩ dX7_replacePeg_8) hS (fun H locs hP hS => ?_)
  exact g_iret S hr hlocks hP hS (⟨rfl, hb1, hfr⟩) (fun _ _ => rfl) (Nat.le_of_ble_eq_true rfl) (Nat.le_of_ble_eq_true rfl) dX7_replacePeg_11
set_option maxHeartbeats 4000000 in
set_option maxRecDepth 100000 in
/-- water flows to its end -/
theorem mX7_letFlow (l : Launch) {E : gE} {ad : Nat → Nat} {N : Nat} {w : Nat → va_E} (b : Nat) (ht dr pg wt wr mo : Nat → Nat) (mc ni po dn : Nat) (c u : Nat) (hb_s : bkP N w b 7 (SHC E ad b ht dr pg wt wr mo mc ni po dn)) (hc : c < 36) (hwr : ∀ k, k < 36 → wr k ≤ 3) (hht : ∀ k, k < 36 → ht k ≤ 99) : gMi l yX7_letFlow (lw_ws yX7_letFlow cX7_letFlow 4 (some .int)) ({ frames := 4, cells := 0, slots := 0, locals := 92 } : Room) E ad N w [.ref (ad (b)), .int (nI (c)), .int (nI (u))] (fun r w' => (r = nI (if 3 ≤ wr (endN ht wr 36 c) then u else 0)) ∧ bkP N w' b 7 (SHC E ad b ht dr pg (if 3 ≤ wr (endN ht wr 36 c) then wt else va_up wt (endN ht wr 36 c) (wt (endN ht wr 36 c) + u)) wr mo mc ni po (if 3 ≤ wr (endN ht wr 36 c) then dn + u else dn)) ∧ gFr (gIn b 7) w w') 0 0 := by
  refine Met.ofW (cc := cX7_letFlow) (maxL := 4) (ret := (some .int)) (by decide) rfl ?_
  intro p e s m args below meth cd s₁ B hml hv
  obtain ⟨rfl, hI, hP⟩ := hv
  obtain ⟨S, hr, hlocks⟩ := gPre (ws := []) B hml (C := RX7) rfl
  have hx := S.1
  have hb := S.2.1
  have hS : va_S (gA E) s.heap s.heap [] := va_S.rf
  have hfr : gFr (gIn b 7) w w := gFr.rf
  have hl := lv_entry ([.ref (ad (b)), .int (nI (c)), .int (nI (u))]) (n := 4) (Nat.le_of_ble_eq_true rfl)
  rw [lg_entry_eq]
  generalize (lg_sl ([.ref (ad (b)), .int (nI (c)), .int (nI (u))]) ++ List.replicate (4 - (lg_sl ([.ref (ad (b)), .int (nI (c)), .int (nI (u))])).length) Slot.unset).toArray = ls at hl ⊢
  have hl : lv_has ls 4 [(0, .ref (ad (b))), (1, .int (nI (c))), (2, .int (nI (u)))] := hl
  have hen := endN_lt (ht := ht) (wr := wr) (n := 36) hc
  refine lv_aload_n hx hb dX7_letFlow_0 rfl (lv_at hl 0 rfl) ?_
  refine lv_iload_n hx hb dX7_letFlow_1 rfl (lv_at hl 1 rfl) ?_
  refine g_roi (g_runV S hI hP hS (k := 1) (As := [.int (nI (c))]) (rest := []) (mX7_endOf l b ht dr pg wt wr mo mc ni po dn c hb_s hc hwr hht) q688 q689 q690 q83 q691 rfl rfl (by decide +kernel) ⟨Nat.le_of_ble_eq_true rfl, Nat.le_of_ble_eq_true rfl⟩ rfl (hb_s.lt 0 (by decide)) (hb_s.2 0 (by decide)) rfl hl.1 rfl (Nat.le_of_ble_eq_true rfl) ⟨(Nat.le_of_ble_eq_true rfl), (Nat.le_of_ble_eq_true rfl)⟩ dX7_letFlow_2) hS (fun H locs hP hS => ?_)
  refine lv_istore_n (lv' := [(3, .int (nI (endN ht wr 36 c))), (0, .ref (ad (b))), (1, .int (nI (c))), (2, .int (nI (u)))]) hx hb dX7_letFlow_5 rfl hl (by decide) rfl (fun ls hl => ?_)
  refine lv_aload_n hx hb dX7_letFlow_6 rfl (lv_at hl 1 rfl) ?_
  refine lv_iload_n hx hb dX7_letFlow_7 rfl (lv_at hl 0 rfl) ?_
  refine g_roi (g_runV S hI hP hS (k := 1) (As := [.int (nI (endN ht wr 36 c))]) (rest := []) (mX7_hasHole l b ht dr pg wt wr mo mc ni po dn (endN ht wr 36 c) hb_s hen (hwr _ hen)) q505 q506 q507 q83 q508 rfl rfl (by decide +kernel) ⟨Nat.le_of_ble_eq_true rfl, Nat.le_of_ble_eq_true rfl⟩ rfl (hb_s.lt 0 (by decide)) (hb_s.2 0 (by decide)) rfl hl.1 rfl (Nat.le_of_ble_eq_true rfl) ⟨(Nat.le_of_ble_eq_true rfl), (Nat.le_of_ble_eq_true rfl)⟩ dX7_letFlow_8) hS (fun H locs hP hS => ?_)
  refine g_beq S (b := decide (3 ≤ wr (endN ht wr 36 c))) (tgt := 26) dX7_letFlow_11 (by decide) (fun h => ?_) (fun h => ?_)
  · refine lv_aload_n hx hb dX7_letFlow_26 rfl (lv_at hl 1 rfl) ?_
    refine g_get S hI hP uX7 rfl (fs := _) (hb_s.lt 0 (by decide)) (hb_s.2 0 (by decide)) 3 (by decide) q147 rfl (v := .ref (ad (b + 4))) rfl dX7_letFlow_27 ?_
    refine lv_iload_n hx hb dX7_letFlow_30 rfl (lv_at hl 0 rfl) ?_
    refine lv_dup2_11 hx hb dX7_letFlow_31 rfl rfl ?_
    refine g_iald S hI hP (f := fun j => nI (wt j)) (hb_s.lt 4 (by decide)) (hb_s.2 4 (by decide)) (endN ht wr 36 c) (hen) (by decide) dX7_letFlow_32 ?_
    refine lv_iload_n hx hb dX7_letFlow_33 rfl (lv_at hl 3 rfl) ?_
    refine g_iadd S dX7_letFlow_34 ?_
    refine g_iastN S hI hP hS (f := wt) (x := wt (endN ht wr 36 c) + u) (hb_s.lt 4 (by decide)) (hb_s.2 4 (by decide)) (endN ht wr 36 c) (hen) (by decide) dX7_letFlow_35 (fun H locs hP hS => ?_)
    have hP : gP E ad N (va_up _ (b + 4) (SHC E ad b ht dr pg (va_up wt (endN ht wr 36 c) (wt (endN ht wr 36 c) + u)) wr mo mc ni po dn 4)) H := hP
    have hb1 : bkP N (va_up _ (b + 4) (SHC E ad b ht dr pg (va_up wt (endN ht wr 36 c) (wt (endN ht wr 36 c) + u)) wr mo mc ni po dn 4)) b 7 (SHC E ad b ht dr pg (va_up wt (endN ht wr 36 c) (wt (endN ht wr 36 c) + u)) wr mo mc ni po dn) := SH_setA3 hb_s _
    have hfr := hfr.up (p := b + 4) (e := SHC E ad b ht dr pg (va_up wt (endN ht wr 36 c) (wt (endN ht wr 36 c) + u)) wr mo mc ni po dn 4) (by show _ ∧ _; omega)
    refine g_iconst S 0 dX7_letFlow_36 (by decide +kernel) ?_
    have hno : ¬ 3 ≤ wr (endN ht wr 36 c) := of_decide_eq_false h
    exact g_iret S hr hlocks hP hS (⟨by rw [if_neg hno], by rw [if_neg hno, if_neg hno]; exact hb1, hfr⟩) (fun _ _ => rfl) (Nat.le_of_ble_eq_true rfl) (Nat.le_of_ble_eq_true rfl) dX7_letFlow_37
  · refine lv_aload_n hx hb dX7_letFlow_14 rfl (lv_at hl 1 rfl) ?_
    refine lv_dup hx hb dX7_letFlow_15 rfl ?_
    refine g_get S hI hP uX7 rfl (fs := _) (hb_s.lt 0 (by decide)) (hb_s.2 0 (by decide)) 9 (by decide) q159 rfl (v := .int (nI (dn))) rfl dX7_letFlow_16 ?_
    refine lv_iload_n hx hb dX7_letFlow_19 rfl (lv_at hl 3 rfl) ?_
    refine g_iadd S dX7_letFlow_20 ?_
    refine g_put S hI hP hS uX7 rfl tyX7 tyX7_ok nmX7 (fs := _) (hb_s.lt 0 (by decide)) (hb_s.2 0 (by decide)) 9 (by decide) q159 rfl rfl (v := .int (nI (dn + u))) rfl rfl (Nat.le_of_ble_eq_true rfl) dX7_letFlow_21 (fun H locs hP hS => ?_)
    have hP : gP E ad N (va_up _ (b) (SHC E ad b ht dr pg wt wr mo mc ni po (dn + u) 0)) H := hP
    have hb2 : bkP N (va_up _ (b) (SHC E ad b ht dr pg wt wr mo mc ni po (dn + u) 0)) b 7 (SHC E ad b ht dr pg wt wr mo mc ni po (dn + u)) := SH_setO hb_s _ _ _ _
    have hfr := hfr.up (p := b) (e := SHC E ad b ht dr pg wt wr mo mc ni po (dn + u) 0) (by show _ ∧ _; omega)
    refine lv_iload_n hx hb dX7_letFlow_24 rfl (lv_at hl 3 rfl) ?_
    have hye : 3 ≤ wr (endN ht wr 36 c) := of_decide_eq_true h
    exact g_iret S hr hlocks hP hS (⟨by rw [if_pos hye], by rw [if_pos hye, if_pos hye]; exact hb2, hfr⟩) (fun _ _ => rfl) (Nat.le_of_ble_eq_true rfl) (Nat.le_of_ble_eq_true rfl) dX7_letFlow_25
