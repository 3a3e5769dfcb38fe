def SHC (E : gE) (ad : Nat → Nat) (b : Nat) (ht dr pg wt wr mo : Nat → Nat) (mc ni po dn : Nat) : Nat → va_E
  | 0 => .inr (11, [.ref (ad (b + 1)), .ref (ad (b + 2)), .ref (ad (b + 3)), .ref (ad (b + 4)), .ref (ad (b + 5)), .ref (ad (b + 6)), .int (nI mc), .int (nI ni), .int (nI po), .int (nI dn)])
  | 1 => gAr (E.2.1 0) 36 ht
  | 2 => gAr (E.2.1 0) 36 dr
  | 3 => gAr (E.2.1 1) 36 pg
  | 4 => gAr (E.2.1 0) 36 wt
  | 5 => gAr (E.2.1 0) 36 wr
  | _ => gAr (E.2.1 0) 4 mo
theorem SH_setO {E : gE} {ad : Nat → Nat} {N b : Nat} {ht dr pg wt wr mo : Nat → Nat} {mc ni po dn : Nat} {w : Nat → va_E} (h : bkP N w b 7 (SHC E ad b ht dr pg wt wr mo mc ni po dn)) (mc' ni' po' dn' : Nat) : bkP N (va_up w (b) (SHC E ad b ht dr pg wt wr mo mc' ni' po' dn' 0)) b 7 (SHC E ad b ht dr pg wt wr mo mc' ni' po' dn') := (h.set 0 (by decide) _).to (fun k hk => by match k, hk with | 0, _ => rfl | 1, _ => rfl | 2, _ => rfl | 3, _ => rfl | 4, _ => rfl | 5, _ => rfl | 6, _ => rfl)
theorem SH_setA0 {E : gE} {ad : Nat → Nat} {N b : Nat} {ht dr pg wt wr mo : Nat → Nat} {mc ni po dn : Nat} {w : Nat → va_E} (h : bkP N w b 7 (SHC E ad b ht dr pg wt wr mo mc ni po dn)) (f : Nat → Nat) : bkP N (va_up w (b + 1) (SHC E ad b f dr pg wt wr mo mc ni po dn 1)) b 7 (SHC E ad b f dr pg wt wr mo mc ni po dn) := (h.set 1 (by decide) _).to (fun k hk => by match k, hk with | 0, _ => rfl | 1, _ => rfl | 2, _ => rfl | 3, _ => rfl | 4, _ => rfl | 5, _ => rfl | 6, _ => rfl)
theorem SH_setA1 {E : gE} {ad : Nat → Nat} {N b : Nat} {ht dr pg wt wr mo : Nat → Nat} {mc ni po dn : Nat} {w : Nat → va_E} (h : bkP N w b 7 (SHC E ad b ht dr pg wt wr mo mc ni po dn)) (f : Nat → Nat) : bkP N (va_up w (b + 2) (SHC E ad b ht f pg wt wr mo mc ni po dn 2)) b 7 (SHC E ad b ht f pg wt wr mo mc ni po dn) := (h.set 2 (by decide) _).to (fun k hk => by match k, hk with | 0, _ => rfl | 1, _ => rfl | 2, _ => rfl | 3, _ => rfl | 4, _ => rfl | 5, _ => rfl | 6, _ => rfl)
theorem SH_setA2 {E : gE} {ad : Nat → Nat} {N b : Nat} {ht dr pg wt wr mo : Nat → Nat} {mc ni po dn : Nat} {w : Nat → va_E} (h : bkP N w b 7 (SHC E ad b ht dr pg wt wr mo mc ni po dn)) (f : Nat → Nat) : bkP N (va_up w (b + 3) (SHC E ad b ht dr f wt wr mo mc ni po dn 3)) b 7 (SHC E ad b ht dr f wt wr mo mc ni po dn) := (h.set 3 (by decide) _).to (fun k hk => by match k, hk with | 0, _ => rfl | 1, _ => rfl | 2, _ => rfl | 3, _ => rfl | 4, _ => rfl | 5, _ => rfl | 6, _ => rfl)
theorem SH_setA3 {E : gE} {ad : Nat → Nat} {N b : Nat} {ht dr pg wt wr mo : Nat → Nat} {mc ni po dn : Nat} {w : Nat → va_E} (h : bkP N w b 7 (SHC E ad b ht dr pg wt wr mo mc ni po dn)) (f : Nat → Nat) : bkP N (va_up w (b + 4) (SHC E ad b ht dr pg f wr mo mc ni po dn 4)) b 7 (SHC E ad b ht dr pg f wr mo mc ni po dn) := (h.set 4 (by decide) _).to (fun k hk => by match k, hk with | 0, _ => rfl | 1, _ => rfl | 2, _ => rfl | 3, _ => rfl | 4, _ => rfl | 5, _ => rfl | 6, _ => rfl)
theorem SH_setA4 {E : gE} {ad : Nat → Nat} {N b : Nat} {ht dr pg wt wr mo : Nat → Nat} {mc ni po dn : Nat} {w : Nat → va_E} (h : bkP N w b 7 (SHC E ad b ht dr pg wt wr mo mc ni po dn)) (f : Nat → Nat) : bkP N (va_up w (b + 5) (SHC E ad b ht dr pg wt f mo mc ni po dn 5)) b 7 (SHC E ad b ht dr pg wt f mo mc ni po dn) := (h.set 5 (by decide) _).to (fun k hk => by match k, hk with | 0, _ => rfl | 1, _ => rfl | 2, _ => rfl | 3, _ => rfl | 4, _ => rfl | 5, _ => rfl | 6, _ => rfl)
theorem SH_setA5 {E : gE} {ad : Nat → Nat} {N b : Nat} {ht dr pg wt wr mo : Nat → Nat} {mc ni po dn : Nat} {w : Nat → va_E} (h : bkP N w b 7 (SHC E ad b ht dr pg wt wr mo mc ni po dn)) (f : Nat → Nat) : bkP N (va_up w (b + 6) (SHC E ad b ht dr pg wt wr f mc ni po dn 6)) b 7 (SHC E ad b ht dr pg wt wr f mc ni po dn) := (h.set 6 (by decide) _).to (fun k hk => by match k, hk with | 0, _ => rfl | 1, _ => rfl | 2, _ => rfl | 3, _ => rfl | 4, _ => rfl | 5, _ => rfl | 6, _ => rfl)
set_option maxHeartbeats 4000000 in
set_option maxRecDepth 100000 in
/-- the cell of a row and a column -/
theorem mX12_cellOf (l : Launch) {E : gE} {ad : Nat → Nat} {N : Nat} {w : Nat → va_E} (x y : Int32)  : gMi l yX12_cellOf (lw_ws yX12_cellOf cX12_cellOf 2 (some .int)) ({ frames := 0, cells := 0, slots := 0, locals := 0 } : Room) E ad N w [.int (x), .int (y)] (fun r w' => r = oI (cellV x y) ∧ w' = w) 0 0 := by
  refine Met.ofW (cc := cX12_cellOf) (maxL := 2) (ret := (some .int)) (by decide) rfl ?_
  intro p e s m args below meth cd s₁ B hml hv
  obtain ⟨rfl, hI, hP⟩ := hv
  obtain ⟨S, hr, hlocks⟩ := gPre (ws := []) B hml (C := RX12) rfl
  have hx := S.1
  have hb := S.2.1
  have hS : va_S (gA E) s.heap s.heap [] := va_S.rf
  have hl := lv_entry ([.int (x), .int (y)]) (n := 2) (Nat.le_of_ble_eq_true rfl)
  rw [lg_entry_eq]
  generalize (lg_sl ([.int (x), .int (y)]) ++ List.replicate (2 - (lg_sl ([.int (x), .int (y)])).length) Slot.unset).toArray = ls at hl ⊢
  have hl : lv_has ls 2 [(0, .int (x)), (1, .int (y))] := hl
  refine lv_iload_n hx hb dX12_cellOf_0 rfl (lv_at hl 0 rfl) ?_
  rcases pk_ix x (n := 6) (by decide) with hx0 | hx0 | ⟨i, hi, rfl⟩
  · refine lv_if_lt (tgt := 20) hx hb dX12_cellOf_1 (by decide) (fun hc => ?_) (fun hc => ?_)
    · refine lv_iconst (v := -1) hx hb dX12_cellOf_20 (by decide +kernel) ?_
      exact g_iret S hr hlocks hP hS (⟨by rw [cellV, inR_neg hx0]; rfl, rfl⟩) (fun _ _ => rfl) (Nat.le_of_ble_eq_true rfl) (Nat.le_of_ble_eq_true rfl) dX12_cellOf_21
    · exact absurd hx0 hc
  · have hx1 : ¬ x < 0 := fun q => nI_pos (n := 6) (by decide) (Int32.lt_of_le_of_lt hx0 q)
    refine lv_if_lt (tgt := 20) hx hb dX12_cellOf_1 (by decide) (fun hc => ?_) (fun hc => ?_)
    · exact absurd hc hx1
    · refine lv_iload_n hx hb dX12_cellOf_4 rfl (lv_at hl 0 rfl) ?_
      refine g_bipush S 6 dX12_cellOf_5 (by decide +kernel) ?_
      refine lv_icmp_ge (tgt := 20) hx hb dX12_cellOf_7 (by decide) (fun hc2 => ?_) (fun hc2 => ?_)
      · refine lv_iconst (v := -1) hx hb dX12_cellOf_20 (by decide +kernel) ?_
        exact g_iret S hr hlocks hP hS (⟨by rw [cellV, inR_big hx0]; rfl, rfl⟩) (fun _ _ => rfl) (Nat.le_of_ble_eq_true rfl) (Nat.le_of_ble_eq_true rfl) dX12_cellOf_21
      · exact absurd hx0 hc2
  · refine g_iflt S (a := i) (by omega) (tgt := 20) dX12_cellOf_1 (by decide) ?_
    refine lv_iload_n hx hb dX12_cellOf_4 rfl (lv_at hl 0 rfl) ?_
    refine g_bipush S 6 dX12_cellOf_5 (by decide +kernel) ?_
    refine g_ge S (a := i) (b := 6) (by omega) (by omega) (tgt := 20) dX12_cellOf_7 (by decide) (fun hc => ?_) (fun hc => ?_)
    · omega
    · refine lv_iload_n hx hb dX12_cellOf_10 rfl (lv_at hl 1 rfl) ?_
      rcases pk_ix y (n := 6) (by decide) with hy0 | hy0 | ⟨j, hj, rfl⟩
      · refine lv_if_lt (tgt := 20) hx hb dX12_cellOf_11 (by decide) (fun hc3 => ?_) (fun hc3 => ?_)
        · refine lv_iconst (v := -1) hx hb dX12_cellOf_20 (by decide +kernel) ?_
          exact g_iret S hr hlocks hP hS (⟨by rw [cellV, inR_nI hi (by decide), inR_neg hy0]; rfl, rfl⟩) (fun _ _ => rfl) (Nat.le_of_ble_eq_true rfl) (Nat.le_of_ble_eq_true rfl) dX12_cellOf_21
        · exact absurd hy0 hc3
      · have hy1 : ¬ y < 0 := fun q => nI_pos (n := 6) (by decide) (Int32.lt_of_le_of_lt hy0 q)
        refine lv_if_lt (tgt := 20) hx hb dX12_cellOf_11 (by decide) (fun hc3 => ?_) (fun hc3 => ?_)
        · exact absurd hc3 hy1
        · refine lv_iload_n hx hb dX12_cellOf_14 rfl (lv_at hl 1 rfl) ?_
          refine g_bipush S 6 dX12_cellOf_15 (by decide +kernel) ?_
          refine lv_icmp_lt (tgt := 22) hx hb dX12_cellOf_17 (by decide) (fun hc4 => ?_) (fun hc4 => ?_)
          · exact (Int32.lt_irrefl (Int32.lt_of_lt_of_le hc4 hy0)).elim
          · refine lv_iconst (v := -1) hx hb dX12_cellOf_20 (by decide +kernel) ?_
            exact g_iret S hr hlocks hP hS (⟨by rw [cellV, inR_nI hi (by decide), inR_big hy0]; rfl, rfl⟩) (fun _ _ => rfl) (Nat.le_of_ble_eq_true rfl) (Nat.le_of_ble_eq_true rfl) dX12_cellOf_21
      · refine g_iflt S (a := j) (by omega) (tgt := 20) dX12_cellOf_11 (by decide) ?_
        refine lv_iload_n hx hb dX12_cellOf_14 rfl (lv_at hl 1 rfl) ?_
        refine g_bipush S 6 dX12_cellOf_15 (by decide +kernel) ?_
        refine g_lt S (a := j) (b := 6) (by omega) (by omega) (tgt := 22) dX12_cellOf_17 (by decide) (fun hc3 => ?_) (fun hc3 => ?_)
        · refine lv_iload_n hx hb dX12_cellOf_22 rfl (lv_at hl 0 rfl) ?_
          refine g_bipush S 6 dX12_cellOf_23 (by decide +kernel) ?_
          refine g_imul S dX12_cellOf_25 ?_
          refine lv_iload_n hx hb dX12_cellOf_26 rfl (lv_at hl 1 rfl) ?_
          refine g_iadd S dX12_cellOf_27 ?_
          exact g_iret S hr hlocks hP hS (⟨by rw [cellV_nI hi hj]; rfl, rfl⟩) (fun _ _ => rfl) (Nat.le_of_ble_eq_true rfl) (Nat.le_of_ble_eq_true rfl) dX12_cellOf_28
        · omega
set_option maxHeartbeats 4000000 in
set_option maxRecDepth 100000 in
/-- the neighbour in a direction -/
theorem mX12_neighbour (l : Launch) {E : gE} {ad : Nat → Nat} {N : Nat} {w : Nat → va_E} (c d : Nat) (hc : c < 36) (hd : d < 4) : gMi l yX12_neighbour (lw_ws yX12_neighbour cX12_neighbour 4 (some .int)) ({ frames := 1, cells := 0, slots := 0, locals := 21 } : Room) E ad N w [.int (nI (c)), .int (nI (d))] (fun r w' => r = oI (nb c d) ∧ w' = w) 0 0 := by
  refine Met.ofW (cc := cX12_neighbour) (maxL := 4) (ret := (some .int)) (by decide) rfl ?_
  intro p e s m args below meth cd s₁ B hml hv
  obtain ⟨rfl, hI, hP⟩ := hv
  obtain ⟨S, hr, hlocks⟩ := gPre (ws := []) B hml (C := RX12) rfl
  have hx := S.1
  have hb := S.2.1
  have hS : va_S (gA E) s.heap s.heap [] := va_S.rf
  have hl := lv_entry ([.int (nI (c)), .int (nI (d))]) (n := 4) (Nat.le_of_ble_eq_true rfl)
  rw [lg_entry_eq]
  generalize (lg_sl ([.int (nI (c)), .int (nI (d))]) ++ List.replicate (4 - (lg_sl ([.int (nI (c)), .int (nI (d))])).length) Slot.unset).toArray = ls at hl ⊢
  have hl : lv_has ls 4 [(0, .int (nI (c))), (1, .int (nI (d)))] := hl
  refine lv_iload_n hx hb dX12_neighbour_0 rfl (lv_at hl 0 rfl) ?_
  refine g_bipush S 6 dX12_neighbour_1 (by decide +kernel) ?_
  refine g_idiv S (by omega) (by omega) (by omega) dX12_neighbour_3 ?_
  refine lv_istore_n (lv' := [(2, .int (nI (c / 6))), (0, .int (nI (c))), (1, .int (nI (d)))]) hx hb dX12_neighbour_4 rfl hl (by decide) rfl (fun ls hl => ?_)
  refine lv_iload_n hx hb dX12_neighbour_5 rfl (lv_at hl 1 rfl) ?_
  refine g_bipush S 6 dX12_neighbour_6 (by decide +kernel) ?_
  refine g_irem S (by omega) (by omega) (by omega) dX12_neighbour_8 ?_
  refine lv_istore_n (lv' := [(3, .int (nI (c % 6))), (2, .int (nI (c / 6))), (0, .int (nI (c))), (1, .int (nI (d)))]) hx hb dX12_neighbour_9 rfl hl (by decide) rfl (fun ls hl => ?_)
  refine lv_iload_n hx hb dX12_neighbour_10 rfl (lv_at hl 3 rfl) ?_
  rcases (show d = 0 ∨ d = 1 ∨ d = 2 ∨ d = 3 by omega) with rfl | rfl | rfl | rfl
  · refine lv_tableIn (off := 25) (tgt := 36) hx hb dX12_neighbour_11 (by decide +kernel) (by decide +kernel) (by decide +kernel) (by decide) ?_
    refine lv_iload_n hx hb dX12_neighbour_36 rfl (lv_at hl 1 rfl) ?_
    refine g_ifne S (a := c / 6) (by omega) (tgt := 44) dX12_neighbour_37 (by decide) (fun hc4 => ?_) (fun hc4 => ?_)
    · refine lv_iload_n hx hb dX12_neighbour_44 rfl (lv_at hl 2 rfl) ?_
      refine g_bipush S 6 dX12_neighbour_45 (by decide +kernel) ?_
      refine g_isub S (by omega) dX12_neighbour_47 ?_
      exact g_iret S hr hlocks hP hS (⟨by rw [show nb c 0 = some (c - 6) from if_pos (by omega)]; rfl, rfl⟩) (fun _ _ => rfl) (Nat.le_of_ble_eq_true rfl) (Nat.le_of_ble_eq_true rfl) dX12_neighbour_48
    · refine lv_iconst (v := -1) hx hb dX12_neighbour_40 (by decide +kernel) ?_
      refine lv_goto (tgt := 48) hx hb dX12_neighbour_41 (by decide) ?_
      exact g_iret S hr hlocks hP hS (⟨by rw [show nb c 0 = none from if_neg (by omega)]; rfl, rfl⟩) (fun _ _ => rfl) (Nat.le_of_ble_eq_true rfl) (Nat.le_of_ble_eq_true rfl) dX12_neighbour_48
  · refine lv_tableIn (off := 38) (tgt := 49) hx hb dX12_neighbour_11 (by decide +kernel) (by decide +kernel) (by decide +kernel) (by decide) ?_
    refine lv_iload_n hx hb dX12_neighbour_49 rfl (lv_at hl 0 rfl) ?_
    refine g_iconst S 5 dX12_neighbour_50 (by decide +kernel) ?_
    refine g_ne S (a := c % 6) (b := 5) (by omega) (by omega) (tgt := 58) dX12_neighbour_51 (by decide) (fun hc4 => ?_) (fun hc4 => ?_)
    · refine lv_iload_n hx hb dX12_neighbour_58 rfl (lv_at hl 2 rfl) ?_
      refine g_iconst S 1 dX12_neighbour_59 (by decide +kernel) ?_
      refine g_iadd S dX12_neighbour_60 ?_
      exact g_iret S hr hlocks hP hS (⟨by rw [show nb c 1 = some (c + 1) from if_pos (by omega)]; rfl, rfl⟩) (fun _ _ => rfl) (Nat.le_of_ble_eq_true rfl) (Nat.le_of_ble_eq_true rfl) dX12_neighbour_61
    · refine lv_iconst (v := -1) hx hb dX12_neighbour_54 (by decide +kernel) ?_
      refine lv_goto (tgt := 61) hx hb dX12_neighbour_55 (by decide) ?_
      exact g_iret S hr hlocks hP hS (⟨by rw [show nb c 1 = none from if_neg (by omega)]; rfl, rfl⟩) (fun _ _ => rfl) (Nat.le_of_ble_eq_true rfl) (Nat.le_of_ble_eq_true rfl) dX12_neighbour_61
  · refine lv_tableIn (off := 51) (tgt := 62) hx hb dX12_neighbour_11 (by decide +kernel) (by decide +kernel) (by decide +kernel) (by decide) ?_
    refine lv_iload_n hx hb dX12_neighbour_62 rfl (lv_at hl 1 rfl) ?_
    refine g_iconst S 5 dX12_neighbour_63 (by decide +kernel) ?_
    refine g_ne S (a := c / 6) (b := 5) (by omega) (by omega) (tgt := 71) dX12_neighbour_64 (by decide) (fun hc4 => ?_) (fun hc4 => ?_)
    · refine lv_iload_n hx hb dX12_neighbour_71 rfl (lv_at hl 2 rfl) ?_
      refine g_bipush S 6 dX12_neighbour_72 (by decide +kernel) ?_
      refine g_iadd S dX12_neighbour_74 ?_
      exact g_iret S hr hlocks hP hS (⟨by rw [show nb c 2 = some (c + 6) from if_pos (by omega)]; rfl, rfl⟩) (fun _ _ => rfl) (Nat.le_of_ble_eq_true rfl) (Nat.le_of_ble_eq_true rfl) dX12_neighbour_75
    · refine lv_iconst (v := -1) hx hb dX12_neighbour_67 (by decide +kernel) ?_
      refine lv_goto (tgt := 75) hx hb dX12_neighbour_68 (by decide) ?_
      exact g_iret S hr hlocks hP hS (⟨by rw [show nb c 2 = none from if_neg (by omega)]; rfl, rfl⟩) (fun _ _ => rfl) (Nat.le_of_ble_eq_true rfl) (Nat.le_of_ble_eq_true rfl) dX12_neighbour_75
  · refine lv_tableOut (tgt := 76) hx hb dX12_neighbour_11 (by decide +kernel) (by decide) ?_
    refine lv_iload_n hx hb dX12_neighbour_76 rfl (lv_at hl 0 rfl) ?_
    refine g_ifne S (a := c % 6) (by omega) (tgt := 84) dX12_neighbour_77 (by decide) (fun hc4 => ?_) (fun hc4 => ?_)
    · refine lv_iload_n hx hb dX12_neighbour_84 rfl (lv_at hl 2 rfl) ?_
      refine g_iconst S 1 dX12_neighbour_85 (by decide +kernel) ?_
      refine g_isub S (by omega) dX12_neighbour_86 ?_
      exact g_iret S hr hlocks hP hS (⟨by rw [show nb c 3 = some (c - 1) from if_pos (by omega)]; rfl, rfl⟩) (fun _ _ => rfl) (Nat.le_of_ble_eq_true rfl) (Nat.le_of_ble_eq_true rfl) dX12_neighbour_87
    · refine lv_iconst (v := -1) hx hb dX12_neighbour_80 (by decide +kernel) ?_
      refine lv_goto (tgt := 87) hx hb dX12_neighbour_81 (by decide) ?_
      exact g_iret S hr hlocks hP hS (⟨by rw [show nb c 3 = none from if_neg (by omega)]; rfl, rfl⟩) (fun _ _ => rfl) (Nat.le_of_ble_eq_true rfl) (Nat.le_of_ble_eq_true rfl) dX12_neighbour_87
set_option maxHeartbeats 4000000 in
set_option maxRecDepth 100000 in
/-- a hole -/
theorem mX7_hasHole (l : Launch) {E : gE} {ad : Nat → Nat} {N : Nat} {w : Nat → va_E} (b : Nat) (ht dr pg wt wr mo : Nat → Nat) (mc ni po dn : Nat) (c : Nat) (hb_s : bkP N w b 7 (SHC E ad b ht dr pg wt wr mo mc ni po dn)) (hc : c < 36) (hw : wr c ≤ 3) : gMi l yX7_hasHole (lw_ws yX7_hasHole cX7_hasHole 2 (some .boolean)) ({ frames := 0, cells := 0, slots := 0, locals := 0 } : Room) E ad N w [.ref (ad (b)), .int (nI (c))] (fun r w' => r = bI (decide (3 ≤ wr c)) ∧ w' = w) 0 0 := by
  refine Met.ofW (cc := cX7_hasHole) (maxL := 2) (ret := (some .boolean)) (by decide) rfl ?_
  intro p e s m args below meth cd s₁ B hml hv
  obtain ⟨rfl, hI, hP⟩ := hv
  obtain ⟨S, hr, hlocks⟩ := gPre (ws := []) B hml (C := RX7) rfl
  have hx := S.1
  have hb := S.2.1
  have hS : va_S (gA E) s.heap s.heap [] := va_S.rf
  have hl := lv_entry ([.ref (ad (b)), .int (nI (c))]) (n := 2) (Nat.le_of_ble_eq_true rfl)
  rw [lg_entry_eq]
  generalize (lg_sl ([.ref (ad (b)), .int (nI (c))]) ++ List.replicate (2 - (lg_sl ([.ref (ad (b)), .int (nI (c))])).length) Slot.unset).toArray = ls at hl ⊢
  have hl : lv_has ls 2 [(0, .ref (ad (b))), (1, .int (nI (c)))] := hl
  refine lv_aload_n hx hb dX7_hasHole_0 rfl (lv_at hl 0 rfl) ?_
  refine g_get S hI hP uX7 rfl (fs := _) (hb_s.lt 0 (by decide)) (hb_s.2 0 (by decide)) 4 (by decide) q149 rfl (v := .ref (ad (b + 5))) rfl dX7_hasHole_1 ?_
  refine lv_iload_n hx hb dX7_hasHole_4 rfl (lv_at hl 1 rfl) ?_
  refine g_iald S hI hP (f := fun j => nI (wr j)) (hb_s.lt 5 (by decide)) (hb_s.2 5 (by decide)) (c) (hc) (by decide) dX7_hasHole_5 ?_
  refine g_iconst S 3 dX7_hasHole_6 (by decide +kernel) ?_
  refine g_lt S (a := wr c) (b := 3) (by omega) (by omega) (tgt := 14) dX7_hasHole_7 (by decide) (fun h => ?_) (fun h => ?_)
  · refine g_iconst S 0 dX7_hasHole_14 (by decide +kernel) ?_
    exact g_zret S hr hlocks (Or.inl nI_0) hP hS (⟨by rw [decide_eq_false (by omega)]; rfl, rfl⟩) (fun _ _ => rfl) (Nat.le_of_ble_eq_true rfl) (Nat.le_of_ble_eq_true rfl) dX7_hasHole_15
  · refine g_iconst S 1 dX7_hasHole_10 (by decide +kernel) ?_
    refine lv_goto (tgt := 15) hx hb dX7_hasHole_11 (by decide) ?_
    exact g_zret S hr hlocks (Or.inr (by decide +kernel)) hP hS (⟨by rw [decide_eq_true (by omega)]; rfl, rfl⟩) (fun _ _ => rfl) (Nat.le_of_ble_eq_true rfl) (Nat.le_of_ble_eq_true rfl) dX7_hasHole_15
set_option maxHeartbeats 4000000 in
set_option maxRecDepth 100000 in
/-- an index of a moth -/
theorem mX7_isMoth (l : Launch) {E : gE} {ad : Nat → Nat} {N : Nat} {w : Nat → va_E} (b : Nat) (ht dr pg wt wr mo : Nat → Nat) (mc ni po dn : Nat) (x : Int32) (hb_s : bkP N w b 7 (SHC E ad b ht dr pg wt wr mo mc ni po dn)) (hm : mc ≤ 4) : gMi l yX7_isMoth (lw_ws yX7_isMoth cX7_isMoth 2 (some .boolean)) ({ frames := 0, cells := 0, slots := 0, locals := 0 } : Room) E ad N w [.ref (ad (b)), .int (x)] (fun r w' => r = bI (inR x mc).isSome ∧ w' = w) 0 0 := by
  refine Met.ofW (cc := cX7_isMoth) (maxL := 2) (ret := (some .boolean)) (by decide) rfl ?_
  intro p e s m args below meth cd s₁ B hml hv
  obtain ⟨rfl, hI, hP⟩ := hv
  obtain ⟨S, hr, hlocks⟩ := gPre (ws := []) B hml (C := RX7) rfl
  have hx := S.1
  have hb := S.2.1
  have hS : va_S (gA E) s.heap s.heap [] := va_S.rf
  have hl := lv_entry ([.ref (ad (b)), .int (x)]) (n := 2) (Nat.le_of_ble_eq_true rfl)
  rw [lg_entry_eq]
  generalize (lg_sl ([.ref (ad (b)), .int (x)]) ++ List.replicate (2 - (lg_sl ([.ref (ad (b)), .int (x)])).length) Slot.unset).toArray = ls at hl ⊢
  have hl : lv_has ls 2 [(0, .ref (ad (b))), (1, .int (x))] := hl
  refine lv_iload_n hx hb dX7_isMoth_0 rfl (lv_at hl 1 rfl) ?_
  rcases pk_ix x (n := mc) (by omega) with hx0 | hx0 | ⟨i, hi, rfl⟩
  · refine lv_if_lt (tgt := 16) hx hb dX7_isMoth_1 (by decide) (fun hc => ?_) (fun hc => ?_)
    · refine g_iconst S 0 dX7_isMoth_16 (by decide +kernel) ?_
      exact g_zret S hr hlocks (Or.inl nI_0) hP hS (⟨by rw [inR_neg hx0]; rfl, rfl⟩) (fun _ _ => rfl) (Nat.le_of_ble_eq_true rfl) (Nat.le_of_ble_eq_true rfl) dX7_isMoth_17
    · exact absurd hx0 hc
  · have hx1 : ¬ x < 0 := fun q => nI_pos (n := mc) (by omega) (Int32.lt_of_le_of_lt hx0 q)
    refine lv_if_lt (tgt := 16) hx hb dX7_isMoth_1 (by decide) (fun hc => ?_) (fun hc => ?_)
    · exact absurd hc hx1
    · refine lv_iload_n hx hb dX7_isMoth_4 rfl (lv_at hl 1 rfl) ?_
      refine lv_aload_n hx hb dX7_isMoth_5 rfl (lv_at hl 0 rfl) ?_
      refine g_get S hI hP uX7 rfl (fs := _) (hb_s.lt 0 (by decide)) (hb_s.2 0 (by decide)) 6 (by decide) q153 rfl (v := .int (nI (mc))) rfl dX7_isMoth_6 ?_
      refine lv_icmp_ge (tgt := 16) hx hb dX7_isMoth_9 (by decide) (fun hc2 => ?_) (fun hc2 => ?_)
      · refine g_iconst S 0 dX7_isMoth_16 (by decide +kernel) ?_
        exact g_zret S hr hlocks (Or.inl nI_0) hP hS (⟨by rw [inR_big hx0]; rfl, rfl⟩) (fun _ _ => rfl) (Nat.le_of_ble_eq_true rfl) (Nat.le_of_ble_eq_true rfl) dX7_isMoth_17
      · exact absurd hx0 hc2
  · refine g_iflt S (a := i) (by omega) (tgt := 16) dX7_isMoth_1 (by decide) ?_
    refine lv_iload_n hx hb dX7_isMoth_4 rfl (lv_at hl 1 rfl) ?_
    refine lv_aload_n hx hb dX7_isMoth_5 rfl (lv_at hl 0 rfl) ?_
    refine g_get S hI hP uX7 rfl (fs := _) (hb_s.lt 0 (by decide)) (hb_s.2 0 (by decide)) 6 (by decide) q153 rfl (v := .int (nI (mc))) rfl dX7_isMoth_6 ?_
    refine g_ge S (a := i) (b := mc) (by omega) (by omega) (tgt := 16) dX7_isMoth_9 (by decide) (fun hc => ?_) (fun hc => ?_)
    · omega
    · refine g_iconst S 1 dX7_isMoth_12 (by decide +kernel) ?_
      refine lv_goto (tgt := 17) hx hb dX7_isMoth_13 (by decide) ?_
      exact g_zret S hr hlocks (Or.inr (by decide +kernel)) hP hS (⟨by rw [inR_nI hi (by omega)]; rfl, rfl⟩) (fun _ _ => rfl) (Nat.le_of_ble_eq_true rfl) (Nat.le_of_ble_eq_true rfl) dX7_isMoth_17
set_option maxHeartbeats 4000000 in
set_option maxRecDepth 100000 in
/-- the moth on a cell -/
theorem mX7_mothOn (l : Launch) {E : gE} {ad : Nat → Nat} {N : Nat} {w : Nat → va_E} (b : Nat) (ht dr pg wt wr mo : Nat → Nat) (mc ni po dn : Nat) (c : Nat) (hb_s : bkP N w b 7 (SHC E ad b ht dr pg wt wr mo mc ni po dn)) (hc : c < 36) (hm : mc ≤ 4) (hmo : ∀ k, k < mc → mo k < 36) : gMi l yX7_mothOn (lw_ws yX7_mothOn cX7_mothOn 3 (some .int)) ({ frames := 0, cells := 0, slots := 0, locals := 0 } : Room) E ad N w [.ref (ad (b)), .int (nI (c))] (fun r w' => r = oI (fstN (fun j => mo j == c) mc) ∧ w' = w) 0 0 := by
  refine Met.ofW (cc := cX7_mothOn) (maxL := 3) (ret := (some .int)) (by decide) rfl ?_
  intro p e s m args below meth cd s₁ B hml hv
  obtain ⟨rfl, hI, hP⟩ := hv
  obtain ⟨S, hr, hlocks⟩ := gPre (ws := []) B hml (C := RX7) rfl
  have hx := S.1
  have hb := S.2.1
  have hS : va_S (gA E) s.heap s.heap [] := va_S.rf
  have hl := lv_entry ([.ref (ad (b)), .int (nI (c))]) (n := 3) (Nat.le_of_ble_eq_true rfl)
  rw [lg_entry_eq]
  generalize (lg_sl ([.ref (ad (b)), .int (nI (c))]) ++ List.replicate (3 - (lg_sl ([.ref (ad (b)), .int (nI (c))])).length) Slot.unset).toArray = ls at hl ⊢
  have hl : lv_has ls 3 [(0, .ref (ad (b))), (1, .int (nI (c)))] := hl
  refine g_iconst S 0 dX7_mothOn_0 (by decide +kernel) ?_
  refine lv_istore_n (lv' := [(2, .int (nI (0))), (0, .ref (ad (b))), (1, .int (nI (c)))]) hx hb dX7_mothOn_1 rfl hl (by decide) rfl (fun ls hl => ?_)
  have loop1 : ∀ (n : Nat) (i : Nat), mc - i < n → (i ≤ mc) → (∀ k, k < i → mo k ≠ c) → ∀ (ls : Array Slot), lv_has ls 3 [(2, .int (nI (i))), (0, .ref (ad (b))), (1, .int (nI (c)))] → W p l e (headSpec (lw_ws yX7_mothOn cX7_mothOn 3 (some .int)) ({ frames := 0, cells := 0, slots := 0, locals := 0 } : Room)).room s m ([.ref (ad (b)), .int (nI (c))] : List Value).toArray below meth cd s.heap [] 0 0 (MQ below (va_Qi (fun r w' => r = oI (fstN (fun j => mo j == c) mc) ∧ w' = w) (gB E ad N) (gA E)) ([.ref (ad (b)), .int (nI (c))] : List Value).toArray s 0 0 (gA E)) (F0 m 2 ls []) := by
    intro n
    induction n with
    | zero => intro i hmeas; omega
    | succ n ih_loop1 =>
      intro i hmeas hi hn ls hl
      refine lv_iload_n hx hb dX7_mothOn_2 rfl (lv_at hl 0 rfl) ?_
      refine lv_aload_n hx hb dX7_mothOn_3 rfl (lv_at hl 1 rfl) ?_
      refine g_get S hI hP uX7 rfl (fs := _) (hb_s.lt 0 (by decide)) (hb_s.2 0 (by decide)) 6 (by decide) q153 rfl (v := .int (nI (mc))) rfl dX7_mothOn_4 ?_
      refine g_ge S (a := i) (b := mc) (by omega) (by omega) (tgt := 28) dX7_mothOn_7 (by decide) (fun h => ?_) (fun h => ?_)
      · refine lv_iconst (v := -1) hx hb dX7_mothOn_28 (by decide +kernel) ?_
        exact g_iret S hr hlocks hP hS (⟨by rw [fstN_none.mpr (fun k hk => by have := hn k (by omega); simpa using this)]; rfl, rfl⟩) (fun _ _ => rfl) (Nat.le_of_ble_eq_true rfl) (Nat.le_of_ble_eq_true rfl) dX7_mothOn_29
      · have hmi := hmo i h
        refine lv_aload_n hx hb dX7_mothOn_10 rfl (lv_at hl 1 rfl) ?_
        refine g_get S hI hP uX7 rfl (fs := _) (hb_s.lt 0 (by decide)) (hb_s.2 0 (by decide)) 5 (by decide) q151 rfl (v := .ref (ad (b + 6))) rfl dX7_mothOn_11 ?_
        refine lv_iload_n hx hb dX7_mothOn_14 rfl (lv_at hl 0 rfl) ?_
        refine g_iald S hI hP (f := fun j => nI (mo j)) (hb_s.lt 6 (by decide)) (hb_s.2 6 (by decide)) (i) (by omega) (by decide) dX7_mothOn_15 ?_
        refine lv_iload_n hx hb dX7_mothOn_16 rfl (lv_at hl 2 rfl) ?_
        refine g_ne S (a := mo i) (b := c) (by omega) (by omega) (tgt := 22) dX7_mothOn_17 (by decide) (fun h2 => ?_) (fun h2 => ?_)
        · refine lv_iinc (v := nI (i + 1)) (lv' := [(2, .int (nI (i + 1))), (0, .ref (ad (b))), (1, .int (nI (c)))]) hx hb dX7_mothOn_22 hl (k := 0) rfl (g_inc _ 1 (by decide +kernel)) (by decide) rfl (fun ls hl => ?_)
          refine lv_goto (tgt := 2) hx hb dX7_mothOn_25 (by decide) ?_
          exact ih_loop1 (i + 1) (by omega) (by omega) (fun k hk => by rcases Nat.lt_or_ge k i with q | q; exact hn k q; rw [show k = i by omega]; exact h2) ls (lv_sub hl [0, 1, 2] rfl)
        · refine lv_iload_n hx hb dX7_mothOn_20 rfl (lv_at hl 0 rfl) ?_
          exact g_iret S hr hlocks hP hS (⟨by rw [fstN_some.mpr ⟨h, by simpa using h2, fun k hk => by have := hn k hk; simpa using this⟩]; rfl, rfl⟩) (fun _ _ => rfl) (Nat.le_of_ble_eq_true rfl) (Nat.le_of_ble_eq_true rfl) dX7_mothOn_21
  exact loop1 (mc - (0) + 1) (0) (Nat.lt_succ_self _) (Nat.zero_le _) (fun k hk => by omega) ls (lv_sub hl [0, 1, 2] rfl)
set_option maxHeartbeats 4000000 in
set_option maxRecDepth 100000 in
/-- the pegs -/
theorem mX7_countPegs (l : Launch) {E : gE} {ad : Nat → Nat} {N : Nat} {w : Nat → va_E} (b : Nat) (ht dr pg wt wr mo : Nat → Nat) (mc ni po dn : Nat) (hb_s : bkP N w b 7 (SHC E ad b ht dr pg wt wr mo mc ni po dn)) (hpg : ∀ k, k < 36 → pg k ≤ 1) : gMi l yX7_countPegs (lw_ws yX7_countPegs cX7_countPegs 3 (some .int)) ({ frames := 0, cells := 0, slots := 0, locals := 0 } : Room) E ad N w [.ref (ad (b))] (fun r w' => r = nI (cnt (fun k => pg k == 1) 36) ∧ w' = w) 0 0 := by
  refine Met.ofW (cc := cX7_countPegs) (maxL := 3) (ret := (some .int)) (by decide) rfl ?_
  intro p e s m args below meth cd s₁ B hml hv
  obtain ⟨rfl, hI, hP⟩ := hv
  obtain ⟨S, hr, hlocks⟩ := gPre (ws := []) B hml (C := RX7) rfl
  have hx := S.1
  have hb := S.2.1
  have hS : va_S (gA E) s.heap s.heap [] := va_S.rf
  have hl := lv_entry ([.ref (ad (b))]) (n := 3) (Nat.le_of_ble_eq_true rfl)
  rw [lg_entry_eq]
  generalize (lg_sl ([.ref (ad (b))]) ++ List.replicate (3 - (lg_sl ([.ref (ad (b))])).length) Slot.unset).toArray = ls at hl ⊢
  have hl : lv_has ls 3 [(0, .ref (ad (b)))] := hl
  refine g_iconst S 0 dX7_countPegs_0 (by decide +kernel) ?_
  refine lv_istore_n (lv' := [(1, .int (nI (0))), (0, .ref (ad (b)))]) hx hb dX7_countPegs_1 rfl hl (by decide) rfl (fun ls hl => ?_)
  refine g_iconst S 0 dX7_countPegs_2 (by decide +kernel) ?_
  refine lv_istore_n (lv' := [(2, .int (nI (0))), (1, .int (nI (0))), (0, .ref (ad (b)))]) hx hb dX7_countPegs_3 rfl hl (by decide) rfl (fun ls hl => ?_)
  have loop1 : ∀ (n : Nat) (i : Nat), 36 - i < n → (i ≤ 36) → ∀ (ls : Array Slot), lv_has ls 3 [(2, .int (nI (i))), (1, .int (nI (cnt (fun k => pg k == 1) i))), (0, .ref (ad (b)))] → W p l e (headSpec (lw_ws yX7_countPegs cX7_countPegs 3 (some .int)) ({ frames := 0, cells := 0, slots := 0, locals := 0 } : Room)).room s m ([.ref (ad (b))] : List Value).toArray below meth cd s.heap [] 0 0 (MQ below (va_Qi (fun r w' => r = nI (cnt (fun k => pg k == 1) 36) ∧ w' = w) (gB E ad N) (gA E)) ([.ref (ad (b))] : List Value).toArray s 0 0 (gA E)) (F0 m 4 ls []) := by
    intro n
    induction n with
    | zero => intro i hmeas; omega
    | succ n ih_loop1 =>
      intro i hmeas hi ls hl
      have hcl := cnt_le (fun k => pg k == 1) i
      refine lv_iload_n hx hb dX7_countPegs_4 rfl (lv_at hl 0 rfl) ?_
      refine g_bipush S 36 dX7_countPegs_5 (by decide +kernel) ?_
      refine g_ge S (a := i) (b := 36) (by omega) (by omega) (tgt := 28) dX7_countPegs_7 (by decide) (fun h => ?_) (fun h => ?_)
      · refine lv_iload_n hx hb dX7_countPegs_28 rfl (lv_at hl 1 rfl) ?_
        have e : i = 36 := by omega
        subst e
        exact g_iret S hr hlocks hP hS (⟨rfl, rfl⟩) (fun _ _ => rfl) (Nat.le_of_ble_eq_true rfl) (Nat.le_of_ble_eq_true rfl) dX7_countPegs_29
      · have hpi := hpg i h
        refine lv_aload_n hx hb dX7_countPegs_10 rfl (lv_at hl 2 rfl) ?_
        refine g_get S hI hP uX7 rfl (fs := _) (hb_s.lt 0 (by decide)) (hb_s.2 0 (by decide)) 2 (by decide) q145 rfl (v := .ref (ad (b + 3))) rfl dX7_countPegs_11 ?_
        refine lv_iload_n hx hb dX7_countPegs_14 rfl (lv_at hl 0 rfl) ?_
        refine g_zald S hI hP (f := fun j => nI (pg j)) (hb_s.lt 3 (by decide)) (hb_s.2 3 (by decide)) (i) (h) (by decide) dX7_countPegs_15 ?_
        refine g_ifeq S (a := pg i) (by omega) (tgt := 22) dX7_countPegs_16 (by decide) (fun h2 => ?_) (fun h2 => ?_)
        · refine lv_iinc (v := nI (i + 1)) (lv' := [(2, .int (nI (i + 1))), (1, .int (nI (cnt (fun k => pg k == 1) i))), (0, .ref (ad (b)))]) hx hb dX7_countPegs_22 hl (k := 0) rfl (g_inc _ 1 (by decide +kernel)) (by decide) rfl (fun ls hl => ?_)
          refine lv_goto (tgt := 4) hx hb dX7_countPegs_25 (by decide) ?_
          rw [← cnt_n (p := fun k => pg k == 1) (n := i) (by simp [h2])] at hl
          exact ih_loop1 (i + 1) (by omega) (by omega) ls (lv_sub hl [0, 1, 2] rfl)
        · refine lv_iinc (v := nI (cnt (fun k => pg k == 1) i + 1)) (lv' := [(1, .int (nI (cnt (fun k => pg k == 1) i + 1))), (2, .int (nI (i))), (0, .ref (ad (b)))]) hx hb dX7_countPegs_19 hl (k := 1) rfl (g_inc _ 1 (by decide +kernel)) (by decide) rfl (fun ls hl => ?_)
          refine lv_iinc (v := nI (i + 1)) (lv' := [(2, .int (nI (i + 1))), (1, .int (nI (cnt (fun k => pg k == 1) i + 1))), (0, .ref (ad (b)))]) hx hb dX7_countPegs_22 hl (k := 1) rfl (g_inc _ 1 (by decide +kernel)) (by decide) rfl (fun ls hl => ?_)
          refine lv_goto (tgt := 4) hx hb dX7_countPegs_25 (by decide) ?_
          rw [← cnt_y (p := fun k => pg k == 1) (n := i) (by simp [show pg i = 1 by omega])] at hl
          exact ih_loop1 (i + 1) (by omega) (by omega) ls (lv_sub hl [0, 1, 2] rfl)
  exact loop1 (36 - (0) + 1) (0) (Nat.lt_succ_self _) (by omega) ls (lv_sub hl [0, 1, 2] rfl)
set_option maxHeartbeats 4000000 in
set_option maxRecDepth 100000 in
/-- the sum of the water -/
theorem mX7_sumOfWater (l : Launch) {E : gE} {ad : Nat → Nat} {N : Nat} {w : Nat → va_E} (b : Nat) (ht dr pg wt wr mo : Nat → Nat) (mc ni po dn : Nat) (hb_s : bkP N w b 7 (SHC E ad b ht dr pg wt wr mo mc ni po dn))  : gMi l yX7_sumOfWater (lw_ws yX7_sumOfWater cX7_sumOfWater 3 (some .int)) ({ frames := 0, cells := 0, slots := 0, locals := 0 } : Room) E ad N w [.ref (ad (b))] (fun r w' => r = nI (smN wt 36) ∧ w' = w) 0 0 := by
  refine Met.ofW (cc := cX7_sumOfWater) (maxL := 3) (ret := (some .int)) (by decide) rfl ?_
  intro p e s m args below meth cd s₁ B hml hv
  obtain ⟨rfl, hI, hP⟩ := hv
  obtain ⟨S, hr, hlocks⟩ := gPre (ws := []) B hml (C := RX7) rfl
  have hx := S.1
  have hb := S.2.1
  have hS : va_S (gA E) s.heap s.heap [] := va_S.rf
  have hl := lv_entry ([.ref (ad (b))]) (n := 3) (Nat.le_of_ble_eq_true rfl)
  rw [lg_entry_eq]
  generalize (lg_sl ([.ref (ad (b))]) ++ List.replicate (3 - (lg_sl ([.ref (ad (b))])).length) Slot.unset).toArray = ls at hl ⊢
  have hl : lv_has ls 3 [(0, .ref (ad (b)))] := hl
  refine g_iconst S 0 dX7_sumOfWater_0 (by decide +kernel) ?_
  refine lv_istore_n (lv' := [(1, .int (nI (0))), (0, .ref (ad (b)))]) hx hb dX7_sumOfWater_1 rfl hl (by decide) rfl (fun ls hl => ?_)
  refine g_iconst S 0 dX7_sumOfWater_2 (by decide +kernel) ?_
  refine lv_istore_n (lv' := [(2, .int (nI (0))), (1, .int (nI (0))), (0, .ref (ad (b)))]) hx hb dX7_sumOfWater_3 rfl hl (by decide) rfl (fun ls hl => ?_)
  have loop1 : ∀ (n : Nat) (i : Nat), 36 - i < n → (i ≤ 36) → ∀ (ls : Array Slot), lv_has ls 3 [(2, .int (nI (i))), (1, .int (nI (smN wt i))), (0, .ref (ad (b)))] → W p l e (headSpec (lw_ws yX7_sumOfWater cX7_sumOfWater 3 (some .int)) ({ frames := 0, cells := 0, slots := 0, locals := 0 } : Room)).room s m ([.ref (ad (b))] : List Value).toArray below meth cd s.heap [] 0 0 (MQ below (va_Qi (fun r w' => r = nI (smN wt 36) ∧ w' = w) (gB E ad N) (gA E)) ([.ref (ad (b))] : List Value).toArray s 0 0 (gA E)) (F0 m 4 ls []) := by
    intro n
    induction n with
    | zero => intro i hmeas; omega
    | succ n ih_loop1 =>
      intro i hmeas hi ls hl
      refine lv_iload_n hx hb dX7_sumOfWater_4 rfl (lv_at hl 0 rfl) ?_
      refine g_bipush S 36 dX7_sumOfWater_5 (by decide +kernel) ?_
      refine g_ge S (a := i) (b := 36) (by omega) (by omega) (tgt := 25) dX7_sumOfWater_7 (by decide) (fun h => ?_) (fun h => ?_)
      · refine lv_iload_n hx hb dX7_sumOfWater_25 rfl (lv_at hl 1 rfl) ?_
        have e : i = 36 := by omega
        subst e
        exact g_iret S hr hlocks hP hS (⟨rfl, rfl⟩) (fun _ _ => rfl) (Nat.le_of_ble_eq_true rfl) (Nat.le_of_ble_eq_true rfl) dX7_sumOfWater_26
      · refine lv_iload_n hx hb dX7_sumOfWater_10 rfl (lv_at hl 1 rfl) ?_
        refine lv_aload_n hx hb dX7_sumOfWater_11 rfl (lv_at hl 2 rfl) ?_
        refine g_get S hI hP uX7 rfl (fs := _) (hb_s.lt 0 (by decide)) (hb_s.2 0 (by decide)) 3 (by decide) q147 rfl (v := .ref (ad (b + 4))) rfl dX7_sumOfWater_12 ?_
        refine lv_iload_n hx hb dX7_sumOfWater_15 rfl (lv_at hl 0 rfl) ?_
        refine g_iald S hI hP (f := fun j => nI (wt j)) (hb_s.lt 4 (by decide)) (hb_s.2 4 (by decide)) (i) (h) (by decide) dX7_sumOfWater_16 ?_
        refine g_iadd S dX7_sumOfWater_17 ?_
        refine lv_istore_n (lv' := [(1, .int (nI (smN wt i + (wt i)))), (2, .int (nI (i))), (0, .ref (ad (b)))]) hx hb dX7_sumOfWater_18 rfl hl (by decide) rfl (fun ls hl => ?_)
        refine lv_iinc (v := nI (i + 1)) (lv' := [(2, .int (nI (i + 1))), (1, .int (nI (smN wt i + (wt i)))), (0, .ref (ad (b)))]) hx hb dX7_sumOfWater_19 hl (k := 1) rfl (g_inc _ 1 (by decide +kernel)) (by decide) rfl (fun ls hl => ?_)
        refine lv_goto (tgt := 4) hx hb dX7_sumOfWater_22 (by decide) ?_
        exact ih_loop1 (i + 1) (by omega) (by omega) ls (lv_sub hl [0, 1, 2] rfl)
  exact loop1 (36 - (0) + 1) (0) (Nat.lt_succ_self _) (by omega) ls (lv_sub hl [0, 1, 2] rfl)
set_option maxHeartbeats 4000000 in
set_option maxRecDepth 100000 in
/-- the sum of the heights -/
theorem mX7_sumOfHeights (l : Launch) {E : gE} {ad : Nat → Nat} {N : Nat} {w : Nat → va_E} (b : Nat) (ht dr pg wt wr mo : Nat → Nat) (mc ni po dn : Nat) (hb_s : bkP N w b 7 (SHC E ad b ht dr pg wt wr mo mc ni po dn))  : gMi l yX7_sumOfHeights (lw_ws yX7_sumOfHeights cX7_sumOfHeights 3 (some .int)) ({ frames := 0, cells := 0, slots := 0, locals := 0 } : Room) E ad N w [.ref (ad (b))] (fun r w' => r = nI (smN ht 36) ∧ w' = w) 0 0 := by
  refine Met.ofW (cc := cX7_sumOfHeights) (maxL := 3) (ret := (some .int)) (by decide) rfl ?_
  intro p e s m args below meth cd s₁ B hml hv
  obtain ⟨rfl, hI, hP⟩ := hv
  obtain ⟨S, hr, hlocks⟩ := gPre (ws := []) B hml (C := RX7) rfl
  have hx := S.1
  have hb := S.2.1
  have hS : va_S (gA E) s.heap s.heap [] := va_S.rf
  have hl := lv_entry ([.ref (ad (b))]) (n := 3) (Nat.le_of_ble_eq_true rfl)
  rw [lg_entry_eq]
  generalize (lg_sl ([.ref (ad (b))]) ++ List.replicate (3 - (lg_sl ([.ref (ad (b))])).length) Slot.unset).toArray = ls at hl ⊢
  have hl : lv_has ls 3 [(0, .ref (ad (b)))] := hl
  refine g_iconst S 0 dX7_sumOfHeights_0 (by decide +kernel) ?_
  refine lv_istore_n (lv' := [(1, .int (nI (0))), (0, .ref (ad (b)))]) hx hb dX7_sumOfHeights_1 rfl hl (by decide) rfl (fun ls hl => ?_)
  refine g_iconst S 0 dX7_sumOfHeights_2 (by decide +kernel) ?_
  refine lv_istore_n (lv' := [(2, .int (nI (0))), (1, .int (nI (0))), (0, .ref (ad (b)))]) hx hb dX7_sumOfHeights_3 rfl hl (by decide) rfl (fun ls hl => ?_)
  have loop1 : ∀ (n : Nat) (i : Nat), 36 - i < n → (i ≤ 36) → ∀ (ls : Array Slot), lv_has ls 3 [(2, .int (nI (i))), (1, .int (nI (smN ht i))), (0, .ref (ad (b)))] → W p l e (headSpec (lw_ws yX7_sumOfHeights cX7_sumOfHeights 3 (some .int)) ({ frames := 0, cells := 0, slots := 0, locals := 0 } : Room)).room s m ([.ref (ad (b))] : List Value).toArray below meth cd s.heap [] 0 0 (MQ below (va_Qi (fun r w' => r = nI (smN ht 36) ∧ w' = w) (gB E ad N) (gA E)) ([.ref (ad (b))] : List Value).toArray s 0 0 (gA E)) (F0 m 4 ls []) := by
    intro n
    induction n with
    | zero => intro i hmeas; omega
    | succ n ih_loop1 =>
      intro i hmeas hi ls hl
      refine lv_iload_n hx hb dX7_sumOfHeights_4 rfl (lv_at hl 0 rfl) ?_
      refine g_bipush S 36 dX7_sumOfHeights_5 (by decide +kernel) ?_
      refine g_ge S (a := i) (b := 36) (by omega) (by omega) (tgt := 25) dX7_sumOfHeights_7 (by decide) (fun h => ?_) (fun h => ?_)
      · refine lv_iload_n hx hb dX7_sumOfHeights_25 rfl (lv_at hl 1 rfl) ?_
        have e : i = 36 := by omega
        subst e
        exact g_iret S hr hlocks hP hS (⟨rfl, rfl⟩) (fun _ _ => rfl) (Nat.le_of_ble_eq_true rfl) (Nat.le_of_ble_eq_true rfl) dX7_sumOfHeights_26
      · refine lv_iload_n hx hb dX7_sumOfHeights_10 rfl (lv_at hl 1 rfl) ?_
        refine lv_aload_n hx hb dX7_sumOfHeights_11 rfl (lv_at hl 2 rfl) ?_
        refine g_get S hI hP uX7 rfl (fs := _) (hb_s.lt 0 (by decide)) (hb_s.2 0 (by decide)) 0 (by decide) q140 rfl (v := .ref (ad (b + 1))) rfl dX7_sumOfHeights_12 ?_
        refine lv_iload_n hx hb dX7_sumOfHeights_15 rfl (lv_at hl 0 rfl) ?_
        refine g_iald S hI hP (f := fun j => nI (ht j)) (hb_s.lt 1 (by decide)) (hb_s.2 1 (by decide)) (i) (h) (by decide) dX7_sumOfHeights_16 ?_
        refine g_iadd S dX7_sumOfHeights_17 ?_
        refine lv_istore_n (lv' := [(1, .int (nI (smN ht i + (ht i)))), (2, .int (nI (i))), (0, .ref (ad (b)))]) hx hb dX7_sumOfHeights_18 rfl hl (by decide) rfl (fun ls hl => ?_)
        refine lv_iinc (v := nI (i + 1)) (lv' := [(2, .int (nI (i + 1))), (1, .int (nI (smN ht i + (ht i)))), (0, .ref (ad (b)))]) hx hb dX7_sumOfHeights_19 hl (k := 1) rfl (g_inc _ 1 (by decide +kernel)) (by decide) rfl (fun ls hl => ?_)
        refine lv_goto (tgt := 4) hx hb dX7_sumOfHeights_22 (by decide) ?_
        exact ih_loop1 (i + 1) (by omega) (by omega) ls (lv_sub hl [0, 1, 2] rfl)
  exact loop1 (36 - (0) + 1) (0) (Nat.lt_succ_self _) (by omega) ls (lv_sub hl [0, 1, 2] rfl)
