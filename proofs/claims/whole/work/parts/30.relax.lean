def SLC (E : gE) (ad : Nat → Nat) (b : Nat) : Nat → va_E
  | _ => .inr (12, [.ref (ad (b + 1)), .ref (ad (b + 4))])
def LVC (E : gE) (ad : Nat → Nat) (b : Nat) (lv : Nat → Nat) : Nat → va_E
  | _ => gAr (E.2.1 0) 36 lv
theorem LV_setA0 {E : gE} {ad : Nat → Nat} {N b : Nat} {lv : Nat → Nat} {w : Nat → va_E} (h : bkP N w b 1 (LVC E ad b lv)) (f : Nat → Nat) : bkP N (va_up w (b) (LVC E ad b f 0)) b 1 (LVC E ad b f) := (h.set 0 (by decide) _).to (fun k hk => by match k, hk with | 0, _ => rfl)
def RTC (E : gE) (ad : Nat → Nat) (b : Nat) (pn : Nat) : Nat → va_E
  | _ => .inr (10, [.ref (ad (b + 1)), .ref (ad (b + 4)), .ref (ad (b + 7)), .ref (ad (b + 9)), .ref (ad (b + 10)), .int (nI pn)])
theorem RT_setO {E : gE} {ad : Nat → Nat} {N b : Nat} {pn : Nat} {w : Nat → va_E} (h : bkP N w b 1 (RTC E ad b pn)) (pn' : Nat) : bkP N (va_up w (b) (RTC E ad b  pn' 0)) b 1 (RTC E ad b  pn') := (h.set 0 (by decide) _).to (fun k hk => by match k, hk with | 0, _ => rfl)
def PRC (E : gE) (ad : Nat → Nat) (b : Nat) (pq : Nat → Nat) : Nat → va_E
  | _ => gAr (E.2.1 0) 60 pq
theorem PR_setA0 {E : gE} {ad : Nat → Nat} {N b : Nat} {pq : Nat → Nat} {w : Nat → va_E} (h : bkP N w b 1 (PRC E ad b pq)) (f : Nat → Nat) : bkP N (va_up w (b) (PRC E ad b f 0)) b 1 (PRC E ad b f) := (h.set 0 (by decide) _).to (fun k hk => by match k, hk with | 0, _ => rfl)
set_option maxHeartbeats 4000000 in
set_option maxRecDepth 100000 in
/-- is a cell improved -/
theorem mX8_improve (l : Launch) {E : gE} {ad : Nat → Nat} {N : Nat} {w : Nat → va_E} (b : Nat) (ht dr pg wt wr mo : Nat → Nat) (mc ni po dn : Nat) (r : Nat) (lv : Nat → Nat) (k o : Nat) (hb_s : bkP N w b 7 (SHC E ad b ht dr pg wt wr mo mc ni po dn)) (hb_g : bkP N w r 1 (SLC E ad r )) (hb_l : bkP N w (r + 4) 1 (LVC E ad (r + 4) lv)) (hbr : b + 7 ≤ r) (hht : ∀ k, k < 36 → ht k ≤ 99) (hlv : ∀ k, k < 36 → lv k ≤ 100) (hk : k < 36) (ho : o < 36) : gMi l yX8_improve (lw_ws yX8_improve cX8_improve 5 (some .boolean)) ({ frames := 1, cells := 0, slots := 0, locals := 21 } : Room) E ad N w [.ref (ad (r)), .ref (ad (b)), .int (nI (k)), .int (nI (o))] (fun z w' => z = bI (imB (cdS ht) lv k o) ∧ bkP N w' (r + 4) 1 (LVC E ad (r + 4) (imL (cdS ht) lv k o)) ∧ gFr (gIn (r + 4) 1) w w') 0 0 := by
  refine Met.ofW (cc := cX8_improve) (maxL := 5) (ret := (some .boolean)) (by decide) rfl ?_
  intro p e s m args below meth cd s₁ B hml hv
  obtain ⟨rfl, hI, hP⟩ := hv
  obtain ⟨S, hr, hlocks⟩ := gPre (ws := []) B hml (C := RX8) rfl
  have hx := S.1
  have hb := S.2.1
  have hS : va_S (gA E) s.heap s.heap [] := va_S.rf
  have hfr : gFr (gIn (r + 4) 1) w w := gFr.rf
  have hl := lv_entry ([.ref (ad (r)), .ref (ad (b)), .int (nI (k)), .int (nI (o))]) (n := 5) (Nat.le_of_ble_eq_true rfl)
  rw [lg_entry_eq]
  generalize (lg_sl ([.ref (ad (r)), .ref (ad (b)), .int (nI (k)), .int (nI (o))]) ++ List.replicate (5 - (lg_sl ([.ref (ad (r)), .ref (ad (b)), .int (nI (k)), .int (nI (o))])).length) Slot.unset).toArray = ls at hl ⊢
  have hl : lv_has ls 5 [(0, .ref (ad (r))), (1, .ref (ad (b))), (2, .int (nI (k))), (3, .int (nI (o)))] := hl
  have z1 := hlv k hk
  have z2 := hlv o ho
  have z3 := hht k hk
  have z4 := hht o ho
  refine lv_aload_n hx hb dX8_improve_0 rfl (lv_at hl 1 rfl) ?_
  refine g_getN S hI hP uX7 rfl (fs := _) (hb_s.lt 0 (by decide)) (hb_s.2 0 (by decide)) 0 (by decide) q142 rfl (v := .ref (ad (b + 1))) rfl dX8_improve_1 ?_
  refine lv_iload_n hx hb dX8_improve_4 rfl (lv_at hl 2 rfl) ?_
  refine g_iald S hI hP (f := fun j => nI (ht j)) (hb_s.lt 1 (by decide)) (hb_s.2 1 (by decide)) (k) (hk) (by decide) dX8_improve_5 ?_
  refine lv_aload_n hx hb dX8_improve_6 rfl (lv_at hl 0 rfl) ?_
  refine g_get S hI hP uX8 rfl (fs := _) (hb_g.lt 0 (by decide)) (hb_g.2 0 (by decide)) 1 (by decide) q275 rfl (v := .ref (ad (r + 4))) rfl dX8_improve_7 ?_
  refine lv_iload_n hx hb dX8_improve_10 rfl (lv_at hl 3 rfl) ?_
  refine g_iald S hI hP (f := fun j => nI (lv j)) (hb_l.lt 0 (by decide)) (hb_l.2 0 (by decide)) (o) (ho) (by decide) dX8_improve_11 ?_
  refine g_max S hl.1 (a := ht k) (b := lv o) (by omega) (by omega) q776 q777 q112 q778 (Nat.le_of_ble_eq_true rfl) (Nat.le_of_ble_eq_true rfl) (Nat.le_of_ble_eq_true rfl) (Nat.le_of_ble_eq_true rfl) dX8_improve_12 ?_
  refine lv_istore (lv' := [(4, .int (nI (max (ht k) (lv o)))), (0, .ref (ad (r))), (1, .ref (ad (b))), (2, .int (nI (k))), (3, .int (nI (o)))]) hx hb dX8_improve_15 hl (by decide) rfl (fun ls hl => ?_)
  refine lv_iload hx hb dX8_improve_17 (lv_at hl 0 rfl) ?_
  refine lv_aload_n hx hb dX8_improve_19 rfl (lv_at hl 1 rfl) ?_
  refine g_get S hI hP uX8 rfl (fs := _) (hb_g.lt 0 (by decide)) (hb_g.2 0 (by decide)) 1 (by decide) q275 rfl (v := .ref (ad (r + 4))) rfl dX8_improve_20 ?_
  refine lv_iload_n hx hb dX8_improve_23 rfl (lv_at hl 3 rfl) ?_
  refine g_iald S hI hP (f := fun j => nI (lv j)) (hb_l.lt 0 (by decide)) (hb_l.2 0 (by decide)) (k) (hk) (by decide) dX8_improve_24 ?_
  refine g_lt S (a := max (ht k) (lv o)) (b := lv k) (by omega) (by omega) (tgt := 30) dX8_improve_25 (by decide) (fun h => ?_) (fun h => ?_)
  · refine lv_aload_n hx hb dX8_improve_30 rfl (lv_at hl 1 rfl) ?_
    refine g_get S hI hP uX8 rfl (fs := _) (hb_g.lt 0 (by decide)) (hb_g.2 0 (by decide)) 1 (by decide) q275 rfl (v := .ref (ad (r + 4))) rfl dX8_improve_31 ?_
    refine lv_iload_n hx hb dX8_improve_34 rfl (lv_at hl 3 rfl) ?_
    refine lv_iload hx hb dX8_improve_35 (lv_at hl 0 rfl) ?_
    refine g_iastN S hI hP hS (f := lv) (x := max (ht k) (lv o)) (hb_l.lt 0 (by decide)) (hb_l.2 0 (by decide)) (k) (hk) (by decide) dX8_improve_37 (fun H locs hP hS => ?_)
    have hP : gP E ad N (va_up _ (r + 4) (LVC E ad (r + 4) (va_up lv k (max (ht k) (lv o))) 0)) H := hP
    have hb1 : bkP N (va_up _ (r + 4) (LVC E ad (r + 4) (va_up lv k (max (ht k) (lv o))) 0)) (r + 4) 1 (LVC E ad (r + 4) (va_up lv k (max (ht k) (lv o)))) := LV_setA0 hb_l _
    have hb2 := hb_s.keep (p := r + 4) (e := LVC E ad (r + 4) (va_up lv k (max (ht k) (lv o))) 0) (by omega)
    have hb3 := hb_g.keep (p := r + 4) (e := LVC E ad (r + 4) (va_up lv k (max (ht k) (lv o))) 0) (by omega)
    have hfr := hfr.up (p := r + 4) (e := LVC E ad (r + 4) (va_up lv k (max (ht k) (lv o))) 0) (by show _ ∧ _; omega)
    refine g_iconst S 1 dX8_improve_38 (by decide +kernel) ?_
    exact g_zret S hr hlocks (Or.inr (by decide +kernel)) hP hS (⟨by rw [(imB_y (cd := (cdS ht)) (v := max (ht k) (lv o)) rfl h).1]; rfl, by rw [(imB_y (cd := (cdS ht)) (v := max (ht k) (lv o)) rfl h).2]; exact hb1, hfr⟩) (fun _ _ => rfl) (Nat.le_of_ble_eq_true rfl) (Nat.le_of_ble_eq_true rfl) dX8_improve_39
  · refine g_iconst S 0 dX8_improve_28 (by decide +kernel) ?_
    exact g_zret S hr hlocks (Or.inl nI_0) hP hS (⟨by rw [(imB_n (cd := (cdS ht)) (v := max (ht k) (lv o)) rfl (Nat.not_lt.mpr h)).1]; rfl, by rw [(imB_n (cd := (cdS ht)) (v := max (ht k) (lv o)) rfl (Nat.not_lt.mpr h)).2]; exact hb_l, hfr⟩) (fun _ _ => rfl) (Nat.le_of_ble_eq_true rfl) (Nat.le_of_ble_eq_true rfl) dX8_improve_29
set_option maxHeartbeats 4000000 in
set_option maxRecDepth 100000 in
/-- from a cell to its neighbours -/
theorem mX8_spread (l : Launch) {E : gE} {ad : Nat → Nat} {N : Nat} {w : Nat → va_E} (b : Nat) (ht dr pg wt wr mo : Nat → Nat) (mc ni po dn : Nat) (r : Nat) (lv wa ke : Nat → Nat) (c : Nat) (hb_s : bkP N w b 7 (SHC E ad b ht dr pg wt wr mo mc ni po dn)) (hb_g : bkP N w r 1 (SLC E ad r )) (hb_q : bkP N w (r + 1) 3 (CQC E ad (r + 1) wa ke)) (hb_l : bkP N w (r + 4) 1 (LVC E ad (r + 4) lv)) (hbr : b + 7 ≤ r) (hht : ∀ k, k < 36 → ht k ≤ 99) (hc : c < 36) (hok : t4Ok 100 (lv, wa, ke)) : gMv l yX8_spread (lw_ws yX8_spread cX8_spread 5 none) ({ frames := 2, cells := 0, slots := 0, locals := 45 } : Room) E ad N w [.ref (ad (r)), .ref (ad (b)), .int (nI (c))] (fun w' => bkP N w' (r + 1) 3 (CQC E ad (r + 1) (spD (cdS ht) c (lv, wa, ke) 4).2.1 (spD (cdS ht) c (lv, wa, ke) 4).2.2) ∧ bkP N w' (r + 4) 1 (LVC E ad (r + 4) (spD (cdS ht) c (lv, wa, ke) 4).1) ∧ gFr (fun q => (r + 1 ≤ q ∧ q < r + 4) ∨ q = r + 4) w w') 0 0 := by
  refine Met.ofW (cc := cX8_spread) (maxL := 5) (ret := none) (by decide) rfl ?_
  intro p e s m args below meth cd s₁ B hml hv
  obtain ⟨rfl, hI, hP⟩ := hv
  obtain ⟨S, hr, hlocks⟩ := gPre (ws := []) B hml (C := RX8) rfl
  have hx := S.1
  have hb := S.2.1
  have hS : va_S (gA E) s.heap s.heap [] := va_S.rf
  have hfr : gFr (fun q => (r + 1 ≤ q ∧ q < r + 4) ∨ q = r + 4) w w := gFr.rf
  have hl := lv_entry ([.ref (ad (r)), .ref (ad (b)), .int (nI (c))]) (n := 5) (Nat.le_of_ble_eq_true rfl)
  rw [lg_entry_eq]
  generalize (lg_sl ([.ref (ad (r)), .ref (ad (b)), .int (nI (c))]) ++ List.replicate (5 - (lg_sl ([.ref (ad (r)), .ref (ad (b)), .int (nI (c))])).length) Slot.unset).toArray = ls at hl ⊢
  have hl : lv_has ls 5 [(0, .ref (ad (r))), (1, .ref (ad (b))), (2, .int (nI (c)))] := hl
  refine g_iconst S 0 dX8_spread_0 (by decide +kernel) ?_
  refine lv_istore_n (lv' := [(3, .int (nI (0))), (0, .ref (ad (r))), (1, .ref (ad (b))), (2, .int (nI (c)))]) hx hb dX8_spread_1 rfl hl (by decide) rfl (fun ls hl => ?_)
  have loop1 : ∀ (n : Nat) (d : Nat), 4 - d < n → (d ≤ 4) → ∀ (w1 : Nat → va_E) (H : Heap) (locs : List Loc), gP E ad N w1 H → va_S (gA E) s.heap H locs → bkP N w1 b 7 (SHC E ad b ht dr pg wt wr mo mc ni po dn) → bkP N w1 r 1 (SLC E ad r ) → bkP N w1 (r + 1) 3 (CQC E ad (r + 1) ((spD (cdS ht) c (lv, wa, ke) d).2.1) ((spD (cdS ht) c (lv, wa, ke) d).2.2)) → bkP N w1 (r + 4) 1 (LVC E ad (r + 4) ((spD (cdS ht) c (lv, wa, ke) d).1)) → gFr (fun q => (r + 1 ≤ q ∧ q < r + 4) ∨ q = r + 4) w w1 → ∀ (ls : Array Slot), lv_has ls 5 [(3, .int (nI (d))), (0, .ref (ad (r))), (1, .ref (ad (b))), (2, .int (nI (c)))] → W p l e (headSpec (lw_ws yX8_spread cX8_spread 5 none) ({ frames := 2, cells := 0, slots := 0, locals := 45 } : Room)).room s m ([.ref (ad (r)), .ref (ad (b)), .int (nI (c))] : List Value).toArray below meth cd H locs 0 0 (MQ below (va_Qv (fun w' => bkP N w' (r + 1) 3 (CQC E ad (r + 1) (spD (cdS ht) c (lv, wa, ke) 4).2.1 (spD (cdS ht) c (lv, wa, ke) 4).2.2) ∧ bkP N w' (r + 4) 1 (LVC E ad (r + 4) (spD (cdS ht) c (lv, wa, ke) 4).1) ∧ gFr (fun q => (r + 1 ≤ q ∧ q < r + 4) ∨ q = r + 4) w w') (gB E ad N) (gA E)) ([.ref (ad (r)), .ref (ad (b)), .int (nI (c))] : List Value).toArray s 0 0 (gA E)) (F0 m 2 ls []) := by
    intro n
    induction n with
    | zero => intro d hmeas; omega
    | succ n ih_loop1 =>
      intro d hmeas hd w1 H locs hP hS hb2 hb3 hb4 hb5 hfr ls hl
      have hdo := spD_ok (cd := (cdS ht)) (by decide : 100 < 2 ^ 30) hc hok d
      refine lv_iload_n hx hb dX8_spread_2 rfl (lv_at hl 0 rfl) ?_
      refine g_iconst S 4 dX8_spread_3 (by decide +kernel) ?_
      refine g_ge S (a := d) (b := 4) (by omega) (by omega) (tgt := 53) dX8_spread_4 (by decide) (fun hd4 => ?_) (fun hd4 => ?_)
      · have e_d : d = 4 := by omega
        subst e_d
        exact g_vret S hr hlocks hP hS (⟨hb4, hb5, hfr⟩) (fun _ _ => rfl) (Nat.le_of_ble_eq_true rfl) (Nat.le_of_ble_eq_true rfl) dX8_spread_53
      · refine lv_iload_n hx hb dX8_spread_7 rfl (lv_at hl 3 rfl) ?_
        refine lv_iload_n hx hb dX8_spread_8 rfl (lv_at hl 0 rfl) ?_
        refine g_roi (g_runSN S hI hP hS (k := 2) (As := [.int (nI (c)), .int (nI (d))]) (rest := []) (mX12_neighbour l c d hc hd4) q771 q675 q82 q676 rfl rfl (by decide +kernel) ⟨Nat.le_of_ble_eq_true rfl, Nat.le_of_ble_eq_true rfl⟩ rfl hl.1 rfl (Nat.le_of_ble_eq_true rfl) ⟨(Nat.le_of_ble_eq_true rfl), (Nat.le_of_ble_eq_true rfl)⟩ dX8_spread_9) hS (fun H locs hP hS => ?_)
        refine lv_istore (lv' := [(4, .int (oI (nb c d))), (3, .int (nI (d))), (0, .ref (ad (r))), (1, .ref (ad (b))), (2, .int (nI (c)))]) hx hb dX8_spread_12 hl (by decide) rfl (fun ls hl => ?_)
        refine lv_iload hx hb dX8_spread_14 (lv_at hl 0 rfl) ?_
        refine lv_iconst (v := -1) hx hb dX8_spread_16 (by decide +kernel) ?_
        refine g_oeq S (o := nb c d) (fun k hk => Nat.lt_trans (nb_lt hc hk) (by decide)) (tgt := 47) dX8_spread_17 (by decide) (fun hn => ?_) (fun hn_k hn => ?_)
        · have hde : (spD (cdS ht) c (lv, wa, ke) (d + 1)) = (spD (cdS ht) c (lv, wa, ke) d) := by simp [spD, hn]
          rw [show (spD (cdS ht) c (lv, wa, ke) d).1 = (spD (cdS ht) c (lv, wa, ke) (d + 1)).1 by rw [hde]] at hb5
          rw [show (spD (cdS ht) c (lv, wa, ke) d).2.1 = (spD (cdS ht) c (lv, wa, ke) (d + 1)).2.1 by rw [hde], show (spD (cdS ht) c (lv, wa, ke) d).2.2 = (spD (cdS ht) c (lv, wa, ke) (d + 1)).2.2 by rw [hde]] at hb4
          refine lv_iinc (v := nI (d + 1)) (lv' := [(3, .int (nI (d + 1))), (4, .int (oI (nb c d))), (0, .ref (ad (r))), (1, .ref (ad (b))), (2, .int (nI (c)))]) hx hb dX8_spread_47 hl (k := 1) rfl (g_inc _ 1 (by decide +kernel)) (by decide) rfl (fun ls hl => ?_)
          refine lv_goto (tgt := 2) hx hb dX8_spread_50 (by decide) ?_
          exact ih_loop1 (d + 1) (by omega) (by omega) _ _ _ hP hS hb2 hb3 hb4 hb5 hfr ls (lv_sub hl [0, 2, 3, 4] rfl)
        · have hk36 := nb_lt hc hn
          have hl : lv_has ls 5 [(4, .int (nI (hn_k))), (3, .int (nI (d))), (0, .ref (ad (r))), (1, .ref (ad (b))), (2, .int (nI (c)))] := by rw [hn] at hl; exact hl
          have hil := imL_ok (cd := (cdS ht)) (o := c) hdo.1 hk36
          refine lv_aload_n hx hb dX8_spread_20 rfl (lv_at hl 2 rfl) ?_
          refine lv_aload_n hx hb dX8_spread_21 rfl (lv_at hl 3 rfl) ?_
          refine lv_iload hx hb dX8_spread_22 (lv_at hl 0 rfl) ?_
          refine lv_iload_n hx hb dX8_spread_24 rfl (lv_at hl 4 rfl) ?_
          refine g_afi (g_runV S hI hP hS (k := 3) (As := [.ref (ad (b)), .int (nI (hn_k)), .int (nI (c))]) (rest := []) (mX8_improve l b ht dr pg wt wr mo mc ni po dn r (spD (cdS ht) c (lv, wa, ke) d).1 hn_k c hb2 hb3 hb5 hbr hht hdo.1 hk36 hc) q772 q774 q23 q89 q775 rfl rfl (by decide +kernel) ⟨Nat.le_of_ble_eq_true rfl, Nat.le_of_ble_eq_true rfl⟩ rfl (hb3.lt 0 (by decide)) (hb3.2 0 (by decide)) rfl hl.1 rfl (Nat.le_of_ble_eq_true rfl) ⟨(Nat.le_of_ble_eq_true rfl), (Nat.le_of_ble_eq_true rfl)⟩ dX8_spread_25) hS (fun rz w1 H locs hq hP hS => ?_)
          obtain ⟨hr8, hb6, hf7⟩ := hq
          rw [hr8]
          have hb9 := hb2.fr hf7 (fun k hk => by show ¬ _; (try simp only [gIn]); (try dsimp only); omega)
          have hb10 := hb3.fr hf7 (fun k hk => by show ¬ _; (try simp only [gIn]); (try dsimp only); omega)
          have hb11 := hb4.fr hf7 (fun k hk => by show ¬ _; (try simp only [gIn]); (try dsimp only); omega)
          have hfr := hfr.trans hf7 (fun q hq => by (try simp only [gIn] at hq ⊢); (try dsimp only at hq ⊢); omega)
          refine g_beq S (b := imB (cdS ht) (spD (cdS ht) c (lv, wa, ke) d).1 hn_k c) (tgt := 47) dX8_spread_28 (by decide) (fun hi => ?_) (fun hi => ?_)
          · have hsame : imL (cdS ht) (spD (cdS ht) c (lv, wa, ke) d).1 hn_k c = (spD (cdS ht) c (lv, wa, ke) d).1 := imL_n hi
            rw [hsame] at hb6
            have hde : (spD (cdS ht) c (lv, wa, ke) (d + 1)) = (spD (cdS ht) c (lv, wa, ke) d) := by simp only [spD, hn]; rw [if_neg (by rw [hi]; decide)]
            rw [show (spD (cdS ht) c (lv, wa, ke) d).1 = (spD (cdS ht) c (lv, wa, ke) (d + 1)).1 by rw [hde]] at hb6
            rw [show (spD (cdS ht) c (lv, wa, ke) d).2.1 = (spD (cdS ht) c (lv, wa, ke) (d + 1)).2.1 by rw [hde], show (spD (cdS ht) c (lv, wa, ke) d).2.2 = (spD (cdS ht) c (lv, wa, ke) (d + 1)).2.2 by rw [hde]] at hb11
            refine lv_iinc (v := nI (d + 1)) (lv' := [(3, .int (nI (d + 1))), (4, .int (nI (hn_k))), (0, .ref (ad (r))), (1, .ref (ad (b))), (2, .int (nI (c)))]) hx hb dX8_spread_47 hl (k := 1) rfl (g_inc _ 1 (by decide +kernel)) (by decide) rfl (fun ls hl => ?_)
            refine lv_goto (tgt := 2) hx hb dX8_spread_50 (by decide) ?_
            exact ih_loop1 (d + 1) (by omega) (by omega) _ _ _ hP hS hb9 hb10 hb11 hb6 hfr ls (lv_sub hl [0, 2, 3, 4] rfl)
          · refine lv_aload_n hx hb dX8_spread_31 rfl (lv_at hl 2 rfl) ?_
            refine g_get S hI hP uX8 rfl (fs := _) (hb10.lt 0 (by decide)) (hb10.2 0 (by decide)) 0 (by decide) q274 rfl (v := .ref (ad (r + 1))) rfl dX8_spread_32 ?_
            refine lv_iload hx hb dX8_spread_35 (lv_at hl 0 rfl) ?_
            refine lv_aload_n hx hb dX8_spread_37 rfl (lv_at hl 2 rfl) ?_
            refine g_get S hI hP uX8 rfl (fs := _) (hb10.lt 0 (by decide)) (hb10.2 0 (by decide)) 1 (by decide) q275 rfl (v := .ref (ad (r + 4))) rfl dX8_spread_38 ?_
            refine lv_iload hx hb dX8_spread_41 (lv_at hl 0 rfl) ?_
            refine g_iald S hI hP (f := fun j => nI ((imL (cdS ht) (spD (cdS ht) c (lv, wa, ke) d).1 hn_k c) j)) (hb6.lt 0 (by decide)) (hb6.2 0 (by decide)) (hn_k) (hk36) (by decide) dX8_spread_43 ?_
            refine g_afv (g_runV S hI hP hS (k := 2) (As := [.int (nI (hn_k)), .int (nI ((imL (cdS ht) (spD (cdS ht) c (lv, wa, ke) d).1 hn_k c) hn_k))]) (rest := []) (mX1_put l (r + 1) (spD (cdS ht) c (lv, wa, ke) d).2.1 (spD (cdS ht) c (lv, wa, ke) d).2.2 hn_k ((imL (cdS ht) (spD (cdS ht) c (lv, wa, ke) d).1 hn_k c) hn_k) hb11 hk36) q759 q760 q761 q90 q762 rfl rfl (by decide +kernel) ⟨Nat.le_of_ble_eq_true rfl, Nat.le_of_ble_eq_true rfl⟩ rfl (hb11.lt 0 (by decide)) (hb11.2 0 (by decide)) rfl hl.1 rfl (Nat.le_of_ble_eq_true rfl) ⟨(Nat.le_of_ble_eq_true rfl), (Nat.le_of_ble_eq_true rfl)⟩ dX8_spread_44) hS (fun w1 H locs hq hP hS => ?_)
            obtain ⟨hb12, hf13⟩ := hq
            have hb14 := hb9.fr hf13 (fun k hk => by show ¬ _; (try simp only [gIn]); (try dsimp only); omega)
            have hb15 := hb10.fr hf13 (fun k hk => by show ¬ _; (try simp only [gIn]); (try dsimp only); omega)
            have hb16 := hb6.fr hf13 (fun k hk => by show ¬ _; (try simp only [gIn]); (try dsimp only); omega)
            have hfr := hfr.trans hf13 (fun q hq => by (try simp only [gIn] at hq ⊢); (try dsimp only at hq ⊢); omega)
            have hde : (spD (cdS ht) c (lv, wa, ke) (d + 1)) = (imL (cdS ht) (spD (cdS ht) c (lv, wa, ke) d).1 hn_k c, va_up (spD (cdS ht) c (lv, wa, ke) d).2.1 hn_k 1, va_up (spD (cdS ht) c (lv, wa, ke) d).2.2 hn_k ((imL (cdS ht) (spD (cdS ht) c (lv, wa, ke) d).1 hn_k c) hn_k)) := by simp only [spD, hn]; rw [if_pos hi]
            rw [show imL (cdS ht) (spD (cdS ht) c (lv, wa, ke) d).1 hn_k c = (spD (cdS ht) c (lv, wa, ke) (d + 1)).1 by rw [hde]] at hb16
            rw [show va_up (spD (cdS ht) c (lv, wa, ke) d).2.1 hn_k 1 = (spD (cdS ht) c (lv, wa, ke) (d + 1)).2.1 by rw [hde], show va_up (spD (cdS ht) c (lv, wa, ke) d).2.2 hn_k ((imL (cdS ht) (spD (cdS ht) c (lv, wa, ke) d).1 hn_k c) hn_k) = (spD (cdS ht) c (lv, wa, ke) (d + 1)).2.2 by rw [hde]] at hb12
            refine lv_iinc (v := nI (d + 1)) (lv' := [(3, .int (nI (d + 1))), (4, .int (nI (hn_k))), (0, .ref (ad (r))), (1, .ref (ad (b))), (2, .int (nI (c)))]) hx hb dX8_spread_47 hl (k := 1) rfl (g_inc _ 1 (by decide +kernel)) (by decide) rfl (fun ls hl => ?_)
            refine lv_goto (tgt := 2) hx hb dX8_spread_50 (by decide) ?_
            exact ih_loop1 (d + 1) (by omega) (by omega) _ _ _ hP hS hb14 hb15 hb12 hb16 hfr ls (lv_sub hl [0, 2, 3, 4] rfl)
  exact loop1 (4 - (0) + 1) (0) (Nat.lt_succ_self _) (by omega) _ _ _ hP hS hb_s hb_g hb_q hb_l hfr ls (lv_sub hl [0, 1, 2, 3] rfl)
set_option maxHeartbeats 4000000 in
set_option maxRecDepth 100000 in
/-- a round -/
theorem mX8_improveAll (l : Launch) {E : gE} {ad : Nat → Nat} {N : Nat} {w : Nat → va_E} (b : Nat) (ht dr pg wt wr mo : Nat → Nat) (mc ni po dn : Nat) (r : Nat) (lv : Nat → Nat) (hb_s : bkP N w b 7 (SHC E ad b ht dr pg wt wr mo mc ni po dn)) (hb_g : bkP N w r 1 (SLC E ad r )) (hb_l : bkP N w (r + 4) 1 (LVC E ad (r + 4) lv)) (hbr : b + 7 ≤ r) (hht : ∀ k, k < 36 → ht k ≤ 99) (hlv : ∀ k, k < 36 → lv k ≤ 100) : gMi l yX8_improveAll (lw_ws yX8_improveAll cX8_improveAll 6 (some .boolean)) ({ frames := 2, cells := 0, slots := 0, locals := 45 } : Room) E ad N w [.ref (ad (r)), .ref (ad (b))] (fun z w' => z = bI (iaN (cdS ht) lv 36).2 ∧ bkP N w' (r + 4) 1 (LVC E ad (r + 4) (iaN (cdS ht) lv 36).1) ∧ gFr (gIn (r + 4) 1) w w') 0 0 := by
  refine Met.ofW (cc := cX8_improveAll) (maxL := 6) (ret := (some .boolean)) (by decide) rfl ?_
  intro p e s m args below meth cd s₁ B hml hv
  obtain ⟨rfl, hI, hP⟩ := hv
  obtain ⟨S, hr, hlocks⟩ := gPre (ws := []) B hml (C := RX8) rfl
  have hx := S.1
  have hb := S.2.1
  have hS : va_S (gA E) s.heap s.heap [] := va_S.rf
  have hfr : gFr (gIn (r + 4) 1) w w := gFr.rf
  have hl := lv_entry ([.ref (ad (r)), .ref (ad (b))]) (n := 6) (Nat.le_of_ble_eq_true rfl)
  rw [lg_entry_eq]
  generalize (lg_sl ([.ref (ad (r)), .ref (ad (b))]) ++ List.replicate (6 - (lg_sl ([.ref (ad (r)), .ref (ad (b))])).length) Slot.unset).toArray = ls at hl ⊢
  have hl : lv_has ls 6 [(0, .ref (ad (r))), (1, .ref (ad (b)))] := hl
  refine g_iconst S 0 dX8_improveAll_0 (by decide +kernel) ?_
  refine lv_istore_n (lv' := [(2, .int (nI (0))), (0, .ref (ad (r))), (1, .ref (ad (b)))]) hx hb dX8_improveAll_1 rfl hl (by decide) rfl (fun ls hl => ?_)
  refine g_iconst S 0 dX8_improveAll_2 (by decide +kernel) ?_
  refine lv_istore_n (lv' := [(3, .int (nI (0))), (2, .int (nI (0))), (0, .ref (ad (r))), (1, .ref (ad (b)))]) hx hb dX8_improveAll_3 rfl hl (by decide) rfl (fun ls hl => ?_)
  have hl : lv_has ls 6 [(3, .int (nI (0))), (2, .int (bI ((iaN (cdS ht) lv 0).2))), (0, .ref (ad (r))), (1, .ref (ad (b)))] := by exact hl
  have loop1 : ∀ (n : Nat) (i : Nat), 36 - i < n → (i ≤ 36) → ∀ (w1 : Nat → va_E) (H : Heap) (locs : List Loc), gP E ad N w1 H → va_S (gA E) s.heap H locs → bkP N w1 b 7 (SHC E ad b ht dr pg wt wr mo mc ni po dn) → bkP N w1 r 1 (SLC E ad r ) → bkP N w1 (r + 4) 1 (LVC E ad (r + 4) ((iaN (cdS ht) lv i).1)) → gFr (gIn (r + 4) 1) w w1 → ∀ (ls : Array Slot), lv_has ls 6 [(3, .int (nI (i))), (2, .int (bI ((iaN (cdS ht) lv i).2))), (0, .ref (ad (r))), (1, .ref (ad (b)))] → W p l e (headSpec (lw_ws yX8_improveAll cX8_improveAll 6 (some .boolean)) ({ frames := 2, cells := 0, slots := 0, locals := 45 } : Room)).room s m ([.ref (ad (r)), .ref (ad (b))] : List Value).toArray below meth cd H locs 0 0 (MQ below (va_Qi (fun z w' => z = bI (iaN (cdS ht) lv 36).2 ∧ bkP N w' (r + 4) 1 (LVC E ad (r + 4) (iaN (cdS ht) lv 36).1) ∧ gFr (gIn (r + 4) 1) w w') (gB E ad N) (gA E)) ([.ref (ad (r)), .ref (ad (b))] : List Value).toArray s 0 0 (gA E)) (F0 m 4 ls []) := by
    intro n
    induction n with
    | zero => intro i hmeas; omega
    | succ n ih_loop1 =>
      intro i hmeas hi w1 H locs hP hS hb2 hb3 hb4 hfr ls hl
      have hio := iaN_ok (cd := (cdS ht)) hlv hi
      refine lv_iload_n hx hb dX8_improveAll_4 rfl (lv_at hl 0 rfl) ?_
      refine g_bipush S 36 dX8_improveAll_5 (by decide +kernel) ?_
      refine g_ge S (a := i) (b := 36) (by omega) (by omega) (tgt := 58) dX8_improveAll_7 (by decide) (fun h => ?_) (fun h => ?_)
      · have e_i : i = 36 := by omega
        subst e_i
        refine lv_iload_n hx hb dX8_improveAll_58 rfl (lv_at hl 1 rfl) ?_
        exact g_zret S hr hlocks (bI_01 _) hP hS (⟨rfl, hb4, hfr⟩) (fun _ _ => rfl) (Nat.le_of_ble_eq_true rfl) (Nat.le_of_ble_eq_true rfl) dX8_improveAll_59
      · refine g_iconst S 0 dX8_improveAll_10 (by decide +kernel) ?_
        refine lv_istore (lv' := [(4, .int (nI (0))), (3, .int (nI (i))), (2, .int (bI ((iaN (cdS ht) lv i).2))), (0, .ref (ad (r))), (1, .ref (ad (b)))]) hx hb dX8_improveAll_11 hl (by decide) rfl (fun ls hl => ?_)
        have loop5 : ∀ (n : Nat) (d : Nat), 4 - d < n → (d ≤ 4) → ∀ (w1 : Nat → va_E) (H : Heap) (locs : List Loc), gP E ad N w1 H → va_S (gA E) s.heap H locs → bkP N w1 b 7 (SHC E ad b ht dr pg wt wr mo mc ni po dn) → bkP N w1 r 1 (SLC E ad r ) → bkP N w1 (r + 4) 1 (LVC E ad (r + 4) ((iaD (cdS ht) i (iaN (cdS ht) lv i) d).1)) → gFr (gIn (r + 4) 1) w w1 → ∀ (ls : Array Slot), lv_has ls 6 [(4, .int (nI (d))), (3, .int (nI (i))), (2, .int (bI ((iaD (cdS ht) i (iaN (cdS ht) lv i) d).2))), (0, .ref (ad (r))), (1, .ref (ad (b)))] → W p l e (headSpec (lw_ws yX8_improveAll cX8_improveAll 6 (some .boolean)) ({ frames := 2, cells := 0, slots := 0, locals := 45 } : Room)).room s m ([.ref (ad (r)), .ref (ad (b))] : List Value).toArray below meth cd H locs 0 0 (MQ below (va_Qi (fun z w' => z = bI (iaN (cdS ht) lv 36).2 ∧ bkP N w' (r + 4) 1 (LVC E ad (r + 4) (iaN (cdS ht) lv 36).1) ∧ gFr (gIn (r + 4) 1) w w') (gB E ad N) (gA E)) ([.ref (ad (r)), .ref (ad (b))] : List Value).toArray s 0 0 (gA E)) (F0 m 13 ls []) := by
          intro n
          induction n with
          | zero => intro d hmeas; omega
          | succ n ih_loop5 =>
            intro d hmeas hd w1 H locs hP hS hb6 hb7 hb8 hfr ls hl
            have hdo := iaD_ok (cd := (cdS ht)) h hio d
            refine lv_iload hx hb dX8_improveAll_13 (lv_at hl 0 rfl) ?_
            refine g_iconst S 4 dX8_improveAll_15 (by decide +kernel) ?_
            refine g_ge S (a := d) (b := 4) (by omega) (by omega) (tgt := 52) dX8_improveAll_16 (by decide) (fun hd4 => ?_) (fun hd4 => ?_)
            · have e_d : d = 4 := by omega
              subst e_d
              refine lv_iinc (v := nI (i + 1)) (lv' := [(3, .int (nI (i + 1))), (4, .int (nI (4))), (2, .int (bI ((iaD (cdS ht) i (iaN (cdS ht) lv i) 4).2))), (0, .ref (ad (r))), (1, .ref (ad (b)))]) hx hb dX8_improveAll_52 hl (k := 1) rfl (g_inc _ 1 (by decide +kernel)) (by decide) rfl (fun ls hl => ?_)
              refine lv_goto (tgt := 4) hx hb dX8_improveAll_55 (by decide) ?_
              exact ih_loop1 (i + 1) (by omega) (by omega) _ _ _ hP hS hb6 hb7 hb8 hfr ls (lv_sub hl [0, 2, 3, 4] rfl)
            · refine lv_iload_n hx hb dX8_improveAll_19 rfl (lv_at hl 1 rfl) ?_
              refine lv_iload hx hb dX8_improveAll_20 (lv_at hl 0 rfl) ?_
              refine g_roi (g_runSN S hI hP hS (k := 2) (As := [.int (nI (i)), .int (nI (d))]) (rest := []) (mX12_neighbour l i d h hd4) q771 q675 q82 q676 rfl rfl (by decide +kernel) ⟨Nat.le_of_ble_eq_true rfl, Nat.le_of_ble_eq_true rfl⟩ rfl hl.1 rfl (Nat.le_of_ble_eq_true rfl) ⟨(Nat.le_of_ble_eq_true rfl), (Nat.le_of_ble_eq_true rfl)⟩ dX8_improveAll_22) hS (fun H locs hP hS => ?_)
              refine lv_istore (lv' := [(5, .int (oI (nb i d))), (4, .int (nI (d))), (3, .int (nI (i))), (2, .int (bI ((iaD (cdS ht) i (iaN (cdS ht) lv i) d).2))), (0, .ref (ad (r))), (1, .ref (ad (b)))]) hx hb dX8_improveAll_25 hl (by decide) rfl (fun ls hl => ?_)
              refine lv_iload hx hb dX8_improveAll_27 (lv_at hl 0 rfl) ?_
              refine lv_iconst (v := -1) hx hb dX8_improveAll_29 (by decide +kernel) ?_
              refine g_oeq S (o := nb i d) (fun k hk => Nat.lt_trans (nb_lt h hk) (by decide)) (tgt := 46) dX8_improveAll_30 (by decide) (fun hn => ?_) (fun hn_k hn => ?_)
              · have hde : (iaD (cdS ht) i (iaN (cdS ht) lv i) (d + 1)) = (iaD (cdS ht) i (iaN (cdS ht) lv i) d) := by simp [iaD, hn]
                rw [show (iaD (cdS ht) i (iaN (cdS ht) lv i) d).1 = (iaD (cdS ht) i (iaN (cdS ht) lv i) (d + 1)).1 by rw [hde]] at hb8
                refine lv_iinc (v := nI (d + 1)) (lv' := [(4, .int (nI (d + 1))), (5, .int (oI (nb i d))), (3, .int (nI (i))), (2, .int (bI ((iaD (cdS ht) i (iaN (cdS ht) lv i) d).2))), (0, .ref (ad (r))), (1, .ref (ad (b)))]) hx hb dX8_improveAll_46 hl (k := 1) rfl (g_inc _ 1 (by decide +kernel)) (by decide) rfl (fun ls hl => ?_)
                refine lv_goto (tgt := 13) hx hb dX8_improveAll_49 (by decide) ?_
                have hl : lv_has ls 6 [(4, .int (nI (d + 1))), (5, .int (oI (nb i d))), (3, .int (nI (i))), (2, .int (bI ((iaD (cdS ht) i (iaN (cdS ht) lv i) (d + 1)).2))), (0, .ref (ad (r))), (1, .ref (ad (b)))] := by rw [show (iaD (cdS ht) i (iaN (cdS ht) lv i) (d + 1)).2 = (iaD (cdS ht) i (iaN (cdS ht) lv i) d).2 by rw [hde]]; exact hl
                exact ih_loop5 (d + 1) (by omega) (by omega) _ _ _ hP hS hb6 hb7 hb8 hfr ls (lv_sub hl [0, 2, 3, 4, 5] rfl)
              · have hk36 := nb_lt h hn
                have hl : lv_has ls 6 [(5, .int (nI (hn_k))), (4, .int (nI (d))), (3, .int (nI (i))), (2, .int (bI ((iaD (cdS ht) i (iaN (cdS ht) lv i) d).2))), (0, .ref (ad (r))), (1, .ref (ad (b)))] := by rw [hn] at hl; exact hl
                refine lv_aload_n hx hb dX8_improveAll_33 rfl (lv_at hl 4 rfl) ?_
                refine lv_aload_n hx hb dX8_improveAll_34 rfl (lv_at hl 5 rfl) ?_
                refine lv_iload_n hx hb dX8_improveAll_35 rfl (lv_at hl 2 rfl) ?_
                refine lv_iload hx hb dX8_improveAll_36 (lv_at hl 0 rfl) ?_
                refine g_afi (g_runV S hI hP hS (k := 3) (As := [.ref (ad (b)), .int (nI (i)), .int (nI (hn_k))]) (rest := []) (mX8_improve l b ht dr pg wt wr mo mc ni po dn r (iaD (cdS ht) i (iaN (cdS ht) lv i) d).1 i hn_k hb6 hb7 hb8 hbr hht hdo h hk36) q772 q774 q23 q89 q775 rfl rfl (by decide +kernel) ⟨Nat.le_of_ble_eq_true rfl, Nat.le_of_ble_eq_true rfl⟩ rfl (hb7.lt 0 (by decide)) (hb7.2 0 (by decide)) rfl hl.1 rfl (Nat.le_of_ble_eq_true rfl) ⟨(Nat.le_of_ble_eq_true rfl), (Nat.le_of_ble_eq_true rfl)⟩ dX8_improveAll_38) hS (fun rz w1 H locs hq hP hS => ?_)
                obtain ⟨hr11, hb9, hf10⟩ := hq
                rw [hr11]
                have hb12 := hb6.fr hf10 (fun k hk => by show ¬ _; (try simp only [gIn]); (try dsimp only); omega)
                have hb13 := hb7.fr hf10 (fun k hk => by show ¬ _; (try simp only [gIn]); (try dsimp only); omega)
                have hfr := hfr.trans hf10 (fun q hq => by (try simp only [gIn] at hq ⊢); (try dsimp only at hq ⊢); omega)
                refine g_beq S (b := imB (cdS ht) (iaD (cdS ht) i (iaN (cdS ht) lv i) d).1 i hn_k) (tgt := 46) dX8_improveAll_41 (by decide) (fun hib => ?_) (fun hib => ?_)
                · have hde : (iaD (cdS ht) i (iaN (cdS ht) lv i) (d + 1)) = (imL (cdS ht) (iaD (cdS ht) i (iaN (cdS ht) lv i) d).1 i hn_k, (iaD (cdS ht) i (iaN (cdS ht) lv i) d).2) := by simp only [iaD, hn]; rw [hib]; rfl
                  rw [show imL (cdS ht) (iaD (cdS ht) i (iaN (cdS ht) lv i) d).1 i hn_k = (iaD (cdS ht) i (iaN (cdS ht) lv i) (d + 1)).1 by rw [hde]] at hb9
                  refine lv_iinc (v := nI (d + 1)) (lv' := [(4, .int (nI (d + 1))), (5, .int (nI (hn_k))), (3, .int (nI (i))), (2, .int (bI ((iaD (cdS ht) i (iaN (cdS ht) lv i) d).2))), (0, .ref (ad (r))), (1, .ref (ad (b)))]) hx hb dX8_improveAll_46 hl (k := 1) rfl (g_inc _ 1 (by decide +kernel)) (by decide) rfl (fun ls hl => ?_)
                  refine lv_goto (tgt := 13) hx hb dX8_improveAll_49 (by decide) ?_
                  have hl : lv_has ls 6 [(4, .int (nI (d + 1))), (5, .int (nI (hn_k))), (3, .int (nI (i))), (2, .int (bI ((iaD (cdS ht) i (iaN (cdS ht) lv i) (d + 1)).2))), (0, .ref (ad (r))), (1, .ref (ad (b)))] := by rw [show (iaD (cdS ht) i (iaN (cdS ht) lv i) (d + 1)).2 = (iaD (cdS ht) i (iaN (cdS ht) lv i) d).2 by rw [hde]]; exact hl
                  exact ih_loop5 (d + 1) (by omega) (by omega) _ _ _ hP hS hb12 hb13 hb9 hfr ls (lv_sub hl [0, 2, 3, 4, 5] rfl)
                · have hde : (iaD (cdS ht) i (iaN (cdS ht) lv i) (d + 1)) = (imL (cdS ht) (iaD (cdS ht) i (iaN (cdS ht) lv i) d).1 i hn_k, true) := by simp only [iaD, hn]; rw [hib]; rfl
                  rw [show imL (cdS ht) (iaD (cdS ht) i (iaN (cdS ht) lv i) d).1 i hn_k = (iaD (cdS ht) i (iaN (cdS ht) lv i) (d + 1)).1 by rw [hde]] at hb9
                  refine g_iconst S 1 dX8_improveAll_44 (by decide +kernel) ?_
                  refine lv_istore_n (lv' := [(2, .int (nI (1))), (5, .int (nI (hn_k))), (4, .int (nI (d))), (3, .int (nI (i))), (0, .ref (ad (r))), (1, .ref (ad (b)))]) hx hb dX8_improveAll_45 rfl hl (by decide) rfl (fun ls hl => ?_)
                  refine lv_iinc (v := nI (d + 1)) (lv' := [(4, .int (nI (d + 1))), (2, .int (nI (1))), (5, .int (nI (hn_k))), (3, .int (nI (i))), (0, .ref (ad (r))), (1, .ref (ad (b)))]) hx hb dX8_improveAll_46 hl (k := 2) rfl (g_inc _ 1 (by decide +kernel)) (by decide) rfl (fun ls hl => ?_)
                  refine lv_goto (tgt := 13) hx hb dX8_improveAll_49 (by decide) ?_
                  have hl : lv_has ls 6 [(4, .int (nI (d + 1))), (2, .int (bI ((iaD (cdS ht) i (iaN (cdS ht) lv i) (d + 1)).2))), (5, .int (nI (hn_k))), (3, .int (nI (i))), (0, .ref (ad (r))), (1, .ref (ad (b)))] := by rw [show (iaD (cdS ht) i (iaN (cdS ht) lv i) (d + 1)).2 = true by rw [hde]]; exact hl
                  exact ih_loop5 (d + 1) (by omega) (by omega) _ _ _ hP hS hb12 hb13 hb9 hfr ls (lv_sub hl [0, 3, 1, 4, 5] rfl)
        exact loop5 (4 - (0) + 1) (0) (Nat.lt_succ_self _) (by omega) _ _ _ hP hS hb2 hb3 hb4 hfr ls (lv_sub hl [0, 1, 2, 3, 4] rfl)
  exact loop1 (36 - (0) + 1) (0) (Nat.lt_succ_self _) (by omega) _ _ _ hP hS hb_s hb_g hb_l hfr ls (lv_sub hl [0, 1, 2, 3] rfl)
set_option maxHeartbeats 4000000 in
set_option maxRecDepth 100000 in
/-- is a cell improved -/
theorem mX6_improve (l : Launch) {E : gE} {ad : Nat → Nat} {N : Nat} {w : Nat → va_E} (b : Nat) (ht dr pg wt wr mo : Nat → Nat) (mc ni po dn : Nat) (r : Nat) (pn : Nat) (lv : Nat → Nat) (k o : Nat) (hb_s : bkP N w b 7 (SHC E ad b ht dr pg wt wr mo mc ni po dn)) (hb_g : bkP N w r 1 (RTC E ad r pn)) (hb_l : bkP N w (r + 9) 1 (LVC E ad (r + 9) lv)) (hbr : b + 7 ≤ r) (hht : ∀ k, k < 36 → ht k ≤ 99) (hwr : ∀ k, k < 36 → wr k ≤ 3) (hlv : ∀ k, k < 36 → lv k ≤ 1000000) (hk : k < 36) (ho : o < 36) : gMi l yX6_improve (lw_ws yX6_improve cX6_improve 5 (some .boolean)) ({ frames := 2, cells := 0, slots := 0, locals := 43 } : Room) E ad N w [.ref (ad (r)), .ref (ad (b)), .int (nI (k)), .int (nI (o))] (fun z w' => z = bI (imB (cdR ht wr) lv k o) ∧ bkP N w' (r + 9) 1 (LVC E ad (r + 9) (imL (cdR ht wr) lv k o)) ∧ gFr (gIn (r + 9) 1) w w') 0 0 := by
  refine Met.ofW (cc := cX6_improve) (maxL := 5) (ret := (some .boolean)) (by decide) rfl ?_
  intro p e s m args below meth cd s₁ B hml hv
  obtain ⟨rfl, hI, hP⟩ := hv
  obtain ⟨S, hr, hlocks⟩ := gPre (ws := []) B hml (C := RX6) rfl
  have hx := S.1
  have hb := S.2.1
  have hS : va_S (gA E) s.heap s.heap [] := va_S.rf
  have hfr : gFr (gIn (r + 9) 1) w w := gFr.rf
  have hl := lv_entry ([.ref (ad (r)), .ref (ad (b)), .int (nI (k)), .int (nI (o))]) (n := 5) (Nat.le_of_ble_eq_true rfl)
  rw [lg_entry_eq]
  generalize (lg_sl ([.ref (ad (r)), .ref (ad (b)), .int (nI (k)), .int (nI (o))]) ++ List.replicate (5 - (lg_sl ([.ref (ad (r)), .ref (ad (b)), .int (nI (k)), .int (nI (o))])).length) Slot.unset).toArray = ls at hl ⊢
  have hl : lv_has ls 5 [(0, .ref (ad (r))), (1, .ref (ad (b))), (2, .int (nI (k))), (3, .int (nI (o)))] := hl
  have z1 := hlv k hk
  have z2 := hlv o ho
  have z3 := hht k hk
  have z4 := hht o ho
  have z5 : dif (ht k) (ht o) ≤ 99 := by unfold dif; split <;> omega
  refine lv_aload_n hx hb dX6_improve_0 rfl (lv_at hl 0 rfl) ?_
  refine g_get S hI hP uX6 rfl (fs := _) (hb_g.lt 0 (by decide)) (hb_g.2 0 (by decide)) 3 (by decide) q296 rfl (v := .ref (ad (r + 9))) rfl dX6_improve_1 ?_
  refine lv_iload_n hx hb dX6_improve_4 rfl (lv_at hl 3 rfl) ?_
  refine g_iald S hI hP (f := fun j => nI (lv j)) (hb_l.lt 0 (by decide)) (hb_l.2 0 (by decide)) (o) (ho) (by decide) dX6_improve_5 ?_
  refine g_iconst S 1 dX6_improve_6 (by decide +kernel) ?_
  refine g_iadd S dX6_improve_7 ?_
  refine lv_aload_n hx hb dX6_improve_8 rfl (lv_at hl 1 rfl) ?_
  refine lv_iload_n hx hb dX6_improve_9 rfl (lv_at hl 2 rfl) ?_
  refine lv_iload_n hx hb dX6_improve_10 rfl (lv_at hl 3 rfl) ?_
  refine g_roi (g_runV S hI hP hS (k := 2) (As := [.int (nI (k)), .int (nI (o))]) (rest := [.int (nI (lv o + 1))]) (mX7_difference l b ht dr pg wt wr mo mc ni po dn k o hb_s hk ho hht) q1087 q1088 q1089 q83 q1090 rfl rfl (by decide +kernel) ⟨Nat.le_of_ble_eq_true rfl, Nat.le_of_ble_eq_true rfl⟩ rfl (hb_s.lt 0 (by decide)) (hb_s.2 0 (by decide)) rfl hl.1 rfl (Nat.le_of_ble_eq_true rfl) ⟨(Nat.le_of_ble_eq_true rfl), (Nat.le_of_ble_eq_true rfl)⟩ dX6_improve_11) hS (fun H locs hP hS => ?_)
  refine g_iadd S dX6_improve_14 ?_
  refine lv_istore (lv' := [(4, .int (nI (lv o + 1 + (dif (ht k) (ht o))))), (0, .ref (ad (r))), (1, .ref (ad (b))), (2, .int (nI (k))), (3, .int (nI (o)))]) hx hb dX6_improve_15 hl (by decide) rfl (fun ls hl => ?_)
  refine lv_aload_n hx hb dX6_improve_17 rfl (lv_at hl 2 rfl) ?_
  refine lv_iload_n hx hb dX6_improve_18 rfl (lv_at hl 3 rfl) ?_
  refine g_roi (g_runV S hI hP hS (k := 1) (As := [.int (nI (k))]) (rest := []) (mX7_hasHole l b ht dr pg wt wr mo mc ni po dn k hb_s hk (hwr k hk)) q1073 q506 q507 q83 q508 rfl rfl (by decide +kernel) ⟨Nat.le_of_ble_eq_true rfl, Nat.le_of_ble_eq_true rfl⟩ rfl (hb_s.lt 0 (by decide)) (hb_s.2 0 (by decide)) rfl hl.1 rfl (Nat.le_of_ble_eq_true rfl) ⟨(Nat.le_of_ble_eq_true rfl), (Nat.le_of_ble_eq_true rfl)⟩ dX6_improve_19) hS (fun H locs hP hS => ?_)
  refine g_bne S (b := decide (3 ≤ wr k)) (tgt := 36) dX6_improve_22 (by decide) (fun hh => ?_) (fun hh => ?_)
  · have hye : 3 ≤ wr k := of_decide_eq_true hh
    refine g_iconst S 0 dX6_improve_36 (by decide +kernel) ?_
    exact g_zret S hr hlocks (Or.inl nI_0) hP hS (⟨by rw [(imB_0 (cd := (cdR ht wr)) (lv := lv) (k := k) (o := o) (by simp only [cdR]; rw [if_pos hye])).1]; rfl, by rw [(imB_0 (cd := (cdR ht wr)) (lv := lv) (k := k) (o := o) (by simp only [cdR]; rw [if_pos hye])).2]; exact hb_l, hfr⟩) (fun _ _ => rfl) (Nat.le_of_ble_eq_true rfl) (Nat.le_of_ble_eq_true rfl) dX6_improve_37
  · have hno : ¬ 3 ≤ wr k := of_decide_eq_false hh
    have hcd : (cdR ht wr) lv k o = some (lv o + 1 + dif (ht k) (ht o)) := by simp only [cdR]; rw [if_neg hno]
    refine lv_iload hx hb dX6_improve_25 (lv_at hl 0 rfl) ?_
    refine lv_aload_n hx hb dX6_improve_27 rfl (lv_at hl 1 rfl) ?_
    refine g_get S hI hP uX6 rfl (fs := _) (hb_g.lt 0 (by decide)) (hb_g.2 0 (by decide)) 3 (by decide) q296 rfl (v := .ref (ad (r + 9))) rfl dX6_improve_28 ?_
    refine lv_iload_n hx hb dX6_improve_31 rfl (lv_at hl 3 rfl) ?_
    refine g_iald S hI hP (f := fun j => nI (lv j)) (hb_l.lt 0 (by decide)) (hb_l.2 0 (by decide)) (k) (hk) (by decide) dX6_improve_32 ?_
    refine g_lt S (a := lv o + 1 + (dif (ht k) (ht o))) (b := lv k) (by omega) (by omega) (tgt := 38) dX6_improve_33 (by decide) (fun h => ?_) (fun h => ?_)
    · refine lv_aload_n hx hb dX6_improve_38 rfl (lv_at hl 1 rfl) ?_
      refine g_get S hI hP uX6 rfl (fs := _) (hb_g.lt 0 (by decide)) (hb_g.2 0 (by decide)) 3 (by decide) q296 rfl (v := .ref (ad (r + 9))) rfl dX6_improve_39 ?_
      refine lv_iload_n hx hb dX6_improve_42 rfl (lv_at hl 3 rfl) ?_
      refine lv_iload hx hb dX6_improve_43 (lv_at hl 0 rfl) ?_
      refine g_iastN S hI hP hS (f := lv) (x := lv o + 1 + (dif (ht k) (ht o))) (hb_l.lt 0 (by decide)) (hb_l.2 0 (by decide)) (k) (hk) (by decide) dX6_improve_45 (fun H locs hP hS => ?_)
      have hP : gP E ad N (va_up _ (r + 9) (LVC E ad (r + 9) (va_up lv k (lv o + 1 + (dif (ht k) (ht o)))) 0)) H := hP
      have hb1 : bkP N (va_up _ (r + 9) (LVC E ad (r + 9) (va_up lv k (lv o + 1 + (dif (ht k) (ht o)))) 0)) (r + 9) 1 (LVC E ad (r + 9) (va_up lv k (lv o + 1 + (dif (ht k) (ht o))))) := LV_setA0 hb_l _
      have hb2 := hb_s.keep (p := r + 9) (e := LVC E ad (r + 9) (va_up lv k (lv o + 1 + (dif (ht k) (ht o)))) 0) (by omega)
      have hb3 := hb_g.keep (p := r + 9) (e := LVC E ad (r + 9) (va_up lv k (lv o + 1 + (dif (ht k) (ht o)))) 0) (by omega)
      have hfr := hfr.up (p := r + 9) (e := LVC E ad (r + 9) (va_up lv k (lv o + 1 + (dif (ht k) (ht o)))) 0) (by show _ ∧ _; omega)
      refine g_iconst S 1 dX6_improve_46 (by decide +kernel) ?_
      exact g_zret S hr hlocks (Or.inr (by decide +kernel)) hP hS (⟨by rw [(imB_y hcd h).1]; rfl, by rw [(imB_y hcd h).2]; exact hb1, hfr⟩) (fun _ _ => rfl) (Nat.le_of_ble_eq_true rfl) (Nat.le_of_ble_eq_true rfl) dX6_improve_47
    · refine g_iconst S 0 dX6_improve_36 (by decide +kernel) ?_
      exact g_zret S hr hlocks (Or.inl nI_0) hP hS (⟨by rw [(imB_n hcd (Nat.not_lt.mpr h)).1]; rfl, by rw [(imB_n hcd (Nat.not_lt.mpr h)).2]; exact hb_l, hfr⟩) (fun _ _ => rfl) (Nat.le_of_ble_eq_true rfl) (Nat.le_of_ble_eq_true rfl) dX6_improve_37
set_option maxHeartbeats 4000000 in
set_option maxRecDepth 100000 in
/-- from a cell to its neighbours -/
theorem mX6_spread (l : Launch) {E : gE} {ad : Nat → Nat} {N : Nat} {w : Nat → va_E} (b : Nat) (ht dr pg wt wr mo : Nat → Nat) (mc ni po dn : Nat) (r : Nat) (pn : Nat) (lv wa ke : Nat → Nat) (c : Nat) (hb_s : bkP N w b 7 (SHC E ad b ht dr pg wt wr mo mc ni po dn)) (hb_g : bkP N w r 1 (RTC E ad r pn)) (hb_q : bkP N w (r + 1) 3 (CQC E ad (r + 1) wa ke)) (hb_l : bkP N w (r + 9) 1 (LVC E ad (r + 9) lv)) (hbr : b + 7 ≤ r) (hht : ∀ k, k < 36 → ht k ≤ 99) (hwr : ∀ k, k < 36 → wr k ≤ 3) (hc : c < 36) (hok : t4Ok 1000000 (lv, wa, ke)) : gMv l yX6_spread (lw_ws yX6_spread cX6_spread 5 none) ({ frames := 3, cells := 0, slots := 0, locals := 67 } : Room) E ad N w [.ref (ad (r)), .ref (ad (b)), .int (nI (c))] (fun w' => bkP N w' (r + 1) 3 (CQC E ad (r + 1) (spD (cdR ht wr) c (lv, wa, ke) 4).2.1 (spD (cdR ht wr) c (lv, wa, ke) 4).2.2) ∧ bkP N w' (r + 9) 1 (LVC E ad (r + 9) (spD (cdR ht wr) c (lv, wa, ke) 4).1) ∧ gFr (fun q => (r + 1 ≤ q ∧ q < r + 4) ∨ q = r + 9) w w') 0 0 := by
  refine Met.ofW (cc := cX6_spread) (maxL := 5) (ret := none) (by decide) rfl ?_
  intro p e s m args below meth cd s₁ B hml hv
  obtain ⟨rfl, hI, hP⟩ := hv
  obtain ⟨S, hr, hlocks⟩ := gPre (ws := []) B hml (C := RX6) rfl
  have hx := S.1
  have hb := S.2.1
  have hS : va_S (gA E) s.heap s.heap [] := va_S.rf
  have hfr : gFr (fun q => (r + 1 ≤ q ∧ q < r + 4) ∨ q = r + 9) w w := gFr.rf
  have hl := lv_entry ([.ref (ad (r)), .ref (ad (b)), .int (nI (c))]) (n := 5) (Nat.le_of_ble_eq_true rfl)
  rw [lg_entry_eq]
  generalize (lg_sl ([.ref (ad (r)), .ref (ad (b)), .int (nI (c))]) ++ List.replicate (5 - (lg_sl ([.ref (ad (r)), .ref (ad (b)), .int (nI (c))])).length) Slot.unset).toArray = ls at hl ⊢
  have hl : lv_has ls 5 [(0, .ref (ad (r))), (1, .ref (ad (b))), (2, .int (nI (c)))] := hl
  refine g_iconst S 0 dX6_spread_0 (by decide +kernel) ?_
  refine lv_istore_n (lv' := [(3, .int (nI (0))), (0, .ref (ad (r))), (1, .ref (ad (b))), (2, .int (nI (c)))]) hx hb dX6_spread_1 rfl hl (by decide) rfl (fun ls hl => ?_)
  have loop1 : ∀ (n : Nat) (d : Nat), 4 - d < n → (d ≤ 4) → ∀ (w1 : Nat → va_E) (H : Heap) (locs : List Loc), gP E ad N w1 H → va_S (gA E) s.heap H locs → bkP N w1 b 7 (SHC E ad b ht dr pg wt wr mo mc ni po dn) → bkP N w1 r 1 (RTC E ad r pn) → bkP N w1 (r + 1) 3 (CQC E ad (r + 1) ((spD (cdR ht wr) c (lv, wa, ke) d).2.1) ((spD (cdR ht wr) c (lv, wa, ke) d).2.2)) → bkP N w1 (r + 9) 1 (LVC E ad (r + 9) ((spD (cdR ht wr) c (lv, wa, ke) d).1)) → gFr (fun q => (r + 1 ≤ q ∧ q < r + 4) ∨ q = r + 9) w w1 → ∀ (ls : Array Slot), lv_has ls 5 [(3, .int (nI (d))), (0, .ref (ad (r))), (1, .ref (ad (b))), (2, .int (nI (c)))] → W p l e (headSpec (lw_ws yX6_spread cX6_spread 5 none) ({ frames := 3, cells := 0, slots := 0, locals := 67 } : Room)).room s m ([.ref (ad (r)), .ref (ad (b)), .int (nI (c))] : List Value).toArray below meth cd H locs 0 0 (MQ below (va_Qv (fun w' => bkP N w' (r + 1) 3 (CQC E ad (r + 1) (spD (cdR ht wr) c (lv, wa, ke) 4).2.1 (spD (cdR ht wr) c (lv, wa, ke) 4).2.2) ∧ bkP N w' (r + 9) 1 (LVC E ad (r + 9) (spD (cdR ht wr) c (lv, wa, ke) 4).1) ∧ gFr (fun q => (r + 1 ≤ q ∧ q < r + 4) ∨ q = r + 9) w w') (gB E ad N) (gA E)) ([.ref (ad (r)), .ref (ad (b)), .int (nI (c))] : List Value).toArray s 0 0 (gA E)) (F0 m 2 ls []) := by
    intro n
    induction n with
    | zero => intro d hmeas; omega
    | succ n ih_loop1 =>
      intro d hmeas hd w1 H locs hP hS hb2 hb3 hb4 hb5 hfr ls hl
      have hdo := spD_ok (cd := (cdR ht wr)) (by decide : 1000000 < 2 ^ 30) hc hok d
      refine lv_iload_n hx hb dX6_spread_2 rfl (lv_at hl 0 rfl) ?_
      refine g_iconst S 4 dX6_spread_3 (by decide +kernel) ?_
      refine g_ge S (a := d) (b := 4) (by omega) (by omega) (tgt := 53) dX6_spread_4 (by decide) (fun hd4 => ?_) (fun hd4 => ?_)
      · have e_d : d = 4 := by omega
        subst e_d
        exact g_vret S hr hlocks hP hS (⟨hb4, hb5, hfr⟩) (fun _ _ => rfl) (Nat.le_of_ble_eq_true rfl) (Nat.le_of_ble_eq_true rfl) dX6_spread_53
      · refine lv_iload_n hx hb dX6_spread_7 rfl (lv_at hl 3 rfl) ?_
        refine lv_iload_n hx hb dX6_spread_8 rfl (lv_at hl 0 rfl) ?_
        refine g_roi (g_runSN S hI hP hS (k := 2) (As := [.int (nI (c)), .int (nI (d))]) (rest := []) (mX12_neighbour l c d hc hd4) q1082 q675 q82 q676 rfl rfl (by decide +kernel) ⟨Nat.le_of_ble_eq_true rfl, Nat.le_of_ble_eq_true rfl⟩ rfl hl.1 rfl (Nat.le_of_ble_eq_true rfl) ⟨(Nat.le_of_ble_eq_true rfl), (Nat.le_of_ble_eq_true rfl)⟩ dX6_spread_9) hS (fun H locs hP hS => ?_)
        refine lv_istore (lv' := [(4, .int (oI (nb c d))), (3, .int (nI (d))), (0, .ref (ad (r))), (1, .ref (ad (b))), (2, .int (nI (c)))]) hx hb dX6_spread_12 hl (by decide) rfl (fun ls hl => ?_)
        refine lv_iload hx hb dX6_spread_14 (lv_at hl 0 rfl) ?_
        refine lv_iconst (v := -1) hx hb dX6_spread_16 (by decide +kernel) ?_
        refine g_oeq S (o := nb c d) (fun k hk => Nat.lt_trans (nb_lt hc hk) (by decide)) (tgt := 47) dX6_spread_17 (by decide) (fun hn => ?_) (fun hn_k hn => ?_)
        · have hde : (spD (cdR ht wr) c (lv, wa, ke) (d + 1)) = (spD (cdR ht wr) c (lv, wa, ke) d) := by simp [spD, hn]
          rw [show (spD (cdR ht wr) c (lv, wa, ke) d).1 = (spD (cdR ht wr) c (lv, wa, ke) (d + 1)).1 by rw [hde]] at hb5
          rw [show (spD (cdR ht wr) c (lv, wa, ke) d).2.1 = (spD (cdR ht wr) c (lv, wa, ke) (d + 1)).2.1 by rw [hde], show (spD (cdR ht wr) c (lv, wa, ke) d).2.2 = (spD (cdR ht wr) c (lv, wa, ke) (d + 1)).2.2 by rw [hde]] at hb4
          refine lv_iinc (v := nI (d + 1)) (lv' := [(3, .int (nI (d + 1))), (4, .int (oI (nb c d))), (0, .ref (ad (r))), (1, .ref (ad (b))), (2, .int (nI (c)))]) hx hb dX6_spread_47 hl (k := 1) rfl (g_inc _ 1 (by decide +kernel)) (by decide) rfl (fun ls hl => ?_)
          refine lv_goto (tgt := 2) hx hb dX6_spread_50 (by decide) ?_
          exact ih_loop1 (d + 1) (by omega) (by omega) _ _ _ hP hS hb2 hb3 hb4 hb5 hfr ls (lv_sub hl [0, 2, 3, 4] rfl)
        · have hk36 := nb_lt hc hn
          have hl : lv_has ls 5 [(4, .int (nI (hn_k))), (3, .int (nI (d))), (0, .ref (ad (r))), (1, .ref (ad (b))), (2, .int (nI (c)))] := by rw [hn] at hl; exact hl
          have hil := imL_ok (cd := (cdR ht wr)) (o := c) hdo.1 hk36
          refine lv_aload_n hx hb dX6_spread_20 rfl (lv_at hl 2 rfl) ?_
          refine lv_aload_n hx hb dX6_spread_21 rfl (lv_at hl 3 rfl) ?_
          refine lv_iload hx hb dX6_spread_22 (lv_at hl 0 rfl) ?_
          refine lv_iload_n hx hb dX6_spread_24 rfl (lv_at hl 4 rfl) ?_
          refine g_afi (g_runV S hI hP hS (k := 3) (As := [.ref (ad (b)), .int (nI (hn_k)), .int (nI (c))]) (rest := []) (mX6_improve l b ht dr pg wt wr mo mc ni po dn r pn (spD (cdR ht wr) c (lv, wa, ke) d).1 hn_k c hb2 hb3 hb5 hbr hht hwr hdo.1 hk36 hc) q1083 q1085 q30 q91 q1086 rfl rfl (by decide +kernel) ⟨Nat.le_of_ble_eq_true rfl, Nat.le_of_ble_eq_true rfl⟩ rfl (hb3.lt 0 (by decide)) (hb3.2 0 (by decide)) rfl hl.1 rfl (Nat.le_of_ble_eq_true rfl) ⟨(Nat.le_of_ble_eq_true rfl), (Nat.le_of_ble_eq_true rfl)⟩ dX6_spread_25) hS (fun rz w1 H locs hq hP hS => ?_)
          obtain ⟨hr8, hb6, hf7⟩ := hq
          rw [hr8]
          have hb9 := hb2.fr hf7 (fun k hk => by show ¬ _; (try simp only [gIn]); (try dsimp only); omega)
          have hb10 := hb3.fr hf7 (fun k hk => by show ¬ _; (try simp only [gIn]); (try dsimp only); omega)
          have hb11 := hb4.fr hf7 (fun k hk => by show ¬ _; (try simp only [gIn]); (try dsimp only); omega)
          have hfr := hfr.trans hf7 (fun q hq => by (try simp only [gIn] at hq ⊢); (try dsimp only at hq ⊢); omega)
          refine g_beq S (b := imB (cdR ht wr) (spD (cdR ht wr) c (lv, wa, ke) d).1 hn_k c) (tgt := 47) dX6_spread_28 (by decide) (fun hi => ?_) (fun hi => ?_)
          · have hsame : imL (cdR ht wr) (spD (cdR ht wr) c (lv, wa, ke) d).1 hn_k c = (spD (cdR ht wr) c (lv, wa, ke) d).1 := imL_n hi
            rw [hsame] at hb6
            have hde : (spD (cdR ht wr) c (lv, wa, ke) (d + 1)) = (spD (cdR ht wr) c (lv, wa, ke) d) := by simp only [spD, hn]; rw [if_neg (by rw [hi]; decide)]
            rw [show (spD (cdR ht wr) c (lv, wa, ke) d).1 = (spD (cdR ht wr) c (lv, wa, ke) (d + 1)).1 by rw [hde]] at hb6
            rw [show (spD (cdR ht wr) c (lv, wa, ke) d).2.1 = (spD (cdR ht wr) c (lv, wa, ke) (d + 1)).2.1 by rw [hde], show (spD (cdR ht wr) c (lv, wa, ke) d).2.2 = (spD (cdR ht wr) c (lv, wa, ke) (d + 1)).2.2 by rw [hde]] at hb11
            refine lv_iinc (v := nI (d + 1)) (lv' := [(3, .int (nI (d + 1))), (4, .int (nI (hn_k))), (0, .ref (ad (r))), (1, .ref (ad (b))), (2, .int (nI (c)))]) hx hb dX6_spread_47 hl (k := 1) rfl (g_inc _ 1 (by decide +kernel)) (by decide) rfl (fun ls hl => ?_)
            refine lv_goto (tgt := 2) hx hb dX6_spread_50 (by decide) ?_
            exact ih_loop1 (d + 1) (by omega) (by omega) _ _ _ hP hS hb9 hb10 hb11 hb6 hfr ls (lv_sub hl [0, 2, 3, 4] rfl)
          · refine lv_aload_n hx hb dX6_spread_31 rfl (lv_at hl 2 rfl) ?_
            refine g_get S hI hP uX6 rfl (fs := _) (hb10.lt 0 (by decide)) (hb10.2 0 (by decide)) 0 (by decide) q293 rfl (v := .ref (ad (r + 1))) rfl dX6_spread_32 ?_
            refine lv_iload hx hb dX6_spread_35 (lv_at hl 0 rfl) ?_
            refine lv_aload_n hx hb dX6_spread_37 rfl (lv_at hl 2 rfl) ?_
            refine g_get S hI hP uX6 rfl (fs := _) (hb10.lt 0 (by decide)) (hb10.2 0 (by decide)) 3 (by decide) q296 rfl (v := .ref (ad (r + 9))) rfl dX6_spread_38 ?_
            refine lv_iload hx hb dX6_spread_41 (lv_at hl 0 rfl) ?_
            refine g_iald S hI hP (f := fun j => nI ((imL (cdR ht wr) (spD (cdR ht wr) c (lv, wa, ke) d).1 hn_k c) j)) (hb6.lt 0 (by decide)) (hb6.2 0 (by decide)) (hn_k) (hk36) (by decide) dX6_spread_43 ?_
            refine g_afv (g_runV S hI hP hS (k := 2) (As := [.int (nI (hn_k)), .int (nI ((imL (cdR ht wr) (spD (cdR ht wr) c (lv, wa, ke) d).1 hn_k c) hn_k))]) (rest := []) (mX1_put l (r + 1) (spD (cdR ht wr) c (lv, wa, ke) d).2.1 (spD (cdR ht wr) c (lv, wa, ke) d).2.2 hn_k ((imL (cdR ht wr) (spD (cdR ht wr) c (lv, wa, ke) d).1 hn_k c) hn_k) hb11 hk36) q1076 q760 q761 q90 q762 rfl rfl (by decide +kernel) ⟨Nat.le_of_ble_eq_true rfl, Nat.le_of_ble_eq_true rfl⟩ rfl (hb11.lt 0 (by decide)) (hb11.2 0 (by decide)) rfl hl.1 rfl (Nat.le_of_ble_eq_true rfl) ⟨(Nat.le_of_ble_eq_true rfl), (Nat.le_of_ble_eq_true rfl)⟩ dX6_spread_44) hS (fun w1 H locs hq hP hS => ?_)
            obtain ⟨hb12, hf13⟩ := hq
            have hb14 := hb9.fr hf13 (fun k hk => by show ¬ _; (try simp only [gIn]); (try dsimp only); omega)
            have hb15 := hb10.fr hf13 (fun k hk => by show ¬ _; (try simp only [gIn]); (try dsimp only); omega)
            have hb16 := hb6.fr hf13 (fun k hk => by show ¬ _; (try simp only [gIn]); (try dsimp only); omega)
            have hfr := hfr.trans hf13 (fun q hq => by (try simp only [gIn] at hq ⊢); (try dsimp only at hq ⊢); omega)
            have hde : (spD (cdR ht wr) c (lv, wa, ke) (d + 1)) = (imL (cdR ht wr) (spD (cdR ht wr) c (lv, wa, ke) d).1 hn_k c, va_up (spD (cdR ht wr) c (lv, wa, ke) d).2.1 hn_k 1, va_up (spD (cdR ht wr) c (lv, wa, ke) d).2.2 hn_k ((imL (cdR ht wr) (spD (cdR ht wr) c (lv, wa, ke) d).1 hn_k c) hn_k)) := by simp only [spD, hn]; rw [if_pos hi]
            rw [show imL (cdR ht wr) (spD (cdR ht wr) c (lv, wa, ke) d).1 hn_k c = (spD (cdR ht wr) c (lv, wa, ke) (d + 1)).1 by rw [hde]] at hb16
            rw [show va_up (spD (cdR ht wr) c (lv, wa, ke) d).2.1 hn_k 1 = (spD (cdR ht wr) c (lv, wa, ke) (d + 1)).2.1 by rw [hde], show va_up (spD (cdR ht wr) c (lv, wa, ke) d).2.2 hn_k ((imL (cdR ht wr) (spD (cdR ht wr) c (lv, wa, ke) d).1 hn_k c) hn_k) = (spD (cdR ht wr) c (lv, wa, ke) (d + 1)).2.2 by rw [hde]] at hb12
            refine lv_iinc (v := nI (d + 1)) (lv' := [(3, .int (nI (d + 1))), (4, .int (nI (hn_k))), (0, .ref (ad (r))), (1, .ref (ad (b))), (2, .int (nI (c)))]) hx hb dX6_spread_47 hl (k := 1) rfl (g_inc _ 1 (by decide +kernel)) (by decide) rfl (fun ls hl => ?_)
            refine lv_goto (tgt := 2) hx hb dX6_spread_50 (by decide) ?_
            exact ih_loop1 (d + 1) (by omega) (by omega) _ _ _ hP hS hb14 hb15 hb12 hb16 hfr ls (lv_sub hl [0, 2, 3, 4] rfl)
  exact loop1 (4 - (0) + 1) (0) (Nat.lt_succ_self _) (by omega) _ _ _ hP hS hb_s hb_g hb_q hb_l hfr ls (lv_sub hl [0, 1, 2, 3] rfl)
set_option maxHeartbeats 4000000 in
set_option maxRecDepth 100000 in
/-- a round -/
theorem mX6_improveAll (l : Launch) {E : gE} {ad : Nat → Nat} {N : Nat} {w : Nat → va_E} (b : Nat) (ht dr pg wt wr mo : Nat → Nat) (mc ni po dn : Nat) (r : Nat) (pn : Nat) (lv : Nat → Nat) (hb_s : bkP N w b 7 (SHC E ad b ht dr pg wt wr mo mc ni po dn)) (hb_g : bkP N w r 1 (RTC E ad r pn)) (hb_l : bkP N w (r + 9) 1 (LVC E ad (r + 9) lv)) (hbr : b + 7 ≤ r) (hht : ∀ k, k < 36 → ht k ≤ 99) (hwr : ∀ k, k < 36 → wr k ≤ 3) (hlv : ∀ k, k < 36 → lv k ≤ 1000000) : gMi l yX6_improveAll (lw_ws yX6_improveAll cX6_improveAll 6 (some .boolean)) ({ frames := 3, cells := 0, slots := 0, locals := 67 } : Room) E ad N w [.ref (ad (r)), .ref (ad (b))] (fun z w' => z = bI (iaN (cdR ht wr) lv 36).2 ∧ bkP N w' (r + 9) 1 (LVC E ad (r + 9) (iaN (cdR ht wr) lv 36).1) ∧ gFr (gIn (r + 9) 1) w w') 0 0 := by
  refine Met.ofW (cc := cX6_improveAll) (maxL := 6) (ret := (some .boolean)) (by decide) rfl ?_
  intro p e s m args below meth cd s₁ B hml hv
  obtain ⟨rfl, hI, hP⟩ := hv
  obtain ⟨S, hr, hlocks⟩ := gPre (ws := []) B hml (C := RX6) rfl
  have hx := S.1
  have hb := S.2.1
  have hS : va_S (gA E) s.heap s.heap [] := va_S.rf
  have hfr : gFr (gIn (r + 9) 1) w w := gFr.rf
  have hl := lv_entry ([.ref (ad (r)), .ref (ad (b))]) (n := 6) (Nat.le_of_ble_eq_true rfl)
  rw [lg_entry_eq]
  generalize (lg_sl ([.ref (ad (r)), .ref (ad (b))]) ++ List.replicate (6 - (lg_sl ([.ref (ad (r)), .ref (ad (b))])).length) Slot.unset).toArray = ls at hl ⊢
  have hl : lv_has ls 6 [(0, .ref (ad (r))), (1, .ref (ad (b)))] := hl
  refine g_iconst S 0 dX6_improveAll_0 (by decide +kernel) ?_
  refine lv_istore_n (lv' := [(2, .int (nI (0))), (0, .ref (ad (r))), (1, .ref (ad (b)))]) hx hb dX6_improveAll_1 rfl hl (by decide) rfl (fun ls hl => ?_)
  refine g_iconst S 0 dX6_improveAll_2 (by decide +kernel) ?_
  refine lv_istore_n (lv' := [(3, .int (nI (0))), (2, .int (nI (0))), (0, .ref (ad (r))), (1, .ref (ad (b)))]) hx hb dX6_improveAll_3 rfl hl (by decide) rfl (fun ls hl => ?_)
  have hl : lv_has ls 6 [(3, .int (nI (0))), (2, .int (bI ((iaN (cdR ht wr) lv 0).2))), (0, .ref (ad (r))), (1, .ref (ad (b)))] := by exact hl
  have loop1 : ∀ (n : Nat) (i : Nat), 36 - i < n → (i ≤ 36) → ∀ (w1 : Nat → va_E) (H : Heap) (locs : List Loc), gP E ad N w1 H → va_S (gA E) s.heap H locs → bkP N w1 b 7 (SHC E ad b ht dr pg wt wr mo mc ni po dn) → bkP N w1 r 1 (RTC E ad r pn) → bkP N w1 (r + 9) 1 (LVC E ad (r + 9) ((iaN (cdR ht wr) lv i).1)) → gFr (gIn (r + 9) 1) w w1 → ∀ (ls : Array Slot), lv_has ls 6 [(3, .int (nI (i))), (2, .int (bI ((iaN (cdR ht wr) lv i).2))), (0, .ref (ad (r))), (1, .ref (ad (b)))] → W p l e (headSpec (lw_ws yX6_improveAll cX6_improveAll 6 (some .boolean)) ({ frames := 3, cells := 0, slots := 0, locals := 67 } : Room)).room s m ([.ref (ad (r)), .ref (ad (b))] : List Value).toArray below meth cd H locs 0 0 (MQ below (va_Qi (fun z w' => z = bI (iaN (cdR ht wr) lv 36).2 ∧ bkP N w' (r + 9) 1 (LVC E ad (r + 9) (iaN (cdR ht wr) lv 36).1) ∧ gFr (gIn (r + 9) 1) w w') (gB E ad N) (gA E)) ([.ref (ad (r)), .ref (ad (b))] : List Value).toArray s 0 0 (gA E)) (F0 m 4 ls []) := by
    intro n
    induction n with
    | zero => intro i hmeas; omega
    | succ n ih_loop1 =>
      intro i hmeas hi w1 H locs hP hS hb2 hb3 hb4 hfr ls hl
      have hio := iaN_ok (cd := (cdR ht wr)) hlv hi
      refine lv_iload_n hx hb dX6_improveAll_4 rfl (lv_at hl 0 rfl) ?_
      refine g_bipush S 36 dX6_improveAll_5 (by decide +kernel) ?_
      refine g_ge S (a := i) (b := 36) (by omega) (by omega) (tgt := 58) dX6_improveAll_7 (by decide) (fun h => ?_) (fun h => ?_)
      · have e_i : i = 36 := by omega
        subst e_i
        refine lv_iload_n hx hb dX6_improveAll_58 rfl (lv_at hl 1 rfl) ?_
        exact g_zret S hr hlocks (bI_01 _) hP hS (⟨rfl, hb4, hfr⟩) (fun _ _ => rfl) (Nat.le_of_ble_eq_true rfl) (Nat.le_of_ble_eq_true rfl) dX6_improveAll_59
      · refine g_iconst S 0 dX6_improveAll_10 (by decide +kernel) ?_
        refine lv_istore (lv' := [(4, .int (nI (0))), (3, .int (nI (i))), (2, .int (bI ((iaN (cdR ht wr) lv i).2))), (0, .ref (ad (r))), (1, .ref (ad (b)))]) hx hb dX6_improveAll_11 hl (by decide) rfl (fun ls hl => ?_)
        have loop5 : ∀ (n : Nat) (d : Nat), 4 - d < n → (d ≤ 4) → ∀ (w1 : Nat → va_E) (H : Heap) (locs : List Loc), gP E ad N w1 H → va_S (gA E) s.heap H locs → bkP N w1 b 7 (SHC E ad b ht dr pg wt wr mo mc ni po dn) → bkP N w1 r 1 (RTC E ad r pn) → bkP N w1 (r + 9) 1 (LVC E ad (r + 9) ((iaD (cdR ht wr) i (iaN (cdR ht wr) lv i) d).1)) → gFr (gIn (r + 9) 1) w w1 → ∀ (ls : Array Slot), lv_has ls 6 [(4, .int (nI (d))), (3, .int (nI (i))), (2, .int (bI ((iaD (cdR ht wr) i (iaN (cdR ht wr) lv i) d).2))), (0, .ref (ad (r))), (1, .ref (ad (b)))] → W p l e (headSpec (lw_ws yX6_improveAll cX6_improveAll 6 (some .boolean)) ({ frames := 3, cells := 0, slots := 0, locals := 67 } : Room)).room s m ([.ref (ad (r)), .ref (ad (b))] : List Value).toArray below meth cd H locs 0 0 (MQ below (va_Qi (fun z w' => z = bI (iaN (cdR ht wr) lv 36).2 ∧ bkP N w' (r + 9) 1 (LVC E ad (r + 9) (iaN (cdR ht wr) lv 36).1) ∧ gFr (gIn (r + 9) 1) w w') (gB E ad N) (gA E)) ([.ref (ad (r)), .ref (ad (b))] : List Value).toArray s 0 0 (gA E)) (F0 m 13 ls []) := by
          intro n
          induction n with
          | zero => intro d hmeas; omega
          | succ n ih_loop5 =>
            intro d hmeas hd w1 H locs hP hS hb6 hb7 hb8 hfr ls hl
            have hdo := iaD_ok (cd := (cdR ht wr)) h hio d
            refine lv_iload hx hb dX6_improveAll_13 (lv_at hl 0 rfl) ?_
            refine g_iconst S 4 dX6_improveAll_15 (by decide +kernel) ?_
            refine g_ge S (a := d) (b := 4) (by omega) (by omega) (tgt := 52) dX6_improveAll_16 (by decide) (fun hd4 => ?_) (fun hd4 => ?_)
            · have e_d : d = 4 := by omega
              subst e_d
              refine lv_iinc (v := nI (i + 1)) (lv' := [(3, .int (nI (i + 1))), (4, .int (nI (4))), (2, .int (bI ((iaD (cdR ht wr) i (iaN (cdR ht wr) lv i) 4).2))), (0, .ref (ad (r))), (1, .ref (ad (b)))]) hx hb dX6_improveAll_52 hl (k := 1) rfl (g_inc _ 1 (by decide +kernel)) (by decide) rfl (fun ls hl => ?_)
              refine lv_goto (tgt := 4) hx hb dX6_improveAll_55 (by decide) ?_
              exact ih_loop1 (i + 1) (by omega) (by omega) _ _ _ hP hS hb6 hb7 hb8 hfr ls (lv_sub hl [0, 2, 3, 4] rfl)
            · refine lv_iload_n hx hb dX6_improveAll_19 rfl (lv_at hl 1 rfl) ?_
              refine lv_iload hx hb dX6_improveAll_20 (lv_at hl 0 rfl) ?_
              refine g_roi (g_runSN S hI hP hS (k := 2) (As := [.int (nI (i)), .int (nI (d))]) (rest := []) (mX12_neighbour l i d h hd4) q1082 q675 q82 q676 rfl rfl (by decide +kernel) ⟨Nat.le_of_ble_eq_true rfl, Nat.le_of_ble_eq_true rfl⟩ rfl hl.1 rfl (Nat.le_of_ble_eq_true rfl) ⟨(Nat.le_of_ble_eq_true rfl), (Nat.le_of_ble_eq_true rfl)⟩ dX6_improveAll_22) hS (fun H locs hP hS => ?_)
              refine lv_istore (lv' := [(5, .int (oI (nb i d))), (4, .int (nI (d))), (3, .int (nI (i))), (2, .int (bI ((iaD (cdR ht wr) i (iaN (cdR ht wr) lv i) d).2))), (0, .ref (ad (r))), (1, .ref (ad (b)))]) hx hb dX6_improveAll_25 hl (by decide) rfl (fun ls hl => ?_)
              refine lv_iload hx hb dX6_improveAll_27 (lv_at hl 0 rfl) ?_
              refine lv_iconst (v := -1) hx hb dX6_improveAll_29 (by decide +kernel) ?_
              refine g_oeq S (o := nb i d) (fun k hk => Nat.lt_trans (nb_lt h hk) (by decide)) (tgt := 46) dX6_improveAll_30 (by decide) (fun hn => ?_) (fun hn_k hn => ?_)
              · have hde : (iaD (cdR ht wr) i (iaN (cdR ht wr) lv i) (d + 1)) = (iaD (cdR ht wr) i (iaN (cdR ht wr) lv i) d) := by simp [iaD, hn]
                rw [show (iaD (cdR ht wr) i (iaN (cdR ht wr) lv i) d).1 = (iaD (cdR ht wr) i (iaN (cdR ht wr) lv i) (d + 1)).1 by rw [hde]] at hb8
                refine lv_iinc (v := nI (d + 1)) (lv' := [(4, .int (nI (d + 1))), (5, .int (oI (nb i d))), (3, .int (nI (i))), (2, .int (bI ((iaD (cdR ht wr) i (iaN (cdR ht wr) lv i) d).2))), (0, .ref (ad (r))), (1, .ref (ad (b)))]) hx hb dX6_improveAll_46 hl (k := 1) rfl (g_inc _ 1 (by decide +kernel)) (by decide) rfl (fun ls hl => ?_)
                refine lv_goto (tgt := 13) hx hb dX6_improveAll_49 (by decide) ?_
                have hl : lv_has ls 6 [(4, .int (nI (d + 1))), (5, .int (oI (nb i d))), (3, .int (nI (i))), (2, .int (bI ((iaD (cdR ht wr) i (iaN (cdR ht wr) lv i) (d + 1)).2))), (0, .ref (ad (r))), (1, .ref (ad (b)))] := by rw [show (iaD (cdR ht wr) i (iaN (cdR ht wr) lv i) (d + 1)).2 = (iaD (cdR ht wr) i (iaN (cdR ht wr) lv i) d).2 by rw [hde]]; exact hl
                exact ih_loop5 (d + 1) (by omega) (by omega) _ _ _ hP hS hb6 hb7 hb8 hfr ls (lv_sub hl [0, 2, 3, 4, 5] rfl)
              · have hk36 := nb_lt h hn
                have hl : lv_has ls 6 [(5, .int (nI (hn_k))), (4, .int (nI (d))), (3, .int (nI (i))), (2, .int (bI ((iaD (cdR ht wr) i (iaN (cdR ht wr) lv i) d).2))), (0, .ref (ad (r))), (1, .ref (ad (b)))] := by rw [hn] at hl; exact hl
                refine lv_aload_n hx hb dX6_improveAll_33 rfl (lv_at hl 4 rfl) ?_
                refine lv_aload_n hx hb dX6_improveAll_34 rfl (lv_at hl 5 rfl) ?_
                refine lv_iload_n hx hb dX6_improveAll_35 rfl (lv_at hl 2 rfl) ?_
                refine lv_iload hx hb dX6_improveAll_36 (lv_at hl 0 rfl) ?_
                refine g_afi (g_runV S hI hP hS (k := 3) (As := [.ref (ad (b)), .int (nI (i)), .int (nI (hn_k))]) (rest := []) (mX6_improve l b ht dr pg wt wr mo mc ni po dn r pn (iaD (cdR ht wr) i (iaN (cdR ht wr) lv i) d).1 i hn_k hb6 hb7 hb8 hbr hht hwr hdo h hk36) q1083 q1085 q30 q91 q1086 rfl rfl (by decide +kernel) ⟨Nat.le_of_ble_eq_true rfl, Nat.le_of_ble_eq_true rfl⟩ rfl (hb7.lt 0 (by decide)) (hb7.2 0 (by decide)) rfl hl.1 rfl (Nat.le_of_ble_eq_true rfl) ⟨(Nat.le_of_ble_eq_true rfl), (Nat.le_of_ble_eq_true rfl)⟩ dX6_improveAll_38) hS (fun rz w1 H locs hq hP hS => ?_)
                obtain ⟨hr11, hb9, hf10⟩ := hq
                rw [hr11]
                have hb12 := hb6.fr hf10 (fun k hk => by show ¬ _; (try simp only [gIn]); (try dsimp only); omega)
                have hb13 := hb7.fr hf10 (fun k hk => by show ¬ _; (try simp only [gIn]); (try dsimp only); omega)
                have hfr := hfr.trans hf10 (fun q hq => by (try simp only [gIn] at hq ⊢); (try dsimp only at hq ⊢); omega)
                refine g_beq S (b := imB (cdR ht wr) (iaD (cdR ht wr) i (iaN (cdR ht wr) lv i) d).1 i hn_k) (tgt := 46) dX6_improveAll_41 (by decide) (fun hib => ?_) (fun hib => ?_)
                · have hde : (iaD (cdR ht wr) i (iaN (cdR ht wr) lv i) (d + 1)) = (imL (cdR ht wr) (iaD (cdR ht wr) i (iaN (cdR ht wr) lv i) d).1 i hn_k, (iaD (cdR ht wr) i (iaN (cdR ht wr) lv i) d).2) := by simp only [iaD, hn]; rw [hib]; rfl
                  rw [show imL (cdR ht wr) (iaD (cdR ht wr) i (iaN (cdR ht wr) lv i) d).1 i hn_k = (iaD (cdR ht wr) i (iaN (cdR ht wr) lv i) (d + 1)).1 by rw [hde]] at hb9
                  refine lv_iinc (v := nI (d + 1)) (lv' := [(4, .int (nI (d + 1))), (5, .int (nI (hn_k))), (3, .int (nI (i))), (2, .int (bI ((iaD (cdR ht wr) i (iaN (cdR ht wr) lv i) d).2))), (0, .ref (ad (r))), (1, .ref (ad (b)))]) hx hb dX6_improveAll_46 hl (k := 1) rfl (g_inc _ 1 (by decide +kernel)) (by decide) rfl (fun ls hl => ?_)
                  refine lv_goto (tgt := 13) hx hb dX6_improveAll_49 (by decide) ?_
                  have hl : lv_has ls 6 [(4, .int (nI (d + 1))), (5, .int (nI (hn_k))), (3, .int (nI (i))), (2, .int (bI ((iaD (cdR ht wr) i (iaN (cdR ht wr) lv i) (d + 1)).2))), (0, .ref (ad (r))), (1, .ref (ad (b)))] := by rw [show (iaD (cdR ht wr) i (iaN (cdR ht wr) lv i) (d + 1)).2 = (iaD (cdR ht wr) i (iaN (cdR ht wr) lv i) d).2 by rw [hde]]; exact hl
                  exact ih_loop5 (d + 1) (by omega) (by omega) _ _ _ hP hS hb12 hb13 hb9 hfr ls (lv_sub hl [0, 2, 3, 4, 5] rfl)
                · have hde : (iaD (cdR ht wr) i (iaN (cdR ht wr) lv i) (d + 1)) = (imL (cdR ht wr) (iaD (cdR ht wr) i (iaN (cdR ht wr) lv i) d).1 i hn_k, true) := by simp only [iaD, hn]; rw [hib]; rfl
                  rw [show imL (cdR ht wr) (iaD (cdR ht wr) i (iaN (cdR ht wr) lv i) d).1 i hn_k = (iaD (cdR ht wr) i (iaN (cdR ht wr) lv i) (d + 1)).1 by rw [hde]] at hb9
                  refine g_iconst S 1 dX6_improveAll_44 (by decide +kernel) ?_
                  refine lv_istore_n (lv' := [(2, .int (nI (1))), (5, .int (nI (hn_k))), (4, .int (nI (d))), (3, .int (nI (i))), (0, .ref (ad (r))), (1, .ref (ad (b)))]) hx hb dX6_improveAll_45 rfl hl (by decide) rfl (fun ls hl => ?_)
                  refine lv_iinc (v := nI (d + 1)) (lv' := [(4, .int (nI (d + 1))), (2, .int (nI (1))), (5, .int (nI (hn_k))), (3, .int (nI (i))), (0, .ref (ad (r))), (1, .ref (ad (b)))]) hx hb dX6_improveAll_46 hl (k := 2) rfl (g_inc _ 1 (by decide +kernel)) (by decide) rfl (fun ls hl => ?_)
                  refine lv_goto (tgt := 13) hx hb dX6_improveAll_49 (by decide) ?_
                  have hl : lv_has ls 6 [(4, .int (nI (d + 1))), (2, .int (bI ((iaD (cdR ht wr) i (iaN (cdR ht wr) lv i) (d + 1)).2))), (5, .int (nI (hn_k))), (3, .int (nI (i))), (0, .ref (ad (r))), (1, .ref (ad (b)))] := by rw [show (iaD (cdR ht wr) i (iaN (cdR ht wr) lv i) (d + 1)).2 = true by rw [hde]]; exact hl
                  exact ih_loop5 (d + 1) (by omega) (by omega) _ _ _ hP hS hb12 hb13 hb9 hfr ls (lv_sub hl [0, 3, 1, 4, 5] rfl)
        exact loop5 (4 - (0) + 1) (0) (Nat.lt_succ_self _) (by omega) _ _ _ hP hS hb2 hb3 hb4 hfr ls (lv_sub hl [0, 1, 2, 3, 4] rfl)
  exact loop1 (36 - (0) + 1) (0) (Nat.lt_succ_self _) (by omega) _ _ _ hP hS hb_s hb_g hb_l hfr ls (lv_sub hl [0, 1, 2, 3] rfl)
