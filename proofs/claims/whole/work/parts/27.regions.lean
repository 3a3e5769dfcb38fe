set_option maxHeartbeats 4000000 in
set_option maxRecDepth 100000 in
/-- the cells by their heights -/
theorem mX5_rankCells (l : Launch) {E : gE} {ad : Nat → Nat} {N : Nat} {w : Nat → va_E} (b : Nat) (ht dr pg wt wr mo : Nat → Nat) (mc ni po dn : Nat) (r : Nat) (ra rk : Nat → Nat) (hb_s : bkP N w b 7 (SHC E ad b ht dr pg wt wr mo mc ni po dn)) (hb_g : bkP N w r 1 (RGC E ad r )) (hb_k : bkP N w (r + 6) 2 (RKC E ad (r + 6) ra rk)) (hbr : b + 7 ≤ r) (hht : ∀ k, k < 36 → ht k ≤ 99) : gMv l yX5_rankCells (lw_ws yX5_rankCells cX5_rankCells 4 none) ({ frames := 0, cells := 0, slots := 0, locals := 0 } : Room) E ad N w [.ref (ad (r)), .ref (ad (b))] (fun w' => bkP N w' (r + 6) 2 (RKC E ad (r + 6) ra (rankN ht rk 36)) ∧ gFr (gIn (r + 6) 2) w w') 0 0 := by
  refine Met.ofW (cc := cX5_rankCells) (maxL := 4) (ret := none) (by decide) rfl ?_
  intro p e s m args below meth cd s₁ B hml hv
  obtain ⟨rfl, hI, hP⟩ := hv
  obtain ⟨S, hr, hlocks⟩ := gPre (ws := []) B hml (C := RX5) rfl
  have hx := S.1
  have hb := S.2.1
  have hS : va_S (gA E) s.heap s.heap [] := va_S.rf
  have hfr : gFr (gIn (r + 6) 2) w w := gFr.rf
  have hl := lv_entry ([.ref (ad (r)), .ref (ad (b))]) (n := 4) (Nat.le_of_ble_eq_true rfl)
  rw [lg_entry_eq]
  generalize (lg_sl ([.ref (ad (r)), .ref (ad (b))]) ++ List.replicate (4 - (lg_sl ([.ref (ad (r)), .ref (ad (b))])).length) Slot.unset).toArray = ls at hl ⊢
  have hl : lv_has ls 4 [(0, .ref (ad (r))), (1, .ref (ad (b)))] := hl
  refine g_iconst S 0 dX5_rankCells_0 (by decide +kernel) ?_
  refine lv_istore_n (lv' := [(2, .int (nI (0))), (0, .ref (ad (r))), (1, .ref (ad (b)))]) hx hb dX5_rankCells_1 rfl hl (by decide) rfl (fun ls hl => ?_)
  have loop1 : ∀ (n : Nat) (i : Nat), 36 - i < n → (i ≤ 36) → ∀ (w1 : Nat → va_E) (H : Heap) (locs : List Loc), gP E ad N w1 H → va_S (gA E) s.heap H locs → bkP N w1 b 7 (SHC E ad b ht dr pg wt wr mo mc ni po dn) → bkP N w1 r 1 (RGC E ad r ) → bkP N w1 (r + 6) 2 (RKC E ad (r + 6) ra (rankN ht rk i)) → gFr (gIn (r + 6) 2) w w1 → ∀ (ls : Array Slot), lv_has ls 4 [(2, .int (nI (i))), (0, .ref (ad (r))), (1, .ref (ad (b)))] → W p l e (headSpec (lw_ws yX5_rankCells cX5_rankCells 4 none) ({ frames := 0, cells := 0, slots := 0, locals := 0 } : Room)).room s m ([.ref (ad (r)), .ref (ad (b))] : List Value).toArray below meth cd H locs 0 0 (MQ below (va_Qv (fun w' => bkP N w' (r + 6) 2 (RKC E ad (r + 6) ra (rankN ht rk 36)) ∧ gFr (gIn (r + 6) 2) w w') (gB E ad N) (gA E)) ([.ref (ad (r)), .ref (ad (b))] : List Value).toArray s 0 0 (gA E)) (F0 m 2 ls []) := by
    intro n
    induction n with
    | zero => intro i hmeas; omega
    | succ n ih_loop1 =>
      intro i hmeas hi w1 H locs hP hS hb2 hb3 hb4 hfr ls hl
      refine lv_iload_n hx hb dX5_rankCells_2 rfl (lv_at hl 0 rfl) ?_
      refine g_bipush S 36 dX5_rankCells_3 (by decide +kernel) ?_
      refine g_ge S (a := i) (b := 36) (by omega) (by omega) (tgt := 69) dX5_rankCells_5 (by decide) (fun h => ?_) (fun h => ?_)
      · have ei : i = 36 := by omega
        rw [ei] at hb4
        exact g_vret S hr hlocks hP hS (⟨hb4, hfr⟩) (fun _ _ => rfl) (Nat.le_of_ble_eq_true rfl) (Nat.le_of_ble_eq_true rfl) dX5_rankCells_69
      · have hzi := hht i h
        have hrl := rankN_lt (ht := ht) (rk := rk) (n := i) hi
        refine lv_iload_n hx hb dX5_rankCells_8 rfl (lv_at hl 0 rfl) ?_
        refine lv_istore_n (lv' := [(3, .int (nI (i))), (2, .int (nI (i))), (0, .ref (ad (r))), (1, .ref (ad (b)))]) hx hb dX5_rankCells_9 rfl hl (by decide) rfl (fun ls hl => ?_)
        have loop5 : ∀ (n : Nat) (p0 : Nat) (rk1 : Nat → Nat), p0 < n → (p0 ≤ i) → (∀ j, j < i + 1 → j ≠ p0 → rk1 j < 36) → (insN ht i p0 rk1 = rankN ht rk (i + 1)) → ∀ (w1 : Nat → va_E) (H : Heap) (locs : List Loc), gP E ad N w1 H → va_S (gA E) s.heap H locs → bkP N w1 b 7 (SHC E ad b ht dr pg wt wr mo mc ni po dn) → bkP N w1 r 1 (RGC E ad r ) → bkP N w1 (r + 6) 2 (RKC E ad (r + 6) ra rk1) → gFr (gIn (r + 6) 2) w w1 → ∀ (ls : Array Slot), lv_has ls 4 [(3, .int (nI (p0))), (2, .int (nI (i))), (0, .ref (ad (r))), (1, .ref (ad (b)))] → W p l e (headSpec (lw_ws yX5_rankCells cX5_rankCells 4 none) ({ frames := 0, cells := 0, slots := 0, locals := 0 } : Room)).room s m ([.ref (ad (r)), .ref (ad (b))] : List Value).toArray below meth cd H locs 0 0 (MQ below (va_Qv (fun w' => bkP N w' (r + 6) 2 (RKC E ad (r + 6) ra (rankN ht rk 36)) ∧ gFr (gIn (r + 6) 2) w w') (gB E ad N) (gA E)) ([.ref (ad (r)), .ref (ad (b))] : List Value).toArray s 0 0 (gA E)) (F0 m 10 ls []) := by
          intro n
          induction n with
          | zero => intro p0 rk1 hmeas; omega
          | succ n ih_loop5 =>
            intro p0 rk1 hmeas hp hr1 he w1 H locs hP hS hb6 hb7 hb8 hfr ls hl
            refine lv_iload_n hx hb dX5_rankCells_10 rfl (lv_at hl 0 rfl) ?_
            refine g_ifle S (a := p0) (by omega) (tgt := 56) dX5_rankCells_11 (by decide) (fun hz => ?_) (fun hz => ?_)
            · have hx2 : va_up rk1 p0 i = rankN ht rk (i + 1) := by rw [← he, hz]; rfl
              refine lv_aload_n hx hb dX5_rankCells_56 rfl (lv_at hl 2 rfl) ?_
              refine g_get S hI hP uX5 rfl (fs := _) (hb7.lt 0 (by decide)) (hb7.2 0 (by decide)) 3 (by decide) q245 rfl (v := .ref (ad (r + 7))) rfl dX5_rankCells_57 ?_
              refine lv_iload_n hx hb dX5_rankCells_60 rfl (lv_at hl 0 rfl) ?_
              refine lv_iload_n hx hb dX5_rankCells_61 rfl (lv_at hl 1 rfl) ?_
              refine g_iastN S hI hP hS (f := rk1) (x := i) (hb8.lt 1 (by decide)) (hb8.2 1 (by decide)) (p0) (by omega) (by decide) dX5_rankCells_62 (fun H locs hP hS => ?_)
              have hP : gP E ad N (va_up _ (r + 7) (RKC E ad (r + 6) ra (va_up rk1 p0 i) 1)) H := hP
              have hb9 : bkP N (va_up _ (r + 7) (RKC E ad (r + 6) ra (va_up rk1 p0 i) 1)) (r + 6) 2 (RKC E ad (r + 6) ra (va_up rk1 p0 i)) := RK_setA1 hb8 _
              have hb10 := hb6.keep (p := r + 7) (e := RKC E ad (r + 6) ra (va_up rk1 p0 i) 1) (by omega)
              have hb11 := hb7.keep (p := r + 7) (e := RKC E ad (r + 6) ra (va_up rk1 p0 i) 1) (by omega)
              have hfr := hfr.up (p := r + 7) (e := RKC E ad (r + 6) ra (va_up rk1 p0 i) 1) (by show _ ∧ _; omega)
              rw [hx2] at hb10 hb11 hb9 hP hfr
              refine lv_iinc (v := nI (i + 1)) (lv' := [(2, .int (nI (i + 1))), (3, .int (nI (p0))), (0, .ref (ad (r))), (1, .ref (ad (b)))]) hx hb dX5_rankCells_63 hl (k := 1) rfl (g_inc _ 1 (by decide +kernel)) (by decide) rfl (fun ls hl => ?_)
              refine lv_goto (tgt := 2) hx hb dX5_rankCells_66 (by decide) ?_
              exact ih_loop1 (i + 1) (by omega) (by omega) _ _ _ hP hS hb10 hb11 hb9 hfr ls (lv_sub hl [0, 2, 3] rfl)
            · obtain ⟨p1, hp1⟩ : ∃ p1, p0 = p1 + 1 := ⟨p0 - 1, by omega⟩
              subst hp1
              have hrp : rk1 p1 < 36 := hr1 p1 (by omega) (by omega)
              have hzp := hht _ hrp
              refine lv_aload_n hx hb dX5_rankCells_14 rfl (lv_at hl 3 rfl) ?_
              refine g_getN S hI hP uX7 rfl (fs := _) (hb6.lt 0 (by decide)) (hb6.2 0 (by decide)) 0 (by decide) q141 rfl (v := .ref (ad (b + 1))) rfl dX5_rankCells_15 ?_
              refine lv_aload_n hx hb dX5_rankCells_18 rfl (lv_at hl 2 rfl) ?_
              refine g_get S hI hP uX5 rfl (fs := _) (hb7.lt 0 (by decide)) (hb7.2 0 (by decide)) 3 (by decide) q245 rfl (v := .ref (ad (r + 7))) rfl dX5_rankCells_19 ?_
              refine lv_iload_n hx hb dX5_rankCells_22 rfl (lv_at hl 0 rfl) ?_
              refine g_iconst S 1 dX5_rankCells_23 (by decide +kernel) ?_
              refine g_isub S (by omega) dX5_rankCells_24 ?_
              refine g_iald S hI hP (f := fun j => nI (rk1 j)) (hb8.lt 1 (by decide)) (hb8.2 1 (by decide)) (p1) (by omega) (by decide) dX5_rankCells_25 ?_
              refine g_iald S hI hP (f := fun j => nI (ht j)) (hb6.lt 1 (by decide)) (hb6.2 1 (by decide)) (rk1 p1) (hrp) (by decide) dX5_rankCells_26 ?_
              refine lv_aload_n hx hb dX5_rankCells_27 rfl (lv_at hl 3 rfl) ?_
              refine g_getN S hI hP uX7 rfl (fs := _) (hb6.lt 0 (by decide)) (hb6.2 0 (by decide)) 0 (by decide) q141 rfl (v := .ref (ad (b + 1))) rfl dX5_rankCells_28 ?_
              refine lv_iload_n hx hb dX5_rankCells_31 rfl (lv_at hl 1 rfl) ?_
              refine g_iald S hI hP (f := fun j => nI (ht j)) (hb6.lt 1 (by decide)) (hb6.2 1 (by decide)) (i) (h) (by decide) dX5_rankCells_32 ?_
              refine g_ge S (a := ht (rk1 p1)) (b := ht i) (by omega) (by omega) (tgt := 56) dX5_rankCells_33 (by decide) (fun hv => ?_) (fun hv => ?_)
              · have hx2 : va_up rk1 (p1 + 1) i = rankN ht rk (i + 1) := by rw [← he]; simp only [insN]; rw [if_neg (by omega)]
                refine lv_aload_n hx hb dX5_rankCells_56 rfl (lv_at hl 2 rfl) ?_
                refine g_get S hI hP uX5 rfl (fs := _) (hb7.lt 0 (by decide)) (hb7.2 0 (by decide)) 3 (by decide) q245 rfl (v := .ref (ad (r + 7))) rfl dX5_rankCells_57 ?_
                refine lv_iload_n hx hb dX5_rankCells_60 rfl (lv_at hl 0 rfl) ?_
                refine lv_iload_n hx hb dX5_rankCells_61 rfl (lv_at hl 1 rfl) ?_
                refine g_iastN S hI hP hS (f := rk1) (x := i) (hb8.lt 1 (by decide)) (hb8.2 1 (by decide)) (p1 + 1) (by omega) (by decide) dX5_rankCells_62 (fun H locs hP hS => ?_)
                have hP : gP E ad N (va_up _ (r + 7) (RKC E ad (r + 6) ra (va_up rk1 (p1 + 1) i) 1)) H := hP
                have hb12 : bkP N (va_up _ (r + 7) (RKC E ad (r + 6) ra (va_up rk1 (p1 + 1) i) 1)) (r + 6) 2 (RKC E ad (r + 6) ra (va_up rk1 (p1 + 1) i)) := RK_setA1 hb8 _
                have hb13 := hb6.keep (p := r + 7) (e := RKC E ad (r + 6) ra (va_up rk1 (p1 + 1) i) 1) (by omega)
                have hb14 := hb7.keep (p := r + 7) (e := RKC E ad (r + 6) ra (va_up rk1 (p1 + 1) i) 1) (by omega)
                have hfr := hfr.up (p := r + 7) (e := RKC E ad (r + 6) ra (va_up rk1 (p1 + 1) i) 1) (by show _ ∧ _; omega)
                rw [hx2] at hb13 hb14 hb12 hP hfr
                refine lv_iinc (v := nI (i + 1)) (lv' := [(2, .int (nI (i + 1))), (3, .int (nI (p1 + 1))), (0, .ref (ad (r))), (1, .ref (ad (b)))]) hx hb dX5_rankCells_63 hl (k := 1) rfl (g_inc _ 1 (by decide +kernel)) (by decide) rfl (fun ls hl => ?_)
                refine lv_goto (tgt := 2) hx hb dX5_rankCells_66 (by decide) ?_
                exact ih_loop1 (i + 1) (by omega) (by omega) _ _ _ hP hS hb13 hb14 hb12 hfr ls (lv_sub hl [0, 2, 3] rfl)
              · refine lv_aload_n hx hb dX5_rankCells_36 rfl (lv_at hl 2 rfl) ?_
                refine g_get S hI hP uX5 rfl (fs := _) (hb7.lt 0 (by decide)) (hb7.2 0 (by decide)) 3 (by decide) q245 rfl (v := .ref (ad (r + 7))) rfl dX5_rankCells_37 ?_
                refine lv_iload_n hx hb dX5_rankCells_40 rfl (lv_at hl 0 rfl) ?_
                refine lv_aload_n hx hb dX5_rankCells_41 rfl (lv_at hl 2 rfl) ?_
                refine g_get S hI hP uX5 rfl (fs := _) (hb7.lt 0 (by decide)) (hb7.2 0 (by decide)) 3 (by decide) q245 rfl (v := .ref (ad (r + 7))) rfl dX5_rankCells_42 ?_
                refine lv_iload_n hx hb dX5_rankCells_45 rfl (lv_at hl 0 rfl) ?_
                refine g_iconst S 1 dX5_rankCells_46 (by decide +kernel) ?_
                refine g_isub S (by omega) dX5_rankCells_47 ?_
                refine g_iald S hI hP (f := fun j => nI (rk1 j)) (hb8.lt 1 (by decide)) (hb8.2 1 (by decide)) (p1) (by omega) (by decide) dX5_rankCells_48 ?_
                refine g_iastN S hI hP hS (f := rk1) (x := rk1 p1) (hb8.lt 1 (by decide)) (hb8.2 1 (by decide)) (p1 + 1) (by omega) (by decide) dX5_rankCells_49 (fun H locs hP hS => ?_)
                have hP : gP E ad N (va_up _ (r + 7) (RKC E ad (r + 6) ra (va_up rk1 (p1 + 1) (rk1 p1)) 1)) H := hP
                have hb15 : bkP N (va_up _ (r + 7) (RKC E ad (r + 6) ra (va_up rk1 (p1 + 1) (rk1 p1)) 1)) (r + 6) 2 (RKC E ad (r + 6) ra (va_up rk1 (p1 + 1) (rk1 p1))) := RK_setA1 hb8 _
                have hb16 := hb6.keep (p := r + 7) (e := RKC E ad (r + 6) ra (va_up rk1 (p1 + 1) (rk1 p1)) 1) (by omega)
                have hb17 := hb7.keep (p := r + 7) (e := RKC E ad (r + 6) ra (va_up rk1 (p1 + 1) (rk1 p1)) 1) (by omega)
                have hfr := hfr.up (p := r + 7) (e := RKC E ad (r + 6) ra (va_up rk1 (p1 + 1) (rk1 p1)) 1) (by show _ ∧ _; omega)
                refine lv_iinc (v := nI (p1 + 1 - 1)) (lv' := [(3, .int (nI (p1 + 1 - 1))), (2, .int (nI (i))), (0, .ref (ad (r))), (1, .ref (ad (b)))]) hx hb dX5_rankCells_50 hl (k := 0) rfl (g_dec1 (by omega)) (by decide) rfl (fun ls hl => ?_)
                refine lv_goto (tgt := 10) hx hb dX5_rankCells_53 (by decide) ?_
                have hl : lv_has ls 4 [(3, .int (nI (p1))), (2, .int (nI (i))), (0, .ref (ad (r))), (1, .ref (ad (b)))] := hl
                exact ih_loop5 (p1) (va_up rk1 (p1 + 1) (rk1 p1)) (by omega) (by omega) (fun j hj hne => by by_cases q : j = p1 + 1; rw [q, va_up_self]; exact hrp; rw [va_up_ne _ _ q]; exact hr1 j hj q) (by rw [← he]; simp only [insN]; rw [if_pos hv]) _ _ _ hP hS hb16 hb17 hb15 hfr ls (lv_sub hl [0, 1, 2, 3] rfl)
        exact loop5 ((i) + 1) (i) (rankN ht rk i) (Nat.lt_succ_self _) (Nat.le_refl _) (fun j hj hne => hrl j (by omega)) (rfl) _ _ _ hP hS hb2 hb3 hb4 hfr ls (lv_sub hl [0, 1, 2, 3] rfl)
  exact loop1 (36 - (0) + 1) (0) (Nat.lt_succ_self _) (by omega) _ _ _ hP hS hb_s hb_g hb_k hfr ls (lv_sub hl [0, 1, 2] rfl)
set_option maxHeartbeats 4000000 in
set_option maxRecDepth 100000 in
/-- the cell at a rank -/
theorem mX5_cellAtRank (l : Launch) {E : gE} {ad : Nat → Nat} {N : Nat} {w : Nat → va_E} (b : Nat) (ht dr pg wt wr mo : Nat → Nat) (mc ni po dn : Nat) (r : Nat) (ra rk : Nat → Nat) (q : Nat) (hb_s : bkP N w b 7 (SHC E ad b ht dr pg wt wr mo mc ni po dn)) (hb_g : bkP N w r 1 (RGC E ad r )) (hb_k : bkP N w (r + 6) 2 (RKC E ad (r + 6) ra rk)) (hbr : b + 7 ≤ r) (hht : ∀ k, k < 36 → ht k ≤ 99) (hq : q < 36) : gMi l yX5_cellAtRank (lw_ws yX5_cellAtRank cX5_cellAtRank 3 (some .int)) ({ frames := 1, cells := 0, slots := 0, locals := 23 } : Room) E ad N w [.ref (ad (r)), .ref (ad (b)), .int (nI (q))] (fun z w' => z = nI (rankN ht rk 36 q) ∧ bkP N w' (r + 6) 2 (RKC E ad (r + 6) ra (rankN ht rk 36)) ∧ gFr (gIn (r + 6) 2) w w') 0 0 := by
  refine Met.ofW (cc := cX5_cellAtRank) (maxL := 3) (ret := (some .int)) (by decide) rfl ?_
  intro p e s m args below meth cd s₁ B hml hv
  obtain ⟨rfl, hI, hP⟩ := hv
  obtain ⟨S, hr, hlocks⟩ := gPre (ws := []) B hml (C := RX5) rfl
  have hx := S.1
  have hb := S.2.1
  have hS : va_S (gA E) s.heap s.heap [] := va_S.rf
  have hfr : gFr (gIn (r + 6) 2) w w := gFr.rf
  have hl := lv_entry ([.ref (ad (r)), .ref (ad (b)), .int (nI (q))]) (n := 3) (Nat.le_of_ble_eq_true rfl)
  rw [lg_entry_eq]
  generalize (lg_sl ([.ref (ad (r)), .ref (ad (b)), .int (nI (q))]) ++ List.replicate (3 - (lg_sl ([.ref (ad (r)), .ref (ad (b)), .int (nI (q))])).length) Slot.unset).toArray = ls at hl ⊢
  have hl : lv_has ls 3 [(0, .ref (ad (r))), (1, .ref (ad (b))), (2, .int (nI (q)))] := hl
  refine lv_aload_n hx hb dX5_cellAtRank_0 rfl (lv_at hl 0 rfl) ?_
  refine lv_aload_n hx hb dX5_cellAtRank_1 rfl (lv_at hl 1 rfl) ?_
  refine g_afv (g_runV S hI hP hS (k := 1) (As := [.ref (ad (b))]) (rest := []) (mX5_rankCells l b ht dr pg wt wr mo mc ni po dn r ra rk hb_s hb_g hb_k hbr hht) q912 q914 q25 q86 q915 rfl rfl (by decide +kernel) ⟨Nat.le_of_ble_eq_true rfl, Nat.le_of_ble_eq_true rfl⟩ rfl (hb_g.lt 0 (by decide)) (hb_g.2 0 (by decide)) rfl hl.1 rfl (Nat.le_of_ble_eq_true rfl) ⟨(Nat.le_of_ble_eq_true rfl), (Nat.le_of_ble_eq_true rfl)⟩ dX5_cellAtRank_2) hS (fun w1 H locs hq hP hS => ?_)
  obtain ⟨hb1, hf2⟩ := hq
  have hb3 := hb_s.fr hf2 (fun k hk => by show ¬ _; simp only [gIn]; omega)
  have hb4 := hb_g.fr hf2 (fun k hk => by show ¬ _; simp only [gIn]; omega)
  have hfr := hfr.trans hf2 (fun q hq => by simp only [gIn] at hq ⊢; omega)
  refine lv_aload_n hx hb dX5_cellAtRank_5 rfl (lv_at hl 0 rfl) ?_
  refine g_get S hI hP uX5 rfl (fs := _) (hb4.lt 0 (by decide)) (hb4.2 0 (by decide)) 3 (by decide) q245 rfl (v := .ref (ad (r + 7))) rfl dX5_cellAtRank_6 ?_
  refine lv_iload_n hx hb dX5_cellAtRank_9 rfl (lv_at hl 2 rfl) ?_
  refine g_iald S hI hP (f := fun j => nI ((rankN ht rk 36) j)) (hb1.lt 1 (by decide)) (hb1.2 1 (by decide)) (q) (hq) (by decide) dX5_cellAtRank_10 ?_
  exact g_iret S hr hlocks hP hS (⟨rfl, hb1, hfr⟩) (fun _ _ => rfl) (Nat.le_of_ble_eq_true rfl) (Nat.le_of_ble_eq_true rfl) dX5_cellAtRank_11
set_option maxHeartbeats 4000000 in
set_option maxRecDepth 100000 in
/-- an island is flooded -/
theorem mX5_floodIsland (l : Launch) {E : gE} {ad : Nat → Nat} {N : Nat} {w : Nat → va_E} (b : Nat) (ht dr pg wt wr mo : Nat → Nat) (mc ni po dn : Nat) (r : Nat) (re ce : Nat → Nat) (rc tc : Nat) (lv c0 : Nat) (hb_s : bkP N w b 7 (SHC E ad b ht dr pg wt wr mo mc ni po dn)) (hb_g : bkP N w r 1 (RGC E ad r )) (hb_f : bkP N w (r + 1) 3 (FLC E ad (r + 1) re ce rc tc)) (hbr : b + 7 ≤ r) (hht : ∀ k, k < 36 → ht k ≤ 99) (hc0 : c0 < 36) (hlv : lv ≤ 99) (hok : flOk (re, ce, rc)) (htm : tc ≤ rc) : gMv l yX5_floodIsland (lw_ws yX5_floodIsland cX5_floodIsland 8 none) ({ frames := 2, cells := 0, slots := 0, locals := 44 } : Room) E ad N w [.ref (ad (r)), .ref (ad (b)), .int (nI (lv)), .int (nI (c0))] (fun w' => bkP N w' (r + 1) 3 (FLC E ad (r + 1) (bfsG (fun _ k => decide (lv ≤ ht k)) 36 ((flR (re, ce, rc) c0), tc)).1.1 (bfsG (fun _ k => decide (lv ≤ ht k)) 36 ((flR (re, ce, rc) c0), tc)).1.2.1 (bfsG (fun _ k => decide (lv ≤ ht k)) 36 ((flR (re, ce, rc) c0), tc)).1.2.2 (bfsG (fun _ k => decide (lv ≤ ht k)) 36 ((flR (re, ce, rc) c0), tc)).2) ∧ gFr (gIn (r + 1) 3) w w') 0 0 := by
  refine Met.ofW (cc := cX5_floodIsland) (maxL := 8) (ret := none) (by decide) rfl ?_
  intro p e s m args below meth cd s₁ B hml hv
  obtain ⟨rfl, hI, hP⟩ := hv
  obtain ⟨S, hr, hlocks⟩ := gPre (ws := []) B hml (C := RX5) rfl
  have hx := S.1
  have hb := S.2.1
  have hS : va_S (gA E) s.heap s.heap [] := va_S.rf
  have hfr : gFr (gIn (r + 1) 3) w w := gFr.rf
  have hl := lv_entry ([.ref (ad (r)), .ref (ad (b)), .int (nI (lv)), .int (nI (c0))]) (n := 8) (Nat.le_of_ble_eq_true rfl)
  rw [lg_entry_eq]
  generalize (lg_sl ([.ref (ad (r)), .ref (ad (b)), .int (nI (lv)), .int (nI (c0))]) ++ List.replicate (8 - (lg_sl ([.ref (ad (r)), .ref (ad (b)), .int (nI (lv)), .int (nI (c0))])).length) Slot.unset).toArray = ls at hl ⊢
  have hl : lv_has ls 8 [(0, .ref (ad (r))), (1, .ref (ad (b))), (2, .int (nI (lv))), (3, .int (nI (c0)))] := hl
  refine lv_aload_n hx hb dX5_floodIsland_0 rfl (lv_at hl 0 rfl) ?_
  refine g_get S hI hP uX5 rfl (fs := _) (hb_g.lt 0 (by decide)) (hb_g.2 0 (by decide)) 0 (by decide) q242 rfl (v := .ref (ad (r + 1))) rfl dX5_floodIsland_1 ?_
  refine lv_iload_n hx hb dX5_floodIsland_4 rfl (lv_at hl 3 rfl) ?_
  refine g_afv (g_runV S hI hP hS (k := 1) (As := [.int (nI (c0))]) (rest := []) (mX3_reach l (r + 1) re ce rc tc c0 hb_f hc0 hok) q946 q947 q948 q87 q949 rfl rfl (by decide +kernel) ⟨Nat.le_of_ble_eq_true rfl, Nat.le_of_ble_eq_true rfl⟩ rfl (hb_f.lt 0 (by decide)) (hb_f.2 0 (by decide)) rfl hl.1 rfl (Nat.le_of_ble_eq_true rfl) ⟨(Nat.le_of_ble_eq_true rfl), (Nat.le_of_ble_eq_true rfl)⟩ dX5_floodIsland_5) hS (fun w1 H locs hq hP hS => ?_)
  obtain ⟨hb1, hf2⟩ := hq
  have hb3 := hb_s.fr hf2 (fun k hk => by show ¬ _; simp only [gIn]; omega)
  have hb4 := hb_g.fr hf2 (fun k hk => by show ¬ _; simp only [gIn]; omega)
  have hfr := hfr.trans hf2 (fun q hq => by simp only [gIn] at hq ⊢; omega)
  refine g_iconst S 0 dX5_floodIsland_8 (by decide +kernel) ?_
  refine lv_istore (lv' := [(4, .int (nI (0))), (0, .ref (ad (r))), (1, .ref (ad (b))), (2, .int (nI (lv))), (3, .int (nI (c0)))]) hx hb dX5_floodIsland_9 hl (by decide) rfl (fun ls hl => ?_)
  have hok0 := flR_ok hok hc0
  have hts0 : tc ≤ (flR (re, ce, rc) c0).2.2 := by simp only [flR]; split <;> omega
  obtain ⟨zf, hzf⟩ : ∃ zf, zf = (bfsG (fun _ k => decide (lv ≤ ht k)) 36 ((flR (re, ce, rc) c0), tc)) := ⟨_, rfl⟩
  have loop5 : ∀ (n : Nat) (i : Nat) (z : T3 × Nat), 36 - i < n → (i ≤ 36) → (flOk z.1) → (z.2 ≤ z.1.2.2) → (bfsG (fun _ k => decide (lv ≤ ht k)) (36 - i) z = zf) → ∀ (w1 : Nat → va_E) (H : Heap) (locs : List Loc), gP E ad N w1 H → va_S (gA E) s.heap H locs → bkP N w1 b 7 (SHC E ad b ht dr pg wt wr mo mc ni po dn) → bkP N w1 r 1 (RGC E ad r ) → bkP N w1 (r + 1) 3 (FLC E ad (r + 1) z.1.1 z.1.2.1 z.1.2.2 z.2) → gFr (gIn (r + 1) 3) w w1 → ∀ (ls : Array Slot), lv_has ls 8 [(4, .int (nI (i))), (0, .ref (ad (r))), (1, .ref (ad (b))), (2, .int (nI (lv))), (3, .int (nI (c0)))] → W p l e (headSpec (lw_ws yX5_floodIsland cX5_floodIsland 8 none) ({ frames := 2, cells := 0, slots := 0, locals := 44 } : Room)).room s m ([.ref (ad (r)), .ref (ad (b)), .int (nI (lv)), .int (nI (c0))] : List Value).toArray below meth cd H locs 0 0 (MQ below (va_Qv (fun w' => bkP N w' (r + 1) 3 (FLC E ad (r + 1) (bfsG (fun _ k => decide (lv ≤ ht k)) 36 ((flR (re, ce, rc) c0), tc)).1.1 (bfsG (fun _ k => decide (lv ≤ ht k)) 36 ((flR (re, ce, rc) c0), tc)).1.2.1 (bfsG (fun _ k => decide (lv ≤ ht k)) 36 ((flR (re, ce, rc) c0), tc)).1.2.2 (bfsG (fun _ k => decide (lv ≤ ht k)) 36 ((flR (re, ce, rc) c0), tc)).2) ∧ gFr (gIn (r + 1) 3) w w') (gB E ad N) (gA E)) ([.ref (ad (r)), .ref (ad (b)), .int (nI (lv)), .int (nI (c0))] : List Value).toArray s 0 0 (gA E)) (F0 m 11 ls []) := by
    intro n
    induction n with
    | zero => intro i z hmeas; omega
    | succ n ih_loop5 =>
      intro i z hmeas hi hz hzt he w1 H locs hP hS hb6 hb7 hb8 hfr ls hl
      have hz1 := hz.2.1
      refine lv_iload hx hb dX5_floodIsland_11 (lv_at hl 0 rfl) ?_
      refine g_bipush S 36 dX5_floodIsland_13 (by decide +kernel) ?_
      refine g_ge S (a := i) (b := 36) (by omega) (by omega) (tgt := 90) dX5_floodIsland_15 (by decide) (fun h => ?_) (fun h => ?_)
      · have ei : 36 - i = 0 := by omega
        rw [ei, bfsG_z] at he
        rw [he, hzf] at hb8
        exact g_vret S hr hlocks hP hS (⟨hb8, hfr⟩) (fun _ _ => rfl) (Nat.le_of_ble_eq_true rfl) (Nat.le_of_ble_eq_true rfl) dX5_floodIsland_90
      · have ei : 36 - i = (36 - (i + 1)) + 1 := by omega
        rw [ei, bfsG_s] at he
        refine lv_aload_n hx hb dX5_floodIsland_18 rfl (lv_at hl 1 rfl) ?_
        refine g_get S hI hP uX5 rfl (fs := _) (hb7.lt 0 (by decide)) (hb7.2 0 (by decide)) 0 (by decide) q242 rfl (v := .ref (ad (r + 1))) rfl dX5_floodIsland_19 ?_
        refine g_afi (g_runV S hI hP hS (k := 0) (As := []) (rest := []) (mX3_take l (r + 1) z.1.1 z.1.2.1 z.1.2.2 z.2 hb8 hz1 (by omega)) q950 q951 q952 q87 q953 rfl rfl (by decide +kernel) ⟨Nat.le_of_ble_eq_true rfl, Nat.le_of_ble_eq_true rfl⟩ rfl (hb8.lt 0 (by decide)) (hb8.2 0 (by decide)) rfl hl.1 rfl (Nat.le_of_ble_eq_true rfl) ⟨(Nat.le_of_ble_eq_true rfl), (Nat.le_of_ble_eq_true rfl)⟩ dX5_floodIsland_22) hS (fun r w1 H locs hq hP hS => ?_)
        obtain ⟨rfl, hb9, hf10⟩ := hq
        have hb11 := hb6.fr hf10 (fun k hk => by show ¬ _; simp only [gIn]; omega)
        have hb12 := hb7.fr hf10 (fun k hk => by show ¬ _; simp only [gIn]; omega)
        have hfr := hfr.trans hf10 (fun q hq => by simp only [gIn] at hq ⊢; omega)
        refine lv_istore (lv' := [(5, .int (oI (if z.2 < z.1.2.2 then some (z.1.2.1 z.2) else none))), (4, .int (nI (i))), (0, .ref (ad (r))), (1, .ref (ad (b))), (2, .int (nI (lv))), (3, .int (nI (c0)))]) hx hb dX5_floodIsland_25 hl (by decide) rfl (fun ls hl => ?_)
        refine lv_iload hx hb dX5_floodIsland_27 (lv_at hl 0 rfl) ?_
        refine lv_iconst (v := -1) hx hb dX5_floodIsland_29 (by decide +kernel) ?_
        refine g_one S (o := if z.2 < z.1.2.2 then some (z.1.2.1 z.2) else none) (fun k hk => by split at hk; cases hk; have := hz.1 _ ‹_›; omega; cases hk) (tgt := 34) dX5_floodIsland_30 (by decide) (fun hn_k hn => ?_) (fun hn => ?_)
        · have hlt : z.2 < z.1.2.2 := by by_cases q : z.2 < z.1.2.2; exact q; rw [if_neg q] at hn; cases hn
          have hkk : hn_k = z.1.2.1 z.2 := by rw [if_pos hlt] at hn; exact (Option.some.inj hn).symm
          have hk36 : hn_k < 36 := by rw [hkk]; exact hz.1 _ hlt
          rw [if_pos hlt] at he hb9
          rw [← hkk] at he
          have hl : lv_has ls 8 [(5, .int (nI (hn_k))), (4, .int (nI (i))), (0, .ref (ad (r))), (1, .ref (ad (b))), (2, .int (nI (lv))), (3, .int (nI (c0)))] := by rw [hn] at hl; exact hl
          refine g_iconst S 0 dX5_floodIsland_34 (by decide +kernel) ?_
          refine lv_istore (lv' := [(6, .int (nI (0))), (5, .int (nI (hn_k))), (4, .int (nI (i))), (0, .ref (ad (r))), (1, .ref (ad (b))), (2, .int (nI (lv))), (3, .int (nI (c0)))]) hx hb dX5_floodIsland_35 hl (by decide) rfl (fun ls hl => ?_)
          have loop13 : ∀ (n : Nat) (d : Nat), 4 - d < n → (d ≤ 4) → ∀ (w1 : Nat → va_E) (H : Heap) (locs : List Loc), gP E ad N w1 H → va_S (gA E) s.heap H locs → bkP N w1 b 7 (SHC E ad b ht dr pg wt wr mo mc ni po dn) → bkP N w1 r 1 (RGC E ad r ) → bkP N w1 (r + 1) 3 (FLC E ad (r + 1) ((flD (fun _ k => decide (lv ≤ ht k)) hn_k d z.1).1) ((flD (fun _ k => decide (lv ≤ ht k)) hn_k d z.1).2.1) ((flD (fun _ k => decide (lv ≤ ht k)) hn_k d z.1).2.2) (z.2 + 1)) → gFr (gIn (r + 1) 3) w w1 → ∀ (ls : Array Slot), lv_has ls 8 [(6, .int (nI (d))), (5, .int (nI (hn_k))), (4, .int (nI (i))), (0, .ref (ad (r))), (1, .ref (ad (b))), (2, .int (nI (lv))), (3, .int (nI (c0)))] → W p l e (headSpec (lw_ws yX5_floodIsland cX5_floodIsland 8 none) ({ frames := 2, cells := 0, slots := 0, locals := 44 } : Room)).room s m ([.ref (ad (r)), .ref (ad (b)), .int (nI (lv)), .int (nI (c0))] : List Value).toArray below meth cd H locs 0 0 (MQ below (va_Qv (fun w' => bkP N w' (r + 1) 3 (FLC E ad (r + 1) (bfsG (fun _ k => decide (lv ≤ ht k)) 36 ((flR (re, ce, rc) c0), tc)).1.1 (bfsG (fun _ k => decide (lv ≤ ht k)) 36 ((flR (re, ce, rc) c0), tc)).1.2.1 (bfsG (fun _ k => decide (lv ≤ ht k)) 36 ((flR (re, ce, rc) c0), tc)).1.2.2 (bfsG (fun _ k => decide (lv ≤ ht k)) 36 ((flR (re, ce, rc) c0), tc)).2) ∧ gFr (gIn (r + 1) 3) w w') (gB E ad N) (gA E)) ([.ref (ad (r)), .ref (ad (b)), .int (nI (lv)), .int (nI (c0))] : List Value).toArray s 0 0 (gA E)) (F0 m 37 ls []) := by
            intro n
            induction n with
            | zero => intro d hmeas; omega
            | succ n ih_loop13 =>
              intro d hmeas hd w1 H locs hP hS hb14 hb15 hb16 hfr ls hl
              have hfd := flD_ok (ok := (fun _ k => decide (lv ≤ ht k))) hz hk36 d
              refine lv_iload hx hb dX5_floodIsland_37 (lv_at hl 0 rfl) ?_
              refine g_iconst S 4 dX5_floodIsland_39 (by decide +kernel) ?_
              refine g_ge S (a := d) (b := 4) (by omega) (by omega) (tgt := 84) dX5_floodIsland_40 (by decide) (fun hd4 => ?_) (fun hd4 => ?_)
              · have e_d : d = 4 := by omega
                subst e_d
                refine lv_iinc (v := nI (i + 1)) (lv' := [(4, .int (nI (i + 1))), (6, .int (nI (4))), (5, .int (nI (hn_k))), (0, .ref (ad (r))), (1, .ref (ad (b))), (2, .int (nI (lv))), (3, .int (nI (c0)))]) hx hb dX5_floodIsland_84 hl (k := 2) rfl (g_inc _ 1 (by decide +kernel)) (by decide) rfl (fun ls hl => ?_)
                refine lv_goto (tgt := 11) hx hb dX5_floodIsland_87 (by decide) ?_
                exact ih_loop5 (i + 1) ((flD (fun _ k => decide (lv ≤ ht k)) hn_k 4 z.1, z.2 + 1)) (by omega) (by omega) (hfd) (flD_ge _ _ hlt) (he) _ _ _ hP hS hb14 hb15 hb16 hfr ls (lv_sub hl [0, 3, 4, 5, 6] rfl)
              · refine lv_iload hx hb dX5_floodIsland_43 (lv_at hl 1 rfl) ?_
                refine lv_iload hx hb dX5_floodIsland_45 (lv_at hl 0 rfl) ?_
                refine g_roi (g_runSN S hI hP hS (k := 2) (As := [.int (nI (hn_k)), .int (nI (d))]) (rest := []) (mX12_neighbour l hn_k d hk36 hd4) q954 q675 q82 q676 rfl rfl (by decide +kernel) ⟨Nat.le_of_ble_eq_true rfl, Nat.le_of_ble_eq_true rfl⟩ rfl hl.1 rfl (Nat.le_of_ble_eq_true rfl) ⟨(Nat.le_of_ble_eq_true rfl), (Nat.le_of_ble_eq_true rfl)⟩ dX5_floodIsland_47) hS (fun H locs hP hS => ?_)
                refine lv_istore (lv' := [(7, .int (oI (nb hn_k d))), (6, .int (nI (d))), (5, .int (nI (hn_k))), (4, .int (nI (i))), (0, .ref (ad (r))), (1, .ref (ad (b))), (2, .int (nI (lv))), (3, .int (nI (c0)))]) hx hb dX5_floodIsland_50 hl (by decide) rfl (fun ls hl => ?_)
                refine lv_iload hx hb dX5_floodIsland_52 (lv_at hl 0 rfl) ?_
                refine lv_iconst (v := -1) hx hb dX5_floodIsland_54 (by decide +kernel) ?_
                refine g_oeq S (o := nb hn_k d) (fun k hk => Nat.lt_trans (nb_lt hk36 hk) (by decide)) (tgt := 78) dX5_floodIsland_55 (by decide) (fun hb0 => ?_) (fun hb0_k hb0 => ?_)
                · have hde : flD (fun _ k => decide (lv ≤ ht k)) hn_k (d + 1) z.1 = flD (fun _ k => decide (lv ≤ ht k)) hn_k d z.1 := by simp [flD, hb0]
                  rw [← hde] at hb16
                  refine lv_iinc (v := nI (d + 1)) (lv' := [(6, .int (nI (d + 1))), (7, .int (oI (nb hn_k d))), (5, .int (nI (hn_k))), (4, .int (nI (i))), (0, .ref (ad (r))), (1, .ref (ad (b))), (2, .int (nI (lv))), (3, .int (nI (c0)))]) hx hb dX5_floodIsland_78 hl (k := 1) rfl (g_inc _ 1 (by decide +kernel)) (by decide) rfl (fun ls hl => ?_)
                  refine lv_goto (tgt := 37) hx hb dX5_floodIsland_81 (by decide) ?_
                  exact ih_loop13 (d + 1) (by omega) (by omega) _ _ _ hP hS hb14 hb15 hb16 hfr ls (lv_sub hl [0, 2, 3, 4, 5, 6, 7] rfl)
                · have hb36 := nb_lt hk36 hb0
                  have hzb := hht _ hb36
                  have hl : lv_has ls 8 [(7, .int (nI (hb0_k))), (6, .int (nI (d))), (5, .int (nI (hn_k))), (4, .int (nI (i))), (0, .ref (ad (r))), (1, .ref (ad (b))), (2, .int (nI (lv))), (3, .int (nI (c0)))] := by rw [hb0] at hl; exact hl
                  refine lv_aload_n hx hb dX5_floodIsland_58 rfl (lv_at hl 5 rfl) ?_
                  refine g_getN S hI hP uX7 rfl (fs := _) (hb14.lt 0 (by decide)) (hb14.2 0 (by decide)) 0 (by decide) q141 rfl (v := .ref (ad (b + 1))) rfl dX5_floodIsland_59 ?_
                  refine lv_iload hx hb dX5_floodIsland_62 (lv_at hl 0 rfl) ?_
                  refine g_iald S hI hP (f := fun j => nI (ht j)) (hb14.lt 1 (by decide)) (hb14.2 1 (by decide)) (hb0_k) (hb36) (by decide) dX5_floodIsland_64 ?_
                  refine lv_iload_n hx hb dX5_floodIsland_65 rfl (lv_at hl 6 rfl) ?_
                  refine g_lt S (a := ht hb0_k) (b := lv) (by omega) (by omega) (tgt := 78) dX5_floodIsland_66 (by decide) (fun hv => ?_) (fun hv => ?_)
                  · have hde : flD (fun _ k => decide (lv ≤ ht k)) hn_k (d + 1) z.1 = flD (fun _ k => decide (lv ≤ ht k)) hn_k d z.1 := by simp only [flD, hb0]; rw [if_neg (by simpa using hv)]
                    rw [← hde] at hb16
                    refine lv_iinc (v := nI (d + 1)) (lv' := [(6, .int (nI (d + 1))), (7, .int (nI (hb0_k))), (5, .int (nI (hn_k))), (4, .int (nI (i))), (0, .ref (ad (r))), (1, .ref (ad (b))), (2, .int (nI (lv))), (3, .int (nI (c0)))]) hx hb dX5_floodIsland_78 hl (k := 1) rfl (g_inc _ 1 (by decide +kernel)) (by decide) rfl (fun ls hl => ?_)
                    refine lv_goto (tgt := 37) hx hb dX5_floodIsland_81 (by decide) ?_
                    exact ih_loop13 (d + 1) (by omega) (by omega) _ _ _ hP hS hb14 hb15 hb16 hfr ls (lv_sub hl [0, 2, 3, 4, 5, 6, 7] rfl)
                  · refine lv_aload_n hx hb dX5_floodIsland_69 rfl (lv_at hl 4 rfl) ?_
                    refine g_get S hI hP uX5 rfl (fs := _) (hb15.lt 0 (by decide)) (hb15.2 0 (by decide)) 0 (by decide) q242 rfl (v := .ref (ad (r + 1))) rfl dX5_floodIsland_70 ?_
                    refine lv_iload hx hb dX5_floodIsland_73 (lv_at hl 0 rfl) ?_
                    refine g_afv (g_runV S hI hP hS (k := 1) (As := [.int (nI (hb0_k))]) (rest := []) (mX3_reach l (r + 1) (flD (fun _ k => decide (lv ≤ ht k)) hn_k d z.1).1 (flD (fun _ k => decide (lv ≤ ht k)) hn_k d z.1).2.1 (flD (fun _ k => decide (lv ≤ ht k)) hn_k d z.1).2.2 (z.2 + 1) hb0_k hb16 hb36 hfd) q946 q947 q948 q87 q949 rfl rfl (by decide +kernel) ⟨Nat.le_of_ble_eq_true rfl, Nat.le_of_ble_eq_true rfl⟩ rfl (hb16.lt 0 (by decide)) (hb16.2 0 (by decide)) rfl hl.1 rfl (Nat.le_of_ble_eq_true rfl) ⟨(Nat.le_of_ble_eq_true rfl), (Nat.le_of_ble_eq_true rfl)⟩ dX5_floodIsland_75) hS (fun w1 H locs hq hP hS => ?_)
                    obtain ⟨hb17, hf18⟩ := hq
                    have hb19 := hb14.fr hf18 (fun k hk => by show ¬ _; simp only [gIn]; omega)
                    have hb20 := hb15.fr hf18 (fun k hk => by show ¬ _; simp only [gIn]; omega)
                    have hfr := hfr.trans hf18 (fun q hq => by simp only [gIn] at hq ⊢; omega)
                    have hde : flD (fun _ k => decide (lv ≤ ht k)) hn_k (d + 1) z.1 = flR (flD (fun _ k => decide (lv ≤ ht k)) hn_k d z.1) hb0_k := by simp only [flD, hb0]; rw [if_pos (by simpa using hv)]
                    rw [← hde] at hb17
                    refine lv_iinc (v := nI (d + 1)) (lv' := [(6, .int (nI (d + 1))), (7, .int (nI (hb0_k))), (5, .int (nI (hn_k))), (4, .int (nI (i))), (0, .ref (ad (r))), (1, .ref (ad (b))), (2, .int (nI (lv))), (3, .int (nI (c0)))]) hx hb dX5_floodIsland_78 hl (k := 1) rfl (g_inc _ 1 (by decide +kernel)) (by decide) rfl (fun ls hl => ?_)
                    refine lv_goto (tgt := 37) hx hb dX5_floodIsland_81 (by decide) ?_
                    exact ih_loop13 (d + 1) (by omega) (by omega) _ _ _ hP hS hb19 hb20 hb17 hfr ls (lv_sub hl [0, 2, 3, 4, 5, 6, 7] rfl)
          exact loop13 (4 - (0) + 1) (0) (Nat.lt_succ_self _) (by omega) _ _ _ hP hS hb11 hb12 hb9 hfr ls (lv_sub hl [0, 1, 2, 3, 4, 5, 6] rfl)
        · have hlt : ¬ z.2 < z.1.2.2 := by intro q; rw [if_pos q] at hn; cases hn
          rw [if_neg hlt] at he hb9
          rw [he, hzf] at hb9
          exact g_vret S hr hlocks hP hS (⟨hb9, hfr⟩) (fun _ _ => rfl) (Nat.le_of_ble_eq_true rfl) (Nat.le_of_ble_eq_true rfl) dX5_floodIsland_33
  exact loop5 (36 - (0) + 1) (0) (((flR (re, ce, rc) c0), tc)) (Nat.lt_succ_self _) (by omega) (hok0) (hts0) (hzf.symm) _ _ _ hP hS hb3 hb4 hb1 hfr ls (lv_sub hl [0, 1, 2, 3, 4] rfl)
