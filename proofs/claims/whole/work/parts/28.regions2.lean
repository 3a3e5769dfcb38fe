set_option maxHeartbeats 4000000 in
set_option maxRecDepth 100000 in
/-- islands by floods -/
theorem mX5_islandsFlooded (l : Launch) {E : gE} {ad : Nat → Nat} {N : Nat} {w : Nat → va_E} (b : Nat) (ht dr pg wt wr mo : Nat → Nat) (mc ni po dn : Nat) (r : Nat) (re ce : Nat → Nat) (rc tc : Nat) (lv : Nat) (hb_s : bkP N w b 7 (SHC E ad b ht dr pg wt wr mo mc ni po dn)) (hb_g : bkP N w r 1 (RGC E ad r )) (hb_f : bkP N w (r + 1) 3 (FLC E ad (r + 1) re ce rc tc)) (hbr : b + 7 ≤ r) (hht : ∀ k, k < 36 → ht k ≤ 99) (hlv : lv ≤ 99) : gMi l yX5_islandsFlooded (lw_ws yX5_islandsFlooded cX5_islandsFlooded 5 (some .int)) ({ frames := 3, cells := 0, slots := 0, locals := 71 } : Room) E ad N w [.ref (ad (r)), .ref (ad (b)), .int (nI (lv))] (fun z w' => z = nI (ifN ht lv ((fil 36 (fun _ => 0) re, ce, 0), 0) 36).2 ∧ bkP N w' (r + 1) 3 (FLC E ad (r + 1) (ifN ht lv ((fil 36 (fun _ => 0) re, ce, 0), 0) 36).1.1.1 (ifN ht lv ((fil 36 (fun _ => 0) re, ce, 0), 0) 36).1.1.2.1 (ifN ht lv ((fil 36 (fun _ => 0) re, ce, 0), 0) 36).1.1.2.2 (ifN ht lv ((fil 36 (fun _ => 0) re, ce, 0), 0) 36).1.2) ∧ gFr (gIn (r + 1) 3) w w') 0 0 := by
  refine Met.ofW (cc := cX5_islandsFlooded) (maxL := 5) (ret := (some .int)) (by decide) rfl ?_
  intro p e s m args below meth cd s₁ B hml hv
  obtain ⟨rfl, hI, hP⟩ := hv
  obtain ⟨S, hr, hlocks⟩ := gPre (ws := []) B hml (C := RX5) rfl
  have hx := S.1
  have hb := S.2.1
  have hS : va_S (gA E) s.heap s.heap [] := va_S.rf
  have hfr : gFr (gIn (r + 1) 3) w w := gFr.rf
  have hl := lv_entry ([.ref (ad (r)), .ref (ad (b)), .int (nI (lv))]) (n := 5) (Nat.le_of_ble_eq_true rfl)
  rw [lg_entry_eq]
  generalize (lg_sl ([.ref (ad (r)), .ref (ad (b)), .int (nI (lv))]) ++ List.replicate (5 - (lg_sl ([.ref (ad (r)), .ref (ad (b)), .int (nI (lv))])).length) Slot.unset).toArray = ls at hl ⊢
  have hl : lv_has ls 5 [(0, .ref (ad (r))), (1, .ref (ad (b))), (2, .int (nI (lv)))] := hl
  refine lv_aload_n hx hb dX5_islandsFlooded_0 rfl (lv_at hl 0 rfl) ?_
  refine g_get S hI hP uX5 rfl (fs := _) (hb_g.lt 0 (by decide)) (hb_g.2 0 (by decide)) 0 (by decide) q242 rfl (v := .ref (ad (r + 1))) rfl dX5_islandsFlooded_1 ?_
  refine g_afv (g_runV S hI hP hS (k := 0) (As := []) (rest := []) (mX3_dry l (r + 1) re ce rc tc hb_f) q938 q939 q940 q87 q941 rfl rfl (by decide +kernel) ⟨Nat.le_of_ble_eq_true rfl, Nat.le_of_ble_eq_true rfl⟩ rfl (hb_f.lt 0 (by decide)) (hb_f.2 0 (by decide)) rfl hl.1 rfl (Nat.le_of_ble_eq_true rfl) ⟨(Nat.le_of_ble_eq_true rfl), (Nat.le_of_ble_eq_true rfl)⟩ dX5_islandsFlooded_4) hS (fun w1 H locs hq hP hS => ?_)
  obtain ⟨hb1, hf2⟩ := hq
  have hb3 := hb_s.fr hf2 (fun k hk => by show ¬ _; simp only [gIn]; omega)
  have hb4 := hb_g.fr hf2 (fun k hk => by show ¬ _; simp only [gIn]; omega)
  have hfr := hfr.trans hf2 (fun q hq => by simp only [gIn] at hq ⊢; omega)
  have hok0 : flOk ((fil 36 (fun _ => 0) re, ce, 0), 0).1 := ⟨fun j hj => absurd hj (Nat.not_lt_zero j), Nat.zero_le _, fun k hk => by show fil 36 (fun _ => 0) re k ≤ 1; rw [fil_in hk]; exact Nat.zero_le _⟩
  refine g_iconst S 0 dX5_islandsFlooded_7 (by decide +kernel) ?_
  refine lv_istore_n (lv' := [(3, .int (nI (0))), (0, .ref (ad (r))), (1, .ref (ad (b))), (2, .int (nI (lv)))]) hx hb dX5_islandsFlooded_8 rfl hl (by decide) rfl (fun ls hl => ?_)
  refine g_iconst S 0 dX5_islandsFlooded_9 (by decide +kernel) ?_
  refine lv_istore (lv' := [(4, .int (nI (0))), (3, .int (nI (0))), (0, .ref (ad (r))), (1, .ref (ad (b))), (2, .int (nI (lv)))]) hx hb dX5_islandsFlooded_10 hl (by decide) rfl (fun ls hl => ?_)
  have loop5 : ∀ (n : Nat) (i : Nat), 36 - i < n → (i ≤ 36) → ∀ (w1 : Nat → va_E) (H : Heap) (locs : List Loc), gP E ad N w1 H → va_S (gA E) s.heap H locs → bkP N w1 b 7 (SHC E ad b ht dr pg wt wr mo mc ni po dn) → bkP N w1 r 1 (RGC E ad r ) → bkP N w1 (r + 1) 3 (FLC E ad (r + 1) ((ifN ht lv ((fil 36 (fun _ => 0) re, ce, 0), 0) i).1.1.1) ((ifN ht lv ((fil 36 (fun _ => 0) re, ce, 0), 0) i).1.1.2.1) ((ifN ht lv ((fil 36 (fun _ => 0) re, ce, 0), 0) i).1.1.2.2) ((ifN ht lv ((fil 36 (fun _ => 0) re, ce, 0), 0) i).1.2)) → gFr (gIn (r + 1) 3) w w1 → ∀ (ls : Array Slot), lv_has ls 5 [(4, .int (nI (i))), (3, .int (nI ((ifN ht lv ((fil 36 (fun _ => 0) re, ce, 0), 0) i).2))), (0, .ref (ad (r))), (1, .ref (ad (b))), (2, .int (nI (lv)))] → W p l e (headSpec (lw_ws yX5_islandsFlooded cX5_islandsFlooded 5 (some .int)) ({ frames := 3, cells := 0, slots := 0, locals := 71 } : Room)).room s m ([.ref (ad (r)), .ref (ad (b)), .int (nI (lv))] : List Value).toArray below meth cd H locs 0 0 (MQ below (va_Qi (fun z w' => z = nI (ifN ht lv ((fil 36 (fun _ => 0) re, ce, 0), 0) 36).2 ∧ bkP N w' (r + 1) 3 (FLC E ad (r + 1) (ifN ht lv ((fil 36 (fun _ => 0) re, ce, 0), 0) 36).1.1.1 (ifN ht lv ((fil 36 (fun _ => 0) re, ce, 0), 0) 36).1.1.2.1 (ifN ht lv ((fil 36 (fun _ => 0) re, ce, 0), 0) 36).1.1.2.2 (ifN ht lv ((fil 36 (fun _ => 0) re, ce, 0), 0) 36).1.2) ∧ gFr (gIn (r + 1) 3) w w') (gB E ad N) (gA E)) ([.ref (ad (r)), .ref (ad (b)), .int (nI (lv))] : List Value).toArray s 0 0 (gA E)) (F0 m 12 ls []) := by
    intro n
    induction n with
    | zero => intro i hmeas; omega
    | succ n ih_loop5 =>
      intro i hmeas hi w1 H locs hP hS hb6 hb7 hb8 hfr ls hl
      obtain ⟨hoki, hci⟩ := ifN_ok (ht := ht) (lv := lv) hok0 hi
      have htmi := ifN_tm (ht := ht) (lv := lv) (s := ((fil 36 (fun _ => 0) re, ce, 0), 0)) (Nat.le_refl 0) i
      refine lv_iload hx hb dX5_islandsFlooded_12 (lv_at hl 0 rfl) ?_
      refine g_bipush S 36 dX5_islandsFlooded_14 (by decide +kernel) ?_
      refine g_ge S (a := i) (b := 36) (by omega) (by omega) (tgt := 60) dX5_islandsFlooded_16 (by decide) (fun h => ?_) (fun h => ?_)
      · have ei : i = 36 := by omega
        rw [ei] at hb8 hl
        refine lv_iload_n hx hb dX5_islandsFlooded_60 rfl (lv_at hl 1 rfl) ?_
        exact g_iret S hr hlocks hP hS (⟨rfl, hb8, hfr⟩) (fun _ _ => rfl) (Nat.le_of_ble_eq_true rfl) (Nat.le_of_ble_eq_true rfl) dX5_islandsFlooded_61
      · have hzi := hht i h
        refine lv_aload_n hx hb dX5_islandsFlooded_19 rfl (lv_at hl 3 rfl) ?_
        refine g_getN S hI hP uX7 rfl (fs := _) (hb6.lt 0 (by decide)) (hb6.2 0 (by decide)) 0 (by decide) q141 rfl (v := .ref (ad (b + 1))) rfl dX5_islandsFlooded_20 ?_
        refine lv_iload hx hb dX5_islandsFlooded_23 (lv_at hl 0 rfl) ?_
        refine g_iald S hI hP (f := fun j => nI (ht j)) (hb6.lt 1 (by decide)) (hb6.2 1 (by decide)) (i) (h) (by decide) dX5_islandsFlooded_25 ?_
        refine lv_iload_n hx hb dX5_islandsFlooded_26 rfl (lv_at hl 4 rfl) ?_
        refine g_lt S (a := ht i) (b := lv) (by omega) (by omega) (tgt := 54) dX5_islandsFlooded_27 (by decide) (fun hv => ?_) (fun hv => ?_)
        · have hie : ifN ht lv ((fil 36 (fun _ => 0) re, ce, 0), 0) (i + 1) = ifN ht lv ((fil 36 (fun _ => 0) re, ce, 0), 0) i := by simp only [ifN]; rw [if_pos hv]
          rw [show (ifN ht lv ((fil 36 (fun _ => 0) re, ce, 0), 0) i).1 = (ifN ht lv ((fil 36 (fun _ => 0) re, ce, 0), 0) (i + 1)).1 from (congrArg Prod.fst hie).symm] at hb8
          refine lv_iinc (v := nI (i + 1)) (lv' := [(4, .int (nI (i + 1))), (3, .int (nI ((ifN ht lv ((fil 36 (fun _ => 0) re, ce, 0), 0) i).2))), (0, .ref (ad (r))), (1, .ref (ad (b))), (2, .int (nI (lv)))]) hx hb dX5_islandsFlooded_54 hl (k := 0) rfl (g_inc _ 1 (by decide +kernel)) (by decide) rfl (fun ls hl => ?_)
          refine lv_goto (tgt := 12) hx hb dX5_islandsFlooded_57 (by decide) ?_
          have hl : lv_has ls 5 [(4, .int (nI (i + 1))), (3, .int (nI ((ifN ht lv ((fil 36 (fun _ => 0) re, ce, 0), 0) (i + 1)).2))), (0, .ref (ad (r))), (1, .ref (ad (b))), (2, .int (nI (lv)))] := by rw [hie]; exact hl
          exact ih_loop5 (i + 1) (by omega) (by omega) _ _ _ hP hS hb6 hb7 hb8 hfr ls (lv_sub hl [0, 1, 2, 3, 4] rfl)
        · have hre := hoki.2.2 i h
          refine lv_aload_n hx hb dX5_islandsFlooded_30 rfl (lv_at hl 2 rfl) ?_
          refine g_get S hI hP uX5 rfl (fs := _) (hb7.lt 0 (by decide)) (hb7.2 0 (by decide)) 0 (by decide) q242 rfl (v := .ref (ad (r + 1))) rfl dX5_islandsFlooded_31 ?_
          refine g_getN S hI hP uX3 rfl (fs := _) (hb8.lt 0 (by decide)) (hb8.2 0 (by decide)) 0 (by decide) q217 rfl (v := .ref (ad (r + 2))) rfl dX5_islandsFlooded_34 ?_
          refine lv_iload hx hb dX5_islandsFlooded_37 (lv_at hl 0 rfl) ?_
          refine g_zald S hI hP (f := fun j => nI (((ifN ht lv ((fil 36 (fun _ => 0) re, ce, 0), 0) i).1.1.1) j)) (hb8.lt 1 (by decide)) (hb8.2 1 (by decide)) (i) (h) (by decide) dX5_islandsFlooded_39 ?_
          refine g_ifne S (a := ((ifN ht lv ((fil 36 (fun _ => 0) re, ce, 0), 0) i).1.1.1) i) (by omega) (tgt := 54) dX5_islandsFlooded_40 (by decide) (fun hq => ?_) (fun hq => ?_)
          · have hie : ifN ht lv ((fil 36 (fun _ => 0) re, ce, 0), 0) (i + 1) = ifN ht lv ((fil 36 (fun _ => 0) re, ce, 0), 0) i := by simp only [ifN]; rw [if_neg (by omega), if_neg (by omega)]
            rw [show (ifN ht lv ((fil 36 (fun _ => 0) re, ce, 0), 0) i).1 = (ifN ht lv ((fil 36 (fun _ => 0) re, ce, 0), 0) (i + 1)).1 from (congrArg Prod.fst hie).symm] at hb8
            refine lv_iinc (v := nI (i + 1)) (lv' := [(4, .int (nI (i + 1))), (3, .int (nI ((ifN ht lv ((fil 36 (fun _ => 0) re, ce, 0), 0) i).2))), (0, .ref (ad (r))), (1, .ref (ad (b))), (2, .int (nI (lv)))]) hx hb dX5_islandsFlooded_54 hl (k := 0) rfl (g_inc _ 1 (by decide +kernel)) (by decide) rfl (fun ls hl => ?_)
            refine lv_goto (tgt := 12) hx hb dX5_islandsFlooded_57 (by decide) ?_
            have hl : lv_has ls 5 [(4, .int (nI (i + 1))), (3, .int (nI ((ifN ht lv ((fil 36 (fun _ => 0) re, ce, 0), 0) (i + 1)).2))), (0, .ref (ad (r))), (1, .ref (ad (b))), (2, .int (nI (lv)))] := by rw [hie]; exact hl
            exact ih_loop5 (i + 1) (by omega) (by omega) _ _ _ hP hS hb6 hb7 hb8 hfr ls (lv_sub hl [0, 1, 2, 3, 4] rfl)
          · refine lv_iinc (v := nI ((ifN ht lv ((fil 36 (fun _ => 0) re, ce, 0), 0) i).2 + 1)) (lv' := [(3, .int (nI ((ifN ht lv ((fil 36 (fun _ => 0) re, ce, 0), 0) i).2 + 1))), (4, .int (nI (i))), (0, .ref (ad (r))), (1, .ref (ad (b))), (2, .int (nI (lv)))]) hx hb dX5_islandsFlooded_43 hl (k := 1) rfl (g_inc _ 1 (by decide +kernel)) (by decide) rfl (fun ls hl => ?_)
            refine lv_aload_n hx hb dX5_islandsFlooded_46 rfl (lv_at hl 2 rfl) ?_
            refine lv_aload_n hx hb dX5_islandsFlooded_47 rfl (lv_at hl 3 rfl) ?_
            refine lv_iload_n hx hb dX5_islandsFlooded_48 rfl (lv_at hl 4 rfl) ?_
            refine lv_iload hx hb dX5_islandsFlooded_49 (lv_at hl 1 rfl) ?_
            refine g_afv (g_runV S hI hP hS (k := 3) (As := [.ref (ad (b)), .int (nI (lv)), .int (nI (i))]) (rest := []) (mX5_floodIsland l b ht dr pg wt wr mo mc ni po dn r (ifN ht lv ((fil 36 (fun _ => 0) re, ce, 0), 0) i).1.1.1 (ifN ht lv ((fil 36 (fun _ => 0) re, ce, 0), 0) i).1.1.2.1 (ifN ht lv ((fil 36 (fun _ => 0) re, ce, 0), 0) i).1.1.2.2 (ifN ht lv ((fil 36 (fun _ => 0) re, ce, 0), 0) i).1.2 lv i hb6 hb7 hb8 hbr hht h hlv hoki htmi) q942 q944 q26 q86 q945 rfl rfl (by decide +kernel) ⟨Nat.le_of_ble_eq_true rfl, Nat.le_of_ble_eq_true rfl⟩ rfl (hb7.lt 0 (by decide)) (hb7.2 0 (by decide)) rfl hl.1 rfl (Nat.le_of_ble_eq_true rfl) ⟨(Nat.le_of_ble_eq_true rfl), (Nat.le_of_ble_eq_true rfl)⟩ dX5_islandsFlooded_51) hS (fun w1 H locs hq hP hS => ?_)
            obtain ⟨hb9, hf10⟩ := hq
            have hb11 := hb6.fr hf10 (fun k hk => by show ¬ _; simp only [gIn]; omega)
            have hb12 := hb7.fr hf10 (fun k hk => by show ¬ _; simp only [gIn]; omega)
            have hfr := hfr.trans hf10 (fun q hq => by simp only [gIn] at hq ⊢; omega)
            have hie : ifN ht lv ((fil 36 (fun _ => 0) re, ce, 0), 0) (i + 1) = ((bfsG (fun _ k => decide (lv ≤ ht k)) 36 (flR (ifN ht lv ((fil 36 (fun _ => 0) re, ce, 0), 0) i).1.1 i, (ifN ht lv ((fil 36 (fun _ => 0) re, ce, 0), 0) i).1.2)), (ifN ht lv ((fil 36 (fun _ => 0) re, ce, 0), 0) i).2 + 1) := by simp only [ifN]; rw [if_neg (by omega), if_pos hq]
            rw [show (bfsG (fun _ k => decide (lv ≤ ht k)) 36 (flR (ifN ht lv ((fil 36 (fun _ => 0) re, ce, 0), 0) i).1.1 i, (ifN ht lv ((fil 36 (fun _ => 0) re, ce, 0), 0) i).1.2)) = (ifN ht lv ((fil 36 (fun _ => 0) re, ce, 0), 0) (i + 1)).1 from (congrArg Prod.fst hie).symm] at hb9
            refine lv_iinc (v := nI (i + 1)) (lv' := [(4, .int (nI (i + 1))), (3, .int (nI ((ifN ht lv ((fil 36 (fun _ => 0) re, ce, 0), 0) i).2 + 1))), (0, .ref (ad (r))), (1, .ref (ad (b))), (2, .int (nI (lv)))]) hx hb dX5_islandsFlooded_54 hl (k := 1) rfl (g_inc _ 1 (by decide +kernel)) (by decide) rfl (fun ls hl => ?_)
            refine lv_goto (tgt := 12) hx hb dX5_islandsFlooded_57 (by decide) ?_
            have hl : lv_has ls 5 [(4, .int (nI (i + 1))), (3, .int (nI ((ifN ht lv ((fil 36 (fun _ => 0) re, ce, 0), 0) (i + 1)).2))), (0, .ref (ad (r))), (1, .ref (ad (b))), (2, .int (nI (lv)))] := by rw [hie]; exact hl
            exact ih_loop5 (i + 1) (by omega) (by omega) _ _ _ hP hS hb11 hb12 hb9 hfr ls (lv_sub hl [0, 1, 2, 3, 4] rfl)
  exact loop5 (36 - (0) + 1) (0) (Nat.lt_succ_self _) (by omega) _ _ _ hP hS hb3 hb4 hb1 hfr ls (lv_sub hl [0, 1, 2, 3, 4] rfl)
set_option maxHeartbeats 4000000 in
set_option maxRecDepth 100000 in
/-- a cell is raised -/
theorem mX5_raise (l : Launch) {E : gE} {ad : Nat → Nat} {N : Nat} {w : Nat → va_E} (r : Nat) (pa ra rk : Nat → Nat) (c : Nat) (hb_g : bkP N w r 1 (RGC E ad r )) (hb_u : bkP N w (r + 4) 2 (UNC E ad (r + 4) pa)) (hb_k : bkP N w (r + 6) 2 (RKC E ad (r + 6) ra rk)) (hc : c < 36) (hpa : ∀ k, k < 36 → pa k < 36) (hra : ∀ k, k < 36 → ra k ≤ 1) : gMi l yX5_raise (lw_ws yX5_raise cX5_raise 5 (some .int)) ({ frames := 2, cells := 0, slots := 0, locals := 47 } : Room) E ad N w [.ref (ad (r)), .int (nI (c))] (fun z w' => z = nI (rsD (va_up ra c 1) c pa 4).2 ∧ bkP N w' (r + 4) 2 (UNC E ad (r + 4) (rsD (va_up ra c 1) c pa 4).1) ∧ bkP N w' (r + 6) 2 (RKC E ad (r + 6) (va_up ra c 1) rk) ∧ gFr (gIn (r + 4) 4) w w') 0 0 := by
  refine Met.ofW (cc := cX5_raise) (maxL := 5) (ret := (some .int)) (by decide) rfl ?_
  intro p e s m args below meth cd s₁ B hml hv
  obtain ⟨rfl, hI, hP⟩ := hv
  obtain ⟨S, hr, hlocks⟩ := gPre (ws := []) B hml (C := RX5) rfl
  have hx := S.1
  have hb := S.2.1
  have hS : va_S (gA E) s.heap s.heap [] := va_S.rf
  have hfr : gFr (gIn (r + 4) 4) w w := gFr.rf
  have hl := lv_entry ([.ref (ad (r)), .int (nI (c))]) (n := 5) (Nat.le_of_ble_eq_true rfl)
  rw [lg_entry_eq]
  generalize (lg_sl ([.ref (ad (r)), .int (nI (c))]) ++ List.replicate (5 - (lg_sl ([.ref (ad (r)), .int (nI (c))])).length) Slot.unset).toArray = ls at hl ⊢
  have hl : lv_has ls 5 [(0, .ref (ad (r))), (1, .int (nI (c)))] := hl
  refine lv_aload_n hx hb dX5_raise_0 rfl (lv_at hl 0 rfl) ?_
  refine g_get S hI hP uX5 rfl (fs := _) (hb_g.lt 0 (by decide)) (hb_g.2 0 (by decide)) 2 (by decide) q244 rfl (v := .ref (ad (r + 6))) rfl dX5_raise_1 ?_
  refine lv_iload_n hx hb dX5_raise_4 rfl (lv_at hl 1 rfl) ?_
  refine g_iconst S 1 dX5_raise_5 (by decide +kernel) ?_
  refine g_zastN S hI hP hS (f := ra) (x := 1) (hb_k.lt 0 (by decide)) (hb_k.2 0 (by decide)) (c) (hc) (by decide) (by omega) dX5_raise_6 (fun H locs hP hS => ?_)
  have hP : gP E ad N (va_up _ (r + 6) (RKC E ad (r + 6) (va_up ra c 1) rk 0)) H := hP
  have hb1 : bkP N (va_up _ (r + 6) (RKC E ad (r + 6) (va_up ra c 1) rk 0)) (r + 6) 2 (RKC E ad (r + 6) (va_up ra c 1) rk) := RK_setA0 hb_k _
  have hb2 := hb_g.keep (p := r + 6) (e := RKC E ad (r + 6) (va_up ra c 1) rk 0) (by omega)
  have hb3 := hb_u.keep (p := r + 6) (e := RKC E ad (r + 6) (va_up ra c 1) rk 0) (by omega)
  have hfr := hfr.up (p := r + 6) (e := RKC E ad (r + 6) (va_up ra c 1) rk 0) (by show _ ∧ _; omega)
  refine g_iconst S 0 dX5_raise_7 (by decide +kernel) ?_
  refine lv_istore_n (lv' := [(2, .int (nI (0))), (0, .ref (ad (r))), (1, .int (nI (c)))]) hx hb dX5_raise_8 rfl hl (by decide) rfl (fun ls hl => ?_)
  refine g_iconst S 0 dX5_raise_9 (by decide +kernel) ?_
  refine lv_istore_n (lv' := [(3, .int (nI (0))), (2, .int (nI (0))), (0, .ref (ad (r))), (1, .int (nI (c)))]) hx hb dX5_raise_10 rfl hl (by decide) rfl (fun ls hl => ?_)
  have hra2 : ∀ k, k < 36 → va_up ra c 1 k ≤ 1 := fun k hk => by by_cases q : k = c; rw [q, va_up_self]; omega; rw [va_up_ne _ _ q]; exact hra k hk
  have loop4 : ∀ (n : Nat) (d : Nat), 4 - d < n → (d ≤ 4) → ∀ (w1 : Nat → va_E) (H : Heap) (locs : List Loc), gP E ad N w1 H → va_S (gA E) s.heap H locs → bkP N w1 r 1 (RGC E ad r ) → bkP N w1 (r + 4) 2 (UNC E ad (r + 4) ((rsD (va_up ra c 1) c pa d).1)) → bkP N w1 (r + 6) 2 (RKC E ad (r + 6) (va_up ra c 1) rk) → gFr (gIn (r + 4) 4) w w1 → ∀ (ls : Array Slot), lv_has ls 5 [(3, .int (nI (d))), (2, .int (nI ((rsD (va_up ra c 1) c pa d).2))), (1, .int (nI (c))), (0, .ref (ad (r)))] → W p l e (headSpec (lw_ws yX5_raise cX5_raise 5 (some .int)) ({ frames := 2, cells := 0, slots := 0, locals := 47 } : Room)).room s m ([.ref (ad (r)), .int (nI (c))] : List Value).toArray below meth cd H locs 0 0 (MQ below (va_Qi (fun z w' => z = nI (rsD (va_up ra c 1) c pa 4).2 ∧ bkP N w' (r + 4) 2 (UNC E ad (r + 4) (rsD (va_up ra c 1) c pa 4).1) ∧ bkP N w' (r + 6) 2 (RKC E ad (r + 6) (va_up ra c 1) rk) ∧ gFr (gIn (r + 4) 4) w w') (gB E ad N) (gA E)) ([.ref (ad (r)), .int (nI (c))] : List Value).toArray s 0 0 (gA E)) (F0 m 11 ls []) := by
    intro n
    induction n with
    | zero => intro d hmeas; omega
    | succ n ih_loop4 =>
      intro d hmeas hd w1 H locs hP hS hb5 hb6 hb7 hfr ls hl
      obtain ⟨hpd, hcd⟩ := rsD_ok (ra := (va_up ra c 1)) hc hpa d
      refine lv_iload_n hx hb dX5_raise_11 rfl (lv_at hl 0 rfl) ?_
      refine g_iconst S 4 dX5_raise_12 (by decide +kernel) ?_
      refine g_ge S (a := d) (b := 4) (by omega) (by omega) (tgt := 61) dX5_raise_13 (by decide) (fun hd4 => ?_) (fun hd4 => ?_)
      · have e_d : d = 4 := by omega
        subst e_d
        refine lv_iload_n hx hb dX5_raise_61 rfl (lv_at hl 1 rfl) ?_
        exact g_iret S hr hlocks hP hS (⟨rfl, hb6, hb7, hfr⟩) (fun _ _ => rfl) (Nat.le_of_ble_eq_true rfl) (Nat.le_of_ble_eq_true rfl) dX5_raise_62
      · refine lv_iload_n hx hb dX5_raise_16 rfl (lv_at hl 2 rfl) ?_
        refine lv_iload_n hx hb dX5_raise_17 rfl (lv_at hl 0 rfl) ?_
        refine g_roi (g_runSN S hI hP hS (k := 2) (As := [.int (nI (c)), .int (nI (d))]) (rest := []) (mX12_neighbour l c d hc hd4) q954 q675 q82 q676 rfl rfl (by decide +kernel) ⟨Nat.le_of_ble_eq_true rfl, Nat.le_of_ble_eq_true rfl⟩ rfl hl.1 rfl (Nat.le_of_ble_eq_true rfl) ⟨(Nat.le_of_ble_eq_true rfl), (Nat.le_of_ble_eq_true rfl)⟩ dX5_raise_18) hS (fun H locs hP hS => ?_)
        refine lv_istore (lv' := [(4, .int (oI (nb c d))), (3, .int (nI (d))), (2, .int (nI ((rsD (va_up ra c 1) c pa d).2))), (1, .int (nI (c))), (0, .ref (ad (r)))]) hx hb dX5_raise_21 hl (by decide) rfl (fun ls hl => ?_)
        refine lv_iload hx hb dX5_raise_23 (lv_at hl 0 rfl) ?_
        refine lv_iconst (v := -1) hx hb dX5_raise_25 (by decide +kernel) ?_
        refine g_oeq S (o := nb c d) (fun k hk => Nat.lt_trans (nb_lt hc hk) (by decide)) (tgt := 55) dX5_raise_26 (by decide) (fun hn => ?_) (fun hn_k hn => ?_)
        · have hde : rsD (va_up ra c 1) c pa (d + 1) = rsD (va_up ra c 1) c pa d := by simp [rsD, hn]
          rw [show (rsD (va_up ra c 1) c pa d).1 = (rsD (va_up ra c 1) c pa (d + 1)).1 from congrArg Prod.fst hde.symm] at hb6
          refine lv_iinc (v := nI (d + 1)) (lv' := [(3, .int (nI (d + 1))), (4, .int (oI (nb c d))), (2, .int (nI ((rsD (va_up ra c 1) c pa d).2))), (1, .int (nI (c))), (0, .ref (ad (r)))]) hx hb dX5_raise_55 hl (k := 1) rfl (g_inc _ 1 (by decide +kernel)) (by decide) rfl (fun ls hl => ?_)
          refine lv_goto (tgt := 11) hx hb dX5_raise_58 (by decide) ?_
          have hl : lv_has ls 5 [(3, .int (nI (d + 1))), (4, .int (oI (nb c d))), (2, .int (nI ((rsD (va_up ra c 1) c pa (d + 1)).2))), (1, .int (nI (c))), (0, .ref (ad (r)))] := by rw [hde]; exact hl
          exact ih_loop4 (d + 1) (by omega) (by omega) _ _ _ hP hS hb5 hb6 hb7 hfr ls (lv_sub hl [0, 2, 3, 4] rfl)
        · have hk36 := nb_lt hc hn
          have hrk1 := hra2 _ hk36
          have hl : lv_has ls 5 [(4, .int (nI (hn_k))), (3, .int (nI (d))), (2, .int (nI ((rsD (va_up ra c 1) c pa d).2))), (1, .int (nI (c))), (0, .ref (ad (r)))] := by rw [hn] at hl; exact hl
          refine lv_aload_n hx hb dX5_raise_29 rfl (lv_at hl 4 rfl) ?_
          refine g_get S hI hP uX5 rfl (fs := _) (hb5.lt 0 (by decide)) (hb5.2 0 (by decide)) 2 (by decide) q244 rfl (v := .ref (ad (r + 6))) rfl dX5_raise_30 ?_
          refine lv_iload hx hb dX5_raise_33 (lv_at hl 0 rfl) ?_
          refine g_zald S hI hP (f := fun j => nI ((va_up ra c 1) j)) (hb7.lt 0 (by decide)) (hb7.2 0 (by decide)) (hn_k) (hk36) (by decide) dX5_raise_35 ?_
          refine g_ifeq S (a := (va_up ra c 1) hn_k) (by omega) (tgt := 55) dX5_raise_36 (by decide) (fun hz => ?_) (fun hz => ?_)
          · have hde : rsD (va_up ra c 1) c pa (d + 1) = rsD (va_up ra c 1) c pa d := by simp only [rsD, hn]; rw [if_pos hz]
            rw [show (rsD (va_up ra c 1) c pa d).1 = (rsD (va_up ra c 1) c pa (d + 1)).1 from congrArg Prod.fst hde.symm] at hb6
            refine lv_iinc (v := nI (d + 1)) (lv' := [(3, .int (nI (d + 1))), (4, .int (nI (hn_k))), (2, .int (nI ((rsD (va_up ra c 1) c pa d).2))), (1, .int (nI (c))), (0, .ref (ad (r)))]) hx hb dX5_raise_55 hl (k := 1) rfl (g_inc _ 1 (by decide +kernel)) (by decide) rfl (fun ls hl => ?_)
            refine lv_goto (tgt := 11) hx hb dX5_raise_58 (by decide) ?_
            have hl : lv_has ls 5 [(3, .int (nI (d + 1))), (4, .int (nI (hn_k))), (2, .int (nI ((rsD (va_up ra c 1) c pa (d + 1)).2))), (1, .int (nI (c))), (0, .ref (ad (r)))] := by rw [hde]; exact hl
            exact ih_loop4 (d + 1) (by omega) (by omega) _ _ _ hP hS hb5 hb6 hb7 hfr ls (lv_sub hl [0, 2, 3, 4] rfl)
          · have hz0 : ¬ va_up ra c 1 hn_k = 0 := by omega
            refine lv_aload_n hx hb dX5_raise_39 rfl (lv_at hl 4 rfl) ?_
            refine g_get S hI hP uX5 rfl (fs := _) (hb5.lt 0 (by decide)) (hb5.2 0 (by decide)) 1 (by decide) q243 rfl (v := .ref (ad (r + 4))) rfl dX5_raise_40 ?_
            refine lv_iload_n hx hb dX5_raise_43 rfl (lv_at hl 3 rfl) ?_
            refine lv_iload hx hb dX5_raise_44 (lv_at hl 0 rfl) ?_
            refine g_afi (g_runV S hI hP hS (k := 2) (As := [.int (nI (c)), .int (nI (hn_k))]) (rest := []) (mX10_unite l (r + 4) (rsD (va_up ra c 1) c pa d).1 c hn_k hb6 hc hk36 hpd) q974 q975 q976 q88 q977 rfl rfl (by decide +kernel) ⟨Nat.le_of_ble_eq_true rfl, Nat.le_of_ble_eq_true rfl⟩ rfl (hb6.lt 0 (by decide)) (hb6.2 0 (by decide)) rfl hl.1 rfl (Nat.le_of_ble_eq_true rfl) ⟨(Nat.le_of_ble_eq_true rfl), (Nat.le_of_ble_eq_true rfl)⟩ dX5_raise_46) hS (fun r w1 H locs hq hP hS => ?_)
            obtain ⟨rfl, hb8, hf9⟩ := hq
            have hb10 := hb5.fr hf9 (fun k hk => by show ¬ _; simp only [gIn]; omega)
            have hb11 := hb7.fr hf9 (fun k hk => by show ¬ _; simp only [gIn]; omega)
            have hfr := hfr.trans hf9 (fun q hq => by simp only [gIn] at hq ⊢; omega)
            refine g_beq S (b := !decide (rtN (rsD (va_up ra c 1) c pa d).1 36 c = rtN (rsD (va_up ra c 1) c pa d).1 36 hn_k)) (tgt := 55) dX5_raise_49 (by decide) (fun hw => ?_) (fun hw => ?_)
            · have hq0 : rtN (rsD (va_up ra c 1) c pa d).1 36 c = rtN (rsD (va_up ra c 1) c pa d).1 36 hn_k := by simpa using hw
              have hde : rsD (va_up ra c 1) c pa (d + 1) = (unU (rsD (va_up ra c 1) c pa d).1 c hn_k, (rsD (va_up ra c 1) c pa d).2) := by simp only [rsD, hn]; rw [if_neg hz0, if_pos hq0]
              rw [show unU (rsD (va_up ra c 1) c pa d).1 c hn_k = (rsD (va_up ra c 1) c pa (d + 1)).1 from congrArg Prod.fst hde.symm] at hb8
              refine lv_iinc (v := nI (d + 1)) (lv' := [(3, .int (nI (d + 1))), (4, .int (nI (hn_k))), (2, .int (nI ((rsD (va_up ra c 1) c pa d).2))), (1, .int (nI (c))), (0, .ref (ad (r)))]) hx hb dX5_raise_55 hl (k := 1) rfl (g_inc _ 1 (by decide +kernel)) (by decide) rfl (fun ls hl => ?_)
              refine lv_goto (tgt := 11) hx hb dX5_raise_58 (by decide) ?_
              have hl : lv_has ls 5 [(3, .int (nI (d + 1))), (4, .int (nI (hn_k))), (2, .int (nI ((rsD (va_up ra c 1) c pa (d + 1)).2))), (1, .int (nI (c))), (0, .ref (ad (r)))] := by rw [hde]; exact hl
              exact ih_loop4 (d + 1) (by omega) (by omega) _ _ _ hP hS hb10 hb8 hb11 hfr ls (lv_sub hl [0, 2, 3, 4] rfl)
            · have hq0 : ¬ rtN (rsD (va_up ra c 1) c pa d).1 36 c = rtN (rsD (va_up ra c 1) c pa d).1 36 hn_k := by simpa using hw
              have hde : rsD (va_up ra c 1) c pa (d + 1) = (unU (rsD (va_up ra c 1) c pa d).1 c hn_k, (rsD (va_up ra c 1) c pa d).2 + 1) := by simp only [rsD, hn]; rw [if_neg hz0, if_neg hq0]
              rw [show unU (rsD (va_up ra c 1) c pa d).1 c hn_k = (rsD (va_up ra c 1) c pa (d + 1)).1 from congrArg Prod.fst hde.symm] at hb8
              refine lv_iinc (v := nI ((rsD (va_up ra c 1) c pa d).2 + 1)) (lv' := [(2, .int (nI ((rsD (va_up ra c 1) c pa d).2 + 1))), (4, .int (nI (hn_k))), (3, .int (nI (d))), (1, .int (nI (c))), (0, .ref (ad (r)))]) hx hb dX5_raise_52 hl (k := 2) rfl (g_inc _ 1 (by decide +kernel)) (by decide) rfl (fun ls hl => ?_)
              refine lv_iinc (v := nI (d + 1)) (lv' := [(3, .int (nI (d + 1))), (2, .int (nI ((rsD (va_up ra c 1) c pa d).2 + 1))), (4, .int (nI (hn_k))), (1, .int (nI (c))), (0, .ref (ad (r)))]) hx hb dX5_raise_55 hl (k := 2) rfl (g_inc _ 1 (by decide +kernel)) (by decide) rfl (fun ls hl => ?_)
              refine lv_goto (tgt := 11) hx hb dX5_raise_58 (by decide) ?_
              have hl : lv_has ls 5 [(3, .int (nI (d + 1))), (2, .int (nI ((rsD (va_up ra c 1) c pa (d + 1)).2))), (4, .int (nI (hn_k))), (1, .int (nI (c))), (0, .ref (ad (r)))] := by rw [hde]; exact hl
              exact ih_loop4 (d + 1) (by omega) (by omega) _ _ _ hP hS hb10 hb8 hb11 hfr ls (lv_sub hl [0, 1, 3, 4] rfl)
  exact loop4 (4 - (0) + 1) (0) (Nat.lt_succ_self _) (by omega) _ _ _ hP hS hb2 hb3 hb1 hfr ls (lv_sub hl [0, 1, 3, 2] rfl)
set_option maxHeartbeats 4000000 in
set_option maxRecDepth 100000 in
/-- islands by unions -/
theorem mX5_islandsUnited (l : Launch) {E : gE} {ad : Nat → Nat} {N : Nat} {w : Nat → va_E} (b : Nat) (ht dr pg wt wr mo : Nat → Nat) (mc ni po dn : Nat) (r : Nat) (pa ra rk : Nat → Nat) (lv : Nat) (hb_s : bkP N w b 7 (SHC E ad b ht dr pg wt wr mo mc ni po dn)) (hb_g : bkP N w r 1 (RGC E ad r )) (hb_u : bkP N w (r + 4) 2 (UNC E ad (r + 4) pa)) (hb_k : bkP N w (r + 6) 2 (RKC E ad (r + 6) ra rk)) (hbr : b + 7 ≤ r) (hht : ∀ k, k < 36 → ht k ≤ 99) (hlv : lv ≤ 99) : gMi l yX5_islandsUnited (lw_ws yX5_islandsUnited cX5_islandsUnited 5 (some .int)) ({ frames := 3, cells := 0, slots := 0, locals := 71 } : Room) E ad N w [.ref (ad (r)), .ref (ad (b)), .int (nI (lv))] (fun z w' => z = (iuG ht (rankN ht rk 36) lv 36 0 (fil 36 (fun _ => 0) ra, fil 36 (fun j => j) pa, nI 0)).2.2 ∧ bkP N w' (r + 4) 2 (UNC E ad (r + 4) (iuG ht (rankN ht rk 36) lv 36 0 (fil 36 (fun _ => 0) ra, fil 36 (fun j => j) pa, nI 0)).2.1) ∧ bkP N w' (r + 6) 2 (RKC E ad (r + 6) (iuG ht (rankN ht rk 36) lv 36 0 (fil 36 (fun _ => 0) ra, fil 36 (fun j => j) pa, nI 0)).1 (rankN ht rk 36)) ∧ gFr (gIn (r + 4) 4) w w') 0 0 := by
  refine Met.ofW (cc := cX5_islandsUnited) (maxL := 5) (ret := (some .int)) (by decide) rfl ?_
  intro p e s m args below meth cd s₁ B hml hv
  obtain ⟨rfl, hI, hP⟩ := hv
  obtain ⟨S, hr, hlocks⟩ := gPre (ws := []) B hml (C := RX5) rfl
  have hx := S.1
  have hb := S.2.1
  have hS : va_S (gA E) s.heap s.heap [] := va_S.rf
  have hfr : gFr (gIn (r + 4) 4) w w := gFr.rf
  have hl := lv_entry ([.ref (ad (r)), .ref (ad (b)), .int (nI (lv))]) (n := 5) (Nat.le_of_ble_eq_true rfl)
  rw [lg_entry_eq]
  generalize (lg_sl ([.ref (ad (r)), .ref (ad (b)), .int (nI (lv))]) ++ List.replicate (5 - (lg_sl ([.ref (ad (r)), .ref (ad (b)), .int (nI (lv))])).length) Slot.unset).toArray = ls at hl ⊢
  have hl : lv_has ls 5 [(0, .ref (ad (r))), (1, .ref (ad (b))), (2, .int (nI (lv)))] := hl
  refine lv_aload_n hx hb dX5_islandsUnited_0 rfl (lv_at hl 0 rfl) ?_
  refine lv_aload_n hx hb dX5_islandsUnited_1 rfl (lv_at hl 1 rfl) ?_
  refine g_afv (g_runV S hI hP hS (k := 1) (As := [.ref (ad (b))]) (rest := []) (mX5_rankCells l b ht dr pg wt wr mo mc ni po dn r ra rk hb_s hb_g hb_k hbr hht) q912 q914 q25 q86 q915 rfl rfl (by decide +kernel) ⟨Nat.le_of_ble_eq_true rfl, Nat.le_of_ble_eq_true rfl⟩ rfl (hb_g.lt 0 (by decide)) (hb_g.2 0 (by decide)) rfl hl.1 rfl (Nat.le_of_ble_eq_true rfl) ⟨(Nat.le_of_ble_eq_true rfl), (Nat.le_of_ble_eq_true rfl)⟩ dX5_islandsUnited_2) hS (fun w1 H locs hq hP hS => ?_)
  obtain ⟨hb1, hf2⟩ := hq
  have hb3 := hb_s.fr hf2 (fun k hk => by show ¬ _; simp only [gIn]; omega)
  have hb4 := hb_g.fr hf2 (fun k hk => by show ¬ _; simp only [gIn]; omega)
  have hb5 := hb_u.fr hf2 (fun k hk => by show ¬ _; simp only [gIn]; omega)
  have hfr := hfr.trans hf2 (fun q hq => by simp only [gIn] at hq ⊢; omega)
  refine lv_aload_n hx hb dX5_islandsUnited_5 rfl (lv_at hl 0 rfl) ?_
  refine g_get S hI hP uX5 rfl (fs := _) (hb4.lt 0 (by decide)) (hb4.2 0 (by decide)) 1 (by decide) q243 rfl (v := .ref (ad (r + 4))) rfl dX5_islandsUnited_6 ?_
  refine g_afv (g_runV S hI hP hS (k := 0) (As := []) (rest := []) (mX10_separate l (r + 4) pa hb5) q966 q967 q968 q88 q969 rfl rfl (by decide +kernel) ⟨Nat.le_of_ble_eq_true rfl, Nat.le_of_ble_eq_true rfl⟩ rfl (hb5.lt 0 (by decide)) (hb5.2 0 (by decide)) rfl hl.1 rfl (Nat.le_of_ble_eq_true rfl) ⟨(Nat.le_of_ble_eq_true rfl), (Nat.le_of_ble_eq_true rfl)⟩ dX5_islandsUnited_9) hS (fun w1 H locs hq hP hS => ?_)
  obtain ⟨hb6, hf7⟩ := hq
  have hb8 := hb3.fr hf7 (fun k hk => by show ¬ _; simp only [gIn]; omega)
  have hb9 := hb4.fr hf7 (fun k hk => by show ¬ _; simp only [gIn]; omega)
  have hb10 := hb1.fr hf7 (fun k hk => by show ¬ _; simp only [gIn]; omega)
  have hfr := hfr.trans hf7 (fun q hq => by simp only [gIn] at hq ⊢; omega)
  refine g_iconst S 0 dX5_islandsUnited_12 (by decide +kernel) ?_
  refine lv_istore_n (lv' := [(3, .int (nI (0))), (0, .ref (ad (r))), (1, .ref (ad (b))), (2, .int (nI (lv)))]) hx hb dX5_islandsUnited_13 rfl hl (by decide) rfl (fun ls hl => ?_)
  have loop11 : ∀ (n : Nat) (i : Nat), 36 - i < n → (i ≤ 36) → ∀ (w1 : Nat → va_E) (H : Heap) (locs : List Loc), gP E ad N w1 H → va_S (gA E) s.heap H locs → bkP N w1 b 7 (SHC E ad b ht dr pg wt wr mo mc ni po dn) → bkP N w1 r 1 (RGC E ad r ) → bkP N w1 (r + 4) 2 (UNC E ad (r + 4) (fil 36 (fun j => j) pa)) → bkP N w1 (r + 6) 2 (RKC E ad (r + 6) (fil i (fun _ => 0) ra) (rankN ht rk 36)) → gFr (gIn (r + 4) 4) w w1 → ∀ (ls : Array Slot), lv_has ls 5 [(3, .int (nI (i))), (0, .ref (ad (r))), (1, .ref (ad (b))), (2, .int (nI (lv)))] → W p l e (headSpec (lw_ws yX5_islandsUnited cX5_islandsUnited 5 (some .int)) ({ frames := 3, cells := 0, slots := 0, locals := 71 } : Room)).room s m ([.ref (ad (r)), .ref (ad (b)), .int (nI (lv))] : List Value).toArray below meth cd H locs 0 0 (MQ below (va_Qi (fun z w' => z = (iuG ht (rankN ht rk 36) lv 36 0 (fil 36 (fun _ => 0) ra, fil 36 (fun j => j) pa, nI 0)).2.2 ∧ bkP N w' (r + 4) 2 (UNC E ad (r + 4) (iuG ht (rankN ht rk 36) lv 36 0 (fil 36 (fun _ => 0) ra, fil 36 (fun j => j) pa, nI 0)).2.1) ∧ bkP N w' (r + 6) 2 (RKC E ad (r + 6) (iuG ht (rankN ht rk 36) lv 36 0 (fil 36 (fun _ => 0) ra, fil 36 (fun j => j) pa, nI 0)).1 (rankN ht rk 36)) ∧ gFr (gIn (r + 4) 4) w w') (gB E ad N) (gA E)) ([.ref (ad (r)), .ref (ad (b)), .int (nI (lv))] : List Value).toArray s 0 0 (gA E)) (F0 m 14 ls []) := by
    intro n
    induction n with
    | zero => intro i hmeas; omega
    | succ n ih_loop11 =>
      intro i hmeas hi w1 H locs hP hS hb12 hb13 hb14 hb15 hfr ls hl
      have hrl := rankN_lt (ht := ht) (rk := rk) (n := 36) (Nat.le_refl _)
      refine lv_iload_n hx hb dX5_islandsUnited_14 rfl (lv_at hl 0 rfl) ?_
      refine g_bipush S 36 dX5_islandsUnited_15 (by decide +kernel) ?_
      refine g_ge S (a := i) (b := 36) (by omega) (by omega) (tgt := 33) dX5_islandsUnited_17 (by decide) (fun h => ?_) (fun h => ?_)
      · have ei : i = 36 := by omega
        rw [ei] at hb15
        refine g_iconst S 0 dX5_islandsUnited_33 (by decide +kernel) ?_
        refine lv_istore_n (lv' := [(3, .int (nI (0))), (0, .ref (ad (r))), (1, .ref (ad (b))), (2, .int (nI (lv)))]) hx hb dX5_islandsUnited_34 rfl hl (by decide) rfl (fun ls hl => ?_)
        refine g_iconst S 0 dX5_islandsUnited_35 (by decide +kernel) ?_
        refine lv_istore (lv' := [(4, .int (nI (0))), (3, .int (nI (0))), (0, .ref (ad (r))), (1, .ref (ad (b))), (2, .int (nI (lv)))]) hx hb dX5_islandsUnited_36 hl (by decide) rfl (fun ls hl => ?_)
        obtain ⟨zf, hzf⟩ : ∃ zf, zf = (iuG ht (rankN ht rk 36) lv 36 0 (fil 36 (fun _ => 0) ra, fil 36 (fun j => j) pa, nI 0)) := ⟨_, rfl⟩
        have loop16 : ∀ (n : Nat) (q : Nat) (z : (Nat → Nat) × (Nat → Nat) × Int32), 36 - q < n → (q ≤ 36) → (∀ k, k < 36 → z.1 k ≤ 1) → (∀ k, k < 36 → z.2.1 k < 36) → (iuG ht (rankN ht rk 36) lv (36 - q) q z = zf) → ∀ (w1 : Nat → va_E) (H : Heap) (locs : List Loc), gP E ad N w1 H → va_S (gA E) s.heap H locs → bkP N w1 b 7 (SHC E ad b ht dr pg wt wr mo mc ni po dn) → bkP N w1 r 1 (RGC E ad r ) → bkP N w1 (r + 4) 2 (UNC E ad (r + 4) z.2.1) → bkP N w1 (r + 6) 2 (RKC E ad (r + 6) z.1 (rankN ht rk 36)) → gFr (gIn (r + 4) 4) w w1 → ∀ (ls : Array Slot), lv_has ls 5 [(4, .int (nI (q))), (3, .int (z.2.2)), (0, .ref (ad (r))), (1, .ref (ad (b))), (2, .int (nI (lv)))] → W p l e (headSpec (lw_ws yX5_islandsUnited cX5_islandsUnited 5 (some .int)) ({ frames := 3, cells := 0, slots := 0, locals := 71 } : Room)).room s m ([.ref (ad (r)), .ref (ad (b)), .int (nI (lv))] : List Value).toArray below meth cd H locs 0 0 (MQ below (va_Qi (fun z w' => z = (iuG ht (rankN ht rk 36) lv 36 0 (fil 36 (fun _ => 0) ra, fil 36 (fun j => j) pa, nI 0)).2.2 ∧ bkP N w' (r + 4) 2 (UNC E ad (r + 4) (iuG ht (rankN ht rk 36) lv 36 0 (fil 36 (fun _ => 0) ra, fil 36 (fun j => j) pa, nI 0)).2.1) ∧ bkP N w' (r + 6) 2 (RKC E ad (r + 6) (iuG ht (rankN ht rk 36) lv 36 0 (fil 36 (fun _ => 0) ra, fil 36 (fun j => j) pa, nI 0)).1 (rankN ht rk 36)) ∧ gFr (gIn (r + 4) 4) w w') (gB E ad N) (gA E)) ([.ref (ad (r)), .ref (ad (b)), .int (nI (lv))] : List Value).toArray s 0 0 (gA E)) (F0 m 38 ls []) := by
          intro n
          induction n with
          | zero => intro q z hmeas; omega
          | succ n ih_loop16 =>
            intro q z hmeas hq hza hzp he w1 H locs hP hS hb17 hb18 hb19 hb20 hfr ls hl
            refine lv_iload hx hb dX5_islandsUnited_38 (lv_at hl 0 rfl) ?_
            refine g_bipush S 36 dX5_islandsUnited_40 (by decide +kernel) ?_
            refine g_ge S (a := q) (b := 36) (by omega) (by omega) (tgt := 83) dX5_islandsUnited_42 (by decide) (fun hq1 => ?_) (fun hq1 => ?_)
            · have eq2 : 36 - q = 0 := by omega
              rw [eq2, iuG_z] at he
              rw [he, hzf] at hb19 hb20
              refine lv_iload_n hx hb dX5_islandsUnited_83 rfl (lv_at hl 1 rfl) ?_
              exact g_iret S hr hlocks hP hS (⟨by rw [he, hzf], hb19, hb20, hfr⟩) (fun _ _ => rfl) (Nat.le_of_ble_eq_true rfl) (Nat.le_of_ble_eq_true rfl) dX5_islandsUnited_84
            · have eq2 : 36 - q = (36 - (q + 1)) + 1 := by omega
              rw [eq2, iuG_s] at he
              have hrq := hrl q hq1
              have hzq := hht _ hrq
              refine lv_aload_n hx hb dX5_islandsUnited_45 rfl (lv_at hl 3 rfl) ?_
              refine g_getN S hI hP uX7 rfl (fs := _) (hb17.lt 0 (by decide)) (hb17.2 0 (by decide)) 0 (by decide) q141 rfl (v := .ref (ad (b + 1))) rfl dX5_islandsUnited_46 ?_
              refine lv_aload_n hx hb dX5_islandsUnited_49 rfl (lv_at hl 2 rfl) ?_
              refine g_get S hI hP uX5 rfl (fs := _) (hb18.lt 0 (by decide)) (hb18.2 0 (by decide)) 3 (by decide) q245 rfl (v := .ref (ad (r + 7))) rfl dX5_islandsUnited_50 ?_
              refine lv_iload hx hb dX5_islandsUnited_53 (lv_at hl 0 rfl) ?_
              refine g_iald S hI hP (f := fun j => nI ((rankN ht rk 36) j)) (hb20.lt 1 (by decide)) (hb20.2 1 (by decide)) (q) (hq1) (by decide) dX5_islandsUnited_55 ?_
              refine g_iald S hI hP (f := fun j => nI (ht j)) (hb17.lt 1 (by decide)) (hb17.2 1 (by decide)) ((rankN ht rk 36) q) (hrq) (by decide) dX5_islandsUnited_56 ?_
              refine lv_iload_n hx hb dX5_islandsUnited_57 rfl (lv_at hl 4 rfl) ?_
              refine g_lt S (a := ht ((rankN ht rk 36) q)) (b := lv) (by omega) (by omega) (tgt := 83) dX5_islandsUnited_58 (by decide) (fun hv => ?_) (fun hv => ?_)
              · rw [if_pos hv] at he
                rw [he, hzf] at hb19 hb20
                refine lv_iload_n hx hb dX5_islandsUnited_83 rfl (lv_at hl 1 rfl) ?_
                exact g_iret S hr hlocks hP hS (⟨by rw [he, hzf], hb19, hb20, hfr⟩) (fun _ _ => rfl) (Nat.le_of_ble_eq_true rfl) (Nat.le_of_ble_eq_true rfl) dX5_islandsUnited_84
              · rw [if_neg (by omega)] at he
                refine lv_iload_n hx hb dX5_islandsUnited_61 rfl (lv_at hl 1 rfl) ?_
                refine g_iconst S 1 dX5_islandsUnited_62 (by decide +kernel) ?_
                refine lv_aload_n hx hb dX5_islandsUnited_63 rfl (lv_at hl 2 rfl) ?_
                refine lv_aload_n hx hb dX5_islandsUnited_64 rfl (lv_at hl 2 rfl) ?_
                refine g_get S hI hP uX5 rfl (fs := _) (hb18.lt 0 (by decide)) (hb18.2 0 (by decide)) 3 (by decide) q245 rfl (v := .ref (ad (r + 7))) rfl dX5_islandsUnited_65 ?_
                refine lv_iload hx hb dX5_islandsUnited_68 (lv_at hl 0 rfl) ?_
                refine g_iald S hI hP (f := fun j => nI ((rankN ht rk 36) j)) (hb20.lt 1 (by decide)) (hb20.2 1 (by decide)) (q) (hq1) (by decide) dX5_islandsUnited_70 ?_
                refine g_afi (g_runV S hI hP hS (k := 1) (As := [.int (nI ((rankN ht rk 36) q))]) (rest := [.int (nI (1)), .int (z.2.2)]) (mX5_raise l r z.2.1 z.1 (rankN ht rk 36) ((rankN ht rk 36) q) hb18 hb19 hb20 hrq hzp hza) q970 q972 q27 q86 q973 rfl rfl (by decide +kernel) ⟨Nat.le_of_ble_eq_true rfl, Nat.le_of_ble_eq_true rfl⟩ rfl (hb18.lt 0 (by decide)) (hb18.2 0 (by decide)) rfl hl.1 rfl (Nat.le_of_ble_eq_true rfl) ⟨(Nat.le_of_ble_eq_true rfl), (Nat.le_of_ble_eq_true rfl)⟩ dX5_islandsUnited_71) hS (fun r w1 H locs hq hP hS => ?_)
                obtain ⟨rfl, hb21, hb22, hf23⟩ := hq
                have hb24 := hb17.fr hf23 (fun k hk => by show ¬ _; simp only [gIn]; omega)
                have hb25 := hb18.fr hf23 (fun k hk => by show ¬ _; simp only [gIn]; omega)
                have hfr := hfr.trans hf23 (fun q hq => by simp only [gIn] at hq ⊢; omega)
                refine lv_isub hx hb dX5_islandsUnited_74 ?_
                refine lv_iadd hx hb dX5_islandsUnited_75 ?_
                refine lv_istore_n (lv' := [(3, .int (z.2.2 + (nI (1) - nI ((rsD (va_up z.1 ((rankN ht rk 36) q) 1) ((rankN ht rk 36) q) z.2.1 4).2)))), (4, .int (nI (q))), (0, .ref (ad (r))), (1, .ref (ad (b))), (2, .int (nI (lv)))]) hx hb dX5_islandsUnited_76 rfl hl (by decide) rfl (fun ls hl => ?_)
                refine lv_iinc (v := nI (q + 1)) (lv' := [(4, .int (nI (q + 1))), (3, .int (z.2.2 + (nI (1) - nI ((rsD (va_up z.1 ((rankN ht rk 36) q) 1) ((rankN ht rk 36) q) z.2.1 4).2)))), (0, .ref (ad (r))), (1, .ref (ad (b))), (2, .int (nI (lv)))]) hx hb dX5_islandsUnited_77 hl (k := 1) rfl (g_inc _ 1 (by decide +kernel)) (by decide) rfl (fun ls hl => ?_)
                refine lv_goto (tgt := 38) hx hb dX5_islandsUnited_80 (by decide) ?_
                obtain ⟨hpd, hcd⟩ := rsD_ok (ra := va_up z.1 ((rankN ht rk 36) q) 1) hrq hzp 4
                exact ih_loop16 (q + 1) ((va_up z.1 ((rankN ht rk 36) q) 1, (rsD (va_up z.1 ((rankN ht rk 36) q) 1) ((rankN ht rk 36) q) z.2.1 4).1, z.2.2 + (nI 1 - nI (rsD (va_up z.1 ((rankN ht rk 36) q) 1) ((rankN ht rk 36) q) z.2.1 4).2))) (by omega) (by omega) (fun k hk => by show va_up z.1 _ 1 k ≤ 1; by_cases qq : k = (rankN ht rk 36) q; rw [qq, va_up_self]; omega; rw [va_up_ne _ _ qq]; exact hza k hk) (hpd) (he) _ _ _ hP hS hb24 hb25 hb21 hb22 hfr ls (lv_sub hl [0, 1, 2, 3, 4] rfl)
        exact loop16 (36 - (0) + 1) (0) ((fil 36 (fun _ => 0) ra, fil 36 (fun j => j) pa, nI 0)) (Nat.lt_succ_self _) (by omega) (fun k hk => by show fil 36 (fun _ => 0) ra k ≤ 1; rw [fil_in hk]; exact Nat.zero_le _) (fun k hk => by show fil 36 (fun j => j) pa k < 36; rw [fil_in hk]; exact hk) (hzf.symm) _ _ _ hP hS hb12 hb13 hb14 hb15 hfr ls (lv_sub hl [0, 1, 2, 3, 4] rfl)
      · refine lv_aload_n hx hb dX5_islandsUnited_20 rfl (lv_at hl 1 rfl) ?_
        refine g_get S hI hP uX5 rfl (fs := _) (hb13.lt 0 (by decide)) (hb13.2 0 (by decide)) 2 (by decide) q244 rfl (v := .ref (ad (r + 6))) rfl dX5_islandsUnited_21 ?_
        refine lv_iload_n hx hb dX5_islandsUnited_24 rfl (lv_at hl 0 rfl) ?_
        refine g_iconst S 0 dX5_islandsUnited_25 (by decide +kernel) ?_
        refine g_zastN S hI hP hS (f := fil i (fun _ => 0) ra) (x := 0) (hb15.lt 0 (by decide)) (hb15.2 0 (by decide)) (i) (h) (by decide) (by omega) dX5_islandsUnited_26 (fun H locs hP hS => ?_)
        have hP : gP E ad N (va_up _ (r + 6) (RKC E ad (r + 6) (va_up (fil i (fun _ => 0) ra) i 0) (rankN ht rk 36) 0)) H := hP
        have hb26 : bkP N (va_up _ (r + 6) (RKC E ad (r + 6) (va_up (fil i (fun _ => 0) ra) i 0) (rankN ht rk 36) 0)) (r + 6) 2 (RKC E ad (r + 6) (va_up (fil i (fun _ => 0) ra) i 0) (rankN ht rk 36)) := RK_setA0 hb15 _
        have hb27 := hb12.keep (p := r + 6) (e := RKC E ad (r + 6) (va_up (fil i (fun _ => 0) ra) i 0) (rankN ht rk 36) 0) (by omega)
        have hb28 := hb13.keep (p := r + 6) (e := RKC E ad (r + 6) (va_up (fil i (fun _ => 0) ra) i 0) (rankN ht rk 36) 0) (by omega)
        have hb29 := hb14.keep (p := r + 6) (e := RKC E ad (r + 6) (va_up (fil i (fun _ => 0) ra) i 0) (rankN ht rk 36) 0) (by omega)
        have hfr := hfr.up (p := r + 6) (e := RKC E ad (r + 6) (va_up (fil i (fun _ => 0) ra) i 0) (rankN ht rk 36) 0) (by show _ ∧ _; omega)
        rw [fil_up (f := fun _ => 0)] at hb27 hb28 hb29 hb26 hP hfr
        refine lv_iinc (v := nI (i + 1)) (lv' := [(3, .int (nI (i + 1))), (0, .ref (ad (r))), (1, .ref (ad (b))), (2, .int (nI (lv)))]) hx hb dX5_islandsUnited_27 hl (k := 0) rfl (g_inc _ 1 (by decide +kernel)) (by decide) rfl (fun ls hl => ?_)
        refine lv_goto (tgt := 14) hx hb dX5_islandsUnited_30 (by decide) ?_
        exact ih_loop11 (i + 1) (by omega) (by omega) _ _ _ hP hS hb27 hb28 hb29 hb26 hfr ls (lv_sub hl [0, 1, 2, 3] rfl)
  rw [← fil_0 (fun _ => 0) ra] at hb10
  exact loop11 (36 - (0) + 1) (0) (Nat.lt_succ_self _) (by omega) _ _ _ hP hS hb8 hb9 hb6 hb10 hfr ls (lv_sub hl [0, 1, 2, 3] rfl)
set_option maxHeartbeats 4000000 in
set_option maxRecDepth 100000 in
/-- the basins -/
theorem mX5_countBasins (l : Launch) {E : gE} {ad : Nat → Nat} {N : Nat} {w : Nat → va_E} (b : Nat) (ht dr pg wt wr mo : Nat → Nat) (mc ni po dn : Nat) (r : Nat) (hb_s : bkP N w b 7 (SHC E ad b ht dr pg wt wr mo mc ni po dn)) (hb_g : bkP N w r 1 (RGC E ad r )) (hwr : ∀ k, k < 36 → wr k ≤ 3) (hht : ∀ k, k < 36 → ht k ≤ 99) : gMi l yX5_countBasins (lw_ws yX5_countBasins cX5_countBasins 4 (some .int)) ({ frames := 3, cells := 0, slots := 0, locals := 68 } : Room) E ad N w [.ref (ad (r)), .ref (ad (b))] (fun r w' => r = nI (cnt (fun k => (flow ht wr k).isNone) 36) ∧ w' = w) 0 0 := by
  refine Met.ofW (cc := cX5_countBasins) (maxL := 4) (ret := (some .int)) (by decide) rfl ?_
  intro p e s m args below meth cd s₁ B hml hv
  obtain ⟨rfl, hI, hP⟩ := hv
  obtain ⟨S, hr, hlocks⟩ := gPre (ws := []) B hml (C := RX5) rfl
  have hx := S.1
  have hb := S.2.1
  have hS : va_S (gA E) s.heap s.heap [] := va_S.rf
  have hl := lv_entry ([.ref (ad (r)), .ref (ad (b))]) (n := 4) (Nat.le_of_ble_eq_true rfl)
  rw [lg_entry_eq]
  generalize (lg_sl ([.ref (ad (r)), .ref (ad (b))]) ++ List.replicate (4 - (lg_sl ([.ref (ad (r)), .ref (ad (b))])).length) Slot.unset).toArray = ls at hl ⊢
  have hl : lv_has ls 4 [(0, .ref (ad (r))), (1, .ref (ad (b)))] := hl
  refine g_iconst S 0 dX5_countBasins_0 (by decide +kernel) ?_
  refine lv_istore_n (lv' := [(2, .int (nI (0))), (0, .ref (ad (r))), (1, .ref (ad (b)))]) hx hb dX5_countBasins_1 rfl hl (by decide) rfl (fun ls hl => ?_)
  refine g_iconst S 0 dX5_countBasins_2 (by decide +kernel) ?_
  refine lv_istore_n (lv' := [(3, .int (nI (0))), (2, .int (nI (0))), (0, .ref (ad (r))), (1, .ref (ad (b)))]) hx hb dX5_countBasins_3 rfl hl (by decide) rfl (fun ls hl => ?_)
  have loop1 : ∀ (n : Nat) (i : Nat), 36 - i < n → (i ≤ 36) → ∀ (H : Heap) (locs : List Loc), gP E ad N w H → va_S (gA E) s.heap H locs → ∀ (ls : Array Slot), lv_has ls 4 [(3, .int (nI (i))), (2, .int (nI (cnt (fun k => (flow ht wr k).isNone) i))), (0, .ref (ad (r))), (1, .ref (ad (b)))] → W p l e (headSpec (lw_ws yX5_countBasins cX5_countBasins 4 (some .int)) ({ frames := 3, cells := 0, slots := 0, locals := 68 } : Room)).room s m ([.ref (ad (r)), .ref (ad (b))] : List Value).toArray below meth cd H locs 0 0 (MQ below (va_Qi (fun r w' => r = nI (cnt (fun k => (flow ht wr k).isNone) 36) ∧ w' = w) (gB E ad N) (gA E)) ([.ref (ad (r)), .ref (ad (b))] : List Value).toArray s 0 0 (gA E)) (F0 m 4 ls []) := by
    intro n
    induction n with
    | zero => intro i hmeas; omega
    | succ n ih_loop1 =>
      intro i hmeas hi H locs hP hS ls hl
      refine lv_iload_n hx hb dX5_countBasins_4 rfl (lv_at hl 0 rfl) ?_
      refine g_bipush S 36 dX5_countBasins_5 (by decide +kernel) ?_
      refine g_ge S (a := i) (b := 36) (by omega) (by omega) (tgt := 28) dX5_countBasins_7 (by decide) (fun h => ?_) (fun h => ?_)
      · have e_i : i = 36 := by omega
        subst e_i
        refine lv_iload_n hx hb dX5_countBasins_28 rfl (lv_at hl 1 rfl) ?_
        exact g_iret S hr hlocks hP hS (⟨rfl, rfl⟩) (fun _ _ => rfl) (Nat.le_of_ble_eq_true rfl) (Nat.le_of_ble_eq_true rfl) dX5_countBasins_29
      · refine lv_aload_n hx hb dX5_countBasins_10 rfl (lv_at hl 3 rfl) ?_
        refine lv_iload_n hx hb dX5_countBasins_11 rfl (lv_at hl 0 rfl) ?_
        refine g_roi (g_runV S hI hP hS (k := 1) (As := [.int (nI (i))]) (rest := []) (mX7_flowOf l b ht dr pg wt wr mo mc ni po dn i hb_s h hwr hht) q738 q693 q694 q83 q695 rfl rfl (by decide +kernel) ⟨Nat.le_of_ble_eq_true rfl, Nat.le_of_ble_eq_true rfl⟩ rfl (hb_s.lt 0 (by decide)) (hb_s.2 0 (by decide)) rfl hl.1 rfl (Nat.le_of_ble_eq_true rfl) ⟨(Nat.le_of_ble_eq_true rfl), (Nat.le_of_ble_eq_true rfl)⟩ dX5_countBasins_12) hS (fun H locs hP hS => ?_)
        refine lv_iconst (v := -1) hx hb dX5_countBasins_15 (by decide +kernel) ?_
        refine g_one S (o := flow ht wr i) (fun k hk => Nat.lt_trans (flow_lt h hk) (by decide)) (tgt := 22) dX5_countBasins_16 (by decide) (fun hn_k hn => ?_) (fun hn => ?_)
        · refine lv_iinc (v := nI (i + 1)) (lv' := [(3, .int (nI (i + 1))), (2, .int (nI (cnt (fun k => (flow ht wr k).isNone) i))), (0, .ref (ad (r))), (1, .ref (ad (b)))]) hx hb dX5_countBasins_22 hl (k := 0) rfl (g_inc _ 1 (by decide +kernel)) (by decide) rfl (fun ls hl => ?_)
          refine lv_goto (tgt := 4) hx hb dX5_countBasins_25 (by decide) ?_
          have hl : lv_has ls 4 [(3, .int (nI (i + 1))), (2, .int (nI (cnt (fun k => (flow ht wr k).isNone) (i + 1)))), (0, .ref (ad (r))), (1, .ref (ad (b)))] := by rw [cnt_n (p := (fun k => (flow ht wr k).isNone)) (by simp [hn])]; exact hl
          exact ih_loop1 (i + 1) (by omega) (by omega) _ _ hP hS ls (lv_sub hl [0, 1, 2, 3] rfl)
        · refine lv_iinc (v := nI (cnt (fun k => (flow ht wr k).isNone) i + 1)) (lv' := [(2, .int (nI (cnt (fun k => (flow ht wr k).isNone) i + 1))), (3, .int (nI (i))), (0, .ref (ad (r))), (1, .ref (ad (b)))]) hx hb dX5_countBasins_19 hl (k := 1) rfl (g_inc _ 1 (by decide +kernel)) (by decide) rfl (fun ls hl => ?_)
          refine lv_iinc (v := nI (i + 1)) (lv' := [(3, .int (nI (i + 1))), (2, .int (nI (cnt (fun k => (flow ht wr k).isNone) i + 1))), (0, .ref (ad (r))), (1, .ref (ad (b)))]) hx hb dX5_countBasins_22 hl (k := 1) rfl (g_inc _ 1 (by decide +kernel)) (by decide) rfl (fun ls hl => ?_)
          refine lv_goto (tgt := 4) hx hb dX5_countBasins_25 (by decide) ?_
          have hl : lv_has ls 4 [(3, .int (nI (i + 1))), (2, .int (nI (cnt (fun k => (flow ht wr k).isNone) (i + 1)))), (0, .ref (ad (r))), (1, .ref (ad (b)))] := by rw [cnt_y (p := (fun k => (flow ht wr k).isNone)) (by simp [hn])]; exact hl
          exact ih_loop1 (i + 1) (by omega) (by omega) _ _ hP hS ls (lv_sub hl [0, 1, 2, 3] rfl)
  exact loop1 (36 - (0) + 1) (0) (Nat.lt_succ_self _) (by omega) _ _ hP hS ls (lv_sub hl [0, 1, 2, 3] rfl)
set_option maxHeartbeats 4000000 in
set_option maxRecDepth 100000 in
/-- a basin, followed -/
theorem mX5_basinFollowed (l : Launch) {E : gE} {ad : Nat → Nat} {N : Nat} {w : Nat → va_E} (b : Nat) (ht dr pg wt wr mo : Nat → Nat) (mc ni po dn : Nat) (r : Nat) (c : Nat) (hb_s : bkP N w b 7 (SHC E ad b ht dr pg wt wr mo mc ni po dn)) (hb_g : bkP N w r 1 (RGC E ad r )) (hc : c < 36) (hwr : ∀ k, k < 36 → wr k ≤ 3) (hht : ∀ k, k < 36 → ht k ≤ 99) : gMi l yX5_basinFollowed (lw_ws yX5_basinFollowed cX5_basinFollowed 6 (some .int)) ({ frames := 4, cells := 0, slots := 0, locals := 92 } : Room) E ad N w [.ref (ad (r)), .ref (ad (b)), .int (nI (c))] (fun r w' => r = nI (cnt (fun k => endN ht wr 36 k == endN ht wr 36 c) 36) ∧ w' = w) 0 0 := by
  refine Met.ofW (cc := cX5_basinFollowed) (maxL := 6) (ret := (some .int)) (by decide) rfl ?_
  intro p e s m args below meth cd s₁ B hml hv
  obtain ⟨rfl, hI, hP⟩ := hv
  obtain ⟨S, hr, hlocks⟩ := gPre (ws := []) B hml (C := RX5) rfl
  have hx := S.1
  have hb := S.2.1
  have hS : va_S (gA E) s.heap s.heap [] := va_S.rf
  have hl := lv_entry ([.ref (ad (r)), .ref (ad (b)), .int (nI (c))]) (n := 6) (Nat.le_of_ble_eq_true rfl)
  rw [lg_entry_eq]
  generalize (lg_sl ([.ref (ad (r)), .ref (ad (b)), .int (nI (c))]) ++ List.replicate (6 - (lg_sl ([.ref (ad (r)), .ref (ad (b)), .int (nI (c))])).length) Slot.unset).toArray = ls at hl ⊢
  have hl : lv_has ls 6 [(0, .ref (ad (r))), (1, .ref (ad (b))), (2, .int (nI (c)))] := hl
  have hec := endN_lt (ht := ht) (wr := wr) (n := 36) hc
  refine lv_aload_n hx hb dX5_basinFollowed_0 rfl (lv_at hl 1 rfl) ?_
  refine lv_iload_n hx hb dX5_basinFollowed_1 rfl (lv_at hl 2 rfl) ?_
  refine g_roi (g_runV S hI hP hS (k := 1) (As := [.int (nI (c))]) (rest := []) (mX7_endOf l b ht dr pg wt wr mo mc ni po dn c hb_s hc hwr hht) q1024 q689 q690 q83 q691 rfl rfl (by decide +kernel) ⟨Nat.le_of_ble_eq_true rfl, Nat.le_of_ble_eq_true rfl⟩ rfl (hb_s.lt 0 (by decide)) (hb_s.2 0 (by decide)) rfl hl.1 rfl (Nat.le_of_ble_eq_true rfl) ⟨(Nat.le_of_ble_eq_true rfl), (Nat.le_of_ble_eq_true rfl)⟩ dX5_basinFollowed_2) hS (fun H locs hP hS => ?_)
  refine lv_istore_n (lv' := [(3, .int (nI (endN ht wr 36 c))), (0, .ref (ad (r))), (1, .ref (ad (b))), (2, .int (nI (c)))]) hx hb dX5_basinFollowed_5 rfl hl (by decide) rfl (fun ls hl => ?_)
  refine g_iconst S 0 dX5_basinFollowed_6 (by decide +kernel) ?_
  refine lv_istore (lv' := [(4, .int (nI (0))), (3, .int (nI (endN ht wr 36 c))), (0, .ref (ad (r))), (1, .ref (ad (b))), (2, .int (nI (c)))]) hx hb dX5_basinFollowed_7 hl (by decide) rfl (fun ls hl => ?_)
  refine g_iconst S 0 dX5_basinFollowed_9 (by decide +kernel) ?_
  refine lv_istore (lv' := [(5, .int (nI (0))), (4, .int (nI (0))), (3, .int (nI (endN ht wr 36 c))), (0, .ref (ad (r))), (1, .ref (ad (b))), (2, .int (nI (c)))]) hx hb dX5_basinFollowed_10 hl (by decide) rfl (fun ls hl => ?_)
  have loop1 : ∀ (n : Nat) (i : Nat), 36 - i < n → (i ≤ 36) → ∀ (H : Heap) (locs : List Loc), gP E ad N w H → va_S (gA E) s.heap H locs → ∀ (ls : Array Slot), lv_has ls 6 [(5, .int (nI (i))), (4, .int (nI (cnt (fun k => endN ht wr 36 k == endN ht wr 36 c) i))), (3, .int (nI (endN ht wr 36 c))), (0, .ref (ad (r))), (1, .ref (ad (b))), (2, .int (nI (c)))] → W p l e (headSpec (lw_ws yX5_basinFollowed cX5_basinFollowed 6 (some .int)) ({ frames := 4, cells := 0, slots := 0, locals := 92 } : Room)).room s m ([.ref (ad (r)), .ref (ad (b)), .int (nI (c))] : List Value).toArray below meth cd H locs 0 0 (MQ below (va_Qi (fun r w' => r = nI (cnt (fun k => endN ht wr 36 k == endN ht wr 36 c) 36) ∧ w' = w) (gB E ad N) (gA E)) ([.ref (ad (r)), .ref (ad (b)), .int (nI (c))] : List Value).toArray s 0 0 (gA E)) (F0 m 12 ls []) := by
    intro n
    induction n with
    | zero => intro i hmeas; omega
    | succ n ih_loop1 =>
      intro i hmeas hi H locs hP hS ls hl
      refine lv_iload hx hb dX5_basinFollowed_12 (lv_at hl 0 rfl) ?_
      refine g_bipush S 36 dX5_basinFollowed_14 (by decide +kernel) ?_
      refine g_ge S (a := i) (b := 36) (by omega) (by omega) (tgt := 38) dX5_basinFollowed_16 (by decide) (fun h => ?_) (fun h => ?_)
      · have e_i : i = 36 := by omega
        subst e_i
        refine lv_iload hx hb dX5_basinFollowed_38 (lv_at hl 1 rfl) ?_
        exact g_iret S hr hlocks hP hS (⟨rfl, rfl⟩) (fun _ _ => rfl) (Nat.le_of_ble_eq_true rfl) (Nat.le_of_ble_eq_true rfl) dX5_basinFollowed_40
      · have hei := endN_lt (ht := ht) (wr := wr) (n := 36) h
        refine lv_aload_n hx hb dX5_basinFollowed_19 rfl (lv_at hl 4 rfl) ?_
        refine lv_iload hx hb dX5_basinFollowed_20 (lv_at hl 0 rfl) ?_
        refine g_roi (g_runV S hI hP hS (k := 1) (As := [.int (nI (i))]) (rest := []) (mX7_endOf l b ht dr pg wt wr mo mc ni po dn i hb_s h hwr hht) q1024 q689 q690 q83 q691 rfl rfl (by decide +kernel) ⟨Nat.le_of_ble_eq_true rfl, Nat.le_of_ble_eq_true rfl⟩ rfl (hb_s.lt 0 (by decide)) (hb_s.2 0 (by decide)) rfl hl.1 rfl (Nat.le_of_ble_eq_true rfl) ⟨(Nat.le_of_ble_eq_true rfl), (Nat.le_of_ble_eq_true rfl)⟩ dX5_basinFollowed_22) hS (fun H locs hP hS => ?_)
        refine lv_iload_n hx hb dX5_basinFollowed_25 rfl (lv_at hl 2 rfl) ?_
        refine g_ne S (a := endN ht wr 36 i) (b := endN ht wr 36 c) (by omega) (by omega) (tgt := 32) dX5_basinFollowed_26 (by decide) (fun hn => ?_) (fun hn => ?_)
        · refine lv_iinc (v := nI (i + 1)) (lv' := [(5, .int (nI (i + 1))), (4, .int (nI (cnt (fun k => endN ht wr 36 k == endN ht wr 36 c) i))), (3, .int (nI (endN ht wr 36 c))), (0, .ref (ad (r))), (1, .ref (ad (b))), (2, .int (nI (c)))]) hx hb dX5_basinFollowed_32 hl (k := 0) rfl (g_inc _ 1 (by decide +kernel)) (by decide) rfl (fun ls hl => ?_)
          refine lv_goto (tgt := 12) hx hb dX5_basinFollowed_35 (by decide) ?_
          have hl : lv_has ls 6 [(5, .int (nI (i + 1))), (4, .int (nI (cnt (fun k => endN ht wr 36 k == endN ht wr 36 c) (i + 1)))), (3, .int (nI (endN ht wr 36 c))), (0, .ref (ad (r))), (1, .ref (ad (b))), (2, .int (nI (c)))] := by rw [cnt_n (p := (fun k => endN ht wr 36 k == endN ht wr 36 c)) (by simp [hn])]; exact hl
          exact ih_loop1 (i + 1) (by omega) (by omega) _ _ hP hS ls (lv_sub hl [0, 1, 2, 3, 4, 5] rfl)
        · refine lv_iinc (v := nI (cnt (fun k => endN ht wr 36 k == endN ht wr 36 c) i + 1)) (lv' := [(4, .int (nI (cnt (fun k => endN ht wr 36 k == endN ht wr 36 c) i + 1))), (5, .int (nI (i))), (3, .int (nI (endN ht wr 36 c))), (0, .ref (ad (r))), (1, .ref (ad (b))), (2, .int (nI (c)))]) hx hb dX5_basinFollowed_29 hl (k := 1) rfl (g_inc _ 1 (by decide +kernel)) (by decide) rfl (fun ls hl => ?_)
          refine lv_iinc (v := nI (i + 1)) (lv' := [(5, .int (nI (i + 1))), (4, .int (nI (cnt (fun k => endN ht wr 36 k == endN ht wr 36 c) i + 1))), (3, .int (nI (endN ht wr 36 c))), (0, .ref (ad (r))), (1, .ref (ad (b))), (2, .int (nI (c)))]) hx hb dX5_basinFollowed_32 hl (k := 1) rfl (g_inc _ 1 (by decide +kernel)) (by decide) rfl (fun ls hl => ?_)
          refine lv_goto (tgt := 12) hx hb dX5_basinFollowed_35 (by decide) ?_
          have hl : lv_has ls 6 [(5, .int (nI (i + 1))), (4, .int (nI (cnt (fun k => endN ht wr 36 k == endN ht wr 36 c) (i + 1)))), (3, .int (nI (endN ht wr 36 c))), (0, .ref (ad (r))), (1, .ref (ad (b))), (2, .int (nI (c)))] := by rw [cnt_y (p := (fun k => endN ht wr 36 k == endN ht wr 36 c)) (by simp [hn])]; exact hl
          exact ih_loop1 (i + 1) (by omega) (by omega) _ _ hP hS ls (lv_sub hl [0, 1, 2, 3, 4, 5] rfl)
  exact loop1 (36 - (0) + 1) (0) (Nat.lt_succ_self _) (by omega) _ _ hP hS ls (lv_sub hl [0, 1, 2, 3, 4, 5] rfl)
