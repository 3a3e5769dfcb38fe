set_option maxHeartbeats 4000000 in
set_option maxRecDepth 100000 in
/-- a cost that is known -/
theorem mX6_knownCost (l : Launch) {E : gE} {ad : Nat → Nat} {N : Nat} {w : Nat → va_E} (r : Nat) (pn : Nat) (lv : Nat → Nat) (c : Nat) (hb_g : bkP N w r 1 (RTC E ad r pn)) (hb_l : bkP N w (r + 9) 1 (LVC E ad (r + 9) lv)) (hc : c < 36) (hlc : lv c ≤ 1000000) : gMi l yX6_knownCost (lw_ws yX6_knownCost cX6_knownCost 2 (some .int)) ({ frames := 0, cells := 0, slots := 0, locals := 0 } : Room) E ad N w [.ref (ad (r)), .int (nI (c))] (fun r w' => r = kcI (lv c) ∧ w' = w) 0 0 := by
  refine Met.ofW (cc := cX6_knownCost) (maxL := 2) (ret := (some .int)) (by decide) rfl ?_
  intro p e s m args below meth cd s₁ B hml hv
  obtain ⟨rfl, hI, hP⟩ := hv
  obtain ⟨S, hr, hlocks⟩ := gPre (ws := []) B hml (C := RX6) rfl
  have hx := S.1
  have hb := S.2.1
  have hS : va_S (gA E) s.heap s.heap [] := va_S.rf
  have hl := lv_entry ([.ref (ad (r)), .int (nI (c))]) (n := 2) (Nat.le_of_ble_eq_true rfl)
  rw [lg_entry_eq]
  generalize (lg_sl ([.ref (ad (r)), .int (nI (c))]) ++ List.replicate (2 - (lg_sl ([.ref (ad (r)), .int (nI (c))])).length) Slot.unset).toArray = ls at hl ⊢
  have hl : lv_has ls 2 [(0, .ref (ad (r))), (1, .int (nI (c)))] := hl
  refine lv_aload_n hx hb dX6_knownCost_0 rfl (lv_at hl 0 rfl) ?_
  refine g_get S hI hP uX6 rfl (fs := _) (hb_g.lt 0 (by decide)) (hb_g.2 0 (by decide)) 3 (by decide) q296 rfl (v := .ref (ad (r + 9))) rfl dX6_knownCost_1 ?_
  refine lv_iload_n hx hb dX6_knownCost_4 rfl (lv_at hl 1 rfl) ?_
  refine g_iald S hI hP (f := fun j => nI (lv j)) (hb_l.lt 0 (by decide)) (hb_l.2 0 (by decide)) (c) (hc) (by decide) dX6_knownCost_5 ?_
  refine lv_ldc (v := nI 1000000) hx hb S.2.2.2.1 (S.2.2.2.2 _ q1074) dX6_knownCost_6 ?_
  refine g_ne S (a := lv c) (b := 1000000) (by omega) (by omega) (tgt := 15) dX6_knownCost_8 (by decide) (fun h => ?_) (fun h => ?_)
  · refine lv_aload_n hx hb dX6_knownCost_15 rfl (lv_at hl 0 rfl) ?_
    refine g_get S hI hP uX6 rfl (fs := _) (hb_g.lt 0 (by decide)) (hb_g.2 0 (by decide)) 3 (by decide) q296 rfl (v := .ref (ad (r + 9))) rfl dX6_knownCost_16 ?_
    refine lv_iload_n hx hb dX6_knownCost_19 rfl (lv_at hl 1 rfl) ?_
    refine g_iald S hI hP (f := fun j => nI (lv j)) (hb_l.lt 0 (by decide)) (hb_l.2 0 (by decide)) (c) (hc) (by decide) dX6_knownCost_20 ?_
    exact g_iret S hr hlocks hP hS (⟨by rw [kcI, if_neg h], rfl⟩) (fun _ _ => rfl) (Nat.le_of_ble_eq_true rfl) (Nat.le_of_ble_eq_true rfl) dX6_knownCost_21
  · refine lv_iconst (v := -1) hx hb dX6_knownCost_11 (by decide +kernel) ?_
    refine lv_goto (tgt := 21) hx hb dX6_knownCost_12 (by decide) ?_
    exact g_iret S hr hlocks hP hS (⟨by rw [kcI, if_pos h], rfl⟩) (fun _ _ => rfl) (Nat.le_of_ble_eq_true rfl) (Nat.le_of_ble_eq_true rfl) dX6_knownCost_21
set_option maxHeartbeats 4000000 in
set_option maxRecDepth 100000 in
/-- a cost by a queue -/
theorem mX6_costByQueue (l : Launch) {E : gE} {ad : Nat → Nat} {N : Nat} {w : Nat → va_E} (b : Nat) (ht dr pg wt wr mo : Nat → Nat) (mc ni po dn : Nat) (r : Nat) (pn : Nat) (lv wa ke : Nat → Nat) (a b1 : Nat) (hb_s : bkP N w b 7 (SHC E ad b ht dr pg wt wr mo mc ni po dn)) (hb_g : bkP N w r 1 (RTC E ad r pn)) (hb_q : bkP N w (r + 1) 3 (CQC E ad (r + 1) wa ke)) (hb_l : bkP N w (r + 9) 1 (LVC E ad (r + 9) lv)) (hbr : b + 7 ≤ r) (hwr : ∀ k, k < 36 → wr k ≤ 3) (hht : ∀ k, k < 36 → ht k ≤ 99) (hwa : ∀ k, k < 36 → wa k ≤ 1) (hke : ∀ k, k < 36 → ke k < 2 ^ 30) (ha : a < 36) (hbx : b1 < 36) : gMi l yX6_costByQueue (lw_ws yX6_costByQueue cX6_costByQueue 6 (some .int)) ({ frames := 4, cells := 0, slots := 0, locals := 91 } : Room) E ad N w [.ref (ad (r)), .ref (ad (b)), .int (nI (a)), .int (nI (b1))] (fun z w' => z = (if 3 ≤ wr a then -1 else if 3 ≤ wr b1 then -1 else kcI ((qG (cdR ht wr) 36 ((va_up (fil 36 (fun _ => 1000000) lv) a 0), va_up wa a 1, va_up ke a 0)).1 b1)) ∧ (∃ lv' wa' ke' : Nat → Nat, (if 3 ≤ wr a ∨ 3 ≤ wr b1 then wa' = wa ∧ ke' = ke else wa' = (qG (cdR ht wr) 36 ((va_up (fil 36 (fun _ => 1000000) lv) a 0), va_up wa a 1, va_up ke a 0)).2.1 ∧ ke' = (qG (cdR ht wr) 36 ((va_up (fil 36 (fun _ => 1000000) lv) a 0), va_up wa a 1, va_up ke a 0)).2.2) ∧ bkP N w' (r + 1) 3 (CQC E ad (r + 1) wa' ke') ∧ bkP N w' (r + 9) 1 (LVC E ad (r + 9) lv')) ∧ gFr (fun q => (r + 1 ≤ q ∧ q < r + 4) ∨ q = r + 9) w w') 0 0 := by
  refine Met.ofW (cc := cX6_costByQueue) (maxL := 6) (ret := (some .int)) (by decide) rfl ?_
  intro p e s m args below meth cd s₁ B hml hv
  obtain ⟨rfl, hI, hP⟩ := hv
  obtain ⟨S, hr, hlocks⟩ := gPre (ws := []) B hml (C := RX6) rfl
  have hx := S.1
  have hb := S.2.1
  have hS : va_S (gA E) s.heap s.heap [] := va_S.rf
  have hfr : gFr (fun q => (r + 1 ≤ q ∧ q < r + 4) ∨ q = r + 9) w w := gFr.rf
  have hl := lv_entry ([.ref (ad (r)), .ref (ad (b)), .int (nI (a)), .int (nI (b1))]) (n := 6) (Nat.le_of_ble_eq_true rfl)
  rw [lg_entry_eq]
  generalize (lg_sl ([.ref (ad (r)), .ref (ad (b)), .int (nI (a)), .int (nI (b1))]) ++ List.replicate (6 - (lg_sl ([.ref (ad (r)), .ref (ad (b)), .int (nI (a)), .int (nI (b1))])).length) Slot.unset).toArray = ls at hl ⊢
  have hl : lv_has ls 6 [(0, .ref (ad (r))), (1, .ref (ad (b))), (2, .int (nI (a))), (3, .int (nI (b1)))] := hl
  refine lv_aload_n hx hb dX6_costByQueue_0 rfl (lv_at hl 1 rfl) ?_
  refine lv_iload_n hx hb dX6_costByQueue_1 rfl (lv_at hl 2 rfl) ?_
  refine g_roi (g_runV S hI hP hS (k := 1) (As := [.int (nI (a))]) (rest := []) (mX7_hasHole l b ht dr pg wt wr mo mc ni po dn a hb_s ha (hwr a ha)) q1073 q506 q507 q83 q508 rfl rfl (by decide +kernel) ⟨Nat.le_of_ble_eq_true rfl, Nat.le_of_ble_eq_true rfl⟩ rfl (hb_s.lt 0 (by decide)) (hb_s.2 0 (by decide)) rfl hl.1 rfl (Nat.le_of_ble_eq_true rfl) ⟨(Nat.le_of_ble_eq_true rfl), (Nat.le_of_ble_eq_true rfl)⟩ dX6_costByQueue_2) hS (fun H locs hP hS => ?_)
  refine g_bne S (b := decide (3 ≤ wr a)) (tgt := 16) dX6_costByQueue_5 (by decide) (fun hh1 => ?_) (fun hh1 => ?_)
  · have hh1 := of_decide_eq_true hh1
    refine lv_iconst (v := -1) hx hb dX6_costByQueue_16 (by decide +kernel) ?_
    exact g_iret S hr hlocks hP hS (⟨by rw [if_pos hh1], ⟨_, _, _, by rw [if_pos (Or.inl hh1)]; exact ⟨rfl, rfl⟩, hb_q, hb_l⟩, hfr⟩) (fun _ _ => rfl) (Nat.le_of_ble_eq_true rfl) (Nat.le_of_ble_eq_true rfl) dX6_costByQueue_17
  · have hh1 := of_decide_eq_false hh1
    refine lv_aload_n hx hb dX6_costByQueue_8 rfl (lv_at hl 1 rfl) ?_
    refine lv_iload_n hx hb dX6_costByQueue_9 rfl (lv_at hl 3 rfl) ?_
    refine g_roi (g_runV S hI hP hS (k := 1) (As := [.int (nI (b1))]) (rest := []) (mX7_hasHole l b ht dr pg wt wr mo mc ni po dn b1 hb_s hbx (hwr b1 hbx)) q1073 q506 q507 q83 q508 rfl rfl (by decide +kernel) ⟨Nat.le_of_ble_eq_true rfl, Nat.le_of_ble_eq_true rfl⟩ rfl (hb_s.lt 0 (by decide)) (hb_s.2 0 (by decide)) rfl hl.1 rfl (Nat.le_of_ble_eq_true rfl) ⟨(Nat.le_of_ble_eq_true rfl), (Nat.le_of_ble_eq_true rfl)⟩ dX6_costByQueue_10) hS (fun H locs hP hS => ?_)
    refine g_beq S (b := decide (3 ≤ wr b1)) (tgt := 18) dX6_costByQueue_13 (by decide) (fun hh2 => ?_) (fun hh2 => ?_)
    · have hh2 := of_decide_eq_false hh2
      refine lv_aload_n hx hb dX6_costByQueue_18 rfl (lv_at hl 0 rfl) ?_
      refine g_get S hI hP uX6 rfl (fs := _) (hb_g.lt 0 (by decide)) (hb_g.2 0 (by decide)) 3 (by decide) q296 rfl (v := .ref (ad (r + 9))) rfl dX6_costByQueue_19 ?_
      refine lv_ldc (v := nI 1000000) hx hb S.2.2.2.1 (S.2.2.2.2 _ q1074) dX6_costByQueue_22 ?_
      refine g_afv (g_runSX S hI hP hS (k := 2) (As := [.ref (ad (r + 9)), .int (nI (1000000))]) (rest := []) (mJ7_fill_53178 l (r + 9) lv 1000000 hb_l) q1075 q138 q84 q139 rfl rfl (by decide +kernel) ⟨Nat.le_of_ble_eq_true rfl, Nat.le_of_ble_eq_true rfl⟩ rfl hl.1 rfl (Nat.le_of_ble_eq_true rfl) ⟨(Nat.le_of_ble_eq_true rfl), (Nat.le_of_ble_eq_true rfl)⟩ dX6_costByQueue_24) hS (fun w1 H locs hq hP hS => ?_)
      obtain ⟨hb1, hf2⟩ := hq
      have hb3 := hb_s.fr hf2 (fun k hk => by show ¬ _; (try simp only [gIn]); (try dsimp only); omega)
      have hb4 := hb_g.fr hf2 (fun k hk => by show ¬ _; (try simp only [gIn]); (try dsimp only); omega)
      have hb5 := hb_q.fr hf2 (fun k hk => by show ¬ _; (try simp only [gIn]); (try dsimp only); omega)
      have hfr := hfr.trans hf2 (fun q hq => by (try simp only [gIn] at hq ⊢); (try dsimp only at hq ⊢); omega)
      refine lv_aload_n hx hb dX6_costByQueue_27 rfl (lv_at hl 0 rfl) ?_
      refine g_get S hI hP uX6 rfl (fs := _) (hb4.lt 0 (by decide)) (hb4.2 0 (by decide)) 3 (by decide) q296 rfl (v := .ref (ad (r + 9))) rfl dX6_costByQueue_28 ?_
      refine lv_iload_n hx hb dX6_costByQueue_31 rfl (lv_at hl 2 rfl) ?_
      refine g_iconst S 0 dX6_costByQueue_32 (by decide +kernel) ?_
      refine g_iastN S hI hP hS (f := fil 36 (fun _ => 1000000) lv) (x := 0) (hb1.lt 0 (by decide)) (hb1.2 0 (by decide)) (a) (ha) (by decide) dX6_costByQueue_33 (fun H locs hP hS => ?_)
      have hP : gP E ad N (va_up _ (r + 9) (LVC E ad (r + 9) (va_up (fil 36 (fun _ => 1000000) lv) a 0) 0)) H := hP
      have hb6 : bkP N (va_up _ (r + 9) (LVC E ad (r + 9) (va_up (fil 36 (fun _ => 1000000) lv) a 0) 0)) (r + 9) 1 (LVC E ad (r + 9) (va_up (fil 36 (fun _ => 1000000) lv) a 0)) := LV_setA0 hb1 _
      have hb7 := hb3.keep (p := r + 9) (e := LVC E ad (r + 9) (va_up (fil 36 (fun _ => 1000000) lv) a 0) 0) (by omega)
      have hb8 := hb4.keep (p := r + 9) (e := LVC E ad (r + 9) (va_up (fil 36 (fun _ => 1000000) lv) a 0) 0) (by omega)
      have hb9 := hb5.keep (p := r + 9) (e := LVC E ad (r + 9) (va_up (fil 36 (fun _ => 1000000) lv) a 0) 0) (by omega)
      have hfr := hfr.up (p := r + 9) (e := LVC E ad (r + 9) (va_up (fil 36 (fun _ => 1000000) lv) a 0) 0) (by show _ ∨ _; omega)
      have hc0 : ∀ k, k < 36 → (va_up (fil 36 (fun _ => 1000000) lv) a 0) k ≤ 1000000 := fun k hk => by by_cases q : k = a; rw [q, va_up_self]; exact Nat.zero_le _; rw [va_up_ne _ _ q, fil_in hk]; exact Nat.le_refl _
      refine lv_aload_n hx hb dX6_costByQueue_34 rfl (lv_at hl 0 rfl) ?_
      refine g_get S hI hP uX6 rfl (fs := _) (hb8.lt 0 (by decide)) (hb8.2 0 (by decide)) 0 (by decide) q293 rfl (v := .ref (ad (r + 1))) rfl dX6_costByQueue_35 ?_
      refine lv_iload_n hx hb dX6_costByQueue_38 rfl (lv_at hl 2 rfl) ?_
      refine g_iconst S 0 dX6_costByQueue_39 (by decide +kernel) ?_
      refine g_afv (g_runV S hI hP hS (k := 2) (As := [.int (nI (a)), .int (nI (0))]) (rest := []) (mX1_put l (r + 1) wa ke a 0 hb9 ha) q1076 q760 q761 q90 q762 rfl rfl (by decide +kernel) ⟨Nat.le_of_ble_eq_true rfl, Nat.le_of_ble_eq_true rfl⟩ rfl (hb9.lt 0 (by decide)) (hb9.2 0 (by decide)) rfl hl.1 rfl (Nat.le_of_ble_eq_true rfl) ⟨(Nat.le_of_ble_eq_true rfl), (Nat.le_of_ble_eq_true rfl)⟩ dX6_costByQueue_40) hS (fun w1 H locs hq hP hS => ?_)
      obtain ⟨hb10, hf11⟩ := hq
      have hb12 := hb7.fr hf11 (fun k hk => by show ¬ _; (try simp only [gIn]); (try dsimp only); omega)
      have hb13 := hb8.fr hf11 (fun k hk => by show ¬ _; (try simp only [gIn]); (try dsimp only); omega)
      have hb14 := hb6.fr hf11 (fun k hk => by show ¬ _; (try simp only [gIn]); (try dsimp only); omega)
      have hfr := hfr.trans hf11 (fun q hq => by (try simp only [gIn] at hq ⊢); (try dsimp only at hq ⊢); omega)
      have hq1 : ∀ k, k < 36 → va_up wa a 1 k ≤ 1 := fun k hk => by by_cases q : k = a; rw [q, va_up_self]; exact Nat.le_refl _; rw [va_up_ne _ _ q]; exact hwa k hk
      have hq2 : ∀ k, k < 36 → va_up ke a 0 k < 2 ^ 30 := fun k hk => by by_cases q : k = a; rw [q, va_up_self]; decide; rw [va_up_ne _ _ q]; exact hke k hk
      refine g_iconst S 0 dX6_costByQueue_43 (by decide +kernel) ?_
      refine lv_istore (lv' := [(4, .int (nI (0))), (0, .ref (ad (r))), (1, .ref (ad (b))), (2, .int (nI (a))), (3, .int (nI (b1)))]) hx hb dX6_costByQueue_44 hl (by decide) rfl (fun ls hl => ?_)
      have hzfo : t4Ok 1000000 (qG (cdR ht wr) 36 ((va_up (fil 36 (fun _ => 1000000) lv) a 0), va_up wa a 1, va_up ke a 0)) := qG_ok (by decide) ⟨hc0, hq1, hq2⟩
      obtain ⟨zf, hzf⟩ : ∃ zf, zf = qG (cdR ht wr) 36 ((va_up (fil 36 (fun _ => 1000000) lv) a 0), va_up wa a 1, va_up ke a 0) := ⟨_, rfl⟩
      have loop15 : ∀ (n : Nat) (i : Nat) (z : T4), 36 - i < n → (i ≤ 36) → (t4Ok 1000000 z) → (qG (cdR ht wr) (36 - i) z = zf) → ∀ (w1 : Nat → va_E) (H : Heap) (locs : List Loc), gP E ad N w1 H → va_S (gA E) s.heap H locs → bkP N w1 b 7 (SHC E ad b ht dr pg wt wr mo mc ni po dn) → bkP N w1 r 1 (RTC E ad r pn) → bkP N w1 (r + 1) 3 (CQC E ad (r + 1) z.2.1 z.2.2) → bkP N w1 (r + 9) 1 (LVC E ad (r + 9) z.1) → gFr (fun q => (r + 1 ≤ q ∧ q < r + 4) ∨ q = r + 9) w w1 → ∀ (ls : Array Slot), lv_has ls 6 [(4, .int (nI (i))), (0, .ref (ad (r))), (1, .ref (ad (b))), (2, .int (nI (a))), (3, .int (nI (b1)))] → W p l e (headSpec (lw_ws yX6_costByQueue cX6_costByQueue 6 (some .int)) ({ frames := 4, cells := 0, slots := 0, locals := 91 } : Room)).room s m ([.ref (ad (r)), .ref (ad (b)), .int (nI (a)), .int (nI (b1))] : List Value).toArray below meth cd H locs 0 0 (MQ below (va_Qi (fun z w' => z = (if 3 ≤ wr a then -1 else if 3 ≤ wr b1 then -1 else kcI ((qG (cdR ht wr) 36 ((va_up (fil 36 (fun _ => 1000000) lv) a 0), va_up wa a 1, va_up ke a 0)).1 b1)) ∧ (∃ lv' wa' ke' : Nat → Nat, (if 3 ≤ wr a ∨ 3 ≤ wr b1 then wa' = wa ∧ ke' = ke else wa' = (qG (cdR ht wr) 36 ((va_up (fil 36 (fun _ => 1000000) lv) a 0), va_up wa a 1, va_up ke a 0)).2.1 ∧ ke' = (qG (cdR ht wr) 36 ((va_up (fil 36 (fun _ => 1000000) lv) a 0), va_up wa a 1, va_up ke a 0)).2.2) ∧ bkP N w' (r + 1) 3 (CQC E ad (r + 1) wa' ke') ∧ bkP N w' (r + 9) 1 (LVC E ad (r + 9) lv')) ∧ gFr (fun q => (r + 1 ≤ q ∧ q < r + 4) ∨ q = r + 9) w w') (gB E ad N) (gA E)) ([.ref (ad (r)), .ref (ad (b)), .int (nI (a)), .int (nI (b1))] : List Value).toArray s 0 0 (gA E)) (F0 m 46 ls []) := by
        intro n
        induction n with
        | zero => intro i z hmeas; omega
        | succ n ih_loop15 =>
          intro i z hmeas hi hz he w1 H locs hP hS hb16 hb17 hb18 hb19 hfr ls hl
          refine lv_iload hx hb dX6_costByQueue_46 (lv_at hl 0 rfl) ?_
          refine g_bipush S 36 dX6_costByQueue_48 (by decide +kernel) ?_
          refine g_ge S (a := i) (b := 36) (by omega) (by omega) (tgt := 84) dX6_costByQueue_50 (by decide) (fun h => ?_) (fun h => ?_)
          · have ei : 36 - i = 0 := by omega
            rw [ei, qG_z] at he
            rw [he] at hb18 hb19
            rw [← hzf] at hzfo
            refine lv_aload_n hx hb dX6_costByQueue_84 rfl (lv_at hl 1 rfl) ?_
            refine lv_iload_n hx hb dX6_costByQueue_85 rfl (lv_at hl 4 rfl) ?_
            refine g_roi (g_runV S hI hP hS (k := 1) (As := [.int (nI (b1))]) (rest := []) (mX6_knownCost l r pn zf.1 b1 hb17 hb19 hbx (hzfo.1 b1 hbx)) q1094 q1096 q31 q91 q1097 rfl rfl (by decide +kernel) ⟨Nat.le_of_ble_eq_true rfl, Nat.le_of_ble_eq_true rfl⟩ rfl (hb17.lt 0 (by decide)) (hb17.2 0 (by decide)) rfl hl.1 rfl (Nat.le_of_ble_eq_true rfl) ⟨(Nat.le_of_ble_eq_true rfl), (Nat.le_of_ble_eq_true rfl)⟩ dX6_costByQueue_86) hS (fun H locs hP hS => ?_)
            exact g_iret S hr hlocks hP hS (⟨by rw [if_neg hh1, if_neg hh2, ← hzf], ⟨_, _, _, by rw [if_neg (fun q => q.elim hh1 hh2), ← hzf]; exact ⟨rfl, rfl⟩, hb18, hb19⟩, hfr⟩) (fun _ _ => rfl) (Nat.le_of_ble_eq_true rfl) (Nat.le_of_ble_eq_true rfl) dX6_costByQueue_89
          · have ei : 36 - i = (36 - (i + 1)) + 1 := by omega
            rw [ei, qG_s] at he
            refine lv_aload_n hx hb dX6_costByQueue_53 rfl (lv_at hl 1 rfl) ?_
            refine g_get S hI hP uX6 rfl (fs := _) (hb17.lt 0 (by decide)) (hb17.2 0 (by decide)) 0 (by decide) q293 rfl (v := .ref (ad (r + 1))) rfl dX6_costByQueue_54 ?_
            refine g_afi (g_runV S hI hP hS (k := 0) (As := []) (rest := []) (mX1_take l (r + 1) z.2.1 z.2.2 hb18 hz.2.1 hz.2.2) q1077 q764 q765 q90 q766 rfl rfl (by decide +kernel) ⟨Nat.le_of_ble_eq_true rfl, Nat.le_of_ble_eq_true rfl⟩ rfl (hb18.lt 0 (by decide)) (hb18.2 0 (by decide)) rfl hl.1 rfl (Nat.le_of_ble_eq_true rfl) ⟨(Nat.le_of_ble_eq_true rfl), (Nat.le_of_ble_eq_true rfl)⟩ dX6_costByQueue_57) hS (fun rz w1 H locs hq hP hS => ?_)
            obtain ⟨hr22, hb20, hf21⟩ := hq
            rw [hr22]
            have hb23 := hb16.fr hf21 (fun k hk => by show ¬ _; (try simp only [gIn]); (try dsimp only); omega)
            have hb24 := hb17.fr hf21 (fun k hk => by show ¬ _; (try simp only [gIn]); (try dsimp only); omega)
            have hb25 := hb19.fr hf21 (fun k hk => by show ¬ _; (try simp only [gIn]); (try dsimp only); omega)
            have hfr := hfr.trans hf21 (fun q hq => by (try simp only [gIn] at hq ⊢); (try dsimp only at hq ⊢); omega)
            refine lv_istore (lv' := [(5, .int (oI (qmin z.2.1 z.2.2 36))), (4, .int (nI (i))), (0, .ref (ad (r))), (1, .ref (ad (b))), (2, .int (nI (a))), (3, .int (nI (b1)))]) hx hb dX6_costByQueue_60 hl (by decide) rfl (fun ls hl => ?_)
            refine lv_iload hx hb dX6_costByQueue_62 (lv_at hl 0 rfl) ?_
            refine lv_iconst (v := -1) hx hb dX6_costByQueue_64 (by decide +kernel) ?_
            refine g_one S (o := qmin z.2.1 z.2.2 36) (fun k hk => Nat.lt_trans (qmin_lt hk) (by decide)) (tgt := 71) dX6_costByQueue_65 (by decide) (fun hn_k hn => ?_) (fun hn => ?_)
            · have hk36 := qmin_lt hn
              rw [hn] at he hb20
              have hl : lv_has ls 6 [(5, .int (nI (hn_k))), (4, .int (nI (i))), (0, .ref (ad (r))), (1, .ref (ad (b))), (2, .int (nI (a))), (3, .int (nI (b1)))] := by rw [hn] at hl; exact hl
              have he : qG (cdR ht wr) (36 - (i + 1)) (spD (cdR ht wr) hn_k (z.1, va_up z.2.1 hn_k 0, z.2.2) 4) = zf := he
              have hq0 : bkP N _ (r + 1) 3 (CQC E ad (r + 1) (va_up z.2.1 hn_k 0) z.2.2) := hb20
              have hto := t4_take (c := hn_k) hz
              refine lv_aload_n hx hb dX6_costByQueue_71 rfl (lv_at hl 2 rfl) ?_
              refine lv_aload_n hx hb dX6_costByQueue_72 rfl (lv_at hl 3 rfl) ?_
              refine lv_iload hx hb dX6_costByQueue_73 (lv_at hl 0 rfl) ?_
              refine g_afv (g_runV S hI hP hS (k := 2) (As := [.ref (ad (b)), .int (nI (hn_k))]) (rest := []) (mX6_spread l b ht dr pg wt wr mo mc ni po dn r pn z.1 (va_up z.2.1 hn_k 0) z.2.2 hn_k hb23 hb24 hq0 hb25 hbr hht hwr hk36 hto) q1078 q1080 q29 q91 q1081 rfl rfl (by decide +kernel) ⟨Nat.le_of_ble_eq_true rfl, Nat.le_of_ble_eq_true rfl⟩ rfl (hb24.lt 0 (by decide)) (hb24.2 0 (by decide)) rfl hl.1 rfl (Nat.le_of_ble_eq_true rfl) ⟨(Nat.le_of_ble_eq_true rfl), (Nat.le_of_ble_eq_true rfl)⟩ dX6_costByQueue_75) hS (fun w1 H locs hq hP hS => ?_)
              obtain ⟨hb26, hb27, hf28⟩ := hq
              have hb29 := hb23.fr hf28 (fun k hk => by show ¬ _; (try simp only [gIn]); (try dsimp only); omega)
              have hb30 := hb24.fr hf28 (fun k hk => by show ¬ _; (try simp only [gIn]); (try dsimp only); omega)
              have hfr := hfr.trans hf28 (fun q hq => by (try simp only [gIn] at hq ⊢); (try dsimp only at hq ⊢); omega)
              refine lv_iinc (v := nI (i + 1)) (lv' := [(4, .int (nI (i + 1))), (5, .int (nI (hn_k))), (0, .ref (ad (r))), (1, .ref (ad (b))), (2, .int (nI (a))), (3, .int (nI (b1)))]) hx hb dX6_costByQueue_78 hl (k := 1) rfl (g_inc _ 1 (by decide +kernel)) (by decide) rfl (fun ls hl => ?_)
              refine lv_goto (tgt := 46) hx hb dX6_costByQueue_81 (by decide) ?_
              exact ih_loop15 (i + 1) ((spD (cdR ht wr) hn_k (z.1, va_up z.2.1 hn_k 0, z.2.2) 4)) (by omega) (by omega) (spD_ok (by decide) hk36 hto 4) (he) _ _ _ hP hS hb29 hb30 hb26 hb27 hfr ls (lv_sub hl [0, 2, 3, 4, 5] rfl)
            · rw [hn] at he hb20
              have he : z = zf := he
              have hq0 : bkP N _ (r + 1) 3 (CQC E ad (r + 1) z.2.1 z.2.2) := hb20
              refine lv_goto (tgt := 84) hx hb dX6_costByQueue_68 (by decide) ?_
              refine lv_aload_n hx hb dX6_costByQueue_84 rfl (lv_at hl 2 rfl) ?_
              refine lv_iload_n hx hb dX6_costByQueue_85 rfl (lv_at hl 5 rfl) ?_
              rw [he] at hq0 hb25
              rw [← hzf] at hzfo
              refine g_roi (g_runV S hI hP hS (k := 1) (As := [.int (nI (b1))]) (rest := []) (mX6_knownCost l r pn zf.1 b1 hb24 hb25 hbx (hzfo.1 b1 hbx)) q1094 q1096 q31 q91 q1097 rfl rfl (by decide +kernel) ⟨Nat.le_of_ble_eq_true rfl, Nat.le_of_ble_eq_true rfl⟩ rfl (hb24.lt 0 (by decide)) (hb24.2 0 (by decide)) rfl hl.1 rfl (Nat.le_of_ble_eq_true rfl) ⟨(Nat.le_of_ble_eq_true rfl), (Nat.le_of_ble_eq_true rfl)⟩ dX6_costByQueue_86) hS (fun H locs hP hS => ?_)
              exact g_iret S hr hlocks hP hS (⟨by rw [if_neg hh1, if_neg hh2, ← hzf], ⟨_, _, _, by rw [if_neg (fun q => q.elim hh1 hh2), ← hzf]; exact ⟨rfl, rfl⟩, hq0, hb25⟩, hfr⟩) (fun _ _ => rfl) (Nat.le_of_ble_eq_true rfl) (Nat.le_of_ble_eq_true rfl) dX6_costByQueue_89
      exact loop15 (36 - (0) + 1) (0) (((va_up (fil 36 (fun _ => 1000000) lv) a 0), va_up wa a 1, va_up ke a 0)) (Nat.lt_succ_self _) (by omega) (⟨hc0, hq1, hq2⟩) (hzf.symm) _ _ _ hP hS hb12 hb13 hb10 hb14 hfr ls (lv_sub hl [0, 1, 2, 3, 4] rfl)
    · have hh2 := of_decide_eq_true hh2
      refine lv_iconst (v := -1) hx hb dX6_costByQueue_16 (by decide +kernel) ?_
      exact g_iret S hr hlocks hP hS (⟨by rw [if_neg hh1, if_pos hh2], ⟨_, _, _, by rw [if_pos (Or.inr hh2)]; exact ⟨rfl, rfl⟩, hb_q, hb_l⟩, hfr⟩) (fun _ _ => rfl) (Nat.le_of_ble_eq_true rfl) (Nat.le_of_ble_eq_true rfl) dX6_costByQueue_17
set_option maxHeartbeats 4000000 in
set_option maxRecDepth 100000 in
/-- a cost by rounds -/
theorem mX6_costByRounds (l : Launch) {E : gE} {ad : Nat → Nat} {N : Nat} {w : Nat → va_E} (b : Nat) (ht dr pg wt wr mo : Nat → Nat) (mc ni po dn : Nat) (r : Nat) (pn : Nat) (lv : Nat → Nat) (a b1 : Nat) (hb_s : bkP N w b 7 (SHC E ad b ht dr pg wt wr mo mc ni po dn)) (hb_g : bkP N w r 1 (RTC E ad r pn)) (hb_l : bkP N w (r + 9) 1 (LVC E ad (r + 9) lv)) (hbr : b + 7 ≤ r) (hwr : ∀ k, k < 36 → wr k ≤ 3) (hht : ∀ k, k < 36 → ht k ≤ 99) (ha : a < 36) (hbx : b1 < 36) : gMi l yX6_costByRounds (lw_ws yX6_costByRounds cX6_costByRounds 6 (some .int)) ({ frames := 4, cells := 0, slots := 0, locals := 92 } : Room) E ad N w [.ref (ad (r)), .ref (ad (b)), .int (nI (a)), .int (nI (b1))] (fun z w' => z = (if 3 ≤ wr a then -1 else if 3 ≤ wr b1 then -1 else kcI ((rdG (cdR ht wr) 36 ((va_up (fil 36 (fun _ => 1000000) lv) a 0), true)).1 b1)) ∧ (∃ lv' : Nat → Nat, bkP N w' (r + 9) 1 (LVC E ad (r + 9) lv')) ∧ gFr (gIn (r + 9) 1) w w') 0 0 := by
  refine Met.ofW (cc := cX6_costByRounds) (maxL := 6) (ret := (some .int)) (by decide) rfl ?_
  intro p e s m args below meth cd s₁ B hml hv
  obtain ⟨rfl, hI, hP⟩ := hv
  obtain ⟨S, hr, hlocks⟩ := gPre (ws := []) B hml (C := RX6) rfl
  have hx := S.1
  have hb := S.2.1
  have hS : va_S (gA E) s.heap s.heap [] := va_S.rf
  have hfr : gFr (gIn (r + 9) 1) w w := gFr.rf
  have hl := lv_entry ([.ref (ad (r)), .ref (ad (b)), .int (nI (a)), .int (nI (b1))]) (n := 6) (Nat.le_of_ble_eq_true rfl)
  rw [lg_entry_eq]
  generalize (lg_sl ([.ref (ad (r)), .ref (ad (b)), .int (nI (a)), .int (nI (b1))]) ++ List.replicate (6 - (lg_sl ([.ref (ad (r)), .ref (ad (b)), .int (nI (a)), .int (nI (b1))])).length) Slot.unset).toArray = ls at hl ⊢
  have hl : lv_has ls 6 [(0, .ref (ad (r))), (1, .ref (ad (b))), (2, .int (nI (a))), (3, .int (nI (b1)))] := hl
  refine lv_aload_n hx hb dX6_costByRounds_0 rfl (lv_at hl 1 rfl) ?_
  refine lv_iload_n hx hb dX6_costByRounds_1 rfl (lv_at hl 2 rfl) ?_
  refine g_roi (g_runV S hI hP hS (k := 1) (As := [.int (nI (a))]) (rest := []) (mX7_hasHole l b ht dr pg wt wr mo mc ni po dn a hb_s ha (hwr a ha)) q1073 q506 q507 q83 q508 rfl rfl (by decide +kernel) ⟨Nat.le_of_ble_eq_true rfl, Nat.le_of_ble_eq_true rfl⟩ rfl (hb_s.lt 0 (by decide)) (hb_s.2 0 (by decide)) rfl hl.1 rfl (Nat.le_of_ble_eq_true rfl) ⟨(Nat.le_of_ble_eq_true rfl), (Nat.le_of_ble_eq_true rfl)⟩ dX6_costByRounds_2) hS (fun H locs hP hS => ?_)
  refine g_bne S (b := decide (3 ≤ wr a)) (tgt := 16) dX6_costByRounds_5 (by decide) (fun hh1 => ?_) (fun hh1 => ?_)
  · have hh1 := of_decide_eq_true hh1
    refine lv_iconst (v := -1) hx hb dX6_costByRounds_16 (by decide +kernel) ?_
    exact g_iret S hr hlocks hP hS (⟨by rw [if_pos hh1], ⟨_, hb_l⟩, hfr⟩) (fun _ _ => rfl) (Nat.le_of_ble_eq_true rfl) (Nat.le_of_ble_eq_true rfl) dX6_costByRounds_17
  · have hh1 := of_decide_eq_false hh1
    refine lv_aload_n hx hb dX6_costByRounds_8 rfl (lv_at hl 1 rfl) ?_
    refine lv_iload_n hx hb dX6_costByRounds_9 rfl (lv_at hl 3 rfl) ?_
    refine g_roi (g_runV S hI hP hS (k := 1) (As := [.int (nI (b1))]) (rest := []) (mX7_hasHole l b ht dr pg wt wr mo mc ni po dn b1 hb_s hbx (hwr b1 hbx)) q1073 q506 q507 q83 q508 rfl rfl (by decide +kernel) ⟨Nat.le_of_ble_eq_true rfl, Nat.le_of_ble_eq_true rfl⟩ rfl (hb_s.lt 0 (by decide)) (hb_s.2 0 (by decide)) rfl hl.1 rfl (Nat.le_of_ble_eq_true rfl) ⟨(Nat.le_of_ble_eq_true rfl), (Nat.le_of_ble_eq_true rfl)⟩ dX6_costByRounds_10) hS (fun H locs hP hS => ?_)
    refine g_beq S (b := decide (3 ≤ wr b1)) (tgt := 18) dX6_costByRounds_13 (by decide) (fun hh2 => ?_) (fun hh2 => ?_)
    · have hh2 := of_decide_eq_false hh2
      refine lv_aload_n hx hb dX6_costByRounds_18 rfl (lv_at hl 0 rfl) ?_
      refine g_get S hI hP uX6 rfl (fs := _) (hb_g.lt 0 (by decide)) (hb_g.2 0 (by decide)) 3 (by decide) q296 rfl (v := .ref (ad (r + 9))) rfl dX6_costByRounds_19 ?_
      refine lv_ldc (v := nI 1000000) hx hb S.2.2.2.1 (S.2.2.2.2 _ q1074) dX6_costByRounds_22 ?_
      refine g_afv (g_runSX S hI hP hS (k := 2) (As := [.ref (ad (r + 9)), .int (nI (1000000))]) (rest := []) (mJ7_fill_53178 l (r + 9) lv 1000000 hb_l) q1075 q138 q84 q139 rfl rfl (by decide +kernel) ⟨Nat.le_of_ble_eq_true rfl, Nat.le_of_ble_eq_true rfl⟩ rfl hl.1 rfl (Nat.le_of_ble_eq_true rfl) ⟨(Nat.le_of_ble_eq_true rfl), (Nat.le_of_ble_eq_true rfl)⟩ dX6_costByRounds_24) hS (fun w1 H locs hq hP hS => ?_)
      obtain ⟨hb1, hf2⟩ := hq
      have hb3 := hb_s.fr hf2 (fun k hk => by show ¬ _; (try simp only [gIn]); (try dsimp only); omega)
      have hb4 := hb_g.fr hf2 (fun k hk => by show ¬ _; (try simp only [gIn]); (try dsimp only); omega)
      have hfr := hfr.trans hf2 (fun q hq => by (try simp only [gIn] at hq ⊢); (try dsimp only at hq ⊢); omega)
      refine lv_aload_n hx hb dX6_costByRounds_27 rfl (lv_at hl 0 rfl) ?_
      refine g_get S hI hP uX6 rfl (fs := _) (hb4.lt 0 (by decide)) (hb4.2 0 (by decide)) 3 (by decide) q296 rfl (v := .ref (ad (r + 9))) rfl dX6_costByRounds_28 ?_
      refine lv_iload_n hx hb dX6_costByRounds_31 rfl (lv_at hl 2 rfl) ?_
      refine g_iconst S 0 dX6_costByRounds_32 (by decide +kernel) ?_
      refine g_iastN S hI hP hS (f := fil 36 (fun _ => 1000000) lv) (x := 0) (hb1.lt 0 (by decide)) (hb1.2 0 (by decide)) (a) (ha) (by decide) dX6_costByRounds_33 (fun H locs hP hS => ?_)
      have hP : gP E ad N (va_up _ (r + 9) (LVC E ad (r + 9) (va_up (fil 36 (fun _ => 1000000) lv) a 0) 0)) H := hP
      have hb5 : bkP N (va_up _ (r + 9) (LVC E ad (r + 9) (va_up (fil 36 (fun _ => 1000000) lv) a 0) 0)) (r + 9) 1 (LVC E ad (r + 9) (va_up (fil 36 (fun _ => 1000000) lv) a 0)) := LV_setA0 hb1 _
      have hb6 := hb3.keep (p := r + 9) (e := LVC E ad (r + 9) (va_up (fil 36 (fun _ => 1000000) lv) a 0) 0) (by omega)
      have hb7 := hb4.keep (p := r + 9) (e := LVC E ad (r + 9) (va_up (fil 36 (fun _ => 1000000) lv) a 0) 0) (by omega)
      have hfr := hfr.up (p := r + 9) (e := LVC E ad (r + 9) (va_up (fil 36 (fun _ => 1000000) lv) a 0) 0) (by show _ ∧ _; omega)
      have hc0 : ∀ k, k < 36 → (va_up (fil 36 (fun _ => 1000000) lv) a 0) k ≤ 1000000 := fun k hk => by by_cases q : k = a; rw [q, va_up_self]; exact Nat.zero_le _; rw [va_up_ne _ _ q, fil_in hk]; exact Nat.le_refl _
      refine g_iconst S 1 dX6_costByRounds_34 (by decide +kernel) ?_
      refine lv_istore (lv' := [(4, .int (nI (1))), (0, .ref (ad (r))), (1, .ref (ad (b))), (2, .int (nI (a))), (3, .int (nI (b1)))]) hx hb dX6_costByRounds_35 hl (by decide) rfl (fun ls hl => ?_)
      refine g_iconst S 0 dX6_costByRounds_37 (by decide +kernel) ?_
      refine lv_istore (lv' := [(5, .int (nI (0))), (4, .int (nI (1))), (0, .ref (ad (r))), (1, .ref (ad (b))), (2, .int (nI (a))), (3, .int (nI (b1)))]) hx hb dX6_costByRounds_38 hl (by decide) rfl (fun ls hl => ?_)
      have hl : lv_has ls 6 [(5, .int (nI (0))), (4, .int (bI (((va_up (fil 36 (fun _ => 1000000) lv) a 0), true).2))), (0, .ref (ad (r))), (1, .ref (ad (b))), (2, .int (nI (a))), (3, .int (nI (b1)))] := by exact hl
      have hzfo : ∀ k, k < 36 → (rdG (cdR ht wr) 36 ((va_up (fil 36 (fun _ => 1000000) lv) a 0), true)).1 k ≤ 1000000 := rdG_ok hc0
      obtain ⟨zf, hzf⟩ : ∃ zf, zf = rdG (cdR ht wr) 36 ((va_up (fil 36 (fun _ => 1000000) lv) a 0), true) := ⟨_, rfl⟩
      have loop8 : ∀ (n : Nat) (i : Nat) (z : (Nat → Nat) × Bool), 36 - i < n → (i ≤ 36) → (∀ k, k < 36 → z.1 k ≤ 1000000) → (rdG (cdR ht wr) (36 - i) z = zf) → ∀ (w1 : Nat → va_E) (H : Heap) (locs : List Loc), gP E ad N w1 H → va_S (gA E) s.heap H locs → bkP N w1 b 7 (SHC E ad b ht dr pg wt wr mo mc ni po dn) → bkP N w1 r 1 (RTC E ad r pn) → bkP N w1 (r + 9) 1 (LVC E ad (r + 9) z.1) → gFr (gIn (r + 9) 1) w w1 → ∀ (ls : Array Slot), lv_has ls 6 [(5, .int (nI (i))), (4, .int (bI (z.2))), (0, .ref (ad (r))), (1, .ref (ad (b))), (2, .int (nI (a))), (3, .int (nI (b1)))] → W p l e (headSpec (lw_ws yX6_costByRounds cX6_costByRounds 6 (some .int)) ({ frames := 4, cells := 0, slots := 0, locals := 92 } : Room)).room s m ([.ref (ad (r)), .ref (ad (b)), .int (nI (a)), .int (nI (b1))] : List Value).toArray below meth cd H locs 0 0 (MQ below (va_Qi (fun z w' => z = (if 3 ≤ wr a then -1 else if 3 ≤ wr b1 then -1 else kcI ((rdG (cdR ht wr) 36 ((va_up (fil 36 (fun _ => 1000000) lv) a 0), true)).1 b1)) ∧ (∃ lv' : Nat → Nat, bkP N w' (r + 9) 1 (LVC E ad (r + 9) lv')) ∧ gFr (gIn (r + 9) 1) w w') (gB E ad N) (gA E)) ([.ref (ad (r)), .ref (ad (b)), .int (nI (a)), .int (nI (b1))] : List Value).toArray s 0 0 (gA E)) (F0 m 40 ls []) := by
        intro n
        induction n with
        | zero => intro i z hmeas; omega
        | succ n ih_loop8 =>
          intro i z hmeas hi hz he w1 H locs hP hS hb9 hb10 hb11 hfr ls hl
          refine lv_iload hx hb dX6_costByRounds_40 (lv_at hl 0 rfl) ?_
          refine g_bipush S 36 dX6_costByRounds_42 (by decide +kernel) ?_
          refine g_ge S (a := i) (b := 36) (by omega) (by omega) (tgt := 65) dX6_costByRounds_44 (by decide) (fun h => ?_) (fun h => ?_)
          · have ei : 36 - i = 0 := by omega
            rw [ei, rdG_z] at he
            rw [he] at hb11
            rw [← hzf] at hzfo
            refine lv_aload_n hx hb dX6_costByRounds_65 rfl (lv_at hl 2 rfl) ?_
            refine lv_iload_n hx hb dX6_costByRounds_66 rfl (lv_at hl 5 rfl) ?_
            refine g_roi (g_runV S hI hP hS (k := 1) (As := [.int (nI (b1))]) (rest := []) (mX6_knownCost l r pn zf.1 b1 hb10 hb11 hbx (hzfo b1 hbx)) q1094 q1096 q31 q91 q1097 rfl rfl (by decide +kernel) ⟨Nat.le_of_ble_eq_true rfl, Nat.le_of_ble_eq_true rfl⟩ rfl (hb10.lt 0 (by decide)) (hb10.2 0 (by decide)) rfl hl.1 rfl (Nat.le_of_ble_eq_true rfl) ⟨(Nat.le_of_ble_eq_true rfl), (Nat.le_of_ble_eq_true rfl)⟩ dX6_costByRounds_67) hS (fun H locs hP hS => ?_)
            exact g_iret S hr hlocks hP hS (⟨by rw [if_neg hh1, if_neg hh2, ← hzf], ⟨_, hb11⟩, hfr⟩) (fun _ _ => rfl) (Nat.le_of_ble_eq_true rfl) (Nat.le_of_ble_eq_true rfl) dX6_costByRounds_70
          · have ei : 36 - i = (36 - (i + 1)) + 1 := by omega
            rw [ei, rdG_s] at he
            refine lv_iload hx hb dX6_costByRounds_47 (lv_at hl 1 rfl) ?_
            refine g_beq S (b := z.2) (tgt := 65) dX6_costByRounds_49 (by decide) (fun hf => ?_) (fun hf => ?_)
            · rw [if_neg (by rw [hf]; decide)] at he
              rw [he] at hb11
              rw [← hzf] at hzfo
              refine lv_aload_n hx hb dX6_costByRounds_65 rfl (lv_at hl 2 rfl) ?_
              refine lv_iload_n hx hb dX6_costByRounds_66 rfl (lv_at hl 5 rfl) ?_
              refine g_roi (g_runV S hI hP hS (k := 1) (As := [.int (nI (b1))]) (rest := []) (mX6_knownCost l r pn zf.1 b1 hb10 hb11 hbx (hzfo b1 hbx)) q1094 q1096 q31 q91 q1097 rfl rfl (by decide +kernel) ⟨Nat.le_of_ble_eq_true rfl, Nat.le_of_ble_eq_true rfl⟩ rfl (hb10.lt 0 (by decide)) (hb10.2 0 (by decide)) rfl hl.1 rfl (Nat.le_of_ble_eq_true rfl) ⟨(Nat.le_of_ble_eq_true rfl), (Nat.le_of_ble_eq_true rfl)⟩ dX6_costByRounds_67) hS (fun H locs hP hS => ?_)
              exact g_iret S hr hlocks hP hS (⟨by rw [if_neg hh1, if_neg hh2, ← hzf], ⟨_, hb11⟩, hfr⟩) (fun _ _ => rfl) (Nat.le_of_ble_eq_true rfl) (Nat.le_of_ble_eq_true rfl) dX6_costByRounds_70
            · rw [if_pos hf] at he
              refine lv_aload_n hx hb dX6_costByRounds_52 rfl (lv_at hl 2 rfl) ?_
              refine lv_aload_n hx hb dX6_costByRounds_53 rfl (lv_at hl 3 rfl) ?_
              refine g_afi (g_runV S hI hP hS (k := 1) (As := [.ref (ad (b))]) (rest := []) (mX6_improveAll l b ht dr pg wt wr mo mc ni po dn r pn z.1 hb9 hb10 hb11 hbr hht hwr hz) q1113 q1115 q32 q91 q1116 rfl rfl (by decide +kernel) ⟨Nat.le_of_ble_eq_true rfl, Nat.le_of_ble_eq_true rfl⟩ rfl (hb10.lt 0 (by decide)) (hb10.2 0 (by decide)) rfl hl.1 rfl (Nat.le_of_ble_eq_true rfl) ⟨(Nat.le_of_ble_eq_true rfl), (Nat.le_of_ble_eq_true rfl)⟩ dX6_costByRounds_54) hS (fun rz w1 H locs hq hP hS => ?_)
              obtain ⟨hr14, hb12, hf13⟩ := hq
              rw [hr14]
              have hb15 := hb9.fr hf13 (fun k hk => by show ¬ _; (try simp only [gIn]); (try dsimp only); omega)
              have hb16 := hb10.fr hf13 (fun k hk => by show ¬ _; (try simp only [gIn]); (try dsimp only); omega)
              have hfr := hfr.trans hf13 (fun q hq => by (try simp only [gIn] at hq ⊢); (try dsimp only at hq ⊢); omega)
              refine lv_istore (lv' := [(4, .int (bI ((iaN (cdR ht wr) z.1 36).2))), (5, .int (nI (i))), (0, .ref (ad (r))), (1, .ref (ad (b))), (2, .int (nI (a))), (3, .int (nI (b1)))]) hx hb dX6_costByRounds_57 hl (by decide) rfl (fun ls hl => ?_)
              refine lv_iinc (v := nI (i + 1)) (lv' := [(5, .int (nI (i + 1))), (4, .int (bI ((iaN (cdR ht wr) z.1 36).2))), (0, .ref (ad (r))), (1, .ref (ad (b))), (2, .int (nI (a))), (3, .int (nI (b1)))]) hx hb dX6_costByRounds_59 hl (k := 1) rfl (g_inc _ 1 (by decide +kernel)) (by decide) rfl (fun ls hl => ?_)
              refine lv_goto (tgt := 40) hx hb dX6_costByRounds_62 (by decide) ?_
              exact ih_loop8 (i + 1) ((iaN (cdR ht wr) z.1 36)) (by omega) (by omega) (iaN_ok hz (Nat.le_refl _)) (he) _ _ _ hP hS hb15 hb16 hb12 hfr ls (lv_sub hl [0, 1, 2, 3, 4, 5] rfl)
      exact loop8 (36 - (0) + 1) (0) (((va_up (fil 36 (fun _ => 1000000) lv) a 0), true)) (Nat.lt_succ_self _) (by omega) (hc0) (hzf.symm) _ _ _ hP hS hb6 hb7 hb5 hfr ls (lv_sub hl [0, 1, 2, 3, 4, 5] rfl)
    · have hh2 := of_decide_eq_true hh2
      refine lv_iconst (v := -1) hx hb dX6_costByRounds_16 (by decide +kernel) ?_
      exact g_iret S hr hlocks hP hS (⟨by rw [if_neg hh1, if_pos hh2], ⟨_, hb_l⟩, hfr⟩) (fun _ _ => rfl) (Nat.le_of_ble_eq_true rfl) (Nat.le_of_ble_eq_true rfl) dX6_costByRounds_17
set_option maxHeartbeats 4000000 in
set_option maxRecDepth 100000 in
/-- does a route lead with no greater step -/
theorem mX6_leads (l : Launch) {E : gE} {ad : Nat → Nat} {N : Nat} {w : Nat → va_E} (b : Nat) (ht dr pg wt wr mo : Nat → Nat) (mc ni po dn : Nat) (r : Nat) (pn : Nat) (re ce : Nat → Nat) (rc tc : Nat) (a b1 st : Nat) (hb_s : bkP N w b 7 (SHC E ad b ht dr pg wt wr mo mc ni po dn)) (hb_g : bkP N w r 1 (RTC E ad r pn)) (hb_f : bkP N w (r + 4) 3 (FLC E ad (r + 4) re ce rc tc)) (hbr : b + 7 ≤ r) (hwr : ∀ k, k < 36 → wr k ≤ 3) (hht : ∀ k, k < 36 → ht k ≤ 99) (ha : a < 36) (hbx : b1 < 36) (hst : st ≤ 99) : gMi l yX6_leads (lw_ws yX6_leads cX6_leads 9 (some .boolean)) ({ frames := 2, cells := 0, slots := 0, locals := 44 } : Room) E ad N w [.ref (ad (r)), .ref (ad (b)), .int (nI (a)), .int (nI (b1)), .int (nI (st))] (fun z w' => z = bI (ldB (ldOk ht wr st) a b1) ∧ (∃ (re' ce' : Nat → Nat) (rc' tc' : Nat), bkP N w' (r + 4) 3 (FLC E ad (r + 4) re' ce' rc' tc')) ∧ gFr (gIn (r + 4) 3) w w') 0 0 := by
  refine Met.ofW (cc := cX6_leads) (maxL := 9) (ret := (some .boolean)) (by decide) rfl ?_
  intro p e s m args below meth cd s₁ B hml hv
  obtain ⟨rfl, hI, hP⟩ := hv
  obtain ⟨S, hr, hlocks⟩ := gPre (ws := []) B hml (C := RX6) rfl
  have hx := S.1
  have hb := S.2.1
  have hS : va_S (gA E) s.heap s.heap [] := va_S.rf
  have hfr : gFr (gIn (r + 4) 3) w w := gFr.rf
  have hl := lv_entry ([.ref (ad (r)), .ref (ad (b)), .int (nI (a)), .int (nI (b1)), .int (nI (st))]) (n := 9) (Nat.le_of_ble_eq_true rfl)
  rw [lg_entry_eq]
  generalize (lg_sl ([.ref (ad (r)), .ref (ad (b)), .int (nI (a)), .int (nI (b1)), .int (nI (st))]) ++ List.replicate (9 - (lg_sl ([.ref (ad (r)), .ref (ad (b)), .int (nI (a)), .int (nI (b1)), .int (nI (st))])).length) Slot.unset).toArray = ls at hl ⊢
  have hl : lv_has ls 9 [(0, .ref (ad (r))), (1, .ref (ad (b))), (2, .int (nI (a))), (3, .int (nI (b1))), (4, .int (nI (st)))] := hl
  refine lv_aload_n hx hb dX6_leads_0 rfl (lv_at hl 0 rfl) ?_
  refine g_get S hI hP uX6 rfl (fs := _) (hb_g.lt 0 (by decide)) (hb_g.2 0 (by decide)) 1 (by decide) q294 rfl (v := .ref (ad (r + 4))) rfl dX6_leads_1 ?_
  refine g_afv (g_runV S hI hP hS (k := 0) (As := []) (rest := []) (mX3_dry l (r + 4) re ce rc tc hb_f) q1154 q939 q940 q87 q941 rfl rfl (by decide +kernel) ⟨Nat.le_of_ble_eq_true rfl, Nat.le_of_ble_eq_true rfl⟩ rfl (hb_f.lt 0 (by decide)) (hb_f.2 0 (by decide)) rfl hl.1 rfl (Nat.le_of_ble_eq_true rfl) ⟨(Nat.le_of_ble_eq_true rfl), (Nat.le_of_ble_eq_true rfl)⟩ dX6_leads_4) hS (fun w1 H locs hq hP hS => ?_)
  obtain ⟨hb1, hf2⟩ := hq
  have hb3 := hb_s.fr hf2 (fun k hk => by show ¬ _; (try simp only [gIn]); (try dsimp only); omega)
  have hb4 := hb_g.fr hf2 (fun k hk => by show ¬ _; (try simp only [gIn]); (try dsimp only); omega)
  have hfr := hfr.trans hf2 (fun q hq => by (try simp only [gIn] at hq ⊢); (try dsimp only at hq ⊢); omega)
  have hok0 : flOk (fil 36 (fun _ => 0) re, ce, 0) := ⟨fun j hj => absurd hj (Nat.not_lt_zero j), Nat.zero_le _, fun k hk => by show fil 36 (fun _ => 0) re k ≤ 1; rw [fil_in hk]; exact Nat.zero_le _⟩
  refine lv_aload_n hx hb dX6_leads_7 rfl (lv_at hl 0 rfl) ?_
  refine g_get S hI hP uX6 rfl (fs := _) (hb4.lt 0 (by decide)) (hb4.2 0 (by decide)) 1 (by decide) q294 rfl (v := .ref (ad (r + 4))) rfl dX6_leads_8 ?_
  refine lv_iload_n hx hb dX6_leads_11 rfl (lv_at hl 2 rfl) ?_
  refine g_afv (g_runV S hI hP hS (k := 1) (As := [.int (nI (a))]) (rest := []) (mX3_reach l (r + 4) (fil 36 (fun _ => 0) re) ce 0 0 a hb1 ha hok0) q1155 q947 q948 q87 q949 rfl rfl (by decide +kernel) ⟨Nat.le_of_ble_eq_true rfl, Nat.le_of_ble_eq_true rfl⟩ rfl (hb1.lt 0 (by decide)) (hb1.2 0 (by decide)) rfl hl.1 rfl (Nat.le_of_ble_eq_true rfl) ⟨(Nat.le_of_ble_eq_true rfl), (Nat.le_of_ble_eq_true rfl)⟩ dX6_leads_12) hS (fun w1 H locs hq hP hS => ?_)
  obtain ⟨hb5, hf6⟩ := hq
  have hb7 := hb3.fr hf6 (fun k hk => by show ¬ _; (try simp only [gIn]); (try dsimp only); omega)
  have hb8 := hb4.fr hf6 (fun k hk => by show ¬ _; (try simp only [gIn]); (try dsimp only); omega)
  have hfr := hfr.trans hf6 (fun q hq => by (try simp only [gIn] at hq ⊢); (try dsimp only at hq ⊢); omega)
  refine g_iconst S 0 dX6_leads_15 (by decide +kernel) ?_
  refine lv_istore (lv' := [(5, .int (nI (0))), (0, .ref (ad (r))), (1, .ref (ad (b))), (2, .int (nI (a))), (3, .int (nI (b1))), (4, .int (nI (st)))]) hx hb dX6_leads_16 hl (by decide) rfl (fun ls hl => ?_)
  obtain ⟨zf, hzf⟩ : ∃ zf, zf = (bfsG (ldOk ht wr st) 36 ((flR (fil 36 (fun _ => 0) re, ce, 0) a), 0)) := ⟨_, rfl⟩
  have loop9 : ∀ (n : Nat) (i : Nat) (z : T3 × Nat), 36 - i < n → (i ≤ 36) → (flOk z.1) → (z.2 ≤ z.1.2.2) → (bfsG (ldOk ht wr st) (36 - i) z = zf) → ∀ (w1 : Nat → va_E) (H : Heap) (locs : List Loc), gP E ad N w1 H → va_S (gA E) s.heap H locs → bkP N w1 b 7 (SHC E ad b ht dr pg wt wr mo mc ni po dn) → bkP N w1 r 1 (RTC E ad r pn) → bkP N w1 (r + 4) 3 (FLC E ad (r + 4) z.1.1 z.1.2.1 z.1.2.2 z.2) → gFr (gIn (r + 4) 3) w w1 → ∀ (ls : Array Slot), lv_has ls 9 [(5, .int (nI (i))), (0, .ref (ad (r))), (1, .ref (ad (b))), (2, .int (nI (a))), (3, .int (nI (b1))), (4, .int (nI (st)))] → W p l e (headSpec (lw_ws yX6_leads cX6_leads 9 (some .boolean)) ({ frames := 2, cells := 0, slots := 0, locals := 44 } : Room)).room s m ([.ref (ad (r)), .ref (ad (b)), .int (nI (a)), .int (nI (b1)), .int (nI (st))] : List Value).toArray below meth cd H locs 0 0 (MQ below (va_Qi (fun z w' => z = bI (ldB (ldOk ht wr st) a b1) ∧ (∃ (re' ce' : Nat → Nat) (rc' tc' : Nat), bkP N w' (r + 4) 3 (FLC E ad (r + 4) re' ce' rc' tc')) ∧ gFr (gIn (r + 4) 3) w w') (gB E ad N) (gA E)) ([.ref (ad (r)), .ref (ad (b)), .int (nI (a)), .int (nI (b1)), .int (nI (st))] : List Value).toArray s 0 0 (gA E)) (F0 m 18 ls []) := by
    intro n
    induction n with
    | zero => intro i z hmeas; omega
    | succ n ih_loop9 =>
      intro i z hmeas hi hz hzt he w1 H locs hP hS hb10 hb11 hb12 hfr ls hl
      have hz1 := hz.2.1
      refine lv_iload hx hb dX6_leads_18 (lv_at hl 0 rfl) ?_
      refine g_bipush S 36 dX6_leads_20 (by decide +kernel) ?_
      refine g_ge S (a := i) (b := 36) (by omega) (by omega) (tgt := 110) dX6_leads_22 (by decide) (fun h => ?_) (fun h => ?_)
      · have ei : 36 - i = 0 := by omega
        rw [ei, bfsG_z] at he
        rw [he] at hb12
        have hrl := ldB_at (ok := (ldOk ht wr st)) (re := re) (ce := ce) ha hbx
        rw [show flF (ldOk ht wr st) re ce a = zf from hzf.symm] at hrl
        refine lv_aload_n hx hb dX6_leads_110 rfl (lv_at hl 1 rfl) ?_
        refine g_get S hI hP uX6 rfl (fs := _) (hb11.lt 0 (by decide)) (hb11.2 0 (by decide)) 1 (by decide) q294 rfl (v := .ref (ad (r + 4))) rfl dX6_leads_111 ?_
        refine g_getN S hI hP uX3 rfl (fs := _) (hb12.lt 0 (by decide)) (hb12.2 0 (by decide)) 0 (by decide) q218 rfl (v := .ref (ad (r + 5))) rfl dX6_leads_114 ?_
        refine lv_iload_n hx hb dX6_leads_117 rfl (lv_at hl 4 rfl) ?_
        refine g_zald S hI hP (f := fun j => nI (zf.1.1 j)) (hb12.lt 1 (by decide)) (hb12.2 1 (by decide)) (b1) (hbx) (by decide) dX6_leads_118 ?_
        rw [hrl]
        exact g_zret S hr hlocks (bI_01 _) hP hS (⟨rfl, ⟨_, _, _, _, hb12⟩, hfr⟩) (fun _ _ => rfl) (Nat.le_of_ble_eq_true rfl) (Nat.le_of_ble_eq_true rfl) dX6_leads_119
      · have ei : 36 - i = (36 - (i + 1)) + 1 := by omega
        rw [ei, bfsG_s] at he
        refine lv_aload_n hx hb dX6_leads_25 rfl (lv_at hl 1 rfl) ?_
        refine g_get S hI hP uX6 rfl (fs := _) (hb11.lt 0 (by decide)) (hb11.2 0 (by decide)) 1 (by decide) q294 rfl (v := .ref (ad (r + 4))) rfl dX6_leads_26 ?_
        refine g_afi (g_runV S hI hP hS (k := 0) (As := []) (rest := []) (mX3_take l (r + 4) z.1.1 z.1.2.1 z.1.2.2 z.2 hb12 hz1 (by omega)) q1156 q951 q952 q87 q953 rfl rfl (by decide +kernel) ⟨Nat.le_of_ble_eq_true rfl, Nat.le_of_ble_eq_true rfl⟩ rfl (hb12.lt 0 (by decide)) (hb12.2 0 (by decide)) rfl hl.1 rfl (Nat.le_of_ble_eq_true rfl) ⟨(Nat.le_of_ble_eq_true rfl), (Nat.le_of_ble_eq_true rfl)⟩ dX6_leads_29) hS (fun rz w1 H locs hq hP hS => ?_)
        obtain ⟨hr15, hb13, hf14⟩ := hq
        rw [hr15]
        have hb16 := hb10.fr hf14 (fun k hk => by show ¬ _; (try simp only [gIn]); (try dsimp only); omega)
        have hb17 := hb11.fr hf14 (fun k hk => by show ¬ _; (try simp only [gIn]); (try dsimp only); omega)
        have hfr := hfr.trans hf14 (fun q hq => by (try simp only [gIn] at hq ⊢); (try dsimp only at hq ⊢); omega)
        refine lv_istore (lv' := [(6, .int (oI (if z.2 < z.1.2.2 then some (z.1.2.1 z.2) else none))), (5, .int (nI (i))), (0, .ref (ad (r))), (1, .ref (ad (b))), (2, .int (nI (a))), (3, .int (nI (b1))), (4, .int (nI (st)))]) hx hb dX6_leads_32 hl (by decide) rfl (fun ls hl => ?_)
        refine lv_iload hx hb dX6_leads_34 (lv_at hl 0 rfl) ?_
        refine lv_iconst (v := -1) hx hb dX6_leads_36 (by decide +kernel) ?_
        refine g_one S (o := if z.2 < z.1.2.2 then some (z.1.2.1 z.2) else none) (fun k hk => by split at hk; cases hk; have := hz.1 _ ‹_›; omega; cases hk) (tgt := 43) dX6_leads_37 (by decide) (fun hn_k hn => ?_) (fun hn => ?_)
        · have hlt : z.2 < z.1.2.2 := by by_cases q : z.2 < z.1.2.2; exact q; rw [if_neg q] at hn; cases hn
          have hkk : hn_k = z.1.2.1 z.2 := by rw [if_pos hlt] at hn; exact (Option.some.inj hn).symm
          have hk36 : hn_k < 36 := by rw [hkk]; exact hz.1 _ hlt
          rw [if_pos hlt] at he hb13
          rw [← hkk] at he
          have hl : lv_has ls 9 [(6, .int (nI (hn_k))), (5, .int (nI (i))), (0, .ref (ad (r))), (1, .ref (ad (b))), (2, .int (nI (a))), (3, .int (nI (b1))), (4, .int (nI (st)))] := by rw [hn] at hl; exact hl
          refine g_iconst S 0 dX6_leads_43 (by decide +kernel) ?_
          refine lv_istore (lv' := [(7, .int (nI (0))), (6, .int (nI (hn_k))), (5, .int (nI (i))), (0, .ref (ad (r))), (1, .ref (ad (b))), (2, .int (nI (a))), (3, .int (nI (b1))), (4, .int (nI (st)))]) hx hb dX6_leads_44 hl (by decide) rfl (fun ls hl => ?_)
          have loop18 : ∀ (n : Nat) (d : Nat), 4 - d < n → (d ≤ 4) → ∀ (w1 : Nat → va_E) (H : Heap) (locs : List Loc), gP E ad N w1 H → va_S (gA E) s.heap H locs → bkP N w1 b 7 (SHC E ad b ht dr pg wt wr mo mc ni po dn) → bkP N w1 r 1 (RTC E ad r pn) → bkP N w1 (r + 4) 3 (FLC E ad (r + 4) ((flD (ldOk ht wr st) hn_k d z.1).1) ((flD (ldOk ht wr st) hn_k d z.1).2.1) ((flD (ldOk ht wr st) hn_k d z.1).2.2) (z.2 + 1)) → gFr (gIn (r + 4) 3) w w1 → ∀ (ls : Array Slot), lv_has ls 9 [(7, .int (nI (d))), (6, .int (nI (hn_k))), (5, .int (nI (i))), (0, .ref (ad (r))), (1, .ref (ad (b))), (2, .int (nI (a))), (3, .int (nI (b1))), (4, .int (nI (st)))] → W p l e (headSpec (lw_ws yX6_leads cX6_leads 9 (some .boolean)) ({ frames := 2, cells := 0, slots := 0, locals := 44 } : Room)).room s m ([.ref (ad (r)), .ref (ad (b)), .int (nI (a)), .int (nI (b1)), .int (nI (st))] : List Value).toArray below meth cd H locs 0 0 (MQ below (va_Qi (fun z w' => z = bI (ldB (ldOk ht wr st) a b1) ∧ (∃ (re' ce' : Nat → Nat) (rc' tc' : Nat), bkP N w' (r + 4) 3 (FLC E ad (r + 4) re' ce' rc' tc')) ∧ gFr (gIn (r + 4) 3) w w') (gB E ad N) (gA E)) ([.ref (ad (r)), .ref (ad (b)), .int (nI (a)), .int (nI (b1)), .int (nI (st))] : List Value).toArray s 0 0 (gA E)) (F0 m 46 ls []) := by
            intro n
            induction n with
            | zero => intro d hmeas; omega
            | succ n ih_loop18 =>
              intro d hmeas hd w1 H locs hP hS hb19 hb20 hb21 hfr ls hl
              have hfd := flD_ok (ok := (ldOk ht wr st)) hz hk36 d
              refine lv_iload hx hb dX6_leads_46 (lv_at hl 0 rfl) ?_
              refine g_iconst S 4 dX6_leads_48 (by decide +kernel) ?_
              refine g_ge S (a := d) (b := 4) (by omega) (by omega) (tgt := 104) dX6_leads_49 (by decide) (fun hd4 => ?_) (fun hd4 => ?_)
              · have e_d : d = 4 := by omega
                subst e_d
                refine lv_iinc (v := nI (i + 1)) (lv' := [(5, .int (nI (i + 1))), (7, .int (nI (4))), (6, .int (nI (hn_k))), (0, .ref (ad (r))), (1, .ref (ad (b))), (2, .int (nI (a))), (3, .int (nI (b1))), (4, .int (nI (st)))]) hx hb dX6_leads_104 hl (k := 2) rfl (g_inc _ 1 (by decide +kernel)) (by decide) rfl (fun ls hl => ?_)
                refine lv_goto (tgt := 18) hx hb dX6_leads_107 (by decide) ?_
                exact ih_loop9 (i + 1) (((flD (ldOk ht wr st) hn_k 4 z.1), z.2 + 1)) (by omega) (by omega) (hfd) (flD_ge _ _ hlt) (he) _ _ _ hP hS hb19 hb20 hb21 hfr ls (lv_sub hl [0, 3, 4, 5, 6, 7] rfl)
              · refine lv_iload hx hb dX6_leads_52 (lv_at hl 1 rfl) ?_
                refine lv_iload hx hb dX6_leads_54 (lv_at hl 0 rfl) ?_
                refine g_roi (g_runSN S hI hP hS (k := 2) (As := [.int (nI (hn_k)), .int (nI (d))]) (rest := []) (mX12_neighbour l hn_k d hk36 hd4) q1082 q675 q82 q676 rfl rfl (by decide +kernel) ⟨Nat.le_of_ble_eq_true rfl, Nat.le_of_ble_eq_true rfl⟩ rfl hl.1 rfl (Nat.le_of_ble_eq_true rfl) ⟨(Nat.le_of_ble_eq_true rfl), (Nat.le_of_ble_eq_true rfl)⟩ dX6_leads_56) hS (fun H locs hP hS => ?_)
                refine lv_istore (lv' := [(8, .int (oI (nb hn_k d))), (7, .int (nI (d))), (6, .int (nI (hn_k))), (5, .int (nI (i))), (0, .ref (ad (r))), (1, .ref (ad (b))), (2, .int (nI (a))), (3, .int (nI (b1))), (4, .int (nI (st)))]) hx hb dX6_leads_59 hl (by decide) rfl (fun ls hl => ?_)
                refine lv_iload hx hb dX6_leads_61 (lv_at hl 0 rfl) ?_
                refine lv_iconst (v := -1) hx hb dX6_leads_63 (by decide +kernel) ?_
                refine g_oeq S (o := nb hn_k d) (fun k hk => Nat.lt_trans (nb_lt hk36 hk) (by decide)) (tgt := 98) dX6_leads_64 (by decide) (fun hb0 => ?_) (fun hb0_k hb0 => ?_)
                · have hde : (flD (ldOk ht wr st) hn_k (d + 1) z.1) = (flD (ldOk ht wr st) hn_k d z.1) := by simp [flD, hb0]
                  rw [← hde] at hb21
                  refine lv_iinc (v := nI (d + 1)) (lv' := [(7, .int (nI (d + 1))), (8, .int (oI (nb hn_k d))), (6, .int (nI (hn_k))), (5, .int (nI (i))), (0, .ref (ad (r))), (1, .ref (ad (b))), (2, .int (nI (a))), (3, .int (nI (b1))), (4, .int (nI (st)))]) hx hb dX6_leads_98 hl (k := 1) rfl (g_inc _ 1 (by decide +kernel)) (by decide) rfl (fun ls hl => ?_)
                  refine lv_goto (tgt := 46) hx hb dX6_leads_101 (by decide) ?_
                  exact ih_loop18 (d + 1) (by omega) (by omega) _ _ _ hP hS hb19 hb20 hb21 hfr ls (lv_sub hl [0, 2, 3, 4, 5, 6, 7, 8] rfl)
                · have hb36 := nb_lt hk36 hb0
                  have hl : lv_has ls 9 [(8, .int (nI (hb0_k))), (7, .int (nI (d))), (6, .int (nI (hn_k))), (5, .int (nI (i))), (0, .ref (ad (r))), (1, .ref (ad (b))), (2, .int (nI (a))), (3, .int (nI (b1))), (4, .int (nI (st)))] := by rw [hb0] at hl; exact hl
                  have hzb := hht _ hb36
                  have hzk := hht _ hk36
                  have hdf := dif_le hzk hzb
                  refine lv_aload_n hx hb dX6_leads_67 rfl (lv_at hl 5 rfl) ?_
                  refine lv_iload hx hb dX6_leads_68 (lv_at hl 0 rfl) ?_
                  refine g_roi (g_runV S hI hP hS (k := 1) (As := [.int (nI (hb0_k))]) (rest := []) (mX7_hasHole l b ht dr pg wt wr mo mc ni po dn hb0_k hb19 hb36 (hwr _ hb36)) q1073 q506 q507 q83 q508 rfl rfl (by decide +kernel) ⟨Nat.le_of_ble_eq_true rfl, Nat.le_of_ble_eq_true rfl⟩ rfl (hb19.lt 0 (by decide)) (hb19.2 0 (by decide)) rfl hl.1 rfl (Nat.le_of_ble_eq_true rfl) ⟨(Nat.le_of_ble_eq_true rfl), (Nat.le_of_ble_eq_true rfl)⟩ dX6_leads_70) hS (fun H locs hP hS => ?_)
                  refine g_bne S (b := decide (3 ≤ wr hb0_k)) (tgt := 98) dX6_leads_73 (by decide) (fun hw => ?_) (fun hw => ?_)
                  · have hw := of_decide_eq_true hw
                    have hde : (flD (ldOk ht wr st) hn_k (d + 1) z.1) = (flD (ldOk ht wr st) hn_k d z.1) := by simp only [flD, hb0]; rw [if_neg (fun q => absurd hw (of_decide_eq_true q).1)]
                    rw [← hde] at hb21
                    refine lv_iinc (v := nI (d + 1)) (lv' := [(7, .int (nI (d + 1))), (8, .int (nI (hb0_k))), (6, .int (nI (hn_k))), (5, .int (nI (i))), (0, .ref (ad (r))), (1, .ref (ad (b))), (2, .int (nI (a))), (3, .int (nI (b1))), (4, .int (nI (st)))]) hx hb dX6_leads_98 hl (k := 1) rfl (g_inc _ 1 (by decide +kernel)) (by decide) rfl (fun ls hl => ?_)
                    refine lv_goto (tgt := 46) hx hb dX6_leads_101 (by decide) ?_
                    exact ih_loop18 (d + 1) (by omega) (by omega) _ _ _ hP hS hb19 hb20 hb21 hfr ls (lv_sub hl [0, 2, 3, 4, 5, 6, 7, 8] rfl)
                  · have hw := of_decide_eq_false hw
                    refine lv_aload_n hx hb dX6_leads_76 rfl (lv_at hl 5 rfl) ?_
                    refine lv_iload hx hb dX6_leads_77 (lv_at hl 2 rfl) ?_
                    refine lv_iload hx hb dX6_leads_79 (lv_at hl 0 rfl) ?_
                    refine g_roi (g_runV S hI hP hS (k := 2) (As := [.int (nI (hn_k)), .int (nI (hb0_k))]) (rest := []) (mX7_difference l b ht dr pg wt wr mo mc ni po dn hn_k hb0_k hb19 hk36 hb36 hht) q1087 q1088 q1089 q83 q1090 rfl rfl (by decide +kernel) ⟨Nat.le_of_ble_eq_true rfl, Nat.le_of_ble_eq_true rfl⟩ rfl (hb19.lt 0 (by decide)) (hb19.2 0 (by decide)) rfl hl.1 rfl (Nat.le_of_ble_eq_true rfl) ⟨(Nat.le_of_ble_eq_true rfl), (Nat.le_of_ble_eq_true rfl)⟩ dX6_leads_81) hS (fun H locs hP hS => ?_)
                    refine lv_iload hx hb dX6_leads_84 (lv_at hl 8 rfl) ?_
                    refine g_gt S (a := dif (ht hn_k) (ht hb0_k)) (b := st) (by omega) (by omega) (tgt := 98) dX6_leads_86 (by decide) (fun hv => ?_) (fun hv => ?_)
                    · have hde : (flD (ldOk ht wr st) hn_k (d + 1) z.1) = (flD (ldOk ht wr st) hn_k d z.1) := by simp only [flD, hb0]; rw [if_neg (fun q => absurd (of_decide_eq_true q).2 (by omega))]
                      rw [← hde] at hb21
                      refine lv_iinc (v := nI (d + 1)) (lv' := [(7, .int (nI (d + 1))), (8, .int (nI (hb0_k))), (6, .int (nI (hn_k))), (5, .int (nI (i))), (0, .ref (ad (r))), (1, .ref (ad (b))), (2, .int (nI (a))), (3, .int (nI (b1))), (4, .int (nI (st)))]) hx hb dX6_leads_98 hl (k := 1) rfl (g_inc _ 1 (by decide +kernel)) (by decide) rfl (fun ls hl => ?_)
                      refine lv_goto (tgt := 46) hx hb dX6_leads_101 (by decide) ?_
                      exact ih_loop18 (d + 1) (by omega) (by omega) _ _ _ hP hS hb19 hb20 hb21 hfr ls (lv_sub hl [0, 2, 3, 4, 5, 6, 7, 8] rfl)
                    · refine lv_aload_n hx hb dX6_leads_89 rfl (lv_at hl 4 rfl) ?_
                      refine g_get S hI hP uX6 rfl (fs := _) (hb20.lt 0 (by decide)) (hb20.2 0 (by decide)) 1 (by decide) q294 rfl (v := .ref (ad (r + 4))) rfl dX6_leads_90 ?_
                      refine lv_iload hx hb dX6_leads_93 (lv_at hl 0 rfl) ?_
                      refine g_afv (g_runV S hI hP hS (k := 1) (As := [.int (nI (hb0_k))]) (rest := []) (mX3_reach l (r + 4) (flD (ldOk ht wr st) hn_k d z.1).1 (flD (ldOk ht wr st) hn_k d z.1).2.1 (flD (ldOk ht wr st) hn_k d z.1).2.2 (z.2 + 1) hb0_k hb21 hb36 hfd) q1155 q947 q948 q87 q949 rfl rfl (by decide +kernel) ⟨Nat.le_of_ble_eq_true rfl, Nat.le_of_ble_eq_true rfl⟩ rfl (hb21.lt 0 (by decide)) (hb21.2 0 (by decide)) rfl hl.1 rfl (Nat.le_of_ble_eq_true rfl) ⟨(Nat.le_of_ble_eq_true rfl), (Nat.le_of_ble_eq_true rfl)⟩ dX6_leads_95) hS (fun w1 H locs hq hP hS => ?_)
                      obtain ⟨hb22, hf23⟩ := hq
                      have hb24 := hb19.fr hf23 (fun k hk => by show ¬ _; (try simp only [gIn]); (try dsimp only); omega)
                      have hb25 := hb20.fr hf23 (fun k hk => by show ¬ _; (try simp only [gIn]); (try dsimp only); omega)
                      have hfr := hfr.trans hf23 (fun q hq => by (try simp only [gIn] at hq ⊢); (try dsimp only at hq ⊢); omega)
                      have hde : (flD (ldOk ht wr st) hn_k (d + 1) z.1) = flR (flD (ldOk ht wr st) hn_k d z.1) hb0_k := by simp only [flD, hb0]; rw [if_pos (decide_eq_true ⟨hw, hv⟩)]
                      rw [← hde] at hb22
                      refine lv_iinc (v := nI (d + 1)) (lv' := [(7, .int (nI (d + 1))), (8, .int (nI (hb0_k))), (6, .int (nI (hn_k))), (5, .int (nI (i))), (0, .ref (ad (r))), (1, .ref (ad (b))), (2, .int (nI (a))), (3, .int (nI (b1))), (4, .int (nI (st)))]) hx hb dX6_leads_98 hl (k := 1) rfl (g_inc _ 1 (by decide +kernel)) (by decide) rfl (fun ls hl => ?_)
                      refine lv_goto (tgt := 46) hx hb dX6_leads_101 (by decide) ?_
                      exact ih_loop18 (d + 1) (by omega) (by omega) _ _ _ hP hS hb24 hb25 hb22 hfr ls (lv_sub hl [0, 2, 3, 4, 5, 6, 7, 8] rfl)
          exact loop18 (4 - (0) + 1) (0) (Nat.lt_succ_self _) (by omega) _ _ _ hP hS hb16 hb17 hb13 hfr ls (lv_sub hl [0, 1, 2, 3, 4, 5, 6, 7] rfl)
        · have hlt : ¬ z.2 < z.1.2.2 := by intro q; rw [if_pos q] at hn; cases hn
          rw [if_neg hlt] at he hb13
          rw [he] at hb13
          refine lv_goto (tgt := 110) hx hb dX6_leads_40 (by decide) ?_
          have hrl := ldB_at (ok := (ldOk ht wr st)) (re := re) (ce := ce) ha hbx
          rw [show flF (ldOk ht wr st) re ce a = zf from hzf.symm] at hrl
          refine lv_aload_n hx hb dX6_leads_110 rfl (lv_at hl 2 rfl) ?_
          refine g_get S hI hP uX6 rfl (fs := _) (hb17.lt 0 (by decide)) (hb17.2 0 (by decide)) 1 (by decide) q294 rfl (v := .ref (ad (r + 4))) rfl dX6_leads_111 ?_
          refine g_getN S hI hP uX3 rfl (fs := _) (hb13.lt 0 (by decide)) (hb13.2 0 (by decide)) 0 (by decide) q218 rfl (v := .ref (ad (r + 5))) rfl dX6_leads_114 ?_
          refine lv_iload_n hx hb dX6_leads_117 rfl (lv_at hl 5 rfl) ?_
          refine g_zald S hI hP (f := fun j => nI (zf.1.1 j)) (hb13.lt 1 (by decide)) (hb13.2 1 (by decide)) (b1) (hbx) (by decide) dX6_leads_118 ?_
          rw [hrl]
          exact g_zret S hr hlocks (bI_01 _) hP hS (⟨rfl, ⟨_, _, _, _, hb13⟩, hfr⟩) (fun _ _ => rfl) (Nat.le_of_ble_eq_true rfl) (Nat.le_of_ble_eq_true rfl) dX6_leads_119
  exact loop9 (36 - (0) + 1) (0) (((flR (fil 36 (fun _ => 0) re, ce, 0) a), 0)) (Nat.lt_succ_self _) (by omega) (flR_ok hok0 ha) (Nat.zero_le _) (hzf.symm) _ _ _ hP hS hb7 hb8 hb5 hfr ls (lv_sub hl [0, 1, 2, 3, 4, 5] rfl)
set_option maxHeartbeats 4000000 in
set_option maxRecDepth 100000 in
/-- the steepest step by halving -/
theorem mX6_stepByHalving (l : Launch) {E : gE} {ad : Nat → Nat} {N : Nat} {w : Nat → va_E} (b : Nat) (ht dr pg wt wr mo : Nat → Nat) (mc ni po dn : Nat) (r : Nat) (pn : Nat) (re ce : Nat → Nat) (rc tc : Nat) (a b1 : Nat) (hb_s : bkP N w b 7 (SHC E ad b ht dr pg wt wr mo mc ni po dn)) (hb_g : bkP N w r 1 (RTC E ad r pn)) (hb_f : bkP N w (r + 4) 3 (FLC E ad (r + 4) re ce rc tc)) (hbr : b + 7 ≤ r) (hwr : ∀ k, k < 36 → wr k ≤ 3) (hht : ∀ k, k < 36 → ht k ≤ 99) (ha : a < 36) (hbx : b1 < 36) : gMi l yX6_stepByHalving (lw_ws yX6_stepByHalving cX6_stepByHalving 8 (some .int)) ({ frames := 3, cells := 0, slots := 0, locals := 72 } : Room) E ad N w [.ref (ad (r)), .ref (ad (b)), .int (nI (a)), .int (nI (b1))] (fun z w' => z = (if 3 ≤ wr a then -1 else if 3 ≤ wr b1 then -1 else if ldB (ldOk ht wr 99) a b1 = true then nI (hvG ht wr a b1 7 0 99) else -1) ∧ (∃ (re' ce' : Nat → Nat) (rc' tc' : Nat), bkP N w' (r + 4) 3 (FLC E ad (r + 4) re' ce' rc' tc')) ∧ gFr (gIn (r + 4) 3) w w') 0 0 := by
  refine Met.ofW (cc := cX6_stepByHalving) (maxL := 8) (ret := (some .int)) (by decide) rfl ?_
  intro p e s m args below meth cd s₁ B hml hv
  obtain ⟨rfl, hI, hP⟩ := hv
  obtain ⟨S, hr, hlocks⟩ := gPre (ws := []) B hml (C := RX6) rfl
  have hx := S.1
  have hb := S.2.1
  have hS : va_S (gA E) s.heap s.heap [] := va_S.rf
  have hfr : gFr (gIn (r + 4) 3) w w := gFr.rf
  have hl := lv_entry ([.ref (ad (r)), .ref (ad (b)), .int (nI (a)), .int (nI (b1))]) (n := 8) (Nat.le_of_ble_eq_true rfl)
  rw [lg_entry_eq]
  generalize (lg_sl ([.ref (ad (r)), .ref (ad (b)), .int (nI (a)), .int (nI (b1))]) ++ List.replicate (8 - (lg_sl ([.ref (ad (r)), .ref (ad (b)), .int (nI (a)), .int (nI (b1))])).length) Slot.unset).toArray = ls at hl ⊢
  have hl : lv_has ls 8 [(0, .ref (ad (r))), (1, .ref (ad (b))), (2, .int (nI (a))), (3, .int (nI (b1)))] := hl
  refine lv_aload_n hx hb dX6_stepByHalving_0 rfl (lv_at hl 1 rfl) ?_
  refine lv_iload_n hx hb dX6_stepByHalving_1 rfl (lv_at hl 2 rfl) ?_
  refine g_roi (g_runV S hI hP hS (k := 1) (As := [.int (nI (a))]) (rest := []) (mX7_hasHole l b ht dr pg wt wr mo mc ni po dn a hb_s ha (hwr a ha)) q1073 q506 q507 q83 q508 rfl rfl (by decide +kernel) ⟨Nat.le_of_ble_eq_true rfl, Nat.le_of_ble_eq_true rfl⟩ rfl (hb_s.lt 0 (by decide)) (hb_s.2 0 (by decide)) rfl hl.1 rfl (Nat.le_of_ble_eq_true rfl) ⟨(Nat.le_of_ble_eq_true rfl), (Nat.le_of_ble_eq_true rfl)⟩ dX6_stepByHalving_2) hS (fun H locs hP hS => ?_)
  refine g_bne S (b := decide (3 ≤ wr a)) (tgt := 28) dX6_stepByHalving_5 (by decide) (fun hh1 => ?_) (fun hh1 => ?_)
  · have hh1 := of_decide_eq_true hh1
    refine lv_iconst (v := -1) hx hb dX6_stepByHalving_28 (by decide +kernel) ?_
    exact g_iret S hr hlocks hP hS (⟨by rw [if_pos hh1], ⟨_, _, _, _, hb_f⟩, hfr⟩) (fun _ _ => rfl) (Nat.le_of_ble_eq_true rfl) (Nat.le_of_ble_eq_true rfl) dX6_stepByHalving_29
  · have hh1 := of_decide_eq_false hh1
    refine lv_aload_n hx hb dX6_stepByHalving_8 rfl (lv_at hl 1 rfl) ?_
    refine lv_iload_n hx hb dX6_stepByHalving_9 rfl (lv_at hl 3 rfl) ?_
    refine g_roi (g_runV S hI hP hS (k := 1) (As := [.int (nI (b1))]) (rest := []) (mX7_hasHole l b ht dr pg wt wr mo mc ni po dn b1 hb_s hbx (hwr b1 hbx)) q1073 q506 q507 q83 q508 rfl rfl (by decide +kernel) ⟨Nat.le_of_ble_eq_true rfl, Nat.le_of_ble_eq_true rfl⟩ rfl (hb_s.lt 0 (by decide)) (hb_s.2 0 (by decide)) rfl hl.1 rfl (Nat.le_of_ble_eq_true rfl) ⟨(Nat.le_of_ble_eq_true rfl), (Nat.le_of_ble_eq_true rfl)⟩ dX6_stepByHalving_10) hS (fun H locs hP hS => ?_)
    refine g_bne S (b := decide (3 ≤ wr b1)) (tgt := 28) dX6_stepByHalving_13 (by decide) (fun hh2 => ?_) (fun hh2 => ?_)
    · have hh2 := of_decide_eq_true hh2
      refine lv_iconst (v := -1) hx hb dX6_stepByHalving_28 (by decide +kernel) ?_
      exact g_iret S hr hlocks hP hS (⟨by rw [if_neg hh1, if_pos hh2], ⟨_, _, _, _, hb_f⟩, hfr⟩) (fun _ _ => rfl) (Nat.le_of_ble_eq_true rfl) (Nat.le_of_ble_eq_true rfl) dX6_stepByHalving_29
    · have hh2 := of_decide_eq_false hh2
      refine lv_aload_n hx hb dX6_stepByHalving_16 rfl (lv_at hl 0 rfl) ?_
      refine lv_aload_n hx hb dX6_stepByHalving_17 rfl (lv_at hl 1 rfl) ?_
      refine lv_iload_n hx hb dX6_stepByHalving_18 rfl (lv_at hl 2 rfl) ?_
      refine lv_iload_n hx hb dX6_stepByHalving_19 rfl (lv_at hl 3 rfl) ?_
      refine g_bipush S 99 dX6_stepByHalving_20 (by decide +kernel) ?_
      refine g_afi (g_runV S hI hP hS (k := 4) (As := [.ref (ad (b)), .int (nI (a)), .int (nI (b1)), .int (nI (99))]) (rest := []) (mX6_leads l b ht dr pg wt wr mo mc ni po dn r pn re ce rc tc a b1 99 hb_s hb_g hb_f hbr hwr hht ha hbx (Nat.le_refl _)) q1150 q1152 q35 q91 q1153 rfl rfl (by decide +kernel) ⟨Nat.le_of_ble_eq_true rfl, Nat.le_of_ble_eq_true rfl⟩ rfl (hb_g.lt 0 (by decide)) (hb_g.2 0 (by decide)) rfl hl.1 rfl (Nat.le_of_ble_eq_true rfl) ⟨(Nat.le_of_ble_eq_true rfl), (Nat.le_of_ble_eq_true rfl)⟩ dX6_stepByHalving_22) hS (fun rz w1 H locs hq hP hS => ?_)
      obtain ⟨hr_g1, ⟨re_g1, ce_g1, rc_g1, tc_g1, hf_g1⟩, hfx_g1⟩ := hq
      rw [hr_g1]
      have hb2 := hb_s.fr hfx_g1 (fun k hk => by show ¬ _; simp only [gIn]; omega)
      have hb3 := hb_g.fr hfx_g1 (fun k hk => by show ¬ _; simp only [gIn]; omega)
      have hfr := hfr.trans hfx_g1 (fun q hq => hq)
      refine g_bne S (b := ldB (ldOk ht wr 99) a b1) (tgt := 30) dX6_stepByHalving_25 (by decide) (fun hl99 => ?_) (fun hl99 => ?_)
      · refine g_iconst S 0 dX6_stepByHalving_30 (by decide +kernel) ?_
        refine lv_istore (lv' := [(4, .int (nI (0))), (0, .ref (ad (r))), (1, .ref (ad (b))), (2, .int (nI (a))), (3, .int (nI (b1)))]) hx hb dX6_stepByHalving_31 hl (by decide) rfl (fun ls hl => ?_)
        refine g_bipush S 99 dX6_stepByHalving_33 (by decide +kernel) ?_
        refine lv_istore (lv' := [(5, .int (nI (99))), (4, .int (nI (0))), (0, .ref (ad (r))), (1, .ref (ad (b))), (2, .int (nI (a))), (3, .int (nI (b1)))]) hx hb dX6_stepByHalving_35 hl (by decide) rfl (fun ls hl => ?_)
        refine g_iconst S 0 dX6_stepByHalving_37 (by decide +kernel) ?_
        refine lv_istore (lv' := [(6, .int (nI (0))), (5, .int (nI (99))), (4, .int (nI (0))), (0, .ref (ad (r))), (1, .ref (ad (b))), (2, .int (nI (a))), (3, .int (nI (b1)))]) hx hb dX6_stepByHalving_38 hl (by decide) rfl (fun ls hl => ?_)
        obtain ⟨zf, hzf⟩ : ∃ zf, zf = hvG ht wr a b1 7 0 99 := ⟨_, rfl⟩
        have loop4 : ∀ (n : Nat) (i : Nat) (mn : Nat) (mx : Nat) (re1 : Nat → Nat) (ce1 : Nat → Nat) (rc1 : Nat) (tc1 : Nat), 7 - i < n → (i ≤ 7) → (mx ≤ 99) → (mn ≤ 100) → (hvG ht wr a b1 (7 - i) mn mx = zf) → ∀ (w1 : Nat → va_E) (H : Heap) (locs : List Loc), gP E ad N w1 H → va_S (gA E) s.heap H locs → bkP N w1 b 7 (SHC E ad b ht dr pg wt wr mo mc ni po dn) → bkP N w1 r 1 (RTC E ad r pn) → bkP N w1 (r + 4) 3 (FLC E ad (r + 4) re1 ce1 rc1 tc1) → gFr (gIn (r + 4) 3) w w1 → ∀ (ls : Array Slot), lv_has ls 8 [(6, .int (nI (i))), (5, .int (nI (mx))), (4, .int (nI (mn))), (0, .ref (ad (r))), (1, .ref (ad (b))), (2, .int (nI (a))), (3, .int (nI (b1)))] → W p l e (headSpec (lw_ws yX6_stepByHalving cX6_stepByHalving 8 (some .int)) ({ frames := 3, cells := 0, slots := 0, locals := 72 } : Room)).room s m ([.ref (ad (r)), .ref (ad (b)), .int (nI (a)), .int (nI (b1))] : List Value).toArray below meth cd H locs 0 0 (MQ below (va_Qi (fun z w' => z = (if 3 ≤ wr a then -1 else if 3 ≤ wr b1 then -1 else if ldB (ldOk ht wr 99) a b1 = true then nI (hvG ht wr a b1 7 0 99) else -1) ∧ (∃ (re' ce' : Nat → Nat) (rc' tc' : Nat), bkP N w' (r + 4) 3 (FLC E ad (r + 4) re' ce' rc' tc')) ∧ gFr (gIn (r + 4) 3) w w') (gB E ad N) (gA E)) ([.ref (ad (r)), .ref (ad (b)), .int (nI (a)), .int (nI (b1))] : List Value).toArray s 0 0 (gA E)) (F0 m 40 ls []) := by
          intro n
          induction n with
          | zero => intro i mn mx re1 ce1 rc1 tc1 hmeas; omega
          | succ n ih_loop4 =>
            intro i mn mx re1 ce1 rc1 tc1 hmeas hi hmx hmn he w1 H locs hP hS hb5 hb6 hb7 hfr ls hl
            refine lv_iload hx hb dX6_stepByHalving_40 (lv_at hl 0 rfl) ?_
            refine g_bipush S 7 dX6_stepByHalving_42 (by decide +kernel) ?_
            refine g_ge S (a := i) (b := 7) (by omega) (by omega) (tgt := 94) dX6_stepByHalving_44 (by decide) (fun h7 => ?_) (fun h7 => ?_)
            · have ei : 7 - i = 0 := by omega
              rw [ei, hvG_z] at he
              refine lv_iload hx hb dX6_stepByHalving_94 (lv_at hl 1 rfl) ?_
              exact g_iret S hr hlocks hP hS (⟨by rw [if_neg hh1, if_neg hh2, if_pos hl99, ← hzf, he], ⟨_, _, _, _, hb7⟩, hfr⟩) (fun _ _ => rfl) (Nat.le_of_ble_eq_true rfl) (Nat.le_of_ble_eq_true rfl) dX6_stepByHalving_96
            · have ei : 7 - i = (7 - (i + 1)) + 1 := by omega
              rw [ei, hvG_s] at he
              refine lv_iload hx hb dX6_stepByHalving_47 (lv_at hl 2 rfl) ?_
              refine lv_iload hx hb dX6_stepByHalving_49 (lv_at hl 1 rfl) ?_
              refine g_ge S (a := mn) (b := mx) (by omega) (by omega) (tgt := 94) dX6_stepByHalving_51 (by decide) (fun hlt => ?_) (fun hlt => ?_)
              · rw [if_neg (by omega)] at he
                refine lv_iload hx hb dX6_stepByHalving_94 (lv_at hl 1 rfl) ?_
                exact g_iret S hr hlocks hP hS (⟨by rw [if_neg hh1, if_neg hh2, if_pos hl99, ← hzf, he], ⟨_, _, _, _, hb7⟩, hfr⟩) (fun _ _ => rfl) (Nat.le_of_ble_eq_true rfl) (Nat.le_of_ble_eq_true rfl) dX6_stepByHalving_96
              · rw [if_pos hlt] at he
                refine lv_iload hx hb dX6_stepByHalving_54 (lv_at hl 2 rfl) ?_
                refine lv_iload hx hb dX6_stepByHalving_56 (lv_at hl 1 rfl) ?_
                refine g_iadd S dX6_stepByHalving_58 ?_
                refine g_iconst S 2 dX6_stepByHalving_59 (by decide +kernel) ?_
                refine g_idiv S (by omega) (by omega) (by omega) dX6_stepByHalving_60 ?_
                refine lv_istore (lv' := [(7, .int (nI ((mn + mx) / 2))), (6, .int (nI (i))), (5, .int (nI (mx))), (4, .int (nI (mn))), (0, .ref (ad (r))), (1, .ref (ad (b))), (2, .int (nI (a))), (3, .int (nI (b1)))]) hx hb dX6_stepByHalving_61 hl (by decide) rfl (fun ls hl => ?_)
                refine lv_aload_n hx hb dX6_stepByHalving_63 rfl (lv_at hl 4 rfl) ?_
                refine lv_aload_n hx hb dX6_stepByHalving_64 rfl (lv_at hl 5 rfl) ?_
                refine lv_iload_n hx hb dX6_stepByHalving_65 rfl (lv_at hl 6 rfl) ?_
                refine lv_iload_n hx hb dX6_stepByHalving_66 rfl (lv_at hl 7 rfl) ?_
                refine lv_iload hx hb dX6_stepByHalving_67 (lv_at hl 0 rfl) ?_
                refine g_afi (g_runV S hI hP hS (k := 4) (As := [.ref (ad (b)), .int (nI (a)), .int (nI (b1)), .int (nI ((mn + mx) / 2))]) (rest := []) (mX6_leads l b ht dr pg wt wr mo mc ni po dn r pn re1 ce1 rc1 tc1 a b1 ((mn + mx) / 2) hb5 hb6 hb7 hbr hwr hht ha hbx (by omega)) q1150 q1152 q35 q91 q1153 rfl rfl (by decide +kernel) ⟨Nat.le_of_ble_eq_true rfl, Nat.le_of_ble_eq_true rfl⟩ rfl (hb6.lt 0 (by decide)) (hb6.2 0 (by decide)) rfl hl.1 rfl (Nat.le_of_ble_eq_true rfl) ⟨(Nat.le_of_ble_eq_true rfl), (Nat.le_of_ble_eq_true rfl)⟩ dX6_stepByHalving_69) hS (fun rz w1 H locs hq hP hS => ?_)
                obtain ⟨hr_g8, ⟨re_g8, ce_g8, rc_g8, tc_g8, hf_g8⟩, hfx_g8⟩ := hq
                rw [hr_g8]
                have hb9 := hb5.fr hfx_g8 (fun k hk => by show ¬ _; simp only [gIn]; omega)
                have hb10 := hb6.fr hfx_g8 (fun k hk => by show ¬ _; simp only [gIn]; omega)
                have hfr := hfr.trans hfx_g8 (fun q hq => hq)
                refine g_beq S (b := ldB (ldOk ht wr ((mn + mx) / 2)) a b1) (tgt := 82) dX6_stepByHalving_72 (by decide) (fun hlm => ?_) (fun hlm => ?_)
                · rw [if_neg (by rw [hlm]; decide)] at he
                  refine lv_iload hx hb dX6_stepByHalving_82 (lv_at hl 0 rfl) ?_
                  refine g_iconst S 1 dX6_stepByHalving_84 (by decide +kernel) ?_
                  refine g_iadd S dX6_stepByHalving_85 ?_
                  refine lv_istore (lv' := [(4, .int (nI ((mn + mx) / 2 + 1))), (7, .int (nI ((mn + mx) / 2))), (6, .int (nI (i))), (5, .int (nI (mx))), (0, .ref (ad (r))), (1, .ref (ad (b))), (2, .int (nI (a))), (3, .int (nI (b1)))]) hx hb dX6_stepByHalving_86 hl (by decide) rfl (fun ls hl => ?_)
                  refine lv_iinc (v := nI (i + 1)) (lv' := [(6, .int (nI (i + 1))), (4, .int (nI ((mn + mx) / 2 + 1))), (7, .int (nI ((mn + mx) / 2))), (5, .int (nI (mx))), (0, .ref (ad (r))), (1, .ref (ad (b))), (2, .int (nI (a))), (3, .int (nI (b1)))]) hx hb dX6_stepByHalving_88 hl (k := 2) rfl (g_inc _ 1 (by decide +kernel)) (by decide) rfl (fun ls hl => ?_)
                  refine lv_goto (tgt := 40) hx hb dX6_stepByHalving_91 (by decide) ?_
                  exact ih_loop4 (i + 1) ((mn + mx) / 2 + 1) (mx) (re_g8) (ce_g8) (rc_g8) (tc_g8) (by omega) (by omega) (hmx) (by omega) (he) _ _ _ hP hS hb9 hb10 hf_g8 hfr ls (lv_sub hl [0, 3, 1, 4, 5, 6, 7] rfl)
                · rw [if_pos hlm] at he
                  refine lv_iload hx hb dX6_stepByHalving_75 (lv_at hl 0 rfl) ?_
                  refine lv_istore (lv' := [(5, .int (nI ((mn + mx) / 2))), (7, .int (nI ((mn + mx) / 2))), (6, .int (nI (i))), (4, .int (nI (mn))), (0, .ref (ad (r))), (1, .ref (ad (b))), (2, .int (nI (a))), (3, .int (nI (b1)))]) hx hb dX6_stepByHalving_77 hl (by decide) rfl (fun ls hl => ?_)
                  refine lv_goto (tgt := 88) hx hb dX6_stepByHalving_79 (by decide) ?_
                  refine lv_iinc (v := nI (i + 1)) (lv' := [(6, .int (nI (i + 1))), (5, .int (nI ((mn + mx) / 2))), (7, .int (nI ((mn + mx) / 2))), (4, .int (nI (mn))), (0, .ref (ad (r))), (1, .ref (ad (b))), (2, .int (nI (a))), (3, .int (nI (b1)))]) hx hb dX6_stepByHalving_88 hl (k := 2) rfl (g_inc _ 1 (by decide +kernel)) (by decide) rfl (fun ls hl => ?_)
                  refine lv_goto (tgt := 40) hx hb dX6_stepByHalving_91 (by decide) ?_
                  exact ih_loop4 (i + 1) (mn) ((mn + mx) / 2) (re_g8) (ce_g8) (rc_g8) (tc_g8) (by omega) (by omega) (by omega) (hmn) (he) _ _ _ hP hS hb9 hb10 hf_g8 hfr ls (lv_sub hl [0, 1, 3, 4, 5, 6, 7] rfl)
        exact loop4 (7 - (0) + 1) (0) (0) (99) (re_g1) (ce_g1) (rc_g1) (tc_g1) (Nat.lt_succ_self _) (by omega) (by omega) (by omega) (hzf.symm) _ _ _ hP hS hb2 hb3 hf_g1 hfr ls (lv_sub hl [0, 1, 2, 3, 4, 5, 6] rfl)
      · refine lv_iconst (v := -1) hx hb dX6_stepByHalving_28 (by decide +kernel) ?_
        exact g_iret S hr hlocks hP hS (⟨by rw [if_neg hh1, if_neg hh2, if_neg (by rw [hl99]; decide)], ⟨_, _, _, _, hf_g1⟩, hfr⟩) (fun _ _ => rfl) (Nat.le_of_ble_eq_true rfl) (Nat.le_of_ble_eq_true rfl) dX6_stepByHalving_29
set_option maxHeartbeats 4000000 in
set_option maxRecDepth 100000 in
/-- a pair is put into its place -/
theorem mX6_rankPair (l : Launch) {E : gE} {ad : Nat → Nat} {N : Nat} {w : Nat → va_E} (b : Nat) (ht dr pg wt wr mo : Nat → Nat) (mc ni po dn : Nat) (r : Nat) (pn : Nat) (pq : Nat → Nat) (c d : Nat) (hb_s : bkP N w b 7 (SHC E ad b ht dr pg wt wr mo mc ni po dn)) (hb_g : bkP N w r 1 (RTC E ad r pn)) (hb_p : bkP N w (r + 10) 1 (PRC E ad (r + 10) pq)) (hbr : b + 7 ≤ r) (hwr : ∀ k, k < 36 → wr k ≤ 3) (hht : ∀ k, k < 36 → ht k ≤ 99) (hc : c < 36) (hd : d < 4) (hok : prOk (pq, pn)) : gMv l yX6_rankPair (lw_ws yX6_rankPair cX6_rankPair 7 none) ({ frames := 2, cells := 0, slots := 0, locals := 44 } : Room) E ad N w [.ref (ad (r)), .ref (ad (b)), .int (nI (c)), .int (nI (d))] (fun w' => bkP N w' r 1 (RTC E ad r (prP ht wr c d (pq, pn)).2) ∧ bkP N w' (r + 10) 1 (PRC E ad (r + 10) (prP ht wr c d (pq, pn)).1) ∧ gFr (fun q => q = r ∨ q = r + 10) w w') 0 0 := by
  refine Met.ofW (cc := cX6_rankPair) (maxL := 7) (ret := none) (by decide) rfl ?_
  intro p e s m args below meth cd s₁ B hml hv
  obtain ⟨rfl, hI, hP⟩ := hv
  obtain ⟨S, hr, hlocks⟩ := gPre (ws := []) B hml (C := RX6) rfl
  have hx := S.1
  have hb := S.2.1
  have hS : va_S (gA E) s.heap s.heap [] := va_S.rf
  have hfr : gFr (fun q => q = r ∨ q = r + 10) w w := gFr.rf
  have hl := lv_entry ([.ref (ad (r)), .ref (ad (b)), .int (nI (c)), .int (nI (d))]) (n := 7) (Nat.le_of_ble_eq_true rfl)
  rw [lg_entry_eq]
  generalize (lg_sl ([.ref (ad (r)), .ref (ad (b)), .int (nI (c)), .int (nI (d))]) ++ List.replicate (7 - (lg_sl ([.ref (ad (r)), .ref (ad (b)), .int (nI (c)), .int (nI (d))])).length) Slot.unset).toArray = ls at hl ⊢
  have hl : lv_has ls 7 [(0, .ref (ad (r))), (1, .ref (ad (b))), (2, .int (nI (c))), (3, .int (nI (d)))] := hl
  have hpn : pn ≤ 60 := hok.1
  refine lv_iload_n hx hb dX6_rankPair_0 rfl (lv_at hl 2 rfl) ?_
  refine lv_iload_n hx hb dX6_rankPair_1 rfl (lv_at hl 3 rfl) ?_
  refine g_roi (g_runSN S hI hP hS (k := 2) (As := [.int (nI (c)), .int (nI (d))]) (rest := []) (mX12_neighbour l c d hc hd) q1082 q675 q82 q676 rfl rfl (by decide +kernel) ⟨Nat.le_of_ble_eq_true rfl, Nat.le_of_ble_eq_true rfl⟩ rfl hl.1 rfl (Nat.le_of_ble_eq_true rfl) ⟨(Nat.le_of_ble_eq_true rfl), (Nat.le_of_ble_eq_true rfl)⟩ dX6_rankPair_2) hS (fun H locs hP hS => ?_)
  refine lv_istore (lv' := [(4, .int (oI (nb c d))), (0, .ref (ad (r))), (1, .ref (ad (b))), (2, .int (nI (c))), (3, .int (nI (d)))]) hx hb dX6_rankPair_5 hl (by decide) rfl (fun ls hl => ?_)
  refine lv_iload hx hb dX6_rankPair_7 (lv_at hl 0 rfl) ?_
  refine lv_iconst (v := -1) hx hb dX6_rankPair_9 (by decide +kernel) ?_
  refine g_oeq S (o := nb c d) (fun k hk => Nat.lt_trans (nb_lt hc hk) (by decide)) (tgt := 39) dX6_rankPair_10 (by decide) (fun hn => ?_) (fun hn_k hn => ?_)
  · have hpe : prP ht wr c d (pq, pn) = (pq, pn) := by simp only [prP, hn]
    exact g_vret S hr hlocks hP hS (⟨by rw [hpe]; exact hb_g, by rw [hpe]; exact hb_p, hfr⟩) (fun _ _ => rfl) (Nat.le_of_ble_eq_true rfl) (Nat.le_of_ble_eq_true rfl) dX6_rankPair_39
  · have hk36 := nb_lt hc hn
    have hl : lv_has ls 7 [(4, .int (nI (hn_k))), (0, .ref (ad (r))), (1, .ref (ad (b))), (2, .int (nI (c))), (3, .int (nI (d)))] := by rw [hn] at hl; exact hl
    refine lv_aload_n hx hb dX6_rankPair_13 rfl (lv_at hl 2 rfl) ?_
    refine lv_iload_n hx hb dX6_rankPair_14 rfl (lv_at hl 3 rfl) ?_
    refine g_roi (g_runV S hI hP hS (k := 1) (As := [.int (nI (c))]) (rest := []) (mX7_hasHole l b ht dr pg wt wr mo mc ni po dn c hb_s hc (hwr c hc)) q1073 q506 q507 q83 q508 rfl rfl (by decide +kernel) ⟨Nat.le_of_ble_eq_true rfl, Nat.le_of_ble_eq_true rfl⟩ rfl (hb_s.lt 0 (by decide)) (hb_s.2 0 (by decide)) rfl hl.1 rfl (Nat.le_of_ble_eq_true rfl) ⟨(Nat.le_of_ble_eq_true rfl), (Nat.le_of_ble_eq_true rfl)⟩ dX6_rankPair_15) hS (fun H locs hP hS => ?_)
    refine g_bne S (b := decide (3 ≤ wr c)) (tgt := 39) dX6_rankPair_18 (by decide) (fun hh1 => ?_) (fun hh1 => ?_)
    · have hh1 := of_decide_eq_true hh1
      have hpe : prP ht wr c d (pq, pn) = (pq, pn) := by simp only [prP, hn]; rw [if_pos hh1]
      exact g_vret S hr hlocks hP hS (⟨by rw [hpe]; exact hb_g, by rw [hpe]; exact hb_p, hfr⟩) (fun _ _ => rfl) (Nat.le_of_ble_eq_true rfl) (Nat.le_of_ble_eq_true rfl) dX6_rankPair_39
    · have hh1 := of_decide_eq_false hh1
      refine lv_aload_n hx hb dX6_rankPair_21 rfl (lv_at hl 2 rfl) ?_
      refine lv_iload hx hb dX6_rankPair_22 (lv_at hl 0 rfl) ?_
      refine g_roi (g_runV S hI hP hS (k := 1) (As := [.int (nI (hn_k))]) (rest := []) (mX7_hasHole l b ht dr pg wt wr mo mc ni po dn hn_k hb_s hk36 (hwr _ hk36)) q1073 q506 q507 q83 q508 rfl rfl (by decide +kernel) ⟨Nat.le_of_ble_eq_true rfl, Nat.le_of_ble_eq_true rfl⟩ rfl (hb_s.lt 0 (by decide)) (hb_s.2 0 (by decide)) rfl hl.1 rfl (Nat.le_of_ble_eq_true rfl) ⟨(Nat.le_of_ble_eq_true rfl), (Nat.le_of_ble_eq_true rfl)⟩ dX6_rankPair_24) hS (fun H locs hP hS => ?_)
      refine g_bne S (b := decide (3 ≤ wr hn_k)) (tgt := 39) dX6_rankPair_27 (by decide) (fun hh2 => ?_) (fun hh2 => ?_)
      · have hh2 := of_decide_eq_true hh2
        have hpe : prP ht wr c d (pq, pn) = (pq, pn) := by simp only [prP, hn]; rw [if_neg hh1, if_pos hh2]
        exact g_vret S hr hlocks hP hS (⟨by rw [hpe]; exact hb_g, by rw [hpe]; exact hb_p, hfr⟩) (fun _ _ => rfl) (Nat.le_of_ble_eq_true rfl) (Nat.le_of_ble_eq_true rfl) dX6_rankPair_39
      · have hh2 := of_decide_eq_false hh2
        refine lv_aload_n hx hb dX6_rankPair_30 rfl (lv_at hl 1 rfl) ?_
        refine g_get S hI hP uX6 rfl (fs := _) (hb_g.lt 0 (by decide)) (hb_g.2 0 (by decide)) 5 (by decide) q298 rfl (v := .int (nI (pn))) rfl dX6_rankPair_31 ?_
        refine g_bipush S 60 dX6_rankPair_34 (by decide +kernel) ?_
        refine g_lt S (a := pn) (b := 60) (by omega) (by omega) (tgt := 40) dX6_rankPair_36 (by decide) (fun h60 => ?_) (fun h60 => ?_)
        · have hpe : prP ht wr c d (pq, pn) = (insP (prV ht c hn_k d) pn pq, pn + 1) := by simp only [prP, hn]; rw [if_neg hh1, if_neg hh2, if_neg (by omega)]
          have hpv := prV_le hht hc hk36 hd
          have hdl := dif_le (hht c hc) (hht _ hk36)
          refine lv_aload_n hx hb dX6_rankPair_40 rfl (lv_at hl 2 rfl) ?_
          refine lv_iload_n hx hb dX6_rankPair_41 rfl (lv_at hl 3 rfl) ?_
          refine lv_iload hx hb dX6_rankPair_42 (lv_at hl 0 rfl) ?_
          refine g_roi (g_runV S hI hP hS (k := 2) (As := [.int (nI (c)), .int (nI (hn_k))]) (rest := []) (mX7_difference l b ht dr pg wt wr mo mc ni po dn c hn_k hb_s hc hk36 hht) q1087 q1088 q1089 q83 q1090 rfl rfl (by decide +kernel) ⟨Nat.le_of_ble_eq_true rfl, Nat.le_of_ble_eq_true rfl⟩ rfl (hb_s.lt 0 (by decide)) (hb_s.2 0 (by decide)) rfl hl.1 rfl (Nat.le_of_ble_eq_true rfl) ⟨(Nat.le_of_ble_eq_true rfl), (Nat.le_of_ble_eq_true rfl)⟩ dX6_rankPair_44) hS (fun H locs hP hS => ?_)
          refine g_sipush S 144 dX6_rankPair_47 (by decide +kernel) ?_
          refine g_imul S dX6_rankPair_50 ?_
          refine lv_iload_n hx hb dX6_rankPair_51 rfl (lv_at hl 3 rfl) ?_
          refine g_iconst S 4 dX6_rankPair_52 (by decide +kernel) ?_
          refine g_imul S dX6_rankPair_53 ?_
          refine g_iadd S dX6_rankPair_54 ?_
          refine lv_iload_n hx hb dX6_rankPair_55 rfl (lv_at hl 4 rfl) ?_
          refine g_iadd S dX6_rankPair_56 ?_
          refine lv_istore (lv' := [(5, .int (nI ((dif (ht c) (ht hn_k)) * 144 + (c * 4) + d))), (4, .int (nI (hn_k))), (0, .ref (ad (r))), (1, .ref (ad (b))), (2, .int (nI (c))), (3, .int (nI (d)))]) hx hb dX6_rankPair_57 hl (by decide) rfl (fun ls hl => ?_)
          refine lv_aload_n hx hb dX6_rankPair_59 rfl (lv_at hl 2 rfl) ?_
          refine g_get S hI hP uX6 rfl (fs := _) (hb_g.lt 0 (by decide)) (hb_g.2 0 (by decide)) 5 (by decide) q298 rfl (v := .int (nI (pn))) rfl dX6_rankPair_60 ?_
          refine lv_istore (lv' := [(6, .int (nI (pn))), (5, .int (nI ((dif (ht c) (ht hn_k)) * 144 + (c * 4) + d))), (4, .int (nI (hn_k))), (0, .ref (ad (r))), (1, .ref (ad (b))), (2, .int (nI (c))), (3, .int (nI (d)))]) hx hb dX6_rankPair_63 hl (by decide) rfl (fun ls hl => ?_)
          obtain ⟨pv, hpvd⟩ : ∃ pv, pv = prV ht c hn_k d := ⟨_, rfl⟩
          have hl : lv_has ls 7 [(6, .int (nI (pn))), (5, .int (nI (pv))), (4, .int (nI (hn_k))), (0, .ref (ad (r))), (1, .ref (ad (b))), (2, .int (nI (c))), (3, .int (nI (d)))] := by rw [show dif (ht c) (ht hn_k) * 144 + c * 4 + d = pv from hpvd.symm] at hl; exact hl
          rw [← hpvd] at hpe hpv
          have loop1 : ∀ (n : Nat) (p0 : Nat) (f1 : Nat → Nat), p0 < n → (p0 ≤ pn) → (∀ j, j < pn + 1 → j ≠ p0 → f1 j ≤ 14399) → (insP pv p0 f1 = insP pv pn pq) → ∀ (w1 : Nat → va_E) (H : Heap) (locs : List Loc), gP E ad N w1 H → va_S (gA E) s.heap H locs → bkP N w1 b 7 (SHC E ad b ht dr pg wt wr mo mc ni po dn) → bkP N w1 r 1 (RTC E ad r pn) → bkP N w1 (r + 10) 1 (PRC E ad (r + 10) f1) → gFr (fun q => q = r ∨ q = r + 10) w w1 → ∀ (ls : Array Slot), lv_has ls 7 [(6, .int (nI (p0))), (5, .int (nI (pv))), (0, .ref (ad (r))), (1, .ref (ad (b))), (2, .int (nI (c))), (3, .int (nI (d))), (4, .int (nI (hn_k)))] → W p l e (headSpec (lw_ws yX6_rankPair cX6_rankPair 7 none) ({ frames := 2, cells := 0, slots := 0, locals := 44 } : Room)).room s m ([.ref (ad (r)), .ref (ad (b)), .int (nI (c)), .int (nI (d))] : List Value).toArray below meth cd H locs 0 0 (MQ below (va_Qv (fun w' => bkP N w' r 1 (RTC E ad r (prP ht wr c d (pq, pn)).2) ∧ bkP N w' (r + 10) 1 (PRC E ad (r + 10) (prP ht wr c d (pq, pn)).1) ∧ gFr (fun q => q = r ∨ q = r + 10) w w') (gB E ad N) (gA E)) ([.ref (ad (r)), .ref (ad (b)), .int (nI (c)), .int (nI (d))] : List Value).toArray s 0 0 (gA E)) (F0 m 65 ls []) := by
            intro n
            induction n with
            | zero => intro p0 f1 hmeas; omega
            | succ n ih_loop1 =>
              intro p0 f1 hmeas hp hf1 he w1 H locs hP hS hb2 hb3 hb4 hfr ls hl
              refine lv_iload hx hb dX6_rankPair_65 (lv_at hl 0 rfl) ?_
              refine g_ifle S (a := p0) (by omega) (tgt := 106) dX6_rankPair_67 (by decide) (fun hz => ?_) (fun hz => ?_)
              · have e_p0 : p0 = 0 := by omega
                subst e_p0
                have hx2 : va_up f1 (0) pv = insP pv pn pq := by rw [← he]; rfl
                refine lv_aload_n hx hb dX6_rankPair_106 rfl (lv_at hl 2 rfl) ?_
                refine g_get S hI hP uX6 rfl (fs := _) (hb3.lt 0 (by decide)) (hb3.2 0 (by decide)) 4 (by decide) q297 rfl (v := .ref (ad (r + 10))) rfl dX6_rankPair_107 ?_
                refine lv_iload hx hb dX6_rankPair_110 (lv_at hl 0 rfl) ?_
                refine lv_iload hx hb dX6_rankPair_112 (lv_at hl 1 rfl) ?_
                refine g_iastN S hI hP hS (f := f1) (x := pv) (hb4.lt 0 (by decide)) (hb4.2 0 (by decide)) (0) (by omega) (by decide) dX6_rankPair_114 (fun H locs hP hS => ?_)
                have hP : gP E ad N (va_up _ (r + 10) (PRC E ad (r + 10) (va_up f1 0 pv) 0)) H := hP
                have hb5 : bkP N (va_up _ (r + 10) (PRC E ad (r + 10) (va_up f1 0 pv) 0)) (r + 10) 1 (PRC E ad (r + 10) (va_up f1 0 pv)) := PR_setA0 hb4 _
                have hb6 := hb2.keep (p := r + 10) (e := PRC E ad (r + 10) (va_up f1 0 pv) 0) (by omega)
                have hb7 := hb3.keep (p := r + 10) (e := PRC E ad (r + 10) (va_up f1 0 pv) 0) (by omega)
                have hfr := hfr.up (p := r + 10) (e := PRC E ad (r + 10) (va_up f1 0 pv) 0) (by show _ ∨ _; omega)
                rw [hx2] at hb6 hb7 hb5 hP hfr
                refine lv_aload_n hx hb dX6_rankPair_115 rfl (lv_at hl 2 rfl) ?_
                refine lv_dup hx hb dX6_rankPair_116 rfl ?_
                refine g_get S hI hP uX6 rfl (fs := _) (hb7.lt 0 (by decide)) (hb7.2 0 (by decide)) 5 (by decide) q298 rfl (v := .int (nI (pn))) rfl dX6_rankPair_117 ?_
                refine g_iconst S 1 dX6_rankPair_120 (by decide +kernel) ?_
                refine g_iadd S dX6_rankPair_121 ?_
                refine g_put S hI hP hS uX6 rfl tyX6 tyX6_ok nmX6 (fs := _) (hb7.lt 0 (by decide)) (hb7.2 0 (by decide)) 5 (by decide) q298 rfl rfl (v := .int (nI (pn + 1))) rfl rfl (Nat.le_of_ble_eq_true rfl) dX6_rankPair_122 (fun H locs hP hS => ?_)
                have hP : gP E ad N (va_up _ (r) (RTC E ad r (pn + 1) 0)) H := hP
                have hb8 : bkP N (va_up _ (r) (RTC E ad r (pn + 1) 0)) r 1 (RTC E ad r (pn + 1)) := RT_setO hb7 _
                have hb9 := hb6.keep (p := r) (e := RTC E ad r (pn + 1) 0) (by omega)
                have hb10 := hb5.keep (p := r) (e := RTC E ad r (pn + 1) 0) (by omega)
                have hfr := hfr.up (p := r) (e := RTC E ad r (pn + 1) 0) (by show _ ∨ _; omega)
                exact g_vret S hr hlocks hP hS (⟨by rw [hpe]; exact hb8, by rw [hpe]; exact hb10, hfr⟩) (fun _ _ => rfl) (Nat.le_of_ble_eq_true rfl) (Nat.le_of_ble_eq_true rfl) dX6_rankPair_125
              · obtain ⟨p1, hp1⟩ : ∃ p1, p0 = p1 + 1 := ⟨p0 - 1, by omega⟩
                subst hp1
                have hfp := hf1 p1 (by omega) (by omega)
                refine lv_aload_n hx hb dX6_rankPair_70 rfl (lv_at hl 2 rfl) ?_
                refine g_get S hI hP uX6 rfl (fs := _) (hb3.lt 0 (by decide)) (hb3.2 0 (by decide)) 4 (by decide) q297 rfl (v := .ref (ad (r + 10))) rfl dX6_rankPair_71 ?_
                refine lv_iload hx hb dX6_rankPair_74 (lv_at hl 0 rfl) ?_
                refine g_iconst S 1 dX6_rankPair_76 (by decide +kernel) ?_
                refine g_isub S (by omega) dX6_rankPair_77 ?_
                refine g_iald S hI hP (f := fun j => nI (f1 j)) (hb4.lt 0 (by decide)) (hb4.2 0 (by decide)) (p1) (by omega) (by decide) dX6_rankPair_78 ?_
                refine lv_iload hx hb dX6_rankPair_79 (lv_at hl 1 rfl) ?_
                refine g_le S (a := f1 p1) (b := pv) (by omega) (by omega) (tgt := 106) dX6_rankPair_81 (by decide) (fun hv => ?_) (fun hv => ?_)
                · have hx2 : va_up f1 (p1 + 1) pv = insP pv pn pq := by rw [← he]; simp only [insP]; rw [if_neg (by omega)]
                  refine lv_aload_n hx hb dX6_rankPair_106 rfl (lv_at hl 2 rfl) ?_
                  refine g_get S hI hP uX6 rfl (fs := _) (hb3.lt 0 (by decide)) (hb3.2 0 (by decide)) 4 (by decide) q297 rfl (v := .ref (ad (r + 10))) rfl dX6_rankPair_107 ?_
                  refine lv_iload hx hb dX6_rankPair_110 (lv_at hl 0 rfl) ?_
                  refine lv_iload hx hb dX6_rankPair_112 (lv_at hl 1 rfl) ?_
                  refine g_iastN S hI hP hS (f := f1) (x := pv) (hb4.lt 0 (by decide)) (hb4.2 0 (by decide)) (p1 + 1) (by omega) (by decide) dX6_rankPair_114 (fun H locs hP hS => ?_)
                  have hP : gP E ad N (va_up _ (r + 10) (PRC E ad (r + 10) (va_up f1 (p1 + 1) pv) 0)) H := hP
                  have hb11 : bkP N (va_up _ (r + 10) (PRC E ad (r + 10) (va_up f1 (p1 + 1) pv) 0)) (r + 10) 1 (PRC E ad (r + 10) (va_up f1 (p1 + 1) pv)) := PR_setA0 hb4 _
                  have hb12 := hb2.keep (p := r + 10) (e := PRC E ad (r + 10) (va_up f1 (p1 + 1) pv) 0) (by omega)
                  have hb13 := hb3.keep (p := r + 10) (e := PRC E ad (r + 10) (va_up f1 (p1 + 1) pv) 0) (by omega)
                  have hfr := hfr.up (p := r + 10) (e := PRC E ad (r + 10) (va_up f1 (p1 + 1) pv) 0) (by show _ ∨ _; omega)
                  rw [hx2] at hb12 hb13 hb11 hP hfr
                  refine lv_aload_n hx hb dX6_rankPair_115 rfl (lv_at hl 2 rfl) ?_
                  refine lv_dup hx hb dX6_rankPair_116 rfl ?_
                  refine g_get S hI hP uX6 rfl (fs := _) (hb13.lt 0 (by decide)) (hb13.2 0 (by decide)) 5 (by decide) q298 rfl (v := .int (nI (pn))) rfl dX6_rankPair_117 ?_
                  refine g_iconst S 1 dX6_rankPair_120 (by decide +kernel) ?_
                  refine g_iadd S dX6_rankPair_121 ?_
                  refine g_put S hI hP hS uX6 rfl tyX6 tyX6_ok nmX6 (fs := _) (hb13.lt 0 (by decide)) (hb13.2 0 (by decide)) 5 (by decide) q298 rfl rfl (v := .int (nI (pn + 1))) rfl rfl (Nat.le_of_ble_eq_true rfl) dX6_rankPair_122 (fun H locs hP hS => ?_)
                  have hP : gP E ad N (va_up _ (r) (RTC E ad r (pn + 1) 0)) H := hP
                  have hb14 : bkP N (va_up _ (r) (RTC E ad r (pn + 1) 0)) r 1 (RTC E ad r (pn + 1)) := RT_setO hb13 _
                  have hb15 := hb12.keep (p := r) (e := RTC E ad r (pn + 1) 0) (by omega)
                  have hb16 := hb11.keep (p := r) (e := RTC E ad r (pn + 1) 0) (by omega)
                  have hfr := hfr.up (p := r) (e := RTC E ad r (pn + 1) 0) (by show _ ∨ _; omega)
                  exact g_vret S hr hlocks hP hS (⟨by rw [hpe]; exact hb14, by rw [hpe]; exact hb16, hfr⟩) (fun _ _ => rfl) (Nat.le_of_ble_eq_true rfl) (Nat.le_of_ble_eq_true rfl) dX6_rankPair_125
                · refine lv_aload_n hx hb dX6_rankPair_84 rfl (lv_at hl 2 rfl) ?_
                  refine g_get S hI hP uX6 rfl (fs := _) (hb3.lt 0 (by decide)) (hb3.2 0 (by decide)) 4 (by decide) q297 rfl (v := .ref (ad (r + 10))) rfl dX6_rankPair_85 ?_
                  refine lv_iload hx hb dX6_rankPair_88 (lv_at hl 0 rfl) ?_
                  refine lv_aload_n hx hb dX6_rankPair_90 rfl (lv_at hl 2 rfl) ?_
                  refine g_get S hI hP uX6 rfl (fs := _) (hb3.lt 0 (by decide)) (hb3.2 0 (by decide)) 4 (by decide) q297 rfl (v := .ref (ad (r + 10))) rfl dX6_rankPair_91 ?_
                  refine lv_iload hx hb dX6_rankPair_94 (lv_at hl 0 rfl) ?_
                  refine g_iconst S 1 dX6_rankPair_96 (by decide +kernel) ?_
                  refine g_isub S (by omega) dX6_rankPair_97 ?_
                  refine g_iald S hI hP (f := fun j => nI (f1 j)) (hb4.lt 0 (by decide)) (hb4.2 0 (by decide)) (p1) (by omega) (by decide) dX6_rankPair_98 ?_
                  refine g_iastN S hI hP hS (f := f1) (x := f1 p1) (hb4.lt 0 (by decide)) (hb4.2 0 (by decide)) (p1 + 1) (by omega) (by decide) dX6_rankPair_99 (fun H locs hP hS => ?_)
                  have hP : gP E ad N (va_up _ (r + 10) (PRC E ad (r + 10) (va_up f1 (p1 + 1) (f1 p1)) 0)) H := hP
                  have hb17 : bkP N (va_up _ (r + 10) (PRC E ad (r + 10) (va_up f1 (p1 + 1) (f1 p1)) 0)) (r + 10) 1 (PRC E ad (r + 10) (va_up f1 (p1 + 1) (f1 p1))) := PR_setA0 hb4 _
                  have hb18 := hb2.keep (p := r + 10) (e := PRC E ad (r + 10) (va_up f1 (p1 + 1) (f1 p1)) 0) (by omega)
                  have hb19 := hb3.keep (p := r + 10) (e := PRC E ad (r + 10) (va_up f1 (p1 + 1) (f1 p1)) 0) (by omega)
                  have hfr := hfr.up (p := r + 10) (e := PRC E ad (r + 10) (va_up f1 (p1 + 1) (f1 p1)) 0) (by show _ ∨ _; omega)
                  refine lv_iinc (v := nI (p1 + 1 - 1)) (lv' := [(6, .int (nI (p1 + 1 - 1))), (5, .int (nI (pv))), (0, .ref (ad (r))), (1, .ref (ad (b))), (2, .int (nI (c))), (3, .int (nI (d))), (4, .int (nI (hn_k)))]) hx hb dX6_rankPair_100 hl (k := 0) rfl (g_dec1 (by omega)) (by decide) rfl (fun ls hl => ?_)
                  refine lv_goto (tgt := 65) hx hb dX6_rankPair_103 (by decide) ?_
                  have hl : lv_has ls 7 [(6, .int (nI (p1))), (5, .int (nI (pv))), (0, .ref (ad (r))), (1, .ref (ad (b))), (2, .int (nI (c))), (3, .int (nI (d))), (4, .int (nI (hn_k)))] := hl
                  exact ih_loop1 (p1) (va_up f1 (p1 + 1) (f1 p1)) (by omega) (by omega) (fun j hj hne => by by_cases q : j = p1 + 1; rw [q, va_up_self]; exact hfp; rw [va_up_ne _ _ q]; exact hf1 j hj q) (by rw [← he]; simp only [insP]; rw [if_pos hv]) _ _ _ hP hS hb18 hb19 hb17 hfr ls (lv_sub hl [0, 1, 2, 3, 4, 5, 6] rfl)
          exact loop1 ((pn) + 1) (pn) (pq) (Nat.lt_succ_self _) (Nat.le_refl _) (fun j hj hne => hok.2 j (show j < pn by omega)) (rfl) _ _ _ hP hS hb_s hb_g hb_p hfr ls (lv_sub hl [0, 1, 3, 4, 5, 6, 2] rfl)
        · have hpe : prP ht wr c d (pq, pn) = (pq, pn) := by simp only [prP, hn]; rw [if_neg hh1, if_neg hh2, if_pos h60]
          exact g_vret S hr hlocks hP hS (⟨by rw [hpe]; exact hb_g, by rw [hpe]; exact hb_p, hfr⟩) (fun _ _ => rfl) (Nat.le_of_ble_eq_true rfl) (Nat.le_of_ble_eq_true rfl) dX6_rankPair_39
set_option maxHeartbeats 4000000 in
set_option maxRecDepth 100000 in
/-- the pairs by their differences -/
theorem mX6_rankPairs (l : Launch) {E : gE} {ad : Nat → Nat} {N : Nat} {w : Nat → va_E} (b : Nat) (ht dr pg wt wr mo : Nat → Nat) (mc ni po dn : Nat) (r : Nat) (pn : Nat) (pq : Nat → Nat) (hb_s : bkP N w b 7 (SHC E ad b ht dr pg wt wr mo mc ni po dn)) (hb_g : bkP N w r 1 (RTC E ad r pn)) (hb_p : bkP N w (r + 10) 1 (PRC E ad (r + 10) pq)) (hbr : b + 7 ≤ r) (hwr : ∀ k, k < 36 → wr k ≤ 3) (hht : ∀ k, k < 36 → ht k ≤ 99) : gMv l yX6_rankPairs (lw_ws yX6_rankPairs cX6_rankPairs 3 none) ({ frames := 3, cells := 0, slots := 0, locals := 70 } : Room) E ad N w [.ref (ad (r)), .ref (ad (b))] (fun w' => bkP N w' r 1 (RTC E ad r (prN ht wr pq 36).2) ∧ bkP N w' (r + 10) 1 (PRC E ad (r + 10) (prN ht wr pq 36).1) ∧ gFr (fun q => q = r ∨ q = r + 10) w w') 0 0 := by
  refine Met.ofW (cc := cX6_rankPairs) (maxL := 3) (ret := none) (by decide) rfl ?_
  intro p e s m args below meth cd s₁ B hml hv
  obtain ⟨rfl, hI, hP⟩ := hv
  obtain ⟨S, hr, hlocks⟩ := gPre (ws := []) B hml (C := RX6) rfl
  have hx := S.1
  have hb := S.2.1
  have hS : va_S (gA E) s.heap s.heap [] := va_S.rf
  have hfr : gFr (fun q => q = r ∨ q = r + 10) w w := gFr.rf
  have hl := lv_entry ([.ref (ad (r)), .ref (ad (b))]) (n := 3) (Nat.le_of_ble_eq_true rfl)
  rw [lg_entry_eq]
  generalize (lg_sl ([.ref (ad (r)), .ref (ad (b))]) ++ List.replicate (3 - (lg_sl ([.ref (ad (r)), .ref (ad (b))])).length) Slot.unset).toArray = ls at hl ⊢
  have hl : lv_has ls 3 [(0, .ref (ad (r))), (1, .ref (ad (b)))] := hl
  refine lv_aload_n hx hb dX6_rankPairs_0 rfl (lv_at hl 0 rfl) ?_
  refine g_iconst S 0 dX6_rankPairs_1 (by decide +kernel) ?_
  refine g_put S hI hP hS uX6 rfl tyX6 tyX6_ok nmX6 (fs := _) (hb_g.lt 0 (by decide)) (hb_g.2 0 (by decide)) 5 (by decide) q298 rfl rfl (v := .int (nI (0))) rfl rfl (Nat.le_of_ble_eq_true rfl) dX6_rankPairs_2 (fun H locs hP hS => ?_)
  have hP : gP E ad N (va_up _ (r) (RTC E ad r 0 0)) H := hP
  have hb1 : bkP N (va_up _ (r) (RTC E ad r 0 0)) r 1 (RTC E ad r 0) := RT_setO hb_g _
  have hb2 := hb_s.keep (p := r) (e := RTC E ad r 0 0) (by omega)
  have hb3 := hb_p.keep (p := r) (e := RTC E ad r 0 0) (by omega)
  have hfr := hfr.up (p := r) (e := RTC E ad r 0 0) (by show _ ∨ _; omega)
  refine g_iconst S 0 dX6_rankPairs_5 (by decide +kernel) ?_
  refine lv_istore_n (lv' := [(2, .int (nI (0))), (0, .ref (ad (r))), (1, .ref (ad (b)))]) hx hb dX6_rankPairs_6 rfl hl (by decide) rfl (fun ls hl => ?_)
  have loop4 : ∀ (n : Nat) (i : Nat), 36 - i < n → (i ≤ 36) → ∀ (w1 : Nat → va_E) (H : Heap) (locs : List Loc), gP E ad N w1 H → va_S (gA E) s.heap H locs → bkP N w1 b 7 (SHC E ad b ht dr pg wt wr mo mc ni po dn) → bkP N w1 r 1 (RTC E ad r ((prN ht wr pq i).2)) → bkP N w1 (r + 10) 1 (PRC E ad (r + 10) ((prN ht wr pq i).1)) → gFr (fun q => q = r ∨ q = r + 10) w w1 → ∀ (ls : Array Slot), lv_has ls 3 [(2, .int (nI (i))), (0, .ref (ad (r))), (1, .ref (ad (b)))] → W p l e (headSpec (lw_ws yX6_rankPairs cX6_rankPairs 3 none) ({ frames := 3, cells := 0, slots := 0, locals := 70 } : Room)).room s m ([.ref (ad (r)), .ref (ad (b))] : List Value).toArray below meth cd H locs 0 0 (MQ below (va_Qv (fun w' => bkP N w' r 1 (RTC E ad r (prN ht wr pq 36).2) ∧ bkP N w' (r + 10) 1 (PRC E ad (r + 10) (prN ht wr pq 36).1) ∧ gFr (fun q => q = r ∨ q = r + 10) w w') (gB E ad N) (gA E)) ([.ref (ad (r)), .ref (ad (b))] : List Value).toArray s 0 0 (gA E)) (F0 m 7 ls []) := by
    intro n
    induction n with
    | zero => intro i hmeas; omega
    | succ n ih_loop4 =>
      intro i hmeas hi w1 H locs hP hS hb5 hb6 hb7 hfr ls hl
      have hoi := prN_ok (wr := wr) (pq := pq) hht hi
      refine lv_iload_n hx hb dX6_rankPairs_7 rfl (lv_at hl 0 rfl) ?_
      refine g_bipush S 36 dX6_rankPairs_8 (by decide +kernel) ?_
      refine g_ge S (a := i) (b := 36) (by omega) (by omega) (tgt := 33) dX6_rankPairs_10 (by decide) (fun h => ?_) (fun h => ?_)
      · have ei : i = 36 := by omega
        rw [ei] at hb6 hb7
        exact g_vret S hr hlocks hP hS (⟨hb6, hb7, hfr⟩) (fun _ _ => rfl) (Nat.le_of_ble_eq_true rfl) (Nat.le_of_ble_eq_true rfl) dX6_rankPairs_33
      · have ho1 := prP_ok (wr := wr) (d := 1) hht h (by decide) hoi
        refine lv_aload_n hx hb dX6_rankPairs_13 rfl (lv_at hl 1 rfl) ?_
        refine lv_aload_n hx hb dX6_rankPairs_14 rfl (lv_at hl 2 rfl) ?_
        refine lv_iload_n hx hb dX6_rankPairs_15 rfl (lv_at hl 0 rfl) ?_
        refine g_iconst S 1 dX6_rankPairs_16 (by decide +kernel) ?_
        refine g_afv (g_runV S hI hP hS (k := 3) (As := [.ref (ad (b)), .int (nI (i)), .int (nI (1))]) (rest := []) (mX6_rankPair l b ht dr pg wt wr mo mc ni po dn r (prN ht wr pq i).2 (prN ht wr pq i).1 i 1 hb5 hb6 hb7 hbr hwr hht h (by decide) hoi) q1132 q1134 q34 q91 q1135 rfl rfl (by decide +kernel) ⟨Nat.le_of_ble_eq_true rfl, Nat.le_of_ble_eq_true rfl⟩ rfl (hb6.lt 0 (by decide)) (hb6.2 0 (by decide)) rfl hl.1 rfl (Nat.le_of_ble_eq_true rfl) ⟨(Nat.le_of_ble_eq_true rfl), (Nat.le_of_ble_eq_true rfl)⟩ dX6_rankPairs_17) hS (fun w1 H locs hq hP hS => ?_)
        obtain ⟨hb8, hb9, hf10⟩ := hq
        have hb11 := hb5.fr hf10 (fun k hk => by show ¬ _; (try simp only [gIn]); (try dsimp only); omega)
        have hfr := hfr.trans hf10 (fun q hq => by (try simp only [gIn] at hq ⊢); (try dsimp only at hq ⊢); omega)
        refine lv_aload_n hx hb dX6_rankPairs_20 rfl (lv_at hl 1 rfl) ?_
        refine lv_aload_n hx hb dX6_rankPairs_21 rfl (lv_at hl 2 rfl) ?_
        refine lv_iload_n hx hb dX6_rankPairs_22 rfl (lv_at hl 0 rfl) ?_
        refine g_iconst S 2 dX6_rankPairs_23 (by decide +kernel) ?_
        refine g_afv (g_runV S hI hP hS (k := 3) (As := [.ref (ad (b)), .int (nI (i)), .int (nI (2))]) (rest := []) (mX6_rankPair l b ht dr pg wt wr mo mc ni po dn r (prP ht wr i 1 (prN ht wr pq i)).2 (prP ht wr i 1 (prN ht wr pq i)).1 i 2 hb11 hb8 hb9 hbr hwr hht h (by decide) ho1) q1132 q1134 q34 q91 q1135 rfl rfl (by decide +kernel) ⟨Nat.le_of_ble_eq_true rfl, Nat.le_of_ble_eq_true rfl⟩ rfl (hb8.lt 0 (by decide)) (hb8.2 0 (by decide)) rfl hl.1 rfl (Nat.le_of_ble_eq_true rfl) ⟨(Nat.le_of_ble_eq_true rfl), (Nat.le_of_ble_eq_true rfl)⟩ dX6_rankPairs_24) hS (fun w1 H locs hq hP hS => ?_)
        obtain ⟨hb12, hb13, hf14⟩ := hq
        have hb15 := hb11.fr hf14 (fun k hk => by show ¬ _; (try simp only [gIn]); (try dsimp only); omega)
        have hfr := hfr.trans hf14 (fun q hq => by (try simp only [gIn] at hq ⊢); (try dsimp only at hq ⊢); omega)
        refine lv_iinc (v := nI (i + 1)) (lv' := [(2, .int (nI (i + 1))), (0, .ref (ad (r))), (1, .ref (ad (b)))]) hx hb dX6_rankPairs_27 hl (k := 0) rfl (g_inc _ 1 (by decide +kernel)) (by decide) rfl (fun ls hl => ?_)
        refine lv_goto (tgt := 7) hx hb dX6_rankPairs_30 (by decide) ?_
        exact ih_loop4 (i + 1) (by omega) (by omega) _ _ _ hP hS hb15 hb12 hb13 hfr ls (lv_sub hl [0, 1, 2] rfl)
  exact loop4 (36 - (0) + 1) (0) (Nat.lt_succ_self _) (by omega) _ _ _ hP hS hb2 hb1 hb3 hfr ls (lv_sub hl [0, 1, 2] rfl)
set_option maxHeartbeats 4000000 in
set_option maxRecDepth 100000 in
/-- the steepest step by unions -/
theorem mX6_stepByUnions (l : Launch) {E : gE} {ad : Nat → Nat} {N : Nat} {w : Nat → va_E} (b : Nat) (ht dr pg wt wr mo : Nat → Nat) (mc ni po dn : Nat) (r : Nat) (pn : Nat) (pa pq : Nat → Nat) (a b1 : Nat) (hb_s : bkP N w b 7 (SHC E ad b ht dr pg wt wr mo mc ni po dn)) (hb_g : bkP N w r 1 (RTC E ad r pn)) (hb_u : bkP N w (r + 7) 2 (UNC E ad (r + 7) pa)) (hb_p : bkP N w (r + 10) 1 (PRC E ad (r + 10) pq)) (hbr : b + 7 ≤ r) (hwr : ∀ k, k < 36 → wr k ≤ 3) (hht : ∀ k, k < 36 → ht k ≤ 99) (ha : a < 36) (hbx : b1 < 36) : gMi l yX6_stepByUnions (lw_ws yX6_stepByUnions cX6_stepByUnions 7 (some .int)) ({ frames := 4, cells := 0, slots := 0, locals := 92 } : Room) E ad N w [.ref (ad (r)), .ref (ad (b)), .int (nI (a)), .int (nI (b1))] (fun z w' => z = (if 3 ≤ wr a then -1 else if 3 ≤ wr b1 then -1 else if a = b1 then nI 0 else (suG (prN ht wr pq 36).1 (prN ht wr pq 36).2 a b1 60 0 (fil 36 (fun j => j) pa)).2) ∧ (∃ (pn' : Nat) (pa' pq' : Nat → Nat), bkP N w' r 1 (RTC E ad r pn') ∧ bkP N w' (r + 7) 2 (UNC E ad (r + 7) pa') ∧ bkP N w' (r + 10) 1 (PRC E ad (r + 10) pq')) ∧ gFr (fun q => (r + 7 ≤ q ∧ q < r + 9) ∨ q = r ∨ q = r + 10) w w') 0 0 := by
  refine Met.ofW (cc := cX6_stepByUnions) (maxL := 7) (ret := (some .int)) (by decide) rfl ?_
  intro p e s m args below meth cd s₁ B hml hv
  obtain ⟨rfl, hI, hP⟩ := hv
  obtain ⟨S, hr, hlocks⟩ := gPre (ws := []) B hml (C := RX6) rfl
  have hx := S.1
  have hb := S.2.1
  have hS : va_S (gA E) s.heap s.heap [] := va_S.rf
  have hfr : gFr (fun q => (r + 7 ≤ q ∧ q < r + 9) ∨ q = r ∨ q = r + 10) w w := gFr.rf
  have hl := lv_entry ([.ref (ad (r)), .ref (ad (b)), .int (nI (a)), .int (nI (b1))]) (n := 7) (Nat.le_of_ble_eq_true rfl)
  rw [lg_entry_eq]
  generalize (lg_sl ([.ref (ad (r)), .ref (ad (b)), .int (nI (a)), .int (nI (b1))]) ++ List.replicate (7 - (lg_sl ([.ref (ad (r)), .ref (ad (b)), .int (nI (a)), .int (nI (b1))])).length) Slot.unset).toArray = ls at hl ⊢
  have hl : lv_has ls 7 [(0, .ref (ad (r))), (1, .ref (ad (b))), (2, .int (nI (a))), (3, .int (nI (b1)))] := hl
  refine lv_aload_n hx hb dX6_stepByUnions_0 rfl (lv_at hl 1 rfl) ?_
  refine lv_iload_n hx hb dX6_stepByUnions_1 rfl (lv_at hl 2 rfl) ?_
  refine g_roi (g_runV S hI hP hS (k := 1) (As := [.int (nI (a))]) (rest := []) (mX7_hasHole l b ht dr pg wt wr mo mc ni po dn a hb_s ha (hwr a ha)) q1073 q506 q507 q83 q508 rfl rfl (by decide +kernel) ⟨Nat.le_of_ble_eq_true rfl, Nat.le_of_ble_eq_true rfl⟩ rfl (hb_s.lt 0 (by decide)) (hb_s.2 0 (by decide)) rfl hl.1 rfl (Nat.le_of_ble_eq_true rfl) ⟨(Nat.le_of_ble_eq_true rfl), (Nat.le_of_ble_eq_true rfl)⟩ dX6_stepByUnions_2) hS (fun H locs hP hS => ?_)
  refine g_bne S (b := decide (3 ≤ wr a)) (tgt := 16) dX6_stepByUnions_5 (by decide) (fun hh1 => ?_) (fun hh1 => ?_)
  · have hh1 := of_decide_eq_true hh1
    refine lv_iconst (v := -1) hx hb dX6_stepByUnions_16 (by decide +kernel) ?_
    exact g_iret S hr hlocks hP hS (⟨by rw [if_pos hh1], ⟨_, _, _, hb_g, hb_u, hb_p⟩, hfr⟩) (fun _ _ => rfl) (Nat.le_of_ble_eq_true rfl) (Nat.le_of_ble_eq_true rfl) dX6_stepByUnions_17
  · have hh1 := of_decide_eq_false hh1
    refine lv_aload_n hx hb dX6_stepByUnions_8 rfl (lv_at hl 1 rfl) ?_
    refine lv_iload_n hx hb dX6_stepByUnions_9 rfl (lv_at hl 3 rfl) ?_
    refine g_roi (g_runV S hI hP hS (k := 1) (As := [.int (nI (b1))]) (rest := []) (mX7_hasHole l b ht dr pg wt wr mo mc ni po dn b1 hb_s hbx (hwr b1 hbx)) q1073 q506 q507 q83 q508 rfl rfl (by decide +kernel) ⟨Nat.le_of_ble_eq_true rfl, Nat.le_of_ble_eq_true rfl⟩ rfl (hb_s.lt 0 (by decide)) (hb_s.2 0 (by decide)) rfl hl.1 rfl (Nat.le_of_ble_eq_true rfl) ⟨(Nat.le_of_ble_eq_true rfl), (Nat.le_of_ble_eq_true rfl)⟩ dX6_stepByUnions_10) hS (fun H locs hP hS => ?_)
    refine g_beq S (b := decide (3 ≤ wr b1)) (tgt := 18) dX6_stepByUnions_13 (by decide) (fun hh2 => ?_) (fun hh2 => ?_)
    · have hh2 := of_decide_eq_false hh2
      refine lv_iload_n hx hb dX6_stepByUnions_18 rfl (lv_at hl 2 rfl) ?_
      refine lv_iload_n hx hb dX6_stepByUnions_19 rfl (lv_at hl 3 rfl) ?_
      refine g_ne S (a := a) (b := b1) (by omega) (by omega) (tgt := 25) dX6_stepByUnions_20 (by decide) (fun hab => ?_) (fun hab => ?_)
      · refine lv_aload_n hx hb dX6_stepByUnions_25 rfl (lv_at hl 0 rfl) ?_
        refine lv_aload_n hx hb dX6_stepByUnions_26 rfl (lv_at hl 1 rfl) ?_
        refine g_afv (g_runV S hI hP hS (k := 1) (As := [.ref (ad (b))]) (rest := []) (mX6_rankPairs l b ht dr pg wt wr mo mc ni po dn r pn pq hb_s hb_g hb_p hbr hwr hht) q1128 q1130 q33 q91 q1131 rfl rfl (by decide +kernel) ⟨Nat.le_of_ble_eq_true rfl, Nat.le_of_ble_eq_true rfl⟩ rfl (hb_g.lt 0 (by decide)) (hb_g.2 0 (by decide)) rfl hl.1 rfl (Nat.le_of_ble_eq_true rfl) ⟨(Nat.le_of_ble_eq_true rfl), (Nat.le_of_ble_eq_true rfl)⟩ dX6_stepByUnions_27) hS (fun w1 H locs hq hP hS => ?_)
        obtain ⟨hb1, hb2, hf3⟩ := hq
        have hb4 := hb_s.fr hf3 (fun k hk => by show ¬ _; (try simp only [gIn]); (try dsimp only); omega)
        have hb5 := hb_u.fr hf3 (fun k hk => by show ¬ _; (try simp only [gIn]); (try dsimp only); omega)
        have hfr := hfr.trans hf3 (fun q hq => by (try simp only [gIn] at hq ⊢); (try dsimp only at hq ⊢); omega)
        refine lv_aload_n hx hb dX6_stepByUnions_30 rfl (lv_at hl 0 rfl) ?_
        refine g_get S hI hP uX6 rfl (fs := _) (hb1.lt 0 (by decide)) (hb1.2 0 (by decide)) 2 (by decide) q295 rfl (v := .ref (ad (r + 7))) rfl dX6_stepByUnions_31 ?_
        refine g_afv (g_runV S hI hP hS (k := 0) (As := []) (rest := []) (mX10_separate l (r + 7) pa hb5) q1136 q967 q968 q88 q969 rfl rfl (by decide +kernel) ⟨Nat.le_of_ble_eq_true rfl, Nat.le_of_ble_eq_true rfl⟩ rfl (hb5.lt 0 (by decide)) (hb5.2 0 (by decide)) rfl hl.1 rfl (Nat.le_of_ble_eq_true rfl) ⟨(Nat.le_of_ble_eq_true rfl), (Nat.le_of_ble_eq_true rfl)⟩ dX6_stepByUnions_34) hS (fun w1 H locs hq hP hS => ?_)
        obtain ⟨hb6, hf7⟩ := hq
        have hb8 := hb4.fr hf7 (fun k hk => by show ¬ _; (try simp only [gIn]); (try dsimp only); omega)
        have hb9 := hb1.fr hf7 (fun k hk => by show ¬ _; (try simp only [gIn]); (try dsimp only); omega)
        have hb10 := hb2.fr hf7 (fun k hk => by show ¬ _; (try simp only [gIn]); (try dsimp only); omega)
        have hfr := hfr.trans hf7 (fun q hq => by (try simp only [gIn] at hq ⊢); (try dsimp only at hq ⊢); omega)
        have hpo := prN_ok (wr := wr) (pq := pq) hht (Nat.le_refl 36)
        obtain ⟨pz, hpz⟩ : ∃ pz, pz = (prN ht wr pq 36) := ⟨_, rfl⟩
        rw [← hpz] at hpo
        rw [← hpz] at hb9 hb10
        refine g_iconst S 0 dX6_stepByUnions_37 (by decide +kernel) ?_
        refine lv_istore (lv' := [(4, .int (nI (0))), (0, .ref (ad (r))), (1, .ref (ad (b))), (2, .int (nI (a))), (3, .int (nI (b1)))]) hx hb dX6_stepByUnions_38 hl (by decide) rfl (fun ls hl => ?_)
        obtain ⟨zf, hzf⟩ : ∃ zf, zf = suG pz.1 pz.2 a b1 60 0 (fil 36 (fun j => j) pa) := ⟨_, rfl⟩
        have hpn6 := hpo.1
        have loop11 : ∀ (n : Nat) (q : Nat) (pa1 : Nat → Nat), 60 - q < n → (q ≤ 60) → (∀ k, k < 36 → pa1 k < 36) → (suG pz.1 pz.2 a b1 (60 - q) q pa1 = zf) → ∀ (w1 : Nat → va_E) (H : Heap) (locs : List Loc), gP E ad N w1 H → va_S (gA E) s.heap H locs → bkP N w1 b 7 (SHC E ad b ht dr pg wt wr mo mc ni po dn) → bkP N w1 r 1 (RTC E ad r pz.2) → bkP N w1 (r + 7) 2 (UNC E ad (r + 7) pa1) → bkP N w1 (r + 10) 1 (PRC E ad (r + 10) pz.1) → gFr (fun q => (r + 7 ≤ q ∧ q < r + 9) ∨ q = r ∨ q = r + 10) w w1 → ∀ (ls : Array Slot), lv_has ls 7 [(4, .int (nI (q))), (0, .ref (ad (r))), (1, .ref (ad (b))), (2, .int (nI (a))), (3, .int (nI (b1)))] → W p l e (headSpec (lw_ws yX6_stepByUnions cX6_stepByUnions 7 (some .int)) ({ frames := 4, cells := 0, slots := 0, locals := 92 } : Room)).room s m ([.ref (ad (r)), .ref (ad (b)), .int (nI (a)), .int (nI (b1))] : List Value).toArray below meth cd H locs 0 0 (MQ below (va_Qi (fun z w' => z = (if 3 ≤ wr a then -1 else if 3 ≤ wr b1 then -1 else if a = b1 then nI 0 else (suG (prN ht wr pq 36).1 (prN ht wr pq 36).2 a b1 60 0 (fil 36 (fun j => j) pa)).2) ∧ (∃ (pn' : Nat) (pa' pq' : Nat → Nat), bkP N w' r 1 (RTC E ad r pn') ∧ bkP N w' (r + 7) 2 (UNC E ad (r + 7) pa') ∧ bkP N w' (r + 10) 1 (PRC E ad (r + 10) pq')) ∧ gFr (fun q => (r + 7 ≤ q ∧ q < r + 9) ∨ q = r ∨ q = r + 10) w w') (gB E ad N) (gA E)) ([.ref (ad (r)), .ref (ad (b)), .int (nI (a)), .int (nI (b1))] : List Value).toArray s 0 0 (gA E)) (F0 m 40 ls []) := by
          intro n
          induction n with
          | zero => intro q pa1 hmeas; omega
          | succ n ih_loop11 =>
            intro q pa1 hmeas hq hpa he w1 H locs hP hS hb12 hb13 hb14 hb15 hfr ls hl
            refine lv_iload hx hb dX6_stepByUnions_40 (lv_at hl 0 rfl) ?_
            refine lv_aload_n hx hb dX6_stepByUnions_42 rfl (lv_at hl 1 rfl) ?_
            refine g_get S hI hP uX6 rfl (fs := _) (hb13.lt 0 (by decide)) (hb13.2 0 (by decide)) 5 (by decide) q298 rfl (v := .int (nI (pz.2))) rfl dX6_stepByUnions_43 ?_
            refine g_ge S (a := q) (b := pz.2) (by omega) (by omega) (tgt := 135) dX6_stepByUnions_46 (by decide) (fun hqn => ?_) (fun hqn => ?_)
            · have hend : zf.2 = -1 := by rw [← he]; cases hk : 60 - q with | zero => rfl | succ n => rw [suG_s, if_neg (by omega)]
              refine lv_iconst (v := -1) hx hb dX6_stepByUnions_135 (by decide +kernel) ?_
              exact g_iret S hr hlocks hP hS (⟨by rw [if_neg hh1, if_neg hh2, if_neg hab, ← hpz, ← hzf, hend], ⟨_, _, _, hb13, hb14, hb15⟩, hfr⟩) (fun _ _ => rfl) (Nat.le_of_ble_eq_true rfl) (Nat.le_of_ble_eq_true rfl) dX6_stepByUnions_136
            · have hpq := hpo.2 q hqn
              have ei : 60 - q = (60 - (q + 1)) + 1 := by omega
              rw [ei, suG_s, if_pos hqn] at he
              refine lv_aload_n hx hb dX6_stepByUnions_49 rfl (lv_at hl 1 rfl) ?_
              refine g_get S hI hP uX6 rfl (fs := _) (hb13.lt 0 (by decide)) (hb13.2 0 (by decide)) 4 (by decide) q297 rfl (v := .ref (ad (r + 10))) rfl dX6_stepByUnions_50 ?_
              refine lv_iload hx hb dX6_stepByUnions_53 (lv_at hl 0 rfl) ?_
              refine g_iald S hI hP (f := fun j => nI (pz.1 j)) (hb15.lt 0 (by decide)) (hb15.2 0 (by decide)) (q) (by omega) (by decide) dX6_stepByUnions_55 ?_
              refine g_sipush S 144 dX6_stepByUnions_56 (by decide +kernel) ?_
              refine g_irem S (by omega) (by omega) (by omega) dX6_stepByUnions_59 ?_
              refine g_iconst S 4 dX6_stepByUnions_60 (by decide +kernel) ?_
              refine g_idiv S (by omega) (by omega) (by omega) dX6_stepByUnions_61 ?_
              refine lv_istore (lv' := [(5, .int (nI (((pz.1 q) % 144) / 4))), (4, .int (nI (q))), (0, .ref (ad (r))), (1, .ref (ad (b))), (2, .int (nI (a))), (3, .int (nI (b1)))]) hx hb dX6_stepByUnions_62 hl (by decide) rfl (fun ls hl => ?_)
              refine lv_iload hx hb dX6_stepByUnions_64 (lv_at hl 0 rfl) ?_
              refine lv_aload_n hx hb dX6_stepByUnions_66 rfl (lv_at hl 2 rfl) ?_
              refine g_get S hI hP uX6 rfl (fs := _) (hb13.lt 0 (by decide)) (hb13.2 0 (by decide)) 4 (by decide) q297 rfl (v := .ref (ad (r + 10))) rfl dX6_stepByUnions_67 ?_
              refine lv_iload hx hb dX6_stepByUnions_70 (lv_at hl 1 rfl) ?_
              refine g_iald S hI hP (f := fun j => nI (pz.1 j)) (hb15.lt 0 (by decide)) (hb15.2 0 (by decide)) (q) (by omega) (by decide) dX6_stepByUnions_72 ?_
              refine g_iconst S 4 dX6_stepByUnions_73 (by decide +kernel) ?_
              refine g_irem S (by omega) (by omega) (by omega) dX6_stepByUnions_74 ?_
              have hc5 : pz.1 q % 144 / 4 < 36 := by omega
              have hd5 : pz.1 q % 4 < 4 := by omega
              refine g_roi (g_runSN S hI hP hS (k := 2) (As := [.int (nI (((pz.1 q) % 144) / 4)), .int (nI ((pz.1 q) % 4))]) (rest := []) (mX12_neighbour l (pz.1 q % 144 / 4) (pz.1 q % 4) hc5 hd5) q1082 q675 q82 q676 rfl rfl (by decide +kernel) ⟨Nat.le_of_ble_eq_true rfl, Nat.le_of_ble_eq_true rfl⟩ rfl hl.1 rfl (Nat.le_of_ble_eq_true rfl) ⟨(Nat.le_of_ble_eq_true rfl), (Nat.le_of_ble_eq_true rfl)⟩ dX6_stepByUnions_75) hS (fun H locs hP hS => ?_)
              refine lv_istore (lv' := [(6, .int (oI (nb (pz.1 q % 144 / 4) (pz.1 q % 4)))), (5, .int (nI (((pz.1 q) % 144) / 4))), (4, .int (nI (q))), (0, .ref (ad (r))), (1, .ref (ad (b))), (2, .int (nI (a))), (3, .int (nI (b1)))]) hx hb dX6_stepByUnions_78 hl (by decide) rfl (fun ls hl => ?_)
              refine lv_iload hx hb dX6_stepByUnions_80 (lv_at hl 0 rfl) ?_
              refine lv_iconst (v := -1) hx hb dX6_stepByUnions_82 (by decide +kernel) ?_
              refine g_oeq S (o := nb (pz.1 q % 144 / 4) (pz.1 q % 4)) (fun k hk => Nat.lt_trans (nb_lt hc5 hk) (by decide)) (tgt := 98) dX6_stepByUnions_83 (by decide) (fun hn => ?_) (fun hn_k hn => ?_)
              · have hsp : suP pa1 (pz.1 q) = pa1 := by simp only [suP, hn]
                rw [← hsp] at hb14
                have hsl := suP_lt (v := pz.1 q) hpa
                have hra := rtN_lt hsl (n := 36) ha
                have hrb := rtN_lt hsl (n := 36) hbx
                refine lv_aload_n hx hb dX6_stepByUnions_98 rfl (lv_at hl 3 rfl) ?_
                refine g_get S hI hP uX6 rfl (fs := _) (hb13.lt 0 (by decide)) (hb13.2 0 (by decide)) 2 (by decide) q295 rfl (v := .ref (ad (r + 7))) rfl dX6_stepByUnions_99 ?_
                refine lv_iload_n hx hb dX6_stepByUnions_102 rfl (lv_at hl 5 rfl) ?_
                refine g_roi (g_runV S hI hP hS (k := 1) (As := [.int (nI (a))]) (rest := []) (mX10_rootOf l (r + 7) (suP pa1 (pz.1 q)) a hb14 ha hsl) q1138 q979 q980 q88 q981 rfl rfl (by decide +kernel) ⟨Nat.le_of_ble_eq_true rfl, Nat.le_of_ble_eq_true rfl⟩ rfl (hb14.lt 0 (by decide)) (hb14.2 0 (by decide)) rfl hl.1 rfl (Nat.le_of_ble_eq_true rfl) ⟨(Nat.le_of_ble_eq_true rfl), (Nat.le_of_ble_eq_true rfl)⟩ dX6_stepByUnions_103) hS (fun H locs hP hS => ?_)
                refine lv_aload_n hx hb dX6_stepByUnions_106 rfl (lv_at hl 3 rfl) ?_
                refine g_get S hI hP uX6 rfl (fs := _) (hb13.lt 0 (by decide)) (hb13.2 0 (by decide)) 2 (by decide) q295 rfl (v := .ref (ad (r + 7))) rfl dX6_stepByUnions_107 ?_
                refine lv_iload_n hx hb dX6_stepByUnions_110 rfl (lv_at hl 6 rfl) ?_
                refine g_roi (g_runV S hI hP hS (k := 1) (As := [.int (nI (b1))]) (rest := [.int (nI (rtN (suP pa1 (pz.1 q)) 36 a))]) (mX10_rootOf l (r + 7) (suP pa1 (pz.1 q)) b1 hb14 hbx hsl) q1138 q979 q980 q88 q981 rfl rfl (by decide +kernel) ⟨Nat.le_of_ble_eq_true rfl, Nat.le_of_ble_eq_true rfl⟩ rfl (hb14.lt 0 (by decide)) (hb14.2 0 (by decide)) rfl hl.1 rfl (Nat.le_of_ble_eq_true rfl) ⟨(Nat.le_of_ble_eq_true rfl), (Nat.le_of_ble_eq_true rfl)⟩ dX6_stepByUnions_111) hS (fun H locs hP hS => ?_)
                refine g_ne S (a := rtN (suP pa1 (pz.1 q)) 36 a) (b := rtN (suP pa1 (pz.1 q)) 36 b1) (by omega) (by omega) (tgt := 129) dX6_stepByUnions_114 (by decide) (fun hrr => ?_) (fun hrr => ?_)
                · rw [if_neg hrr] at he
                  refine lv_iinc (v := nI (q + 1)) (lv' := [(4, .int (nI (q + 1))), (6, .int (oI (nb (pz.1 q % 144 / 4) (pz.1 q % 4)))), (5, .int (nI (((pz.1 q) % 144) / 4))), (0, .ref (ad (r))), (1, .ref (ad (b))), (2, .int (nI (a))), (3, .int (nI (b1)))]) hx hb dX6_stepByUnions_129 hl (k := 2) rfl (g_inc _ 1 (by decide +kernel)) (by decide) rfl (fun ls hl => ?_)
                  refine lv_goto (tgt := 40) hx hb dX6_stepByUnions_132 (by decide) ?_
                  exact ih_loop11 (q + 1) ((suP pa1 (pz.1 q))) (by omega) (by omega) (hsl) (he) _ _ _ hP hS hb12 hb13 hb14 hb15 hfr ls (lv_sub hl [0, 3, 4, 5, 6] rfl)
                · rw [if_pos hrr] at he
                  refine lv_aload_n hx hb dX6_stepByUnions_117 rfl (lv_at hl 3 rfl) ?_
                  refine g_get S hI hP uX6 rfl (fs := _) (hb13.lt 0 (by decide)) (hb13.2 0 (by decide)) 4 (by decide) q297 rfl (v := .ref (ad (r + 10))) rfl dX6_stepByUnions_118 ?_
                  refine lv_iload hx hb dX6_stepByUnions_121 (lv_at hl 2 rfl) ?_
                  refine g_iald S hI hP (f := fun j => nI (pz.1 j)) (hb15.lt 0 (by decide)) (hb15.2 0 (by decide)) (q) (by omega) (by decide) dX6_stepByUnions_123 ?_
                  refine g_sipush S 144 dX6_stepByUnions_124 (by decide +kernel) ?_
                  refine g_idiv S (by omega) (by omega) (by omega) dX6_stepByUnions_127 ?_
                  exact g_iret S hr hlocks hP hS (⟨by rw [if_neg hh1, if_neg hh2, if_neg hab, ← hpz, ← hzf, ← he], ⟨_, _, _, hb13, hb14, hb15⟩, hfr⟩) (fun _ _ => rfl) (Nat.le_of_ble_eq_true rfl) (Nat.le_of_ble_eq_true rfl) dX6_stepByUnions_128
              · have hk36 := nb_lt hc5 hn
                have hl : lv_has ls 7 [(6, .int (nI (hn_k))), (5, .int (nI (((pz.1 q) % 144) / 4))), (4, .int (nI (q))), (0, .ref (ad (r))), (1, .ref (ad (b))), (2, .int (nI (a))), (3, .int (nI (b1)))] := by rw [hn] at hl; exact hl
                have hsp : suP pa1 (pz.1 q) = unU pa1 (pz.1 q % 144 / 4) hn_k := by simp only [suP, hn]
                refine lv_aload_n hx hb dX6_stepByUnions_86 rfl (lv_at hl 3 rfl) ?_
                refine g_get S hI hP uX6 rfl (fs := _) (hb13.lt 0 (by decide)) (hb13.2 0 (by decide)) 2 (by decide) q295 rfl (v := .ref (ad (r + 7))) rfl dX6_stepByUnions_87 ?_
                refine lv_iload hx hb dX6_stepByUnions_90 (lv_at hl 1 rfl) ?_
                refine lv_iload hx hb dX6_stepByUnions_92 (lv_at hl 0 rfl) ?_
                refine g_afi (g_runV S hI hP hS (k := 2) (As := [.int (nI (((pz.1 q) % 144) / 4)), .int (nI (hn_k))]) (rest := []) (mX10_unite l (r + 7) pa1 (pz.1 q % 144 / 4) hn_k hb14 hc5 hk36 hpa) q1137 q975 q976 q88 q977 rfl rfl (by decide +kernel) ⟨Nat.le_of_ble_eq_true rfl, Nat.le_of_ble_eq_true rfl⟩ rfl (hb14.lt 0 (by decide)) (hb14.2 0 (by decide)) rfl hl.1 rfl (Nat.le_of_ble_eq_true rfl) ⟨(Nat.le_of_ble_eq_true rfl), (Nat.le_of_ble_eq_true rfl)⟩ dX6_stepByUnions_94) hS (fun rz w1 H locs hq hP hS => ?_)
                obtain ⟨hr18, hb16, hf17⟩ := hq
                rw [hr18]
                have hb19 := hb12.fr hf17 (fun k hk => by show ¬ _; (try simp only [gIn]); (try dsimp only); omega)
                have hb20 := hb13.fr hf17 (fun k hk => by show ¬ _; (try simp only [gIn]); (try dsimp only); omega)
                have hb21 := hb15.fr hf17 (fun k hk => by show ¬ _; (try simp only [gIn]); (try dsimp only); omega)
                have hfr := hfr.trans hf17 (fun q hq => by (try simp only [gIn] at hq ⊢); (try dsimp only at hq ⊢); omega)
                rw [← hsp] at hb16
                refine lv_pop hx hb dX6_stepByUnions_97 rfl ?_
                have hsl := suP_lt (v := pz.1 q) hpa
                have hra := rtN_lt hsl (n := 36) ha
                have hrb := rtN_lt hsl (n := 36) hbx
                refine lv_aload_n hx hb dX6_stepByUnions_98 rfl (lv_at hl 3 rfl) ?_
                refine g_get S hI hP uX6 rfl (fs := _) (hb20.lt 0 (by decide)) (hb20.2 0 (by decide)) 2 (by decide) q295 rfl (v := .ref (ad (r + 7))) rfl dX6_stepByUnions_99 ?_
                refine lv_iload_n hx hb dX6_stepByUnions_102 rfl (lv_at hl 5 rfl) ?_
                refine g_roi (g_runV S hI hP hS (k := 1) (As := [.int (nI (a))]) (rest := []) (mX10_rootOf l (r + 7) (suP pa1 (pz.1 q)) a hb16 ha hsl) q1138 q979 q980 q88 q981 rfl rfl (by decide +kernel) ⟨Nat.le_of_ble_eq_true rfl, Nat.le_of_ble_eq_true rfl⟩ rfl (hb16.lt 0 (by decide)) (hb16.2 0 (by decide)) rfl hl.1 rfl (Nat.le_of_ble_eq_true rfl) ⟨(Nat.le_of_ble_eq_true rfl), (Nat.le_of_ble_eq_true rfl)⟩ dX6_stepByUnions_103) hS (fun H locs hP hS => ?_)
                refine lv_aload_n hx hb dX6_stepByUnions_106 rfl (lv_at hl 3 rfl) ?_
                refine g_get S hI hP uX6 rfl (fs := _) (hb20.lt 0 (by decide)) (hb20.2 0 (by decide)) 2 (by decide) q295 rfl (v := .ref (ad (r + 7))) rfl dX6_stepByUnions_107 ?_
                refine lv_iload_n hx hb dX6_stepByUnions_110 rfl (lv_at hl 6 rfl) ?_
                refine g_roi (g_runV S hI hP hS (k := 1) (As := [.int (nI (b1))]) (rest := [.int (nI (rtN (suP pa1 (pz.1 q)) 36 a))]) (mX10_rootOf l (r + 7) (suP pa1 (pz.1 q)) b1 hb16 hbx hsl) q1138 q979 q980 q88 q981 rfl rfl (by decide +kernel) ⟨Nat.le_of_ble_eq_true rfl, Nat.le_of_ble_eq_true rfl⟩ rfl (hb16.lt 0 (by decide)) (hb16.2 0 (by decide)) rfl hl.1 rfl (Nat.le_of_ble_eq_true rfl) ⟨(Nat.le_of_ble_eq_true rfl), (Nat.le_of_ble_eq_true rfl)⟩ dX6_stepByUnions_111) hS (fun H locs hP hS => ?_)
                refine g_ne S (a := rtN (suP pa1 (pz.1 q)) 36 a) (b := rtN (suP pa1 (pz.1 q)) 36 b1) (by omega) (by omega) (tgt := 129) dX6_stepByUnions_114 (by decide) (fun hrr => ?_) (fun hrr => ?_)
                · rw [if_neg hrr] at he
                  refine lv_iinc (v := nI (q + 1)) (lv' := [(4, .int (nI (q + 1))), (6, .int (nI (hn_k))), (5, .int (nI (((pz.1 q) % 144) / 4))), (0, .ref (ad (r))), (1, .ref (ad (b))), (2, .int (nI (a))), (3, .int (nI (b1)))]) hx hb dX6_stepByUnions_129 hl (k := 2) rfl (g_inc _ 1 (by decide +kernel)) (by decide) rfl (fun ls hl => ?_)
                  refine lv_goto (tgt := 40) hx hb dX6_stepByUnions_132 (by decide) ?_
                  exact ih_loop11 (q + 1) ((suP pa1 (pz.1 q))) (by omega) (by omega) (hsl) (he) _ _ _ hP hS hb19 hb20 hb16 hb21 hfr ls (lv_sub hl [0, 3, 4, 5, 6] rfl)
                · rw [if_pos hrr] at he
                  refine lv_aload_n hx hb dX6_stepByUnions_117 rfl (lv_at hl 3 rfl) ?_
                  refine g_get S hI hP uX6 rfl (fs := _) (hb20.lt 0 (by decide)) (hb20.2 0 (by decide)) 4 (by decide) q297 rfl (v := .ref (ad (r + 10))) rfl dX6_stepByUnions_118 ?_
                  refine lv_iload hx hb dX6_stepByUnions_121 (lv_at hl 2 rfl) ?_
                  refine g_iald S hI hP (f := fun j => nI (pz.1 j)) (hb21.lt 0 (by decide)) (hb21.2 0 (by decide)) (q) (by omega) (by decide) dX6_stepByUnions_123 ?_
                  refine g_sipush S 144 dX6_stepByUnions_124 (by decide +kernel) ?_
                  refine g_idiv S (by omega) (by omega) (by omega) dX6_stepByUnions_127 ?_
                  exact g_iret S hr hlocks hP hS (⟨by rw [if_neg hh1, if_neg hh2, if_neg hab, ← hpz, ← hzf, ← he], ⟨_, _, _, hb20, hb16, hb21⟩, hfr⟩) (fun _ _ => rfl) (Nat.le_of_ble_eq_true rfl) (Nat.le_of_ble_eq_true rfl) dX6_stepByUnions_128
        exact loop11 (60 - (0) + 1) (0) ((fil 36 (fun j => j) pa)) (Nat.lt_succ_self _) (by omega) (fun k hk => by rw [fil_in hk]; exact hk) (hzf.symm) _ _ _ hP hS hb8 hb9 hb6 hb10 hfr ls (lv_sub hl [0, 1, 2, 3, 4] rfl)
      · refine g_iconst S 0 dX6_stepByUnions_23 (by decide +kernel) ?_
        exact g_iret S hr hlocks hP hS (⟨by rw [if_neg hh1, if_neg hh2, if_pos hab], ⟨_, _, _, hb_g, hb_u, hb_p⟩, hfr⟩) (fun _ _ => rfl) (Nat.le_of_ble_eq_true rfl) (Nat.le_of_ble_eq_true rfl) dX6_stepByUnions_24
    · have hh2 := of_decide_eq_true hh2
      refine lv_iconst (v := -1) hx hb dX6_stepByUnions_16 (by decide +kernel) ?_
      exact g_iret S hr hlocks hP hS (⟨by rw [if_neg hh1, if_pos hh2], ⟨_, _, _, hb_g, hb_u, hb_p⟩, hfr⟩) (fun _ _ => rfl) (Nat.le_of_ble_eq_true rfl) (Nat.le_of_ble_eq_true rfl) dX6_stepByUnions_17
