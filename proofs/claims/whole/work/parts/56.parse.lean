def lsC (C : Nat → Cm) (k : Nat) : List Cm := (List.range k).map C
theorem lsC_push {C : Nat → Cm} {k : Nat} {c : Cm} : lsC (va_up C k c) (k + 1) = lsC C k ++ [c] := by
  unfold lsC
  rw [List.range_succ, List.map_append]
  congr 1
  · exact List.map_congr_left (fun j hj => va_up_ne _ _ (Nat.ne_of_lt (List.mem_range.mp hj)))
  · simp [va_up_self]
set_option maxHeartbeats 4000000 in
set_option maxRecDepth 100000 in
/-- a text is read -/
theorem mX9_parse (l : Launch) {E : gE} {ad : Nat → Nat} {N : Nat} {w : Nat → va_E} (kk : Nat → Nat) (hzv : gHv E kk) (b : Nat) (bf : Nat → Nat) (ln fa : Nat) (rw cl nm : Option Nat) (lo : Nat) (md : Int32) (g : Option Nat) (n : Nat) (pl : Nat → Nat) (C : Nat → Cm) (hb_t : bkP N w b 2 (TPC E ad b bf ln fa rw cl nm)) (hb_a : bkP N w (b + 2) 1 (ALC E ad (b + 2) md (evA ad kk g) n)) (hln : ln ≤ 60) (hbf : ∀ k, k < 60 → bf k < 65536) (hblo : b + 3 ≤ lo) (hloN : lo ≤ N) (hL : lsR E ad N w lo g kk n pl C) : gUi l yX9_parse (lw_ws yX9_parse cX9_parse 4 (some .int)) ({ frames := 7, cells := 20, slots := 130, locals := 156 } : Room) E ad N w [.ref (ad (b))] (fun r ad' N' w' => r = oI (rdP ln bf 60 0 0).1 ∧ N ≤ N' ∧ (∀ p, p < N → ad' p = ad p) ∧ (∀ p, p < lo → ¬ (b ≤ p ∧ p < b + 3) → w' p = w p) ∧ (∃ f1 r1 c1 n1, bkP N' w' b 2 (TPC E ad' b bf ln f1 r1 c1 n1)) ∧ ∃ md' g' pl' C' n', bkP N' w' (b + 2) 1 (ALC E ad' (b + 2) md' (evA ad' kk g') n') ∧ lsR E ad' N' w' lo g' kk n' pl' C' ∧ lsC C' n' = (rdP ln bf 60 0 0).2) 20 130 := by
  refine Met.ofW (cc := cX9_parse) (maxL := 4) (ret := (some .int)) (by decide) rfl ?_
  intro p e s m args below meth cd s₁ B hml hv
  obtain ⟨rfl, hI, hP⟩ := hv
  obtain ⟨S, hr, hlocks⟩ := gPre (ws := []) B hml (C := RX9) rfl
  have hx := S.1
  have hb := S.2.1
  have hzk := hzv s s.heap hI.2.2.2.2
  have hS : va_S (gA E) s.heap s.heap [] := va_S.rf
  have hl := lv_entry ([.ref (ad (b))]) (n := 4) (Nat.le_of_ble_eq_true rfl)
  rw [lg_entry_eq]
  generalize (lg_sl ([.ref (ad (b))]) ++ List.replicate (4 - (lg_sl ([.ref (ad (b))])).length) Slot.unset).toArray = ls at hl ⊢
  have hl : lv_has ls 4 [(0, .ref (ad (b)))] := hl
  refine lv_aload_n hx hb dX9_parse_0 rfl (lv_at hl 0 rfl) ?_
  refine g_get S hI hP uX9 rfl (fs := _) (hb_t.lt 0 (by decide)) (hb_t.2 0 (by decide)) 1 (by decide) q346 rfl (v := .ref (ad (b + 2))) rfl dX9_parse_1 ?_
  refine g_afv (g_runV S hI hP hS (k := 0) (As := []) (rest := []) (mJx4a65c_clear_da8c8 l kk (b + 2) lo md g n pl C hb_a (by omega) hL) q1272 q1273 q1274 q95 q1275 rfl rfl (by decide +kernel) ⟨(Nat.le_of_ble_eq_true rfl), (Nat.le_of_ble_eq_true rfl)⟩ rfl (hb_a.lt 0 (by decide)) (hb_a.2 0 (by decide)) rfl hl.1 rfl (Nat.le_of_ble_eq_true rfl) ⟨(Nat.le_of_ble_eq_true rfl), (Nat.le_of_ble_eq_true rfl)⟩ dX9_parse_4) hS (fun w1 H locs hq hP hS => ?_)
  obtain ⟨⟨md0, hba⟩, hL0, hw0⟩ := hq
  have hbt : bkP N w1 b 2 (TPC E ad b bf ln fa rw cl nm) := ⟨hb_t.1, fun k hk => (hw0 _ (by omega) (by omega)).trans (hb_t.2 k hk)⟩
  refine lv_aload_n hx hb dX9_parse_7 rfl (lv_at hl 0 rfl) ?_
  refine g_iconst S 0 dX9_parse_8 (by decide +kernel) ?_
  refine g_put S hI hP hS uX9 rfl tyX9 tyX9_ok nmX9 (fs := _) (hbt.lt 0 (by decide)) (hbt.2 0 (by decide)) 3 (by decide) q350 rfl rfl (v := .int (nI (0))) rfl rfl (Nat.le_of_ble_eq_true rfl) dX9_parse_9 (fun H locs hP hS => ?_)
  have hP : gP E ad N (va_up _ (b) (TPC E ad b bf ln 0 rw cl nm 0)) H := hP
  have hb1 : bkP N (va_up _ (b) (TPC E ad b bf ln 0 rw cl nm 0)) b 2 (TPC E ad b bf ln 0 rw cl nm) := TP_setO hbt _ _ _ _ _
  have hb2 := hba.keep (p := b) (e := TPC E ad b bf ln 0 rw cl nm 0) (by omega)
  refine g_iconst S 0 dX9_parse_12 (by decide +kernel) ?_
  refine lv_istore_n (lv' := [(1, .int (nI (0))), (0, .ref (ad (b)))]) hx hb dX9_parse_13 rfl hl (by decide) rfl (fun ls hl => ?_)
  refine g_iconst S 0 dX9_parse_14 (by decide +kernel) ?_
  refine lv_istore_n (lv' := [(2, .int (nI (0))), (1, .int (nI (0))), (0, .ref (ad (b)))]) hx hb dX9_parse_15 rfl hl (by decide) rfl (fun ls hl => ?_)
  have hL0 := hL0.mv (w' := va_up w1 b (TPC E ad b bf ln 0 rw cl nm 0)) (Nat.le_refl _) (fun _ _ => rfl) (fun p h1 h2 => va_up_ne _ _ (by omega))
  have ploop : ∀ (fz : Nat) (k : Nat) (x0 : Nat) (f1 : Nat) (r1 : Option Nat) (c1 : Option Nat) (n1 : Option Nat) (ad1 : Nat → Nat) (N1 : Nat) (md1 : Int32) (g1 : Option Nat) (pl1 : Nat → Nat) (C1 : Nat → Cm), 60 - k < fz → (x0 ≤ 60) → (6 * k ≤ x0) → (f1 ≤ 1100) → (N ≤ N1) → (∀ p, p < N → ad1 p = ad p) → (rdP ln bf 60 0 0 = ((rdP ln bf (60 - k) x0 f1).1, lsC C1 k ++ (rdP ln bf (60 - k) x0 f1).2)) → ∀ (w1 : Nat → va_E) (H : Heap) (locs : List Loc), gP E ad1 N1 w1 H → va_S (gA E) s.heap H locs → bkP N1 w1 b 2 (TPC E ad1 b bf ln f1 r1 c1 n1) → bkP N1 w1 (b + 2) 1 (ALC E ad1 (b + 2) md1 (evA ad1 kk g1) k) → (∀ p, p < lo → ¬ (b ≤ p ∧ p < b + 3) → w1 p = w p) → (lsR E ad1 N1 w1 lo g1 kk k pl1 C1) → ∀ (ls : Array Slot), lv_has ls 4 [(2, .int (nI (k))), (1, .int (nI (x0))), (0, .ref (ad1 (b)))] → W p l e (headSpec (lw_ws yX9_parse cX9_parse 4 (some .int)) ({ frames := 7, cells := 20, slots := 130, locals := 156 } : Room)).room s m ([.ref (ad (b))] : List Value).toArray below meth cd H locs (2 * k) (13 * k) (MQ below (gQUi E (fun r ad' N' w' => r = oI (rdP ln bf 60 0 0).1 ∧ N ≤ N' ∧ (∀ p, p < N → ad' p = ad p) ∧ (∀ p, p < lo → ¬ (b ≤ p ∧ p < b + 3) → w' p = w p) ∧ (∃ f1 r1 c1 n1, bkP N' w' b 2 (TPC E ad' b bf ln f1 r1 c1 n1)) ∧ ∃ md' g' pl' C' n', bkP N' w' (b + 2) 1 (ALC E ad' (b + 2) md' (evA ad' kk g') n') ∧ lsR E ad' N' w' lo g' kk n' pl' C' ∧ lsC C' n' = (rdP ln bf 60 0 0).2)) ([.ref (ad (b))] : List Value).toArray s 20 130 (gA E)) (F0 m 16 ls []) := by
    intro fz
    induction fz with
    | zero => intro k x0 f1 r1 c1 n1 ad1 N1 md1 g1 pl1 C1 hmeas; omega
    | succ fz ih_ploop =>
      intro k x0 f1 r1 c1 n1 ad1 N1 md1 g1 pl1 C1 hmeas hx60 h6 hf1 hN1 hadL hR w1 H locs hP hS hb3 hb4 hww hL1 ls hl
      refine lv_iload_n hx hb dX9_parse_16 rfl (lv_at hl 0 rfl) ?_
      refine g_bipush S 60 dX9_parse_17 (by decide +kernel) ?_
      refine g_ge S (a := k) (b := 60) (by omega) (by omega) (tgt := 71) dX9_parse_19 (by decide) (fun hc => ?_) (fun hc => ?_)
      · omega
      · obtain ⟨j, hj⟩ : ∃ j, 60 - k = j + 1 := ⟨59 - k, by omega⟩
        rw [hj] at hR
        have hle := rdC_le (ln := ln) (bf := bf) (x0 := x0) (List.range 10) f1 rng_10
        refine lv_aload_n hx hb dX9_parse_22 rfl (lv_at hl 2 rfl) ?_
        refine lv_iload_n hx hb dX9_parse_23 rfl (lv_at hl 1 rfl) ?_
        rcases hC : rdC ln bf x0 (List.range 10) f1 with ⟨fb, _ | ⟨v, x, t⟩⟩
        · rw [rdP_no hC] at hR
          refine g_afi (g_runV S hI hP hS (k := 1) (As := [.int (nI (x0))]) (rest := []) (mX9_readCommand_no l kk hzv b bf ln f1 r1 c1 n1 x0 fb hb3 hln hbf (by omega) hf1 hC) q1276 q1278 q37 q92 q1279 rfl rfl (by decide +kernel) ⟨(Nat.le_of_ble_eq_true rfl), (Nat.le_of_ble_eq_true rfl)⟩ rfl (hb3.lt 0 (by decide)) (hb3.2 0 (by decide)) rfl hl.1 rfl (Nat.le_of_ble_eq_true rfl) ⟨(show 2 * k + 0 ≤ 20 from by omega), (show 13 * k + 0 ≤ 130 from by omega)⟩ dX9_parse_24) hS (fun rz w2 H locs hq hP hS => ?_)
          obtain ⟨hrz, ⟨r2, c2, n2, hbt2⟩, hf2⟩ := hq
          rw [hrz]
          have hx_a := hb4.fr hf2 (fun k hk => by show ¬ _; simp only [gIn]; omega)
          have hL2 := hL1.fr hf2 (fun p hp => by simp only [gIn] at hp; omega)
          refine lv_istore_n (lv' := [(3, .int ((-1))), (2, .int (nI (k))), (1, .int (nI (x0))), (0, .ref (ad1 (b)))]) hx hb dX9_parse_27 rfl hl (by decide) rfl (fun ls hl => ?_)
          refine lv_iload_n hx hb dX9_parse_28 rfl (lv_at hl 0 rfl) ?_
          refine lv_iconst (v := -1) hx hb dX9_parse_29 (by decide +kernel) ?_
          refine lv_icmp_ne (tgt := 38) hx hb dX9_parse_30 (by decide) (fun hc2 => ?_) (fun hc2 => ?_)
          · exact absurd rfl hc2
          · refine lv_aload_n hx hb dX9_parse_33 rfl (lv_at hl 3 rfl) ?_
            refine g_get S hI hP uX9 rfl (fs := _) (hbt2.lt 0 (by decide)) (hbt2.2 0 (by decide)) 3 (by decide) q350 rfl (v := .int (nI (fb))) rfl dX9_parse_34 ?_
            exact g_uiret S hr hlocks hP hS (⟨by rw [hR]; rfl, hN1, hadL, fun p h1 h2 => by rw [hf2 p (fun z => by simp only [gIn] at z; omega)]; exact hww p h1 h2, ⟨_, _, _, _, hbt2⟩, md1, g1, pl1, C1, k, hx_a, hL2, by rw [hR]; simp⟩) (show 2 * k + 0 ≤ 20 from by omega) (show 13 * k + 0 ≤ 130 from by omega) dX9_parse_37
        · rw [rdP_yes hC] at hR
          obtain ⟨hv10, hx5, hxl⟩ := rdC_some _ _ _ _ _ _ rng_10 hC
          rw [hC] at hle
          have hle : fb ≤ max f1 (x0 + 22) := hle
          refine g_uafi (g_runV S hI hP hS (k := 1) (As := [.int (nI (x0))]) (rest := []) (mX9_readCommand_yes l kk hzv b bf ln f1 r1 c1 n1 lo md1 g1 k pl1 C1 x0 x fb v t hb3 hb4 hln hbf hblo (by omega) hL1 (by omega) (by omega) hf1 hC) q1276 q1278 q37 q92 q1279 rfl rfl (by decide +kernel) ⟨(Nat.le_of_ble_eq_true rfl), (Nat.le_of_ble_eq_true rfl)⟩ rfl (hb3.lt 0 (by decide)) (hb3.2 0 (by decide)) rfl hl.1 rfl (Nat.le_of_ble_eq_true rfl) ⟨(show 2 * k + 2 ≤ 20 from by omega), (show 13 * k + 13 ≤ 130 from by omega)⟩ dX9_parse_24) hS (fun rz ad2 N2 w2 H locs hq hP hS => ?_)
          obtain ⟨hrz, hN2, hadL2, hwL2, ⟨r2, c2, n2, hbt2⟩, md2, g2, pl2, hba2, hL2⟩ := hq
          rw [hrz]
          have hl : lv_has ls 4 [(2, .int (nI (k))), (1, .int (nI (x0))), (0, .ref (ad2 (b)))] := by rw [hadL2 (b) (by omega)]; exact hl
          refine lv_istore_n (lv' := [(3, .int (nI (x))), (2, .int (nI (k))), (1, .int (nI (x0))), (0, .ref (ad2 (b)))]) hx hb dX9_parse_27 rfl hl (by decide) rfl (fun ls hl => ?_)
          refine lv_iload_n hx hb dX9_parse_28 rfl (lv_at hl 0 rfl) ?_
          refine lv_iconst (v := -1) hx hb dX9_parse_29 (by decide +kernel) ?_
          refine lv_icmp_ne (tgt := 38) hx hb dX9_parse_30 (by decide) (fun hc2 => ?_) (fun hc2 => ?_)
          · refine lv_iload_n hx hb dX9_parse_38 rfl (lv_at hl 0 rfl) ?_
            refine lv_aload_n hx hb dX9_parse_39 rfl (lv_at hl 3 rfl) ?_
            refine g_get S hI hP uX9 rfl (fs := _) (hbt2.lt 0 (by decide)) (hbt2.2 0 (by decide)) 2 (by decide) q348 rfl (v := .int (nI (ln))) rfl dX9_parse_40 ?_
            refine g_lt S (a := x) (b := ln) (by omega) (by omega) (tgt := 48) dX9_parse_43 (by decide) (fun hc3 => ?_) (fun hc3 => ?_)
            · rw [if_neg (show ¬ ln ≤ x by omega)] at hR
              have hbx := hbf x (by omega)
              refine lv_aload_n hx hb dX9_parse_48 rfl (lv_at hl 3 rfl) ?_
              refine g_get S hI hP uX9 rfl (fs := _) (hbt2.lt 0 (by decide)) (hbt2.2 0 (by decide)) 0 (by decide) q345 rfl (v := .ref (ad2 (b + 1))) rfl dX9_parse_49 ?_
              refine lv_iload_n hx hb dX9_parse_52 rfl (lv_at hl 0 rfl) ?_
              refine g_cald S hI hP (f := fun j => nI (bf j)) (hbt2.lt 1 (by decide)) (hbt2.2 1 (by decide)) (x) (by omega) (by decide) dX9_parse_53 ?_
              refine g_bipush S 59 dX9_parse_54 (by decide +kernel) ?_
              refine g_eq S (a := bf x) (b := 59) (by omega) (by omega) (tgt := 61) dX9_parse_56 (by decide) (fun hc4 => ?_) (fun hc4 => ?_)
              · rw [if_pos hc4, show j = 60 - (k + 1) by omega] at hR
                refine lv_iload_n hx hb dX9_parse_61 rfl (lv_at hl 0 rfl) ?_
                refine g_iconst S 1 dX9_parse_62 (by decide +kernel) ?_
                refine g_iadd S dX9_parse_63 ?_
                refine lv_istore_n (lv' := [(1, .int (nI (x + 1))), (3, .int (nI (x))), (2, .int (nI (k))), (0, .ref (ad2 (b)))]) hx hb dX9_parse_64 rfl hl (by decide) rfl (fun ls hl => ?_)
                refine lv_iinc (v := nI (k + 1)) (lv' := [(2, .int (nI (k + 1))), (1, .int (nI (x + 1))), (3, .int (nI (x))), (0, .ref (ad2 (b)))]) hx hb dX9_parse_65 hl (k := 2) rfl (g_inc _ 1 (by decide +kernel)) (by decide) rfl (fun ls hl => ?_)
                refine lv_goto (tgt := 16) hx hb dX9_parse_68 (by decide) ?_
                rw [show 2 * k + 2 = 2 * (k + 1) from by omega, show 13 * k + 13 = 13 * (k + 1) from by omega]
                exact ih_ploop (k + 1) (x + 1) (fb) (r2) (c2) (n2) (ad2) (N2) (md2) (g2) (pl2) (va_up C1 k (cmO v t)) (by omega) (by omega) (by omega) (by omega) (by omega) (fun p hp => (hadL2 p (by omega)).trans (hadL p hp)) (by rw [hR, lsC_push]; simp) _ _ _ hP hS hbt2 hba2 (fun p h1 h2 => (hwL2 p h1 h2).trans (hww p h1 h2)) (hL2) ls (lv_sub hl [0, 1, 3] rfl)
              · rw [if_neg hc4] at hR
                refine lv_iload_n hx hb dX9_parse_59 rfl (lv_at hl 0 rfl) ?_
                exact g_uiret S hr hlocks hP hS (⟨by rw [hR]; rfl, by omega, fun p hp => (hadL2 p (by omega)).trans (hadL p hp), fun p h1 h2 => (hwL2 p h1 h2).trans (hww p h1 h2), ⟨_, _, _, _, hbt2⟩, md2, g2, pl2, _, k + 1, hba2, hL2, by rw [hR]; simp [lsC_push]⟩) (show 2 * k + 2 ≤ 20 from by omega) (show 13 * k + 13 ≤ 130 from by omega) dX9_parse_60
            · rw [if_pos hc3] at hR
              refine lv_iconst (v := -1) hx hb dX9_parse_46 (by decide +kernel) ?_
              exact g_uiret S hr hlocks hP hS (⟨by rw [hR]; rfl, by omega, fun p hp => (hadL2 p (by omega)).trans (hadL p hp), fun p h1 h2 => (hwL2 p h1 h2).trans (hww p h1 h2), ⟨_, _, _, _, hbt2⟩, md2, g2, pl2, _, k + 1, hba2, hL2, by rw [hR]; simp [lsC_push]⟩) (show 2 * k + 2 ≤ 20 from by omega) (show 13 * k + 13 ≤ 130 from by omega) dX9_parse_47
          · exact absurd hc2 (nI_m1 (by omega))
  exact ploop (60 - (0) + 1) (0) (0) (0) (rw) (cl) (nm) (ad) (N) (md0) (g) (pl) (C) (Nat.lt_succ_self _) (by omega) (by omega) (by omega) (Nat.le_refl _) (fun _ _ => rfl) (by simp [lsC]) _ _ _ hP hS hb1 hb2 (fun p h1 h2 => by rw [va_up_ne _ _ (by omega)]; exact hw0 p h1 (by omega)) (hL0) ls (lv_sub hl [0, 1, 2] rfl)
