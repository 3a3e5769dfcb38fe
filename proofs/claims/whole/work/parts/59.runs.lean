/-- the cause that is kept of a refusal within a text -/
def rnD (r : Int32) : Nat := if 0 < r then r.toNatClampNeg else 8
set_option maxHeartbeats 4000000 in
set_option maxRecDepth 100000 in
/-- all commands, or none -/
theorem mX12_runAllOrNone (l : Launch) {E : gE} {ad : Nat → Nat} {N : Nat} {w : Nat → va_E} (kk : Nat → Nat) (hzv : gHv E kk) (d : Nat) (sv : Nat) (fp dq : Option Nat) (dd : Int32) (dc : Option Nat) (S0 A0 : Sh) (pl ct : Nat) (K : Nat → Sh) (lo : Nat) (md : Int32) (g : Option Nat) (nn : Nat) (lp : Nat → Nat) (C : Nat → Cm) (hb_d : bkP N w d 1 (DMC E ad d sv fp dq dd dc)) (hb_s : bkP N w (d + 1) 7 (SHC E ad (d + 1) S0.1 S0.2.1 S0.2.2.1 S0.2.2.2.1 S0.2.2.2.2.1 S0.2.2.2.2.2.1 S0.2.2.2.2.2.2.1 S0.2.2.2.2.2.2.2.1 S0.2.2.2.2.2.2.2.2.1 S0.2.2.2.2.2.2.2.2.2)) (hb_o : bkP N w (d + 15) 7 (SHC E ad (d + 15) A0.1 A0.2.1 A0.2.2.1 A0.2.2.2.1 A0.2.2.2.2.1 A0.2.2.2.2.2.1 A0.2.2.2.2.2.2.1 A0.2.2.2.2.2.2.2.1 A0.2.2.2.2.2.2.2.2.1 A0.2.2.2.2.2.2.2.2.2)) (hb_a : bkP N w (d + 113) 1 (ALC E ad (d + 113) md (evA ad kk g) nn)) (hlt : l.stackTraces = false) (hz : gHx E) (hh : hsP E ad N w (d + 29) pl ct K) (hpl : pl < 8) (hct : ct ≤ 8) (hdlo : d + 116 ≤ lo) (hloN : lo ≤ N) (hL : lsR E ad N w lo g kk nn lp C) (hcm : ∀ j, j < nn → cmOk (C j)) (hQ0 : shQ S0) : gXv l yX12_runAllOrNone (lw_ws yX12_runAllOrNone cX12_runAllOrNone 5 none) ({ frames := 7, cells := 1, slots := 6, locals := 159 } : Room) E ad N w [.ref (ad (d)), .ref (ad (d + 113))] (fun w' => (rnL (lsC C nn) 0 S0).1 = none ∧ bkP N w' (d + 1) 7 (shC E ad (d + 1) (rnL (lsC C nn) 0 S0).2) ∧ hsP E ad N w' (d + 29) ((pl + 1) % 8) (min (ct + 1) 8) (va_up K pl (cpS S0 (K pl))) ∧ bkP N w' d 1 (DMC E ad d sv fp dq dd dc) ∧ (∃ A', bkP N w' (d + 15) 7 (shC E ad (d + 15) A')) ∧ gFr (fun q => (d + 1 ≤ q ∧ q < d + 8) ∨ (d + 15 ≤ q ∧ q < d + 22) ∨ (d + 29 ≤ q ∧ q < d + 87) ∨ q = d) w w') (fun xc w' => xc = xUO ∧ ∃ i r, (rnL (lsC C nn) 0 S0).1 = some (i, r) ∧ bkP N w' (d + 1) 7 (shC E ad (d + 1) (cpS S0 (rnL (lsC C nn) 0 S0).2)) ∧ hsP E ad N w' (d + 29) pl ct K ∧ bkP N w' d 1 (DMC E ad d sv fp (some 7) (nI i) (some (rnD r))) ∧ (∃ A', bkP N w' (d + 15) 7 (shC E ad (d + 15) A')) ∧ gFr (fun q => (d + 1 ≤ q ∧ q < d + 8) ∨ (d + 15 ≤ q ∧ q < d + 22) ∨ (d + 29 ≤ q ∧ q < d + 87) ∨ q = d) w w') 1 6 := by
  refine vx_ofW (cc := cX12_runAllOrNone) (maxL := 5) (ret := none) (by decide) rfl ?_
  intro p e s m args below meth cd s₁ B hml htab hv
  obtain ⟨rfl, hI, hP⟩ := hv
  obtain ⟨S, hr, hlocks⟩ := gPre (ws := []) B hml (C := RX12) rfl
  have hx := S.1
  have hb := S.2.1
  have hzk := hzv s s.heap hI.2.2.2.2
  have hS : va_S (gA E) s.heap s.heap [] := va_S.rf
  have hfr : gFr (fun q => (d + 1 ≤ q ∧ q < d + 8) ∨ (d + 15 ≤ q ∧ q < d + 22) ∨ (d + 29 ≤ q ∧ q < d + 87) ∨ q = d) w w := gFr.rf
  have hl := lv_entry ([.ref (ad (d)), .ref (ad (d + 113))]) (n := 5) (Nat.le_of_ble_eq_true rfl)
  rw [lg_entry_eq]
  generalize (lg_sl ([.ref (ad (d)), .ref (ad (d + 113))]) ++ List.replicate (5 - (lg_sl ([.ref (ad (d)), .ref (ad (d + 113))])).length) Slot.unset).toArray = ls at hl ⊢
  have hl : lv_has ls 5 [(0, .ref (ad (d))), (1, .ref (ad (d + 113)))] := hl
  refine lv_aload_n hx hb dX12_runAllOrNone_0 rfl (lv_at hl 0 rfl) ?_
  refine g_get S hI hP uX12 rfl (fs := _) (hb_d.lt 0 (by decide)) (hb_d.2 0 (by decide)) 2 (by decide) q404 rfl (v := .ref (ad (d + 15))) rfl dX12_runAllOrNone_1 ?_
  refine lv_aload_n hx hb dX12_runAllOrNone_4 rfl (lv_at hl 0 rfl) ?_
  refine g_get S hI hP uX12 rfl (fs := _) (hb_d.lt 0 (by decide)) (hb_d.2 0 (by decide)) 0 (by decide) q402 rfl (v := .ref (ad (d + 1))) rfl dX12_runAllOrNone_5 ?_
  refine g_afv (g_runV S hI hP hS (k := 1) (As := [.ref (ad (d + 1))]) (rest := []) (mX7_copyFromN l (d + 15) (d + 1) A0.1 A0.2.1 A0.2.2.1 A0.2.2.2.1 A0.2.2.2.2.1 A0.2.2.2.2.2.1 A0.2.2.2.2.2.2.1 A0.2.2.2.2.2.2.2.1 A0.2.2.2.2.2.2.2.2.1 A0.2.2.2.2.2.2.2.2.2 S0.1 S0.2.1 S0.2.2.1 S0.2.2.2.1 S0.2.2.2.2.1 S0.2.2.2.2.2.1 S0.2.2.2.2.2.2.1 S0.2.2.2.2.2.2.2.1 S0.2.2.2.2.2.2.2.2.1 S0.2.2.2.2.2.2.2.2.2 hb_o hb_s (by omega) hQ0.2.1) q831 q645 q646 q83 q647 rfl rfl (by decide +kernel) ⟨Nat.le_of_ble_eq_true rfl, Nat.le_of_ble_eq_true rfl⟩ rfl (hb_o.lt 0 (by decide)) (hb_o.2 0 (by decide)) rfl hl.1 rfl (Nat.le_of_ble_eq_true rfl) ⟨(Nat.le_of_ble_eq_true rfl), (Nat.le_of_ble_eq_true rfl)⟩ dX12_runAllOrNone_8) hS (fun w1 H locs hq hP hS => ?_)
  obtain ⟨hb1, hf2⟩ := hq
  have hb3 := hb_d.fr hf2 (fun k hk => by show ¬ _; (try simp only [gIn]); (try dsimp only); omega)
  have hb4 := hb_s.fr hf2 (fun k hk => by show ¬ _; (try simp only [gIn]); (try dsimp only); omega)
  have hb5 := hb_a.fr hf2 (fun k hk => by show ¬ _; (try simp only [gIn]); (try dsimp only); omega)
  have hfr := hfr.trans hf2 (fun q hq => by (try simp only [gIn] at hq ⊢); (try dsimp only at hq ⊢); omega)
  have hh1 := hh.fr hf2 (fun q a b => by show ¬ _; simp only [gIn]; omega)
  refine g_iconst S 0 dX12_runAllOrNone_11 (by decide +kernel) ?_
  refine lv_istore_n (lv' := [(2, .int (nI (0))), (0, .ref (ad (d))), (1, .ref (ad (d + 113)))]) hx hb dX12_runAllOrNone_12 rfl hl (by decide) rfl (fun ls hl => ?_)
  have rloop : ∀ (fz : Nat) (i : Nat) (T0 : Sh), nn - i < fz → (i ≤ nn) → (shQ T0) → (rnL (lsC C nn) 0 S0 = rnL ((lsC C nn).drop i) i T0) → ∀ (w1 : Nat → va_E) (H : Heap) (locs : List Loc), gP E ad N w1 H → va_S (gA E) s.heap H locs → bkP N w1 d 1 (DMC E ad d sv fp dq dd dc) → bkP N w1 (d + 1) 7 (SHC E ad (d + 1) T0.1 T0.2.1 T0.2.2.1 T0.2.2.2.1 T0.2.2.2.2.1 T0.2.2.2.2.2.1 T0.2.2.2.2.2.2.1 T0.2.2.2.2.2.2.2.1 T0.2.2.2.2.2.2.2.2.1 T0.2.2.2.2.2.2.2.2.2) → bkP N w1 (d + 15) 7 (SHC E ad (d + 15) S0.1 A0.2.1 S0.2.2.1 S0.2.2.2.1 S0.2.2.2.2.1 S0.2.2.2.2.2.1 S0.2.2.2.2.2.2.1 S0.2.2.2.2.2.2.2.1 S0.2.2.2.2.2.2.2.2.1 S0.2.2.2.2.2.2.2.2.2) → bkP N w1 (d + 113) 1 (ALC E ad (d + 113) md (evA ad kk g) nn) → gFr (fun q => (d + 1 ≤ q ∧ q < d + 8) ∨ (d + 15 ≤ q ∧ q < d + 22) ∨ (d + 29 ≤ q ∧ q < d + 87) ∨ q = d) w w1 → (hsP E ad N w1 (d + 29) pl ct K) → ∀ (ls : Array Slot), lv_has ls 5 [(2, .int (nI (i))), (0, .ref (ad (d))), (1, .ref (ad (d + 113)))] → W p l e (headSpec (lw_ws yX12_runAllOrNone cX12_runAllOrNone 5 none) ({ frames := 7, cells := 1, slots := 6, locals := 159 } : Room)).room s m ([.ref (ad (d)), .ref (ad (d + 113))] : List Value).toArray below meth cd H locs 0 0 (vx_MQ below (va_Qv (fun w' => (rnL (lsC C nn) 0 S0).1 = none ∧ bkP N w' (d + 1) 7 (shC E ad (d + 1) (rnL (lsC C nn) 0 S0).2) ∧ hsP E ad N w' (d + 29) ((pl + 1) % 8) (min (ct + 1) 8) (va_up K pl (cpS S0 (K pl))) ∧ bkP N w' d 1 (DMC E ad d sv fp dq dd dc) ∧ (∃ A', bkP N w' (d + 15) 7 (shC E ad (d + 15) A')) ∧ gFr (fun q => (d + 1 ≤ q ∧ q < d + 8) ∨ (d + 15 ≤ q ∧ q < d + 22) ∨ (d + 29 ≤ q ∧ q < d + 87) ∨ q = d) w w') (gB E ad N) (gA E)) (gXC E ad N (fun xc w' => xc = xUO ∧ ∃ i r, (rnL (lsC C nn) 0 S0).1 = some (i, r) ∧ bkP N w' (d + 1) 7 (shC E ad (d + 1) (cpS S0 (rnL (lsC C nn) 0 S0).2)) ∧ hsP E ad N w' (d + 29) pl ct K ∧ bkP N w' d 1 (DMC E ad d sv fp (some 7) (nI i) (some (rnD r))) ∧ (∃ A', bkP N w' (d + 15) 7 (shC E ad (d + 15) A')) ∧ gFr (fun q => (d + 1 ≤ q ∧ q < d + 8) ∨ (d + 15 ≤ q ∧ q < d + 22) ∨ (d + 29 ≤ q ∧ q < d + 87) ∨ q = d) w w')) ([.ref (ad (d)), .ref (ad (d + 113))] : List Value).toArray s 1 6 (gA E)) (F0 m 13 ls []) := by
    intro fz
    induction fz with
    | zero => intro i T0 hmeas; omega
    | succ fz ih_rloop =>
      intro i T0 hmeas hi hQ hR w1 H locs hP hS hb6 hb7 hb8 hb9 hfr hh1 ls hl
      have hL1 := hL.fr hfr (fun p hp => by (try dsimp only at hp); omega)
      have hn10 := hL1.1
      refine lv_iload_n hx hb dX12_runAllOrNone_13 rfl (lv_at hl 0 rfl) ?_
      refine lv_aload_n hx hb dX12_runAllOrNone_14 rfl (lv_at hl 2 rfl) ?_
      refine g_roi (g_runV S hI hP hS (k := 0) (As := []) (rest := [.int (nI (i))]) (mJx4a65c_size_8abf5 l (d + 113) md (evA ad kk g) nn hb9) q1422 q1423 q1424 q95 q1425 rfl rfl (by decide +kernel) ⟨Nat.le_of_ble_eq_true rfl, Nat.le_of_ble_eq_true rfl⟩ rfl (hb9.lt 0 (by decide)) (hb9.2 0 (by decide)) rfl hl.1 rfl (Nat.le_of_ble_eq_true rfl) ⟨(Nat.le_of_ble_eq_true rfl), (Nat.le_of_ble_eq_true rfl)⟩ dX12_runAllOrNone_15) hS (fun H locs hP hS => ?_)
      refine g_ge S (a := i) (b := nn) (by omega) (by omega) (tgt := 101) dX12_runAllOrNone_18 (by decide) (fun hc => ?_) (fun hc => ?_)
      · have hE : rnL (lsC C nn) 0 S0 = (none, T0) := by rw [hR, lsC_end hc]; rfl
        have hb_h := hh1.1
        refine lv_aload_n hx hb dX12_runAllOrNone_101 rfl (lv_at hl 1 rfl) ?_
        refine g_get S hI hP uX12 rfl (fs := _) (hb6.lt 0 (by decide)) (hb6.2 0 (by decide)) 4 (by decide) q406 rfl (v := .ref (ad (d + 29))) rfl dX12_runAllOrNone_102 ?_
        refine lv_aload_n hx hb dX12_runAllOrNone_105 rfl (lv_at hl 1 rfl) ?_
        refine g_get S hI hP uX12 rfl (fs := _) (hb6.lt 0 (by decide)) (hb6.2 0 (by decide)) 2 (by decide) q404 rfl (v := .ref (ad (d + 15))) rfl dX12_runAllOrNone_106 ?_
        refine g_afv (g_runV S hI hP hS (k := 1) (As := [.ref (ad (d + 15))]) (rest := []) (mX4_keep l (d + 29) pl ct K (d + 15) S0.1 A0.2.1 S0.2.2.1 S0.2.2.2.1 S0.2.2.2.2.1 S0.2.2.2.2.2.1 S0.2.2.2.2.2.2.1 S0.2.2.2.2.2.2.2.1 S0.2.2.2.2.2.2.2.2.1 S0.2.2.2.2.2.2.2.2.2 hb8 hh1 (by omega) hpl hct hQ0.2.1) q640 q641 q642 q85 q643 rfl rfl (by decide +kernel) ⟨Nat.le_of_ble_eq_true rfl, Nat.le_of_ble_eq_true rfl⟩ rfl (hb_h.lt 0 (by decide)) (hb_h.2 0 (by decide)) rfl hl.1 rfl (Nat.le_of_ble_eq_true rfl) ⟨(Nat.le_of_ble_eq_true rfl), (Nat.le_of_ble_eq_true rfl)⟩ dX12_runAllOrNone_109) hS (fun w1 H locs hq hP hS => ?_)
        obtain ⟨hh2, hfx⟩ := hq
        have hx_d := hb6.fr hfx (fun k hk => by show ¬ _; (try dsimp only); omega)
        have hx_s := hb7.fr hfx (fun k hk => by show ¬ _; (try dsimp only); omega)
        have hx_o := hb8.fr hfx (fun k hk => by show ¬ _; (try dsimp only); omega)
        have hfr := hfr.trans hfx (fun q hq => by (try dsimp only at hq ⊢); omega)
        exact vx_ret (g_vret S hr hlocks hP hS (⟨by rw [hE], by rw [hE]; exact hx_s, hh2, hx_d, ⟨cpS S0 A0, hx_o⟩, hfr⟩) (fun _ _ => rfl) (Nat.le_of_ble_eq_true rfl) (Nat.le_of_ble_eq_true rfl) dX12_runAllOrNone_112)
      · obtain ⟨hlp1, hlp2, hlp3, hlp4⟩ := hL1.2.2.2 i hc
        obtain ⟨a, hga⟩ : ∃ a, g = some a := by
          cases g with
          | none => have := hL1.2.1 rfl; omega
          | some a => exact ⟨a, rfl⟩
        obtain ⟨hla, haN, hrwa⟩ := hL1.2.2.1 a hga
        have hbA : bkP N w1 (d + 113) 1 (ALC E ad (d + 113) md (ad a) nn) := by have h := hb9; rw [hga] at h; exact h
        refine lv_aload_n hx hb dX12_runAllOrNone_21 rfl (lv_at hl 2 rfl) ?_
        refine lv_iload_n hx hb dX12_runAllOrNone_22 rfl (lv_at hl 0 rfl) ?_
        refine g_afr (g_runV S hI hP hS (k := 1) (As := [.int (nI (i))]) (rest := []) (mJx4a65c_get_915e3 l (d + 113) md nn a i (ad (lp i)) _ hbA haN hrwa hc hn10 (if_pos hc)) q1426 q1427 q1428 q95 q1429 rfl rfl (by decide +kernel) ⟨(Nat.le_of_ble_eq_true rfl), (Nat.le_of_ble_eq_true rfl)⟩ rfl (hbA.lt 0 (by decide)) (hbA.2 0 (by decide)) rfl hl.1 rfl (Nat.le_of_ble_eq_true rfl) ⟨(Nat.le_of_ble_eq_true rfl), (Nat.le_of_ble_eq_true rfl)⟩ dX12_runAllOrNone_23) hS (fun rz w9 H locs hq hP hS => ?_)
        obtain ⟨hr1, hw9⟩ := hq
        rw [hw9] at hP
        rw [hr1]
        have hbc : bkP N w1 (lp i) 1 (CMC E ad (lp i) kk (C i).1 (C i).2.1 (C i).2.2) := ⟨by omega, fun k hk => by rw [show k = 0 by omega]; exact hlp4⟩
        refine g_castC S hI hP (ci := 6) rfl q452 (hbc.lt 0 (by decide)) (hbc.2 0 (by decide)) dX12_runAllOrNone_26 ?_
        have hok := hcm i hc
        refine lv_astore_n (lv' := [(3, .ref (ad (lp i))), (2, .int (nI (i))), (0, .ref (ad (d))), (1, .ref (ad (d + 113)))]) hx hb dX12_runAllOrNone_29 rfl hl (by decide) rfl (fun ls hl => ?_)
        refine lv_aload_n hx hb dX12_runAllOrNone_30 rfl (lv_at hl 2 rfl) ?_
        refine g_get S hI hP uX12 rfl (fs := _) (hb6.lt 0 (by decide)) (hb6.2 0 (by decide)) 0 (by decide) q402 rfl (v := .ref (ad (d + 1))) rfl dX12_runAllOrNone_31 ?_
        refine lv_aload_n hx hb dX12_runAllOrNone_34 rfl (lv_at hl 0 rfl) ?_
        refine g_roi (g_runV S hI hP hS (k := 1) (As := [.ref (ad (lp i))]) (rest := []) (mX7_refusalOf l kk hzv (d + 1) T0.1 T0.2.1 T0.2.2.1 T0.2.2.2.1 T0.2.2.2.2.1 T0.2.2.2.2.2.1 T0.2.2.2.2.2.2.1 T0.2.2.2.2.2.2.2.1 T0.2.2.2.2.2.2.2.2.1 T0.2.2.2.2.2.2.2.2.2 (lp i) (C i).1 (C i).2.1 (C i).2.2 hb7 hbc hok.1 hok.2 hQ.1 hQ.2.1 hQ.2.2.1 hQ.2.2.2.1 hQ.2.2.2.2) q477 q478 q479 q83 q480 rfl rfl (by decide +kernel) ⟨Nat.le_of_ble_eq_true rfl, Nat.le_of_ble_eq_true rfl⟩ rfl (hb7.lt 0 (by decide)) (hb7.2 0 (by decide)) rfl hl.1 rfl (Nat.le_of_ble_eq_true rfl) ⟨(Nat.le_of_ble_eq_true rfl), (Nat.le_of_ble_eq_true rfl)⟩ dX12_runAllOrNone_35) hS (fun H locs hP hS => ?_)
        refine lv_istore (lv' := [(4, .int (cmRS (C i) T0)), (3, .ref (ad (lp i))), (2, .int (nI (i))), (0, .ref (ad (d))), (1, .ref (ad (d + 113)))]) hx hb dX12_runAllOrNone_38 hl (by decide) rfl (fun ls hl => ?_)
        refine lv_iload hx hb dX12_runAllOrNone_40 (lv_at hl 0 rfl) ?_
        refine lv_if_eq (tgt := 86) hx hb dX12_runAllOrNone_42 (by decide) (fun hR0 => ?_) (fun hR0 => ?_)
        · have hR0 : cmRS (C i) T0 = nI 0 := hR0.trans nI_0.symm
          have hck := cmY_k hQ hok hR0
          have hQ2 := cmY_q hQ hok hR0
          refine lv_aload_n hx hb dX12_runAllOrNone_86 rfl (lv_at hl 3 rfl) ?_
          refine g_get S hI hP uX12 rfl (fs := _) (hb6.lt 0 (by decide)) (hb6.2 0 (by decide)) 0 (by decide) q402 rfl (v := .ref (ad (d + 1))) rfl dX12_runAllOrNone_87 ?_
          refine lv_aload_n hx hb dX12_runAllOrNone_90 rfl (lv_at hl 1 rfl) ?_
          refine g_afi (g_runV S hI hP hS (k := 1) (As := [.ref (ad (lp i))]) (rest := []) (mX7_carryOut l kk hzv (d + 1) T0.1 T0.2.1 T0.2.2.1 T0.2.2.2.1 T0.2.2.2.2.1 T0.2.2.2.2.2.1 T0.2.2.2.2.2.2.1 T0.2.2.2.2.2.2.2.1 T0.2.2.2.2.2.2.2.2.1 T0.2.2.2.2.2.2.2.2.2 (lp i) (C i).1 (C i).2.1 (C i).2.2 ((C i).2.1.getD 0) (C i).2.2.toNatClampNeg hb7 hbc (by omega) hok.1 hok.2 hck hQ.1 hQ.2.1 hQ.2.2.1 hQ.2.2.2.1 hQ.2.2.2.2) q654 q655 q656 q83 q657 rfl rfl (by decide +kernel) ⟨Nat.le_of_ble_eq_true rfl, Nat.le_of_ble_eq_true rfl⟩ rfl (hb7.lt 0 (by decide)) (hb7.2 0 (by decide)) rfl hl.1 rfl (Nat.le_of_ble_eq_true rfl) ⟨(Nat.le_of_ble_eq_true rfl), (Nat.le_of_ble_eq_true rfl)⟩ dX12_runAllOrNone_91) hS (fun rz w1 H locs hq hP hS => ?_)
          obtain ⟨hr12, hb10, hf11⟩ := hq
          rw [hr12]
          have hb13 := hb6.fr hf11 (fun k hk => by show ¬ _; (try simp only [gIn]); (try dsimp only); omega)
          have hb14 := hb8.fr hf11 (fun k hk => by show ¬ _; (try simp only [gIn]); (try dsimp only); omega)
          have hb15 := hb9.fr hf11 (fun k hk => by show ¬ _; (try simp only [gIn]); (try dsimp only); omega)
          have hb16 := hbc.fr hf11 (fun k hk => by show ¬ _; (try simp only [gIn]); (try dsimp only); omega)
          have hfr := hfr.trans hf11 (fun q hq => by (try simp only [gIn] at hq ⊢); (try dsimp only at hq ⊢); omega)
          have hh2 := hh1.fr hf11 (fun q a b => by show ¬ _; simp only [gIn]; omega)
          refine lv_pop hx hb dX12_runAllOrNone_94 rfl ?_
          refine lv_iinc (v := nI (i + 1)) (lv' := [(2, .int (nI (i + 1))), (4, .int (cmRS (C i) T0)), (3, .ref (ad (lp i))), (0, .ref (ad (d))), (1, .ref (ad (d + 113)))]) hx hb dX12_runAllOrNone_95 hl (k := 2) rfl (g_inc _ 1 (by decide +kernel)) (by decide) rfl (fun ls hl => ?_)
          refine lv_goto (tgt := 13) hx hb dX12_runAllOrNone_98 (by decide) ?_
          exact ih_rloop (i + 1) ((cmY (C i) T0).2) (by omega) (by omega) (hQ2) (by rw [hR, lsC_drop hc]; show (if _ then _ else _) = _; rw [if_pos hR0]) _ _ _ hP hS hb13 hb10 hb14 hb15 hfr (hh2) ls (lv_sub hl [0, 3, 4] rfl)
        · have hE : rnL (lsC C nn) 0 S0 = (some (i, cmRS (C i) T0), T0) := by rw [hR, lsC_drop hc]; show (if _ then _ else _) = _; rw [if_neg (fun z => hR0 (z.trans nI_0))]
          refine lv_aload_n hx hb dX12_runAllOrNone_45 rfl (lv_at hl 3 rfl) ?_
          refine g_get S hI hP uX12 rfl (fs := _) (hb6.lt 0 (by decide)) (hb6.2 0 (by decide)) 0 (by decide) q402 rfl (v := .ref (ad (d + 1))) rfl dX12_runAllOrNone_46 ?_
          refine lv_aload_n hx hb dX12_runAllOrNone_49 rfl (lv_at hl 3 rfl) ?_
          refine g_get S hI hP uX12 rfl (fs := _) (hb6.lt 0 (by decide)) (hb6.2 0 (by decide)) 2 (by decide) q404 rfl (v := .ref (ad (d + 15))) rfl dX12_runAllOrNone_50 ?_
          refine g_afv (g_runV S hI hP hS (k := 1) (As := [.ref (ad (d + 15))]) (rest := []) (mX7_copyFromN l (d + 1) (d + 15) T0.1 T0.2.1 T0.2.2.1 T0.2.2.2.1 T0.2.2.2.2.1 T0.2.2.2.2.2.1 T0.2.2.2.2.2.2.1 T0.2.2.2.2.2.2.2.1 T0.2.2.2.2.2.2.2.2.1 T0.2.2.2.2.2.2.2.2.2 S0.1 A0.2.1 S0.2.2.1 S0.2.2.2.1 S0.2.2.2.2.1 S0.2.2.2.2.2.1 S0.2.2.2.2.2.2.1 S0.2.2.2.2.2.2.2.1 S0.2.2.2.2.2.2.2.2.1 S0.2.2.2.2.2.2.2.2.2 hb7 hb8 (by omega) hQ0.2.1) q831 q645 q646 q83 q647 rfl rfl (by decide +kernel) ⟨Nat.le_of_ble_eq_true rfl, Nat.le_of_ble_eq_true rfl⟩ rfl (hb7.lt 0 (by decide)) (hb7.2 0 (by decide)) rfl hl.1 rfl (Nat.le_of_ble_eq_true rfl) ⟨(Nat.le_of_ble_eq_true rfl), (Nat.le_of_ble_eq_true rfl)⟩ dX12_runAllOrNone_53) hS (fun w1 H locs hq hP hS => ?_)
          obtain ⟨hb17, hf18⟩ := hq
          have hb19 := hb6.fr hf18 (fun k hk => by show ¬ _; (try simp only [gIn]); (try dsimp only); omega)
          have hb20 := hb8.fr hf18 (fun k hk => by show ¬ _; (try simp only [gIn]); (try dsimp only); omega)
          have hb21 := hb9.fr hf18 (fun k hk => by show ¬ _; (try simp only [gIn]); (try dsimp only); omega)
          have hb22 := hbc.fr hf18 (fun k hk => by show ¬ _; (try simp only [gIn]); (try dsimp only); omega)
          have hfr := hfr.trans hf18 (fun q hq => by (try simp only [gIn] at hq ⊢); (try dsimp only at hq ⊢); omega)
          have hh2 := hh1.fr hf18 (fun q a b => by show ¬ _; simp only [gIn]; omega)
          refine lv_aload_n hx hb dX12_runAllOrNone_56 rfl (lv_at hl 3 rfl) ?_
          refine g_bipush S 7 dX12_runAllOrNone_57 (by decide +kernel) ?_
          refine lv_iload_n hx hb dX12_runAllOrNone_59 rfl (lv_at hl 2 rfl) ?_
          refine lv_iload hx hb dX12_runAllOrNone_60 (lv_at hl 0 rfl) ?_
          refine lv_if_le (tgt := 70) hx hb dX12_runAllOrNone_62 (by decide) (fun hR1 => ?_) (fun hR1 => ?_)
          · have hrD : rnD (cmRS (C i) T0) = 8 := if_neg (Int32.not_lt.mpr hR1)
            refine g_bipush S 8 dX12_runAllOrNone_70 (by decide +kernel) ?_
            refine g_afv (g_runV S hI hP hS (k := 3) (As := [.int (nI (7)), .int (nI (i)), .int (nI (8))]) (rest := []) (mX12_keepDenial l d sv fp dq dd dc (some 7) (nI i) (some 8) hb19) q620 q622 q7 q82 q623 rfl rfl (by decide +kernel) ⟨Nat.le_of_ble_eq_true rfl, Nat.le_of_ble_eq_true rfl⟩ rfl (hb19.lt 0 (by decide)) (hb19.2 0 (by decide)) rfl hl.1 rfl (Nat.le_of_ble_eq_true rfl) ⟨(Nat.le_of_ble_eq_true rfl), (Nat.le_of_ble_eq_true rfl)⟩ dX12_runAllOrNone_72) hS (fun w1 H locs hq hP hS => ?_)
            obtain ⟨hb23, hf24⟩ := hq
            have hb25 := hb17.fr hf24 (fun k hk => by show ¬ _; (try simp only [gIn]); (try dsimp only); omega)
            have hb26 := hb20.fr hf24 (fun k hk => by show ¬ _; (try simp only [gIn]); (try dsimp only); omega)
            have hb27 := hb21.fr hf24 (fun k hk => by show ¬ _; (try simp only [gIn]); (try dsimp only); omega)
            have hb28 := hb22.fr hf24 (fun k hk => by show ¬ _; (try simp only [gIn]); (try dsimp only); omega)
            have hfr := hfr.trans hf24 (fun q hq => by (try simp only [gIn] at hq ⊢); (try dsimp only at hq ⊢); omega)
            have hh3 := hh2.fr hf24 (fun q a b => by show ¬ _; simp only [gIn]; omega)
            exact g_throwW S hI hP hS hl.1 htab hlocks hlt hz (cls := "java/lang/UnsupportedOperationException") (text := "a command of the text failed") q624 q110 (by decide) tx_345 (by decide +kernel) dX12_runAllOrNone_75 dX12_runAllOrNone_78 dX12_runAllOrNone_79 dX12_runAllOrNone_82 dX12_runAllOrNone_85 (Nat.le_of_ble_eq_true rfl) (Nat.le_of_ble_eq_true rfl) (Nat.le_of_ble_eq_true rfl) (Nat.le_of_ble_eq_true rfl) (Nat.le_of_ble_eq_true rfl) (Nat.le_of_ble_eq_true rfl) (⟨rfl, i, cmRS (C i) T0, by rw [hE], by rw [hE]; exact hb25, hh3, by rw [hrD]; exact hb23, ⟨cpS S0 A0, hb26⟩, hfr⟩)
          · rcases cmR_cases (ht := T0.1) (pg := T0.2.2.1) (wr := T0.2.2.2.2.1) (mo := T0.2.2.2.2.2.1) (mc := T0.2.2.2.2.2.2.1) (vb := (C i).1) (o := (C i).2.1) (v := (C i).2.2) with hRn | hRn | ⟨n, hn7, hRn, -⟩
            · exact absurd (show cmRS (C i) T0 ≤ 0 by rw [show cmRS (C i) T0 = -1 from hRn]; decide +kernel) hR1
            · exact absurd (show cmRS (C i) T0 ≤ 0 by rw [show cmRS (C i) T0 = -2 from hRn]; decide +kernel) hR1
            · have hRn : cmRS (C i) T0 = nI n := hRn
              have hl : lv_has ls 5 [(4, .int (nI (n))), (3, .ref (ad (lp i))), (2, .int (nI (i))), (0, .ref (ad (d))), (1, .ref (ad (d + 113)))] := by rw [hRn] at hl; exact hl
              have hrD : rnD (cmRS (C i) T0) = n := by rw [hRn]; unfold rnD; rw [if_pos (by rw [← hRn]; exact Int32.not_le.mp hR1), nI_clamp (by omega)]
              refine lv_iload hx hb dX12_runAllOrNone_65 (lv_at hl 0 rfl) ?_
              refine lv_goto (tgt := 72) hx hb dX12_runAllOrNone_67 (by decide) ?_
              refine g_afv (g_runV S hI hP hS (k := 3) (As := [.int (nI (7)), .int (nI (i)), .int (nI (n))]) (rest := []) (mX12_keepDenial l d sv fp dq dd dc (some 7) (nI i) (some n) hb19) q620 q622 q7 q82 q623 rfl rfl (by decide +kernel) ⟨Nat.le_of_ble_eq_true rfl, Nat.le_of_ble_eq_true rfl⟩ rfl (hb19.lt 0 (by decide)) (hb19.2 0 (by decide)) rfl hl.1 rfl (Nat.le_of_ble_eq_true rfl) ⟨(Nat.le_of_ble_eq_true rfl), (Nat.le_of_ble_eq_true rfl)⟩ dX12_runAllOrNone_72) hS (fun w1 H locs hq hP hS => ?_)
              obtain ⟨hb29, hf30⟩ := hq
              have hb31 := hb17.fr hf30 (fun k hk => by show ¬ _; (try simp only [gIn]); (try dsimp only); omega)
              have hb32 := hb20.fr hf30 (fun k hk => by show ¬ _; (try simp only [gIn]); (try dsimp only); omega)
              have hb33 := hb21.fr hf30 (fun k hk => by show ¬ _; (try simp only [gIn]); (try dsimp only); omega)
              have hb34 := hb22.fr hf30 (fun k hk => by show ¬ _; (try simp only [gIn]); (try dsimp only); omega)
              have hfr := hfr.trans hf30 (fun q hq => by (try simp only [gIn] at hq ⊢); (try dsimp only at hq ⊢); omega)
              have hh3 := hh2.fr hf30 (fun q a b => by show ¬ _; simp only [gIn]; omega)
              exact g_throwW S hI hP hS hl.1 htab hlocks hlt hz (cls := "java/lang/UnsupportedOperationException") (text := "a command of the text failed") q624 q110 (by decide) tx_345 (by decide +kernel) dX12_runAllOrNone_75 dX12_runAllOrNone_78 dX12_runAllOrNone_79 dX12_runAllOrNone_82 dX12_runAllOrNone_85 (Nat.le_of_ble_eq_true rfl) (Nat.le_of_ble_eq_true rfl) (Nat.le_of_ble_eq_true rfl) (Nat.le_of_ble_eq_true rfl) (Nat.le_of_ble_eq_true rfl) (Nat.le_of_ble_eq_true rfl) (⟨rfl, i, cmRS (C i) T0, by rw [hE], by rw [hE]; exact hb31, hh3, by rw [hrD]; exact hb29, ⟨cpS S0 A0, hb32⟩, hfr⟩)
  exact rloop (nn - (0) + 1) (0) (S0) (Nat.lt_succ_self _) (Nat.zero_le _) (hQ0) (rfl) _ _ _ hP hS hb3 hb4 hb1 hb5 hfr (hh1) ls (lv_sub hl [0, 1, 2] rfl)
