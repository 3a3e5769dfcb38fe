theorem rdP_ok {ln : Nat} {bf : Nat → Nat} : ∀ (k x0 fa : Nat), ∀ c ∈ (rdP ln bf k x0 fa).2, cmOk c
  | 0, x0, fa, c, h => by cases h
  | k + 1, x0, fa, c, h => by
    rcases hC : rdC ln bf x0 (List.range 10) fa with ⟨fb, _ | ⟨v, x, t⟩⟩
    · rw [rdP_no hC] at h; cases h
    · have hv := (rdC_some _ _ _ _ _ _ rng_10 hC).1
      have ho : cmOk (cmO v t) := ⟨hv, fun j e => cellV_lt e⟩
      rw [rdP_yes hC] at h
      split at h
      · rw [List.mem_singleton.mp h]; exact ho
      · split at h
        · rcases List.mem_cons.mp h with e | e
          · rw [e]; exact ho
          · exact rdP_ok k _ _ c e
        · rw [List.mem_singleton.mp h]; exact ho
theorem lsC_mem {C : Nat → Cm} {n j : Nat} (h : j < n) : C j ∈ lsC C n := List.mem_map.mpr ⟨j, List.mem_range.mpr h, rfl⟩
theorem lsC_len {C : Nat → Cm} {n : Nat} : (lsC C n).length = n := by simp [lsC]
def exF (d p : Nat) : Prop := (d ≤ p ∧ p < d + 8) ∨ (d + 15 ≤ p ∧ p < d + 22) ∨ (d + 29 ≤ p ∧ p < d + 87) ∨ (d + 111 ≤ p ∧ p < d + 114)
/-- what an execution leaves of the rest: the parser emptied, some list, some kept sheet -/
def exC (E : gE) (ad : Nat → Nat) (N : Nat) (w : Nat → va_E) (d lo : Nat) (kk bf ad' : Nat → Nat) (N' : Nat) (w' : Nat → va_E) : Prop :=
  N ≤ N' ∧ (∀ p, p < N → ad' p = ad p) ∧ (∀ p, p < lo → ¬ exF d p → w' p = w p) ∧ (∃ A', bkP N' w' (d + 15) 7 (shC E ad' (d + 15) A')) ∧ (∃ f1 r1 c1 n1, bkP N' w' (d + 111) 2 (TPC E ad' (d + 111) bf 0 f1 r1 c1 n1)) ∧ ∃ md' g' pl' C' n', bkP N' w' (d + 113) 1 (ALC E ad' (d + 113) md' (evA ad' kk g') n') ∧ lsR E ad' N' w' lo g' kk n' pl' C'
theorem rdP_b {ln : Nat} {bf : Nat → Nat} (hln : ln ≤ 60) : ∀ (k x0 fa q : Nat), x0 ≤ 60 → fa ≤ 1100 → (rdP ln bf k x0 fa).1 = some q → q ≤ 1100
  | 0, x0, fa, q, hx, hf, h => by cases h; exact hf
  | k + 1, x0, fa, q, hx, hf, h => by
    have hle := rdC_le (ln := ln) (bf := bf) (x0 := x0) (List.range 10) fa rng_10
    rcases hC : rdC ln bf x0 (List.range 10) fa with ⟨fb, _ | ⟨v, x, t⟩⟩
    · rw [hC] at hle
      have hle : fb ≤ max fa (x0 + 22) := hle
      rw [rdP_no hC] at h; cases h; omega
    · rw [hC] at hle
      have hle : fb ≤ max fa (x0 + 22) := hle
      have hx2 := (rdC_some _ _ _ _ _ _ rng_10 hC).2.2
      rw [rdP_yes hC] at h
      split at h
      · cases h
      · rename_i hlx
        split at h
        · exact rdP_b hln k _ _ q (by omega) (by omega) h
        · cases h; omega
theorem rdP_31 {ln : Nat} {bf : Nat → Nat} (hln : ln ≤ 60) : ∀ q, (rdP ln bf 60 0 0).1 = some q → q < 2 ^ 31 := fun q h => by
  have := rdP_b hln 60 0 0 q (by decide) (by decide) h
  omega
set_option maxHeartbeats 4000000 in
set_option maxRecDepth 100000 in
/-- a text is carried out -/
theorem mX12_execute (l : Launch) {E : gE} {ad : Nat → Nat} {N : Nat} {w : Nat → va_E} (kk : Nat → Nat) (hzv : gHv E kk) (d : Nat) (sv : Nat) (fp dq : Option Nat) (dd : Int32) (dc : Option Nat) (S0 A0 : Sh) (pl ct : Nat) (K : Nat → Sh) (bf : Nat → Nat) (ln fa : Nat) (rw cl nm : Option Nat) (lo : Nat) (md : Int32) (g : Option Nat) (nn : Nat) (lp : Nat → Nat) (C : Nat → Cm) (hb_d : bkP N w d 1 (DMC E ad d sv fp dq dd dc)) (hb_s : bkP N w (d + 1) 7 (SHC E ad (d + 1) S0.1 S0.2.1 S0.2.2.1 S0.2.2.2.1 S0.2.2.2.2.1 S0.2.2.2.2.2.1 S0.2.2.2.2.2.2.1 S0.2.2.2.2.2.2.2.1 S0.2.2.2.2.2.2.2.2.1 S0.2.2.2.2.2.2.2.2.2)) (hb_o : bkP N w (d + 15) 7 (SHC E ad (d + 15) A0.1 A0.2.1 A0.2.2.1 A0.2.2.2.1 A0.2.2.2.2.1 A0.2.2.2.2.2.1 A0.2.2.2.2.2.2.1 A0.2.2.2.2.2.2.2.1 A0.2.2.2.2.2.2.2.2.1 A0.2.2.2.2.2.2.2.2.2)) (hb_t : bkP N w (d + 111) 2 (TPC E ad (d + 111) bf ln fa rw cl nm)) (hb_a : bkP N w (d + 113) 1 (ALC E ad (d + 113) md (evA ad kk g) nn)) (hlt : l.stackTraces = false) (hz : gHx E) (hh : hsP E ad N w (d + 29) pl ct K) (hpl : pl < 8) (hct : ct ≤ 8) (hln : ln ≤ 60) (hbf : ∀ k, k < 60 → bf k < 65536) (hdlo : d + 116 ≤ lo) (hloN : lo ≤ N) (hL : lsR E ad N w lo g kk nn lp C) (hQ0 : shQ S0) : gUXi l yX12_execute (lw_ws yX12_execute cX12_execute 2 (some .int)) ({ frames := 8, cells := 21, slots := 136, locals := 183 } : Room) E ad N w [.ref (ad (d))] (fun r ad' N' w' => (rdP ln bf 60 0 0).1 = none ∧ (rnL (rdP ln bf 60 0 0).2 0 S0).1 = none ∧ r = nI (rdP ln bf 60 0 0).2.length ∧ bkP N' w' (d + 1) 7 (shC E ad' (d + 1) (rnL (rdP ln bf 60 0 0).2 0 S0).2) ∧ hsP E ad' N' w' (d + 29) ((pl + 1) % 8) (min (ct + 1) 8) (va_up K pl (cpS S0 (K pl))) ∧ bkP N' w' d 1 (DMC E ad' d sv fp dq dd dc) ∧ exC E ad N w d lo kk bf ad' N' w') (fun xc ad' N' w' => ((xc = xIA ∧ (∃ k, (rdP ln bf 60 0 0).1 = some k) ∧ bkP N' w' (d + 1) 7 (shC E ad' (d + 1) S0) ∧ hsP E ad' N' w' (d + 29) pl ct K ∧ bkP N' w' d 1 (DMC E ad' d sv (rdP ln bf 60 0 0).1 dq dd dc)) ∨ (xc = xUO ∧ (rdP ln bf 60 0 0).1 = none ∧ ∃ i r, (rnL (rdP ln bf 60 0 0).2 0 S0).1 = some (i, r) ∧ bkP N' w' (d + 1) 7 (shC E ad' (d + 1) (cpS S0 (rnL (rdP ln bf 60 0 0).2 0 S0).2)) ∧ hsP E ad' N' w' (d + 29) pl ct K ∧ bkP N' w' d 1 (DMC E ad' d sv fp (some 7) (nI i) (some (rnD r))))) ∧ exC E ad N w d lo kk bf ad' N' w') 21 136 := by
  refine vx_ofW (cc := cX12_execute) (maxL := 2) (ret := (some .int)) (by decide) rfl ?_
  intro p e s m args below meth cd s₁ B hml htab hv
  obtain ⟨rfl, hI, hP⟩ := hv
  obtain ⟨S, hr, hlocks⟩ := gPre (ws := []) B hml (C := RX12) rfl
  have hx := S.1
  have hb := S.2.1
  have hzk := hzv s s.heap hI.2.2.2.2
  have hS : va_S (gA E) s.heap s.heap [] := va_S.rf
  have hl := lv_entry ([.ref (ad (d))]) (n := 2) (Nat.le_of_ble_eq_true rfl)
  rw [lg_entry_eq]
  generalize (lg_sl ([.ref (ad (d))]) ++ List.replicate (2 - (lg_sl ([.ref (ad (d))])).length) Slot.unset).toArray = ls at hl ⊢
  have hl : lv_has ls 2 [(0, .ref (ad (d)))] := hl
  refine lv_aload_n hx hb dX12_execute_0 rfl (lv_at hl 0 rfl) ?_
  refine g_get S hI hP uX12 rfl (fs := _) (hb_d.lt 0 (by decide)) (hb_d.2 0 (by decide)) 8 (by decide) q410 rfl (v := .ref (ad (d + 111))) rfl dX12_execute_1 ?_
  refine g_uafi (g_runV S hI hP hS (k := 0) (As := []) (rest := []) (mX9_parse l kk hzv (d + 111) bf ln fa rw cl nm lo md g nn lp C hb_t hb_a hln hbf (by omega) hloN hL) q1268 q1269 q1270 q92 q1271 rfl rfl (by decide +kernel) ⟨(Nat.le_of_ble_eq_true rfl), (Nat.le_of_ble_eq_true rfl)⟩ rfl (hb_t.lt 0 (by decide)) (hb_t.2 0 (by decide)) rfl hl.1 rfl (Nat.le_of_ble_eq_true rfl) ⟨(Nat.le_of_ble_eq_true rfl), (Nat.le_of_ble_eq_true rfl)⟩ dX12_execute_4) hS (fun rz ad1 N1 w1 H locs hq hP hS => ?_)
  obtain ⟨hrz, hN1, hadL1, hwL1, ⟨f1, r1, c1, n1, hbt⟩, md1, g1, pl1, C1, nn1, hba, hL1, hC1⟩ := hq
  rw [hrz]
  have hy_d := DM_mv hb_d (w' := w1) (N' := N1) (M := lo) (by omega) (by omega) (fun p hp => (hadL1 p (by omega)).symm) (fun p h1 h2 => hwL1 p (by omega) (by omega))
  have hy_s := SH_mv hb_s (w' := w1) (N' := N1) (M := lo) (by omega) (by omega) (fun p hp => (hadL1 p (by omega)).symm) (fun p h1 h2 => hwL1 p (by omega) (by omega))
  have hy_o := SH_mv hb_o (w' := w1) (N' := N1) (M := lo) (by omega) (by omega) (fun p hp => (hadL1 p (by omega)).symm) (fun p h1 h2 => hwL1 p (by omega) (by omega))
  have hh1 := hh.mv (w' := w1) (N' := N1) (M := lo) (by omega) (by omega) (fun p hp => (hadL1 p (by omega)).symm) (fun p h1 h2 => hwL1 p (by omega) (by omega))
  have hl : lv_has ls 2 [(0, .ref (ad1 (d)))] := by rw [hadL1 (d) (by omega)]; exact hl
  refine lv_istore_n (lv' := [(1, .int (oI ((rdP ln bf 60 0 0).1))), (0, .ref (ad1 (d)))]) hx hb dX12_execute_7 rfl hl (by decide) rfl (fun ls hl => ?_)
  refine lv_aload_n hx hb dX12_execute_8 rfl (lv_at hl 1 rfl) ?_
  refine g_get S hI hP uX12 rfl (fs := _) (hy_d.lt 0 (by decide)) (hy_d.2 0 (by decide)) 8 (by decide) q410 rfl (v := .ref (ad1 (d + 111))) rfl dX12_execute_9 ?_
  refine g_afv (g_runV S hI hP hS (k := 0) (As := []) (rest := []) (mX9_empty l (d + 111) bf ln f1 r1 c1 n1 hbt) q1413 q1414 q1415 q92 q1416 rfl rfl (by decide +kernel) ⟨Nat.le_of_ble_eq_true rfl, Nat.le_of_ble_eq_true rfl⟩ rfl (hbt.lt 0 (by decide)) (hbt.2 0 (by decide)) rfl hl.1 rfl (Nat.le_of_ble_eq_true rfl) ⟨(Nat.le_of_ble_eq_true rfl), (Nat.le_of_ble_eq_true rfl)⟩ dX12_execute_12) hS (fun w1 H locs hq hP hS => ?_)
  obtain ⟨hb1, hf2⟩ := hq
  have hb3 := hy_d.fr hf2 (fun k hk => by show ¬ _; (try simp only [gIn]); (try dsimp only); omega)
  have hb4 := hy_s.fr hf2 (fun k hk => by show ¬ _; (try simp only [gIn]); (try dsimp only); omega)
  have hb5 := hy_o.fr hf2 (fun k hk => by show ¬ _; (try simp only [gIn]); (try dsimp only); omega)
  have hb6 := hba.fr hf2 (fun k hk => by show ¬ _; (try simp only [gIn]); (try dsimp only); omega)
  have hf0 := hf2
  have hh2 := hh1.fr hf0 (fun q a b => by show ¬ _; simp only [gIn]; omega)
  have hL2 := hL1.fr hf0 (fun p hp => by simp only [gIn] at hp; omega)
  have hW2 := fun (p : Nat) (h1 : p < lo) (h2 : ¬ (d + 111 ≤ p ∧ p < d + 114)) => (hf0 p (fun z => by simp only [gIn] at z; omega)).trans (hwL1 p h1 (by omega))
  refine lv_iload_n hx hb dX12_execute_15 rfl (lv_at hl 0 rfl) ?_
  refine lv_iconst (v := -1) hx hb dX12_execute_16 (by decide +kernel) ?_
  have hk31 : ∀ k, (rdP ln bf 60 0 0).1 = some k → k < 2 ^ 31 := rdP_31 hln
  refine g_oeq S (o := (rdP ln bf 60 0 0).1) (hk31) (tgt := 36) dX12_execute_17 (by decide) (fun hn => ?_) (fun hn_k hn => ?_)
  · have hcm : ∀ j, j < nn1 → cmOk (C1 j) := fun j hj => rdP_ok _ _ _ _ (hC1 ▸ lsC_mem hj)
    refine lv_aload_n hx hb dX12_execute_36 rfl (lv_at hl 1 rfl) ?_
    refine lv_aload_n hx hb dX12_execute_37 rfl (lv_at hl 1 rfl) ?_
    refine g_get S hI hP uX12 rfl (fs := _) (hb3.lt 0 (by decide)) (hb3.2 0 (by decide)) 8 (by decide) q410 rfl (v := .ref (ad1 (d + 111))) rfl dX12_execute_38 ?_
    refine g_getN S hI hP uX9 rfl (fs := _) (hb1.lt 0 (by decide)) (hb1.2 0 (by decide)) 1 (by decide) q347 rfl (v := .ref (ad1 (d + 113))) rfl dX12_execute_41 ?_
    refine g_xafv (g_xrunV S hI hP hS (k := 1) (As := [.ref (ad1 (d + 113))]) (rest := []) (mX12_runAllOrNone l kk hzv d sv fp dq dd dc S0 A0 pl ct K lo md1 g1 nn1 pl1 C1 hb3 hb4 hb5 hb6 hlt hz hh2 hpl hct hdlo (by omega) hL2 hcm hQ0) q1418 q1420 q45 q82 q1421 rfl rfl (by decide +kernel) ⟨(Nat.le_of_ble_eq_true rfl), (Nat.le_of_ble_eq_true rfl)⟩ rfl (hb3.lt 0 (by decide)) (hb3.2 0 (by decide)) rfl hl.1 rfl (Nat.le_of_ble_eq_true rfl) ⟨(Nat.le_of_ble_eq_true rfl), (Nat.le_of_ble_eq_true rfl)⟩ dX12_execute_44) hS (fun xc w1 xq ce H locs hpx hP hS hcell hcv hcl => ?_) (fun w1 H locs hq hP hS => ?_)
    · obtain ⟨hx1, i, r, hx2, hx3, hx4, hx5, ⟨A1, hx6⟩, hx7⟩ := hpx
      rw [hC1] at hx2 hx3
      have hz_t := hb1.fr hx7 (fun k hk => by show ¬ _; (try dsimp only); omega)
      have hz_a := hb6.fr hx7 (fun k hk => by show ¬ _; (try dsimp only); omega)
      have hL3 := hL2.fr hx7 (fun p hp => by (try dsimp only at hp); omega)
      exact g_uxout S hI hS htab hlocks hP hcell hcv hcl (⟨Or.inr ⟨hx1, hn, i, r, hx2, hx3, hx4, hx5⟩, ⟨hN1, hadL1, fun p h1 h2 => by unfold exF at h2; rw [hx7 p (by (try dsimp only); omega)]; exact hW2 p h1 (by omega), ⟨A1, hx6⟩, ⟨_, _, _, _, hz_t⟩, _, _, _, _, _, hz_a, hL3⟩⟩) (Nat.le_of_ble_eq_true rfl) (Nat.le_of_ble_eq_true rfl)
    · obtain ⟨hx2, hx3, hx4, hx5, ⟨A1, hx6⟩, hx7⟩ := hq
      rw [hC1] at hx2 hx3
      have hz_t := hb1.fr hx7 (fun k hk => by show ¬ _; (try dsimp only); omega)
      have hz_a := hb6.fr hx7 (fun k hk => by show ¬ _; (try dsimp only); omega)
      have hL3 := hL2.fr hx7 (fun p hp => by (try dsimp only at hp); omega)
      refine lv_aload_n hx hb dX12_execute_47 rfl (lv_at hl 1 rfl) ?_
      refine g_get S hI hP uX12 rfl (fs := _) (hx5.lt 0 (by decide)) (hx5.2 0 (by decide)) 8 (by decide) q410 rfl (v := .ref (ad1 (d + 111))) rfl dX12_execute_48 ?_
      refine g_getN S hI hP uX9 rfl (fs := _) (hz_t.lt 0 (by decide)) (hz_t.2 0 (by decide)) 1 (by decide) q347 rfl (v := .ref (ad1 (d + 113))) rfl dX12_execute_51 ?_
      refine g_roi (g_runV S hI hP hS (k := 0) (As := []) (rest := []) (mJx4a65c_size_8abf5 l (d + 113) md1 (evA ad1 kk g1) nn1 hz_a) q1422 q1423 q1424 q95 q1425 rfl rfl (by decide +kernel) ⟨Nat.le_of_ble_eq_true rfl, Nat.le_of_ble_eq_true rfl⟩ rfl (hz_a.lt 0 (by decide)) (hz_a.2 0 (by decide)) rfl hl.1 rfl (Nat.le_of_ble_eq_true rfl) ⟨(Nat.le_of_ble_eq_true rfl), (Nat.le_of_ble_eq_true rfl)⟩ dX12_execute_54) hS (fun H locs hP hS => ?_)
      exact vx_ret (g_uiret S hr hlocks hP hS (⟨hn, hx2, by rw [← hC1, lsC_len], hx3, hx4, hx5, ⟨hN1, hadL1, fun p h1 h2 => by unfold exF at h2; rw [hx7 p (by (try dsimp only); omega)]; exact hW2 p h1 (by omega), ⟨A1, hx6⟩, ⟨_, _, _, _, hz_t⟩, _, _, _, _, _, hz_a, hL3⟩⟩) (Nat.le_of_ble_eq_true rfl) (Nat.le_of_ble_eq_true rfl) dX12_execute_57)
  · refine lv_aload_n hx hb dX12_execute_20 rfl (lv_at hl 1 rfl) ?_
    refine lv_iload_n hx hb dX12_execute_21 rfl (lv_at hl 0 rfl) ?_
    refine g_put S hI hP hS uX12 rfl tyX12 tyX12_ok nmX12 (fs := _) (hb3.lt 0 (by decide)) (hb3.2 0 (by decide)) 11 (by decide) q413 rfl rfl (v := .int (oI ((rdP ln bf 60 0 0).1))) rfl rfl (Nat.le_of_ble_eq_true rfl) dX12_execute_22 (fun H locs hP hS => ?_)
    have hP : gP E ad1 N1 (va_up _ (d) (DMC E ad1 d sv ((rdP ln bf 60 0 0).1) dq dd dc 0)) H := hP
    have hb7 : bkP N1 (va_up _ (d) (DMC E ad1 d sv ((rdP ln bf 60 0 0).1) dq dd dc 0)) d 1 (DMC E ad1 d sv ((rdP ln bf 60 0 0).1) dq dd dc) := DM_setO hb3 _ _ _ _ _
    have hb8 := hb4.keep (p := d) (e := DMC E ad1 d sv ((rdP ln bf 60 0 0).1) dq dd dc 0) (by omega)
    have hb9 := hb5.keep (p := d) (e := DMC E ad1 d sv ((rdP ln bf 60 0 0).1) dq dd dc 0) (by omega)
    have hb10 := hb1.keep (p := d) (e := DMC E ad1 d sv ((rdP ln bf 60 0 0).1) dq dd dc 0) (by omega)
    have hb11 := hb6.keep (p := d) (e := DMC E ad1 d sv ((rdP ln bf 60 0 0).1) dq dd dc 0) (by omega)
    exact g_uthrowW S hI hP hS hl.1 htab hlocks hlt hz (cls := "java/lang/IllegalArgumentException") (text := "the text does not match the grammar") q592 q109 (by decide) tx_267 (by decide +kernel) dX12_execute_25 dX12_execute_28 dX12_execute_29 dX12_execute_32 dX12_execute_35 (Nat.le_of_ble_eq_true rfl) (Nat.le_of_ble_eq_true rfl) (Nat.le_of_ble_eq_true rfl) (Nat.le_of_ble_eq_true rfl) (Nat.le_of_ble_eq_true rfl) (Nat.le_of_ble_eq_true rfl) (⟨Or.inl ⟨rfl, ⟨_, hn⟩, hb8, hh2.fr (P := fun q => q = d) (fun q hq => va_up_ne _ _ hq) (fun q a b => by show ¬ _; (try dsimp only); omega), hb7⟩, ⟨hN1, hadL1, fun p h1 h2 => by unfold exF at h2; rw [va_up_ne _ _ (by omega)]; exact hW2 p h1 (by omega), ⟨A0, hb9⟩, ⟨_, _, _, _, hb10⟩, _, _, _, _, _, hb11, hL2.fr (P := fun q => q = d) (fun q hq => va_up_ne _ _ hq) (fun p hp => by (try dsimp only at hp); omega)⟩⟩)
