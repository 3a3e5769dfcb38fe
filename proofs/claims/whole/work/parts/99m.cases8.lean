/-! THE CASES OF THE LAW: the line, a text -/
section CASES8
variable {p : Program} {l : Launch} {e : Env} {R : Room} {s : State} {m : MethodId} {args : Array Value} {below : List Frame} {meth : Method} {c : Code} {H : Heap} {locs : List Loc} {cells slots : Nat} {Q : State → Prop}
variable {cc : ByteArray} {pc nL : Nat} {ls : Array Slot} {rest st0 : List Value} {own : String} {E : gE} {ad : Nat → Nat} {N : Nat} {w : Nat → va_E}
set_option maxHeartbeats 4000000 in
set_option maxRecDepth 100000 in
/-- the law's case 44: writeRow -/
theorem lc_44 (kk : Nat → Nat) (hlt : l.stackTraces = false) (hz : gHx E) (hzv : gHv E kk) (hn : gHn E) (S : gFix p m c cL_law 10 s args RL) (hI : gI E s s.heap) (hP : gP E ad N w H) (hS : va_S (gA E) s.heap H locs) (hRf : 64 ≤ R.frames) (hRl : 2000 ≤ R.locals) (hRc : cells + 234 ≤ R.cells) (hRs : slots + 2848 ≤ R.slots) {d B i sa L : Nat} {xs : Nat → Int32} (hB : B ≤ 600000) (hinv : lawP E kk ad N w d B) (hX : va_X sa L xs s s.heap) (hsa : sa < s.heap.size) (hsA : ¬ gA E sa) (hi : i + 5 ≤ L) (hL : L < 2 ^ 31) (hl : lv_has ls 10 [(5, .int (nI (i))), (0, .ref (sa)), (1, .ref (ad (d))), (2, .ref (ad (d + 116))), (3, .ref (ad (d + 128))), (4, .ref (ad (d + 129)))])
    (kk9 : ∀ (ad' : Nat → Nat) (N' : Nat) (w' : Nat → va_E) (H' : Heap) (locs' : List Loc) (ls' : Array Slot), lawP E kk ad' N' w' d (B + 1000) → gP E ad' N' w' H' → va_S (gA E) s.heap H' locs' → lv_has ls' 10 [(5, .int (nI (i))), (0, .ref (sa)), (1, .ref (ad' (d))), (2, .ref (ad' (d + 116))), (3, .ref (ad' (d + 128))), (4, .ref (ad' (d + 129)))] → W p l e R s m args below meth c H' locs' (cells + 234) (slots + 2848) Q (F0 m 2997 ls' [])) :
    W p l e R s m args below meth c H locs cells slots Q (F0 m 2639 ls []) := by
  have hx := S.1
  have hb := S.2.1
  obtain ⟨S1, pl, ct, K, sv, Z, fp, dq, dd, dc, bf, ln, tx, g, kp, svr, bfr, sd, sg, mk, td, lv, tl, qc, qd, co, wy, de, ca, sm, pa, tm, hcls, hmd, ⟨fo, hfo⟩, ⟨fd, hfd⟩, hDat⟩ := hinv
  obtain ⟨hdN, ⟨hbd, hbs, hbz, ⟨A0, hba⟩, ⟨T0, hbt⟩, hhs⟩, hscr, hprs, hsb⟩ := id hcls
  obtain ⟨hrow, hhis, hsnp, hden, hbuf, hlin, hfp⟩ := id hDat
  refine lv_aload_n hx hb dL_law_2639 rfl (lv_at hl 2 rfl) ?_
  refine lv_aload_n hx hb dL_law_2640 rfl (lv_at hl 1 rfl) ?_
  refine lv_iload hx hb dL_law_2641 (lv_at hl 0 rfl) ?_
  refine g_iconst S 1 dL_law_2643 (by decide +kernel) ?_
  refine g_iadd S dL_law_2644 ?_
  refine g_sld S hX hsa hsA hS (i + 1) (by omega) hL dL_law_2645 ?_
  refine lv_aload_n hx hb dL_law_2646 rfl (lv_at hl 4 rfl) ?_
  refine g_uafi (g_runSW S hI hP hS (hh := [(0, 9, 12, 13)]) (k := 3) (As := [.ref (ad (d)), .int (xs (i + 1)), .ref (ad (d + 128))]) (rest := []) (mL_writeRow l d (d + 128) (xs (i + 1)) hz hn (hbd.lt 0 (by decide)) (hbd.2 0 (by decide)) (mX12_writeRow l kk hzv d sv fp dq dd dc S1.1 S1.2.1 S1.2.2.1 S1.2.2.2.1 S1.2.2.2.2.1 S1.2.2.2.2.2.1 S1.2.2.2.2.2.2.1 S1.2.2.2.2.2.2.2.1 S1.2.2.2.2.2.2.2.2.1 S1.2.2.2.2.2.2.2.2.2 tx (xs (i + 1)) hbd hbs hlt hz hsb (by omega) hlin.2.1 (fun k hk => by have h8 : S1.2.2.2.1 k ≤ wS S1 := smN_at hk; have := hrow.2.2; omega) hrow.2.1.1 hrow.2.1.2.1 hrow.2.1.2.2.1 hrow.2.1.2.2.2.1 hrow.2.1.2.2.2.2) (by omega) (fun r ad' N' w' h => (by obtain ⟨k1, -, -, hG9, -⟩ := h; exact ⟨fo, (hG9.2.2 (d + 128) (by omega) (by omega) (by omega)).trans hfo, by rw [hG9.1]; omega, hG9.2.1 (d + 128) (by omega) (by omega)⟩)) (fun xc ad' N' w' h => h.1)) q1447 q1448 q81 q1449 rfl rfl (by decide +kernel) ⟨(Nat.le_trans (Nat.le_of_ble_eq_true rfl : _ ≤ 64) hRf), (Nat.le_trans (Nat.le_of_ble_eq_true rfl : _ ≤ 2000) hRl)⟩ rfl hl.1 rfl (Nat.le_of_ble_eq_true rfl) ⟨by omega, by omega⟩ dL_law_2647) hS (fun rz ad1 N1 w1 H locs hq hP hS => ?_)
  rcases hq with ⟨v1, f1, w2, hrz, hf1, hw2, hq⟩ | ⟨hrz, hq⟩
  · skip
    rw [hw2] at hP
    rw [hrz]
    obtain ⟨k1, hc1, hv1, hG9, hT9⟩ := hq
    obtain ⟨hN9, ha9, hw9⟩ := hG9
    have hN9 := hN9.symm
    subst hN9
    have hl : lv_has ls 10 [(5, .int (nI (i))), (0, .ref (sa)), (1, .ref (ad1 (d))), (2, .ref (ad1 (d + 116))), (3, .ref (ad1 (d + 128))), (4, .ref (ad1 (d + 129)))] := by rw [ha9 (d) (by omega) (by omega), ha9 (d + 116) (by omega) (by omega), ha9 (d + 128) (by omega) (by omega), ha9 (d + 129) (by omega) (by omega)]; exact hl
    have hclsW : clsP E ad1 N w2 d kk S1 pl ct K sv Z fp dq dd dc bf ln (rowT S1.1 S1.2.2.1 S1.2.2.2.1 S1.2.2.2.2.1 S1.2.2.2.2.2.1 S1.2.2.2.2.2.2.1 k1 6) := hcls.line ha9 hw9 hT9
    have hmdW : bkP N w2 (d + 116) 12 (MDC E ad1 (d + 116) g kp svr bfr sd bf sg mk td lv tl sv qc (0 : Nat) qd co wy de ca ln fp sm pa tm) := md_line hmd ha9 hw9
    have hfoW := (hw9 (d + 128) (by omega) (by omega) (by omega)).trans hfo
    have hfdW := (hw9 (d + 129) (by omega) (by omega) (by omega)).trans hfd
    obtain ⟨wb, hwb⟩ : ∃ z, z = va_up w2 (d + 128) (loE E f1) := ⟨_, rfl⟩
    rw [← hwb] at hP
    have hcls2 : clsP E ad1 N wb d kk S1 pl ct K sv Z fp dq dd dc bf ln (rowT S1.1 S1.2.2.1 S1.2.2.2.1 S1.2.2.2.2.1 S1.2.2.2.2.2.1 S1.2.2.2.2.2.2.1 k1 6) := hclsW.fr (fun p hp => by rw [hwb, va_up_ne _ _ (by omega)])
    have hmd2 : bkP N wb (d + 116) 12 (MDC E ad1 (d + 116) g kp svr bfr sd bf sg mk td lv tl sv qc (0 : Nat) qd co wy de ca ln fp sm pa tm) := by rw [hwb]; exact hmdW.keep (by omega)
    have hfo2 : wb (d + 128) = loE E f1 := by rw [hwb, va_up_self]
    have hfd2 : wb (d + 129) = doE E fd := by rw [hwb, va_up_ne _ _ (by omega)]; exact hfdW
    refine lv_istore (lv' := [(6, .int (nI (0))), (5, .int (nI (i))), (0, .ref (sa)), (1, .ref (ad1 (d))), (2, .ref (ad1 (d + 116))), (3, .ref (ad1 (d + 128))), (4, .ref (ad1 (d + 129)))]) hx hb dL_law_2650 hl (by decide) rfl (fun ls hl => ?_)
    refine lv_aload_n hx hb dL_law_2652 rfl (lv_at hl 4 rfl) ?_
    refine lv_aload_n hx hb dL_law_2653 rfl (lv_at hl 2 rfl) ?_
    refine lv_iload hx hb dL_law_2654 (lv_at hl 1 rfl) ?_
    refine g_iconst S 1 dL_law_2656 (by decide +kernel) ?_
    refine g_iadd S dL_law_2657 ?_
    refine g_sld S hX hsa hsA hS (i + 1) (by omega) hL dL_law_2658 ?_
    refine g_afi (g_runV S hI hP hS (k := 1) (As := [.int (xs (i + 1))]) (rest := []) (mX13_writeRow l (d + 116) g kp svr bfr sd bf sg mk td lv tl sv qc (0 : Nat) qd co wy de ca ln fp sm pa tm S1.1 S1.2.1 S1.2.2.1 S1.2.2.2.1 S1.2.2.2.2.1 S1.2.2.2.2.2.1 S1.2.2.2.2.2.2.1 S1.2.2.2.2.2.2.2.1 S1.2.2.2.2.2.2.2.2.1 S1.2.2.2.2.2.2.2.2.2 (xs (i + 1)) hmd2 hrow.1 hrow.2.1.1 hrow.2.1.2.1 hrow.2.1.2.2.1 hrow.2.1.2.2.2.1 hrow.2.1.2.2.2.2 (fun k hk => by have h8 : S1.2.2.2.1 k ≤ wS S1 := smN_at hk; have := hrow.2.2; omega) hlin.2.2.2) q2206 q2207 q2208 q100 q2209 rfl rfl (by decide +kernel) ⟨(Nat.le_trans (Nat.le_of_ble_eq_true rfl : _ ≤ 64) hRf), (Nat.le_trans (Nat.le_of_ble_eq_true rfl : _ ≤ 2000) hRl)⟩ rfl (hmd2.lt 0 (by decide)) (hmd2.2 0 (by decide)) rfl hl.1 rfl (Nat.le_of_ble_eq_true rfl) ⟨by omega, by omega⟩ dL_law_2659) hS (fun rz2 w3 H locs hq2 hP hS => ?_)
    obtain ⟨hq2, hfr⟩ := hq2
    rcases hq2 with ⟨k2, sg9, hc2, hr2, hl2, hs9g, hmd3⟩ | ⟨hc2, hmd3⟩
    · skip
      have hk := Option.some.inj (hc1.symm.trans hc2)
      subst hk
      have hcls3 : clsP E ad1 N w3 d kk S1 pl ct K sv Z fp dq dd dc bf ln (rowT S1.1 S1.2.2.1 S1.2.2.2.1 S1.2.2.2.2.1 S1.2.2.2.2.2.1 S1.2.2.2.2.2.2.1 k1 6) := hcls2.fr (fun p hp => hfr p (by show ¬ _; (try dsimp only [gIn]); omega))
      have hfo3 := (hfr (d + 128) (by show ¬ _; (try dsimp only [gIn]); omega)).trans hfo2
      have hfd3 := (hfr (d + 129) (by show ¬ _; (try dsimp only [gIn]); omega)).trans hfd2
      have hv9 : v1 = rz2 := hv1.trans hr2.symm
      rw [hv9] at hf1
      refine lv_istore (lv' := [(7, .int rz2), (6, .int (nI (0))), (5, .int (nI (i))), (0, .ref (sa)), (1, .ref (ad1 (d))), (2, .ref (ad1 (d + 116))), (3, .ref (ad1 (d + 128))), (4, .ref (ad1 (d + 129)))]) hx hb dL_law_2662 hl (by decide) rfl (fun ls hl => ?_)
      refine lv_aload_n hx hb dL_law_2664 rfl (lv_at hl 5 rfl) ?_
      refine g_afi (g_runV S hI hP hS (k := 0) (As := []) (rest := []) (mX13_thrown l _ _ _ _ _ _ _ _ _ _ _ _ _ _ _ _ _ _ _ _ _ _ _ _ _ hmd3) q1860 q1861 q1862 q100 q1863 rfl rfl (by decide +kernel) ⟨(Nat.le_trans (Nat.le_of_ble_eq_true rfl : _ ≤ 64) hRf), (Nat.le_trans (Nat.le_of_ble_eq_true rfl : _ ≤ 2000) hRl)⟩ rfl (hmd3.lt 0 (by decide)) (hmd3.2 0 (by decide)) rfl hl.1 rfl (Nat.le_of_ble_eq_true rfl) ⟨by omega, by omega⟩ dL_law_2665) hS (fun rz9 w9 H locs hq9 hP hS => ?_)
      obtain ⟨hr9, hw9⟩ := hq9
      rw [hw9] at hP
      rw [hr9]
      refine lv_iload hx hb dL_law_2668 (lv_at hl 1 rfl) ?_
      refine g_eq S (a := 0) (b := 0) (by omega) (by omega) (tgt := 2675) dL_law_2670 (by decide) (fun hb9 => ?_) (fun hb9 => ?_)
      · refine lv_iload hx hb dL_law_2675 (lv_at hl 1 rfl) ?_
        refine g_ifne S (a := 0) (by omega) (tgt := 2692) dL_law_2677 (by decide) (fun hb8 => ?_) (fun hb8 => ?_)
        · omega
        · refine lv_aload_n hx hb dL_law_2680 rfl (lv_at hl 6 rfl) ?_
          refine g_iconst S 0 dL_law_2681 (by decide +kernel) ?_
          refine g_lald S hI hP (o := d + 128) (by omega) hfo3 dL_law_2682 ?_
          rw [hf1]
          refine lv_iload hx hb dL_law_2683 (lv_at hl 0 rfl) ?_
          refine lv_i2l hx hb dL_law_2685 rfl ?_
          refine g_lcmpE S dL_law_2686 ?_
          refine g_ifeq S (a := 0) (by omega) (tgt := 2692) dL_law_2687 (by decide) (fun hb7 => ?_) (fun hb7 => ?_)
          · refine lv_goto (tgt := 2997) hx hb dL_law_2692 (by decide) ?_
            exact W.widen (k := cells + 234) (n := slots + 2848) (by omega) (by omega) (kk9 ad1 N _ _ _ _ ⟨_, _, _, _, _, _, _, _, _, _, _, _, _, _, _, _, _, _, _, _, _, _, _, _, _, _, _, _, _, _, _, _, hcls3, hmd3, ⟨_, hfo3⟩, ⟨_, hfd3⟩, lawD.le (B := B) ⟨hrow, hhis, hsnp, hden, hbuf, ⟨rfl, (by have h8 := rowT_len S1.1 S1.2.2.1 S1.2.2.2.1 S1.2.2.2.2.1 S1.2.2.2.2.2.1 S1.2.2.2.2.2.2.1 k1 6; omega), hl2, hs9g⟩, hfp⟩ (by omega)⟩ hP hS (lv_sub hl [2, 3, 4, 5, 6, 7] rfl))
          · omega
      · exact absurd rfl hb9
    · skip
      exact absurd (hc1.symm.trans hc2) (by intro q9; cases q9)
  · skip
    rw [hrz]
    obtain ⟨hx1, hc1, hA9, hN9, hw1⟩ := hq
    have hA9 := hA9.symm
    have hN9 := hN9.symm
    subst hA9
    subst hN9
    rw [hw1] at hP
    have hclsW := hcls
    have hmdW := hmd
    have hfoW := hfo
    have hfdW := hfd
    obtain ⟨wb, hwb⟩ : ∃ z, z = w := ⟨_, rfl⟩
    rw [← hwb] at hP
    have hcls2 : clsP E ad N wb d kk S1 pl ct K sv Z fp dq dd dc bf ln tx := by rw [hwb]; exact hclsW
    have hmd2 : bkP N wb (d + 116) 12 (MDC E ad (d + 116) g kp svr bfr sd bf sg mk td lv tl sv qc (0 : Nat) qd co wy de ca ln fp sm pa tm) := by rw [hwb]; exact hmdW
    have hfo2 : wb (d + 128) = loE E fo := by rw [hwb]; exact hfoW
    have hfd2 : wb (d + 129) = doE E fd := by rw [hwb]; exact hfdW
    refine lv_istore (lv' := [(6, .int (nI (1))), (5, .int (nI (i))), (0, .ref (sa)), (1, .ref (ad (d))), (2, .ref (ad (d + 116))), (3, .ref (ad (d + 128))), (4, .ref (ad (d + 129)))]) hx hb dL_law_2650 hl (by decide) rfl (fun ls hl => ?_)
    refine lv_aload_n hx hb dL_law_2652 rfl (lv_at hl 4 rfl) ?_
    refine lv_aload_n hx hb dL_law_2653 rfl (lv_at hl 2 rfl) ?_
    refine lv_iload hx hb dL_law_2654 (lv_at hl 1 rfl) ?_
    refine g_iconst S 1 dL_law_2656 (by decide +kernel) ?_
    refine g_iadd S dL_law_2657 ?_
    refine g_sld S hX hsa hsA hS (i + 1) (by omega) hL dL_law_2658 ?_
    refine g_afi (g_runV S hI hP hS (k := 1) (As := [.int (xs (i + 1))]) (rest := []) (mX13_writeRow l (d + 116) g kp svr bfr sd bf sg mk td lv tl sv qc (0 : Nat) qd co wy de ca ln fp sm pa tm S1.1 S1.2.1 S1.2.2.1 S1.2.2.2.1 S1.2.2.2.2.1 S1.2.2.2.2.2.1 S1.2.2.2.2.2.2.1 S1.2.2.2.2.2.2.2.1 S1.2.2.2.2.2.2.2.2.1 S1.2.2.2.2.2.2.2.2.2 (xs (i + 1)) hmd2 hrow.1 hrow.2.1.1 hrow.2.1.2.1 hrow.2.1.2.2.1 hrow.2.1.2.2.2.1 hrow.2.1.2.2.2.2 (fun k hk => by have h8 : S1.2.2.2.1 k ≤ wS S1 := smN_at hk; have := hrow.2.2; omega) hlin.2.2.2) q2206 q2207 q2208 q100 q2209 rfl rfl (by decide +kernel) ⟨(Nat.le_trans (Nat.le_of_ble_eq_true rfl : _ ≤ 64) hRf), (Nat.le_trans (Nat.le_of_ble_eq_true rfl : _ ≤ 2000) hRl)⟩ rfl (hmd2.lt 0 (by decide)) (hmd2.2 0 (by decide)) rfl hl.1 rfl (Nat.le_of_ble_eq_true rfl) ⟨by omega, by omega⟩ dL_law_2659) hS (fun rz2 w3 H locs hq2 hP hS => ?_)
    obtain ⟨hq2, hfr⟩ := hq2
    rcases hq2 with ⟨k2, sg9, hc2, hr2, hl2, hs9g, hmd3⟩ | ⟨hc2, hmd3⟩
    · skip
      exact absurd (hc2.symm.trans hc1) (by intro q9; cases q9)
    · skip
      have hcls3 : clsP E ad N w3 d kk S1 pl ct K sv Z fp dq dd dc bf ln tx := hcls2.fr (fun p hp => hfr p (by show ¬ _; (try dsimp only [gIn]); omega))
      have hfo3 := (hfr (d + 128) (by show ¬ _; (try dsimp only [gIn]); omega)).trans hfo2
      have hfd3 := (hfr (d + 129) (by show ¬ _; (try dsimp only [gIn]); omega)).trans hfd2
      refine lv_istore (lv' := [(7, .int rz2), (6, .int (nI (1))), (5, .int (nI (i))), (0, .ref (sa)), (1, .ref (ad (d))), (2, .ref (ad (d + 116))), (3, .ref (ad (d + 128))), (4, .ref (ad (d + 129)))]) hx hb dL_law_2662 hl (by decide) rfl (fun ls hl => ?_)
      refine lv_aload_n hx hb dL_law_2664 rfl (lv_at hl 5 rfl) ?_
      refine g_afi (g_runV S hI hP hS (k := 0) (As := []) (rest := []) (mX13_thrown l _ _ _ _ _ _ _ _ _ _ _ _ _ _ _ _ _ _ _ _ _ _ _ _ _ hmd3) q1860 q1861 q1862 q100 q1863 rfl rfl (by decide +kernel) ⟨(Nat.le_trans (Nat.le_of_ble_eq_true rfl : _ ≤ 64) hRf), (Nat.le_trans (Nat.le_of_ble_eq_true rfl : _ ≤ 2000) hRl)⟩ rfl (hmd3.lt 0 (by decide)) (hmd3.2 0 (by decide)) rfl hl.1 rfl (Nat.le_of_ble_eq_true rfl) ⟨by omega, by omega⟩ dL_law_2665) hS (fun rz9 w9 H locs hq9 hP hS => ?_)
      obtain ⟨hr9, hw9⟩ := hq9
      rw [hw9] at hP
      rw [hr9]
      refine lv_iload hx hb dL_law_2668 (lv_at hl 1 rfl) ?_
      refine g_eq S (a := 1) (b := 1) (by omega) (by omega) (tgt := 2675) dL_law_2670 (by decide) (fun hb9 => ?_) (fun hb9 => ?_)
      · refine lv_iload hx hb dL_law_2675 (lv_at hl 1 rfl) ?_
        refine g_ifne S (a := 1) (by omega) (tgt := 2692) dL_law_2677 (by decide) (fun hb8 => ?_) (fun hb8 => ?_)
        · refine lv_goto (tgt := 2997) hx hb dL_law_2692 (by decide) ?_
          exact W.widen (k := cells + 234) (n := slots + 2848) (by omega) (by omega) (kk9 ad N _ _ _ _ ⟨_, _, _, _, _, _, _, _, _, _, _, _, _, _, _, _, _, _, _, _, _, _, _, _, _, _, _, _, _, _, _, _, hcls3, hmd3, ⟨_, hfo3⟩, ⟨_, hfd3⟩, hDat.le (by omega)⟩ hP hS (lv_sub hl [2, 3, 4, 5, 6, 7] rfl))
        · omega
      · exact absurd rfl hb9
set_option maxHeartbeats 4000000 in
set_option maxRecDepth 100000 in
/-- the law's case 42: execute -/
theorem lc_42 (kk : Nat → Nat) (hlt : l.stackTraces = false) (hz : gHx E) (hzv : gHv E kk) (hn : gHn E) (S : gFix p m c cL_law 10 s args RL) (hI : gI E s s.heap) (hP : gP E ad N w H) (hS : va_S (gA E) s.heap H locs) (hRf : 64 ≤ R.frames) (hRl : 2000 ≤ R.locals) (hRc : cells + 234 ≤ R.cells) (hRs : slots + 2848 ≤ R.slots) {d B i sa L : Nat} {xs : Nat → Int32} (hB : B ≤ 600000) (hinv : lawP E kk ad N w d B) (hX : va_X sa L xs s s.heap) (hsa : sa < s.heap.size) (hsA : ¬ gA E sa) (hi : i + 5 ≤ L) (hL : L < 2 ^ 31) (hl : lv_has ls 10 [(5, .int (nI (i))), (0, .ref (sa)), (1, .ref (ad (d))), (2, .ref (ad (d + 116))), (3, .ref (ad (d + 128))), (4, .ref (ad (d + 129)))])
    (kk9 : ∀ (ad' : Nat → Nat) (N' : Nat) (w' : Nat → va_E) (H' : Heap) (locs' : List Loc) (ls' : Array Slot), lawP E kk ad' N' w' d (B + 1000) → gP E ad' N' w' H' → va_S (gA E) s.heap H' locs' → lv_has ls' 10 [(5, .int (nI (i))), (0, .ref (sa)), (1, .ref (ad' (d))), (2, .ref (ad' (d + 116))), (3, .ref (ad' (d + 128))), (4, .ref (ad' (d + 129)))] → W p l e R s m args below meth c H' locs' (cells + 234) (slots + 2848) Q (F0 m 2997 ls' [])) :
    W p l e R s m args below meth c H locs cells slots Q (F0 m 2551 ls []) := by
  have hx := S.1
  have hb := S.2.1
  obtain ⟨S1, pl, ct, K, sv, Z, fp, dq, dd, dc, bf, ln, tx, g, kp, svr, bfr, sd, sg, mk, td, lv, tl, qc, qd, co, wy, de, ca, sm, pa, tm, hcls, hmd, ⟨fo, hfo⟩, ⟨fd, hfd⟩, hDat⟩ := hinv
  obtain ⟨hdN, ⟨hbd, hbs, hbz, ⟨A0, hba⟩, ⟨T0, hbt⟩, hhs⟩, hscr, hprs, hsb⟩ := id hcls
  obtain ⟨hrow, hhis, hsnp, hden, hbuf, hlin, hfp⟩ := id hDat
  obtain ⟨⟨fa9, rw9, cl9, nm9, ht8⟩, md9, gg9, nn9, lp9, C9, ha8, hL8⟩ := id hprs
  refine lv_aload_n hx hb dL_law_2551 rfl (lv_at hl 2 rfl) ?_
  refine lv_aload_n hx hb dL_law_2552 rfl (lv_at hl 4 rfl) ?_
  refine g_uafi (g_runSW S hI hP hS (hh := [(0, 8, 11, 15), (0, 8, 14, 17)]) (k := 2) (As := [.ref (ad (d)), .ref (ad (d + 128))]) (rest := []) (mL_execute l d (d + 128)  hz hn (hbd.lt 0 (by decide)) (hbd.2 0 (by decide)) (mX12_execute l kk hzv d sv fp dq dd dc S1 A0 pl ct K bf ln fa9 rw9 cl9 nm9 (d + 130) md9 gg9 nn9 lp9 C9 hbd hbs hba ht8 ha8 hlt hz hhs hhis.2.2.1 hhis.2.1 hbuf.1 (fun k _ => hbuf.2 k) (by omega) hdN hL8 hrow.2.1) (by omega) (fun r ad' N' w' h => (by obtain ⟨-, -, -, -, -, -, hX⟩ := h; exact ⟨fo, (hX.low (p := d + 128) (by omega) (by omega)).trans hfo, by have := hX.1; omega, hX.2.1 (d + 128) (by omega)⟩)) (fun xc ad' N' w' h => h.1.elim (fun z => Or.inl z.1) (fun z => Or.inr z.1))) q1261 q1262 q81 q1263 rfl rfl (by decide +kernel) ⟨(Nat.le_trans (Nat.le_of_ble_eq_true rfl : _ ≤ 64) hRf), (Nat.le_trans (Nat.le_of_ble_eq_true rfl : _ ≤ 2000) hRl)⟩ rfl hl.1 rfl (Nat.le_of_ble_eq_true rfl) ⟨by omega, by omega⟩ dL_law_2553) hS (fun rz ad1 N1 w1 H locs hq hP hS => ?_)
  rcases hq with ⟨v1, f1, w2, hrz, hf1, hw2, hq⟩ | ⟨hrz, hq⟩ | ⟨hrz, hq⟩
  · skip
    rw [hw2] at hP
    rw [hrz]
    obtain ⟨hc1, hd1, hv1, hsX, hhX, hdX, hX⟩ := hq
    have hl : lv_has ls 10 [(5, .int (nI (i))), (0, .ref (sa)), (1, .ref (ad1 (d))), (2, .ref (ad1 (d + 116))), (3, .ref (ad1 (d + 128))), (4, .ref (ad1 (d + 129)))] := by rw [hX.2.1 (d) (by omega), hX.2.1 (d + 116) (by omega), hX.2.1 (d + 128) (by omega), hX.2.1 (d + 129) (by omega)]; exact hl
    have hN1 : d + 130 ≤ N1 := Nat.le_trans hdN hX.1
    have hclsW : clsP E ad1 N1 w2 d kk ((rnL (rdP ln bf 60 0 0).2 0 S1).2) ((pl + 1) % 8) (min (ct + 1) 8) (va_up K pl (cpS S1 (K pl))) sv Z fp dq dd dc bf 0 tx := hcls.exe hX hdX hsX hhX
    have hmdW : bkP N1 w2 (d + 116) 12 (MDC E ad1 (d + 116) g kp svr bfr sd bf sg mk td lv tl sv qc (0 : Nat) qd co wy de ca ln fp sm pa tm) := md_exe hmd hX
    have hfoW := (hX.low (p := d + 128) (by omega) (by omega)).trans hfo
    have hfdW := (hX.low (p := d + 129) (by omega) (by omega)).trans hfd
    obtain ⟨wb, hwb⟩ : ∃ z, z = va_up w2 (d + 128) (loE E f1) := ⟨_, rfl⟩
    rw [← hwb] at hP
    have hcls2 : clsP E ad1 N1 wb d kk ((rnL (rdP ln bf 60 0 0).2 0 S1).2) ((pl + 1) % 8) (min (ct + 1) 8) (va_up K pl (cpS S1 (K pl))) sv Z fp dq dd dc bf 0 tx := hclsW.fr (fun p hp => by rw [hwb, va_up_ne _ _ (by omega)])
    have hmd2 : bkP N1 wb (d + 116) 12 (MDC E ad1 (d + 116) g kp svr bfr sd bf sg mk td lv tl sv qc (0 : Nat) qd co wy de ca ln fp sm pa tm) := by rw [hwb]; exact hmdW.keep (by omega)
    have hfo2 : wb (d + 128) = loE E f1 := by rw [hwb, va_up_self]
    have hfd2 : wb (d + 129) = doE E fd := by rw [hwb, va_up_ne _ _ (by omega)]; exact hfdW
    refine lv_istore (lv' := [(6, .int (nI (0))), (5, .int (nI (i))), (0, .ref (sa)), (1, .ref (ad1 (d))), (2, .ref (ad1 (d + 116))), (3, .ref (ad1 (d + 128))), (4, .ref (ad1 (d + 129)))]) hx hb dL_law_2556 hl (by decide) rfl (fun ls hl => ?_)
    refine lv_aload_n hx hb dL_law_2558 rfl (lv_at hl 4 rfl) ?_
    refine g_afi (g_runV S hI hP hS (k := 0) (As := []) (rest := []) (mX13_execute l kk hzv (d + 116) g kp svr bfr sd bf sg mk td lv tl sv qc (0 : Nat) qd co wy de ca ln fp sm pa tm S1.1 S1.2.1 S1.2.2.1 S1.2.2.2.1 S1.2.2.2.2.1 S1.2.2.2.2.2.1 S1.2.2.2.2.2.2.1 S1.2.2.2.2.2.2.2.1 S1.2.2.2.2.2.2.2.2.1 S1.2.2.2.2.2.2.2.2.2 hmd2 hrow.1 hrow.2.1.1 hrow.2.1.2.1 hrow.2.1.2.2.1 hrow.2.1.2.2.2.1 hrow.2.1.2.2.2.2 rfl (by have := hhis.1; have := hhis.2.1; omega) hden.2.1 hbuf.1 (fun j _ => hbuf.2 j)) q2140 q2141 q2142 q100 q2143 rfl rfl (by decide +kernel) ⟨(Nat.le_trans (Nat.le_of_ble_eq_true rfl : _ ≤ 64) hRf), (Nat.le_trans (Nat.le_of_ble_eq_true rfl : _ ≤ 2000) hRl)⟩ rfl (hmd2.lt 0 (by decide)) (hmd2.2 0 (by decide)) rfl hl.1 rfl (Nat.le_of_ble_eq_true rfl) ⟨by omega, by omega⟩ dL_law_2559) hS (fun rz2 w3 H locs hq2 hP hS => ?_)
    obtain ⟨hq2, hfr⟩ := hq2
    rcases hq2 with ⟨hc2, hd2, hr2, g9, bf9, mk9, sd9, tl9, pa9, tm9, qd9, hR9, hbz9, hmd3⟩ | ⟨hc2, i2, r2, g9, bf9, mk9, sd9, tl9, pa9, tm9, hd2, hR9, hmd3⟩ | ⟨q2, tl9, pa9, tm9, hc2, hmd3⟩
    · skip
      have e9 := hd1
      have hcls3 : clsP E ad1 N1 w3 d kk ((rnL (rdP ln bf 60 0 0).2 0 S1).2) ((pl + 1) % 8) (min (ct + 1) 8) (va_up K pl (cpS S1 (K pl))) sv Z fp dq dd dc bf 0 tx := hcls2.fr (fun p hp => hfr p (by show ¬ _; (try dsimp only [gIn]); omega))
      have hfo3 := (hfr (d + 128) (by show ¬ _; (try dsimp only [gIn]); omega)).trans hfo2
      have hfd3 := (hfr (d + 129) (by show ¬ _; (try dsimp only [gIn]); omega)).trans hfd2
      have hv9 : v1 = rz2 := hv1.trans hr2.symm
      rw [hv9] at hf1
      refine lv_istore (lv' := [(7, .int rz2), (6, .int (nI (0))), (5, .int (nI (i))), (0, .ref (sa)), (1, .ref (ad1 (d))), (2, .ref (ad1 (d + 116))), (3, .ref (ad1 (d + 128))), (4, .ref (ad1 (d + 129)))]) hx hb dL_law_2562 hl (by decide) rfl (fun ls hl => ?_)
      refine lv_aload_n hx hb dL_law_2564 rfl (lv_at hl 5 rfl) ?_
      refine g_afi (g_runV S hI hP hS (k := 0) (As := []) (rest := []) (mX13_thrown l _ _ _ _ _ _ _ _ _ _ _ _ _ _ _ _ _ _ _ _ _ _ _ _ _ hmd3) q1860 q1861 q1862 q100 q1863 rfl rfl (by decide +kernel) ⟨(Nat.le_trans (Nat.le_of_ble_eq_true rfl : _ ≤ 64) hRf), (Nat.le_trans (Nat.le_of_ble_eq_true rfl : _ ≤ 2000) hRl)⟩ rfl (hmd3.lt 0 (by decide)) (hmd3.2 0 (by decide)) rfl hl.1 rfl (Nat.le_of_ble_eq_true rfl) ⟨by omega, by omega⟩ dL_law_2565) hS (fun rz9 w9 H locs hq9 hP hS => ?_)
      obtain ⟨hr9, hw9⟩ := hq9
      rw [hw9] at hP
      rw [hr9]
      refine lv_iload hx hb dL_law_2568 (lv_at hl 1 rfl) ?_
      refine g_eq S (a := 0) (b := 0) (by omega) (by omega) (tgt := 2575) dL_law_2570 (by decide) (fun hb9 => ?_) (fun hb9 => ?_)
      · refine lv_iload hx hb dL_law_2575 (lv_at hl 1 rfl) ?_
        refine g_ifne S (a := 0) (by omega) (tgt := 2592) dL_law_2577 (by decide) (fun hb8 => ?_) (fun hb8 => ?_)
        · omega
        · refine lv_aload_n hx hb dL_law_2580 rfl (lv_at hl 6 rfl) ?_
          refine g_iconst S 0 dL_law_2581 (by decide +kernel) ?_
          refine g_lald S hI hP (o := d + 128) (by omega) hfo3 dL_law_2582 ?_
          rw [hf1]
          refine lv_iload hx hb dL_law_2583 (lv_at hl 0 rfl) ?_
          refine lv_i2l hx hb dL_law_2585 rfl ?_
          refine g_lcmpE S dL_law_2586 ?_
          refine g_ifeq S (a := 0) (by omega) (tgt := 2592) dL_law_2587 (by decide) (fun hb7 => ?_) (fun hb7 => ?_)
          · refine lv_goto (tgt := 2997) hx hb dL_law_2592 (by decide) ?_
            exact W.widen (k := cells + 234) (n := slots + 2848) (by omega) (by omega) (kk9 ad1 N1 _ _ _ _ ⟨_, _, _, _, _, _, _, _, _, _, _, _, _, _, _, _, _, _, _, _, _, _, _, _, _, _, _, _, _, _, _, _, hcls3, hmd3, ⟨_, hfo3⟩, ⟨_, hfd3⟩, ⟨⟨hR9, (rnL_q _ 0 S1 hrow.2.1 (rdP_ok 60 0 0) hd1).1, (by have h8 := (rnL_q _ 0 S1 hrow.2.1 (rdP_ok 60 0 0) hd1).2; have h7 := rdP_len hbuf.1 hc1; have := hrow.2.2; omega)⟩, (hisR.keep hhis (hrow.to (fun i hi => hbz9 i hi))).le (by omega), ⟨hsnp.1, fun z => (hsnp.2.1 z).le (by omega), hsnp.2.2⟩, hden, ⟨by omega, hbuf.2⟩, hlin, hfp⟩⟩ hP hS (lv_sub hl [2, 3, 4, 5, 6, 7] rfl))
          · omega
      · exact absurd rfl hb9
    · skip
      exact absurd (hd1.symm.trans hd2) (by intro q9; cases q9)
    · skip
      exact absurd (hc1.symm.trans hc2) (by intro q9; cases q9)
  · skip
    rw [hrz]
    obtain ⟨hq, hX⟩ := hq
    obtain ⟨-, hc1, hsX, hhX, hdX⟩ := hq.resolve_right (fun z => absurd z.1 (by decide))
    have hl : lv_has ls 10 [(5, .int (nI (i))), (0, .ref (sa)), (1, .ref (ad1 (d))), (2, .ref (ad1 (d + 116))), (3, .ref (ad1 (d + 128))), (4, .ref (ad1 (d + 129)))] := by rw [hX.2.1 (d) (by omega), hX.2.1 (d + 116) (by omega), hX.2.1 (d + 128) (by omega), hX.2.1 (d + 129) (by omega)]; exact hl
    have hN1 : d + 130 ≤ N1 := Nat.le_trans hdN hX.1
    have hclsW : clsP E ad1 N1 w1 d kk S1 pl ct K sv Z ((rdP ln bf 60 0 0).1) dq dd dc bf 0 tx := hcls.exe hX hdX hsX hhX
    have hmdW : bkP N1 w1 (d + 116) 12 (MDC E ad1 (d + 116) g kp svr bfr sd bf sg mk td lv tl sv qc (0 : Nat) qd co wy de ca ln fp sm pa tm) := md_exe hmd hX
    have hfoW := (hX.low (p := d + 128) (by omega) (by omega)).trans hfo
    have hfdW := (hX.low (p := d + 129) (by omega) (by omega)).trans hfd
    obtain ⟨wb, hwb⟩ : ∃ z, z = w1 := ⟨_, rfl⟩
    rw [← hwb] at hP
    have hcls2 : clsP E ad1 N1 wb d kk S1 pl ct K sv Z ((rdP ln bf 60 0 0).1) dq dd dc bf 0 tx := by rw [hwb]; exact hclsW
    have hmd2 : bkP N1 wb (d + 116) 12 (MDC E ad1 (d + 116) g kp svr bfr sd bf sg mk td lv tl sv qc (0 : Nat) qd co wy de ca ln fp sm pa tm) := by rw [hwb]; exact hmdW
    have hfo2 : wb (d + 128) = loE E fo := by rw [hwb]; exact hfoW
    have hfd2 : wb (d + 129) = doE E fd := by rw [hwb]; exact hfdW
    refine lv_istore (lv' := [(6, .int (nI (1))), (5, .int (nI (i))), (0, .ref (sa)), (1, .ref (ad1 (d))), (2, .ref (ad1 (d + 116))), (3, .ref (ad1 (d + 128))), (4, .ref (ad1 (d + 129)))]) hx hb dL_law_2556 hl (by decide) rfl (fun ls hl => ?_)
    refine lv_aload_n hx hb dL_law_2558 rfl (lv_at hl 4 rfl) ?_
    refine g_afi (g_runV S hI hP hS (k := 0) (As := []) (rest := []) (mX13_execute l kk hzv (d + 116) g kp svr bfr sd bf sg mk td lv tl sv qc (0 : Nat) qd co wy de ca ln fp sm pa tm S1.1 S1.2.1 S1.2.2.1 S1.2.2.2.1 S1.2.2.2.2.1 S1.2.2.2.2.2.1 S1.2.2.2.2.2.2.1 S1.2.2.2.2.2.2.2.1 S1.2.2.2.2.2.2.2.2.1 S1.2.2.2.2.2.2.2.2.2 hmd2 hrow.1 hrow.2.1.1 hrow.2.1.2.1 hrow.2.1.2.2.1 hrow.2.1.2.2.2.1 hrow.2.1.2.2.2.2 rfl (by have := hhis.1; have := hhis.2.1; omega) hden.2.1 hbuf.1 (fun j _ => hbuf.2 j)) q2140 q2141 q2142 q100 q2143 rfl rfl (by decide +kernel) ⟨(Nat.le_trans (Nat.le_of_ble_eq_true rfl : _ ≤ 64) hRf), (Nat.le_trans (Nat.le_of_ble_eq_true rfl : _ ≤ 2000) hRl)⟩ rfl (hmd2.lt 0 (by decide)) (hmd2.2 0 (by decide)) rfl hl.1 rfl (Nat.le_of_ble_eq_true rfl) ⟨by omega, by omega⟩ dL_law_2559) hS (fun rz2 w3 H locs hq2 hP hS => ?_)
    obtain ⟨hq2, hfr⟩ := hq2
    rcases hq2 with ⟨hc2, hd2, hr2, g9, bf9, mk9, sd9, tl9, pa9, tm9, qd9, hR9, hbz9, hmd3⟩ | ⟨hc2, i2, r2, g9, bf9, mk9, sd9, tl9, pa9, tm9, hd2, hR9, hmd3⟩ | ⟨q2, tl9, pa9, tm9, hc2, hmd3⟩
    · skip
      obtain ⟨k9, hc9⟩ := hc1
      exact absurd (hc9.symm.trans hc2) (by intro q9; cases q9)
    · skip
      obtain ⟨k9, hc9⟩ := hc1
      exact absurd (hc9.symm.trans hc2) (by intro q9; cases q9)
    · skip
      rw [← hc2] at hmd3
      have hcls3 : clsP E ad1 N1 w3 d kk S1 pl ct K sv Z ((rdP ln bf 60 0 0).1) dq dd dc bf 0 tx := hcls2.fr (fun p hp => hfr p (by show ¬ _; (try dsimp only [gIn]); omega))
      have hfo3 := (hfr (d + 128) (by show ¬ _; (try dsimp only [gIn]); omega)).trans hfo2
      have hfd3 := (hfr (d + 129) (by show ¬ _; (try dsimp only [gIn]); omega)).trans hfd2
      refine lv_istore (lv' := [(7, .int rz2), (6, .int (nI (1))), (5, .int (nI (i))), (0, .ref (sa)), (1, .ref (ad1 (d))), (2, .ref (ad1 (d + 116))), (3, .ref (ad1 (d + 128))), (4, .ref (ad1 (d + 129)))]) hx hb dL_law_2562 hl (by decide) rfl (fun ls hl => ?_)
      refine lv_aload_n hx hb dL_law_2564 rfl (lv_at hl 5 rfl) ?_
      refine g_afi (g_runV S hI hP hS (k := 0) (As := []) (rest := []) (mX13_thrown l _ _ _ _ _ _ _ _ _ _ _ _ _ _ _ _ _ _ _ _ _ _ _ _ _ hmd3) q1860 q1861 q1862 q100 q1863 rfl rfl (by decide +kernel) ⟨(Nat.le_trans (Nat.le_of_ble_eq_true rfl : _ ≤ 64) hRf), (Nat.le_trans (Nat.le_of_ble_eq_true rfl : _ ≤ 2000) hRl)⟩ rfl (hmd3.lt 0 (by decide)) (hmd3.2 0 (by decide)) rfl hl.1 rfl (Nat.le_of_ble_eq_true rfl) ⟨by omega, by omega⟩ dL_law_2565) hS (fun rz9 w9 H locs hq9 hP hS => ?_)
      obtain ⟨hr9, hw9⟩ := hq9
      rw [hw9] at hP
      rw [hr9]
      refine lv_iload hx hb dL_law_2568 (lv_at hl 1 rfl) ?_
      refine g_eq S (a := 1) (b := 1) (by omega) (by omega) (tgt := 2575) dL_law_2570 (by decide) (fun hb9 => ?_) (fun hb9 => ?_)
      · refine lv_iload hx hb dL_law_2575 (lv_at hl 1 rfl) ?_
        refine g_ifne S (a := 1) (by omega) (tgt := 2592) dL_law_2577 (by decide) (fun hb8 => ?_) (fun hb8 => ?_)
        · refine lv_goto (tgt := 2997) hx hb dL_law_2592 (by decide) ?_
          exact W.widen (k := cells + 234) (n := slots + 2848) (by omega) (by omega) (kk9 ad1 N1 _ _ _ _ ⟨_, _, _, _, _, _, _, _, _, _, _, _, _, _, _, _, _, _, _, _, _, _, _, _, _, _, _, _, _, _, _, _, hcls3, hmd3, ⟨_, hfo3⟩, ⟨_, hfd3⟩, lawD.le (B := B) ⟨hrow, hhis, hsnp, hden, ⟨by omega, hbuf.2⟩, hlin, fun k hk => (by have h8 := rdP_b hbuf.1 60 0 0 k (by decide) (by decide) hk; omega)⟩ (by omega)⟩ hP hS (lv_sub hl [2, 3, 4, 5, 6, 7] rfl))
        · omega
      · exact absurd rfl hb9
  · skip
    rw [hrz]
    obtain ⟨hq, hX⟩ := hq
    obtain ⟨-, hc1, i1, r1, hd1, hsX, hhX, hdX⟩ := hq.resolve_left (fun z => absurd z.1 (by decide))
    have hl : lv_has ls 10 [(5, .int (nI (i))), (0, .ref (sa)), (1, .ref (ad1 (d))), (2, .ref (ad1 (d + 116))), (3, .ref (ad1 (d + 128))), (4, .ref (ad1 (d + 129)))] := by rw [hX.2.1 (d) (by omega), hX.2.1 (d + 116) (by omega), hX.2.1 (d + 128) (by omega), hX.2.1 (d + 129) (by omega)]; exact hl
    have hN1 : d + 130 ≤ N1 := Nat.le_trans hdN hX.1
    have hclsW : clsP E ad1 N1 w1 d kk (cpS S1 (rnL (rdP ln bf 60 0 0).2 0 S1).2) pl ct K sv Z fp (some 7) (nI i1) (some (rnD r1)) bf 0 tx := hcls.exe hX hdX hsX hhX
    have hmdW : bkP N1 w1 (d + 116) 12 (MDC E ad1 (d + 116) g kp svr bfr sd bf sg mk td lv tl sv qc (0 : Nat) qd co wy de ca ln fp sm pa tm) := md_exe hmd hX
    have hfoW := (hX.low (p := d + 128) (by omega) (by omega)).trans hfo
    have hfdW := (hX.low (p := d + 129) (by omega) (by omega)).trans hfd
    obtain ⟨wb, hwb⟩ : ∃ z, z = w1 := ⟨_, rfl⟩
    rw [← hwb] at hP
    have hcls2 : clsP E ad1 N1 wb d kk (cpS S1 (rnL (rdP ln bf 60 0 0).2 0 S1).2) pl ct K sv Z fp (some 7) (nI i1) (some (rnD r1)) bf 0 tx := by rw [hwb]; exact hclsW
    have hmd2 : bkP N1 wb (d + 116) 12 (MDC E ad1 (d + 116) g kp svr bfr sd bf sg mk td lv tl sv qc (0 : Nat) qd co wy de ca ln fp sm pa tm) := by rw [hwb]; exact hmdW
    have hfo2 : wb (d + 128) = loE E fo := by rw [hwb]; exact hfoW
    have hfd2 : wb (d + 129) = doE E fd := by rw [hwb]; exact hfdW
    refine lv_istore (lv' := [(6, .int (nI (2))), (5, .int (nI (i))), (0, .ref (sa)), (1, .ref (ad1 (d))), (2, .ref (ad1 (d + 116))), (3, .ref (ad1 (d + 128))), (4, .ref (ad1 (d + 129)))]) hx hb dL_law_2556 hl (by decide) rfl (fun ls hl => ?_)
    refine lv_aload_n hx hb dL_law_2558 rfl (lv_at hl 4 rfl) ?_
    refine g_afi (g_runV S hI hP hS (k := 0) (As := []) (rest := []) (mX13_execute l kk hzv (d + 116) g kp svr bfr sd bf sg mk td lv tl sv qc (0 : Nat) qd co wy de ca ln fp sm pa tm S1.1 S1.2.1 S1.2.2.1 S1.2.2.2.1 S1.2.2.2.2.1 S1.2.2.2.2.2.1 S1.2.2.2.2.2.2.1 S1.2.2.2.2.2.2.2.1 S1.2.2.2.2.2.2.2.2.1 S1.2.2.2.2.2.2.2.2.2 hmd2 hrow.1 hrow.2.1.1 hrow.2.1.2.1 hrow.2.1.2.2.1 hrow.2.1.2.2.2.1 hrow.2.1.2.2.2.2 rfl (by have := hhis.1; have := hhis.2.1; omega) hden.2.1 hbuf.1 (fun j _ => hbuf.2 j)) q2140 q2141 q2142 q100 q2143 rfl rfl (by decide +kernel) ⟨(Nat.le_trans (Nat.le_of_ble_eq_true rfl : _ ≤ 64) hRf), (Nat.le_trans (Nat.le_of_ble_eq_true rfl : _ ≤ 2000) hRl)⟩ rfl (hmd2.lt 0 (by decide)) (hmd2.2 0 (by decide)) rfl hl.1 rfl (Nat.le_of_ble_eq_true rfl) ⟨by omega, by omega⟩ dL_law_2559) hS (fun rz2 w3 H locs hq2 hP hS => ?_)
    obtain ⟨hq2, hfr⟩ := hq2
    rcases hq2 with ⟨hc2, hd2, hr2, g9, bf9, mk9, sd9, tl9, pa9, tm9, qd9, hR9, hbz9, hmd3⟩ | ⟨hc2, i2, r2, g9, bf9, mk9, sd9, tl9, pa9, tm9, hd2, hR9, hmd3⟩ | ⟨q2, tl9, pa9, tm9, hc2, hmd3⟩
    · skip
      exact absurd (hd1.symm.trans hd2) (by intro q9; cases q9)
    · skip
      obtain ⟨h7a, h7b⟩ := Prod.mk.inj (Option.some.inj (hd1.symm.trans hd2))
      subst h7a
      subst h7b
      have hcls3 : clsP E ad1 N1 w3 d kk (cpS S1 (rnL (rdP ln bf 60 0 0).2 0 S1).2) pl ct K sv Z fp (some 7) (nI i1) (some (rnD r1)) bf 0 tx := hcls2.fr (fun p hp => hfr p (by show ¬ _; (try dsimp only [gIn]); omega))
      have hfo3 := (hfr (d + 128) (by show ¬ _; (try dsimp only [gIn]); omega)).trans hfo2
      have hfd3 := (hfr (d + 129) (by show ¬ _; (try dsimp only [gIn]); omega)).trans hfd2
      refine lv_istore (lv' := [(7, .int rz2), (6, .int (nI (2))), (5, .int (nI (i))), (0, .ref (sa)), (1, .ref (ad1 (d))), (2, .ref (ad1 (d + 116))), (3, .ref (ad1 (d + 128))), (4, .ref (ad1 (d + 129)))]) hx hb dL_law_2562 hl (by decide) rfl (fun ls hl => ?_)
      refine lv_aload_n hx hb dL_law_2564 rfl (lv_at hl 5 rfl) ?_
      refine g_afi (g_runV S hI hP hS (k := 0) (As := []) (rest := []) (mX13_thrown l _ _ _ _ _ _ _ _ _ _ _ _ _ _ _ _ _ _ _ _ _ _ _ _ _ hmd3) q1860 q1861 q1862 q100 q1863 rfl rfl (by decide +kernel) ⟨(Nat.le_trans (Nat.le_of_ble_eq_true rfl : _ ≤ 64) hRf), (Nat.le_trans (Nat.le_of_ble_eq_true rfl : _ ≤ 2000) hRl)⟩ rfl (hmd3.lt 0 (by decide)) (hmd3.2 0 (by decide)) rfl hl.1 rfl (Nat.le_of_ble_eq_true rfl) ⟨by omega, by omega⟩ dL_law_2565) hS (fun rz9 w9 H locs hq9 hP hS => ?_)
      obtain ⟨hr9, hw9⟩ := hq9
      rw [hw9] at hP
      rw [hr9]
      refine lv_iload hx hb dL_law_2568 (lv_at hl 1 rfl) ?_
      refine g_eq S (a := 2) (b := 2) (by omega) (by omega) (tgt := 2575) dL_law_2570 (by decide) (fun hb9 => ?_) (fun hb9 => ?_)
      · refine lv_iload hx hb dL_law_2575 (lv_at hl 1 rfl) ?_
        refine g_ifne S (a := 2) (by omega) (tgt := 2592) dL_law_2577 (by decide) (fun hb8 => ?_) (fun hb8 => ?_)
        · refine lv_goto (tgt := 2997) hx hb dL_law_2592 (by decide) ?_
          exact W.widen (k := cells + 234) (n := slots + 2848) (by omega) (by omega) (kk9 ad1 N1 _ _ _ _ ⟨_, _, _, _, _, _, _, _, _, _, _, _, _, _, _, _, _, _, _, _, _, _, _, _, _, _, _, _, _, _, _, _, hcls3, hmd3, ⟨_, hfo3⟩, ⟨_, hfd3⟩, lawD.le (B := B) ⟨⟨hR9, hrow.2⟩, hhis, hsnp, ⟨rfl, by decide, (rnL_r _ 0 S1 i1 r1 hd1).2, fun _ => rfl, (by have h8 := (rnL_r _ 0 S1 i1 r1 hd1).1; rw [if_neg (by omega)])⟩, ⟨by omega, hbuf.2⟩, hlin, hfp⟩ (by omega)⟩ hP hS (lv_sub hl [2, 3, 4, 5, 6, 7] rfl))
        · omega
      · exact absurd rfl hb9
    · skip
      exact absurd (hc1.symm.trans hc2) (by intro q9; cases q9)
end CASES8
