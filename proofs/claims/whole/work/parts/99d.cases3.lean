/-! THE CASES OF THE LAW: routes -/
section CASES3
variable {p : Program} {l : Launch} {e : Env} {R : Room} {s : State} {m : MethodId} {args : Array Value} {below : List Frame} {meth : Method} {c : Code} {H : Heap} {locs : List Loc} {cells slots : Nat} {Q : State → Prop}
variable {cc : ByteArray} {pc nL : Nat} {ls : Array Slot} {rest st0 : List Value} {own : String} {E : gE} {ad : Nat → Nat} {N : Nat} {w : Nat → va_E}
set_option maxHeartbeats 4000000 in
set_option maxRecDepth 100000 in
/-- the law's case 21: routeCost -/
theorem lc_21 (kk : Nat → Nat) (hlt : l.stackTraces = false) (hz : gHx E) (hzv : gHv E kk) (hn : gHn E) (S : gFix p m c cL_law 10 s args RL) (hI : gI E s s.heap) (hP : gP E ad N w H) (hS : va_S (gA E) s.heap H locs) (hRf : 64 ≤ R.frames) (hRl : 2000 ≤ R.locals) (hRc : cells + 234 ≤ R.cells) (hRs : slots + 2848 ≤ R.slots) {d B i sa L : Nat} {xs : Nat → Int32} (hB : B ≤ 600000) (hinv : lawP E kk ad N w d B) (hX : va_X sa L xs s s.heap) (hsa : sa < s.heap.size) (hsA : ¬ gA E sa) (hi : i + 5 ≤ L) (hL : L < 2 ^ 31) (hl : lv_has ls 10 [(5, .int (nI (i))), (0, .ref (sa)), (1, .ref (ad (d))), (2, .ref (ad (d + 116))), (3, .ref (ad (d + 128))), (4, .ref (ad (d + 129)))])
    (kk9 : ∀ (ad' : Nat → Nat) (N' : Nat) (w' : Nat → va_E) (H' : Heap) (locs' : List Loc) (ls' : Array Slot), lawP E kk ad' N' w' d (B + 1000) → gP E ad' N' w' H' → va_S (gA E) s.heap H' locs' → lv_has ls' 10 [(5, .int (nI (i))), (0, .ref (sa)), (1, .ref (ad' (d))), (2, .ref (ad' (d + 116))), (3, .ref (ad' (d + 128))), (4, .ref (ad' (d + 129)))] → W p l e R s m args below meth c H' locs' (cells + 234) (slots + 2848) Q (F0 m 2997 ls' [])) :
    W p l e R s m args below meth c H locs cells slots Q (F0 m 1463 ls []) := by
  have hx := S.1
  have hb := S.2.1
  obtain ⟨S1, pl, ct, K, sv, Z, fp, dq, dd, dc, bf, ln, tx, g, kp, svr, bfr, sd, sg, mk, td, lv, tl, qc, qd, co, wy, de, ca, sm, pa, tm, hcls, hmd, ⟨fo, hfo⟩, ⟨fd, hfd⟩, hDat⟩ := hinv
  obtain ⟨hdN, ⟨hbd, hbs, hbz, ⟨A0, hba⟩, ⟨T0, hbt⟩, hhs⟩, hscr, hprs, hsb⟩ := id hcls
  obtain ⟨hrow, hhis, hsnp, hden, hbuf, hlin, hfp⟩ := id hDat
  obtain ⟨hs1, ⟨re, ce, rc, tc, hs2⟩, ⟨pa0, hs3⟩, ⟨ra, rk, hs4⟩, hs5, ⟨wa, ke, hs6, hs6a, hs6b⟩, ⟨lv0, hs7⟩, ⟨pn, hs8⟩, ⟨wa2, ke2, hs9, hs9a, hs9b⟩, ⟨re2, ce2, rc2, tc2, hs10⟩, ⟨pa2, hs11⟩, ⟨lv2, hs12⟩, ⟨pq, hs13⟩⟩ := id hscr
  refine lv_aload_n hx hb dL_law_1463 rfl (lv_at hl 2 rfl) ?_
  refine lv_aload_n hx hb dL_law_1464 rfl (lv_at hl 1 rfl) ?_
  refine lv_iload hx hb dL_law_1465 (lv_at hl 0 rfl) ?_
  refine g_iconst S 1 dL_law_1467 (by decide +kernel) ?_
  refine g_iadd S dL_law_1468 ?_
  refine g_sld S hX hsa hsA hS (i + 1) (by omega) hL dL_law_1469 ?_
  refine lv_aload_n hx hb dL_law_1470 rfl (lv_at hl 1 rfl) ?_
  refine lv_iload hx hb dL_law_1471 (lv_at hl 0 rfl) ?_
  refine g_iconst S 2 dL_law_1473 (by decide +kernel) ?_
  refine g_iadd S dL_law_1474 ?_
  refine g_sld S hX hsa hsA hS (i + 2) (by omega) hL dL_law_1475 ?_
  refine lv_aload_n hx hb dL_law_1476 rfl (lv_at hl 1 rfl) ?_
  refine lv_iload hx hb dL_law_1477 (lv_at hl 0 rfl) ?_
  refine g_iconst S 3 dL_law_1479 (by decide +kernel) ?_
  refine g_iadd S dL_law_1480 ?_
  refine g_sld S hX hsa hsA hS (i + 3) (by omega) hL dL_law_1481 ?_
  refine lv_aload_n hx hb dL_law_1482 rfl (lv_at hl 1 rfl) ?_
  refine lv_iload hx hb dL_law_1483 (lv_at hl 0 rfl) ?_
  refine g_iconst S 4 dL_law_1485 (by decide +kernel) ?_
  refine g_iadd S dL_law_1486 ?_
  refine g_sld S hX hsa hsA hS (i + 4) (by omega) hL dL_law_1487 ?_
  refine lv_aload_n hx hb dL_law_1488 rfl (lv_at hl 4 rfl) ?_
  refine g_afi (g_runSW S hI hP hS (hh := [(0, 14, 17, 13), (0, 14, 21, 37)]) (k := 6) (As := [.ref (ad (d)), .int (xs (i + 1)), .int (xs (i + 2)), .int (xs (i + 3)), .int (xs (i + 4)), .ref (ad (d + 128))]) (rest := []) (mL_routeCost l d (d + 128) (xs (i + 1)) (xs (i + 2)) (xs (i + 3)) (xs (i + 4)) hz hn (hbd.lt 0 (by decide)) (hbd.2 0 (by decide)) (mX12_routeCost l d sv fp dq dd dc S1.1 S1.2.1 S1.2.2.1 S1.2.2.2.1 S1.2.2.2.2.1 S1.2.2.2.2.2.1 S1.2.2.2.2.2.2.1 S1.2.2.2.2.2.2.2.1 S1.2.2.2.2.2.2.2.2.1 S1.2.2.2.2.2.2.2.2.2 pn lv2 wa2 ke2 (xs (i + 1)) (xs (i + 2)) (xs (i + 3)) (xs (i + 4)) hbd hbs hs8 hs9 hs12 hlt hz hrow.2.1.2.2.1 hrow.2.1.1 (fun k hk => by rw [hs9a k hk]; exact Nat.zero_le _) hs9b) (by omega) (fun r w' h => (by obtain ⟨-, hfw⟩ := h; exact ⟨fo, (hfw (d + 128) (by show ¬ _; (try simp only [gIn]); (try dsimp only); omega)).trans hfo⟩)) (fun xc w' h => h.elim (fun z => Or.inl z.1) (fun z => Or.inr z.1))) q1062 q1063 q81 q1064 rfl rfl (by decide +kernel) ⟨(Nat.le_trans (Nat.le_of_ble_eq_true rfl : _ ≤ 64) hRf), (Nat.le_trans (Nat.le_of_ble_eq_true rfl : _ ≤ 2000) hRl)⟩ rfl hl.1 rfl (Nat.le_of_ble_eq_true rfl) ⟨by omega, by omega⟩ dL_law_1489) hS (fun rz w1 H locs hq hP hS => ?_)
  rcases hq with ⟨v1, f1, w2, hrz, hf1, hw2, hq⟩ | ⟨hrz, hq⟩ | ⟨hrz, hq⟩
  · skip
    rw [hw2] at hP
    rw [hrz]
    obtain ⟨⟨a1, b1, hc1, hd1, hv1, hne, ⟨lv8, wa8, ke8, hiw, hn1, hn3⟩⟩, hfw⟩ := hq
    have hro := route_ok (cellV_lt hc1) hs9a hs9b hiw
    have hscr1 : scr E ad N w2 d := hscr.upRt ⟨_, _, hn1, hro⟩ ⟨_, hn3⟩ (fun p a b c => hfw p (by show ¬ _; (try simp only [gIn]); (try dsimp only); omega))
    have hclsW : clsP E ad N w2 d kk S1 pl ct K sv Z fp dq dd dc bf ln tx := hcls.sc hscr1 (fun p hp => hfw p (by show ¬ _; (try simp only [gIn]); (try dsimp only); omega))
    have hmdW : bkP N w2 (d + 116) 12 (MDC E ad (d + 116) g kp svr bfr sd bf sg mk td lv tl sv qc (0 : Nat) qd co wy de ca ln fp sm pa tm) := hmd.fr hfw (fun k hk => (by show ¬ _; (try simp only [gIn]); (try dsimp only); omega))
    have hfoW := (hfw (d + 128) (by show ¬ _; (try simp only [gIn]); (try dsimp only); omega)).trans hfo
    have hfdW := (hfw (d + 129) (by show ¬ _; (try simp only [gIn]); (try dsimp only); omega)).trans hfd
    obtain ⟨wb, hwb⟩ : ∃ z, z = va_up w2 (d + 128) (loE E f1) := ⟨_, rfl⟩
    rw [← hwb] at hP
    have hcls2 : clsP E ad N wb d kk S1 pl ct K sv Z fp dq dd dc bf ln tx := hclsW.fr (fun p hp => by rw [hwb, va_up_ne _ _ (by omega)])
    have hmd2 : bkP N wb (d + 116) 12 (MDC E ad (d + 116) g kp svr bfr sd bf sg mk td lv tl sv qc (0 : Nat) qd co wy de ca ln fp sm pa tm) := by rw [hwb]; exact hmdW.keep (by omega)
    have hfo2 : wb (d + 128) = loE E f1 := by rw [hwb, va_up_self]
    have hfd2 : wb (d + 129) = doE E fd := by rw [hwb, va_up_ne _ _ (by omega)]; exact hfdW
    refine lv_istore (lv' := [(6, .int (nI (0))), (5, .int (nI (i))), (0, .ref (sa)), (1, .ref (ad (d))), (2, .ref (ad (d + 116))), (3, .ref (ad (d + 128))), (4, .ref (ad (d + 129)))]) hx hb dL_law_1492 hl (by decide) rfl (fun ls hl => ?_)
    refine lv_aload_n hx hb dL_law_1494 rfl (lv_at hl 4 rfl) ?_
    refine lv_aload_n hx hb dL_law_1495 rfl (lv_at hl 2 rfl) ?_
    refine lv_iload hx hb dL_law_1496 (lv_at hl 1 rfl) ?_
    refine g_iconst S 1 dL_law_1498 (by decide +kernel) ?_
    refine g_iadd S dL_law_1499 ?_
    refine g_sld S hX hsa hsA hS (i + 1) (by omega) hL dL_law_1500 ?_
    refine lv_aload_n hx hb dL_law_1501 rfl (lv_at hl 2 rfl) ?_
    refine lv_iload hx hb dL_law_1502 (lv_at hl 1 rfl) ?_
    refine g_iconst S 2 dL_law_1504 (by decide +kernel) ?_
    refine g_iadd S dL_law_1505 ?_
    refine g_sld S hX hsa hsA hS (i + 2) (by omega) hL dL_law_1506 ?_
    refine lv_aload_n hx hb dL_law_1507 rfl (lv_at hl 2 rfl) ?_
    refine lv_iload hx hb dL_law_1508 (lv_at hl 1 rfl) ?_
    refine g_iconst S 3 dL_law_1510 (by decide +kernel) ?_
    refine g_iadd S dL_law_1511 ?_
    refine g_sld S hX hsa hsA hS (i + 3) (by omega) hL dL_law_1512 ?_
    refine lv_aload_n hx hb dL_law_1513 rfl (lv_at hl 2 rfl) ?_
    refine lv_iload hx hb dL_law_1514 (lv_at hl 1 rfl) ?_
    refine g_iconst S 4 dL_law_1516 (by decide +kernel) ?_
    refine g_iadd S dL_law_1517 ?_
    refine g_sld S hX hsa hsA hS (i + 4) (by omega) hL dL_law_1518 ?_
    refine g_afi (g_runV S hI hP hS (k := 4) (As := [.int (xs (i + 1)), .int (xs (i + 2)), .int (xs (i + 3)), .int (xs (i + 4))]) (rest := []) (mX13_routeCost l (d + 116) g kp svr bfr sd bf sg mk td lv tl sv qc (0 : Nat) qd co wy de ca ln fp sm pa tm S1.1 S1.2.1 S1.2.2.1 S1.2.2.2.1 S1.2.2.2.2.1 S1.2.2.2.2.2.1 S1.2.2.2.2.2.2.1 S1.2.2.2.2.2.2.2.1 S1.2.2.2.2.2.2.2.2.1 S1.2.2.2.2.2.2.2.2.2 (xs (i + 1)) (xs (i + 2)) (xs (i + 3)) (xs (i + 4)) hmd2 hrow.1 hrow.2.1.1 hrow.2.1.2.2.1) q2028 q2029 q2030 q100 q2031 rfl rfl (by decide +kernel) ⟨(Nat.le_trans (Nat.le_of_ble_eq_true rfl : _ ≤ 64) hRf), (Nat.le_trans (Nat.le_of_ble_eq_true rfl : _ ≤ 2000) hRl)⟩ rfl (hmd2.lt 0 (by decide)) (hmd2.2 0 (by decide)) rfl hl.1 rfl (Nat.le_of_ble_eq_true rfl) ⟨by omega, by omega⟩ dL_law_1519) hS (fun rz2 w3 H locs hq2 hP hS => ?_)
    obtain ⟨hq2, hfr⟩ := hq2
    rcases hq2 with ⟨a2, c2, hc2, hd2, lv9, hg2, (⟨hn2, hr2, hmd3⟩ | ⟨hn2, hmd3⟩)⟩ | ⟨hc2, hmd3⟩
    · skip
      have hcls3 : clsP E ad N w3 d kk S1 pl ct K sv Z fp dq dd dc bf ln tx := hcls2.fr (fun p hp => hfr p (by show ¬ _; (try dsimp only [gIn]); omega))
      have hfo3 := (hfr (d + 128) (by show ¬ _; (try dsimp only [gIn]); omega)).trans hfo2
      have hfd3 := (hfr (d + 129) (by show ¬ _; (try dsimp only [gIn]); omega)).trans hfd2
      have hka := Option.some.inj (hc1.symm.trans hc2)
      have hkb := Option.some.inj (hd1.symm.trans hd2)
      subst hka
      subst hkb
      have heq := rt_cost (lv := lv2) (ke := ke2) (cellV_lt hc2) (cellV_lt hd2) hs9a hg2
      have hv9 : v1 = rz2 := by rw [hv1, hr2, heq]; unfold kcI; rw [if_neg hn2]
      rw [hv9] at hf1
      refine lv_istore (lv' := [(7, .int rz2), (6, .int (nI (0))), (5, .int (nI (i))), (0, .ref (sa)), (1, .ref (ad (d))), (2, .ref (ad (d + 116))), (3, .ref (ad (d + 128))), (4, .ref (ad (d + 129)))]) hx hb dL_law_1522 hl (by decide) rfl (fun ls hl => ?_)
      refine lv_aload_n hx hb dL_law_1524 rfl (lv_at hl 5 rfl) ?_
      refine g_afi (g_runV S hI hP hS (k := 0) (As := []) (rest := []) (mX13_thrown l _ _ _ _ _ _ _ _ _ _ _ _ _ _ _ _ _ _ _ _ _ _ _ _ _ hmd3) q1860 q1861 q1862 q100 q1863 rfl rfl (by decide +kernel) ⟨(Nat.le_trans (Nat.le_of_ble_eq_true rfl : _ ≤ 64) hRf), (Nat.le_trans (Nat.le_of_ble_eq_true rfl : _ ≤ 2000) hRl)⟩ rfl (hmd3.lt 0 (by decide)) (hmd3.2 0 (by decide)) rfl hl.1 rfl (Nat.le_of_ble_eq_true rfl) ⟨by omega, by omega⟩ dL_law_1525) hS (fun rz9 w9 H locs hq9 hP hS => ?_)
      obtain ⟨hr9, hw9⟩ := hq9
      rw [hw9] at hP
      rw [hr9]
      refine lv_iload hx hb dL_law_1528 (lv_at hl 1 rfl) ?_
      refine g_eq S (a := 0) (b := 0) (by omega) (by omega) (tgt := 1535) dL_law_1530 (by decide) (fun hb9 => ?_) (fun hb9 => ?_)
      · refine lv_iload hx hb dL_law_1535 (lv_at hl 1 rfl) ?_
        refine g_ifne S (a := 0) (by omega) (tgt := 1552) dL_law_1537 (by decide) (fun hb8 => ?_) (fun hb8 => ?_)
        · omega
        · refine lv_aload_n hx hb dL_law_1540 rfl (lv_at hl 6 rfl) ?_
          refine g_iconst S 0 dL_law_1541 (by decide +kernel) ?_
          refine g_lald S hI hP (o := d + 128) (by omega) hfo3 dL_law_1542 ?_
          rw [hf1]
          refine lv_iload hx hb dL_law_1543 (lv_at hl 0 rfl) ?_
          refine lv_i2l hx hb dL_law_1545 rfl ?_
          refine g_lcmpE S dL_law_1546 ?_
          refine g_ifeq S (a := 0) (by omega) (tgt := 1552) dL_law_1547 (by decide) (fun hb7 => ?_) (fun hb7 => ?_)
          · refine lv_goto (tgt := 2997) hx hb dL_law_1552 (by decide) ?_
            exact W.widen (k := cells + 234) (n := slots + 2848) (by omega) (by omega) (kk9 ad N _ _ _ _ ⟨_, _, _, _, _, _, _, _, _, _, _, _, _, _, _, _, _, _, _, _, _, _, _, _, _, _, _, _, _, _, _, _, hcls3, hmd3, ⟨_, hfo3⟩, ⟨_, hfd3⟩, hDat.le (by omega)⟩ hP hS (lv_sub hl [2, 3, 4, 5, 6, 7] rfl))
          · omega
      · exact absurd rfl hb9
    · skip
      have hka := Option.some.inj (hc1.symm.trans hc2)
      have hkb := Option.some.inj (hd1.symm.trans hd2)
      subst hka
      subst hkb
      have heq := rt_cost (lv := lv2) (ke := ke2) (cellV_lt hc2) (cellV_lt hd2) hs9a hg2
      rw [hv1, heq] at hne
      exact absurd ((kcI_none (grt_le (cellV_lt hd2) hg2)).mpr hn2) hne
    · skip
      rcases hc2 with h9 | h9
      · rw [h9] at hc1; cases hc1
      · rw [h9] at hd1; cases hd1
  · skip
    rw [hrz]
    have hq := hq.resolve_right (fun z => absurd z.1 (by decide))
    obtain ⟨-, hc1, hw1⟩ := hq
    rw [hw1] at hP
    have hclsW := hcls
    have hmdW := hmd
    have hfoW := hfo
    have hfdW := hfd
    obtain ⟨wb, hwb⟩ : ∃ z, z = w := ⟨_, rfl⟩
    rw [← hwb] at hP
    have hcls2 : clsP E ad N wb d kk S1 pl ct K sv Z fp dq dd dc bf ln tx := by rw [hwb]; exact hclsW
    have hmd2 : bkP N wb (d + 116) 12 (MDC E ad (d + 116) g kp svr bfr sd bf sg mk td lv tl sv qc (0 : Nat) qd co wy de ca ln fp sm pa tm) := by rw [hwb]; exact hmdW
    have hfo2 : wb (d + 128) = loE E fo := by rw [hwb]; exact hfoW
    have hfd2 : wb (d + 129) = doE E fd := by rw [hwb]; exact hfdW
    refine lv_istore (lv' := [(6, .int (nI (1))), (5, .int (nI (i))), (0, .ref (sa)), (1, .ref (ad (d))), (2, .ref (ad (d + 116))), (3, .ref (ad (d + 128))), (4, .ref (ad (d + 129)))]) hx hb dL_law_1492 hl (by decide) rfl (fun ls hl => ?_)
    refine lv_aload_n hx hb dL_law_1494 rfl (lv_at hl 4 rfl) ?_
    refine lv_aload_n hx hb dL_law_1495 rfl (lv_at hl 2 rfl) ?_
    refine lv_iload hx hb dL_law_1496 (lv_at hl 1 rfl) ?_
    refine g_iconst S 1 dL_law_1498 (by decide +kernel) ?_
    refine g_iadd S dL_law_1499 ?_
    refine g_sld S hX hsa hsA hS (i + 1) (by omega) hL dL_law_1500 ?_
    refine lv_aload_n hx hb dL_law_1501 rfl (lv_at hl 2 rfl) ?_
    refine lv_iload hx hb dL_law_1502 (lv_at hl 1 rfl) ?_
    refine g_iconst S 2 dL_law_1504 (by decide +kernel) ?_
    refine g_iadd S dL_law_1505 ?_
    refine g_sld S hX hsa hsA hS (i + 2) (by omega) hL dL_law_1506 ?_
    refine lv_aload_n hx hb dL_law_1507 rfl (lv_at hl 2 rfl) ?_
    refine lv_iload hx hb dL_law_1508 (lv_at hl 1 rfl) ?_
    refine g_iconst S 3 dL_law_1510 (by decide +kernel) ?_
    refine g_iadd S dL_law_1511 ?_
    refine g_sld S hX hsa hsA hS (i + 3) (by omega) hL dL_law_1512 ?_
    refine lv_aload_n hx hb dL_law_1513 rfl (lv_at hl 2 rfl) ?_
    refine lv_iload hx hb dL_law_1514 (lv_at hl 1 rfl) ?_
    refine g_iconst S 4 dL_law_1516 (by decide +kernel) ?_
    refine g_iadd S dL_law_1517 ?_
    refine g_sld S hX hsa hsA hS (i + 4) (by omega) hL dL_law_1518 ?_
    refine g_afi (g_runV S hI hP hS (k := 4) (As := [.int (xs (i + 1)), .int (xs (i + 2)), .int (xs (i + 3)), .int (xs (i + 4))]) (rest := []) (mX13_routeCost l (d + 116) g kp svr bfr sd bf sg mk td lv tl sv qc (0 : Nat) qd co wy de ca ln fp sm pa tm S1.1 S1.2.1 S1.2.2.1 S1.2.2.2.1 S1.2.2.2.2.1 S1.2.2.2.2.2.1 S1.2.2.2.2.2.2.1 S1.2.2.2.2.2.2.2.1 S1.2.2.2.2.2.2.2.2.1 S1.2.2.2.2.2.2.2.2.2 (xs (i + 1)) (xs (i + 2)) (xs (i + 3)) (xs (i + 4)) hmd2 hrow.1 hrow.2.1.1 hrow.2.1.2.2.1) q2028 q2029 q2030 q100 q2031 rfl rfl (by decide +kernel) ⟨(Nat.le_trans (Nat.le_of_ble_eq_true rfl : _ ≤ 64) hRf), (Nat.le_trans (Nat.le_of_ble_eq_true rfl : _ ≤ 2000) hRl)⟩ rfl (hmd2.lt 0 (by decide)) (hmd2.2 0 (by decide)) rfl hl.1 rfl (Nat.le_of_ble_eq_true rfl) ⟨by omega, by omega⟩ dL_law_1519) hS (fun rz2 w3 H locs hq2 hP hS => ?_)
    obtain ⟨hq2, hfr⟩ := hq2
    rcases hq2 with ⟨a2, c2, hc2, hd2, lv9, hg2, (⟨hn2, hr2, hmd3⟩ | ⟨hn2, hmd3⟩)⟩ | ⟨hc2, hmd3⟩
    · skip
      rcases hc1 with h9 | h9
      · rw [h9] at hc2; cases hc2
      · rw [h9] at hd2; cases hd2
    · skip
      rcases hc1 with h9 | h9
      · rw [h9] at hc2; cases hc2
      · rw [h9] at hd2; cases hd2
    · skip
      have hcls3 : clsP E ad N w3 d kk S1 pl ct K sv Z fp dq dd dc bf ln tx := hcls2.fr (fun p hp => hfr p (by show ¬ _; (try dsimp only [gIn]); omega))
      have hfo3 := (hfr (d + 128) (by show ¬ _; (try dsimp only [gIn]); omega)).trans hfo2
      have hfd3 := (hfr (d + 129) (by show ¬ _; (try dsimp only [gIn]); omega)).trans hfd2
      refine lv_istore (lv' := [(7, .int rz2), (6, .int (nI (1))), (5, .int (nI (i))), (0, .ref (sa)), (1, .ref (ad (d))), (2, .ref (ad (d + 116))), (3, .ref (ad (d + 128))), (4, .ref (ad (d + 129)))]) hx hb dL_law_1522 hl (by decide) rfl (fun ls hl => ?_)
      refine lv_aload_n hx hb dL_law_1524 rfl (lv_at hl 5 rfl) ?_
      refine g_afi (g_runV S hI hP hS (k := 0) (As := []) (rest := []) (mX13_thrown l _ _ _ _ _ _ _ _ _ _ _ _ _ _ _ _ _ _ _ _ _ _ _ _ _ hmd3) q1860 q1861 q1862 q100 q1863 rfl rfl (by decide +kernel) ⟨(Nat.le_trans (Nat.le_of_ble_eq_true rfl : _ ≤ 64) hRf), (Nat.le_trans (Nat.le_of_ble_eq_true rfl : _ ≤ 2000) hRl)⟩ rfl (hmd3.lt 0 (by decide)) (hmd3.2 0 (by decide)) rfl hl.1 rfl (Nat.le_of_ble_eq_true rfl) ⟨by omega, by omega⟩ dL_law_1525) hS (fun rz9 w9 H locs hq9 hP hS => ?_)
      obtain ⟨hr9, hw9⟩ := hq9
      rw [hw9] at hP
      rw [hr9]
      refine lv_iload hx hb dL_law_1528 (lv_at hl 1 rfl) ?_
      refine g_eq S (a := 1) (b := 1) (by omega) (by omega) (tgt := 1535) dL_law_1530 (by decide) (fun hb9 => ?_) (fun hb9 => ?_)
      · refine lv_iload hx hb dL_law_1535 (lv_at hl 1 rfl) ?_
        refine g_ifne S (a := 1) (by omega) (tgt := 1552) dL_law_1537 (by decide) (fun hb8 => ?_) (fun hb8 => ?_)
        · refine lv_goto (tgt := 2997) hx hb dL_law_1552 (by decide) ?_
          exact W.widen (k := cells + 234) (n := slots + 2848) (by omega) (by omega) (kk9 ad N _ _ _ _ ⟨_, _, _, _, _, _, _, _, _, _, _, _, _, _, _, _, _, _, _, _, _, _, _, _, _, _, _, _, _, _, _, _, hcls3, hmd3, ⟨_, hfo3⟩, ⟨_, hfd3⟩, hDat.le (by omega)⟩ hP hS (lv_sub hl [2, 3, 4, 5, 6, 7] rfl))
        · omega
      · exact absurd rfl hb9
  · skip
    rw [hrz]
    have hq := (hq.resolve_left (fun z => absurd z.1 (by decide))).2
    obtain ⟨⟨a1, b1, hc1, hd1, hv1, ⟨lv8, wa8, ke8, hiw, hn1, hn3⟩⟩, hfw⟩ := hq
    have hro := route_ok (cellV_lt hc1) hs9a hs9b hiw
    have hscr1 : scr E ad N w1 d := hscr.upRt ⟨_, _, hn1, hro⟩ ⟨_, hn3⟩ (fun p a b c => hfw p (by show ¬ _; (try simp only [gIn]); (try dsimp only); omega))
    have hclsW : clsP E ad N w1 d kk S1 pl ct K sv Z fp dq dd dc bf ln tx := hcls.sc hscr1 (fun p hp => hfw p (by show ¬ _; (try simp only [gIn]); (try dsimp only); omega))
    have hmdW : bkP N w1 (d + 116) 12 (MDC E ad (d + 116) g kp svr bfr sd bf sg mk td lv tl sv qc (0 : Nat) qd co wy de ca ln fp sm pa tm) := hmd.fr hfw (fun k hk => (by show ¬ _; (try simp only [gIn]); (try dsimp only); omega))
    have hfoW := (hfw (d + 128) (by show ¬ _; (try simp only [gIn]); (try dsimp only); omega)).trans hfo
    have hfdW := (hfw (d + 129) (by show ¬ _; (try simp only [gIn]); (try dsimp only); omega)).trans hfd
    obtain ⟨wb, hwb⟩ : ∃ z, z = w1 := ⟨_, rfl⟩
    rw [← hwb] at hP
    have hcls2 : clsP E ad N wb d kk S1 pl ct K sv Z fp dq dd dc bf ln tx := by rw [hwb]; exact hclsW
    have hmd2 : bkP N wb (d + 116) 12 (MDC E ad (d + 116) g kp svr bfr sd bf sg mk td lv tl sv qc (0 : Nat) qd co wy de ca ln fp sm pa tm) := by rw [hwb]; exact hmdW
    have hfo2 : wb (d + 128) = loE E fo := by rw [hwb]; exact hfoW
    have hfd2 : wb (d + 129) = doE E fd := by rw [hwb]; exact hfdW
    refine lv_istore (lv' := [(6, .int (nI (2))), (5, .int (nI (i))), (0, .ref (sa)), (1, .ref (ad (d))), (2, .ref (ad (d + 116))), (3, .ref (ad (d + 128))), (4, .ref (ad (d + 129)))]) hx hb dL_law_1492 hl (by decide) rfl (fun ls hl => ?_)
    refine lv_aload_n hx hb dL_law_1494 rfl (lv_at hl 4 rfl) ?_
    refine lv_aload_n hx hb dL_law_1495 rfl (lv_at hl 2 rfl) ?_
    refine lv_iload hx hb dL_law_1496 (lv_at hl 1 rfl) ?_
    refine g_iconst S 1 dL_law_1498 (by decide +kernel) ?_
    refine g_iadd S dL_law_1499 ?_
    refine g_sld S hX hsa hsA hS (i + 1) (by omega) hL dL_law_1500 ?_
    refine lv_aload_n hx hb dL_law_1501 rfl (lv_at hl 2 rfl) ?_
    refine lv_iload hx hb dL_law_1502 (lv_at hl 1 rfl) ?_
    refine g_iconst S 2 dL_law_1504 (by decide +kernel) ?_
    refine g_iadd S dL_law_1505 ?_
    refine g_sld S hX hsa hsA hS (i + 2) (by omega) hL dL_law_1506 ?_
    refine lv_aload_n hx hb dL_law_1507 rfl (lv_at hl 2 rfl) ?_
    refine lv_iload hx hb dL_law_1508 (lv_at hl 1 rfl) ?_
    refine g_iconst S 3 dL_law_1510 (by decide +kernel) ?_
    refine g_iadd S dL_law_1511 ?_
    refine g_sld S hX hsa hsA hS (i + 3) (by omega) hL dL_law_1512 ?_
    refine lv_aload_n hx hb dL_law_1513 rfl (lv_at hl 2 rfl) ?_
    refine lv_iload hx hb dL_law_1514 (lv_at hl 1 rfl) ?_
    refine g_iconst S 4 dL_law_1516 (by decide +kernel) ?_
    refine g_iadd S dL_law_1517 ?_
    refine g_sld S hX hsa hsA hS (i + 4) (by omega) hL dL_law_1518 ?_
    refine g_afi (g_runV S hI hP hS (k := 4) (As := [.int (xs (i + 1)), .int (xs (i + 2)), .int (xs (i + 3)), .int (xs (i + 4))]) (rest := []) (mX13_routeCost l (d + 116) g kp svr bfr sd bf sg mk td lv tl sv qc (0 : Nat) qd co wy de ca ln fp sm pa tm S1.1 S1.2.1 S1.2.2.1 S1.2.2.2.1 S1.2.2.2.2.1 S1.2.2.2.2.2.1 S1.2.2.2.2.2.2.1 S1.2.2.2.2.2.2.2.1 S1.2.2.2.2.2.2.2.2.1 S1.2.2.2.2.2.2.2.2.2 (xs (i + 1)) (xs (i + 2)) (xs (i + 3)) (xs (i + 4)) hmd2 hrow.1 hrow.2.1.1 hrow.2.1.2.2.1) q2028 q2029 q2030 q100 q2031 rfl rfl (by decide +kernel) ⟨(Nat.le_trans (Nat.le_of_ble_eq_true rfl : _ ≤ 64) hRf), (Nat.le_trans (Nat.le_of_ble_eq_true rfl : _ ≤ 2000) hRl)⟩ rfl (hmd2.lt 0 (by decide)) (hmd2.2 0 (by decide)) rfl hl.1 rfl (Nat.le_of_ble_eq_true rfl) ⟨by omega, by omega⟩ dL_law_1519) hS (fun rz2 w3 H locs hq2 hP hS => ?_)
    obtain ⟨hq2, hfr⟩ := hq2
    rcases hq2 with ⟨a2, c2, hc2, hd2, lv9, hg2, (⟨hn2, hr2, hmd3⟩ | ⟨hn2, hmd3⟩)⟩ | ⟨hc2, hmd3⟩
    · skip
      have hka := Option.some.inj (hc1.symm.trans hc2)
      have hkb := Option.some.inj (hd1.symm.trans hd2)
      subst hka
      subst hkb
      have heq := rt_cost (lv := lv2) (ke := ke2) (cellV_lt hc2) (cellV_lt hd2) hs9a hg2
      rw [heq] at hv1
      exact absurd ((kcI_none (grt_le (cellV_lt hd2) hg2)).mp hv1) hn2
    · skip
      have hcls3 : clsP E ad N w3 d kk S1 pl ct K sv Z fp dq dd dc bf ln tx := hcls2.fr (fun p hp => hfr p (by show ¬ _; (try dsimp only [gIn]); omega))
      have hfo3 := (hfr (d + 128) (by show ¬ _; (try dsimp only [gIn]); omega)).trans hfo2
      have hfd3 := (hfr (d + 129) (by show ¬ _; (try dsimp only [gIn]); omega)).trans hfd2
      refine lv_istore (lv' := [(7, .int rz2), (6, .int (nI (2))), (5, .int (nI (i))), (0, .ref (sa)), (1, .ref (ad (d))), (2, .ref (ad (d + 116))), (3, .ref (ad (d + 128))), (4, .ref (ad (d + 129)))]) hx hb dL_law_1522 hl (by decide) rfl (fun ls hl => ?_)
      refine lv_aload_n hx hb dL_law_1524 rfl (lv_at hl 5 rfl) ?_
      refine g_afi (g_runV S hI hP hS (k := 0) (As := []) (rest := []) (mX13_thrown l _ _ _ _ _ _ _ _ _ _ _ _ _ _ _ _ _ _ _ _ _ _ _ _ _ hmd3) q1860 q1861 q1862 q100 q1863 rfl rfl (by decide +kernel) ⟨(Nat.le_trans (Nat.le_of_ble_eq_true rfl : _ ≤ 64) hRf), (Nat.le_trans (Nat.le_of_ble_eq_true rfl : _ ≤ 2000) hRl)⟩ rfl (hmd3.lt 0 (by decide)) (hmd3.2 0 (by decide)) rfl hl.1 rfl (Nat.le_of_ble_eq_true rfl) ⟨by omega, by omega⟩ dL_law_1525) hS (fun rz9 w9 H locs hq9 hP hS => ?_)
      obtain ⟨hr9, hw9⟩ := hq9
      rw [hw9] at hP
      rw [hr9]
      refine lv_iload hx hb dL_law_1528 (lv_at hl 1 rfl) ?_
      refine g_eq S (a := 2) (b := 2) (by omega) (by omega) (tgt := 1535) dL_law_1530 (by decide) (fun hb9 => ?_) (fun hb9 => ?_)
      · refine lv_iload hx hb dL_law_1535 (lv_at hl 1 rfl) ?_
        refine g_ifne S (a := 2) (by omega) (tgt := 1552) dL_law_1537 (by decide) (fun hb8 => ?_) (fun hb8 => ?_)
        · refine lv_goto (tgt := 2997) hx hb dL_law_1552 (by decide) ?_
          exact W.widen (k := cells + 234) (n := slots + 2848) (by omega) (by omega) (kk9 ad N _ _ _ _ ⟨_, _, _, _, _, _, _, _, _, _, _, _, _, _, _, _, _, _, _, _, _, _, _, _, _, _, _, _, _, _, _, _, hcls3, hmd3, ⟨_, hfo3⟩, ⟨_, hfd3⟩, hDat.le (by omega)⟩ hP hS (lv_sub hl [2, 3, 4, 5, 6, 7] rfl))
        · omega
      · exact absurd rfl hb9
    · skip
      rcases hc2 with h9 | h9
      · rw [h9] at hc1; cases hc1
      · rw [h9] at hd1; cases hd1
set_option maxHeartbeats 4000000 in
set_option maxRecDepth 100000 in
/-- the law's case 22: routeCostByRounds -/
theorem lc_22 (kk : Nat → Nat) (hlt : l.stackTraces = false) (hz : gHx E) (hzv : gHv E kk) (hn : gHn E) (S : gFix p m c cL_law 10 s args RL) (hI : gI E s s.heap) (hP : gP E ad N w H) (hS : va_S (gA E) s.heap H locs) (hRf : 64 ≤ R.frames) (hRl : 2000 ≤ R.locals) (hRc : cells + 234 ≤ R.cells) (hRs : slots + 2848 ≤ R.slots) {d B i sa L : Nat} {xs : Nat → Int32} (hB : B ≤ 600000) (hinv : lawP E kk ad N w d B) (hX : va_X sa L xs s s.heap) (hsa : sa < s.heap.size) (hsA : ¬ gA E sa) (hi : i + 5 ≤ L) (hL : L < 2 ^ 31) (hl : lv_has ls 10 [(5, .int (nI (i))), (0, .ref (sa)), (1, .ref (ad (d))), (2, .ref (ad (d + 116))), (3, .ref (ad (d + 128))), (4, .ref (ad (d + 129)))])
    (kk9 : ∀ (ad' : Nat → Nat) (N' : Nat) (w' : Nat → va_E) (H' : Heap) (locs' : List Loc) (ls' : Array Slot), lawP E kk ad' N' w' d (B + 1000) → gP E ad' N' w' H' → va_S (gA E) s.heap H' locs' → lv_has ls' 10 [(5, .int (nI (i))), (0, .ref (sa)), (1, .ref (ad' (d))), (2, .ref (ad' (d + 116))), (3, .ref (ad' (d + 128))), (4, .ref (ad' (d + 129)))] → W p l e R s m args below meth c H' locs' (cells + 234) (slots + 2848) Q (F0 m 2997 ls' [])) :
    W p l e R s m args below meth c H locs cells slots Q (F0 m 1555 ls []) := by
  have hx := S.1
  have hb := S.2.1
  obtain ⟨S1, pl, ct, K, sv, Z, fp, dq, dd, dc, bf, ln, tx, g, kp, svr, bfr, sd, sg, mk, td, lv, tl, qc, qd, co, wy, de, ca, sm, pa, tm, hcls, hmd, ⟨fo, hfo⟩, ⟨fd, hfd⟩, hDat⟩ := hinv
  obtain ⟨hdN, ⟨hbd, hbs, hbz, ⟨A0, hba⟩, ⟨T0, hbt⟩, hhs⟩, hscr, hprs, hsb⟩ := id hcls
  obtain ⟨hrow, hhis, hsnp, hden, hbuf, hlin, hfp⟩ := id hDat
  obtain ⟨hs1, ⟨re, ce, rc, tc, hs2⟩, ⟨pa0, hs3⟩, ⟨ra, rk, hs4⟩, hs5, ⟨wa, ke, hs6, hs6a, hs6b⟩, ⟨lv0, hs7⟩, ⟨pn, hs8⟩, ⟨wa2, ke2, hs9, hs9a, hs9b⟩, ⟨re2, ce2, rc2, tc2, hs10⟩, ⟨pa2, hs11⟩, ⟨lv2, hs12⟩, ⟨pq, hs13⟩⟩ := id hscr
  refine lv_aload_n hx hb dL_law_1555 rfl (lv_at hl 2 rfl) ?_
  refine lv_aload_n hx hb dL_law_1556 rfl (lv_at hl 1 rfl) ?_
  refine lv_iload hx hb dL_law_1557 (lv_at hl 0 rfl) ?_
  refine g_iconst S 1 dL_law_1559 (by decide +kernel) ?_
  refine g_iadd S dL_law_1560 ?_
  refine g_sld S hX hsa hsA hS (i + 1) (by omega) hL dL_law_1561 ?_
  refine lv_aload_n hx hb dL_law_1562 rfl (lv_at hl 1 rfl) ?_
  refine lv_iload hx hb dL_law_1563 (lv_at hl 0 rfl) ?_
  refine g_iconst S 2 dL_law_1565 (by decide +kernel) ?_
  refine g_iadd S dL_law_1566 ?_
  refine g_sld S hX hsa hsA hS (i + 2) (by omega) hL dL_law_1567 ?_
  refine lv_aload_n hx hb dL_law_1568 rfl (lv_at hl 1 rfl) ?_
  refine lv_iload hx hb dL_law_1569 (lv_at hl 0 rfl) ?_
  refine g_iconst S 3 dL_law_1571 (by decide +kernel) ?_
  refine g_iadd S dL_law_1572 ?_
  refine g_sld S hX hsa hsA hS (i + 3) (by omega) hL dL_law_1573 ?_
  refine lv_aload_n hx hb dL_law_1574 rfl (lv_at hl 1 rfl) ?_
  refine lv_iload hx hb dL_law_1575 (lv_at hl 0 rfl) ?_
  refine g_iconst S 4 dL_law_1577 (by decide +kernel) ?_
  refine g_iadd S dL_law_1578 ?_
  refine g_sld S hX hsa hsA hS (i + 4) (by omega) hL dL_law_1579 ?_
  refine lv_aload_n hx hb dL_law_1580 rfl (lv_at hl 4 rfl) ?_
  refine g_afi (g_runSW S hI hP hS (hh := [(0, 14, 17, 13), (0, 14, 21, 37)]) (k := 6) (As := [.ref (ad (d)), .int (xs (i + 1)), .int (xs (i + 2)), .int (xs (i + 3)), .int (xs (i + 4)), .ref (ad (d + 128))]) (rest := []) (mL_routeCostByRounds l d (d + 128) (xs (i + 1)) (xs (i + 2)) (xs (i + 3)) (xs (i + 4)) hz hn (hbd.lt 0 (by decide)) (hbd.2 0 (by decide)) (mX12_routeCostByRounds l d sv fp dq dd dc S1.1 S1.2.1 S1.2.2.1 S1.2.2.2.1 S1.2.2.2.2.1 S1.2.2.2.2.2.1 S1.2.2.2.2.2.2.1 S1.2.2.2.2.2.2.2.1 S1.2.2.2.2.2.2.2.2.1 S1.2.2.2.2.2.2.2.2.2 pn lv2 (xs (i + 1)) (xs (i + 2)) (xs (i + 3)) (xs (i + 4)) hbd hbs hs8 hs12 hlt hz hrow.2.1.2.2.1 hrow.2.1.1) (by omega) (fun r w' h => (by obtain ⟨-, hfw⟩ := h; exact ⟨fo, (hfw (d + 128) (by show ¬ _; (try simp only [gIn]); (try dsimp only); omega)).trans hfo⟩)) (fun xc w' h => h.elim (fun z => Or.inl z.1) (fun z => Or.inr z.1))) q1102 q1103 q81 q1104 rfl rfl (by decide +kernel) ⟨(Nat.le_trans (Nat.le_of_ble_eq_true rfl : _ ≤ 64) hRf), (Nat.le_trans (Nat.le_of_ble_eq_true rfl : _ ≤ 2000) hRl)⟩ rfl hl.1 rfl (Nat.le_of_ble_eq_true rfl) ⟨by omega, by omega⟩ dL_law_1581) hS (fun rz w1 H locs hq hP hS => ?_)
  rcases hq with ⟨v1, f1, w2, hrz, hf1, hw2, hq⟩ | ⟨hrz, hq⟩ | ⟨hrz, hq⟩
  · skip
    rw [hw2] at hP
    rw [hrz]
    obtain ⟨⟨a1, b1, hc1, hd1, hv1, hne, hnew⟩, hfw⟩ := hq
    have hscr1 : scr E ad N w2 d := hscr.upLV2 hnew (fun p a b c => hfw p (by show ¬ _; (try simp only [gIn]); (try dsimp only); omega))
    have hclsW : clsP E ad N w2 d kk S1 pl ct K sv Z fp dq dd dc bf ln tx := hcls.sc hscr1 (fun p hp => hfw p (by show ¬ _; (try simp only [gIn]); (try dsimp only); omega))
    have hmdW : bkP N w2 (d + 116) 12 (MDC E ad (d + 116) g kp svr bfr sd bf sg mk td lv tl sv qc (0 : Nat) qd co wy de ca ln fp sm pa tm) := hmd.fr hfw (fun k hk => (by show ¬ _; (try simp only [gIn]); (try dsimp only); omega))
    have hfoW := (hfw (d + 128) (by show ¬ _; (try simp only [gIn]); (try dsimp only); omega)).trans hfo
    have hfdW := (hfw (d + 129) (by show ¬ _; (try simp only [gIn]); (try dsimp only); omega)).trans hfd
    obtain ⟨wb, hwb⟩ : ∃ z, z = va_up w2 (d + 128) (loE E f1) := ⟨_, rfl⟩
    rw [← hwb] at hP
    have hcls2 : clsP E ad N wb d kk S1 pl ct K sv Z fp dq dd dc bf ln tx := hclsW.fr (fun p hp => by rw [hwb, va_up_ne _ _ (by omega)])
    have hmd2 : bkP N wb (d + 116) 12 (MDC E ad (d + 116) g kp svr bfr sd bf sg mk td lv tl sv qc (0 : Nat) qd co wy de ca ln fp sm pa tm) := by rw [hwb]; exact hmdW.keep (by omega)
    have hfo2 : wb (d + 128) = loE E f1 := by rw [hwb, va_up_self]
    have hfd2 : wb (d + 129) = doE E fd := by rw [hwb, va_up_ne _ _ (by omega)]; exact hfdW
    refine lv_istore (lv' := [(6, .int (nI (0))), (5, .int (nI (i))), (0, .ref (sa)), (1, .ref (ad (d))), (2, .ref (ad (d + 116))), (3, .ref (ad (d + 128))), (4, .ref (ad (d + 129)))]) hx hb dL_law_1584 hl (by decide) rfl (fun ls hl => ?_)
    refine lv_aload_n hx hb dL_law_1586 rfl (lv_at hl 4 rfl) ?_
    refine lv_aload_n hx hb dL_law_1587 rfl (lv_at hl 2 rfl) ?_
    refine lv_iload hx hb dL_law_1588 (lv_at hl 1 rfl) ?_
    refine g_iconst S 1 dL_law_1590 (by decide +kernel) ?_
    refine g_iadd S dL_law_1591 ?_
    refine g_sld S hX hsa hsA hS (i + 1) (by omega) hL dL_law_1592 ?_
    refine lv_aload_n hx hb dL_law_1593 rfl (lv_at hl 2 rfl) ?_
    refine lv_iload hx hb dL_law_1594 (lv_at hl 1 rfl) ?_
    refine g_iconst S 2 dL_law_1596 (by decide +kernel) ?_
    refine g_iadd S dL_law_1597 ?_
    refine g_sld S hX hsa hsA hS (i + 2) (by omega) hL dL_law_1598 ?_
    refine lv_aload_n hx hb dL_law_1599 rfl (lv_at hl 2 rfl) ?_
    refine lv_iload hx hb dL_law_1600 (lv_at hl 1 rfl) ?_
    refine g_iconst S 3 dL_law_1602 (by decide +kernel) ?_
    refine g_iadd S dL_law_1603 ?_
    refine g_sld S hX hsa hsA hS (i + 3) (by omega) hL dL_law_1604 ?_
    refine lv_aload_n hx hb dL_law_1605 rfl (lv_at hl 2 rfl) ?_
    refine lv_iload hx hb dL_law_1606 (lv_at hl 1 rfl) ?_
    refine g_iconst S 4 dL_law_1608 (by decide +kernel) ?_
    refine g_iadd S dL_law_1609 ?_
    refine g_sld S hX hsa hsA hS (i + 4) (by omega) hL dL_law_1610 ?_
    refine g_afi (g_runV S hI hP hS (k := 4) (As := [.int (xs (i + 1)), .int (xs (i + 2)), .int (xs (i + 3)), .int (xs (i + 4))]) (rest := []) (mX13_routeCostByRounds l (d + 116) g kp svr bfr sd bf sg mk td lv tl sv qc (0 : Nat) qd co wy de ca ln fp sm pa tm S1.1 S1.2.1 S1.2.2.1 S1.2.2.2.1 S1.2.2.2.2.1 S1.2.2.2.2.2.1 S1.2.2.2.2.2.2.1 S1.2.2.2.2.2.2.2.1 S1.2.2.2.2.2.2.2.2.1 S1.2.2.2.2.2.2.2.2.2 (xs (i + 1)) (xs (i + 2)) (xs (i + 3)) (xs (i + 4)) hmd2 hrow.1 hrow.2.1.1 hrow.2.1.2.2.1) q2043 q2044 q2045 q100 q2046 rfl rfl (by decide +kernel) ⟨(Nat.le_trans (Nat.le_of_ble_eq_true rfl : _ ≤ 64) hRf), (Nat.le_trans (Nat.le_of_ble_eq_true rfl : _ ≤ 2000) hRl)⟩ rfl (hmd2.lt 0 (by decide)) (hmd2.2 0 (by decide)) rfl hl.1 rfl (Nat.le_of_ble_eq_true rfl) ⟨by omega, by omega⟩ dL_law_1611) hS (fun rz2 w3 H locs hq2 hP hS => ?_)
    obtain ⟨hq2, hfr⟩ := hq2
    rcases hq2 with ⟨a2, c2, hc2, hd2, lv9, hg2, (⟨hn2, hr2, hmd3⟩ | ⟨hn2, hmd3⟩)⟩ | ⟨hc2, hmd3⟩
    · skip
      have hcls3 : clsP E ad N w3 d kk S1 pl ct K sv Z fp dq dd dc bf ln tx := hcls2.fr (fun p hp => hfr p (by show ¬ _; (try dsimp only [gIn]); omega))
      have hfo3 := (hfr (d + 128) (by show ¬ _; (try dsimp only [gIn]); omega)).trans hfo2
      have hfd3 := (hfr (d + 129) (by show ¬ _; (try dsimp only [gIn]); omega)).trans hfd2
      have hka := Option.some.inj (hc1.symm.trans hc2)
      have hkb := Option.some.inj (hd1.symm.trans hd2)
      subst hka
      subst hkb
      have heq := rt_rounds (lv := lv2) (cellV_lt hd2) hg2
      have hv9 : v1 = rz2 := by rw [hv1, hr2, heq]; unfold kcI; rw [if_neg hn2]
      rw [hv9] at hf1
      refine lv_istore (lv' := [(7, .int rz2), (6, .int (nI (0))), (5, .int (nI (i))), (0, .ref (sa)), (1, .ref (ad (d))), (2, .ref (ad (d + 116))), (3, .ref (ad (d + 128))), (4, .ref (ad (d + 129)))]) hx hb dL_law_1614 hl (by decide) rfl (fun ls hl => ?_)
      refine lv_aload_n hx hb dL_law_1616 rfl (lv_at hl 5 rfl) ?_
      refine g_afi (g_runV S hI hP hS (k := 0) (As := []) (rest := []) (mX13_thrown l _ _ _ _ _ _ _ _ _ _ _ _ _ _ _ _ _ _ _ _ _ _ _ _ _ hmd3) q1860 q1861 q1862 q100 q1863 rfl rfl (by decide +kernel) ⟨(Nat.le_trans (Nat.le_of_ble_eq_true rfl : _ ≤ 64) hRf), (Nat.le_trans (Nat.le_of_ble_eq_true rfl : _ ≤ 2000) hRl)⟩ rfl (hmd3.lt 0 (by decide)) (hmd3.2 0 (by decide)) rfl hl.1 rfl (Nat.le_of_ble_eq_true rfl) ⟨by omega, by omega⟩ dL_law_1617) hS (fun rz9 w9 H locs hq9 hP hS => ?_)
      obtain ⟨hr9, hw9⟩ := hq9
      rw [hw9] at hP
      rw [hr9]
      refine lv_iload hx hb dL_law_1620 (lv_at hl 1 rfl) ?_
      refine g_eq S (a := 0) (b := 0) (by omega) (by omega) (tgt := 1627) dL_law_1622 (by decide) (fun hb9 => ?_) (fun hb9 => ?_)
      · refine lv_iload hx hb dL_law_1627 (lv_at hl 1 rfl) ?_
        refine g_ifne S (a := 0) (by omega) (tgt := 1644) dL_law_1629 (by decide) (fun hb8 => ?_) (fun hb8 => ?_)
        · omega
        · refine lv_aload_n hx hb dL_law_1632 rfl (lv_at hl 6 rfl) ?_
          refine g_iconst S 0 dL_law_1633 (by decide +kernel) ?_
          refine g_lald S hI hP (o := d + 128) (by omega) hfo3 dL_law_1634 ?_
          rw [hf1]
          refine lv_iload hx hb dL_law_1635 (lv_at hl 0 rfl) ?_
          refine lv_i2l hx hb dL_law_1637 rfl ?_
          refine g_lcmpE S dL_law_1638 ?_
          refine g_ifeq S (a := 0) (by omega) (tgt := 1644) dL_law_1639 (by decide) (fun hb7 => ?_) (fun hb7 => ?_)
          · refine lv_goto (tgt := 2997) hx hb dL_law_1644 (by decide) ?_
            exact W.widen (k := cells + 234) (n := slots + 2848) (by omega) (by omega) (kk9 ad N _ _ _ _ ⟨_, _, _, _, _, _, _, _, _, _, _, _, _, _, _, _, _, _, _, _, _, _, _, _, _, _, _, _, _, _, _, _, hcls3, hmd3, ⟨_, hfo3⟩, ⟨_, hfd3⟩, hDat.le (by omega)⟩ hP hS (lv_sub hl [2, 3, 4, 5, 6, 7] rfl))
          · omega
      · exact absurd rfl hb9
    · skip
      have hka := Option.some.inj (hc1.symm.trans hc2)
      have hkb := Option.some.inj (hd1.symm.trans hd2)
      subst hka
      subst hkb
      have heq := rt_rounds (lv := lv2) (cellV_lt hd2) hg2
      rw [hv1, heq] at hne
      exact absurd ((kcI_none (grt_le (cellV_lt hd2) hg2)).mpr hn2) hne
    · skip
      rcases hc2 with h9 | h9
      · rw [h9] at hc1; cases hc1
      · rw [h9] at hd1; cases hd1
  · skip
    rw [hrz]
    have hq := hq.resolve_right (fun z => absurd z.1 (by decide))
    obtain ⟨-, hc1, hw1⟩ := hq
    rw [hw1] at hP
    have hclsW := hcls
    have hmdW := hmd
    have hfoW := hfo
    have hfdW := hfd
    obtain ⟨wb, hwb⟩ : ∃ z, z = w := ⟨_, rfl⟩
    rw [← hwb] at hP
    have hcls2 : clsP E ad N wb d kk S1 pl ct K sv Z fp dq dd dc bf ln tx := by rw [hwb]; exact hclsW
    have hmd2 : bkP N wb (d + 116) 12 (MDC E ad (d + 116) g kp svr bfr sd bf sg mk td lv tl sv qc (0 : Nat) qd co wy de ca ln fp sm pa tm) := by rw [hwb]; exact hmdW
    have hfo2 : wb (d + 128) = loE E fo := by rw [hwb]; exact hfoW
    have hfd2 : wb (d + 129) = doE E fd := by rw [hwb]; exact hfdW
    refine lv_istore (lv' := [(6, .int (nI (1))), (5, .int (nI (i))), (0, .ref (sa)), (1, .ref (ad (d))), (2, .ref (ad (d + 116))), (3, .ref (ad (d + 128))), (4, .ref (ad (d + 129)))]) hx hb dL_law_1584 hl (by decide) rfl (fun ls hl => ?_)
    refine lv_aload_n hx hb dL_law_1586 rfl (lv_at hl 4 rfl) ?_
    refine lv_aload_n hx hb dL_law_1587 rfl (lv_at hl 2 rfl) ?_
    refine lv_iload hx hb dL_law_1588 (lv_at hl 1 rfl) ?_
    refine g_iconst S 1 dL_law_1590 (by decide +kernel) ?_
    refine g_iadd S dL_law_1591 ?_
    refine g_sld S hX hsa hsA hS (i + 1) (by omega) hL dL_law_1592 ?_
    refine lv_aload_n hx hb dL_law_1593 rfl (lv_at hl 2 rfl) ?_
    refine lv_iload hx hb dL_law_1594 (lv_at hl 1 rfl) ?_
    refine g_iconst S 2 dL_law_1596 (by decide +kernel) ?_
    refine g_iadd S dL_law_1597 ?_
    refine g_sld S hX hsa hsA hS (i + 2) (by omega) hL dL_law_1598 ?_
    refine lv_aload_n hx hb dL_law_1599 rfl (lv_at hl 2 rfl) ?_
    refine lv_iload hx hb dL_law_1600 (lv_at hl 1 rfl) ?_
    refine g_iconst S 3 dL_law_1602 (by decide +kernel) ?_
    refine g_iadd S dL_law_1603 ?_
    refine g_sld S hX hsa hsA hS (i + 3) (by omega) hL dL_law_1604 ?_
    refine lv_aload_n hx hb dL_law_1605 rfl (lv_at hl 2 rfl) ?_
    refine lv_iload hx hb dL_law_1606 (lv_at hl 1 rfl) ?_
    refine g_iconst S 4 dL_law_1608 (by decide +kernel) ?_
    refine g_iadd S dL_law_1609 ?_
    refine g_sld S hX hsa hsA hS (i + 4) (by omega) hL dL_law_1610 ?_
    refine g_afi (g_runV S hI hP hS (k := 4) (As := [.int (xs (i + 1)), .int (xs (i + 2)), .int (xs (i + 3)), .int (xs (i + 4))]) (rest := []) (mX13_routeCostByRounds l (d + 116) g kp svr bfr sd bf sg mk td lv tl sv qc (0 : Nat) qd co wy de ca ln fp sm pa tm S1.1 S1.2.1 S1.2.2.1 S1.2.2.2.1 S1.2.2.2.2.1 S1.2.2.2.2.2.1 S1.2.2.2.2.2.2.1 S1.2.2.2.2.2.2.2.1 S1.2.2.2.2.2.2.2.2.1 S1.2.2.2.2.2.2.2.2.2 (xs (i + 1)) (xs (i + 2)) (xs (i + 3)) (xs (i + 4)) hmd2 hrow.1 hrow.2.1.1 hrow.2.1.2.2.1) q2043 q2044 q2045 q100 q2046 rfl rfl (by decide +kernel) ⟨(Nat.le_trans (Nat.le_of_ble_eq_true rfl : _ ≤ 64) hRf), (Nat.le_trans (Nat.le_of_ble_eq_true rfl : _ ≤ 2000) hRl)⟩ rfl (hmd2.lt 0 (by decide)) (hmd2.2 0 (by decide)) rfl hl.1 rfl (Nat.le_of_ble_eq_true rfl) ⟨by omega, by omega⟩ dL_law_1611) hS (fun rz2 w3 H locs hq2 hP hS => ?_)
    obtain ⟨hq2, hfr⟩ := hq2
    rcases hq2 with ⟨a2, c2, hc2, hd2, lv9, hg2, (⟨hn2, hr2, hmd3⟩ | ⟨hn2, hmd3⟩)⟩ | ⟨hc2, hmd3⟩
    · skip
      rcases hc1 with h9 | h9
      · rw [h9] at hc2; cases hc2
      · rw [h9] at hd2; cases hd2
    · skip
      rcases hc1 with h9 | h9
      · rw [h9] at hc2; cases hc2
      · rw [h9] at hd2; cases hd2
    · skip
      have hcls3 : clsP E ad N w3 d kk S1 pl ct K sv Z fp dq dd dc bf ln tx := hcls2.fr (fun p hp => hfr p (by show ¬ _; (try dsimp only [gIn]); omega))
      have hfo3 := (hfr (d + 128) (by show ¬ _; (try dsimp only [gIn]); omega)).trans hfo2
      have hfd3 := (hfr (d + 129) (by show ¬ _; (try dsimp only [gIn]); omega)).trans hfd2
      refine lv_istore (lv' := [(7, .int rz2), (6, .int (nI (1))), (5, .int (nI (i))), (0, .ref (sa)), (1, .ref (ad (d))), (2, .ref (ad (d + 116))), (3, .ref (ad (d + 128))), (4, .ref (ad (d + 129)))]) hx hb dL_law_1614 hl (by decide) rfl (fun ls hl => ?_)
      refine lv_aload_n hx hb dL_law_1616 rfl (lv_at hl 5 rfl) ?_
      refine g_afi (g_runV S hI hP hS (k := 0) (As := []) (rest := []) (mX13_thrown l _ _ _ _ _ _ _ _ _ _ _ _ _ _ _ _ _ _ _ _ _ _ _ _ _ hmd3) q1860 q1861 q1862 q100 q1863 rfl rfl (by decide +kernel) ⟨(Nat.le_trans (Nat.le_of_ble_eq_true rfl : _ ≤ 64) hRf), (Nat.le_trans (Nat.le_of_ble_eq_true rfl : _ ≤ 2000) hRl)⟩ rfl (hmd3.lt 0 (by decide)) (hmd3.2 0 (by decide)) rfl hl.1 rfl (Nat.le_of_ble_eq_true rfl) ⟨by omega, by omega⟩ dL_law_1617) hS (fun rz9 w9 H locs hq9 hP hS => ?_)
      obtain ⟨hr9, hw9⟩ := hq9
      rw [hw9] at hP
      rw [hr9]
      refine lv_iload hx hb dL_law_1620 (lv_at hl 1 rfl) ?_
      refine g_eq S (a := 1) (b := 1) (by omega) (by omega) (tgt := 1627) dL_law_1622 (by decide) (fun hb9 => ?_) (fun hb9 => ?_)
      · refine lv_iload hx hb dL_law_1627 (lv_at hl 1 rfl) ?_
        refine g_ifne S (a := 1) (by omega) (tgt := 1644) dL_law_1629 (by decide) (fun hb8 => ?_) (fun hb8 => ?_)
        · refine lv_goto (tgt := 2997) hx hb dL_law_1644 (by decide) ?_
          exact W.widen (k := cells + 234) (n := slots + 2848) (by omega) (by omega) (kk9 ad N _ _ _ _ ⟨_, _, _, _, _, _, _, _, _, _, _, _, _, _, _, _, _, _, _, _, _, _, _, _, _, _, _, _, _, _, _, _, hcls3, hmd3, ⟨_, hfo3⟩, ⟨_, hfd3⟩, hDat.le (by omega)⟩ hP hS (lv_sub hl [2, 3, 4, 5, 6, 7] rfl))
        · omega
      · exact absurd rfl hb9
  · skip
    rw [hrz]
    have hq := (hq.resolve_left (fun z => absurd z.1 (by decide))).2
    obtain ⟨⟨a1, b1, hc1, hd1, hv1, hnew⟩, hfw⟩ := hq
    have hscr1 : scr E ad N w1 d := hscr.upLV2 hnew (fun p a b c => hfw p (by show ¬ _; (try simp only [gIn]); (try dsimp only); omega))
    have hclsW : clsP E ad N w1 d kk S1 pl ct K sv Z fp dq dd dc bf ln tx := hcls.sc hscr1 (fun p hp => hfw p (by show ¬ _; (try simp only [gIn]); (try dsimp only); omega))
    have hmdW : bkP N w1 (d + 116) 12 (MDC E ad (d + 116) g kp svr bfr sd bf sg mk td lv tl sv qc (0 : Nat) qd co wy de ca ln fp sm pa tm) := hmd.fr hfw (fun k hk => (by show ¬ _; (try simp only [gIn]); (try dsimp only); omega))
    have hfoW := (hfw (d + 128) (by show ¬ _; (try simp only [gIn]); (try dsimp only); omega)).trans hfo
    have hfdW := (hfw (d + 129) (by show ¬ _; (try simp only [gIn]); (try dsimp only); omega)).trans hfd
    obtain ⟨wb, hwb⟩ : ∃ z, z = w1 := ⟨_, rfl⟩
    rw [← hwb] at hP
    have hcls2 : clsP E ad N wb d kk S1 pl ct K sv Z fp dq dd dc bf ln tx := by rw [hwb]; exact hclsW
    have hmd2 : bkP N wb (d + 116) 12 (MDC E ad (d + 116) g kp svr bfr sd bf sg mk td lv tl sv qc (0 : Nat) qd co wy de ca ln fp sm pa tm) := by rw [hwb]; exact hmdW
    have hfo2 : wb (d + 128) = loE E fo := by rw [hwb]; exact hfoW
    have hfd2 : wb (d + 129) = doE E fd := by rw [hwb]; exact hfdW
    refine lv_istore (lv' := [(6, .int (nI (2))), (5, .int (nI (i))), (0, .ref (sa)), (1, .ref (ad (d))), (2, .ref (ad (d + 116))), (3, .ref (ad (d + 128))), (4, .ref (ad (d + 129)))]) hx hb dL_law_1584 hl (by decide) rfl (fun ls hl => ?_)
    refine lv_aload_n hx hb dL_law_1586 rfl (lv_at hl 4 rfl) ?_
    refine lv_aload_n hx hb dL_law_1587 rfl (lv_at hl 2 rfl) ?_
    refine lv_iload hx hb dL_law_1588 (lv_at hl 1 rfl) ?_
    refine g_iconst S 1 dL_law_1590 (by decide +kernel) ?_
    refine g_iadd S dL_law_1591 ?_
    refine g_sld S hX hsa hsA hS (i + 1) (by omega) hL dL_law_1592 ?_
    refine lv_aload_n hx hb dL_law_1593 rfl (lv_at hl 2 rfl) ?_
    refine lv_iload hx hb dL_law_1594 (lv_at hl 1 rfl) ?_
    refine g_iconst S 2 dL_law_1596 (by decide +kernel) ?_
    refine g_iadd S dL_law_1597 ?_
    refine g_sld S hX hsa hsA hS (i + 2) (by omega) hL dL_law_1598 ?_
    refine lv_aload_n hx hb dL_law_1599 rfl (lv_at hl 2 rfl) ?_
    refine lv_iload hx hb dL_law_1600 (lv_at hl 1 rfl) ?_
    refine g_iconst S 3 dL_law_1602 (by decide +kernel) ?_
    refine g_iadd S dL_law_1603 ?_
    refine g_sld S hX hsa hsA hS (i + 3) (by omega) hL dL_law_1604 ?_
    refine lv_aload_n hx hb dL_law_1605 rfl (lv_at hl 2 rfl) ?_
    refine lv_iload hx hb dL_law_1606 (lv_at hl 1 rfl) ?_
    refine g_iconst S 4 dL_law_1608 (by decide +kernel) ?_
    refine g_iadd S dL_law_1609 ?_
    refine g_sld S hX hsa hsA hS (i + 4) (by omega) hL dL_law_1610 ?_
    refine g_afi (g_runV S hI hP hS (k := 4) (As := [.int (xs (i + 1)), .int (xs (i + 2)), .int (xs (i + 3)), .int (xs (i + 4))]) (rest := []) (mX13_routeCostByRounds l (d + 116) g kp svr bfr sd bf sg mk td lv tl sv qc (0 : Nat) qd co wy de ca ln fp sm pa tm S1.1 S1.2.1 S1.2.2.1 S1.2.2.2.1 S1.2.2.2.2.1 S1.2.2.2.2.2.1 S1.2.2.2.2.2.2.1 S1.2.2.2.2.2.2.2.1 S1.2.2.2.2.2.2.2.2.1 S1.2.2.2.2.2.2.2.2.2 (xs (i + 1)) (xs (i + 2)) (xs (i + 3)) (xs (i + 4)) hmd2 hrow.1 hrow.2.1.1 hrow.2.1.2.2.1) q2043 q2044 q2045 q100 q2046 rfl rfl (by decide +kernel) ⟨(Nat.le_trans (Nat.le_of_ble_eq_true rfl : _ ≤ 64) hRf), (Nat.le_trans (Nat.le_of_ble_eq_true rfl : _ ≤ 2000) hRl)⟩ rfl (hmd2.lt 0 (by decide)) (hmd2.2 0 (by decide)) rfl hl.1 rfl (Nat.le_of_ble_eq_true rfl) ⟨by omega, by omega⟩ dL_law_1611) hS (fun rz2 w3 H locs hq2 hP hS => ?_)
    obtain ⟨hq2, hfr⟩ := hq2
    rcases hq2 with ⟨a2, c2, hc2, hd2, lv9, hg2, (⟨hn2, hr2, hmd3⟩ | ⟨hn2, hmd3⟩)⟩ | ⟨hc2, hmd3⟩
    · skip
      have hka := Option.some.inj (hc1.symm.trans hc2)
      have hkb := Option.some.inj (hd1.symm.trans hd2)
      subst hka
      subst hkb
      have heq := rt_rounds (lv := lv2) (cellV_lt hd2) hg2
      rw [heq] at hv1
      exact absurd ((kcI_none (grt_le (cellV_lt hd2) hg2)).mp hv1) hn2
    · skip
      have hcls3 : clsP E ad N w3 d kk S1 pl ct K sv Z fp dq dd dc bf ln tx := hcls2.fr (fun p hp => hfr p (by show ¬ _; (try dsimp only [gIn]); omega))
      have hfo3 := (hfr (d + 128) (by show ¬ _; (try dsimp only [gIn]); omega)).trans hfo2
      have hfd3 := (hfr (d + 129) (by show ¬ _; (try dsimp only [gIn]); omega)).trans hfd2
      refine lv_istore (lv' := [(7, .int rz2), (6, .int (nI (2))), (5, .int (nI (i))), (0, .ref (sa)), (1, .ref (ad (d))), (2, .ref (ad (d + 116))), (3, .ref (ad (d + 128))), (4, .ref (ad (d + 129)))]) hx hb dL_law_1614 hl (by decide) rfl (fun ls hl => ?_)
      refine lv_aload_n hx hb dL_law_1616 rfl (lv_at hl 5 rfl) ?_
      refine g_afi (g_runV S hI hP hS (k := 0) (As := []) (rest := []) (mX13_thrown l _ _ _ _ _ _ _ _ _ _ _ _ _ _ _ _ _ _ _ _ _ _ _ _ _ hmd3) q1860 q1861 q1862 q100 q1863 rfl rfl (by decide +kernel) ⟨(Nat.le_trans (Nat.le_of_ble_eq_true rfl : _ ≤ 64) hRf), (Nat.le_trans (Nat.le_of_ble_eq_true rfl : _ ≤ 2000) hRl)⟩ rfl (hmd3.lt 0 (by decide)) (hmd3.2 0 (by decide)) rfl hl.1 rfl (Nat.le_of_ble_eq_true rfl) ⟨by omega, by omega⟩ dL_law_1617) hS (fun rz9 w9 H locs hq9 hP hS => ?_)
      obtain ⟨hr9, hw9⟩ := hq9
      rw [hw9] at hP
      rw [hr9]
      refine lv_iload hx hb dL_law_1620 (lv_at hl 1 rfl) ?_
      refine g_eq S (a := 2) (b := 2) (by omega) (by omega) (tgt := 1627) dL_law_1622 (by decide) (fun hb9 => ?_) (fun hb9 => ?_)
      · refine lv_iload hx hb dL_law_1627 (lv_at hl 1 rfl) ?_
        refine g_ifne S (a := 2) (by omega) (tgt := 1644) dL_law_1629 (by decide) (fun hb8 => ?_) (fun hb8 => ?_)
        · refine lv_goto (tgt := 2997) hx hb dL_law_1644 (by decide) ?_
          exact W.widen (k := cells + 234) (n := slots + 2848) (by omega) (by omega) (kk9 ad N _ _ _ _ ⟨_, _, _, _, _, _, _, _, _, _, _, _, _, _, _, _, _, _, _, _, _, _, _, _, _, _, _, _, _, _, _, _, hcls3, hmd3, ⟨_, hfo3⟩, ⟨_, hfd3⟩, hDat.le (by omega)⟩ hP hS (lv_sub hl [2, 3, 4, 5, 6, 7] rfl))
        · omega
      · exact absurd rfl hb9
    · skip
      rcases hc2 with h9 | h9
      · rw [h9] at hc1; cases hc1
      · rw [h9] at hd1; cases hd1
set_option maxHeartbeats 4000000 in
set_option maxRecDepth 100000 in
/-- the law's case 23: steepestStep -/
theorem lc_23 (kk : Nat → Nat) (hlt : l.stackTraces = false) (hz : gHx E) (hzv : gHv E kk) (hn : gHn E) (S : gFix p m c cL_law 10 s args RL) (hI : gI E s s.heap) (hP : gP E ad N w H) (hS : va_S (gA E) s.heap H locs) (hRf : 64 ≤ R.frames) (hRl : 2000 ≤ R.locals) (hRc : cells + 234 ≤ R.cells) (hRs : slots + 2848 ≤ R.slots) {d B i sa L : Nat} {xs : Nat → Int32} (hB : B ≤ 600000) (hinv : lawP E kk ad N w d B) (hX : va_X sa L xs s s.heap) (hsa : sa < s.heap.size) (hsA : ¬ gA E sa) (hi : i + 5 ≤ L) (hL : L < 2 ^ 31) (hl : lv_has ls 10 [(5, .int (nI (i))), (0, .ref (sa)), (1, .ref (ad (d))), (2, .ref (ad (d + 116))), (3, .ref (ad (d + 128))), (4, .ref (ad (d + 129)))])
    (kk9 : ∀ (ad' : Nat → Nat) (N' : Nat) (w' : Nat → va_E) (H' : Heap) (locs' : List Loc) (ls' : Array Slot), lawP E kk ad' N' w' d (B + 1000) → gP E ad' N' w' H' → va_S (gA E) s.heap H' locs' → lv_has ls' 10 [(5, .int (nI (i))), (0, .ref (sa)), (1, .ref (ad' (d))), (2, .ref (ad' (d + 116))), (3, .ref (ad' (d + 128))), (4, .ref (ad' (d + 129)))] → W p l e R s m args below meth c H' locs' (cells + 234) (slots + 2848) Q (F0 m 2997 ls' [])) :
    W p l e R s m args below meth c H locs cells slots Q (F0 m 1647 ls []) := by
  have hx := S.1
  have hb := S.2.1
  obtain ⟨S1, pl, ct, K, sv, Z, fp, dq, dd, dc, bf, ln, tx, g, kp, svr, bfr, sd, sg, mk, td, lv, tl, qc, qd, co, wy, de, ca, sm, pa, tm, hcls, hmd, ⟨fo, hfo⟩, ⟨fd, hfd⟩, hDat⟩ := hinv
  obtain ⟨hdN, ⟨hbd, hbs, hbz, ⟨A0, hba⟩, ⟨T0, hbt⟩, hhs⟩, hscr, hprs, hsb⟩ := id hcls
  obtain ⟨hrow, hhis, hsnp, hden, hbuf, hlin, hfp⟩ := id hDat
  obtain ⟨hs1, ⟨re, ce, rc, tc, hs2⟩, ⟨pa0, hs3⟩, ⟨ra, rk, hs4⟩, hs5, ⟨wa, ke, hs6, hs6a, hs6b⟩, ⟨lv0, hs7⟩, ⟨pn, hs8⟩, ⟨wa2, ke2, hs9, hs9a, hs9b⟩, ⟨re2, ce2, rc2, tc2, hs10⟩, ⟨pa2, hs11⟩, ⟨lv2, hs12⟩, ⟨pq, hs13⟩⟩ := id hscr
  refine lv_aload_n hx hb dL_law_1647 rfl (lv_at hl 2 rfl) ?_
  refine lv_aload_n hx hb dL_law_1648 rfl (lv_at hl 1 rfl) ?_
  refine lv_iload hx hb dL_law_1649 (lv_at hl 0 rfl) ?_
  refine g_iconst S 1 dL_law_1651 (by decide +kernel) ?_
  refine g_iadd S dL_law_1652 ?_
  refine g_sld S hX hsa hsA hS (i + 1) (by omega) hL dL_law_1653 ?_
  refine lv_aload_n hx hb dL_law_1654 rfl (lv_at hl 1 rfl) ?_
  refine lv_iload hx hb dL_law_1655 (lv_at hl 0 rfl) ?_
  refine g_iconst S 2 dL_law_1657 (by decide +kernel) ?_
  refine g_iadd S dL_law_1658 ?_
  refine g_sld S hX hsa hsA hS (i + 2) (by omega) hL dL_law_1659 ?_
  refine lv_aload_n hx hb dL_law_1660 rfl (lv_at hl 1 rfl) ?_
  refine lv_iload hx hb dL_law_1661 (lv_at hl 0 rfl) ?_
  refine g_iconst S 3 dL_law_1663 (by decide +kernel) ?_
  refine g_iadd S dL_law_1664 ?_
  refine g_sld S hX hsa hsA hS (i + 3) (by omega) hL dL_law_1665 ?_
  refine lv_aload_n hx hb dL_law_1666 rfl (lv_at hl 1 rfl) ?_
  refine lv_iload hx hb dL_law_1667 (lv_at hl 0 rfl) ?_
  refine g_iconst S 4 dL_law_1669 (by decide +kernel) ?_
  refine g_iadd S dL_law_1670 ?_
  refine g_sld S hX hsa hsA hS (i + 4) (by omega) hL dL_law_1671 ?_
  refine lv_aload_n hx hb dL_law_1672 rfl (lv_at hl 4 rfl) ?_
  refine g_afi (g_runSW S hI hP hS (hh := [(0, 14, 17, 13), (0, 14, 21, 37)]) (k := 6) (As := [.ref (ad (d)), .int (xs (i + 1)), .int (xs (i + 2)), .int (xs (i + 3)), .int (xs (i + 4)), .ref (ad (d + 128))]) (rest := []) (mL_steepestStep l d (d + 128) (xs (i + 1)) (xs (i + 2)) (xs (i + 3)) (xs (i + 4)) hz hn (hbd.lt 0 (by decide)) (hbd.2 0 (by decide)) (mX12_steepestStep l d sv fp dq dd dc S1.1 S1.2.1 S1.2.2.1 S1.2.2.2.1 S1.2.2.2.2.1 S1.2.2.2.2.2.1 S1.2.2.2.2.2.2.1 S1.2.2.2.2.2.2.2.1 S1.2.2.2.2.2.2.2.2.1 S1.2.2.2.2.2.2.2.2.2 pn pa2 pq (xs (i + 1)) (xs (i + 2)) (xs (i + 3)) (xs (i + 4)) hbd hbs hs8 hs11 hs13 hlt hz hrow.2.1.2.2.1 hrow.2.1.1) (by omega) (fun r w' h => (by obtain ⟨-, hfw⟩ := h; exact ⟨fo, (hfw (d + 128) (by show ¬ _; (try simp only [gIn]); (try dsimp only); omega)).trans hfo⟩)) (fun xc w' h => h.elim (fun z => Or.inl z.1) (fun z => Or.inr z.1))) q1117 q1118 q81 q1119 rfl rfl (by decide +kernel) ⟨(Nat.le_trans (Nat.le_of_ble_eq_true rfl : _ ≤ 64) hRf), (Nat.le_trans (Nat.le_of_ble_eq_true rfl : _ ≤ 2000) hRl)⟩ rfl hl.1 rfl (Nat.le_of_ble_eq_true rfl) ⟨by omega, by omega⟩ dL_law_1673) hS (fun rz w1 H locs hq hP hS => ?_)
  rcases hq with ⟨v1, f1, w2, hrz, hf1, hw2, hq⟩ | ⟨hrz, hq⟩ | ⟨hrz, hq⟩
  · skip
    rw [hw2] at hP
    rw [hrz]
    obtain ⟨⟨a1, b1, hc1, hd1, hv1, hne, ⟨pn8, pa8, pq8, hn1, hn3, hn4⟩⟩, hfw⟩ := hq
    have hscr1 : scr E ad N w2 d := hscr.upSt ⟨_, hn1⟩ ⟨_, hn3⟩ ⟨_, hn4⟩ (fun p a b c => hfw p (by show ¬ _; (try simp only [gIn]); (try dsimp only); omega))
    have hclsW : clsP E ad N w2 d kk S1 pl ct K sv Z fp dq dd dc bf ln tx := hcls.sc hscr1 (fun p hp => hfw p (by show ¬ _; (try simp only [gIn]); (try dsimp only); omega))
    have hmdW : bkP N w2 (d + 116) 12 (MDC E ad (d + 116) g kp svr bfr sd bf sg mk td lv tl sv qc (0 : Nat) qd co wy de ca ln fp sm pa tm) := hmd.fr hfw (fun k hk => (by show ¬ _; (try simp only [gIn]); (try dsimp only); omega))
    have hfoW := (hfw (d + 128) (by show ¬ _; (try simp only [gIn]); (try dsimp only); omega)).trans hfo
    have hfdW := (hfw (d + 129) (by show ¬ _; (try simp only [gIn]); (try dsimp only); omega)).trans hfd
    obtain ⟨wb, hwb⟩ : ∃ z, z = va_up w2 (d + 128) (loE E f1) := ⟨_, rfl⟩
    rw [← hwb] at hP
    have hcls2 : clsP E ad N wb d kk S1 pl ct K sv Z fp dq dd dc bf ln tx := hclsW.fr (fun p hp => by rw [hwb, va_up_ne _ _ (by omega)])
    have hmd2 : bkP N wb (d + 116) 12 (MDC E ad (d + 116) g kp svr bfr sd bf sg mk td lv tl sv qc (0 : Nat) qd co wy de ca ln fp sm pa tm) := by rw [hwb]; exact hmdW.keep (by omega)
    have hfo2 : wb (d + 128) = loE E f1 := by rw [hwb, va_up_self]
    have hfd2 : wb (d + 129) = doE E fd := by rw [hwb, va_up_ne _ _ (by omega)]; exact hfdW
    refine lv_istore (lv' := [(6, .int (nI (0))), (5, .int (nI (i))), (0, .ref (sa)), (1, .ref (ad (d))), (2, .ref (ad (d + 116))), (3, .ref (ad (d + 128))), (4, .ref (ad (d + 129)))]) hx hb dL_law_1676 hl (by decide) rfl (fun ls hl => ?_)
    refine lv_aload_n hx hb dL_law_1678 rfl (lv_at hl 4 rfl) ?_
    refine lv_aload_n hx hb dL_law_1679 rfl (lv_at hl 2 rfl) ?_
    refine lv_iload hx hb dL_law_1680 (lv_at hl 1 rfl) ?_
    refine g_iconst S 1 dL_law_1682 (by decide +kernel) ?_
    refine g_iadd S dL_law_1683 ?_
    refine g_sld S hX hsa hsA hS (i + 1) (by omega) hL dL_law_1684 ?_
    refine lv_aload_n hx hb dL_law_1685 rfl (lv_at hl 2 rfl) ?_
    refine lv_iload hx hb dL_law_1686 (lv_at hl 1 rfl) ?_
    refine g_iconst S 2 dL_law_1688 (by decide +kernel) ?_
    refine g_iadd S dL_law_1689 ?_
    refine g_sld S hX hsa hsA hS (i + 2) (by omega) hL dL_law_1690 ?_
    refine lv_aload_n hx hb dL_law_1691 rfl (lv_at hl 2 rfl) ?_
    refine lv_iload hx hb dL_law_1692 (lv_at hl 1 rfl) ?_
    refine g_iconst S 3 dL_law_1694 (by decide +kernel) ?_
    refine g_iadd S dL_law_1695 ?_
    refine g_sld S hX hsa hsA hS (i + 3) (by omega) hL dL_law_1696 ?_
    refine lv_aload_n hx hb dL_law_1697 rfl (lv_at hl 2 rfl) ?_
    refine lv_iload hx hb dL_law_1698 (lv_at hl 1 rfl) ?_
    refine g_iconst S 4 dL_law_1700 (by decide +kernel) ?_
    refine g_iadd S dL_law_1701 ?_
    refine g_sld S hX hsa hsA hS (i + 4) (by omega) hL dL_law_1702 ?_
    refine g_afi (g_runV S hI hP hS (k := 4) (As := [.int (xs (i + 1)), .int (xs (i + 2)), .int (xs (i + 3)), .int (xs (i + 4))]) (rest := []) (mX13_steepestStep l (d + 116) g kp svr bfr sd bf sg mk td lv tl sv qc (0 : Nat) qd co wy de ca ln fp sm pa tm S1.1 S1.2.1 S1.2.2.1 S1.2.2.2.1 S1.2.2.2.2.1 S1.2.2.2.2.2.1 S1.2.2.2.2.2.2.1 S1.2.2.2.2.2.2.2.1 S1.2.2.2.2.2.2.2.2.1 S1.2.2.2.2.2.2.2.2.2 (xs (i + 1)) (xs (i + 2)) (xs (i + 3)) (xs (i + 4)) hmd2 hrow.1 hrow.2.1.1 hrow.2.1.2.2.1) q2047 q2048 q2049 q100 q2050 rfl rfl (by decide +kernel) ⟨(Nat.le_trans (Nat.le_of_ble_eq_true rfl : _ ≤ 64) hRf), (Nat.le_trans (Nat.le_of_ble_eq_true rfl : _ ≤ 2000) hRl)⟩ rfl (hmd2.lt 0 (by decide)) (hmd2.2 0 (by decide)) rfl hl.1 rfl (Nat.le_of_ble_eq_true rfl) ⟨by omega, by omega⟩ dL_law_1703) hS (fun rz2 w3 H locs hq2 hP hS => ?_)
    obtain ⟨hq2, hfr⟩ := hq2
    rcases hq2 with ⟨a2, c2, hc2, hd2, lv9, hg2, (⟨hn2, hr2, hmd3⟩ | ⟨hn2, hmd3⟩)⟩ | ⟨hc2, hmd3⟩
    · skip
      have hcls3 : clsP E ad N w3 d kk S1 pl ct K sv Z fp dq dd dc bf ln tx := hcls2.fr (fun p hp => hfr p (by show ¬ _; (try dsimp only [gIn]); omega))
      have hfo3 := (hfr (d + 128) (by show ¬ _; (try dsimp only [gIn]); omega)).trans hfo2
      have hfd3 := (hfr (d + 129) (by show ¬ _; (try dsimp only [gIn]); omega)).trans hfd2
      have hka := Option.some.inj (hc1.symm.trans hc2)
      have hkb := Option.some.inj (hd1.symm.trans hd2)
      subst hka
      subst hkb
      have heq := rt_pairs (pq := pq) (pa := pa2) (cellV_lt hc2) (cellV_lt hd2) hrow.2.1.1 hg2
      have hv9 : v1 = rz2 := by rw [hv1, hr2, heq]; unfold kcI; rw [if_neg hn2]
      rw [hv9] at hf1
      refine lv_istore (lv' := [(7, .int rz2), (6, .int (nI (0))), (5, .int (nI (i))), (0, .ref (sa)), (1, .ref (ad (d))), (2, .ref (ad (d + 116))), (3, .ref (ad (d + 128))), (4, .ref (ad (d + 129)))]) hx hb dL_law_1706 hl (by decide) rfl (fun ls hl => ?_)
      refine lv_aload_n hx hb dL_law_1708 rfl (lv_at hl 5 rfl) ?_
      refine g_afi (g_runV S hI hP hS (k := 0) (As := []) (rest := []) (mX13_thrown l _ _ _ _ _ _ _ _ _ _ _ _ _ _ _ _ _ _ _ _ _ _ _ _ _ hmd3) q1860 q1861 q1862 q100 q1863 rfl rfl (by decide +kernel) ⟨(Nat.le_trans (Nat.le_of_ble_eq_true rfl : _ ≤ 64) hRf), (Nat.le_trans (Nat.le_of_ble_eq_true rfl : _ ≤ 2000) hRl)⟩ rfl (hmd3.lt 0 (by decide)) (hmd3.2 0 (by decide)) rfl hl.1 rfl (Nat.le_of_ble_eq_true rfl) ⟨by omega, by omega⟩ dL_law_1709) hS (fun rz9 w9 H locs hq9 hP hS => ?_)
      obtain ⟨hr9, hw9⟩ := hq9
      rw [hw9] at hP
      rw [hr9]
      refine lv_iload hx hb dL_law_1712 (lv_at hl 1 rfl) ?_
      refine g_eq S (a := 0) (b := 0) (by omega) (by omega) (tgt := 1719) dL_law_1714 (by decide) (fun hb9 => ?_) (fun hb9 => ?_)
      · refine lv_iload hx hb dL_law_1719 (lv_at hl 1 rfl) ?_
        refine g_ifne S (a := 0) (by omega) (tgt := 1736) dL_law_1721 (by decide) (fun hb8 => ?_) (fun hb8 => ?_)
        · omega
        · refine lv_aload_n hx hb dL_law_1724 rfl (lv_at hl 6 rfl) ?_
          refine g_iconst S 0 dL_law_1725 (by decide +kernel) ?_
          refine g_lald S hI hP (o := d + 128) (by omega) hfo3 dL_law_1726 ?_
          rw [hf1]
          refine lv_iload hx hb dL_law_1727 (lv_at hl 0 rfl) ?_
          refine lv_i2l hx hb dL_law_1729 rfl ?_
          refine g_lcmpE S dL_law_1730 ?_
          refine g_ifeq S (a := 0) (by omega) (tgt := 1736) dL_law_1731 (by decide) (fun hb7 => ?_) (fun hb7 => ?_)
          · refine lv_goto (tgt := 2997) hx hb dL_law_1736 (by decide) ?_
            exact W.widen (k := cells + 234) (n := slots + 2848) (by omega) (by omega) (kk9 ad N _ _ _ _ ⟨_, _, _, _, _, _, _, _, _, _, _, _, _, _, _, _, _, _, _, _, _, _, _, _, _, _, _, _, _, _, _, _, hcls3, hmd3, ⟨_, hfo3⟩, ⟨_, hfd3⟩, hDat.le (by omega)⟩ hP hS (lv_sub hl [2, 3, 4, 5, 6, 7] rfl))
          · omega
      · exact absurd rfl hb9
    · skip
      have hka := Option.some.inj (hc1.symm.trans hc2)
      have hkb := Option.some.inj (hd1.symm.trans hd2)
      subst hka
      subst hkb
      have heq := rt_pairs (pq := pq) (pa := pa2) (cellV_lt hc2) (cellV_lt hd2) hrow.2.1.1 hg2
      rw [hv1, heq] at hne
      exact absurd ((kcI_none (grt_le (cellV_lt hd2) hg2)).mpr hn2) hne
    · skip
      rcases hc2 with h9 | h9
      · rw [h9] at hc1; cases hc1
      · rw [h9] at hd1; cases hd1
  · skip
    rw [hrz]
    have hq := hq.resolve_right (fun z => absurd z.1 (by decide))
    obtain ⟨-, hc1, hw1⟩ := hq
    rw [hw1] at hP
    have hclsW := hcls
    have hmdW := hmd
    have hfoW := hfo
    have hfdW := hfd
    obtain ⟨wb, hwb⟩ : ∃ z, z = w := ⟨_, rfl⟩
    rw [← hwb] at hP
    have hcls2 : clsP E ad N wb d kk S1 pl ct K sv Z fp dq dd dc bf ln tx := by rw [hwb]; exact hclsW
    have hmd2 : bkP N wb (d + 116) 12 (MDC E ad (d + 116) g kp svr bfr sd bf sg mk td lv tl sv qc (0 : Nat) qd co wy de ca ln fp sm pa tm) := by rw [hwb]; exact hmdW
    have hfo2 : wb (d + 128) = loE E fo := by rw [hwb]; exact hfoW
    have hfd2 : wb (d + 129) = doE E fd := by rw [hwb]; exact hfdW
    refine lv_istore (lv' := [(6, .int (nI (1))), (5, .int (nI (i))), (0, .ref (sa)), (1, .ref (ad (d))), (2, .ref (ad (d + 116))), (3, .ref (ad (d + 128))), (4, .ref (ad (d + 129)))]) hx hb dL_law_1676 hl (by decide) rfl (fun ls hl => ?_)
    refine lv_aload_n hx hb dL_law_1678 rfl (lv_at hl 4 rfl) ?_
    refine lv_aload_n hx hb dL_law_1679 rfl (lv_at hl 2 rfl) ?_
    refine lv_iload hx hb dL_law_1680 (lv_at hl 1 rfl) ?_
    refine g_iconst S 1 dL_law_1682 (by decide +kernel) ?_
    refine g_iadd S dL_law_1683 ?_
    refine g_sld S hX hsa hsA hS (i + 1) (by omega) hL dL_law_1684 ?_
    refine lv_aload_n hx hb dL_law_1685 rfl (lv_at hl 2 rfl) ?_
    refine lv_iload hx hb dL_law_1686 (lv_at hl 1 rfl) ?_
    refine g_iconst S 2 dL_law_1688 (by decide +kernel) ?_
    refine g_iadd S dL_law_1689 ?_
    refine g_sld S hX hsa hsA hS (i + 2) (by omega) hL dL_law_1690 ?_
    refine lv_aload_n hx hb dL_law_1691 rfl (lv_at hl 2 rfl) ?_
    refine lv_iload hx hb dL_law_1692 (lv_at hl 1 rfl) ?_
    refine g_iconst S 3 dL_law_1694 (by decide +kernel) ?_
    refine g_iadd S dL_law_1695 ?_
    refine g_sld S hX hsa hsA hS (i + 3) (by omega) hL dL_law_1696 ?_
    refine lv_aload_n hx hb dL_law_1697 rfl (lv_at hl 2 rfl) ?_
    refine lv_iload hx hb dL_law_1698 (lv_at hl 1 rfl) ?_
    refine g_iconst S 4 dL_law_1700 (by decide +kernel) ?_
    refine g_iadd S dL_law_1701 ?_
    refine g_sld S hX hsa hsA hS (i + 4) (by omega) hL dL_law_1702 ?_
    refine g_afi (g_runV S hI hP hS (k := 4) (As := [.int (xs (i + 1)), .int (xs (i + 2)), .int (xs (i + 3)), .int (xs (i + 4))]) (rest := []) (mX13_steepestStep l (d + 116) g kp svr bfr sd bf sg mk td lv tl sv qc (0 : Nat) qd co wy de ca ln fp sm pa tm S1.1 S1.2.1 S1.2.2.1 S1.2.2.2.1 S1.2.2.2.2.1 S1.2.2.2.2.2.1 S1.2.2.2.2.2.2.1 S1.2.2.2.2.2.2.2.1 S1.2.2.2.2.2.2.2.2.1 S1.2.2.2.2.2.2.2.2.2 (xs (i + 1)) (xs (i + 2)) (xs (i + 3)) (xs (i + 4)) hmd2 hrow.1 hrow.2.1.1 hrow.2.1.2.2.1) q2047 q2048 q2049 q100 q2050 rfl rfl (by decide +kernel) ⟨(Nat.le_trans (Nat.le_of_ble_eq_true rfl : _ ≤ 64) hRf), (Nat.le_trans (Nat.le_of_ble_eq_true rfl : _ ≤ 2000) hRl)⟩ rfl (hmd2.lt 0 (by decide)) (hmd2.2 0 (by decide)) rfl hl.1 rfl (Nat.le_of_ble_eq_true rfl) ⟨by omega, by omega⟩ dL_law_1703) hS (fun rz2 w3 H locs hq2 hP hS => ?_)
    obtain ⟨hq2, hfr⟩ := hq2
    rcases hq2 with ⟨a2, c2, hc2, hd2, lv9, hg2, (⟨hn2, hr2, hmd3⟩ | ⟨hn2, hmd3⟩)⟩ | ⟨hc2, hmd3⟩
    · skip
      rcases hc1 with h9 | h9
      · rw [h9] at hc2; cases hc2
      · rw [h9] at hd2; cases hd2
    · skip
      rcases hc1 with h9 | h9
      · rw [h9] at hc2; cases hc2
      · rw [h9] at hd2; cases hd2
    · skip
      have hcls3 : clsP E ad N w3 d kk S1 pl ct K sv Z fp dq dd dc bf ln tx := hcls2.fr (fun p hp => hfr p (by show ¬ _; (try dsimp only [gIn]); omega))
      have hfo3 := (hfr (d + 128) (by show ¬ _; (try dsimp only [gIn]); omega)).trans hfo2
      have hfd3 := (hfr (d + 129) (by show ¬ _; (try dsimp only [gIn]); omega)).trans hfd2
      refine lv_istore (lv' := [(7, .int rz2), (6, .int (nI (1))), (5, .int (nI (i))), (0, .ref (sa)), (1, .ref (ad (d))), (2, .ref (ad (d + 116))), (3, .ref (ad (d + 128))), (4, .ref (ad (d + 129)))]) hx hb dL_law_1706 hl (by decide) rfl (fun ls hl => ?_)
      refine lv_aload_n hx hb dL_law_1708 rfl (lv_at hl 5 rfl) ?_
      refine g_afi (g_runV S hI hP hS (k := 0) (As := []) (rest := []) (mX13_thrown l _ _ _ _ _ _ _ _ _ _ _ _ _ _ _ _ _ _ _ _ _ _ _ _ _ hmd3) q1860 q1861 q1862 q100 q1863 rfl rfl (by decide +kernel) ⟨(Nat.le_trans (Nat.le_of_ble_eq_true rfl : _ ≤ 64) hRf), (Nat.le_trans (Nat.le_of_ble_eq_true rfl : _ ≤ 2000) hRl)⟩ rfl (hmd3.lt 0 (by decide)) (hmd3.2 0 (by decide)) rfl hl.1 rfl (Nat.le_of_ble_eq_true rfl) ⟨by omega, by omega⟩ dL_law_1709) hS (fun rz9 w9 H locs hq9 hP hS => ?_)
      obtain ⟨hr9, hw9⟩ := hq9
      rw [hw9] at hP
      rw [hr9]
      refine lv_iload hx hb dL_law_1712 (lv_at hl 1 rfl) ?_
      refine g_eq S (a := 1) (b := 1) (by omega) (by omega) (tgt := 1719) dL_law_1714 (by decide) (fun hb9 => ?_) (fun hb9 => ?_)
      · refine lv_iload hx hb dL_law_1719 (lv_at hl 1 rfl) ?_
        refine g_ifne S (a := 1) (by omega) (tgt := 1736) dL_law_1721 (by decide) (fun hb8 => ?_) (fun hb8 => ?_)
        · refine lv_goto (tgt := 2997) hx hb dL_law_1736 (by decide) ?_
          exact W.widen (k := cells + 234) (n := slots + 2848) (by omega) (by omega) (kk9 ad N _ _ _ _ ⟨_, _, _, _, _, _, _, _, _, _, _, _, _, _, _, _, _, _, _, _, _, _, _, _, _, _, _, _, _, _, _, _, hcls3, hmd3, ⟨_, hfo3⟩, ⟨_, hfd3⟩, hDat.le (by omega)⟩ hP hS (lv_sub hl [2, 3, 4, 5, 6, 7] rfl))
        · omega
      · exact absurd rfl hb9
  · skip
    rw [hrz]
    have hq := (hq.resolve_left (fun z => absurd z.1 (by decide))).2
    obtain ⟨⟨a1, b1, hc1, hd1, hv1, ⟨pn8, pa8, pq8, hn1, hn3, hn4⟩⟩, hfw⟩ := hq
    have hscr1 : scr E ad N w1 d := hscr.upSt ⟨_, hn1⟩ ⟨_, hn3⟩ ⟨_, hn4⟩ (fun p a b c => hfw p (by show ¬ _; (try simp only [gIn]); (try dsimp only); omega))
    have hclsW : clsP E ad N w1 d kk S1 pl ct K sv Z fp dq dd dc bf ln tx := hcls.sc hscr1 (fun p hp => hfw p (by show ¬ _; (try simp only [gIn]); (try dsimp only); omega))
    have hmdW : bkP N w1 (d + 116) 12 (MDC E ad (d + 116) g kp svr bfr sd bf sg mk td lv tl sv qc (0 : Nat) qd co wy de ca ln fp sm pa tm) := hmd.fr hfw (fun k hk => (by show ¬ _; (try simp only [gIn]); (try dsimp only); omega))
    have hfoW := (hfw (d + 128) (by show ¬ _; (try simp only [gIn]); (try dsimp only); omega)).trans hfo
    have hfdW := (hfw (d + 129) (by show ¬ _; (try simp only [gIn]); (try dsimp only); omega)).trans hfd
    obtain ⟨wb, hwb⟩ : ∃ z, z = w1 := ⟨_, rfl⟩
    rw [← hwb] at hP
    have hcls2 : clsP E ad N wb d kk S1 pl ct K sv Z fp dq dd dc bf ln tx := by rw [hwb]; exact hclsW
    have hmd2 : bkP N wb (d + 116) 12 (MDC E ad (d + 116) g kp svr bfr sd bf sg mk td lv tl sv qc (0 : Nat) qd co wy de ca ln fp sm pa tm) := by rw [hwb]; exact hmdW
    have hfo2 : wb (d + 128) = loE E fo := by rw [hwb]; exact hfoW
    have hfd2 : wb (d + 129) = doE E fd := by rw [hwb]; exact hfdW
    refine lv_istore (lv' := [(6, .int (nI (2))), (5, .int (nI (i))), (0, .ref (sa)), (1, .ref (ad (d))), (2, .ref (ad (d + 116))), (3, .ref (ad (d + 128))), (4, .ref (ad (d + 129)))]) hx hb dL_law_1676 hl (by decide) rfl (fun ls hl => ?_)
    refine lv_aload_n hx hb dL_law_1678 rfl (lv_at hl 4 rfl) ?_
    refine lv_aload_n hx hb dL_law_1679 rfl (lv_at hl 2 rfl) ?_
    refine lv_iload hx hb dL_law_1680 (lv_at hl 1 rfl) ?_
    refine g_iconst S 1 dL_law_1682 (by decide +kernel) ?_
    refine g_iadd S dL_law_1683 ?_
    refine g_sld S hX hsa hsA hS (i + 1) (by omega) hL dL_law_1684 ?_
    refine lv_aload_n hx hb dL_law_1685 rfl (lv_at hl 2 rfl) ?_
    refine lv_iload hx hb dL_law_1686 (lv_at hl 1 rfl) ?_
    refine g_iconst S 2 dL_law_1688 (by decide +kernel) ?_
    refine g_iadd S dL_law_1689 ?_
    refine g_sld S hX hsa hsA hS (i + 2) (by omega) hL dL_law_1690 ?_
    refine lv_aload_n hx hb dL_law_1691 rfl (lv_at hl 2 rfl) ?_
    refine lv_iload hx hb dL_law_1692 (lv_at hl 1 rfl) ?_
    refine g_iconst S 3 dL_law_1694 (by decide +kernel) ?_
    refine g_iadd S dL_law_1695 ?_
    refine g_sld S hX hsa hsA hS (i + 3) (by omega) hL dL_law_1696 ?_
    refine lv_aload_n hx hb dL_law_1697 rfl (lv_at hl 2 rfl) ?_
    refine lv_iload hx hb dL_law_1698 (lv_at hl 1 rfl) ?_
    refine g_iconst S 4 dL_law_1700 (by decide +kernel) ?_
    refine g_iadd S dL_law_1701 ?_
    refine g_sld S hX hsa hsA hS (i + 4) (by omega) hL dL_law_1702 ?_
    refine g_afi (g_runV S hI hP hS (k := 4) (As := [.int (xs (i + 1)), .int (xs (i + 2)), .int (xs (i + 3)), .int (xs (i + 4))]) (rest := []) (mX13_steepestStep l (d + 116) g kp svr bfr sd bf sg mk td lv tl sv qc (0 : Nat) qd co wy de ca ln fp sm pa tm S1.1 S1.2.1 S1.2.2.1 S1.2.2.2.1 S1.2.2.2.2.1 S1.2.2.2.2.2.1 S1.2.2.2.2.2.2.1 S1.2.2.2.2.2.2.2.1 S1.2.2.2.2.2.2.2.2.1 S1.2.2.2.2.2.2.2.2.2 (xs (i + 1)) (xs (i + 2)) (xs (i + 3)) (xs (i + 4)) hmd2 hrow.1 hrow.2.1.1 hrow.2.1.2.2.1) q2047 q2048 q2049 q100 q2050 rfl rfl (by decide +kernel) ⟨(Nat.le_trans (Nat.le_of_ble_eq_true rfl : _ ≤ 64) hRf), (Nat.le_trans (Nat.le_of_ble_eq_true rfl : _ ≤ 2000) hRl)⟩ rfl (hmd2.lt 0 (by decide)) (hmd2.2 0 (by decide)) rfl hl.1 rfl (Nat.le_of_ble_eq_true rfl) ⟨by omega, by omega⟩ dL_law_1703) hS (fun rz2 w3 H locs hq2 hP hS => ?_)
    obtain ⟨hq2, hfr⟩ := hq2
    rcases hq2 with ⟨a2, c2, hc2, hd2, lv9, hg2, (⟨hn2, hr2, hmd3⟩ | ⟨hn2, hmd3⟩)⟩ | ⟨hc2, hmd3⟩
    · skip
      have hka := Option.some.inj (hc1.symm.trans hc2)
      have hkb := Option.some.inj (hd1.symm.trans hd2)
      subst hka
      subst hkb
      have heq := rt_pairs (pq := pq) (pa := pa2) (cellV_lt hc2) (cellV_lt hd2) hrow.2.1.1 hg2
      rw [heq] at hv1
      exact absurd ((kcI_none (grt_le (cellV_lt hd2) hg2)).mp hv1) hn2
    · skip
      have hcls3 : clsP E ad N w3 d kk S1 pl ct K sv Z fp dq dd dc bf ln tx := hcls2.fr (fun p hp => hfr p (by show ¬ _; (try dsimp only [gIn]); omega))
      have hfo3 := (hfr (d + 128) (by show ¬ _; (try dsimp only [gIn]); omega)).trans hfo2
      have hfd3 := (hfr (d + 129) (by show ¬ _; (try dsimp only [gIn]); omega)).trans hfd2
      refine lv_istore (lv' := [(7, .int rz2), (6, .int (nI (2))), (5, .int (nI (i))), (0, .ref (sa)), (1, .ref (ad (d))), (2, .ref (ad (d + 116))), (3, .ref (ad (d + 128))), (4, .ref (ad (d + 129)))]) hx hb dL_law_1706 hl (by decide) rfl (fun ls hl => ?_)
      refine lv_aload_n hx hb dL_law_1708 rfl (lv_at hl 5 rfl) ?_
      refine g_afi (g_runV S hI hP hS (k := 0) (As := []) (rest := []) (mX13_thrown l _ _ _ _ _ _ _ _ _ _ _ _ _ _ _ _ _ _ _ _ _ _ _ _ _ hmd3) q1860 q1861 q1862 q100 q1863 rfl rfl (by decide +kernel) ⟨(Nat.le_trans (Nat.le_of_ble_eq_true rfl : _ ≤ 64) hRf), (Nat.le_trans (Nat.le_of_ble_eq_true rfl : _ ≤ 2000) hRl)⟩ rfl (hmd3.lt 0 (by decide)) (hmd3.2 0 (by decide)) rfl hl.1 rfl (Nat.le_of_ble_eq_true rfl) ⟨by omega, by omega⟩ dL_law_1709) hS (fun rz9 w9 H locs hq9 hP hS => ?_)
      obtain ⟨hr9, hw9⟩ := hq9
      rw [hw9] at hP
      rw [hr9]
      refine lv_iload hx hb dL_law_1712 (lv_at hl 1 rfl) ?_
      refine g_eq S (a := 2) (b := 2) (by omega) (by omega) (tgt := 1719) dL_law_1714 (by decide) (fun hb9 => ?_) (fun hb9 => ?_)
      · refine lv_iload hx hb dL_law_1719 (lv_at hl 1 rfl) ?_
        refine g_ifne S (a := 2) (by omega) (tgt := 1736) dL_law_1721 (by decide) (fun hb8 => ?_) (fun hb8 => ?_)
        · refine lv_goto (tgt := 2997) hx hb dL_law_1736 (by decide) ?_
          exact W.widen (k := cells + 234) (n := slots + 2848) (by omega) (by omega) (kk9 ad N _ _ _ _ ⟨_, _, _, _, _, _, _, _, _, _, _, _, _, _, _, _, _, _, _, _, _, _, _, _, _, _, _, _, _, _, _, _, hcls3, hmd3, ⟨_, hfo3⟩, ⟨_, hfd3⟩, hDat.le (by omega)⟩ hP hS (lv_sub hl [2, 3, 4, 5, 6, 7] rfl))
        · omega
      · exact absurd rfl hb9
    · skip
      rcases hc2 with h9 | h9
      · rw [h9] at hc1; cases hc1
      · rw [h9] at hd1; cases hd1
set_option maxHeartbeats 4000000 in
set_option maxRecDepth 100000 in
/-- the law's case 24: steepestStepByHalving -/
theorem lc_24 (kk : Nat → Nat) (hlt : l.stackTraces = false) (hz : gHx E) (hzv : gHv E kk) (hn : gHn E) (S : gFix p m c cL_law 10 s args RL) (hI : gI E s s.heap) (hP : gP E ad N w H) (hS : va_S (gA E) s.heap H locs) (hRf : 64 ≤ R.frames) (hRl : 2000 ≤ R.locals) (hRc : cells + 234 ≤ R.cells) (hRs : slots + 2848 ≤ R.slots) {d B i sa L : Nat} {xs : Nat → Int32} (hB : B ≤ 600000) (hinv : lawP E kk ad N w d B) (hX : va_X sa L xs s s.heap) (hsa : sa < s.heap.size) (hsA : ¬ gA E sa) (hi : i + 5 ≤ L) (hL : L < 2 ^ 31) (hl : lv_has ls 10 [(5, .int (nI (i))), (0, .ref (sa)), (1, .ref (ad (d))), (2, .ref (ad (d + 116))), (3, .ref (ad (d + 128))), (4, .ref (ad (d + 129)))])
    (kk9 : ∀ (ad' : Nat → Nat) (N' : Nat) (w' : Nat → va_E) (H' : Heap) (locs' : List Loc) (ls' : Array Slot), lawP E kk ad' N' w' d (B + 1000) → gP E ad' N' w' H' → va_S (gA E) s.heap H' locs' → lv_has ls' 10 [(5, .int (nI (i))), (0, .ref (sa)), (1, .ref (ad' (d))), (2, .ref (ad' (d + 116))), (3, .ref (ad' (d + 128))), (4, .ref (ad' (d + 129)))] → W p l e R s m args below meth c H' locs' (cells + 234) (slots + 2848) Q (F0 m 2997 ls' [])) :
    W p l e R s m args below meth c H locs cells slots Q (F0 m 1739 ls []) := by
  have hx := S.1
  have hb := S.2.1
  obtain ⟨S1, pl, ct, K, sv, Z, fp, dq, dd, dc, bf, ln, tx, g, kp, svr, bfr, sd, sg, mk, td, lv, tl, qc, qd, co, wy, de, ca, sm, pa, tm, hcls, hmd, ⟨fo, hfo⟩, ⟨fd, hfd⟩, hDat⟩ := hinv
  obtain ⟨hdN, ⟨hbd, hbs, hbz, ⟨A0, hba⟩, ⟨T0, hbt⟩, hhs⟩, hscr, hprs, hsb⟩ := id hcls
  obtain ⟨hrow, hhis, hsnp, hden, hbuf, hlin, hfp⟩ := id hDat
  obtain ⟨hs1, ⟨re, ce, rc, tc, hs2⟩, ⟨pa0, hs3⟩, ⟨ra, rk, hs4⟩, hs5, ⟨wa, ke, hs6, hs6a, hs6b⟩, ⟨lv0, hs7⟩, ⟨pn, hs8⟩, ⟨wa2, ke2, hs9, hs9a, hs9b⟩, ⟨re2, ce2, rc2, tc2, hs10⟩, ⟨pa2, hs11⟩, ⟨lv2, hs12⟩, ⟨pq, hs13⟩⟩ := id hscr
  refine lv_aload_n hx hb dL_law_1739 rfl (lv_at hl 2 rfl) ?_
  refine lv_aload_n hx hb dL_law_1740 rfl (lv_at hl 1 rfl) ?_
  refine lv_iload hx hb dL_law_1741 (lv_at hl 0 rfl) ?_
  refine g_iconst S 1 dL_law_1743 (by decide +kernel) ?_
  refine g_iadd S dL_law_1744 ?_
  refine g_sld S hX hsa hsA hS (i + 1) (by omega) hL dL_law_1745 ?_
  refine lv_aload_n hx hb dL_law_1746 rfl (lv_at hl 1 rfl) ?_
  refine lv_iload hx hb dL_law_1747 (lv_at hl 0 rfl) ?_
  refine g_iconst S 2 dL_law_1749 (by decide +kernel) ?_
  refine g_iadd S dL_law_1750 ?_
  refine g_sld S hX hsa hsA hS (i + 2) (by omega) hL dL_law_1751 ?_
  refine lv_aload_n hx hb dL_law_1752 rfl (lv_at hl 1 rfl) ?_
  refine lv_iload hx hb dL_law_1753 (lv_at hl 0 rfl) ?_
  refine g_iconst S 3 dL_law_1755 (by decide +kernel) ?_
  refine g_iadd S dL_law_1756 ?_
  refine g_sld S hX hsa hsA hS (i + 3) (by omega) hL dL_law_1757 ?_
  refine lv_aload_n hx hb dL_law_1758 rfl (lv_at hl 1 rfl) ?_
  refine lv_iload hx hb dL_law_1759 (lv_at hl 0 rfl) ?_
  refine g_iconst S 4 dL_law_1761 (by decide +kernel) ?_
  refine g_iadd S dL_law_1762 ?_
  refine g_sld S hX hsa hsA hS (i + 4) (by omega) hL dL_law_1763 ?_
  refine lv_aload_n hx hb dL_law_1764 rfl (lv_at hl 4 rfl) ?_
  refine g_afi (g_runSW S hI hP hS (hh := [(0, 14, 17, 13), (0, 14, 21, 37)]) (k := 6) (As := [.ref (ad (d)), .int (xs (i + 1)), .int (xs (i + 2)), .int (xs (i + 3)), .int (xs (i + 4)), .ref (ad (d + 128))]) (rest := []) (mL_steepestStepByHalving l d (d + 128) (xs (i + 1)) (xs (i + 2)) (xs (i + 3)) (xs (i + 4)) hz hn (hbd.lt 0 (by decide)) (hbd.2 0 (by decide)) (mX12_steepestStepByHalving l d sv fp dq dd dc S1.1 S1.2.1 S1.2.2.1 S1.2.2.2.1 S1.2.2.2.2.1 S1.2.2.2.2.2.1 S1.2.2.2.2.2.2.1 S1.2.2.2.2.2.2.2.1 S1.2.2.2.2.2.2.2.2.1 S1.2.2.2.2.2.2.2.2.2 pn re2 ce2 rc2 tc2 (xs (i + 1)) (xs (i + 2)) (xs (i + 3)) (xs (i + 4)) hbd hbs hs8 hs10 hlt hz hrow.2.1.2.2.1 hrow.2.1.1) (by omega) (fun r w' h => (by obtain ⟨-, hfw⟩ := h; exact ⟨fo, (hfw (d + 128) (by show ¬ _; (try simp only [gIn]); (try dsimp only); omega)).trans hfo⟩)) (fun xc w' h => h.elim (fun z => Or.inl z.1) (fun z => Or.inr z.1))) q1139 q1140 q81 q1141 rfl rfl (by decide +kernel) ⟨(Nat.le_trans (Nat.le_of_ble_eq_true rfl : _ ≤ 64) hRf), (Nat.le_trans (Nat.le_of_ble_eq_true rfl : _ ≤ 2000) hRl)⟩ rfl hl.1 rfl (Nat.le_of_ble_eq_true rfl) ⟨by omega, by omega⟩ dL_law_1765) hS (fun rz w1 H locs hq hP hS => ?_)
  rcases hq with ⟨v1, f1, w2, hrz, hf1, hw2, hq⟩ | ⟨hrz, hq⟩ | ⟨hrz, hq⟩
  · skip
    rw [hw2] at hP
    rw [hrz]
    obtain ⟨⟨a1, b1, hc1, hd1, hv1, hne, hnew⟩, hfw⟩ := hq
    have hscr1 : scr E ad N w2 d := hscr.upFL2 hnew (fun p a b c => hfw p (by show ¬ _; (try simp only [gIn]); (try dsimp only); omega))
    have hclsW : clsP E ad N w2 d kk S1 pl ct K sv Z fp dq dd dc bf ln tx := hcls.sc hscr1 (fun p hp => hfw p (by show ¬ _; (try simp only [gIn]); (try dsimp only); omega))
    have hmdW : bkP N w2 (d + 116) 12 (MDC E ad (d + 116) g kp svr bfr sd bf sg mk td lv tl sv qc (0 : Nat) qd co wy de ca ln fp sm pa tm) := hmd.fr hfw (fun k hk => (by show ¬ _; (try simp only [gIn]); (try dsimp only); omega))
    have hfoW := (hfw (d + 128) (by show ¬ _; (try simp only [gIn]); (try dsimp only); omega)).trans hfo
    have hfdW := (hfw (d + 129) (by show ¬ _; (try simp only [gIn]); (try dsimp only); omega)).trans hfd
    obtain ⟨wb, hwb⟩ : ∃ z, z = va_up w2 (d + 128) (loE E f1) := ⟨_, rfl⟩
    rw [← hwb] at hP
    have hcls2 : clsP E ad N wb d kk S1 pl ct K sv Z fp dq dd dc bf ln tx := hclsW.fr (fun p hp => by rw [hwb, va_up_ne _ _ (by omega)])
    have hmd2 : bkP N wb (d + 116) 12 (MDC E ad (d + 116) g kp svr bfr sd bf sg mk td lv tl sv qc (0 : Nat) qd co wy de ca ln fp sm pa tm) := by rw [hwb]; exact hmdW.keep (by omega)
    have hfo2 : wb (d + 128) = loE E f1 := by rw [hwb, va_up_self]
    have hfd2 : wb (d + 129) = doE E fd := by rw [hwb, va_up_ne _ _ (by omega)]; exact hfdW
    refine lv_istore (lv' := [(6, .int (nI (0))), (5, .int (nI (i))), (0, .ref (sa)), (1, .ref (ad (d))), (2, .ref (ad (d + 116))), (3, .ref (ad (d + 128))), (4, .ref (ad (d + 129)))]) hx hb dL_law_1768 hl (by decide) rfl (fun ls hl => ?_)
    refine lv_aload_n hx hb dL_law_1770 rfl (lv_at hl 4 rfl) ?_
    refine lv_aload_n hx hb dL_law_1771 rfl (lv_at hl 2 rfl) ?_
    refine lv_iload hx hb dL_law_1772 (lv_at hl 1 rfl) ?_
    refine g_iconst S 1 dL_law_1774 (by decide +kernel) ?_
    refine g_iadd S dL_law_1775 ?_
    refine g_sld S hX hsa hsA hS (i + 1) (by omega) hL dL_law_1776 ?_
    refine lv_aload_n hx hb dL_law_1777 rfl (lv_at hl 2 rfl) ?_
    refine lv_iload hx hb dL_law_1778 (lv_at hl 1 rfl) ?_
    refine g_iconst S 2 dL_law_1780 (by decide +kernel) ?_
    refine g_iadd S dL_law_1781 ?_
    refine g_sld S hX hsa hsA hS (i + 2) (by omega) hL dL_law_1782 ?_
    refine lv_aload_n hx hb dL_law_1783 rfl (lv_at hl 2 rfl) ?_
    refine lv_iload hx hb dL_law_1784 (lv_at hl 1 rfl) ?_
    refine g_iconst S 3 dL_law_1786 (by decide +kernel) ?_
    refine g_iadd S dL_law_1787 ?_
    refine g_sld S hX hsa hsA hS (i + 3) (by omega) hL dL_law_1788 ?_
    refine lv_aload_n hx hb dL_law_1789 rfl (lv_at hl 2 rfl) ?_
    refine lv_iload hx hb dL_law_1790 (lv_at hl 1 rfl) ?_
    refine g_iconst S 4 dL_law_1792 (by decide +kernel) ?_
    refine g_iadd S dL_law_1793 ?_
    refine g_sld S hX hsa hsA hS (i + 4) (by omega) hL dL_law_1794 ?_
    refine g_afi (g_runV S hI hP hS (k := 4) (As := [.int (xs (i + 1)), .int (xs (i + 2)), .int (xs (i + 3)), .int (xs (i + 4))]) (rest := []) (mX13_steepestStepByHalving l (d + 116) g kp svr bfr sd bf sg mk td lv tl sv qc (0 : Nat) qd co wy de ca ln fp sm pa tm S1.1 S1.2.1 S1.2.2.1 S1.2.2.2.1 S1.2.2.2.2.1 S1.2.2.2.2.2.1 S1.2.2.2.2.2.2.1 S1.2.2.2.2.2.2.2.1 S1.2.2.2.2.2.2.2.2.1 S1.2.2.2.2.2.2.2.2.2 (xs (i + 1)) (xs (i + 2)) (xs (i + 3)) (xs (i + 4)) hmd2 hrow.1 hrow.2.1.1 hrow.2.1.2.2.1) q2051 q2052 q2053 q100 q2054 rfl rfl (by decide +kernel) ⟨(Nat.le_trans (Nat.le_of_ble_eq_true rfl : _ ≤ 64) hRf), (Nat.le_trans (Nat.le_of_ble_eq_true rfl : _ ≤ 2000) hRl)⟩ rfl (hmd2.lt 0 (by decide)) (hmd2.2 0 (by decide)) rfl hl.1 rfl (Nat.le_of_ble_eq_true rfl) ⟨by omega, by omega⟩ dL_law_1795) hS (fun rz2 w3 H locs hq2 hP hS => ?_)
    obtain ⟨hq2, hfr⟩ := hq2
    rcases hq2 with ⟨a2, c2, hc2, hd2, lv9, hg2, (⟨hn2, hr2, hmd3⟩ | ⟨hn2, hmd3⟩)⟩ | ⟨hc2, hmd3⟩
    · skip
      have hcls3 : clsP E ad N w3 d kk S1 pl ct K sv Z fp dq dd dc bf ln tx := hcls2.fr (fun p hp => hfr p (by show ¬ _; (try dsimp only [gIn]); omega))
      have hfo3 := (hfr (d + 128) (by show ¬ _; (try dsimp only [gIn]); omega)).trans hfo2
      have hfd3 := (hfr (d + 129) (by show ¬ _; (try dsimp only [gIn]); omega)).trans hfd2
      have hka := Option.some.inj (hc1.symm.trans hc2)
      have hkb := Option.some.inj (hd1.symm.trans hd2)
      subst hka
      subst hkb
      have heq := rt_half (cellV_lt hc2) (cellV_lt hd2) hrow.2.1.1 hg2
      have hv9 : v1 = rz2 := by rw [hv1, hr2, heq]; unfold kcI; rw [if_neg hn2]
      rw [hv9] at hf1
      refine lv_istore (lv' := [(7, .int rz2), (6, .int (nI (0))), (5, .int (nI (i))), (0, .ref (sa)), (1, .ref (ad (d))), (2, .ref (ad (d + 116))), (3, .ref (ad (d + 128))), (4, .ref (ad (d + 129)))]) hx hb dL_law_1798 hl (by decide) rfl (fun ls hl => ?_)
      refine lv_aload_n hx hb dL_law_1800 rfl (lv_at hl 5 rfl) ?_
      refine g_afi (g_runV S hI hP hS (k := 0) (As := []) (rest := []) (mX13_thrown l _ _ _ _ _ _ _ _ _ _ _ _ _ _ _ _ _ _ _ _ _ _ _ _ _ hmd3) q1860 q1861 q1862 q100 q1863 rfl rfl (by decide +kernel) ⟨(Nat.le_trans (Nat.le_of_ble_eq_true rfl : _ ≤ 64) hRf), (Nat.le_trans (Nat.le_of_ble_eq_true rfl : _ ≤ 2000) hRl)⟩ rfl (hmd3.lt 0 (by decide)) (hmd3.2 0 (by decide)) rfl hl.1 rfl (Nat.le_of_ble_eq_true rfl) ⟨by omega, by omega⟩ dL_law_1801) hS (fun rz9 w9 H locs hq9 hP hS => ?_)
      obtain ⟨hr9, hw9⟩ := hq9
      rw [hw9] at hP
      rw [hr9]
      refine lv_iload hx hb dL_law_1804 (lv_at hl 1 rfl) ?_
      refine g_eq S (a := 0) (b := 0) (by omega) (by omega) (tgt := 1811) dL_law_1806 (by decide) (fun hb9 => ?_) (fun hb9 => ?_)
      · refine lv_iload hx hb dL_law_1811 (lv_at hl 1 rfl) ?_
        refine g_ifne S (a := 0) (by omega) (tgt := 1828) dL_law_1813 (by decide) (fun hb8 => ?_) (fun hb8 => ?_)
        · omega
        · refine lv_aload_n hx hb dL_law_1816 rfl (lv_at hl 6 rfl) ?_
          refine g_iconst S 0 dL_law_1817 (by decide +kernel) ?_
          refine g_lald S hI hP (o := d + 128) (by omega) hfo3 dL_law_1818 ?_
          rw [hf1]
          refine lv_iload hx hb dL_law_1819 (lv_at hl 0 rfl) ?_
          refine lv_i2l hx hb dL_law_1821 rfl ?_
          refine g_lcmpE S dL_law_1822 ?_
          refine g_ifeq S (a := 0) (by omega) (tgt := 1828) dL_law_1823 (by decide) (fun hb7 => ?_) (fun hb7 => ?_)
          · refine lv_goto (tgt := 2997) hx hb dL_law_1828 (by decide) ?_
            exact W.widen (k := cells + 234) (n := slots + 2848) (by omega) (by omega) (kk9 ad N _ _ _ _ ⟨_, _, _, _, _, _, _, _, _, _, _, _, _, _, _, _, _, _, _, _, _, _, _, _, _, _, _, _, _, _, _, _, hcls3, hmd3, ⟨_, hfo3⟩, ⟨_, hfd3⟩, hDat.le (by omega)⟩ hP hS (lv_sub hl [2, 3, 4, 5, 6, 7] rfl))
          · omega
      · exact absurd rfl hb9
    · skip
      have hka := Option.some.inj (hc1.symm.trans hc2)
      have hkb := Option.some.inj (hd1.symm.trans hd2)
      subst hka
      subst hkb
      have heq := rt_half (cellV_lt hc2) (cellV_lt hd2) hrow.2.1.1 hg2
      rw [hv1, heq] at hne
      exact absurd ((kcI_none (grt_le (cellV_lt hd2) hg2)).mpr hn2) hne
    · skip
      rcases hc2 with h9 | h9
      · rw [h9] at hc1; cases hc1
      · rw [h9] at hd1; cases hd1
  · skip
    rw [hrz]
    have hq := hq.resolve_right (fun z => absurd z.1 (by decide))
    obtain ⟨-, hc1, hw1⟩ := hq
    rw [hw1] at hP
    have hclsW := hcls
    have hmdW := hmd
    have hfoW := hfo
    have hfdW := hfd
    obtain ⟨wb, hwb⟩ : ∃ z, z = w := ⟨_, rfl⟩
    rw [← hwb] at hP
    have hcls2 : clsP E ad N wb d kk S1 pl ct K sv Z fp dq dd dc bf ln tx := by rw [hwb]; exact hclsW
    have hmd2 : bkP N wb (d + 116) 12 (MDC E ad (d + 116) g kp svr bfr sd bf sg mk td lv tl sv qc (0 : Nat) qd co wy de ca ln fp sm pa tm) := by rw [hwb]; exact hmdW
    have hfo2 : wb (d + 128) = loE E fo := by rw [hwb]; exact hfoW
    have hfd2 : wb (d + 129) = doE E fd := by rw [hwb]; exact hfdW
    refine lv_istore (lv' := [(6, .int (nI (1))), (5, .int (nI (i))), (0, .ref (sa)), (1, .ref (ad (d))), (2, .ref (ad (d + 116))), (3, .ref (ad (d + 128))), (4, .ref (ad (d + 129)))]) hx hb dL_law_1768 hl (by decide) rfl (fun ls hl => ?_)
    refine lv_aload_n hx hb dL_law_1770 rfl (lv_at hl 4 rfl) ?_
    refine lv_aload_n hx hb dL_law_1771 rfl (lv_at hl 2 rfl) ?_
    refine lv_iload hx hb dL_law_1772 (lv_at hl 1 rfl) ?_
    refine g_iconst S 1 dL_law_1774 (by decide +kernel) ?_
    refine g_iadd S dL_law_1775 ?_
    refine g_sld S hX hsa hsA hS (i + 1) (by omega) hL dL_law_1776 ?_
    refine lv_aload_n hx hb dL_law_1777 rfl (lv_at hl 2 rfl) ?_
    refine lv_iload hx hb dL_law_1778 (lv_at hl 1 rfl) ?_
    refine g_iconst S 2 dL_law_1780 (by decide +kernel) ?_
    refine g_iadd S dL_law_1781 ?_
    refine g_sld S hX hsa hsA hS (i + 2) (by omega) hL dL_law_1782 ?_
    refine lv_aload_n hx hb dL_law_1783 rfl (lv_at hl 2 rfl) ?_
    refine lv_iload hx hb dL_law_1784 (lv_at hl 1 rfl) ?_
    refine g_iconst S 3 dL_law_1786 (by decide +kernel) ?_
    refine g_iadd S dL_law_1787 ?_
    refine g_sld S hX hsa hsA hS (i + 3) (by omega) hL dL_law_1788 ?_
    refine lv_aload_n hx hb dL_law_1789 rfl (lv_at hl 2 rfl) ?_
    refine lv_iload hx hb dL_law_1790 (lv_at hl 1 rfl) ?_
    refine g_iconst S 4 dL_law_1792 (by decide +kernel) ?_
    refine g_iadd S dL_law_1793 ?_
    refine g_sld S hX hsa hsA hS (i + 4) (by omega) hL dL_law_1794 ?_
    refine g_afi (g_runV S hI hP hS (k := 4) (As := [.int (xs (i + 1)), .int (xs (i + 2)), .int (xs (i + 3)), .int (xs (i + 4))]) (rest := []) (mX13_steepestStepByHalving l (d + 116) g kp svr bfr sd bf sg mk td lv tl sv qc (0 : Nat) qd co wy de ca ln fp sm pa tm S1.1 S1.2.1 S1.2.2.1 S1.2.2.2.1 S1.2.2.2.2.1 S1.2.2.2.2.2.1 S1.2.2.2.2.2.2.1 S1.2.2.2.2.2.2.2.1 S1.2.2.2.2.2.2.2.2.1 S1.2.2.2.2.2.2.2.2.2 (xs (i + 1)) (xs (i + 2)) (xs (i + 3)) (xs (i + 4)) hmd2 hrow.1 hrow.2.1.1 hrow.2.1.2.2.1) q2051 q2052 q2053 q100 q2054 rfl rfl (by decide +kernel) ⟨(Nat.le_trans (Nat.le_of_ble_eq_true rfl : _ ≤ 64) hRf), (Nat.le_trans (Nat.le_of_ble_eq_true rfl : _ ≤ 2000) hRl)⟩ rfl (hmd2.lt 0 (by decide)) (hmd2.2 0 (by decide)) rfl hl.1 rfl (Nat.le_of_ble_eq_true rfl) ⟨by omega, by omega⟩ dL_law_1795) hS (fun rz2 w3 H locs hq2 hP hS => ?_)
    obtain ⟨hq2, hfr⟩ := hq2
    rcases hq2 with ⟨a2, c2, hc2, hd2, lv9, hg2, (⟨hn2, hr2, hmd3⟩ | ⟨hn2, hmd3⟩)⟩ | ⟨hc2, hmd3⟩
    · skip
      rcases hc1 with h9 | h9
      · rw [h9] at hc2; cases hc2
      · rw [h9] at hd2; cases hd2
    · skip
      rcases hc1 with h9 | h9
      · rw [h9] at hc2; cases hc2
      · rw [h9] at hd2; cases hd2
    · skip
      have hcls3 : clsP E ad N w3 d kk S1 pl ct K sv Z fp dq dd dc bf ln tx := hcls2.fr (fun p hp => hfr p (by show ¬ _; (try dsimp only [gIn]); omega))
      have hfo3 := (hfr (d + 128) (by show ¬ _; (try dsimp only [gIn]); omega)).trans hfo2
      have hfd3 := (hfr (d + 129) (by show ¬ _; (try dsimp only [gIn]); omega)).trans hfd2
      refine lv_istore (lv' := [(7, .int rz2), (6, .int (nI (1))), (5, .int (nI (i))), (0, .ref (sa)), (1, .ref (ad (d))), (2, .ref (ad (d + 116))), (3, .ref (ad (d + 128))), (4, .ref (ad (d + 129)))]) hx hb dL_law_1798 hl (by decide) rfl (fun ls hl => ?_)
      refine lv_aload_n hx hb dL_law_1800 rfl (lv_at hl 5 rfl) ?_
      refine g_afi (g_runV S hI hP hS (k := 0) (As := []) (rest := []) (mX13_thrown l _ _ _ _ _ _ _ _ _ _ _ _ _ _ _ _ _ _ _ _ _ _ _ _ _ hmd3) q1860 q1861 q1862 q100 q1863 rfl rfl (by decide +kernel) ⟨(Nat.le_trans (Nat.le_of_ble_eq_true rfl : _ ≤ 64) hRf), (Nat.le_trans (Nat.le_of_ble_eq_true rfl : _ ≤ 2000) hRl)⟩ rfl (hmd3.lt 0 (by decide)) (hmd3.2 0 (by decide)) rfl hl.1 rfl (Nat.le_of_ble_eq_true rfl) ⟨by omega, by omega⟩ dL_law_1801) hS (fun rz9 w9 H locs hq9 hP hS => ?_)
      obtain ⟨hr9, hw9⟩ := hq9
      rw [hw9] at hP
      rw [hr9]
      refine lv_iload hx hb dL_law_1804 (lv_at hl 1 rfl) ?_
      refine g_eq S (a := 1) (b := 1) (by omega) (by omega) (tgt := 1811) dL_law_1806 (by decide) (fun hb9 => ?_) (fun hb9 => ?_)
      · refine lv_iload hx hb dL_law_1811 (lv_at hl 1 rfl) ?_
        refine g_ifne S (a := 1) (by omega) (tgt := 1828) dL_law_1813 (by decide) (fun hb8 => ?_) (fun hb8 => ?_)
        · refine lv_goto (tgt := 2997) hx hb dL_law_1828 (by decide) ?_
          exact W.widen (k := cells + 234) (n := slots + 2848) (by omega) (by omega) (kk9 ad N _ _ _ _ ⟨_, _, _, _, _, _, _, _, _, _, _, _, _, _, _, _, _, _, _, _, _, _, _, _, _, _, _, _, _, _, _, _, hcls3, hmd3, ⟨_, hfo3⟩, ⟨_, hfd3⟩, hDat.le (by omega)⟩ hP hS (lv_sub hl [2, 3, 4, 5, 6, 7] rfl))
        · omega
      · exact absurd rfl hb9
  · skip
    rw [hrz]
    have hq := (hq.resolve_left (fun z => absurd z.1 (by decide))).2
    obtain ⟨⟨a1, b1, hc1, hd1, hv1, hnew⟩, hfw⟩ := hq
    have hscr1 : scr E ad N w1 d := hscr.upFL2 hnew (fun p a b c => hfw p (by show ¬ _; (try simp only [gIn]); (try dsimp only); omega))
    have hclsW : clsP E ad N w1 d kk S1 pl ct K sv Z fp dq dd dc bf ln tx := hcls.sc hscr1 (fun p hp => hfw p (by show ¬ _; (try simp only [gIn]); (try dsimp only); omega))
    have hmdW : bkP N w1 (d + 116) 12 (MDC E ad (d + 116) g kp svr bfr sd bf sg mk td lv tl sv qc (0 : Nat) qd co wy de ca ln fp sm pa tm) := hmd.fr hfw (fun k hk => (by show ¬ _; (try simp only [gIn]); (try dsimp only); omega))
    have hfoW := (hfw (d + 128) (by show ¬ _; (try simp only [gIn]); (try dsimp only); omega)).trans hfo
    have hfdW := (hfw (d + 129) (by show ¬ _; (try simp only [gIn]); (try dsimp only); omega)).trans hfd
    obtain ⟨wb, hwb⟩ : ∃ z, z = w1 := ⟨_, rfl⟩
    rw [← hwb] at hP
    have hcls2 : clsP E ad N wb d kk S1 pl ct K sv Z fp dq dd dc bf ln tx := by rw [hwb]; exact hclsW
    have hmd2 : bkP N wb (d + 116) 12 (MDC E ad (d + 116) g kp svr bfr sd bf sg mk td lv tl sv qc (0 : Nat) qd co wy de ca ln fp sm pa tm) := by rw [hwb]; exact hmdW
    have hfo2 : wb (d + 128) = loE E fo := by rw [hwb]; exact hfoW
    have hfd2 : wb (d + 129) = doE E fd := by rw [hwb]; exact hfdW
    refine lv_istore (lv' := [(6, .int (nI (2))), (5, .int (nI (i))), (0, .ref (sa)), (1, .ref (ad (d))), (2, .ref (ad (d + 116))), (3, .ref (ad (d + 128))), (4, .ref (ad (d + 129)))]) hx hb dL_law_1768 hl (by decide) rfl (fun ls hl => ?_)
    refine lv_aload_n hx hb dL_law_1770 rfl (lv_at hl 4 rfl) ?_
    refine lv_aload_n hx hb dL_law_1771 rfl (lv_at hl 2 rfl) ?_
    refine lv_iload hx hb dL_law_1772 (lv_at hl 1 rfl) ?_
    refine g_iconst S 1 dL_law_1774 (by decide +kernel) ?_
    refine g_iadd S dL_law_1775 ?_
    refine g_sld S hX hsa hsA hS (i + 1) (by omega) hL dL_law_1776 ?_
    refine lv_aload_n hx hb dL_law_1777 rfl (lv_at hl 2 rfl) ?_
    refine lv_iload hx hb dL_law_1778 (lv_at hl 1 rfl) ?_
    refine g_iconst S 2 dL_law_1780 (by decide +kernel) ?_
    refine g_iadd S dL_law_1781 ?_
    refine g_sld S hX hsa hsA hS (i + 2) (by omega) hL dL_law_1782 ?_
    refine lv_aload_n hx hb dL_law_1783 rfl (lv_at hl 2 rfl) ?_
    refine lv_iload hx hb dL_law_1784 (lv_at hl 1 rfl) ?_
    refine g_iconst S 3 dL_law_1786 (by decide +kernel) ?_
    refine g_iadd S dL_law_1787 ?_
    refine g_sld S hX hsa hsA hS (i + 3) (by omega) hL dL_law_1788 ?_
    refine lv_aload_n hx hb dL_law_1789 rfl (lv_at hl 2 rfl) ?_
    refine lv_iload hx hb dL_law_1790 (lv_at hl 1 rfl) ?_
    refine g_iconst S 4 dL_law_1792 (by decide +kernel) ?_
    refine g_iadd S dL_law_1793 ?_
    refine g_sld S hX hsa hsA hS (i + 4) (by omega) hL dL_law_1794 ?_
    refine g_afi (g_runV S hI hP hS (k := 4) (As := [.int (xs (i + 1)), .int (xs (i + 2)), .int (xs (i + 3)), .int (xs (i + 4))]) (rest := []) (mX13_steepestStepByHalving l (d + 116) g kp svr bfr sd bf sg mk td lv tl sv qc (0 : Nat) qd co wy de ca ln fp sm pa tm S1.1 S1.2.1 S1.2.2.1 S1.2.2.2.1 S1.2.2.2.2.1 S1.2.2.2.2.2.1 S1.2.2.2.2.2.2.1 S1.2.2.2.2.2.2.2.1 S1.2.2.2.2.2.2.2.2.1 S1.2.2.2.2.2.2.2.2.2 (xs (i + 1)) (xs (i + 2)) (xs (i + 3)) (xs (i + 4)) hmd2 hrow.1 hrow.2.1.1 hrow.2.1.2.2.1) q2051 q2052 q2053 q100 q2054 rfl rfl (by decide +kernel) ⟨(Nat.le_trans (Nat.le_of_ble_eq_true rfl : _ ≤ 64) hRf), (Nat.le_trans (Nat.le_of_ble_eq_true rfl : _ ≤ 2000) hRl)⟩ rfl (hmd2.lt 0 (by decide)) (hmd2.2 0 (by decide)) rfl hl.1 rfl (Nat.le_of_ble_eq_true rfl) ⟨by omega, by omega⟩ dL_law_1795) hS (fun rz2 w3 H locs hq2 hP hS => ?_)
    obtain ⟨hq2, hfr⟩ := hq2
    rcases hq2 with ⟨a2, c2, hc2, hd2, lv9, hg2, (⟨hn2, hr2, hmd3⟩ | ⟨hn2, hmd3⟩)⟩ | ⟨hc2, hmd3⟩
    · skip
      have hka := Option.some.inj (hc1.symm.trans hc2)
      have hkb := Option.some.inj (hd1.symm.trans hd2)
      subst hka
      subst hkb
      have heq := rt_half (cellV_lt hc2) (cellV_lt hd2) hrow.2.1.1 hg2
      rw [heq] at hv1
      exact absurd ((kcI_none (grt_le (cellV_lt hd2) hg2)).mp hv1) hn2
    · skip
      have hcls3 : clsP E ad N w3 d kk S1 pl ct K sv Z fp dq dd dc bf ln tx := hcls2.fr (fun p hp => hfr p (by show ¬ _; (try dsimp only [gIn]); omega))
      have hfo3 := (hfr (d + 128) (by show ¬ _; (try dsimp only [gIn]); omega)).trans hfo2
      have hfd3 := (hfr (d + 129) (by show ¬ _; (try dsimp only [gIn]); omega)).trans hfd2
      refine lv_istore (lv' := [(7, .int rz2), (6, .int (nI (2))), (5, .int (nI (i))), (0, .ref (sa)), (1, .ref (ad (d))), (2, .ref (ad (d + 116))), (3, .ref (ad (d + 128))), (4, .ref (ad (d + 129)))]) hx hb dL_law_1798 hl (by decide) rfl (fun ls hl => ?_)
      refine lv_aload_n hx hb dL_law_1800 rfl (lv_at hl 5 rfl) ?_
      refine g_afi (g_runV S hI hP hS (k := 0) (As := []) (rest := []) (mX13_thrown l _ _ _ _ _ _ _ _ _ _ _ _ _ _ _ _ _ _ _ _ _ _ _ _ _ hmd3) q1860 q1861 q1862 q100 q1863 rfl rfl (by decide +kernel) ⟨(Nat.le_trans (Nat.le_of_ble_eq_true rfl : _ ≤ 64) hRf), (Nat.le_trans (Nat.le_of_ble_eq_true rfl : _ ≤ 2000) hRl)⟩ rfl (hmd3.lt 0 (by decide)) (hmd3.2 0 (by decide)) rfl hl.1 rfl (Nat.le_of_ble_eq_true rfl) ⟨by omega, by omega⟩ dL_law_1801) hS (fun rz9 w9 H locs hq9 hP hS => ?_)
      obtain ⟨hr9, hw9⟩ := hq9
      rw [hw9] at hP
      rw [hr9]
      refine lv_iload hx hb dL_law_1804 (lv_at hl 1 rfl) ?_
      refine g_eq S (a := 2) (b := 2) (by omega) (by omega) (tgt := 1811) dL_law_1806 (by decide) (fun hb9 => ?_) (fun hb9 => ?_)
      · refine lv_iload hx hb dL_law_1811 (lv_at hl 1 rfl) ?_
        refine g_ifne S (a := 2) (by omega) (tgt := 1828) dL_law_1813 (by decide) (fun hb8 => ?_) (fun hb8 => ?_)
        · refine lv_goto (tgt := 2997) hx hb dL_law_1828 (by decide) ?_
          exact W.widen (k := cells + 234) (n := slots + 2848) (by omega) (by omega) (kk9 ad N _ _ _ _ ⟨_, _, _, _, _, _, _, _, _, _, _, _, _, _, _, _, _, _, _, _, _, _, _, _, _, _, _, _, _, _, _, _, hcls3, hmd3, ⟨_, hfo3⟩, ⟨_, hfd3⟩, hDat.le (by omega)⟩ hP hS (lv_sub hl [2, 3, 4, 5, 6, 7] rfl))
        · omega
      · exact absurd rfl hb9
    · skip
      rcases hc2 with h9 | h9
      · rw [h9] at hc1; cases hc1
      · rw [h9] at hd1; cases hd1
end CASES3
