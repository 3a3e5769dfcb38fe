section CASES
variable {p : Program} {l : Launch} {e : Env} {R : Room} {s : State} {m : MethodId} {args : Array Value} {below : List Frame} {meth : Method} {c : Code} {H : Heap} {locs : List Loc} {cells slots : Nat} {Q : State → Prop}
variable {cc : ByteArray} {pc nL : Nat} {ls : Array Slot} {rest st0 : List Value} {own : String} {E : gE} {ad : Nat → Nat} {N : Nat} {w : Nat → va_E}
set_option maxHeartbeats 4000000 in
set_option maxRecDepth 100000 in
/-- the law's case 4: height -/
theorem lc_4 (kk : Nat → Nat) (hlt : l.stackTraces = false) (hz : gHx E) (hzv : gHv E kk) (hn : gHn E) (S : gFix p m c cL_law 10 s args RL) (hI : gI E s s.heap) (hP : gP E ad N w H) (hS : va_S (gA E) s.heap H locs) (hRf : 64 ≤ R.frames) (hRl : 2000 ≤ R.locals) (hRc : cells + 234 ≤ R.cells) (hRs : slots + 2848 ≤ R.slots) {d B i sa L : Nat} {xs : Nat → Int32} (hB : B ≤ 600000) (hinv : lawP E kk ad N w d B) (hX : va_X sa L xs s s.heap) (hsa : sa < s.heap.size) (hsA : ¬ gA E sa) (hi : i + 5 ≤ L) (hL : L < 2 ^ 31) (hl : lv_has ls 10 [(5, .int (nI (i))), (0, .ref (sa)), (1, .ref (ad (d))), (2, .ref (ad (d + 116))), (3, .ref (ad (d + 128))), (4, .ref (ad (d + 129)))])
    (kk9 : ∀ (ad' : Nat → Nat) (N' : Nat) (w' : Nat → va_E) (H' : Heap) (locs' : List Loc) (ls' : Array Slot), lawP E kk ad' N' w' d (B + 1000) → gP E ad' N' w' H' → va_S (gA E) s.heap H' locs' → lv_has ls' 10 [(5, .int (nI (i))), (0, .ref (sa)), (1, .ref (ad' (d))), (2, .ref (ad' (d + 116))), (3, .ref (ad' (d + 128))), (4, .ref (ad' (d + 129)))] → W p l e R s m args below meth c H' locs' (cells + 234) (slots + 2848) Q (F0 m 2997 ls' [])) :
    W p l e R s m args below meth c H locs cells slots Q (F0 m 501 ls []) := by
  have hx := S.1
  have hb := S.2.1
  obtain ⟨S1, pl, ct, K, sv, Z, fp, dq, dd, dc, bf, ln, tx, g, kp, svr, bfr, sd, sg, mk, td, lv, tl, qc, qd, co, wy, de, ca, sm, pa, tm, hcls, hmd, ⟨fo, hfo⟩, ⟨fd, hfd⟩, hDat⟩ := hinv
  obtain ⟨hdN, ⟨hbd, hbs, hbz, ⟨A0, hba⟩, ⟨T0, hbt⟩, hhs⟩, hscr, hprs, hsb⟩ := id hcls
  obtain ⟨hrow, hhis, hsnp, hden, hbuf, hlin, hfp⟩ := id hDat
  refine lv_aload_n hx hb dL_law_501 rfl (lv_at hl 2 rfl) ?_
  refine lv_aload_n hx hb dL_law_502 rfl (lv_at hl 1 rfl) ?_
  refine lv_iload hx hb dL_law_503 (lv_at hl 0 rfl) ?_
  refine g_iconst S 1 dL_law_505 (by decide +kernel) ?_
  refine g_iadd S dL_law_506 ?_
  refine g_sld S hX hsa hsA hS (i + 1) (by omega) hL dL_law_507 ?_
  refine lv_aload_n hx hb dL_law_508 rfl (lv_at hl 1 rfl) ?_
  refine lv_iload hx hb dL_law_509 (lv_at hl 0 rfl) ?_
  refine g_iconst S 2 dL_law_511 (by decide +kernel) ?_
  refine g_iadd S dL_law_512 ?_
  refine g_sld S hX hsa hsA hS (i + 2) (by omega) hL dL_law_513 ?_
  refine lv_aload_n hx hb dL_law_514 rfl (lv_at hl 4 rfl) ?_
  refine g_afi (g_runSW S hI hP hS (hh := [(0, 10, 13, 13)]) (k := 4) (As := [.ref (ad (d)), .int (xs (i + 1)), .int (xs (i + 2)), .ref (ad (d + 128))]) (rest := []) (mL_height l d (d + 128) (xs (i + 1)) (xs (i + 2)) hz hn (hbd.lt 0 (by decide)) (hbd.2 0 (by decide)) (mX12_height l d sv fp dq dd dc S1.1 S1.2.1 S1.2.2.1 S1.2.2.2.1 S1.2.2.2.2.1 S1.2.2.2.2.2.1 S1.2.2.2.2.2.2.1 S1.2.2.2.2.2.2.2.1 S1.2.2.2.2.2.2.2.2.1 S1.2.2.2.2.2.2.2.2.2 (xs (i + 1)) (xs (i + 2)) hbd hbs hlt hz) (by omega) (fun r w' h => (by obtain ⟨k1, hc1, hv1, hw1⟩ := h; exact ⟨fo, by rw [hw1]; exact hfo⟩)) (fun xc w' h => h.1)) q862 q863 q81 q864 rfl rfl (by decide +kernel) ⟨(Nat.le_trans (Nat.le_of_ble_eq_true rfl : _ ≤ 64) hRf), (Nat.le_trans (Nat.le_of_ble_eq_true rfl : _ ≤ 2000) hRl)⟩ rfl hl.1 rfl (Nat.le_of_ble_eq_true rfl) ⟨by omega, by omega⟩ dL_law_515) hS (fun rz w1 H locs hq hP hS => ?_)
  rcases hq with ⟨v1, f1, w2, hrz, hf1, hw2, hq⟩ | ⟨hrz, hq⟩
  · skip
    obtain ⟨k1, hc1, hv1, hw1⟩ := hq
    rw [hw2, hw1] at hP
    rw [hrz]
    have hclsW := hcls
    have hmdW := hmd
    have hfoW := hfo
    have hfdW := hfd
    obtain ⟨wb, hwb⟩ : ∃ z, z = va_up w (d + 128) (loE E f1) := ⟨_, rfl⟩
    rw [← hwb] at hP
    have hcls2 : clsP E ad N wb d kk S1 pl ct K sv Z fp dq dd dc bf ln tx := hclsW.fr (fun p hp => by rw [hwb, va_up_ne _ _ (by omega)])
    have hmd2 : bkP N wb (d + 116) 12 (MDC E ad (d + 116) g kp svr bfr sd bf sg mk td lv tl sv qc (0 : Nat) qd co wy de ca ln fp sm pa tm) := by rw [hwb]; exact hmdW.keep (by omega)
    have hfo2 : wb (d + 128) = loE E f1 := by rw [hwb, va_up_self]
    have hfd2 : wb (d + 129) = doE E fd := by rw [hwb, va_up_ne _ _ (by omega)]; exact hfdW
    refine lv_istore (lv' := [(6, .int (nI (0))), (5, .int (nI (i))), (0, .ref (sa)), (1, .ref (ad (d))), (2, .ref (ad (d + 116))), (3, .ref (ad (d + 128))), (4, .ref (ad (d + 129)))]) hx hb dL_law_518 hl (by decide) rfl (fun ls hl => ?_)
    refine lv_aload_n hx hb dL_law_520 rfl (lv_at hl 4 rfl) ?_
    refine lv_aload_n hx hb dL_law_521 rfl (lv_at hl 2 rfl) ?_
    refine lv_iload hx hb dL_law_522 (lv_at hl 1 rfl) ?_
    refine g_iconst S 1 dL_law_524 (by decide +kernel) ?_
    refine g_iadd S dL_law_525 ?_
    refine g_sld S hX hsa hsA hS (i + 1) (by omega) hL dL_law_526 ?_
    refine lv_aload_n hx hb dL_law_527 rfl (lv_at hl 2 rfl) ?_
    refine lv_iload hx hb dL_law_528 (lv_at hl 1 rfl) ?_
    refine g_iconst S 2 dL_law_530 (by decide +kernel) ?_
    refine g_iadd S dL_law_531 ?_
    refine g_sld S hX hsa hsA hS (i + 2) (by omega) hL dL_law_532 ?_
    refine g_afi (g_runV S hI hP hS (k := 2) (As := [.int (xs (i + 1)), .int (xs (i + 2))]) (rest := []) (mX13_height l (d + 116) g kp svr bfr sd bf sg mk td lv tl sv qc (0 : Nat) qd co wy de ca ln fp sm pa tm S1.1 S1.2.1 S1.2.2.1 S1.2.2.2.1 S1.2.2.2.2.1 S1.2.2.2.2.2.1 S1.2.2.2.2.2.2.1 S1.2.2.2.2.2.2.2.1 S1.2.2.2.2.2.2.2.2.1 S1.2.2.2.2.2.2.2.2.2 (xs (i + 1)) (xs (i + 2)) hmd2 hrow.1) q1920 q1921 q1922 q100 q1923 rfl rfl (by decide +kernel) ⟨(Nat.le_trans (Nat.le_of_ble_eq_true rfl : _ ≤ 64) hRf), (Nat.le_trans (Nat.le_of_ble_eq_true rfl : _ ≤ 2000) hRl)⟩ rfl (hmd2.lt 0 (by decide)) (hmd2.2 0 (by decide)) rfl hl.1 rfl (Nat.le_of_ble_eq_true rfl) ⟨by omega, by omega⟩ dL_law_533) hS (fun rz2 w3 H locs hq2 hP hS => ?_)
    obtain ⟨hq2, hfr⟩ := hq2
    rcases hq2 with ⟨k2, hc2, hr2, hmd3⟩ | ⟨hc2, hmd3⟩
    · skip
      have hcls3 : clsP E ad N w3 d kk S1 pl ct K sv Z fp dq dd dc bf ln tx := hcls2.fr (fun p hp => hfr p (by show ¬ _; (try dsimp only [gIn]); omega))
      have hfo3 := (hfr (d + 128) (by show ¬ _; (try dsimp only [gIn]); omega)).trans hfo2
      have hfd3 := (hfr (d + 129) (by show ¬ _; (try dsimp only [gIn]); omega)).trans hfd2
      have hk := Option.some.inj (hc1.symm.trans hc2)
      have hv9 : v1 = rz2 := by rw [hv1, hr2, hk]
      rw [hv9] at hf1
      refine lv_istore (lv' := [(7, .int rz2), (6, .int (nI (0))), (5, .int (nI (i))), (0, .ref (sa)), (1, .ref (ad (d))), (2, .ref (ad (d + 116))), (3, .ref (ad (d + 128))), (4, .ref (ad (d + 129)))]) hx hb dL_law_536 hl (by decide) rfl (fun ls hl => ?_)
      refine lv_aload_n hx hb dL_law_538 rfl (lv_at hl 5 rfl) ?_
      refine g_afi (g_runV S hI hP hS (k := 0) (As := []) (rest := []) (mX13_thrown l _ _ _ _ _ _ _ _ _ _ _ _ _ _ _ _ _ _ _ _ _ _ _ _ _ hmd3) q1860 q1861 q1862 q100 q1863 rfl rfl (by decide +kernel) ⟨(Nat.le_trans (Nat.le_of_ble_eq_true rfl : _ ≤ 64) hRf), (Nat.le_trans (Nat.le_of_ble_eq_true rfl : _ ≤ 2000) hRl)⟩ rfl (hmd3.lt 0 (by decide)) (hmd3.2 0 (by decide)) rfl hl.1 rfl (Nat.le_of_ble_eq_true rfl) ⟨by omega, by omega⟩ dL_law_539) hS (fun rz9 w9 H locs hq9 hP hS => ?_)
      obtain ⟨hr9, hw9⟩ := hq9
      rw [hw9] at hP
      rw [hr9]
      refine lv_iload hx hb dL_law_542 (lv_at hl 1 rfl) ?_
      refine g_eq S (a := 0) (b := 0) (by omega) (by omega) (tgt := 549) dL_law_544 (by decide) (fun hb9 => ?_) (fun hb9 => ?_)
      · refine lv_iload hx hb dL_law_549 (lv_at hl 1 rfl) ?_
        refine g_ifne S (a := 0) (by omega) (tgt := 566) dL_law_551 (by decide) (fun hb8 => ?_) (fun hb8 => ?_)
        · omega
        · refine lv_aload_n hx hb dL_law_554 rfl (lv_at hl 6 rfl) ?_
          refine g_iconst S 0 dL_law_555 (by decide +kernel) ?_
          refine g_lald S hI hP (o := d + 128) (by omega) hfo3 dL_law_556 ?_
          rw [hf1]
          refine lv_iload hx hb dL_law_557 (lv_at hl 0 rfl) ?_
          refine lv_i2l hx hb dL_law_559 rfl ?_
          refine g_lcmpE S dL_law_560 ?_
          refine g_ifeq S (a := 0) (by omega) (tgt := 566) dL_law_561 (by decide) (fun hb7 => ?_) (fun hb7 => ?_)
          · refine lv_goto (tgt := 2997) hx hb dL_law_566 (by decide) ?_
            exact W.widen (k := cells + 234) (n := slots + 2848) (by omega) (by omega) (kk9 ad N _ _ _ _ ⟨_, _, _, _, _, _, _, _, _, _, _, _, _, _, _, _, _, _, _, _, _, _, _, _, _, _, _, _, _, _, _, _, hcls3, hmd3, ⟨_, hfo3⟩, ⟨_, hfd3⟩, hDat.le (by omega)⟩ hP hS (lv_sub hl [2, 3, 4, 5, 6, 7] rfl))
          · omega
      · exact absurd rfl hb9
    · skip
      exact absurd (hc1.symm.trans hc2) (by intro q9; cases q9)
  · skip
    obtain ⟨hx1, hc1, hw1⟩ := hq
    rw [hw1] at hP
    rw [hrz]
    have hclsW := hcls
    have hmdW := hmd
    have hfoW := hfo
    have hfdW := hfd
    obtain ⟨wb, hwb⟩ : ∃ z, z = w := ⟨_, rfl⟩
    rw [← hwb] at hP
    have hcls2 : clsP E ad N wb d kk S1 pl ct K sv Z fp dq dd dc bf ln tx := by rw [hwb]; exact hclsW
    have hmd2 : bkP N wb (d + 116) 12 (MDC E ad (d + 116) g kp svr bfr sd bf sg mk td lv tl sv qc (0 : Nat) qd co wy de ca ln fp sm pa tm) := by rw [hwb]; exact hmdW
    have hfo2 : wb (d + 128) = loE E fo := by rw [hwb]; exact hfoW
    have hfd2 : wb (d + 129) = doE E fd := by rw [hwb]; exact hfdW
    refine lv_istore (lv' := [(6, .int (nI (1))), (5, .int (nI (i))), (0, .ref (sa)), (1, .ref (ad (d))), (2, .ref (ad (d + 116))), (3, .ref (ad (d + 128))), (4, .ref (ad (d + 129)))]) hx hb dL_law_518 hl (by decide) rfl (fun ls hl => ?_)
    refine lv_aload_n hx hb dL_law_520 rfl (lv_at hl 4 rfl) ?_
    refine lv_aload_n hx hb dL_law_521 rfl (lv_at hl 2 rfl) ?_
    refine lv_iload hx hb dL_law_522 (lv_at hl 1 rfl) ?_
    refine g_iconst S 1 dL_law_524 (by decide +kernel) ?_
    refine g_iadd S dL_law_525 ?_
    refine g_sld S hX hsa hsA hS (i + 1) (by omega) hL dL_law_526 ?_
    refine lv_aload_n hx hb dL_law_527 rfl (lv_at hl 2 rfl) ?_
    refine lv_iload hx hb dL_law_528 (lv_at hl 1 rfl) ?_
    refine g_iconst S 2 dL_law_530 (by decide +kernel) ?_
    refine g_iadd S dL_law_531 ?_
    refine g_sld S hX hsa hsA hS (i + 2) (by omega) hL dL_law_532 ?_
    refine g_afi (g_runV S hI hP hS (k := 2) (As := [.int (xs (i + 1)), .int (xs (i + 2))]) (rest := []) (mX13_height l (d + 116) g kp svr bfr sd bf sg mk td lv tl sv qc (0 : Nat) qd co wy de ca ln fp sm pa tm S1.1 S1.2.1 S1.2.2.1 S1.2.2.2.1 S1.2.2.2.2.1 S1.2.2.2.2.2.1 S1.2.2.2.2.2.2.1 S1.2.2.2.2.2.2.2.1 S1.2.2.2.2.2.2.2.2.1 S1.2.2.2.2.2.2.2.2.2 (xs (i + 1)) (xs (i + 2)) hmd2 hrow.1) q1920 q1921 q1922 q100 q1923 rfl rfl (by decide +kernel) ⟨(Nat.le_trans (Nat.le_of_ble_eq_true rfl : _ ≤ 64) hRf), (Nat.le_trans (Nat.le_of_ble_eq_true rfl : _ ≤ 2000) hRl)⟩ rfl (hmd2.lt 0 (by decide)) (hmd2.2 0 (by decide)) rfl hl.1 rfl (Nat.le_of_ble_eq_true rfl) ⟨by omega, by omega⟩ dL_law_533) hS (fun rz2 w3 H locs hq2 hP hS => ?_)
    obtain ⟨hq2, hfr⟩ := hq2
    rcases hq2 with ⟨k2, hc2, hr2, hmd3⟩ | ⟨hc2, hmd3⟩
    · skip
      exact absurd (hc2.symm.trans hc1) (by intro q9; cases q9)
    · skip
      have hcls3 : clsP E ad N w3 d kk S1 pl ct K sv Z fp dq dd dc bf ln tx := hcls2.fr (fun p hp => hfr p (by show ¬ _; (try dsimp only [gIn]); omega))
      have hfo3 := (hfr (d + 128) (by show ¬ _; (try dsimp only [gIn]); omega)).trans hfo2
      have hfd3 := (hfr (d + 129) (by show ¬ _; (try dsimp only [gIn]); omega)).trans hfd2
      refine lv_istore (lv' := [(7, .int rz2), (6, .int (nI (1))), (5, .int (nI (i))), (0, .ref (sa)), (1, .ref (ad (d))), (2, .ref (ad (d + 116))), (3, .ref (ad (d + 128))), (4, .ref (ad (d + 129)))]) hx hb dL_law_536 hl (by decide) rfl (fun ls hl => ?_)
      refine lv_aload_n hx hb dL_law_538 rfl (lv_at hl 5 rfl) ?_
      refine g_afi (g_runV S hI hP hS (k := 0) (As := []) (rest := []) (mX13_thrown l _ _ _ _ _ _ _ _ _ _ _ _ _ _ _ _ _ _ _ _ _ _ _ _ _ hmd3) q1860 q1861 q1862 q100 q1863 rfl rfl (by decide +kernel) ⟨(Nat.le_trans (Nat.le_of_ble_eq_true rfl : _ ≤ 64) hRf), (Nat.le_trans (Nat.le_of_ble_eq_true rfl : _ ≤ 2000) hRl)⟩ rfl (hmd3.lt 0 (by decide)) (hmd3.2 0 (by decide)) rfl hl.1 rfl (Nat.le_of_ble_eq_true rfl) ⟨by omega, by omega⟩ dL_law_539) hS (fun rz9 w9 H locs hq9 hP hS => ?_)
      obtain ⟨hr9, hw9⟩ := hq9
      rw [hw9] at hP
      rw [hr9]
      refine lv_iload hx hb dL_law_542 (lv_at hl 1 rfl) ?_
      refine g_eq S (a := 1) (b := 1) (by omega) (by omega) (tgt := 549) dL_law_544 (by decide) (fun hb9 => ?_) (fun hb9 => ?_)
      · refine lv_iload hx hb dL_law_549 (lv_at hl 1 rfl) ?_
        refine g_ifne S (a := 1) (by omega) (tgt := 566) dL_law_551 (by decide) (fun hb8 => ?_) (fun hb8 => ?_)
        · refine lv_goto (tgt := 2997) hx hb dL_law_566 (by decide) ?_
          exact W.widen (k := cells + 234) (n := slots + 2848) (by omega) (by omega) (kk9 ad N _ _ _ _ ⟨_, _, _, _, _, _, _, _, _, _, _, _, _, _, _, _, _, _, _, _, _, _, _, _, _, _, _, _, _, _, _, _, hcls3, hmd3, ⟨_, hfo3⟩, ⟨_, hfd3⟩, hDat.le (by omega)⟩ hP hS (lv_sub hl [2, 3, 4, 5, 6, 7] rfl))
        · omega
      · exact absurd rfl hb9
end CASES
