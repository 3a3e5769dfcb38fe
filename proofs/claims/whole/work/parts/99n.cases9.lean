/-! THE CASES OF THE LAW: numbers with a point -/
theorem mh_eq2 : ∀ a, a < 60 → ∀ b, b < 60 → FP.dcmp (FP.ddiv (FP.i2d (nI (a * 60 + b))) 4630263366890291200) (FP.ddiv (FP.i2d (nI (a * 60 + b))) 4630263366890291200) = some .eq := by decide +kernel
theorem mh_eq (a : Nat) (h : a < 3565) : FP.dcmp (FP.ddiv (FP.i2d (nI a)) 4630263366890291200) (FP.ddiv (FP.i2d (nI a)) 4630263366890291200) = some .eq := by
  have := mh_eq2 (a / 60) (by omega) (a % 60) (by omega)
  rw [show a / 60 * 60 + a % 60 = a by omega] at this
  exact this
theorem sl_eq : ∀ a, a < 397 → ∀ b, b < 5 → 2 ≤ b → FP.dcmp (FP.f2d (FP.fdiv (FP.i2f (nI a)) (FP.i2f (nI b)))) (FP.f2d (FP.fdiv (FP.i2f (nI a)) (FP.i2f (nI b)))) = some .eq ∧ FP.f2d (FP.fdiv (FP.i2f (nI a)) (FP.i2f (nI b))) &&& 0x7fffffffffffffff ≤ 0x7ff0000000000000 := by decide +kernel
theorem slC_b (c : Nat) (hc : c < 36) : 2 ≤ slC c 4 ∧ slC c 4 < 5 := by
  have h : ∀ c, c < 36 → 2 ≤ slC c 4 ∧ slC c 4 < 5 := by decide +kernel
  exact h c hc
section CASES9
variable {p : Program} {l : Launch} {e : Env} {R : Room} {s : State} {m : MethodId} {args : Array Value} {below : List Frame} {meth : Method} {c : Code} {H : Heap} {locs : List Loc} {cells slots : Nat} {Q : State → Prop}
variable {cc : ByteArray} {pc nL : Nat} {ls : Array Slot} {rest st0 : List Value} {own : String} {E : gE} {ad : Nat → Nat} {N : Nat} {w : Nat → va_E}
set_option maxHeartbeats 4000000 in
set_option maxRecDepth 100000 in
/-- the law's case 39: meanHeight -/
theorem lc_39 (kk : Nat → Nat) (hlt : l.stackTraces = false) (hz : gHx E) (hzv : gHv E kk) (hn : gHn E) (S : gFix p m c cL_law 10 s args RL) (hI : gI E s s.heap) (hP : gP E ad N w H) (hS : va_S (gA E) s.heap H locs) (hRf : 64 ≤ R.frames) (hRl : 2000 ≤ R.locals) (hRc : cells + 234 ≤ R.cells) (hRs : slots + 2848 ≤ R.slots) {d B i sa L : Nat} {xs : Nat → Int32} (hB : B ≤ 600000) (hinv : lawP E kk ad N w d B) (hX : va_X sa L xs s s.heap) (hsa : sa < s.heap.size) (hsA : ¬ gA E sa) (hi : i + 5 ≤ L) (hL : L < 2 ^ 31) (hl : lv_has ls 10 [(5, .int (nI (i))), (0, .ref (sa)), (1, .ref (ad (d))), (2, .ref (ad (d + 116))), (3, .ref (ad (d + 128))), (4, .ref (ad (d + 129)))])
    (kk9 : ∀ (ad' : Nat → Nat) (N' : Nat) (w' : Nat → va_E) (H' : Heap) (locs' : List Loc) (ls' : Array Slot), lawP E kk ad' N' w' d (B + 1000) → gP E ad' N' w' H' → va_S (gA E) s.heap H' locs' → lv_has ls' 10 [(5, .int (nI (i))), (0, .ref (sa)), (1, .ref (ad' (d))), (2, .ref (ad' (d + 116))), (3, .ref (ad' (d + 128))), (4, .ref (ad' (d + 129)))] → W p l e R s m args below meth c H' locs' (cells + 234) (slots + 2848) Q (F0 m 2997 ls' [])) :
    W p l e R s m args below meth c H locs cells slots Q (F0 m 2362 ls []) := by
  have hx := S.1
  have hb := S.2.1
  obtain ⟨S1, pl, ct, K, sv, Z, fp, dq, dd, dc, bf, ln, tx, g, kp, svr, bfr, sd, sg, mk, td, lv, tl, qc, qd, co, wy, de, ca, sm, pa, tm, hcls, hmd, ⟨fo, hfo⟩, ⟨fd, hfd⟩, hDat⟩ := hinv
  obtain ⟨hdN, ⟨hbd, hbs, hbz, ⟨A0, hba⟩, ⟨T0, hbt⟩, hhs⟩, hscr, hprs, hsb⟩ := id hcls
  obtain ⟨hrow, hhis, hsnp, hden, hbuf, hlin, hfp⟩ := id hDat
  refine lv_aload_n hx hb dL_law_2362 rfl (lv_at hl 2 rfl) ?_
  refine g_afd (g_runV S hI hP hS (k := 0) (As := []) (rest := []) (mX12_meanHeight l d sv fp dq dd dc S1.1 S1.2.1 S1.2.2.1 S1.2.2.2.1 S1.2.2.2.2.1 S1.2.2.2.2.2.1 S1.2.2.2.2.2.2.1 S1.2.2.2.2.2.2.2.1 S1.2.2.2.2.2.2.2.2.1 S1.2.2.2.2.2.2.2.2.2 hbd hbs hrow.2.1.1) q814 q815 q816 q82 q817 rfl rfl (by decide +kernel) ⟨(Nat.le_trans (Nat.le_of_ble_eq_true rfl : _ ≤ 64) hRf), (Nat.le_trans (Nat.le_of_ble_eq_true rfl : _ ≤ 2000) hRl)⟩ rfl (hbd.lt 0 (by decide)) (hbd.2 0 (by decide)) rfl hl.1 rfl (Nat.le_of_ble_eq_true rfl) ⟨by omega, by omega⟩ dL_law_2363) hS (fun rz1 w1 H locs hq hP hS => ?_)
  obtain ⟨hr1, hw1⟩ := hq
  rw [hw1] at hP
  have hcls2 := hcls
  have hmd2 := hmd
  have hfo2 := hfo
  have hfd2 := hfd
  refine lv_dstore (lv' := [(6, .double rz1), (5, .int (nI (i))), (0, .ref (sa)), (1, .ref (ad (d))), (2, .ref (ad (d + 116))), (3, .ref (ad (d + 128))), (4, .ref (ad (d + 129)))]) hx hb dL_law_2366 hl (by decide) rfl (fun ls hl => ?_)
  refine lv_aload_n hx hb dL_law_2368 rfl (lv_at hl 4 rfl) ?_
  refine g_afd (g_runV S hI hP hS (k := 0) (As := []) (rest := []) (mX13_meanHeight l (d + 116) g kp svr bfr sd bf sg mk td lv tl sv qc (0 : Nat) qd co wy de ca ln fp sm pa tm S1.1 S1.2.1 S1.2.2.1 S1.2.2.2.1 S1.2.2.2.2.1 S1.2.2.2.2.2.1 S1.2.2.2.2.2.2.1 S1.2.2.2.2.2.2.2.1 S1.2.2.2.2.2.2.2.2.1 S1.2.2.2.2.2.2.2.2.2 hmd2 hrow.1 hrow.2.1.1) q2127 q2128 q2129 q100 q2130 rfl rfl (by decide +kernel) ⟨(Nat.le_trans (Nat.le_of_ble_eq_true rfl : _ ≤ 64) hRf), (Nat.le_trans (Nat.le_of_ble_eq_true rfl : _ ≤ 2000) hRl)⟩ rfl (hmd2.lt 0 (by decide)) (hmd2.2 0 (by decide)) rfl hl.1 rfl (Nat.le_of_ble_eq_true rfl) ⟨by omega, by omega⟩ dL_law_2369) hS (fun rz2 w3 H locs hq2 hP hS => ?_)
  obtain ⟨hr2, hmd3, hfr⟩ := hq2
  have hcls3 : clsP E ad N w3 d kk S1 pl ct K sv Z fp dq dd dc bf ln tx := hcls2.fr (fun p hp => hfr p (by show ¬ _; (try dsimp only [gIn]); omega))
  have hfo3 := (hfr (d + 128) (by show ¬ _; (try dsimp only [gIn]); omega)).trans hfo2
  have hfd3 := (hfr (d + 129) (by show ¬ _; (try dsimp only [gIn]); omega)).trans hfd2
  rw [hr2.trans hr1.symm]
  refine lv_dstore (lv' := [(8, .double rz1), (6, .double rz1), (5, .int (nI (i))), (0, .ref (sa)), (1, .ref (ad (d))), (2, .ref (ad (d + 116))), (3, .ref (ad (d + 128))), (4, .ref (ad (d + 129)))]) hx hb dL_law_2372 hl (by decide) rfl (fun ls hl => ?_)
  refine lv_dload hx hb dL_law_2374 (lv_at hl 1 rfl) ?_
  refine lv_dload hx hb dL_law_2376 (lv_at hl 0 rfl) ?_
  have hsb8 := smN_bound (f := S1.1) (c := 99) (n := 36) hrow.2.1.1
  have heq9 : FP.dcmp rz1 rz1 = some .eq := by rw [hr1]; exact mh_eq _ (by omega)
  refine lv_dcmp hx hb dL_law_2378 ?_
  rw [show Op.cmpValue (FP.dcmp rz1 rz1) .l = nI 0 by rw [heq9]; rfl]
  refine g_ifeq S (a := 0) (by omega) (tgt := 2400) dL_law_2379 (by decide) (fun hb9 => ?_) (fun hb9 => ?_)
  · refine lv_goto (tgt := 2997) hx hb dL_law_2400 (by decide) ?_
    exact W.widen (k := cells + 234) (n := slots + 2848) (by omega) (by omega) (kk9 ad N _ _ _ _ ⟨_, _, _, _, _, _, _, _, _, _, _, _, _, _, _, _, _, _, _, _, _, _, _, _, _, _, _, _, _, _, _, _, hcls3, hmd3, ⟨_, hfo3⟩, ⟨_, hfd3⟩, hDat.le (by omega)⟩ hP hS (lv_sub hl [2, 3, 4, 5, 6, 7] rfl))
  · omega
set_option maxHeartbeats 4000000 in
set_option maxRecDepth 100000 in
/-- the law's case 40: slope -/
theorem lc_40 (kk : Nat → Nat) (hlt : l.stackTraces = false) (hz : gHx E) (hzv : gHv E kk) (hn : gHn E) (S : gFix p m c cL_law 10 s args RL) (hI : gI E s s.heap) (hP : gP E ad N w H) (hS : va_S (gA E) s.heap H locs) (hRf : 64 ≤ R.frames) (hRl : 2000 ≤ R.locals) (hRc : cells + 234 ≤ R.cells) (hRs : slots + 2848 ≤ R.slots) {d B i sa L : Nat} {xs : Nat → Int32} (hB : B ≤ 600000) (hinv : lawP E kk ad N w d B) (hX : va_X sa L xs s s.heap) (hsa : sa < s.heap.size) (hsA : ¬ gA E sa) (hi : i + 5 ≤ L) (hL : L < 2 ^ 31) (hl : lv_has ls 10 [(5, .int (nI (i))), (0, .ref (sa)), (1, .ref (ad (d))), (2, .ref (ad (d + 116))), (3, .ref (ad (d + 128))), (4, .ref (ad (d + 129)))])
    (kk9 : ∀ (ad' : Nat → Nat) (N' : Nat) (w' : Nat → va_E) (H' : Heap) (locs' : List Loc) (ls' : Array Slot), lawP E kk ad' N' w' d (B + 1000) → gP E ad' N' w' H' → va_S (gA E) s.heap H' locs' → lv_has ls' 10 [(5, .int (nI (i))), (0, .ref (sa)), (1, .ref (ad' (d))), (2, .ref (ad' (d + 116))), (3, .ref (ad' (d + 128))), (4, .ref (ad' (d + 129)))] → W p l e R s m args below meth c H' locs' (cells + 234) (slots + 2848) Q (F0 m 2997 ls' [])) :
    W p l e R s m args below meth c H locs cells slots Q (F0 m 2403 ls []) := by
  have hx := S.1
  have hb := S.2.1
  obtain ⟨S1, pl, ct, K, sv, Z, fp, dq, dd, dc, bf, ln, tx, g, kp, svr, bfr, sd, sg, mk, td, lv, tl, qc, qd, co, wy, de, ca, sm, pa, tm, hcls, hmd, ⟨fo, hfo⟩, ⟨fd, hfd⟩, hDat⟩ := hinv
  obtain ⟨hdN, ⟨hbd, hbs, hbz, ⟨A0, hba⟩, ⟨T0, hbt⟩, hhs⟩, hscr, hprs, hsb⟩ := id hcls
  obtain ⟨hrow, hhis, hsnp, hden, hbuf, hlin, hfp⟩ := id hDat
  refine lv_aload_n hx hb dL_law_2403 rfl (lv_at hl 2 rfl) ?_
  refine lv_aload_n hx hb dL_law_2404 rfl (lv_at hl 1 rfl) ?_
  refine lv_iload hx hb dL_law_2405 (lv_at hl 0 rfl) ?_
  refine g_iconst S 1 dL_law_2407 (by decide +kernel) ?_
  refine g_iadd S dL_law_2408 ?_
  refine g_sld S hX hsa hsA hS (i + 1) (by omega) hL dL_law_2409 ?_
  refine lv_aload_n hx hb dL_law_2410 rfl (lv_at hl 1 rfl) ?_
  refine lv_iload hx hb dL_law_2411 (lv_at hl 0 rfl) ?_
  refine g_iconst S 2 dL_law_2413 (by decide +kernel) ?_
  refine g_iadd S dL_law_2414 ?_
  refine g_sld S hX hsa hsA hS (i + 2) (by omega) hL dL_law_2415 ?_
  refine lv_aload hx hb dL_law_2416 (lv_at hl 5 rfl) ?_
  refine g_afi (g_runSW S hI hP hS (hh := [(0, 10, 13, 13)]) (k := 4) (As := [.ref (ad (d)), .int (xs (i + 1)), .int (xs (i + 2)), .ref (ad (d + 129))]) (rest := []) (mL_slope l d (d + 129) (xs (i + 1)) (xs (i + 2)) hz hn (hbd.lt 0 (by decide)) (hbd.2 0 (by decide)) (mX12_slope l d sv fp dq dd dc S1.1 S1.2.1 S1.2.2.1 S1.2.2.2.1 S1.2.2.2.2.1 S1.2.2.2.2.2.1 S1.2.2.2.2.2.2.1 S1.2.2.2.2.2.2.2.1 S1.2.2.2.2.2.2.2.2.1 S1.2.2.2.2.2.2.2.2.2 (xs (i + 1)) (xs (i + 2)) hbd hbs hlt hz hrow.2.1.1) (by omega) (fun r w' h => (by obtain ⟨k1, hc1, hv1, hw1⟩ := h; exact ⟨fd, by rw [hw1]; exact hfd, by rw [hv1]; exact (sl_eq (slS S1.1 k1 4) (by have := slS_b (ht := S1.1) (cellV_lt hc1) hrow.2.1.1 4; omega) (slC k1 4) (slC_b k1 (cellV_lt hc1)).2 (slC_b k1 (cellV_lt hc1)).1).2⟩)) (fun xc w' h => h.1)) q1221 q1222 q81 q1223 rfl rfl (by decide +kernel) ⟨(Nat.le_trans (Nat.le_of_ble_eq_true rfl : _ ≤ 64) hRf), (Nat.le_trans (Nat.le_of_ble_eq_true rfl : _ ≤ 2000) hRl)⟩ rfl hl.1 rfl (Nat.le_of_ble_eq_true rfl) ⟨by omega, by omega⟩ dL_law_2418) hS (fun rz w1 H locs hq hP hS => ?_)
  rcases hq with ⟨v1, f1, w2, hrz, hf1, hw2, hq⟩ | ⟨hrz, hq⟩
  · skip
    obtain ⟨k1, hc1, hv1, hw1⟩ := hq
    rw [hw2, hw1] at hP
    rw [hrz]
    have hclsW := hcls
    have hmdW := hmd
    have hfoW := hfo
    have hfdW := hfd
    obtain ⟨wb, hwb⟩ : ∃ z, z = va_up w (d + 129) (doE E f1) := ⟨_, rfl⟩
    rw [← hwb] at hP
    have hcls2 : clsP E ad N wb d kk S1 pl ct K sv Z fp dq dd dc bf ln tx := hclsW.fr (fun p hp => by rw [hwb, va_up_ne _ _ (by omega)])
    have hmd2 : bkP N wb (d + 116) 12 (MDC E ad (d + 116) g kp svr bfr sd bf sg mk td lv tl sv qc (0 : Nat) qd co wy de ca ln fp sm pa tm) := by rw [hwb]; exact hmdW.keep (by omega)
    have hfd2 : wb (d + 129) = doE E f1 := by rw [hwb, va_up_self]
    have hfo2 : wb (d + 128) = loE E fo := by rw [hwb, va_up_ne _ _ (by omega)]; exact hfoW
    refine lv_istore (lv' := [(6, .int (nI (0))), (5, .int (nI (i))), (0, .ref (sa)), (1, .ref (ad (d))), (2, .ref (ad (d + 116))), (3, .ref (ad (d + 128))), (4, .ref (ad (d + 129)))]) hx hb dL_law_2421 hl (by decide) rfl (fun ls hl => ?_)
    refine lv_aload_n hx hb dL_law_2423 rfl (lv_at hl 4 rfl) ?_
    refine lv_aload_n hx hb dL_law_2424 rfl (lv_at hl 2 rfl) ?_
    refine lv_iload hx hb dL_law_2425 (lv_at hl 1 rfl) ?_
    refine g_iconst S 1 dL_law_2427 (by decide +kernel) ?_
    refine g_iadd S dL_law_2428 ?_
    refine g_sld S hX hsa hsA hS (i + 1) (by omega) hL dL_law_2429 ?_
    refine lv_aload_n hx hb dL_law_2430 rfl (lv_at hl 2 rfl) ?_
    refine lv_iload hx hb dL_law_2431 (lv_at hl 1 rfl) ?_
    refine g_iconst S 2 dL_law_2433 (by decide +kernel) ?_
    refine g_iadd S dL_law_2434 ?_
    refine g_sld S hX hsa hsA hS (i + 2) (by omega) hL dL_law_2435 ?_
    refine g_aff (g_runV S hI hP hS (k := 2) (As := [.int (xs (i + 1)), .int (xs (i + 2))]) (rest := []) (mX13_slope l (d + 116) g kp svr bfr sd bf sg mk td lv tl sv qc (0 : Nat) qd co wy de ca ln fp sm pa tm S1.1 S1.2.1 S1.2.2.1 S1.2.2.2.1 S1.2.2.2.2.1 S1.2.2.2.2.2.1 S1.2.2.2.2.2.2.1 S1.2.2.2.2.2.2.2.1 S1.2.2.2.2.2.2.2.2.1 S1.2.2.2.2.2.2.2.2.2 (xs (i + 1)) (xs (i + 2)) hmd2 hrow.1 hrow.2.1.1) q2132 q2133 q2134 q100 q2135 rfl rfl (by decide +kernel) ⟨(Nat.le_trans (Nat.le_of_ble_eq_true rfl : _ ≤ 64) hRf), (Nat.le_trans (Nat.le_of_ble_eq_true rfl : _ ≤ 2000) hRl)⟩ rfl (hmd2.lt 0 (by decide)) (hmd2.2 0 (by decide)) rfl hl.1 rfl (Nat.le_of_ble_eq_true rfl) ⟨by omega, by omega⟩ dL_law_2436) hS (fun rz2 w3 H locs hq2 hP hS => ?_)
    obtain ⟨hq2, hfr⟩ := hq2
    rcases hq2 with ⟨k2, hc2, hr2, hmd3⟩ | ⟨hc2, hmd3⟩
    · skip
      have hcls3 : clsP E ad N w3 d kk S1 pl ct K sv Z fp dq dd dc bf ln tx := hcls2.fr (fun p hp => hfr p (by show ¬ _; (try dsimp only [gIn]); omega))
      have hfo3 := (hfr (d + 128) (by show ¬ _; (try dsimp only [gIn]); omega)).trans hfo2
      have hfd3 := (hfr (d + 129) (by show ¬ _; (try dsimp only [gIn]); omega)).trans hfd2
      have hk := Option.some.inj (hc1.symm.trans hc2)
      rw [show rz2 = v1 by rw [hv1, hr2, hk]]
      refine lv_fstore (lv' := [(7, .float v1), (6, .int (nI (0))), (5, .int (nI (i))), (0, .ref (sa)), (1, .ref (ad (d))), (2, .ref (ad (d + 116))), (3, .ref (ad (d + 128))), (4, .ref (ad (d + 129)))]) hx hb dL_law_2439 hl (by decide) rfl (fun ls hl => ?_)
      refine lv_aload_n hx hb dL_law_2441 rfl (lv_at hl 5 rfl) ?_
      refine g_afi (g_runV S hI hP hS (k := 0) (As := []) (rest := []) (mX13_thrown l _ _ _ _ _ _ _ _ _ _ _ _ _ _ _ _ _ _ _ _ _ _ _ _ _ hmd3) q1860 q1861 q1862 q100 q1863 rfl rfl (by decide +kernel) ⟨(Nat.le_trans (Nat.le_of_ble_eq_true rfl : _ ≤ 64) hRf), (Nat.le_trans (Nat.le_of_ble_eq_true rfl : _ ≤ 2000) hRl)⟩ rfl (hmd3.lt 0 (by decide)) (hmd3.2 0 (by decide)) rfl hl.1 rfl (Nat.le_of_ble_eq_true rfl) ⟨by omega, by omega⟩ dL_law_2442) hS (fun rz9 w9 H locs hq9 hP hS => ?_)
      obtain ⟨hr9, hw9⟩ := hq9
      rw [hw9] at hP
      rw [hr9]
      refine lv_iload hx hb dL_law_2445 (lv_at hl 1 rfl) ?_
      refine g_eq S (a := 0) (b := 0) (by omega) (by omega) (tgt := 2452) dL_law_2447 (by decide) (fun hb9 => ?_) (fun hb9 => ?_)
      · refine lv_iload hx hb dL_law_2452 (lv_at hl 1 rfl) ?_
        refine g_ifne S (a := 0) (by omega) (tgt := 2490) dL_law_2454 (by decide) (fun hb8 => ?_) (fun hb8 => ?_)
        · omega
        · refine lv_aload hx hb dL_law_2457 (lv_at hl 7 rfl) ?_
          refine g_iconst S 0 dL_law_2459 (by decide +kernel) ?_
          refine g_dald S hI hP (o := d + 129) (by omega) hfd3 dL_law_2460 ?_
          rw [hf1]
          refine lv_fload hx hb dL_law_2461 (lv_at hl 0 rfl) ?_
          have hsl := (sl_eq (slS S1.1 k1 4) (by have := slS_b (ht := S1.1) (cellV_lt hc1) hrow.2.1.1 4; omega) (slC k1 4) (slC_b k1 (cellV_lt hc1)).2 (slC_b k1 (cellV_lt hc1)).1)
          refine lv_f2d hx hb dL_law_2463 (by rw [hv1]; exact hsl.2) ?_
          have heq9 : FP.dcmp (FP.f2d v1) (FP.f2d v1) = some .eq := by rw [hv1]; exact hsl.1
          refine lv_dcmp hx hb dL_law_2464 ?_
          rw [show Op.cmpValue (FP.dcmp (FP.f2d v1) (FP.f2d v1)) .l = nI 0 by rw [heq9]; rfl]
          refine g_ifeq S (a := 0) (by omega) (tgt := 2490) dL_law_2465 (by decide) (fun hb7 => ?_) (fun hb7 => ?_)
          · refine lv_goto (tgt := 2997) hx hb dL_law_2490 (by decide) ?_
            exact W.widen (k := cells + 234) (n := slots + 2848) (by omega) (by omega) (kk9 ad N _ _ _ _ ⟨_, _, _, _, _, _, _, _, _, _, _, _, _, _, _, _, _, _, _, _, _, _, _, _, _, _, _, _, _, _, _, _, hcls3, hmd3, ⟨_, hfo3⟩, ⟨_, hfd3⟩, hDat.le (by omega)⟩ hP hS (lv_sub hl [2, 3, 4, 5, 6, 7] rfl))
          · omega
      · exact absurd rfl hb9
    · skip
      exact absurd (hc1.symm.trans hc2) (by intro q9; cases q9)
  · skip
    obtain ⟨hx1, hc1, hw1⟩ := hq
    rw [hw1] at hP
    rw [hrz]
    have hclsW := hcls
    have hmdW := hmd
    have hfoW := hfo
    have hfdW := hfd
    obtain ⟨wb, hwb⟩ : ∃ z, z = w := ⟨_, rfl⟩
    rw [← hwb] at hP
    have hcls2 : clsP E ad N wb d kk S1 pl ct K sv Z fp dq dd dc bf ln tx := by rw [hwb]; exact hclsW
    have hmd2 : bkP N wb (d + 116) 12 (MDC E ad (d + 116) g kp svr bfr sd bf sg mk td lv tl sv qc (0 : Nat) qd co wy de ca ln fp sm pa tm) := by rw [hwb]; exact hmdW
    have hfo2 : wb (d + 128) = loE E fo := by rw [hwb]; exact hfoW
    have hfd2 : wb (d + 129) = doE E fd := by rw [hwb]; exact hfdW
    refine lv_istore (lv' := [(6, .int (nI (1))), (5, .int (nI (i))), (0, .ref (sa)), (1, .ref (ad (d))), (2, .ref (ad (d + 116))), (3, .ref (ad (d + 128))), (4, .ref (ad (d + 129)))]) hx hb dL_law_2421 hl (by decide) rfl (fun ls hl => ?_)
    refine lv_aload_n hx hb dL_law_2423 rfl (lv_at hl 4 rfl) ?_
    refine lv_aload_n hx hb dL_law_2424 rfl (lv_at hl 2 rfl) ?_
    refine lv_iload hx hb dL_law_2425 (lv_at hl 1 rfl) ?_
    refine g_iconst S 1 dL_law_2427 (by decide +kernel) ?_
    refine g_iadd S dL_law_2428 ?_
    refine g_sld S hX hsa hsA hS (i + 1) (by omega) hL dL_law_2429 ?_
    refine lv_aload_n hx hb dL_law_2430 rfl (lv_at hl 2 rfl) ?_
    refine lv_iload hx hb dL_law_2431 (lv_at hl 1 rfl) ?_
    refine g_iconst S 2 dL_law_2433 (by decide +kernel) ?_
    refine g_iadd S dL_law_2434 ?_
    refine g_sld S hX hsa hsA hS (i + 2) (by omega) hL dL_law_2435 ?_
    refine g_aff (g_runV S hI hP hS (k := 2) (As := [.int (xs (i + 1)), .int (xs (i + 2))]) (rest := []) (mX13_slope l (d + 116) g kp svr bfr sd bf sg mk td lv tl sv qc (0 : Nat) qd co wy de ca ln fp sm pa tm S1.1 S1.2.1 S1.2.2.1 S1.2.2.2.1 S1.2.2.2.2.1 S1.2.2.2.2.2.1 S1.2.2.2.2.2.2.1 S1.2.2.2.2.2.2.2.1 S1.2.2.2.2.2.2.2.2.1 S1.2.2.2.2.2.2.2.2.2 (xs (i + 1)) (xs (i + 2)) hmd2 hrow.1 hrow.2.1.1) q2132 q2133 q2134 q100 q2135 rfl rfl (by decide +kernel) ⟨(Nat.le_trans (Nat.le_of_ble_eq_true rfl : _ ≤ 64) hRf), (Nat.le_trans (Nat.le_of_ble_eq_true rfl : _ ≤ 2000) hRl)⟩ rfl (hmd2.lt 0 (by decide)) (hmd2.2 0 (by decide)) rfl hl.1 rfl (Nat.le_of_ble_eq_true rfl) ⟨by omega, by omega⟩ dL_law_2436) hS (fun rz2 w3 H locs hq2 hP hS => ?_)
    obtain ⟨hq2, hfr⟩ := hq2
    rcases hq2 with ⟨k2, hc2, hr2, hmd3⟩ | ⟨hc2, hmd3⟩
    · skip
      exact absurd (hc2.symm.trans hc1) (by intro q9; cases q9)
    · skip
      have hcls3 : clsP E ad N w3 d kk S1 pl ct K sv Z fp dq dd dc bf ln tx := hcls2.fr (fun p hp => hfr p (by show ¬ _; (try dsimp only [gIn]); omega))
      have hfo3 := (hfr (d + 128) (by show ¬ _; (try dsimp only [gIn]); omega)).trans hfo2
      have hfd3 := (hfr (d + 129) (by show ¬ _; (try dsimp only [gIn]); omega)).trans hfd2
      refine lv_fstore (lv' := [(7, .float rz2), (6, .int (nI (1))), (5, .int (nI (i))), (0, .ref (sa)), (1, .ref (ad (d))), (2, .ref (ad (d + 116))), (3, .ref (ad (d + 128))), (4, .ref (ad (d + 129)))]) hx hb dL_law_2439 hl (by decide) rfl (fun ls hl => ?_)
      refine lv_aload_n hx hb dL_law_2441 rfl (lv_at hl 5 rfl) ?_
      refine g_afi (g_runV S hI hP hS (k := 0) (As := []) (rest := []) (mX13_thrown l _ _ _ _ _ _ _ _ _ _ _ _ _ _ _ _ _ _ _ _ _ _ _ _ _ hmd3) q1860 q1861 q1862 q100 q1863 rfl rfl (by decide +kernel) ⟨(Nat.le_trans (Nat.le_of_ble_eq_true rfl : _ ≤ 64) hRf), (Nat.le_trans (Nat.le_of_ble_eq_true rfl : _ ≤ 2000) hRl)⟩ rfl (hmd3.lt 0 (by decide)) (hmd3.2 0 (by decide)) rfl hl.1 rfl (Nat.le_of_ble_eq_true rfl) ⟨by omega, by omega⟩ dL_law_2442) hS (fun rz9 w9 H locs hq9 hP hS => ?_)
      obtain ⟨hr9, hw9⟩ := hq9
      rw [hw9] at hP
      rw [hr9]
      refine lv_iload hx hb dL_law_2445 (lv_at hl 1 rfl) ?_
      refine g_eq S (a := 1) (b := 1) (by omega) (by omega) (tgt := 2452) dL_law_2447 (by decide) (fun hb9 => ?_) (fun hb9 => ?_)
      · refine lv_iload hx hb dL_law_2452 (lv_at hl 1 rfl) ?_
        refine g_ifne S (a := 1) (by omega) (tgt := 2490) dL_law_2454 (by decide) (fun hb8 => ?_) (fun hb8 => ?_)
        · refine lv_goto (tgt := 2997) hx hb dL_law_2490 (by decide) ?_
          exact W.widen (k := cells + 234) (n := slots + 2848) (by omega) (by omega) (kk9 ad N _ _ _ _ ⟨_, _, _, _, _, _, _, _, _, _, _, _, _, _, _, _, _, _, _, _, _, _, _, _, _, _, _, _, _, _, _, _, hcls3, hmd3, ⟨_, hfo3⟩, ⟨_, hfd3⟩, hDat.le (by omega)⟩ hP hS (lv_sub hl [2, 3, 4, 5, 6, 7] rfl))
        · omega
      · exact absurd rfl hb9
end CASES9
