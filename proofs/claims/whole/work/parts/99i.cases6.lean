/-! THE CASES OF THE LAW: drape, settle, night; snapshots -/
section CASES6
variable {p : Program} {l : Launch} {e : Env} {R : Room} {s : State} {m : MethodId} {args : Array Value} {below : List Frame} {meth : Method} {c : Code} {H : Heap} {locs : List Loc} {cells slots : Nat} {Q : State → Prop}
variable {cc : ByteArray} {pc nL : Nat} {ls : Array Slot} {rest st0 : List Value} {own : String} {E : gE} {ad : Nat → Nat} {N : Nat} {w : Nat → va_E}
set_option maxHeartbeats 4000000 in
set_option maxRecDepth 100000 in
/-- the law's case 3: drape -/
theorem lc_3 (kk : Nat → Nat) (hlt : l.stackTraces = false) (hz : gHx E) (hzv : gHv E kk) (hn : gHn E) (S : gFix p m c cL_law 10 s args RL) (hI : gI E s s.heap) (hP : gP E ad N w H) (hS : va_S (gA E) s.heap H locs) (hRf : 64 ≤ R.frames) (hRl : 2000 ≤ R.locals) (hRc : cells + 234 ≤ R.cells) (hRs : slots + 2848 ≤ R.slots) {d B i sa L : Nat} {xs : Nat → Int32} (hB : B ≤ 600000) (hinv : lawP E kk ad N w d B) (hX : va_X sa L xs s s.heap) (hsa : sa < s.heap.size) (hsA : ¬ gA E sa) (hi : i + 5 ≤ L) (hL : L < 2 ^ 31) (hl : lv_has ls 10 [(5, .int (nI (i))), (0, .ref (sa)), (1, .ref (ad (d))), (2, .ref (ad (d + 116))), (3, .ref (ad (d + 128))), (4, .ref (ad (d + 129)))])
    (kk9 : ∀ (ad' : Nat → Nat) (N' : Nat) (w' : Nat → va_E) (H' : Heap) (locs' : List Loc) (ls' : Array Slot), lawP E kk ad' N' w' d (B + 1000) → gP E ad' N' w' H' → va_S (gA E) s.heap H' locs' → lv_has ls' 10 [(5, .int (nI (i))), (0, .ref (sa)), (1, .ref (ad' (d))), (2, .ref (ad' (d + 116))), (3, .ref (ad' (d + 128))), (4, .ref (ad' (d + 129)))] → W p l e R s m args below meth c H' locs' (cells + 234) (slots + 2848) Q (F0 m 2997 ls' [])) :
    W p l e R s m args below meth c H locs cells slots Q (F0 m 488 ls []) := by
  have hx := S.1
  have hb := S.2.1
  obtain ⟨S1, pl, ct, K, sv, Z, fp, dq, dd, dc, bf, ln, tx, g, kp, svr, bfr, sd, sg, mk, td, lv, tl, qc, qd, co, wy, de, ca, sm, pa, tm, hcls, hmd, ⟨fo, hfo⟩, ⟨fd, hfd⟩, hDat⟩ := hinv
  obtain ⟨hdN, ⟨hbd, hbs, hbz, ⟨A0, hba⟩, ⟨T0, hbt⟩, hhs⟩, hscr, hprs, hsb⟩ := id hcls
  obtain ⟨hrow, hhis, hsnp, hden, hbuf, hlin, hfp⟩ := id hDat
  refine lv_aload_n hx hb dL_law_488 rfl (lv_at hl 2 rfl) ?_
  refine g_xafi (g_xrunV S hI hP hS (k := 0) (As := []) (rest := []) (mX12_drape l kk hzv d sv fp dq dd dc S1.1 S1.2.1 S1.2.2.1 S1.2.2.2.1 S1.2.2.2.2.1 S1.2.2.2.2.2.1 S1.2.2.2.2.2.2.1 S1.2.2.2.2.2.2.2.1 S1.2.2.2.2.2.2.2.2.1 S1.2.2.2.2.2.2.2.2.2 pl ct K hbd hbs hlt hz (by omega) hhs hhis.2.2.1 hhis.2.1 hrow.2.1.1 hrow.2.1.2.1 hrow.2.1.2.2.1 hrow.2.1.2.2.2.1 hrow.2.1.2.2.2.2) q448 q449 q450 q82 q451 rfl rfl (by decide +kernel) ⟨(Nat.le_trans (Nat.le_of_ble_eq_true rfl : _ ≤ 64) hRf), (Nat.le_trans (Nat.le_of_ble_eq_true rfl : _ ≤ 2000) hRl)⟩ rfl (hbd.lt 0 (by decide)) (hbd.2 0 (by decide)) rfl hl.1 rfl (Nat.le_of_ble_eq_true rfl) ⟨by omega, by omega⟩ dL_law_489) hS (fun xc w1 xq ce H locs hpx hP hS hcell hcv hcl => ?_) (fun rz1 w1 H locs hq hP hS => ?_)
  · skip
    rcases hpx with z | z | z
    · exact absurd z.2.1 (by show nI 0 ≠ -1; decide +kernel)
    · exact absurd z.2.1 (cmR_n2 (by decide) (by decide))
    · obtain ⟨-, n9, h1, h2, h3, -⟩ := z
      exact absurd h3 (cmR_nU (by decide) h1 h2)
  · skip
    obtain ⟨k1, u1, hck1, hc1, hv1, hs9n, hh9, hd9, hfw⟩ := hq
    have hclsW : clsP E ad N w1 d kk ((cmS 3 k1 u1 S1.1 S1.2.1 S1.2.2.1 S1.2.2.2.1 S1.2.2.2.2.1 S1.2.2.2.2.2.1 S1.2.2.2.2.2.2.1 S1.2.2.2.2.2.2.2.1 S1.2.2.2.2.2.2.2.2.1 S1.2.2.2.2.2.2.2.2.2).2) ((pl + 1) % 8) (min (ct + 1) 8) (va_up K pl (cpS (S1.1, S1.2.1, S1.2.2.1, S1.2.2.2.1, S1.2.2.2.2.1, S1.2.2.2.2.2.1, S1.2.2.2.2.2.2.1, S1.2.2.2.2.2.2.2.1, S1.2.2.2.2.2.2.2.2.1, S1.2.2.2.2.2.2.2.2.2) (K pl))) sv Z fp dq dd dc bf ln tx := hcls.chg hd9 hs9n hh9 (fun p hp => hfw p (by show ¬ _; (try simp only [gIn]); (try dsimp only); omega))
    have hmdW : bkP N w1 (d + 116) 12 (MDC E ad (d + 116) g kp svr bfr sd bf sg mk td lv tl sv qc (0 : Nat) qd co wy de ca ln fp sm pa tm) := hmd.fr hfw (fun k hk => (by show ¬ _; (try simp only [gIn]); (try dsimp only); omega))
    have hfoW := (hfw (d + 128) (by show ¬ _; (try simp only [gIn]); (try dsimp only); omega)).trans hfo
    have hfdW := (hfw (d + 129) (by show ¬ _; (try simp only [gIn]); (try dsimp only); omega)).trans hfd
    have hcls2 := hclsW
    have hmd2 := hmdW
    have hfo2 := hfoW
    have hfd2 := hfdW
    refine lv_aload_n hx hb dL_law_492 rfl (lv_at hl 3 rfl) ?_
    refine g_afi (g_runV S hI hP hS (k := 0) (As := []) (rest := [.int rz1]) (mX13_drape l (d + 116) g kp svr bfr sd bf sg mk td lv tl sv qc (0 : Nat) qd co wy de ca ln fp sm pa tm S1.1 S1.2.1 S1.2.2.1 S1.2.2.2.1 S1.2.2.2.2.1 S1.2.2.2.2.2.1 S1.2.2.2.2.2.2.1 S1.2.2.2.2.2.2.2.1 S1.2.2.2.2.2.2.2.2.1 S1.2.2.2.2.2.2.2.2.2 hmd2 hrow.1 hrow.2.1.1 hrow.2.1.2.1 hrow.2.1.2.2.1 hrow.2.1.2.2.2.1 hrow.2.1.2.2.2.2 (by decide) (by have := hhis.1; have := hhis.2.1; omega)) q1913 q1914 q1915 q100 q1916 rfl rfl (by decide +kernel) ⟨(Nat.le_trans (Nat.le_of_ble_eq_true rfl : _ ≤ 64) hRf), (Nat.le_trans (Nat.le_of_ble_eq_true rfl : _ ≤ 2000) hRl)⟩ rfl (hmd2.lt 0 (by decide)) (hmd2.2 0 (by decide)) rfl hl.1 rfl (Nat.le_of_ble_eq_true rfl) ⟨by omega, by omega⟩ dL_law_493) hS (fun rz2 w3 H locs hq2 hP hS => ?_)
    obtain ⟨hq2, hfr⟩ := hq2
    rcases hq2 with ⟨hc2, g9, mk9, sd9, k2, u2, qd9, hck2, hr2, hR9, hmd3⟩ | ⟨hc2, hr2, hmd3⟩ | ⟨hc2, hr2, hmd3⟩ | ⟨z2, hz0, hz7, hc2, hr2, hmd3⟩
    · skip
      have hcls3 : clsP E ad N w3 d kk ((cmS 3 k1 u1 S1.1 S1.2.1 S1.2.2.1 S1.2.2.2.1 S1.2.2.2.2.1 S1.2.2.2.2.2.1 S1.2.2.2.2.2.2.1 S1.2.2.2.2.2.2.2.1 S1.2.2.2.2.2.2.2.2.1 S1.2.2.2.2.2.2.2.2.2).2) ((pl + 1) % 8) (min (ct + 1) 8) (va_up K pl (cpS (S1.1, S1.2.1, S1.2.2.1, S1.2.2.2.1, S1.2.2.2.2.1, S1.2.2.2.2.2.1, S1.2.2.2.2.2.2.1, S1.2.2.2.2.2.2.2.1, S1.2.2.2.2.2.2.2.2.1, S1.2.2.2.2.2.2.2.2.2) (K pl))) sv Z fp dq dd dc bf ln tx := hcls2.fr (fun p hp => hfr p (by show ¬ _; (try dsimp only [gIn]); omega))
      have hfo3 := (hfr (d + 128) (by show ¬ _; (try dsimp only [gIn]); omega)).trans hfo2
      have hfd3 := (hfr (d + 129) (by show ¬ _; (try dsimp only [gIn]); omega)).trans hfd2
      have hcs := cmS_one (ht := S1.1) (dr := S1.2.1) (pg := S1.2.2.1) (wt := S1.2.2.2.1) (wr := S1.2.2.2.2.1) (mo := S1.2.2.2.2.2.1) (ni := S1.2.2.2.2.2.2.2.1) (po := S1.2.2.2.2.2.2.2.2.1) (dn := S1.2.2.2.2.2.2.2.2.2) (by decide) hck1 hck2
      rw [← hcs] at hr2 hR9
      rw [if_pos rfl, if_pos rfl] at hmd3
      refine lv_icmp_eq (tgt := 2997) hx hb dL_law_496 (by decide) (fun hb9 => ?_) (fun hb9 => ?_)
      · exact W.widen (k := cells + 234) (n := slots + 2848) (by omega) (by omega) (kk9 ad N _ _ _ _ ⟨_, _, _, _, _, _, _, _, _, _, _, _, _, _, _, _, _, _, _, _, _, _, _, _, _, _, _, _, _, _, _, _, hcls3, hmd3, ⟨_, hfo3⟩, ⟨_, hfd3⟩, ⟨⟨hR9, cmS_q (S := S1) hrow.2.1 (by decide) hck1 (fun h => absurd h (by decide)), Nat.le_trans (cmS_w (S := S1) hck1.1 (fun h => absurd h (by decide))) (by have := hrow.2.2; omega)⟩, (hhis.keep hrow).le (by omega), ⟨hsnp.1, fun z => (hsnp.2.1 z).le (by omega), hsnp.2.2⟩, hDat.2.2.2⟩⟩ hP hS (lv_sub hl [0, 1, 2, 3, 4, 5] rfl))
      · exact absurd (hv1.trans hr2.symm) hb9
    · skip
      exact absurd (hc1.symm.trans hc2) (by decide +kernel)
    · skip
      exact absurd (hc1.symm.trans hc2) (by decide +kernel)
    · skip
      have := nI_7 z2 hz7 0 (by decide) (hc2.symm.trans hc1)
      omega
set_option maxHeartbeats 4000000 in
set_option maxRecDepth 100000 in
/-- the law's case 11: settle -/
theorem lc_11 (kk : Nat → Nat) (hlt : l.stackTraces = false) (hz : gHx E) (hzv : gHv E kk) (hn : gHn E) (S : gFix p m c cL_law 10 s args RL) (hI : gI E s s.heap) (hP : gP E ad N w H) (hS : va_S (gA E) s.heap H locs) (hRf : 64 ≤ R.frames) (hRl : 2000 ≤ R.locals) (hRc : cells + 234 ≤ R.cells) (hRs : slots + 2848 ≤ R.slots) {d B i sa L : Nat} {xs : Nat → Int32} (hB : B ≤ 600000) (hinv : lawP E kk ad N w d B) (hX : va_X sa L xs s s.heap) (hsa : sa < s.heap.size) (hsA : ¬ gA E sa) (hi : i + 5 ≤ L) (hL : L < 2 ^ 31) (hl : lv_has ls 10 [(5, .int (nI (i))), (0, .ref (sa)), (1, .ref (ad (d))), (2, .ref (ad (d + 116))), (3, .ref (ad (d + 128))), (4, .ref (ad (d + 129)))])
    (kk9 : ∀ (ad' : Nat → Nat) (N' : Nat) (w' : Nat → va_E) (H' : Heap) (locs' : List Loc) (ls' : Array Slot), lawP E kk ad' N' w' d (B + 1000) → gP E ad' N' w' H' → va_S (gA E) s.heap H' locs' → lv_has ls' 10 [(5, .int (nI (i))), (0, .ref (sa)), (1, .ref (ad' (d))), (2, .ref (ad' (d + 116))), (3, .ref (ad' (d + 128))), (4, .ref (ad' (d + 129)))] → W p l e R s m args below meth c H' locs' (cells + 234) (slots + 2848) Q (F0 m 2997 ls' [])) :
    W p l e R s m args below meth c H locs cells slots Q (F0 m 948 ls []) := by
  have hx := S.1
  have hb := S.2.1
  obtain ⟨S1, pl, ct, K, sv, Z, fp, dq, dd, dc, bf, ln, tx, g, kp, svr, bfr, sd, sg, mk, td, lv, tl, qc, qd, co, wy, de, ca, sm, pa, tm, hcls, hmd, ⟨fo, hfo⟩, ⟨fd, hfd⟩, hDat⟩ := hinv
  obtain ⟨hdN, ⟨hbd, hbs, hbz, ⟨A0, hba⟩, ⟨T0, hbt⟩, hhs⟩, hscr, hprs, hsb⟩ := id hcls
  obtain ⟨hrow, hhis, hsnp, hden, hbuf, hlin, hfp⟩ := id hDat
  refine lv_aload_n hx hb dL_law_948 rfl (lv_at hl 2 rfl) ?_
  refine g_xafi (g_xrunV S hI hP hS (k := 0) (As := []) (rest := []) (mX12_settle l kk hzv d sv fp dq dd dc S1.1 S1.2.1 S1.2.2.1 S1.2.2.2.1 S1.2.2.2.2.1 S1.2.2.2.2.2.1 S1.2.2.2.2.2.2.1 S1.2.2.2.2.2.2.2.1 S1.2.2.2.2.2.2.2.2.1 S1.2.2.2.2.2.2.2.2.2 pl ct K hbd hbs hlt hz (by omega) hhs hhis.2.2.1 hhis.2.1 hrow.2.1.1 hrow.2.1.2.1 hrow.2.1.2.2.1 hrow.2.1.2.2.2.1 hrow.2.1.2.2.2.2) q724 q725 q726 q82 q727 rfl rfl (by decide +kernel) ⟨(Nat.le_trans (Nat.le_of_ble_eq_true rfl : _ ≤ 64) hRf), (Nat.le_trans (Nat.le_of_ble_eq_true rfl : _ ≤ 2000) hRl)⟩ rfl (hbd.lt 0 (by decide)) (hbd.2 0 (by decide)) rfl hl.1 rfl (Nat.le_of_ble_eq_true rfl) ⟨by omega, by omega⟩ dL_law_949) hS (fun xc w1 xq ce H locs hpx hP hS hcell hcv hcl => ?_) (fun rz1 w1 H locs hq hP hS => ?_)
  · skip
    rcases hpx with z | z | z
    · exact absurd z.2.1 (by show nI 0 ≠ -1; decide +kernel)
    · exact absurd z.2.1 (cmR_n2 (by decide) (by decide))
    · obtain ⟨-, n9, h1, h2, h3, -⟩ := z
      exact absurd h3 (cmR_nU (by decide) h1 h2)
  · skip
    obtain ⟨k1, u1, hck1, hc1, hv1, hs9n, hh9, hd9, hfw⟩ := hq
    have hclsW : clsP E ad N w1 d kk ((cmS 5 k1 u1 S1.1 S1.2.1 S1.2.2.1 S1.2.2.2.1 S1.2.2.2.2.1 S1.2.2.2.2.2.1 S1.2.2.2.2.2.2.1 S1.2.2.2.2.2.2.2.1 S1.2.2.2.2.2.2.2.2.1 S1.2.2.2.2.2.2.2.2.2).2) ((pl + 1) % 8) (min (ct + 1) 8) (va_up K pl (cpS (S1.1, S1.2.1, S1.2.2.1, S1.2.2.2.1, S1.2.2.2.2.1, S1.2.2.2.2.2.1, S1.2.2.2.2.2.2.1, S1.2.2.2.2.2.2.2.1, S1.2.2.2.2.2.2.2.2.1, S1.2.2.2.2.2.2.2.2.2) (K pl))) sv Z fp dq dd dc bf ln tx := hcls.chg hd9 hs9n hh9 (fun p hp => hfw p (by show ¬ _; (try simp only [gIn]); (try dsimp only); omega))
    have hmdW : bkP N w1 (d + 116) 12 (MDC E ad (d + 116) g kp svr bfr sd bf sg mk td lv tl sv qc (0 : Nat) qd co wy de ca ln fp sm pa tm) := hmd.fr hfw (fun k hk => (by show ¬ _; (try simp only [gIn]); (try dsimp only); omega))
    have hfoW := (hfw (d + 128) (by show ¬ _; (try simp only [gIn]); (try dsimp only); omega)).trans hfo
    have hfdW := (hfw (d + 129) (by show ¬ _; (try simp only [gIn]); (try dsimp only); omega)).trans hfd
    have hcls2 := hclsW
    have hmd2 := hmdW
    have hfo2 := hfoW
    have hfd2 := hfdW
    refine lv_aload_n hx hb dL_law_952 rfl (lv_at hl 3 rfl) ?_
    refine g_afi (g_runV S hI hP hS (k := 0) (As := []) (rest := [.int rz1]) (mX13_settle l (d + 116) g kp svr bfr sd bf sg mk td lv tl sv qc (0 : Nat) qd co wy de ca ln fp sm pa tm S1.1 S1.2.1 S1.2.2.1 S1.2.2.2.1 S1.2.2.2.2.1 S1.2.2.2.2.2.1 S1.2.2.2.2.2.2.1 S1.2.2.2.2.2.2.2.1 S1.2.2.2.2.2.2.2.2.1 S1.2.2.2.2.2.2.2.2.2 hmd2 hrow.1 hrow.2.1.1 hrow.2.1.2.1 hrow.2.1.2.2.1 hrow.2.1.2.2.2.1 hrow.2.1.2.2.2.2 (by decide) (by have := hhis.1; have := hhis.2.1; omega)) q1972 q1973 q1974 q100 q1975 rfl rfl (by decide +kernel) ⟨(Nat.le_trans (Nat.le_of_ble_eq_true rfl : _ ≤ 64) hRf), (Nat.le_trans (Nat.le_of_ble_eq_true rfl : _ ≤ 2000) hRl)⟩ rfl (hmd2.lt 0 (by decide)) (hmd2.2 0 (by decide)) rfl hl.1 rfl (Nat.le_of_ble_eq_true rfl) ⟨by omega, by omega⟩ dL_law_953) hS (fun rz2 w3 H locs hq2 hP hS => ?_)
    obtain ⟨hq2, hfr⟩ := hq2
    rcases hq2 with ⟨hc2, g9, mk9, sd9, k2, u2, qd9, hck2, hr2, hR9, hmd3⟩ | ⟨hc2, hr2, hmd3⟩ | ⟨hc2, hr2, hmd3⟩ | ⟨z2, hz0, hz7, hc2, hr2, hmd3⟩
    · skip
      have hcls3 : clsP E ad N w3 d kk ((cmS 5 k1 u1 S1.1 S1.2.1 S1.2.2.1 S1.2.2.2.1 S1.2.2.2.2.1 S1.2.2.2.2.2.1 S1.2.2.2.2.2.2.1 S1.2.2.2.2.2.2.2.1 S1.2.2.2.2.2.2.2.2.1 S1.2.2.2.2.2.2.2.2.2).2) ((pl + 1) % 8) (min (ct + 1) 8) (va_up K pl (cpS (S1.1, S1.2.1, S1.2.2.1, S1.2.2.2.1, S1.2.2.2.2.1, S1.2.2.2.2.2.1, S1.2.2.2.2.2.2.1, S1.2.2.2.2.2.2.2.1, S1.2.2.2.2.2.2.2.2.1, S1.2.2.2.2.2.2.2.2.2) (K pl))) sv Z fp dq dd dc bf ln tx := hcls2.fr (fun p hp => hfr p (by show ¬ _; (try dsimp only [gIn]); omega))
      have hfo3 := (hfr (d + 128) (by show ¬ _; (try dsimp only [gIn]); omega)).trans hfo2
      have hfd3 := (hfr (d + 129) (by show ¬ _; (try dsimp only [gIn]); omega)).trans hfd2
      have hcs := cmS_one (ht := S1.1) (dr := S1.2.1) (pg := S1.2.2.1) (wt := S1.2.2.2.1) (wr := S1.2.2.2.2.1) (mo := S1.2.2.2.2.2.1) (ni := S1.2.2.2.2.2.2.2.1) (po := S1.2.2.2.2.2.2.2.2.1) (dn := S1.2.2.2.2.2.2.2.2.2) (by decide) hck1 hck2
      rw [← hcs] at hr2 hR9
      rw [if_pos rfl, if_pos rfl] at hmd3
      refine lv_icmp_eq (tgt := 2997) hx hb dL_law_956 (by decide) (fun hb9 => ?_) (fun hb9 => ?_)
      · exact W.widen (k := cells + 234) (n := slots + 2848) (by omega) (by omega) (kk9 ad N _ _ _ _ ⟨_, _, _, _, _, _, _, _, _, _, _, _, _, _, _, _, _, _, _, _, _, _, _, _, _, _, _, _, _, _, _, _, hcls3, hmd3, ⟨_, hfo3⟩, ⟨_, hfd3⟩, ⟨⟨hR9, cmS_q (S := S1) hrow.2.1 (by decide) hck1 (fun h => absurd h (by decide)), Nat.le_trans (cmS_w (S := S1) hck1.1 (fun h => absurd h (by decide))) (by have := hrow.2.2; omega)⟩, (hhis.keep hrow).le (by omega), ⟨hsnp.1, fun z => (hsnp.2.1 z).le (by omega), hsnp.2.2⟩, hDat.2.2.2⟩⟩ hP hS (lv_sub hl [0, 1, 2, 3, 4, 5] rfl))
      · exact absurd (hv1.trans hr2.symm) hb9
    · skip
      exact absurd (hc1.symm.trans hc2) (by decide +kernel)
    · skip
      exact absurd (hc1.symm.trans hc2) (by decide +kernel)
    · skip
      have := nI_7 z2 hz7 0 (by decide) (hc2.symm.trans hc1)
      omega
set_option maxHeartbeats 4000000 in
set_option maxRecDepth 100000 in
/-- the law's case 27: passNight -/
theorem lc_27 (kk : Nat → Nat) (hlt : l.stackTraces = false) (hz : gHx E) (hzv : gHv E kk) (hn : gHn E) (S : gFix p m c cL_law 10 s args RL) (hI : gI E s s.heap) (hP : gP E ad N w H) (hS : va_S (gA E) s.heap H locs) (hRf : 64 ≤ R.frames) (hRl : 2000 ≤ R.locals) (hRc : cells + 234 ≤ R.cells) (hRs : slots + 2848 ≤ R.slots) {d B i sa L : Nat} {xs : Nat → Int32} (hB : B ≤ 600000) (hinv : lawP E kk ad N w d B) (hX : va_X sa L xs s s.heap) (hsa : sa < s.heap.size) (hsA : ¬ gA E sa) (hi : i + 5 ≤ L) (hL : L < 2 ^ 31) (hl : lv_has ls 10 [(5, .int (nI (i))), (0, .ref (sa)), (1, .ref (ad (d))), (2, .ref (ad (d + 116))), (3, .ref (ad (d + 128))), (4, .ref (ad (d + 129)))])
    (kk9 : ∀ (ad' : Nat → Nat) (N' : Nat) (w' : Nat → va_E) (H' : Heap) (locs' : List Loc) (ls' : Array Slot), lawP E kk ad' N' w' d (B + 1000) → gP E ad' N' w' H' → va_S (gA E) s.heap H' locs' → lv_has ls' 10 [(5, .int (nI (i))), (0, .ref (sa)), (1, .ref (ad' (d))), (2, .ref (ad' (d + 116))), (3, .ref (ad' (d + 128))), (4, .ref (ad' (d + 129)))] → W p l e R s m args below meth c H' locs' (cells + 234) (slots + 2848) Q (F0 m 2997 ls' [])) :
    W p l e R s m args below meth c H locs cells slots Q (F0 m 1955 ls []) := by
  have hx := S.1
  have hb := S.2.1
  obtain ⟨S1, pl, ct, K, sv, Z, fp, dq, dd, dc, bf, ln, tx, g, kp, svr, bfr, sd, sg, mk, td, lv, tl, qc, qd, co, wy, de, ca, sm, pa, tm, hcls, hmd, ⟨fo, hfo⟩, ⟨fd, hfd⟩, hDat⟩ := hinv
  obtain ⟨hdN, ⟨hbd, hbs, hbz, ⟨A0, hba⟩, ⟨T0, hbt⟩, hhs⟩, hscr, hprs, hsb⟩ := id hcls
  obtain ⟨hrow, hhis, hsnp, hden, hbuf, hlin, hfp⟩ := id hDat
  refine lv_aload_n hx hb dL_law_1955 rfl (lv_at hl 2 rfl) ?_
  refine g_xafi (g_xrunV S hI hP hS (k := 0) (As := []) (rest := []) (mX12_passNight l kk hzv d sv fp dq dd dc S1.1 S1.2.1 S1.2.2.1 S1.2.2.2.1 S1.2.2.2.2.1 S1.2.2.2.2.2.1 S1.2.2.2.2.2.2.1 S1.2.2.2.2.2.2.2.1 S1.2.2.2.2.2.2.2.2.1 S1.2.2.2.2.2.2.2.2.2 pl ct K hbd hbs hlt hz (by omega) hhs hhis.2.2.1 hhis.2.1 hrow.2.1.1 hrow.2.1.2.1 hrow.2.1.2.2.1 hrow.2.1.2.2.2.1 hrow.2.1.2.2.2.2) q779 q780 q781 q82 q782 rfl rfl (by decide +kernel) ⟨(Nat.le_trans (Nat.le_of_ble_eq_true rfl : _ ≤ 64) hRf), (Nat.le_trans (Nat.le_of_ble_eq_true rfl : _ ≤ 2000) hRl)⟩ rfl (hbd.lt 0 (by decide)) (hbd.2 0 (by decide)) rfl hl.1 rfl (Nat.le_of_ble_eq_true rfl) ⟨by omega, by omega⟩ dL_law_1956) hS (fun xc w1 xq ce H locs hpx hP hS hcell hcv hcl => ?_) (fun rz1 w1 H locs hq hP hS => ?_)
  · skip
    rcases hpx with z | z | z
    · exact absurd z.2.1 (by show nI 0 ≠ -1; decide +kernel)
    · exact absurd z.2.1 (cmR_n2 (by decide) (by decide))
    · obtain ⟨-, n9, h1, h2, h3, -⟩ := z
      exact absurd h3 (cmR_nU (by decide) h1 h2)
  · skip
    obtain ⟨k1, u1, hck1, hc1, hv1, hs9n, hh9, hd9, hfw⟩ := hq
    have hclsW : clsP E ad N w1 d kk ((cmS 8 k1 u1 S1.1 S1.2.1 S1.2.2.1 S1.2.2.2.1 S1.2.2.2.2.1 S1.2.2.2.2.2.1 S1.2.2.2.2.2.2.1 S1.2.2.2.2.2.2.2.1 S1.2.2.2.2.2.2.2.2.1 S1.2.2.2.2.2.2.2.2.2).2) ((pl + 1) % 8) (min (ct + 1) 8) (va_up K pl (cpS (S1.1, S1.2.1, S1.2.2.1, S1.2.2.2.1, S1.2.2.2.2.1, S1.2.2.2.2.2.1, S1.2.2.2.2.2.2.1, S1.2.2.2.2.2.2.2.1, S1.2.2.2.2.2.2.2.2.1, S1.2.2.2.2.2.2.2.2.2) (K pl))) sv Z fp dq dd dc bf ln tx := hcls.chg hd9 hs9n hh9 (fun p hp => hfw p (by show ¬ _; (try simp only [gIn]); (try dsimp only); omega))
    have hmdW : bkP N w1 (d + 116) 12 (MDC E ad (d + 116) g kp svr bfr sd bf sg mk td lv tl sv qc (0 : Nat) qd co wy de ca ln fp sm pa tm) := hmd.fr hfw (fun k hk => (by show ¬ _; (try simp only [gIn]); (try dsimp only); omega))
    have hfoW := (hfw (d + 128) (by show ¬ _; (try simp only [gIn]); (try dsimp only); omega)).trans hfo
    have hfdW := (hfw (d + 129) (by show ¬ _; (try simp only [gIn]); (try dsimp only); omega)).trans hfd
    have hcls2 := hclsW
    have hmd2 := hmdW
    have hfo2 := hfoW
    have hfd2 := hfdW
    refine lv_aload_n hx hb dL_law_1959 rfl (lv_at hl 3 rfl) ?_
    refine g_afi (g_runV S hI hP hS (k := 0) (As := []) (rest := [.int rz1]) (mX13_passNight l (d + 116) g kp svr bfr sd bf sg mk td lv tl sv qc (0 : Nat) qd co wy de ca ln fp sm pa tm S1.1 S1.2.1 S1.2.2.1 S1.2.2.2.1 S1.2.2.2.2.1 S1.2.2.2.2.2.1 S1.2.2.2.2.2.2.1 S1.2.2.2.2.2.2.2.1 S1.2.2.2.2.2.2.2.2.1 S1.2.2.2.2.2.2.2.2.2 hmd2 hrow.1 hrow.2.1.1 hrow.2.1.2.1 hrow.2.1.2.2.1 hrow.2.1.2.2.2.1 hrow.2.1.2.2.2.2 (by decide) (by have := hhis.1; have := hhis.2.1; omega)) q2075 q2076 q2077 q100 q2078 rfl rfl (by decide +kernel) ⟨(Nat.le_trans (Nat.le_of_ble_eq_true rfl : _ ≤ 64) hRf), (Nat.le_trans (Nat.le_of_ble_eq_true rfl : _ ≤ 2000) hRl)⟩ rfl (hmd2.lt 0 (by decide)) (hmd2.2 0 (by decide)) rfl hl.1 rfl (Nat.le_of_ble_eq_true rfl) ⟨by omega, by omega⟩ dL_law_1960) hS (fun rz2 w3 H locs hq2 hP hS => ?_)
    obtain ⟨hq2, hfr⟩ := hq2
    rcases hq2 with ⟨hc2, g9, mk9, sd9, k2, u2, qd9, hck2, hr2, hR9, hmd3⟩ | ⟨hc2, hr2, hmd3⟩ | ⟨hc2, hr2, hmd3⟩ | ⟨z2, hz0, hz7, hc2, hr2, hmd3⟩
    · skip
      have hcls3 : clsP E ad N w3 d kk ((cmS 8 k1 u1 S1.1 S1.2.1 S1.2.2.1 S1.2.2.2.1 S1.2.2.2.2.1 S1.2.2.2.2.2.1 S1.2.2.2.2.2.2.1 S1.2.2.2.2.2.2.2.1 S1.2.2.2.2.2.2.2.2.1 S1.2.2.2.2.2.2.2.2.2).2) ((pl + 1) % 8) (min (ct + 1) 8) (va_up K pl (cpS (S1.1, S1.2.1, S1.2.2.1, S1.2.2.2.1, S1.2.2.2.2.1, S1.2.2.2.2.2.1, S1.2.2.2.2.2.2.1, S1.2.2.2.2.2.2.2.1, S1.2.2.2.2.2.2.2.2.1, S1.2.2.2.2.2.2.2.2.2) (K pl))) sv Z fp dq dd dc bf ln tx := hcls2.fr (fun p hp => hfr p (by show ¬ _; (try dsimp only [gIn]); omega))
      have hfo3 := (hfr (d + 128) (by show ¬ _; (try dsimp only [gIn]); omega)).trans hfo2
      have hfd3 := (hfr (d + 129) (by show ¬ _; (try dsimp only [gIn]); omega)).trans hfd2
      have hcs := cmS_one (ht := S1.1) (dr := S1.2.1) (pg := S1.2.2.1) (wt := S1.2.2.2.1) (wr := S1.2.2.2.2.1) (mo := S1.2.2.2.2.2.1) (ni := S1.2.2.2.2.2.2.2.1) (po := S1.2.2.2.2.2.2.2.2.1) (dn := S1.2.2.2.2.2.2.2.2.2) (by decide) hck1 hck2
      rw [← hcs] at hr2 hR9
      rw [if_pos rfl, if_pos rfl] at hmd3
      refine lv_icmp_eq (tgt := 2997) hx hb dL_law_1963 (by decide) (fun hb9 => ?_) (fun hb9 => ?_)
      · exact W.widen (k := cells + 234) (n := slots + 2848) (by omega) (by omega) (kk9 ad N _ _ _ _ ⟨_, _, _, _, _, _, _, _, _, _, _, _, _, _, _, _, _, _, _, _, _, _, _, _, _, _, _, _, _, _, _, _, hcls3, hmd3, ⟨_, hfo3⟩, ⟨_, hfd3⟩, ⟨⟨hR9, cmS_q (S := S1) hrow.2.1 (by decide) hck1 (fun h => absurd h (by decide)), Nat.le_trans (cmS_w (S := S1) hck1.1 (fun h => absurd h (by decide))) (by have := hrow.2.2; omega)⟩, (hhis.keep hrow).le (by omega), ⟨hsnp.1, fun z => (hsnp.2.1 z).le (by omega), hsnp.2.2⟩, hDat.2.2.2⟩⟩ hP hS (lv_sub hl [0, 1, 2, 3, 4, 5] rfl))
      · exact absurd (hv1.trans hr2.symm) hb9
    · skip
      exact absurd (hc1.symm.trans hc2) (by decide +kernel)
    · skip
      exact absurd (hc1.symm.trans hc2) (by decide +kernel)
    · skip
      have := nI_7 z2 hz7 0 (by decide) (hc2.symm.trans hc1)
      omega
set_option maxHeartbeats 4000000 in
set_option maxRecDepth 100000 in
/-- the law's case 51: saveSnapshot -/
theorem lc_51 (kk : Nat → Nat) (hlt : l.stackTraces = false) (hz : gHx E) (hzv : gHv E kk) (hn : gHn E) (S : gFix p m c cL_law 10 s args RL) (hI : gI E s s.heap) (hP : gP E ad N w H) (hS : va_S (gA E) s.heap H locs) (hRf : 64 ≤ R.frames) (hRl : 2000 ≤ R.locals) (hRc : cells + 234 ≤ R.cells) (hRs : slots + 2848 ≤ R.slots) {d B i sa L : Nat} {xs : Nat → Int32} (hB : B ≤ 600000) (hinv : lawP E kk ad N w d B) (hX : va_X sa L xs s s.heap) (hsa : sa < s.heap.size) (hsA : ¬ gA E sa) (hi : i + 5 ≤ L) (hL : L < 2 ^ 31) (hl : lv_has ls 10 [(5, .int (nI (i))), (0, .ref (sa)), (1, .ref (ad (d))), (2, .ref (ad (d + 116))), (3, .ref (ad (d + 128))), (4, .ref (ad (d + 129)))])
    (kk9 : ∀ (ad' : Nat → Nat) (N' : Nat) (w' : Nat → va_E) (H' : Heap) (locs' : List Loc) (ls' : Array Slot), lawP E kk ad' N' w' d (B + 1000) → gP E ad' N' w' H' → va_S (gA E) s.heap H' locs' → lv_has ls' 10 [(5, .int (nI (i))), (0, .ref (sa)), (1, .ref (ad' (d))), (2, .ref (ad' (d + 116))), (3, .ref (ad' (d + 128))), (4, .ref (ad' (d + 129)))] → W p l e R s m args below meth c H' locs' (cells + 234) (slots + 2848) Q (F0 m 2997 ls' [])) :
    W p l e R s m args below meth c H locs cells slots Q (F0 m 2940 ls []) := by
  have hx := S.1
  have hb := S.2.1
  obtain ⟨S1, pl, ct, K, sv, Z, fp, dq, dd, dc, bf, ln, tx, g, kp, svr, bfr, sd, sg, mk, td, lv, tl, qc, qd, co, wy, de, ca, sm, pa, tm, hcls, hmd, ⟨fo, hfo⟩, ⟨fd, hfd⟩, hDat⟩ := hinv
  obtain ⟨hdN, ⟨hbd, hbs, hbz, ⟨A0, hba⟩, ⟨T0, hbt⟩, hhs⟩, hscr, hprs, hsb⟩ := id hcls
  obtain ⟨hrow, hhis, hsnp, hden, hbuf, hlin, hfp⟩ := id hDat
  obtain ⟨hs1, ⟨re, ce, rc, tc, hs2⟩, ⟨pa0, hs3⟩, ⟨ra, rk, hs4⟩, hs5, ⟨wa, ke, hs6, hs6a, hs6b⟩, ⟨lv0, hs7⟩, ⟨pn, hs8⟩, ⟨wa2, ke2, hs9, hs9a, hs9b⟩, ⟨re2, ce2, rc2, tc2, hs10⟩, ⟨pa2, hs11⟩, ⟨lv2, hs12⟩, ⟨pq, hs13⟩⟩ := id hscr
  refine lv_aload_n hx hb dL_law_2940 rfl (lv_at hl 2 rfl) ?_
  refine g_afi (g_runV S hI hP hS (k := 0) (As := []) (rest := []) (mX12_saveSnapshot l d sv fp dq dd dc S1.1 S1.2.1 S1.2.2.1 S1.2.2.2.1 S1.2.2.2.2.1 S1.2.2.2.2.2.1 S1.2.2.2.2.2.2.1 S1.2.2.2.2.2.2.2.1 S1.2.2.2.2.2.2.2.2.1 S1.2.2.2.2.2.2.2.2.2 Z.1 Z.2.1 Z.2.2.1 Z.2.2.2.1 Z.2.2.2.2.1 Z.2.2.2.2.2.1 Z.2.2.2.2.2.2.1 Z.2.2.2.2.2.2.2.1 Z.2.2.2.2.2.2.2.2.1 Z.2.2.2.2.2.2.2.2.2 hbd hbs hbz hrow.2.1.2.1) q827 q828 q829 q82 q830 rfl rfl (by decide +kernel) ⟨(Nat.le_trans (Nat.le_of_ble_eq_true rfl : _ ≤ 64) hRf), (Nat.le_trans (Nat.le_of_ble_eq_true rfl : _ ≤ 2000) hRl)⟩ rfl (hbd.lt 0 (by decide)) (hbd.2 0 (by decide)) rfl hl.1 rfl (Nat.le_of_ble_eq_true rfl) ⟨by omega, by omega⟩ dL_law_2941) hS (fun rz1 w1 H locs hq hP hS => ?_)
  obtain ⟨hr1, hd9, hz9, hfw⟩ := hq
  have hclsW : clsP E ad N w1 d kk S1 pl ct K 1 (S1.1, Z.2.1, S1.2.2.1, S1.2.2.2.1, S1.2.2.2.2.1, S1.2.2.2.2.2.1, S1.2.2.2.2.2.2.1, S1.2.2.2.2.2.2.2.1, S1.2.2.2.2.2.2.2.2.1, S1.2.2.2.2.2.2.2.2.2) fp dq dd dc bf ln tx := hcls.sav hd9 hz9 (fun p hp => hfw p (by show ¬ _; (try simp only [gIn]); (try dsimp only); omega))
  have hmdW : bkP N w1 (d + 116) 12 (MDC E ad (d + 116) g kp svr bfr sd bf sg mk td lv tl sv qc (0 : Nat) qd co wy de ca ln fp sm pa tm) := hmd.fr hfw (fun k hk => (by show ¬ _; (try simp only [gIn]); (try dsimp only); omega))
  have hfoW := (hfw (d + 128) (by show ¬ _; (try simp only [gIn]); (try dsimp only); omega)).trans hfo
  have hfdW := (hfw (d + 129) (by show ¬ _; (try simp only [gIn]); (try dsimp only); omega)).trans hfd
  have hcls2 := hclsW
  have hmd2 := hmdW
  have hfo2 := hfoW
  have hfd2 := hfdW
  refine lv_aload_n hx hb dL_law_2944 rfl (lv_at hl 3 rfl) ?_
  refine g_afi (g_runV S hI hP hS (k := 0) (As := []) (rest := [.int rz1]) (mX13_saveSnapshot l (d + 116) g kp svr bfr sd bf sg mk td lv tl sv qc (0 : Nat) qd co wy de ca ln fp sm pa tm S1.1 S1.2.1 S1.2.2.1 S1.2.2.2.1 S1.2.2.2.2.1 S1.2.2.2.2.2.1 S1.2.2.2.2.2.2.1 S1.2.2.2.2.2.2.2.1 S1.2.2.2.2.2.2.2.2.1 S1.2.2.2.2.2.2.2.2.2 hmd2 hrow.1) q2242 q2243 q2244 q100 q2245 rfl rfl (by decide +kernel) ⟨(Nat.le_trans (Nat.le_of_ble_eq_true rfl : _ ≤ 64) hRf), (Nat.le_trans (Nat.le_of_ble_eq_true rfl : _ ≤ 2000) hRl)⟩ rfl (hmd2.lt 0 (by decide)) (hmd2.2 0 (by decide)) rfl hl.1 rfl (Nat.le_of_ble_eq_true rfl) ⟨by omega, by omega⟩ dL_law_2945) hS (fun rz2 w3 H locs hq2 hP hS => ?_)
  obtain ⟨hr2, hmd3, hfr⟩ := hq2
  have hcls3 : clsP E ad N w3 d kk S1 pl ct K 1 (S1.1, Z.2.1, S1.2.2.1, S1.2.2.2.1, S1.2.2.2.2.1, S1.2.2.2.2.2.1, S1.2.2.2.2.2.2.1, S1.2.2.2.2.2.2.2.1, S1.2.2.2.2.2.2.2.2.1, S1.2.2.2.2.2.2.2.2.2) fp dq dd dc bf ln tx := hcls2.fr (fun p hp => hfr p (by show ¬ _; (try dsimp only [gIn]); omega))
  have hfo3 := (hfr (d + 128) (by show ¬ _; (try dsimp only [gIn]); omega)).trans hfo2
  have hfd3 := (hfr (d + 129) (by show ¬ _; (try dsimp only [gIn]); omega)).trans hfd2
  refine lv_icmp_eq (tgt := 2997) hx hb dL_law_2948 (by decide) (fun hb9 => ?_) (fun hb9 => ?_)
  · exact W.widen (k := cells + 234) (n := slots + 2848) (by omega) (by omega) (kk9 ad N _ _ _ _ ⟨_, _, _, _, _, _, _, _, _, _, _, _, _, _, _, _, _, _, _, _, _, _, _, _, _, _, _, _, _, _, _, _, hcls3, hmd3, ⟨_, hfo3⟩, ⟨_, hfd3⟩, lawD.le (B := B) ⟨hrow, hhis, ⟨Nat.le_refl _, fun _ => cpA_row hrow, hrow.2.1.2.1⟩, hDat.2.2.2⟩ (by omega)⟩ hP hS (lv_sub hl [0, 1, 2, 3, 4, 5] rfl))
  · exact absurd (hr1.trans hr2.symm) hb9
set_option maxHeartbeats 4000000 in
set_option maxRecDepth 100000 in
/-- the law's case 52: restoreSnapshot -/
theorem lc_52 (kk : Nat → Nat) (hlt : l.stackTraces = false) (hz : gHx E) (hzv : gHv E kk) (hn : gHn E) (S : gFix p m c cL_law 10 s args RL) (hI : gI E s s.heap) (hP : gP E ad N w H) (hS : va_S (gA E) s.heap H locs) (hRf : 64 ≤ R.frames) (hRl : 2000 ≤ R.locals) (hRc : cells + 234 ≤ R.cells) (hRs : slots + 2848 ≤ R.slots) {d B i sa L : Nat} {xs : Nat → Int32} (hB : B ≤ 600000) (hinv : lawP E kk ad N w d B) (hX : va_X sa L xs s s.heap) (hsa : sa < s.heap.size) (hsA : ¬ gA E sa) (hi : i + 5 ≤ L) (hL : L < 2 ^ 31) (hl : lv_has ls 10 [(5, .int (nI (i))), (0, .ref (sa)), (1, .ref (ad (d))), (2, .ref (ad (d + 116))), (3, .ref (ad (d + 128))), (4, .ref (ad (d + 129)))])
    (kk9 : ∀ (ad' : Nat → Nat) (N' : Nat) (w' : Nat → va_E) (H' : Heap) (locs' : List Loc) (ls' : Array Slot), lawP E kk ad' N' w' d (B + 1000) → gP E ad' N' w' H' → va_S (gA E) s.heap H' locs' → lv_has ls' 10 [(5, .int (nI (i))), (0, .ref (sa)), (1, .ref (ad' (d))), (2, .ref (ad' (d + 116))), (3, .ref (ad' (d + 128))), (4, .ref (ad' (d + 129)))] → W p l e R s m args below meth c H' locs' (cells + 234) (slots + 2848) Q (F0 m 2997 ls' [])) :
    W p l e R s m args below meth c H locs cells slots Q (F0 m 2953 ls []) := by
  have hx := S.1
  have hb := S.2.1
  obtain ⟨S1, pl, ct, K, sv, Z, fp, dq, dd, dc, bf, ln, tx, g, kp, svr, bfr, sd, sg, mk, td, lv, tl, qc, qd, co, wy, de, ca, sm, pa, tm, hcls, hmd, ⟨fo, hfo⟩, ⟨fd, hfd⟩, hDat⟩ := hinv
  obtain ⟨hdN, ⟨hbd, hbs, hbz, ⟨A0, hba⟩, ⟨T0, hbt⟩, hhs⟩, hscr, hprs, hsb⟩ := id hcls
  obtain ⟨hrow, hhis, hsnp, hden, hbuf, hlin, hfp⟩ := id hDat
  obtain ⟨hs1, ⟨re, ce, rc, tc, hs2⟩, ⟨pa0, hs3⟩, ⟨ra, rk, hs4⟩, hs5, ⟨wa, ke, hs6, hs6a, hs6b⟩, ⟨lv0, hs7⟩, ⟨pn, hs8⟩, ⟨wa2, ke2, hs9, hs9a, hs9b⟩, ⟨re2, ce2, rc2, tc2, hs10⟩, ⟨pa2, hs11⟩, ⟨lv2, hs12⟩, ⟨pq, hs13⟩⟩ := id hscr
  refine lv_aload_n hx hb dL_law_2953 rfl (lv_at hl 2 rfl) ?_
  refine lv_aload_n hx hb dL_law_2954 rfl (lv_at hl 4 rfl) ?_
  refine g_afi (g_runSW S hI hP hS (hh := [(0, 8, 11, 114)]) (k := 2) (As := [.ref (ad (d)), .ref (ad (d + 128))]) (rest := []) (mL_restoreSnapshot l d (d + 128)  hz hn (hbd.lt 0 (by decide)) (hbd.2 0 (by decide)) (mX12_restoreSnapshot l d sv fp dq dd dc S1.1 S1.2.1 S1.2.2.1 S1.2.2.2.1 S1.2.2.2.2.1 S1.2.2.2.2.2.1 S1.2.2.2.2.2.2.1 S1.2.2.2.2.2.2.2.1 S1.2.2.2.2.2.2.2.2.1 S1.2.2.2.2.2.2.2.2.2 Z.1 Z.2.1 Z.2.2.1 Z.2.2.2.1 Z.2.2.2.2.1 Z.2.2.2.2.2.1 Z.2.2.2.2.2.2.1 Z.2.2.2.2.2.2.2.1 Z.2.2.2.2.2.2.2.2.1 Z.2.2.2.2.2.2.2.2.2 pl ct K hbd hbs hbz hlt hz hhs hsnp.1 hsnp.2.2) (by omega) (fun r w' h => (by obtain ⟨-, -, -, -, hfw⟩ := h; exact ⟨fo, (hfw (d + 128) (by show ¬ _; (try simp only [gIn]); (try dsimp only); omega)).trans hfo⟩)) (fun xc w' h => h.1)) q1769 q1770 q81 q1771 rfl rfl (by decide +kernel) ⟨(Nat.le_trans (Nat.le_of_ble_eq_true rfl : _ ≤ 64) hRf), (Nat.le_trans (Nat.le_of_ble_eq_true rfl : _ ≤ 2000) hRl)⟩ rfl hl.1 rfl (Nat.le_of_ble_eq_true rfl) ⟨by omega, by omega⟩ dL_law_2955) hS (fun rz w1 H locs hq hP hS => ?_)
  rcases hq with ⟨v1, f1, w2, hrz, hf1, hw2, hq⟩ | ⟨hrz, hq⟩
  · skip
    rw [hw2] at hP
    rw [hrz]
    obtain ⟨hc1, hv1, hs9n, hh9, hfw⟩ := hq
    have hclsW : clsP E ad N w2 d kk (Z.1, S1.2.1, Z.2.2.1, Z.2.2.2.1, Z.2.2.2.2.1, Z.2.2.2.2.2.1, Z.2.2.2.2.2.2.1, Z.2.2.2.2.2.2.2.1, Z.2.2.2.2.2.2.2.2.1, Z.2.2.2.2.2.2.2.2.2) pl 0 K sv Z fp dq dd dc bf ln tx := hcls.chg (hbd.fr hfw (fun k hk => (by show ¬ _; (try simp only [gIn]); (try dsimp only); omega))) hs9n hh9 (fun p hp => hfw p (by show ¬ _; (try simp only [gIn]); (try dsimp only); omega))
    have hmdW : bkP N w2 (d + 116) 12 (MDC E ad (d + 116) g kp svr bfr sd bf sg mk td lv tl sv qc (0 : Nat) qd co wy de ca ln fp sm pa tm) := hmd.fr hfw (fun k hk => (by show ¬ _; (try simp only [gIn]); (try dsimp only); omega))
    have hfoW := (hfw (d + 128) (by show ¬ _; (try simp only [gIn]); (try dsimp only); omega)).trans hfo
    have hfdW := (hfw (d + 129) (by show ¬ _; (try simp only [gIn]); (try dsimp only); omega)).trans hfd
    obtain ⟨wb, hwb⟩ : ∃ z, z = va_up w2 (d + 128) (loE E f1) := ⟨_, rfl⟩
    rw [← hwb] at hP
    have hcls2 : clsP E ad N wb d kk (Z.1, S1.2.1, Z.2.2.1, Z.2.2.2.1, Z.2.2.2.2.1, Z.2.2.2.2.2.1, Z.2.2.2.2.2.2.1, Z.2.2.2.2.2.2.2.1, Z.2.2.2.2.2.2.2.2.1, Z.2.2.2.2.2.2.2.2.2) pl 0 K sv Z fp dq dd dc bf ln tx := hclsW.fr (fun p hp => by rw [hwb, va_up_ne _ _ (by omega)])
    have hmd2 : bkP N wb (d + 116) 12 (MDC E ad (d + 116) g kp svr bfr sd bf sg mk td lv tl sv qc (0 : Nat) qd co wy de ca ln fp sm pa tm) := by rw [hwb]; exact hmdW.keep (by omega)
    have hfo2 : wb (d + 128) = loE E f1 := by rw [hwb, va_up_self]
    have hfd2 : wb (d + 129) = doE E fd := by rw [hwb, va_up_ne _ _ (by omega)]; exact hfdW
    refine lv_istore (lv' := [(6, .int (nI (0))), (5, .int (nI (i))), (0, .ref (sa)), (1, .ref (ad (d))), (2, .ref (ad (d + 116))), (3, .ref (ad (d + 128))), (4, .ref (ad (d + 129)))]) hx hb dL_law_2958 hl (by decide) rfl (fun ls hl => ?_)
    refine lv_aload_n hx hb dL_law_2960 rfl (lv_at hl 4 rfl) ?_
    refine g_afi (g_runV S hI hP hS (k := 0) (As := []) (rest := []) (mX13_restoreSnapshot l (d + 116) g kp svr bfr sd bf sg mk td lv tl sv qc (0 : Nat) qd co wy de ca ln fp sm pa tm hmd2 hsnp.1) q2246 q2247 q2248 q100 q2249 rfl rfl (by decide +kernel) ⟨(Nat.le_trans (Nat.le_of_ble_eq_true rfl : _ ≤ 64) hRf), (Nat.le_trans (Nat.le_of_ble_eq_true rfl : _ ≤ 2000) hRl)⟩ rfl (hmd2.lt 0 (by decide)) (hmd2.2 0 (by decide)) rfl hl.1 rfl (Nat.le_of_ble_eq_true rfl) ⟨by omega, by omega⟩ dL_law_2961) hS (fun rz2 w3 H locs hq2 hP hS => ?_)
    obtain ⟨hq2, hfr⟩ := hq2
    rcases hq2 with ⟨hc2, hr2, hmd3⟩ | ⟨hc2, hmd3⟩
    · skip
      have hcls3 : clsP E ad N w3 d kk (Z.1, S1.2.1, Z.2.2.1, Z.2.2.2.1, Z.2.2.2.2.1, Z.2.2.2.2.2.1, Z.2.2.2.2.2.2.1, Z.2.2.2.2.2.2.2.1, Z.2.2.2.2.2.2.2.2.1, Z.2.2.2.2.2.2.2.2.2) pl 0 K sv Z fp dq dd dc bf ln tx := hcls2.fr (fun p hp => hfr p (by show ¬ _; (try dsimp only [gIn]); omega))
      have hfo3 := (hfr (d + 128) (by show ¬ _; (try dsimp only [gIn]); omega)).trans hfo2
      have hfd3 := (hfr (d + 129) (by show ¬ _; (try dsimp only [gIn]); omega)).trans hfd2
      have hv9 : v1 = rz2 := by rw [hv1, hr2]; exact congrArg nI (hsnp.2.1 hc1).1.2.2.2.2.2.1.symm
      rw [hv9] at hf1
      refine lv_istore (lv' := [(7, .int rz2), (6, .int (nI (0))), (5, .int (nI (i))), (0, .ref (sa)), (1, .ref (ad (d))), (2, .ref (ad (d + 116))), (3, .ref (ad (d + 128))), (4, .ref (ad (d + 129)))]) hx hb dL_law_2964 hl (by decide) rfl (fun ls hl => ?_)
      refine lv_aload_n hx hb dL_law_2966 rfl (lv_at hl 5 rfl) ?_
      refine g_afi (g_runV S hI hP hS (k := 0) (As := []) (rest := []) (mX13_thrown l _ _ _ _ _ _ _ _ _ _ _ _ _ _ _ _ _ _ _ _ _ _ _ _ _ hmd3) q1860 q1861 q1862 q100 q1863 rfl rfl (by decide +kernel) ⟨(Nat.le_trans (Nat.le_of_ble_eq_true rfl : _ ≤ 64) hRf), (Nat.le_trans (Nat.le_of_ble_eq_true rfl : _ ≤ 2000) hRl)⟩ rfl (hmd3.lt 0 (by decide)) (hmd3.2 0 (by decide)) rfl hl.1 rfl (Nat.le_of_ble_eq_true rfl) ⟨by omega, by omega⟩ dL_law_2967) hS (fun rz9 w9 H locs hq9 hP hS => ?_)
      obtain ⟨hr9, hw9⟩ := hq9
      rw [hw9] at hP
      rw [hr9]
      refine lv_iload hx hb dL_law_2970 (lv_at hl 1 rfl) ?_
      refine g_eq S (a := 0) (b := 0) (by omega) (by omega) (tgt := 2977) dL_law_2972 (by decide) (fun hb9 => ?_) (fun hb9 => ?_)
      · refine lv_iload hx hb dL_law_2977 (lv_at hl 1 rfl) ?_
        refine g_ifne S (a := 0) (by omega) (tgt := 2994) dL_law_2979 (by decide) (fun hb8 => ?_) (fun hb8 => ?_)
        · omega
        · refine lv_aload_n hx hb dL_law_2982 rfl (lv_at hl 6 rfl) ?_
          refine g_iconst S 0 dL_law_2983 (by decide +kernel) ?_
          refine g_lald S hI hP (o := d + 128) (by omega) hfo3 dL_law_2984 ?_
          rw [hf1]
          refine lv_iload hx hb dL_law_2985 (lv_at hl 0 rfl) ?_
          refine lv_i2l hx hb dL_law_2987 rfl ?_
          refine g_lcmpE S dL_law_2988 ?_
          refine g_ifeq S (a := 0) (by omega) (tgt := 2994) dL_law_2989 (by decide) (fun hb7 => ?_) (fun hb7 => ?_)
          · refine lv_goto (tgt := 2997) hx hb dL_law_2994 (by decide) ?_
            exact W.widen (k := cells + 234) (n := slots + 2848) (by omega) (by omega) (kk9 ad N _ _ _ _ ⟨_, _, _, _, _, _, _, _, _, _, _, _, _, _, _, _, _, _, _, _, _, _, _, _, _, _, _, _, _, _, _, _, hcls3, hmd3, ⟨_, hfo3⟩, ⟨_, hfd3⟩, lawD.le (B := B) ⟨cpA_row (hsnp.2.1 hc1), hhis.clear, hsnp, hDat.2.2.2⟩ (by omega)⟩ hP hS (lv_sub hl [2, 3, 4, 5, 6, 7] rfl))
          · omega
      · exact absurd rfl hb9
    · skip
      omega
  · skip
    rw [hrz]
    obtain ⟨hx1, hc1, hw1⟩ := hq
    rw [hw1] at hP
    have hclsW := hcls
    have hmdW := hmd
    have hfoW := hfo
    have hfdW := hfd
    obtain ⟨wb, hwb⟩ : ∃ z, z = w := ⟨_, rfl⟩
    rw [← hwb] at hP
    have hcls2 : clsP E ad N wb d kk S1 pl ct K sv Z fp dq dd dc bf ln tx := by rw [hwb]; exact hclsW
    have hmd2 : bkP N wb (d + 116) 12 (MDC E ad (d + 116) g kp svr bfr sd bf sg mk td lv tl sv qc (0 : Nat) qd co wy de ca ln fp sm pa tm) := by rw [hwb]; exact hmdW
    have hfo2 : wb (d + 128) = loE E fo := by rw [hwb]; exact hfoW
    have hfd2 : wb (d + 129) = doE E fd := by rw [hwb]; exact hfdW
    refine lv_istore (lv' := [(6, .int (nI (1))), (5, .int (nI (i))), (0, .ref (sa)), (1, .ref (ad (d))), (2, .ref (ad (d + 116))), (3, .ref (ad (d + 128))), (4, .ref (ad (d + 129)))]) hx hb dL_law_2958 hl (by decide) rfl (fun ls hl => ?_)
    refine lv_aload_n hx hb dL_law_2960 rfl (lv_at hl 4 rfl) ?_
    refine g_afi (g_runV S hI hP hS (k := 0) (As := []) (rest := []) (mX13_restoreSnapshot l (d + 116) g kp svr bfr sd bf sg mk td lv tl sv qc (0 : Nat) qd co wy de ca ln fp sm pa tm hmd2 hsnp.1) q2246 q2247 q2248 q100 q2249 rfl rfl (by decide +kernel) ⟨(Nat.le_trans (Nat.le_of_ble_eq_true rfl : _ ≤ 64) hRf), (Nat.le_trans (Nat.le_of_ble_eq_true rfl : _ ≤ 2000) hRl)⟩ rfl (hmd2.lt 0 (by decide)) (hmd2.2 0 (by decide)) rfl hl.1 rfl (Nat.le_of_ble_eq_true rfl) ⟨by omega, by omega⟩ dL_law_2961) hS (fun rz2 w3 H locs hq2 hP hS => ?_)
    obtain ⟨hq2, hfr⟩ := hq2
    rcases hq2 with ⟨hc2, hr2, hmd3⟩ | ⟨hc2, hmd3⟩
    · skip
      omega
    · skip
      have hcls3 : clsP E ad N w3 d kk S1 pl ct K sv Z fp dq dd dc bf ln tx := hcls2.fr (fun p hp => hfr p (by show ¬ _; (try dsimp only [gIn]); omega))
      have hfo3 := (hfr (d + 128) (by show ¬ _; (try dsimp only [gIn]); omega)).trans hfo2
      have hfd3 := (hfr (d + 129) (by show ¬ _; (try dsimp only [gIn]); omega)).trans hfd2
      refine lv_istore (lv' := [(7, .int rz2), (6, .int (nI (1))), (5, .int (nI (i))), (0, .ref (sa)), (1, .ref (ad (d))), (2, .ref (ad (d + 116))), (3, .ref (ad (d + 128))), (4, .ref (ad (d + 129)))]) hx hb dL_law_2964 hl (by decide) rfl (fun ls hl => ?_)
      refine lv_aload_n hx hb dL_law_2966 rfl (lv_at hl 5 rfl) ?_
      refine g_afi (g_runV S hI hP hS (k := 0) (As := []) (rest := []) (mX13_thrown l _ _ _ _ _ _ _ _ _ _ _ _ _ _ _ _ _ _ _ _ _ _ _ _ _ hmd3) q1860 q1861 q1862 q100 q1863 rfl rfl (by decide +kernel) ⟨(Nat.le_trans (Nat.le_of_ble_eq_true rfl : _ ≤ 64) hRf), (Nat.le_trans (Nat.le_of_ble_eq_true rfl : _ ≤ 2000) hRl)⟩ rfl (hmd3.lt 0 (by decide)) (hmd3.2 0 (by decide)) rfl hl.1 rfl (Nat.le_of_ble_eq_true rfl) ⟨by omega, by omega⟩ dL_law_2967) hS (fun rz9 w9 H locs hq9 hP hS => ?_)
      obtain ⟨hr9, hw9⟩ := hq9
      rw [hw9] at hP
      rw [hr9]
      refine lv_iload hx hb dL_law_2970 (lv_at hl 1 rfl) ?_
      refine g_eq S (a := 1) (b := 1) (by omega) (by omega) (tgt := 2977) dL_law_2972 (by decide) (fun hb9 => ?_) (fun hb9 => ?_)
      · refine lv_iload hx hb dL_law_2977 (lv_at hl 1 rfl) ?_
        refine g_ifne S (a := 1) (by omega) (tgt := 2994) dL_law_2979 (by decide) (fun hb8 => ?_) (fun hb8 => ?_)
        · refine lv_goto (tgt := 2997) hx hb dL_law_2994 (by decide) ?_
          exact W.widen (k := cells + 234) (n := slots + 2848) (by omega) (by omega) (kk9 ad N _ _ _ _ ⟨_, _, _, _, _, _, _, _, _, _, _, _, _, _, _, _, _, _, _, _, _, _, _, _, _, _, _, _, _, _, _, _, hcls3, hmd3, ⟨_, hfo3⟩, ⟨_, hfd3⟩, hDat.le (by omega)⟩ hP hS (lv_sub hl [2, 3, 4, 5, 6, 7] rfl))
        · omega
      · exact absurd rfl hb9
end CASES6
