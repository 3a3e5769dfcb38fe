/-! THE CASES OF THE LAW: more -/
section CASES4
variable {p : Program} {l : Launch} {e : Env} {R : Room} {s : State} {m : MethodId} {args : Array Value} {below : List Frame} {meth : Method} {c : Code} {H : Heap} {locs : List Loc} {cells slots : Nat} {Q : State → Prop}
variable {cc : ByteArray} {pc nL : Nat} {ls : Array Slot} {rest st0 : List Value} {own : String} {E : gE} {ad : Nat → Nat} {N : Nat} {w : Nat → va_E}
set_option maxHeartbeats 4000000 in
set_option maxRecDepth 100000 in
/-- the law's case 20: pondVolume -/
theorem lc_20 (kk : Nat → Nat) (hlt : l.stackTraces = false) (hz : gHx E) (hzv : gHv E kk) (hn : gHn E) (S : gFix p m c cL_law 10 s args RL) (hI : gI E s s.heap) (hP : gP E ad N w H) (hS : va_S (gA E) s.heap H locs) (hRf : 64 ≤ R.frames) (hRl : 2000 ≤ R.locals) (hRc : cells + 234 ≤ R.cells) (hRs : slots + 2848 ≤ R.slots) {d B i sa L : Nat} {xs : Nat → Int32} (hB : B ≤ 600000) (hinv : lawP E kk ad N w d B) (hX : va_X sa L xs s s.heap) (hsa : sa < s.heap.size) (hsA : ¬ gA E sa) (hi : i + 5 ≤ L) (hL : L < 2 ^ 31) (hl : lv_has ls 10 [(5, .int (nI (i))), (0, .ref (sa)), (1, .ref (ad (d))), (2, .ref (ad (d + 116))), (3, .ref (ad (d + 128))), (4, .ref (ad (d + 129)))])
    (kk9 : ∀ (ad' : Nat → Nat) (N' : Nat) (w' : Nat → va_E) (H' : Heap) (locs' : List Loc) (ls' : Array Slot), lawP E kk ad' N' w' d (B + 1000) → gP E ad' N' w' H' → va_S (gA E) s.heap H' locs' → lv_has ls' 10 [(5, .int (nI (i))), (0, .ref (sa)), (1, .ref (ad' (d))), (2, .ref (ad' (d + 116))), (3, .ref (ad' (d + 128))), (4, .ref (ad' (d + 129)))] → W p l e R s m args below meth c H' locs' (cells + 234) (slots + 2848) Q (F0 m 2997 ls' [])) :
    W p l e R s m args below meth c H locs cells slots Q (F0 m 1450 ls []) := by
  have hx := S.1
  have hb := S.2.1
  obtain ⟨S1, pl, ct, K, sv, Z, fp, dq, dd, dc, bf, ln, tx, g, kp, svr, bfr, sd, sg, mk, td, lv, tl, qc, qd, co, wy, de, ca, sm, pa, tm, hcls, hmd, ⟨fo, hfo⟩, ⟨fd, hfd⟩, hDat⟩ := hinv
  obtain ⟨hdN, ⟨hbd, hbs, hbz, ⟨A0, hba⟩, ⟨T0, hbt⟩, hhs⟩, hscr, hprs, hsb⟩ := id hcls
  obtain ⟨hrow, hhis, hsnp, hden, hbuf, hlin, hfp⟩ := id hDat
  obtain ⟨hs1, ⟨re, ce, rc, tc, hs2⟩, ⟨pa0, hs3⟩, ⟨ra, rk, hs4⟩, hs5, ⟨wa, ke, hs6, hs6a, hs6b⟩, ⟨lv0, hs7⟩, ⟨pn, hs8⟩, ⟨wa2, ke2, hs9, hs9a, hs9b⟩, ⟨re2, ce2, rc2, tc2, hs10⟩, ⟨pa2, hs11⟩, ⟨lv2, hs12⟩, ⟨pq, hs13⟩⟩ := id hscr
  refine lv_aload_n hx hb dL_law_1450 rfl (lv_at hl 2 rfl) ?_
  refine g_afi (g_runV S hI hP hS (k := 0) (As := []) (rest := []) (mX12_pondVolume l d sv fp dq dd dc S1.1 S1.2.1 S1.2.2.1 S1.2.2.2.1 S1.2.2.2.2.1 S1.2.2.2.2.2.1 S1.2.2.2.2.2.2.1 S1.2.2.2.2.2.2.2.1 S1.2.2.2.2.2.2.2.2.1 S1.2.2.2.2.2.2.2.2.2 lv0 wa ke hbd hbs hs5 hs6 hs7 hrow.2.1.2.2.1 hrow.2.1.1 (fun k hk => by rw [hs6a k hk]; exact Nat.zero_le _) hs6b) q739 q740 q741 q82 q742 rfl rfl (by decide +kernel) ⟨(Nat.le_trans (Nat.le_of_ble_eq_true rfl : _ ≤ 64) hRf), (Nat.le_trans (Nat.le_of_ble_eq_true rfl : _ ≤ 2000) hRl)⟩ rfl (hbd.lt 0 (by decide)) (hbd.2 0 (by decide)) rfl hl.1 rfl (Nat.le_of_ble_eq_true rfl) ⟨by omega, by omega⟩ dL_law_1451) hS (fun rz1 w1 H locs hq hP hS => ?_)
  obtain ⟨hr1, hnew, hfw⟩ := hq
  have hscr1 : scr E ad N w1 d := hscr.upCL ⟨_, _, hnew.1, (spill_q hrow.2.1.1 hs6a).2, spill_ok hrow.2.1.1 (fun k hk => by rw [hs6a k hk]; exact Nat.zero_le _) hs6b⟩ hnew.2 (fun p a b c => hfw p (by show ¬ _; (try simp only [gIn]); (try dsimp only); omega))
  have hclsW : clsP E ad N w1 d kk S1 pl ct K sv Z fp dq dd dc bf ln tx := hcls.sc hscr1 (fun p hp => hfw p (by show ¬ _; (try simp only [gIn]); (try dsimp only); omega))
  have hmdW : bkP N w1 (d + 116) 12 (MDC E ad (d + 116) g kp svr bfr sd bf sg mk td lv tl sv qc (0 : Nat) qd co wy de ca ln fp sm pa tm) := hmd.fr hfw (fun k hk => (by show ¬ _; (try simp only [gIn]); (try dsimp only); omega))
  have hfoW := (hfw (d + 128) (by show ¬ _; (try simp only [gIn]); (try dsimp only); omega)).trans hfo
  have hfdW := (hfw (d + 129) (by show ¬ _; (try simp only [gIn]); (try dsimp only); omega)).trans hfd
  have hcls2 := hclsW
  have hmd2 := hmdW
  have hfo2 := hfoW
  have hfd2 := hfdW
  refine lv_aload_n hx hb dL_law_1454 rfl (lv_at hl 3 rfl) ?_
  refine g_afi (g_runV S hI hP hS (k := 0) (As := []) (rest := [.int rz1]) (mX13_pondVolume l (d + 116) g kp svr bfr sd bf sg mk td lv tl sv qc (0 : Nat) qd co wy de ca ln fp sm pa tm S1.1 S1.2.1 S1.2.2.1 S1.2.2.2.1 S1.2.2.2.2.1 S1.2.2.2.2.2.1 S1.2.2.2.2.2.2.1 S1.2.2.2.2.2.2.2.1 S1.2.2.2.2.2.2.2.2.1 S1.2.2.2.2.2.2.2.2.2 hmd2 hrow.1 hrow.2.1.1 hrow.2.1.2.2.1) q2024 q2025 q2026 q100 q2027 rfl rfl (by decide +kernel) ⟨(Nat.le_trans (Nat.le_of_ble_eq_true rfl : _ ≤ 64) hRf), (Nat.le_trans (Nat.le_of_ble_eq_true rfl : _ ≤ 2000) hRl)⟩ rfl (hmd2.lt 0 (by decide)) (hmd2.2 0 (by decide)) rfl hl.1 rfl (Nat.le_of_ble_eq_true rfl) ⟨by omega, by omega⟩ dL_law_1455) hS (fun rz2 w3 H locs hq2 hP hS => ?_)
  obtain ⟨lv9, hg2, hr2, hmd3, hfr⟩ := hq2
  have hcls3 : clsP E ad N w3 d kk S1 pl ct K sv Z fp dq dd dc bf ln tx := hcls2.fr (fun p hp => hfr p (by show ¬ _; (try dsimp only [gIn]); omega))
  have hfo3 := (hfr (d + 128) (by show ¬ _; (try dsimp only [gIn]); omega)).trans hfo2
  have hfd3 := (hfr (d + 129) (by show ¬ _; (try dsimp only [gIn]); omega)).trans hfd2
  refine lv_icmp_eq (tgt := 2997) hx hb dL_law_1458 (by decide) (fun hb9 => ?_) (fun hb9 => ?_)
  · exact W.widen (k := cells + 234) (n := slots + 2848) (by omega) (by omega) (kk9 ad N _ _ _ _ ⟨_, _, _, _, _, _, _, _, _, _, _, _, _, _, _, _, _, _, _, _, _, _, _, _, _, _, _, _, _, _, _, _, hcls3, hmd3, ⟨_, hfo3⟩, ⟨_, hfd3⟩, hDat.le (by omega)⟩ hP hS (lv_sub hl [0, 1, 2, 3, 4, 5] rfl))
  · exact absurd (by rw [hr1, hr2]; exact volI_cong (fun k hk => spill_eq hrow.2.1.1 hs6a hg2 k hk)) hb9
set_option maxHeartbeats 4000000 in
set_option maxRecDepth 100000 in
/-- the law's case 34: nightsUntilHole -/
theorem lc_34 (kk : Nat → Nat) (hlt : l.stackTraces = false) (hz : gHx E) (hzv : gHv E kk) (hn : gHn E) (S : gFix p m c cL_law 10 s args RL) (hI : gI E s s.heap) (hP : gP E ad N w H) (hS : va_S (gA E) s.heap H locs) (hRf : 64 ≤ R.frames) (hRl : 2000 ≤ R.locals) (hRc : cells + 234 ≤ R.cells) (hRs : slots + 2848 ≤ R.slots) {d B i sa L : Nat} {xs : Nat → Int32} (hB : B ≤ 600000) (hinv : lawP E kk ad N w d B) (hX : va_X sa L xs s s.heap) (hsa : sa < s.heap.size) (hsA : ¬ gA E sa) (hi : i + 5 ≤ L) (hL : L < 2 ^ 31) (hl : lv_has ls 10 [(5, .int (nI (i))), (0, .ref (sa)), (1, .ref (ad (d))), (2, .ref (ad (d + 116))), (3, .ref (ad (d + 128))), (4, .ref (ad (d + 129)))])
    (kk9 : ∀ (ad' : Nat → Nat) (N' : Nat) (w' : Nat → va_E) (H' : Heap) (locs' : List Loc) (ls' : Array Slot), lawP E kk ad' N' w' d (B + 1000) → gP E ad' N' w' H' → va_S (gA E) s.heap H' locs' → lv_has ls' 10 [(5, .int (nI (i))), (0, .ref (sa)), (1, .ref (ad' (d))), (2, .ref (ad' (d + 116))), (3, .ref (ad' (d + 128))), (4, .ref (ad' (d + 129)))] → W p l e R s m args below meth c H' locs' (cells + 234) (slots + 2848) Q (F0 m 2997 ls' [])) :
    W p l e R s m args below meth c H locs cells slots Q (F0 m 2242 ls []) := by
  have hx := S.1
  have hb := S.2.1
  obtain ⟨S1, pl, ct, K, sv, Z, fp, dq, dd, dc, bf, ln, tx, g, kp, svr, bfr, sd, sg, mk, td, lv, tl, qc, qd, co, wy, de, ca, sm, pa, tm, hcls, hmd, ⟨fo, hfo⟩, ⟨fd, hfd⟩, hDat⟩ := hinv
  obtain ⟨hdN, ⟨hbd, hbs, hbz, ⟨A0, hba⟩, ⟨T0, hbt⟩, hhs⟩, hscr, hprs, hsb⟩ := id hcls
  obtain ⟨hrow, hhis, hsnp, hden, hbuf, hlin, hfp⟩ := id hDat
  obtain ⟨hs1, ⟨re, ce, rc, tc, hs2⟩, ⟨pa0, hs3⟩, ⟨ra, rk, hs4⟩, hs5, ⟨wa, ke, hs6, hs6a, hs6b⟩, ⟨lv0, hs7⟩, ⟨pn, hs8⟩, ⟨wa2, ke2, hs9, hs9a, hs9b⟩, ⟨re2, ce2, rc2, tc2, hs10⟩, ⟨pa2, hs11⟩, ⟨lv2, hs12⟩, ⟨pq, hs13⟩⟩ := id hscr
  refine lv_aload_n hx hb dL_law_2242 rfl (lv_at hl 2 rfl) ?_
  refine lv_aload_n hx hb dL_law_2243 rfl (lv_at hl 1 rfl) ?_
  refine lv_iload hx hb dL_law_2244 (lv_at hl 0 rfl) ?_
  refine g_iconst S 1 dL_law_2246 (by decide +kernel) ?_
  refine g_iadd S dL_law_2247 ?_
  refine g_sld S hX hsa hsA hS (i + 1) (by omega) hL dL_law_2248 ?_
  refine lv_aload_n hx hb dL_law_2249 rfl (lv_at hl 1 rfl) ?_
  refine lv_iload hx hb dL_law_2250 (lv_at hl 0 rfl) ?_
  refine g_iconst S 2 dL_law_2252 (by decide +kernel) ?_
  refine g_iadd S dL_law_2253 ?_
  refine g_sld S hX hsa hsA hS (i + 2) (by omega) hL dL_law_2254 ?_
  refine lv_aload_n hx hb dL_law_2255 rfl (lv_at hl 4 rfl) ?_
  refine g_afi (g_runSW S hI hP hS (hh := [(0, 10, 13, 13), (0, 10, 17, 37)]) (k := 4) (As := [.ref (ad (d)), .int (xs (i + 1)), .int (xs (i + 2)), .ref (ad (d + 128))]) (rest := []) (mL_nightsUntilHole l d (d + 128) (xs (i + 1)) (xs (i + 2)) hz hn (hbd.lt 0 (by decide)) (hbd.2 0 (by decide)) (mX12_nightsUntilHole l d sv fp dq dd dc S1.1 S1.2.1 S1.2.2.1 S1.2.2.2.1 S1.2.2.2.2.1 S1.2.2.2.2.2.1 S1.2.2.2.2.2.2.1 S1.2.2.2.2.2.2.2.1 S1.2.2.2.2.2.2.2.2.1 S1.2.2.2.2.2.2.2.2.2 T0.1 T0.2.1 T0.2.2.1 T0.2.2.2.1 T0.2.2.2.2.1 T0.2.2.2.2.2.1 T0.2.2.2.2.2.2.1 T0.2.2.2.2.2.2.2.1 T0.2.2.2.2.2.2.2.2.1 T0.2.2.2.2.2.2.2.2.2 (xs (i + 1)) (xs (i + 2)) hbd hbs hbt hlt hz hrow.2.1.1 hrow.2.1.2.1 hrow.2.1.2.2.1 hrow.2.1.2.2.2.1 hrow.2.1.2.2.2.2) (by omega) (fun r w' h => (by obtain ⟨-, -, hfw⟩ := h; exact ⟨fo, (hfw (d + 128) (by show ¬ _; (try simp only [gIn]); (try dsimp only); omega)).trans hfo⟩)) (fun xc w' h => h.elim (fun z => Or.inl z.1) (fun z => Or.inr z.1))) q1211 q1212 q81 q1213 rfl rfl (by decide +kernel) ⟨(Nat.le_trans (Nat.le_of_ble_eq_true rfl : _ ≤ 64) hRf), (Nat.le_trans (Nat.le_of_ble_eq_true rfl : _ ≤ 2000) hRl)⟩ rfl hl.1 rfl (Nat.le_of_ble_eq_true rfl) ⟨by omega, by omega⟩ dL_law_2256) hS (fun rz w1 H locs hq hP hS => ?_)
  rcases hq with ⟨v1, f1, w2, hrz, hf1, hw2, hq⟩ | ⟨hrz, hq⟩ | ⟨hrz, hq⟩
  · skip
    rw [hw2] at hP
    rw [hrz]
    obtain ⟨⟨k1, hc1, i1, hd1, hv1⟩, hnew, hfw⟩ := hq
    have hclsW : clsP E ad N w2 d kk S1 pl ct K sv Z fp dq dd dc bf ln tx := hcls.tr hnew (fun p hp hq9 => hfw p (by show ¬ _; (try simp only [gIn]); (try dsimp only); omega))
    have hmdW : bkP N w2 (d + 116) 12 (MDC E ad (d + 116) g kp svr bfr sd bf sg mk td lv tl sv qc (0 : Nat) qd co wy de ca ln fp sm pa tm) := hmd.fr hfw (fun k hk => (by show ¬ _; (try simp only [gIn]); (try dsimp only); omega))
    have hfoW := (hfw (d + 128) (by show ¬ _; (try simp only [gIn]); (try dsimp only); omega)).trans hfo
    have hfdW := (hfw (d + 129) (by show ¬ _; (try simp only [gIn]); (try dsimp only); omega)).trans hfd
    obtain ⟨wb, hwb⟩ : ∃ z, z = va_up w2 (d + 128) (loE E f1) := ⟨_, rfl⟩
    rw [← hwb] at hP
    have hcls2 : clsP E ad N wb d kk S1 pl ct K sv Z fp dq dd dc bf ln tx := hclsW.fr (fun p hp => by rw [hwb, va_up_ne _ _ (by omega)])
    have hmd2 : bkP N wb (d + 116) 12 (MDC E ad (d + 116) g kp svr bfr sd bf sg mk td lv tl sv qc (0 : Nat) qd co wy de ca ln fp sm pa tm) := by rw [hwb]; exact hmdW.keep (by omega)
    have hfo2 : wb (d + 128) = loE E f1 := by rw [hwb, va_up_self]
    have hfd2 : wb (d + 129) = doE E fd := by rw [hwb, va_up_ne _ _ (by omega)]; exact hfdW
    refine lv_istore (lv' := [(6, .int (nI (0))), (5, .int (nI (i))), (0, .ref (sa)), (1, .ref (ad (d))), (2, .ref (ad (d + 116))), (3, .ref (ad (d + 128))), (4, .ref (ad (d + 129)))]) hx hb dL_law_2259 hl (by decide) rfl (fun ls hl => ?_)
    refine lv_aload_n hx hb dL_law_2261 rfl (lv_at hl 4 rfl) ?_
    refine lv_aload_n hx hb dL_law_2262 rfl (lv_at hl 2 rfl) ?_
    refine lv_iload hx hb dL_law_2263 (lv_at hl 1 rfl) ?_
    refine g_iconst S 1 dL_law_2265 (by decide +kernel) ?_
    refine g_iadd S dL_law_2266 ?_
    refine g_sld S hX hsa hsA hS (i + 1) (by omega) hL dL_law_2267 ?_
    refine lv_aload_n hx hb dL_law_2268 rfl (lv_at hl 2 rfl) ?_
    refine lv_iload hx hb dL_law_2269 (lv_at hl 1 rfl) ?_
    refine g_iconst S 2 dL_law_2271 (by decide +kernel) ?_
    refine g_iadd S dL_law_2272 ?_
    refine g_sld S hX hsa hsA hS (i + 2) (by omega) hL dL_law_2273 ?_
    refine g_afi (g_runV S hI hP hS (k := 2) (As := [.int (xs (i + 1)), .int (xs (i + 2))]) (rest := []) (mX13_nightsUntilHole l (d + 116) g kp svr bfr sd bf sg mk td lv tl sv qc (0 : Nat) qd co wy de ca ln fp sm pa tm S1.1 T0.2.1 S1.2.2.1 S1.2.2.2.1 S1.2.2.2.2.1 S1.2.2.2.2.2.1 S1.2.2.2.2.2.2.1 S1.2.2.2.2.2.2.2.1 S1.2.2.2.2.2.2.2.2.1 S1.2.2.2.2.2.2.2.2.2 (xs (i + 1)) (xs (i + 2)) hmd2 hrow.1 hrow.2.1.1 hrow.2.1.2.1 hrow.2.1.2.2.1 hrow.2.1.2.2.2.1 hrow.2.1.2.2.2.2) q2107 q2108 q2109 q100 q2110 rfl rfl (by decide +kernel) ⟨(Nat.le_trans (Nat.le_of_ble_eq_true rfl : _ ≤ 64) hRf), (Nat.le_trans (Nat.le_of_ble_eq_true rfl : _ ≤ 2000) hRl)⟩ rfl (hmd2.lt 0 (by decide)) (hmd2.2 0 (by decide)) rfl hl.1 rfl (Nat.le_of_ble_eq_true rfl) ⟨by omega, by omega⟩ dL_law_2274) hS (fun rz2 w3 H locs hq2 hP hS => ?_)
    obtain ⟨hq2, hfr⟩ := hq2
    rcases hq2 with ⟨k2, i2, hc2, hd2, hr2, g9, sd9, hR9, hmd3⟩ | ⟨k2, hc2, hd2, g9, sd9, hR9, hmd3⟩ | ⟨hc2, g9, sd9, hR9, hmd3⟩
    · skip
      have hcls3 : clsP E ad N w3 d kk S1 pl ct K sv Z fp dq dd dc bf ln tx := hcls2.fr (fun p hp => hfr p (by show ¬ _; (try dsimp only [gIn]); omega))
      have hfo3 := (hfr (d + 128) (by show ¬ _; (try dsimp only [gIn]); omega)).trans hfo2
      have hfd3 := (hfr (d + 129) (by show ¬ _; (try dsimp only [gIn]); omega)).trans hfd2
      have hka := Option.some.inj (hc1.symm.trans hc2)
      subst hka
      have hib := Option.some.inj (hd1.symm.trans hd2)
      have hv9 : v1 = rz2 := by rw [hv1, hr2, hib]
      rw [hv9] at hf1
      refine lv_istore (lv' := [(7, .int rz2), (6, .int (nI (0))), (5, .int (nI (i))), (0, .ref (sa)), (1, .ref (ad (d))), (2, .ref (ad (d + 116))), (3, .ref (ad (d + 128))), (4, .ref (ad (d + 129)))]) hx hb dL_law_2277 hl (by decide) rfl (fun ls hl => ?_)
      refine lv_aload_n hx hb dL_law_2279 rfl (lv_at hl 5 rfl) ?_
      refine g_afi (g_runV S hI hP hS (k := 0) (As := []) (rest := []) (mX13_thrown l _ _ _ _ _ _ _ _ _ _ _ _ _ _ _ _ _ _ _ _ _ _ _ _ _ hmd3) q1860 q1861 q1862 q100 q1863 rfl rfl (by decide +kernel) ⟨(Nat.le_trans (Nat.le_of_ble_eq_true rfl : _ ≤ 64) hRf), (Nat.le_trans (Nat.le_of_ble_eq_true rfl : _ ≤ 2000) hRl)⟩ rfl (hmd3.lt 0 (by decide)) (hmd3.2 0 (by decide)) rfl hl.1 rfl (Nat.le_of_ble_eq_true rfl) ⟨by omega, by omega⟩ dL_law_2280) hS (fun rz9 w9 H locs hq9 hP hS => ?_)
      obtain ⟨hr9, hw9⟩ := hq9
      rw [hw9] at hP
      rw [hr9]
      refine lv_iload hx hb dL_law_2283 (lv_at hl 1 rfl) ?_
      refine g_eq S (a := 0) (b := 0) (by omega) (by omega) (tgt := 2290) dL_law_2285 (by decide) (fun hb9 => ?_) (fun hb9 => ?_)
      · refine lv_iload hx hb dL_law_2290 (lv_at hl 1 rfl) ?_
        refine g_ifne S (a := 0) (by omega) (tgt := 2307) dL_law_2292 (by decide) (fun hb8 => ?_) (fun hb8 => ?_)
        · omega
        · refine lv_aload_n hx hb dL_law_2295 rfl (lv_at hl 6 rfl) ?_
          refine g_iconst S 0 dL_law_2296 (by decide +kernel) ?_
          refine g_lald S hI hP (o := d + 128) (by omega) hfo3 dL_law_2297 ?_
          rw [hf1]
          refine lv_iload hx hb dL_law_2298 (lv_at hl 0 rfl) ?_
          refine lv_i2l hx hb dL_law_2300 rfl ?_
          refine g_lcmpE S dL_law_2301 ?_
          refine g_ifeq S (a := 0) (by omega) (tgt := 2307) dL_law_2302 (by decide) (fun hb7 => ?_) (fun hb7 => ?_)
          · refine lv_goto (tgt := 2997) hx hb dL_law_2307 (by decide) ?_
            exact W.widen (k := cells + 234) (n := slots + 2848) (by omega) (by omega) (kk9 ad N _ _ _ _ ⟨_, _, _, _, _, _, _, _, _, _, _, _, _, _, _, _, _, _, _, _, _, _, _, _, _, _, _, _, _, _, _, _, hcls3, hmd3, ⟨_, hfo3⟩, ⟨_, hfd3⟩, lawD.le (B := B) ⟨⟨hR9, hrow.2⟩, hDat.2⟩ (by omega)⟩ hP hS (lv_sub hl [2, 3, 4, 5, 6, 7] rfl))
          · omega
      · exact absurd rfl hb9
    · skip
      have hka := Option.some.inj (hc1.symm.trans hc2)
      subst hka
      exact absurd (hd1.symm.trans hd2) (by intro q9; cases q9)
    · skip
      exact absurd (hc1.symm.trans hc2) (by intro q9; cases q9)
  · skip
    rw [hrz]
    have hq := hq.resolve_right (fun z => absurd z.1 (by decide))
    obtain ⟨-, hc1, hw1⟩ := hq
    rw [hw1] at hP
    have hclsW := hcls
    have hmdW := hmd
    have hfoW := hfo
    have hfdW := hfd
    obtain ⟨wb, hwb⟩ : ∃ z, z = w := ⟨_, rfl⟩
    rw [← hwb] at hP
    have hcls2 : clsP E ad N wb d kk S1 pl ct K sv Z fp dq dd dc bf ln tx := by rw [hwb]; exact hclsW
    have hmd2 : bkP N wb (d + 116) 12 (MDC E ad (d + 116) g kp svr bfr sd bf sg mk td lv tl sv qc (0 : Nat) qd co wy de ca ln fp sm pa tm) := by rw [hwb]; exact hmdW
    have hfo2 : wb (d + 128) = loE E fo := by rw [hwb]; exact hfoW
    have hfd2 : wb (d + 129) = doE E fd := by rw [hwb]; exact hfdW
    refine lv_istore (lv' := [(6, .int (nI (1))), (5, .int (nI (i))), (0, .ref (sa)), (1, .ref (ad (d))), (2, .ref (ad (d + 116))), (3, .ref (ad (d + 128))), (4, .ref (ad (d + 129)))]) hx hb dL_law_2259 hl (by decide) rfl (fun ls hl => ?_)
    refine lv_aload_n hx hb dL_law_2261 rfl (lv_at hl 4 rfl) ?_
    refine lv_aload_n hx hb dL_law_2262 rfl (lv_at hl 2 rfl) ?_
    refine lv_iload hx hb dL_law_2263 (lv_at hl 1 rfl) ?_
    refine g_iconst S 1 dL_law_2265 (by decide +kernel) ?_
    refine g_iadd S dL_law_2266 ?_
    refine g_sld S hX hsa hsA hS (i + 1) (by omega) hL dL_law_2267 ?_
    refine lv_aload_n hx hb dL_law_2268 rfl (lv_at hl 2 rfl) ?_
    refine lv_iload hx hb dL_law_2269 (lv_at hl 1 rfl) ?_
    refine g_iconst S 2 dL_law_2271 (by decide +kernel) ?_
    refine g_iadd S dL_law_2272 ?_
    refine g_sld S hX hsa hsA hS (i + 2) (by omega) hL dL_law_2273 ?_
    refine g_afi (g_runV S hI hP hS (k := 2) (As := [.int (xs (i + 1)), .int (xs (i + 2))]) (rest := []) (mX13_nightsUntilHole l (d + 116) g kp svr bfr sd bf sg mk td lv tl sv qc (0 : Nat) qd co wy de ca ln fp sm pa tm S1.1 T0.2.1 S1.2.2.1 S1.2.2.2.1 S1.2.2.2.2.1 S1.2.2.2.2.2.1 S1.2.2.2.2.2.2.1 S1.2.2.2.2.2.2.2.1 S1.2.2.2.2.2.2.2.2.1 S1.2.2.2.2.2.2.2.2.2 (xs (i + 1)) (xs (i + 2)) hmd2 hrow.1 hrow.2.1.1 hrow.2.1.2.1 hrow.2.1.2.2.1 hrow.2.1.2.2.2.1 hrow.2.1.2.2.2.2) q2107 q2108 q2109 q100 q2110 rfl rfl (by decide +kernel) ⟨(Nat.le_trans (Nat.le_of_ble_eq_true rfl : _ ≤ 64) hRf), (Nat.le_trans (Nat.le_of_ble_eq_true rfl : _ ≤ 2000) hRl)⟩ rfl (hmd2.lt 0 (by decide)) (hmd2.2 0 (by decide)) rfl hl.1 rfl (Nat.le_of_ble_eq_true rfl) ⟨by omega, by omega⟩ dL_law_2274) hS (fun rz2 w3 H locs hq2 hP hS => ?_)
    obtain ⟨hq2, hfr⟩ := hq2
    rcases hq2 with ⟨k2, i2, hc2, hd2, hr2, g9, sd9, hR9, hmd3⟩ | ⟨k2, hc2, hd2, g9, sd9, hR9, hmd3⟩ | ⟨hc2, g9, sd9, hR9, hmd3⟩
    · skip
      exact absurd (hc2.symm.trans hc1) (by intro q9; cases q9)
    · skip
      exact absurd (hc2.symm.trans hc1) (by intro q9; cases q9)
    · skip
      have hcls3 : clsP E ad N w3 d kk S1 pl ct K sv Z fp dq dd dc bf ln tx := hcls2.fr (fun p hp => hfr p (by show ¬ _; (try dsimp only [gIn]); omega))
      have hfo3 := (hfr (d + 128) (by show ¬ _; (try dsimp only [gIn]); omega)).trans hfo2
      have hfd3 := (hfr (d + 129) (by show ¬ _; (try dsimp only [gIn]); omega)).trans hfd2
      refine lv_istore (lv' := [(7, .int rz2), (6, .int (nI (1))), (5, .int (nI (i))), (0, .ref (sa)), (1, .ref (ad (d))), (2, .ref (ad (d + 116))), (3, .ref (ad (d + 128))), (4, .ref (ad (d + 129)))]) hx hb dL_law_2277 hl (by decide) rfl (fun ls hl => ?_)
      refine lv_aload_n hx hb dL_law_2279 rfl (lv_at hl 5 rfl) ?_
      refine g_afi (g_runV S hI hP hS (k := 0) (As := []) (rest := []) (mX13_thrown l _ _ _ _ _ _ _ _ _ _ _ _ _ _ _ _ _ _ _ _ _ _ _ _ _ hmd3) q1860 q1861 q1862 q100 q1863 rfl rfl (by decide +kernel) ⟨(Nat.le_trans (Nat.le_of_ble_eq_true rfl : _ ≤ 64) hRf), (Nat.le_trans (Nat.le_of_ble_eq_true rfl : _ ≤ 2000) hRl)⟩ rfl (hmd3.lt 0 (by decide)) (hmd3.2 0 (by decide)) rfl hl.1 rfl (Nat.le_of_ble_eq_true rfl) ⟨by omega, by omega⟩ dL_law_2280) hS (fun rz9 w9 H locs hq9 hP hS => ?_)
      obtain ⟨hr9, hw9⟩ := hq9
      rw [hw9] at hP
      rw [hr9]
      refine lv_iload hx hb dL_law_2283 (lv_at hl 1 rfl) ?_
      refine g_eq S (a := 1) (b := 1) (by omega) (by omega) (tgt := 2290) dL_law_2285 (by decide) (fun hb9 => ?_) (fun hb9 => ?_)
      · refine lv_iload hx hb dL_law_2290 (lv_at hl 1 rfl) ?_
        refine g_ifne S (a := 1) (by omega) (tgt := 2307) dL_law_2292 (by decide) (fun hb8 => ?_) (fun hb8 => ?_)
        · refine lv_goto (tgt := 2997) hx hb dL_law_2307 (by decide) ?_
          exact W.widen (k := cells + 234) (n := slots + 2848) (by omega) (by omega) (kk9 ad N _ _ _ _ ⟨_, _, _, _, _, _, _, _, _, _, _, _, _, _, _, _, _, _, _, _, _, _, _, _, _, _, _, _, _, _, _, _, hcls3, hmd3, ⟨_, hfo3⟩, ⟨_, hfd3⟩, lawD.le (B := B) ⟨⟨hR9, hrow.2⟩, hDat.2⟩ (by omega)⟩ hP hS (lv_sub hl [2, 3, 4, 5, 6, 7] rfl))
        · omega
      · exact absurd rfl hb9
  · skip
    rw [hrz]
    have hq := (hq.resolve_left (fun z => absurd z.1 (by decide))).2
    obtain ⟨⟨k1, hc1, hd1⟩, hnew, hfw⟩ := hq
    have hclsW : clsP E ad N w1 d kk S1 pl ct K sv Z fp dq dd dc bf ln tx := hcls.tr hnew (fun p hp hq9 => hfw p (by show ¬ _; (try simp only [gIn]); (try dsimp only); omega))
    have hmdW : bkP N w1 (d + 116) 12 (MDC E ad (d + 116) g kp svr bfr sd bf sg mk td lv tl sv qc (0 : Nat) qd co wy de ca ln fp sm pa tm) := hmd.fr hfw (fun k hk => (by show ¬ _; (try simp only [gIn]); (try dsimp only); omega))
    have hfoW := (hfw (d + 128) (by show ¬ _; (try simp only [gIn]); (try dsimp only); omega)).trans hfo
    have hfdW := (hfw (d + 129) (by show ¬ _; (try simp only [gIn]); (try dsimp only); omega)).trans hfd
    obtain ⟨wb, hwb⟩ : ∃ z, z = w1 := ⟨_, rfl⟩
    rw [← hwb] at hP
    have hcls2 : clsP E ad N wb d kk S1 pl ct K sv Z fp dq dd dc bf ln tx := by rw [hwb]; exact hclsW
    have hmd2 : bkP N wb (d + 116) 12 (MDC E ad (d + 116) g kp svr bfr sd bf sg mk td lv tl sv qc (0 : Nat) qd co wy de ca ln fp sm pa tm) := by rw [hwb]; exact hmdW
    have hfo2 : wb (d + 128) = loE E fo := by rw [hwb]; exact hfoW
    have hfd2 : wb (d + 129) = doE E fd := by rw [hwb]; exact hfdW
    refine lv_istore (lv' := [(6, .int (nI (2))), (5, .int (nI (i))), (0, .ref (sa)), (1, .ref (ad (d))), (2, .ref (ad (d + 116))), (3, .ref (ad (d + 128))), (4, .ref (ad (d + 129)))]) hx hb dL_law_2259 hl (by decide) rfl (fun ls hl => ?_)
    refine lv_aload_n hx hb dL_law_2261 rfl (lv_at hl 4 rfl) ?_
    refine lv_aload_n hx hb dL_law_2262 rfl (lv_at hl 2 rfl) ?_
    refine lv_iload hx hb dL_law_2263 (lv_at hl 1 rfl) ?_
    refine g_iconst S 1 dL_law_2265 (by decide +kernel) ?_
    refine g_iadd S dL_law_2266 ?_
    refine g_sld S hX hsa hsA hS (i + 1) (by omega) hL dL_law_2267 ?_
    refine lv_aload_n hx hb dL_law_2268 rfl (lv_at hl 2 rfl) ?_
    refine lv_iload hx hb dL_law_2269 (lv_at hl 1 rfl) ?_
    refine g_iconst S 2 dL_law_2271 (by decide +kernel) ?_
    refine g_iadd S dL_law_2272 ?_
    refine g_sld S hX hsa hsA hS (i + 2) (by omega) hL dL_law_2273 ?_
    refine g_afi (g_runV S hI hP hS (k := 2) (As := [.int (xs (i + 1)), .int (xs (i + 2))]) (rest := []) (mX13_nightsUntilHole l (d + 116) g kp svr bfr sd bf sg mk td lv tl sv qc (0 : Nat) qd co wy de ca ln fp sm pa tm S1.1 T0.2.1 S1.2.2.1 S1.2.2.2.1 S1.2.2.2.2.1 S1.2.2.2.2.2.1 S1.2.2.2.2.2.2.1 S1.2.2.2.2.2.2.2.1 S1.2.2.2.2.2.2.2.2.1 S1.2.2.2.2.2.2.2.2.2 (xs (i + 1)) (xs (i + 2)) hmd2 hrow.1 hrow.2.1.1 hrow.2.1.2.1 hrow.2.1.2.2.1 hrow.2.1.2.2.2.1 hrow.2.1.2.2.2.2) q2107 q2108 q2109 q100 q2110 rfl rfl (by decide +kernel) ⟨(Nat.le_trans (Nat.le_of_ble_eq_true rfl : _ ≤ 64) hRf), (Nat.le_trans (Nat.le_of_ble_eq_true rfl : _ ≤ 2000) hRl)⟩ rfl (hmd2.lt 0 (by decide)) (hmd2.2 0 (by decide)) rfl hl.1 rfl (Nat.le_of_ble_eq_true rfl) ⟨by omega, by omega⟩ dL_law_2274) hS (fun rz2 w3 H locs hq2 hP hS => ?_)
    obtain ⟨hq2, hfr⟩ := hq2
    rcases hq2 with ⟨k2, i2, hc2, hd2, hr2, g9, sd9, hR9, hmd3⟩ | ⟨k2, hc2, hd2, g9, sd9, hR9, hmd3⟩ | ⟨hc2, g9, sd9, hR9, hmd3⟩
    · skip
      have hka := Option.some.inj (hc1.symm.trans hc2)
      subst hka
      exact absurd (hd1.symm.trans hd2) (by intro q9; cases q9)
    · skip
      have hcls3 : clsP E ad N w3 d kk S1 pl ct K sv Z fp dq dd dc bf ln tx := hcls2.fr (fun p hp => hfr p (by show ¬ _; (try dsimp only [gIn]); omega))
      have hfo3 := (hfr (d + 128) (by show ¬ _; (try dsimp only [gIn]); omega)).trans hfo2
      have hfd3 := (hfr (d + 129) (by show ¬ _; (try dsimp only [gIn]); omega)).trans hfd2
      have hka := Option.some.inj (hc1.symm.trans hc2)
      subst hka
      refine lv_istore (lv' := [(7, .int rz2), (6, .int (nI (2))), (5, .int (nI (i))), (0, .ref (sa)), (1, .ref (ad (d))), (2, .ref (ad (d + 116))), (3, .ref (ad (d + 128))), (4, .ref (ad (d + 129)))]) hx hb dL_law_2277 hl (by decide) rfl (fun ls hl => ?_)
      refine lv_aload_n hx hb dL_law_2279 rfl (lv_at hl 5 rfl) ?_
      refine g_afi (g_runV S hI hP hS (k := 0) (As := []) (rest := []) (mX13_thrown l _ _ _ _ _ _ _ _ _ _ _ _ _ _ _ _ _ _ _ _ _ _ _ _ _ hmd3) q1860 q1861 q1862 q100 q1863 rfl rfl (by decide +kernel) ⟨(Nat.le_trans (Nat.le_of_ble_eq_true rfl : _ ≤ 64) hRf), (Nat.le_trans (Nat.le_of_ble_eq_true rfl : _ ≤ 2000) hRl)⟩ rfl (hmd3.lt 0 (by decide)) (hmd3.2 0 (by decide)) rfl hl.1 rfl (Nat.le_of_ble_eq_true rfl) ⟨by omega, by omega⟩ dL_law_2280) hS (fun rz9 w9 H locs hq9 hP hS => ?_)
      obtain ⟨hr9, hw9⟩ := hq9
      rw [hw9] at hP
      rw [hr9]
      refine lv_iload hx hb dL_law_2283 (lv_at hl 1 rfl) ?_
      refine g_eq S (a := 2) (b := 2) (by omega) (by omega) (tgt := 2290) dL_law_2285 (by decide) (fun hb9 => ?_) (fun hb9 => ?_)
      · refine lv_iload hx hb dL_law_2290 (lv_at hl 1 rfl) ?_
        refine g_ifne S (a := 2) (by omega) (tgt := 2307) dL_law_2292 (by decide) (fun hb8 => ?_) (fun hb8 => ?_)
        · refine lv_goto (tgt := 2997) hx hb dL_law_2307 (by decide) ?_
          exact W.widen (k := cells + 234) (n := slots + 2848) (by omega) (by omega) (kk9 ad N _ _ _ _ ⟨_, _, _, _, _, _, _, _, _, _, _, _, _, _, _, _, _, _, _, _, _, _, _, _, _, _, _, _, _, _, _, _, hcls3, hmd3, ⟨_, hfo3⟩, ⟨_, hfd3⟩, lawD.le (B := B) ⟨⟨hR9, hrow.2⟩, hDat.2⟩ (by omega)⟩ hP hS (lv_sub hl [2, 3, 4, 5, 6, 7] rfl))
        · omega
      · exact absurd rfl hb9
    · skip
      exact absurd (hc1.symm.trans hc2) (by intro q9; cases q9)
set_option maxHeartbeats 4000000 in
set_option maxRecDepth 100000 in
/-- the law's case 49: undo -/
theorem lc_49 (kk : Nat → Nat) (hlt : l.stackTraces = false) (hz : gHx E) (hzv : gHv E kk) (hn : gHn E) (S : gFix p m c cL_law 10 s args RL) (hI : gI E s s.heap) (hP : gP E ad N w H) (hS : va_S (gA E) s.heap H locs) (hRf : 64 ≤ R.frames) (hRl : 2000 ≤ R.locals) (hRc : cells + 234 ≤ R.cells) (hRs : slots + 2848 ≤ R.slots) {d B i sa L : Nat} {xs : Nat → Int32} (hB : B ≤ 600000) (hinv : lawP E kk ad N w d B) (hX : va_X sa L xs s s.heap) (hsa : sa < s.heap.size) (hsA : ¬ gA E sa) (hi : i + 5 ≤ L) (hL : L < 2 ^ 31) (hl : lv_has ls 10 [(5, .int (nI (i))), (0, .ref (sa)), (1, .ref (ad (d))), (2, .ref (ad (d + 116))), (3, .ref (ad (d + 128))), (4, .ref (ad (d + 129)))])
    (kk9 : ∀ (ad' : Nat → Nat) (N' : Nat) (w' : Nat → va_E) (H' : Heap) (locs' : List Loc) (ls' : Array Slot), lawP E kk ad' N' w' d (B + 1000) → gP E ad' N' w' H' → va_S (gA E) s.heap H' locs' → lv_has ls' 10 [(5, .int (nI (i))), (0, .ref (sa)), (1, .ref (ad' (d))), (2, .ref (ad' (d + 116))), (3, .ref (ad' (d + 128))), (4, .ref (ad' (d + 129)))] → W p l e R s m args below meth c H' locs' (cells + 234) (slots + 2848) Q (F0 m 2997 ls' [])) :
    W p l e R s m args below meth c H locs cells slots Q (F0 m 2883 ls []) := by
  have hx := S.1
  have hb := S.2.1
  obtain ⟨S1, pl, ct, K, sv, Z, fp, dq, dd, dc, bf, ln, tx, g, kp, svr, bfr, sd, sg, mk, td, lv, tl, qc, qd, co, wy, de, ca, sm, pa, tm, hcls, hmd, ⟨fo, hfo⟩, ⟨fd, hfd⟩, hDat⟩ := hinv
  obtain ⟨hdN, ⟨hbd, hbs, hbz, ⟨A0, hba⟩, ⟨T0, hbt⟩, hhs⟩, hscr, hprs, hsb⟩ := id hcls
  obtain ⟨hrow, hhis, hsnp, hden, hbuf, hlin, hfp⟩ := id hDat
  obtain ⟨hs1, ⟨re, ce, rc, tc, hs2⟩, ⟨pa0, hs3⟩, ⟨ra, rk, hs4⟩, hs5, ⟨wa, ke, hs6, hs6a, hs6b⟩, ⟨lv0, hs7⟩, ⟨pn, hs8⟩, ⟨wa2, ke2, hs9, hs9a, hs9b⟩, ⟨re2, ce2, rc2, tc2, hs10⟩, ⟨pa2, hs11⟩, ⟨lv2, hs12⟩, ⟨pq, hs13⟩⟩ := id hscr
  refine lv_aload_n hx hb dL_law_2883 rfl (lv_at hl 2 rfl) ?_
  refine lv_aload_n hx hb dL_law_2884 rfl (lv_at hl 4 rfl) ?_
  refine g_afi (g_runSW S hI hP hS (hh := [(0, 8, 11, 114)]) (k := 2) (As := [.ref (ad (d)), .ref (ad (d + 128))]) (rest := []) (mL_undo l d (d + 128)  hz hn (hbd.lt 0 (by decide)) (hbd.2 0 (by decide)) (mX12_undo l d sv fp dq dd dc S1.1 S1.2.1 S1.2.2.1 S1.2.2.2.1 S1.2.2.2.2.1 S1.2.2.2.2.2.1 S1.2.2.2.2.2.2.1 S1.2.2.2.2.2.2.2.1 S1.2.2.2.2.2.2.2.2.1 S1.2.2.2.2.2.2.2.2.2 pl ct K hbd hbs hlt hz hhs hhis.2.2.1 hhis.2.1 (fun j hj => shQ_ok (hhis.2.2.2.1 j hj))) (by omega) (fun r w' h => (by obtain ⟨-, -, -, -, hfw⟩ := h; exact ⟨fo, (hfw (d + 128) (by show ¬ _; (try simp only [gIn]); (try dsimp only); omega)).trans hfo⟩)) (fun xc w' h => h.1)) q1757 q1758 q81 q1759 rfl rfl (by decide +kernel) ⟨(Nat.le_trans (Nat.le_of_ble_eq_true rfl : _ ≤ 64) hRf), (Nat.le_trans (Nat.le_of_ble_eq_true rfl : _ ≤ 2000) hRl)⟩ rfl hl.1 rfl (Nat.le_of_ble_eq_true rfl) ⟨by omega, by omega⟩ dL_law_2885) hS (fun rz w1 H locs hq hP hS => ?_)
  rcases hq with ⟨v1, f1, w2, hrz, hf1, hw2, hq⟩ | ⟨hrz, hq⟩
  · skip
    rw [hw2] at hP
    rw [hrz]
    obtain ⟨hc1, hv1, hh9, hs9n, hfw⟩ := hq
    have hclsW : clsP E ad N w2 d kk (cpS (K ((pl + 8 - 1) % 8)) (S1.1, S1.2.1, S1.2.2.1, S1.2.2.2.1, S1.2.2.2.2.1, S1.2.2.2.2.2.1, S1.2.2.2.2.2.2.1, S1.2.2.2.2.2.2.2.1, S1.2.2.2.2.2.2.2.2.1, S1.2.2.2.2.2.2.2.2.2)) ((pl + 8 - 1) % 8) (ct - 1) K sv Z fp dq dd dc bf ln tx := hcls.chg (hbd.fr hfw (fun k hk => (by show ¬ _; (try simp only [gIn]); (try dsimp only); omega))) hs9n hh9 (fun p hp => hfw p (by show ¬ _; (try simp only [gIn]); (try dsimp only); omega))
    have hmdW : bkP N w2 (d + 116) 12 (MDC E ad (d + 116) g kp svr bfr sd bf sg mk td lv tl sv qc (0 : Nat) qd co wy de ca ln fp sm pa tm) := hmd.fr hfw (fun k hk => (by show ¬ _; (try simp only [gIn]); (try dsimp only); omega))
    have hfoW := (hfw (d + 128) (by show ¬ _; (try simp only [gIn]); (try dsimp only); omega)).trans hfo
    have hfdW := (hfw (d + 129) (by show ¬ _; (try simp only [gIn]); (try dsimp only); omega)).trans hfd
    obtain ⟨wb, hwb⟩ : ∃ z, z = va_up w2 (d + 128) (loE E f1) := ⟨_, rfl⟩
    rw [← hwb] at hP
    have hcls2 : clsP E ad N wb d kk (cpS (K ((pl + 8 - 1) % 8)) (S1.1, S1.2.1, S1.2.2.1, S1.2.2.2.1, S1.2.2.2.2.1, S1.2.2.2.2.2.1, S1.2.2.2.2.2.2.1, S1.2.2.2.2.2.2.2.1, S1.2.2.2.2.2.2.2.2.1, S1.2.2.2.2.2.2.2.2.2)) ((pl + 8 - 1) % 8) (ct - 1) K sv Z fp dq dd dc bf ln tx := hclsW.fr (fun p hp => by rw [hwb, va_up_ne _ _ (by omega)])
    have hmd2 : bkP N wb (d + 116) 12 (MDC E ad (d + 116) g kp svr bfr sd bf sg mk td lv tl sv qc (0 : Nat) qd co wy de ca ln fp sm pa tm) := by rw [hwb]; exact hmdW.keep (by omega)
    have hfo2 : wb (d + 128) = loE E f1 := by rw [hwb, va_up_self]
    have hfd2 : wb (d + 129) = doE E fd := by rw [hwb, va_up_ne _ _ (by omega)]; exact hfdW
    refine lv_istore (lv' := [(6, .int (nI (0))), (5, .int (nI (i))), (0, .ref (sa)), (1, .ref (ad (d))), (2, .ref (ad (d + 116))), (3, .ref (ad (d + 128))), (4, .ref (ad (d + 129)))]) hx hb dL_law_2888 hl (by decide) rfl (fun ls hl => ?_)
    refine lv_aload_n hx hb dL_law_2890 rfl (lv_at hl 4 rfl) ?_
    refine g_afi (g_runV S hI hP hS (k := 0) (As := []) (rest := []) (mX13_undo l (d + 116) g kp svr bfr sd bf sg mk td lv tl sv qc (0 : Nat) qd co wy de ca ln fp sm pa tm hmd2 (by have := hhis.1; have := hhis.2.1; omega)) q2234 q2235 q2236 q100 q2237 rfl rfl (by decide +kernel) ⟨(Nat.le_trans (Nat.le_of_ble_eq_true rfl : _ ≤ 64) hRf), (Nat.le_trans (Nat.le_of_ble_eq_true rfl : _ ≤ 2000) hRl)⟩ rfl (hmd2.lt 0 (by decide)) (hmd2.2 0 (by decide)) rfl hl.1 rfl (Nat.le_of_ble_eq_true rfl) ⟨by omega, by omega⟩ dL_law_2891) hS (fun rz2 w3 H locs hq2 hP hS => ?_)
    obtain ⟨hq2, hfr⟩ := hq2
    rcases hq2 with ⟨hc2, hr2, hmd3⟩ | ⟨hc2, hmd3⟩
    · skip
      have hcls3 : clsP E ad N w3 d kk (cpS (K ((pl + 8 - 1) % 8)) (S1.1, S1.2.1, S1.2.2.1, S1.2.2.2.1, S1.2.2.2.2.1, S1.2.2.2.2.2.1, S1.2.2.2.2.2.2.1, S1.2.2.2.2.2.2.2.1, S1.2.2.2.2.2.2.2.2.1, S1.2.2.2.2.2.2.2.2.2)) ((pl + 8 - 1) % 8) (ct - 1) K sv Z fp dq dd dc bf ln tx := hcls2.fr (fun p hp => hfr p (by show ¬ _; (try dsimp only [gIn]); omega))
      have hfo3 := (hfr (d + 128) (by show ¬ _; (try dsimp only [gIn]); omega)).trans hfo2
      have hfd3 := (hfr (d + 129) (by show ¬ _; (try dsimp only [gIn]); omega)).trans hfd2
      have hv9 : v1 = rz2 := by rw [hv1, hr2, hhis.1]
      rw [hv9] at hf1
      refine lv_istore (lv' := [(7, .int rz2), (6, .int (nI (0))), (5, .int (nI (i))), (0, .ref (sa)), (1, .ref (ad (d))), (2, .ref (ad (d + 116))), (3, .ref (ad (d + 128))), (4, .ref (ad (d + 129)))]) hx hb dL_law_2894 hl (by decide) rfl (fun ls hl => ?_)
      refine lv_aload_n hx hb dL_law_2896 rfl (lv_at hl 5 rfl) ?_
      refine g_afi (g_runV S hI hP hS (k := 0) (As := []) (rest := []) (mX13_thrown l _ _ _ _ _ _ _ _ _ _ _ _ _ _ _ _ _ _ _ _ _ _ _ _ _ hmd3) q1860 q1861 q1862 q100 q1863 rfl rfl (by decide +kernel) ⟨(Nat.le_trans (Nat.le_of_ble_eq_true rfl : _ ≤ 64) hRf), (Nat.le_trans (Nat.le_of_ble_eq_true rfl : _ ≤ 2000) hRl)⟩ rfl (hmd3.lt 0 (by decide)) (hmd3.2 0 (by decide)) rfl hl.1 rfl (Nat.le_of_ble_eq_true rfl) ⟨by omega, by omega⟩ dL_law_2897) hS (fun rz9 w9 H locs hq9 hP hS => ?_)
      obtain ⟨hr9, hw9⟩ := hq9
      rw [hw9] at hP
      rw [hr9]
      refine lv_iload hx hb dL_law_2900 (lv_at hl 1 rfl) ?_
      refine g_eq S (a := 0) (b := 0) (by omega) (by omega) (tgt := 2907) dL_law_2902 (by decide) (fun hb9 => ?_) (fun hb9 => ?_)
      · refine lv_iload hx hb dL_law_2907 (lv_at hl 1 rfl) ?_
        refine g_ifne S (a := 0) (by omega) (tgt := 2924) dL_law_2909 (by decide) (fun hb8 => ?_) (fun hb8 => ?_)
        · omega
        · refine lv_aload_n hx hb dL_law_2912 rfl (lv_at hl 6 rfl) ?_
          refine g_iconst S 0 dL_law_2913 (by decide +kernel) ?_
          refine g_lald S hI hP (o := d + 128) (by omega) hfo3 dL_law_2914 ?_
          rw [hf1]
          refine lv_iload hx hb dL_law_2915 (lv_at hl 0 rfl) ?_
          refine lv_i2l hx hb dL_law_2917 rfl ?_
          refine g_lcmpE S dL_law_2918 ?_
          refine g_ifeq S (a := 0) (by omega) (tgt := 2924) dL_law_2919 (by decide) (fun hb7 => ?_) (fun hb7 => ?_)
          · refine lv_goto (tgt := 2997) hx hb dL_law_2924 (by decide) ?_
            exact W.widen (k := cells + 234) (n := slots + 2848) (by omega) (by omega) (kk9 ad N _ _ _ _ ⟨_, _, _, _, _, _, _, _, _, _, _, _, _, _, _, _, _, _, _, _, _, _, _, _, _, _, _, _, _, _, _, _, hcls3, hmd3, ⟨_, hfo3⟩, ⟨_, hfd3⟩, lawD.le (B := B) ⟨(hhis.undo (K := K) (S := (cpS (K ((pl + 8 - 1) % 8)) (S1.1, S1.2.1, S1.2.2.1, S1.2.2.2.1, S1.2.2.2.2.1, S1.2.2.2.2.2.1, S1.2.2.2.2.2.2.1, S1.2.2.2.2.2.2.2.1, S1.2.2.2.2.2.2.2.2.1, S1.2.2.2.2.2.2.2.2.2))) hc1).1, (hhis.undo (g := g) (S := S1) hc1).2, hDat.2.2⟩ (by omega)⟩ hP hS (lv_sub hl [2, 3, 4, 5, 6, 7] rfl))
          · omega
      · exact absurd rfl hb9
    · skip
      have := hhis.1; omega
  · skip
    rw [hrz]
    obtain ⟨hx1, hc1, hh9, hs9n, hfw⟩ := hq
    have hclsW : clsP E ad N w1 d kk S1 pl ct K sv Z fp dq dd dc bf ln tx := hcls.chg (hbd.fr hfw (fun k hk => (by show ¬ _; (try simp only [gIn]); (try dsimp only); omega))) hs9n hh9 (fun p hp => hfw p (by show ¬ _; (try simp only [gIn]); (try dsimp only); omega))
    have hmdW : bkP N w1 (d + 116) 12 (MDC E ad (d + 116) g kp svr bfr sd bf sg mk td lv tl sv qc (0 : Nat) qd co wy de ca ln fp sm pa tm) := hmd.fr hfw (fun k hk => (by show ¬ _; (try simp only [gIn]); (try dsimp only); omega))
    have hfoW := (hfw (d + 128) (by show ¬ _; (try simp only [gIn]); (try dsimp only); omega)).trans hfo
    have hfdW := (hfw (d + 129) (by show ¬ _; (try simp only [gIn]); (try dsimp only); omega)).trans hfd
    obtain ⟨wb, hwb⟩ : ∃ z, z = w1 := ⟨_, rfl⟩
    rw [← hwb] at hP
    have hcls2 : clsP E ad N wb d kk S1 pl ct K sv Z fp dq dd dc bf ln tx := by rw [hwb]; exact hclsW
    have hmd2 : bkP N wb (d + 116) 12 (MDC E ad (d + 116) g kp svr bfr sd bf sg mk td lv tl sv qc (0 : Nat) qd co wy de ca ln fp sm pa tm) := by rw [hwb]; exact hmdW
    have hfo2 : wb (d + 128) = loE E fo := by rw [hwb]; exact hfoW
    have hfd2 : wb (d + 129) = doE E fd := by rw [hwb]; exact hfdW
    refine lv_istore (lv' := [(6, .int (nI (1))), (5, .int (nI (i))), (0, .ref (sa)), (1, .ref (ad (d))), (2, .ref (ad (d + 116))), (3, .ref (ad (d + 128))), (4, .ref (ad (d + 129)))]) hx hb dL_law_2888 hl (by decide) rfl (fun ls hl => ?_)
    refine lv_aload_n hx hb dL_law_2890 rfl (lv_at hl 4 rfl) ?_
    refine g_afi (g_runV S hI hP hS (k := 0) (As := []) (rest := []) (mX13_undo l (d + 116) g kp svr bfr sd bf sg mk td lv tl sv qc (0 : Nat) qd co wy de ca ln fp sm pa tm hmd2 (by have := hhis.1; have := hhis.2.1; omega)) q2234 q2235 q2236 q100 q2237 rfl rfl (by decide +kernel) ⟨(Nat.le_trans (Nat.le_of_ble_eq_true rfl : _ ≤ 64) hRf), (Nat.le_trans (Nat.le_of_ble_eq_true rfl : _ ≤ 2000) hRl)⟩ rfl (hmd2.lt 0 (by decide)) (hmd2.2 0 (by decide)) rfl hl.1 rfl (Nat.le_of_ble_eq_true rfl) ⟨by omega, by omega⟩ dL_law_2891) hS (fun rz2 w3 H locs hq2 hP hS => ?_)
    obtain ⟨hq2, hfr⟩ := hq2
    rcases hq2 with ⟨hc2, hr2, hmd3⟩ | ⟨hc2, hmd3⟩
    · skip
      have := hhis.1; omega
    · skip
      have hcls3 : clsP E ad N w3 d kk S1 pl ct K sv Z fp dq dd dc bf ln tx := hcls2.fr (fun p hp => hfr p (by show ¬ _; (try dsimp only [gIn]); omega))
      have hfo3 := (hfr (d + 128) (by show ¬ _; (try dsimp only [gIn]); omega)).trans hfo2
      have hfd3 := (hfr (d + 129) (by show ¬ _; (try dsimp only [gIn]); omega)).trans hfd2
      refine lv_istore (lv' := [(7, .int rz2), (6, .int (nI (1))), (5, .int (nI (i))), (0, .ref (sa)), (1, .ref (ad (d))), (2, .ref (ad (d + 116))), (3, .ref (ad (d + 128))), (4, .ref (ad (d + 129)))]) hx hb dL_law_2894 hl (by decide) rfl (fun ls hl => ?_)
      refine lv_aload_n hx hb dL_law_2896 rfl (lv_at hl 5 rfl) ?_
      refine g_afi (g_runV S hI hP hS (k := 0) (As := []) (rest := []) (mX13_thrown l _ _ _ _ _ _ _ _ _ _ _ _ _ _ _ _ _ _ _ _ _ _ _ _ _ hmd3) q1860 q1861 q1862 q100 q1863 rfl rfl (by decide +kernel) ⟨(Nat.le_trans (Nat.le_of_ble_eq_true rfl : _ ≤ 64) hRf), (Nat.le_trans (Nat.le_of_ble_eq_true rfl : _ ≤ 2000) hRl)⟩ rfl (hmd3.lt 0 (by decide)) (hmd3.2 0 (by decide)) rfl hl.1 rfl (Nat.le_of_ble_eq_true rfl) ⟨by omega, by omega⟩ dL_law_2897) hS (fun rz9 w9 H locs hq9 hP hS => ?_)
      obtain ⟨hr9, hw9⟩ := hq9
      rw [hw9] at hP
      rw [hr9]
      refine lv_iload hx hb dL_law_2900 (lv_at hl 1 rfl) ?_
      refine g_eq S (a := 1) (b := 1) (by omega) (by omega) (tgt := 2907) dL_law_2902 (by decide) (fun hb9 => ?_) (fun hb9 => ?_)
      · refine lv_iload hx hb dL_law_2907 (lv_at hl 1 rfl) ?_
        refine g_ifne S (a := 1) (by omega) (tgt := 2924) dL_law_2909 (by decide) (fun hb8 => ?_) (fun hb8 => ?_)
        · refine lv_goto (tgt := 2997) hx hb dL_law_2924 (by decide) ?_
          exact W.widen (k := cells + 234) (n := slots + 2848) (by omega) (by omega) (kk9 ad N _ _ _ _ ⟨_, _, _, _, _, _, _, _, _, _, _, _, _, _, _, _, _, _, _, _, _, _, _, _, _, _, _, _, _, _, _, _, hcls3, hmd3, ⟨_, hfo3⟩, ⟨_, hfd3⟩, hDat.le (by omega)⟩ hP hS (lv_sub hl [2, 3, 4, 5, 6, 7] rfl))
        · omega
      · exact absurd rfl hb9
end CASES4
