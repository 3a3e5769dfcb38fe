/-! THE CASES OF THE LAW: commands -/
section CASES5
variable {p : Program} {l : Launch} {e : Env} {R : Room} {s : State} {m : MethodId} {args : Array Value} {below : List Frame} {meth : Method} {c : Code} {H : Heap} {locs : List Loc} {cells slots : Nat} {Q : State → Prop}
variable {cc : ByteArray} {pc nL : Nat} {ls : Array Slot} {rest st0 : List Value} {own : String} {E : gE} {ad : Nat → Nat} {N : Nat} {w : Nat → va_E}
set_option maxHeartbeats 4000000 in
set_option maxRecDepth 100000 in
/-- the law's case 0: setHeight -/
theorem lc_0 (kk : Nat → Nat) (hlt : l.stackTraces = false) (hz : gHx E) (hzv : gHv E kk) (hn : gHn E) (S : gFix p m c cL_law 10 s args RL) (hI : gI E s s.heap) (hP : gP E ad N w H) (hS : va_S (gA E) s.heap H locs) (hRf : 64 ≤ R.frames) (hRl : 2000 ≤ R.locals) (hRc : cells + 234 ≤ R.cells) (hRs : slots + 2848 ≤ R.slots) {d B i sa L : Nat} {xs : Nat → Int32} (hB : B ≤ 600000) (hinv : lawP E kk ad N w d B) (hX : va_X sa L xs s s.heap) (hsa : sa < s.heap.size) (hsA : ¬ gA E sa) (hi : i + 5 ≤ L) (hL : L < 2 ^ 31) (hl : lv_has ls 10 [(5, .int (nI (i))), (0, .ref (sa)), (1, .ref (ad (d))), (2, .ref (ad (d + 116))), (3, .ref (ad (d + 128))), (4, .ref (ad (d + 129)))])
    (kk9 : ∀ (ad' : Nat → Nat) (N' : Nat) (w' : Nat → va_E) (H' : Heap) (locs' : List Loc) (ls' : Array Slot), lawP E kk ad' N' w' d (B + 1000) → gP E ad' N' w' H' → va_S (gA E) s.heap H' locs' → lv_has ls' 10 [(5, .int (nI (i))), (0, .ref (sa)), (1, .ref (ad' (d))), (2, .ref (ad' (d + 116))), (3, .ref (ad' (d + 128))), (4, .ref (ad' (d + 129)))] → W p l e R s m args below meth c H' locs' (cells + 234) (slots + 2848) Q (F0 m 2997 ls' [])) :
    W p l e R s m args below meth c H locs cells slots Q (F0 m 272 ls []) := by
  have hx := S.1
  have hb := S.2.1
  obtain ⟨S1, pl, ct, K, sv, Z, fp, dq, dd, dc, bf, ln, tx, g, kp, svr, bfr, sd, sg, mk, td, lv, tl, qc, qd, co, wy, de, ca, sm, pa, tm, hcls, hmd, ⟨fo, hfo⟩, ⟨fd, hfd⟩, hDat⟩ := hinv
  obtain ⟨hdN, ⟨hbd, hbs, hbz, ⟨A0, hba⟩, ⟨T0, hbt⟩, hhs⟩, hscr, hprs, hsb⟩ := id hcls
  obtain ⟨hrow, hhis, hsnp, hden, hbuf, hlin, hfp⟩ := id hDat
  obtain ⟨hs1, ⟨re, ce, rc, tc, hs2⟩, ⟨pa0, hs3⟩, ⟨ra, rk, hs4⟩, hs5, ⟨wa, ke, hs6, hs6a, hs6b⟩, ⟨lv0, hs7⟩, ⟨pn, hs8⟩, ⟨wa2, ke2, hs9, hs9a, hs9b⟩, ⟨re2, ce2, rc2, tc2, hs10⟩, ⟨pa2, hs11⟩, ⟨lv2, hs12⟩, ⟨pq, hs13⟩⟩ := id hscr
  refine lv_aload_n hx hb dL_law_272 rfl (lv_at hl 2 rfl) ?_
  refine lv_aload_n hx hb dL_law_273 rfl (lv_at hl 1 rfl) ?_
  refine lv_iload hx hb dL_law_274 (lv_at hl 0 rfl) ?_
  refine g_iconst S 1 dL_law_276 (by decide +kernel) ?_
  refine g_iadd S dL_law_277 ?_
  refine g_sld S hX hsa hsA hS (i + 1) (by omega) hL dL_law_278 ?_
  refine lv_aload_n hx hb dL_law_279 rfl (lv_at hl 1 rfl) ?_
  refine lv_iload hx hb dL_law_280 (lv_at hl 0 rfl) ?_
  refine g_iconst S 2 dL_law_282 (by decide +kernel) ?_
  refine g_iadd S dL_law_283 ?_
  refine g_sld S hX hsa hsA hS (i + 2) (by omega) hL dL_law_284 ?_
  refine lv_aload_n hx hb dL_law_285 rfl (lv_at hl 1 rfl) ?_
  refine lv_iload hx hb dL_law_286 (lv_at hl 0 rfl) ?_
  refine g_iconst S 3 dL_law_288 (by decide +kernel) ?_
  refine g_iadd S dL_law_289 ?_
  refine g_sld S hX hsa hsA hS (i + 3) (by omega) hL dL_law_290 ?_
  refine lv_aload_n hx hb dL_law_291 rfl (lv_at hl 4 rfl) ?_
  refine g_afi (g_runSW S hI hP hS (hh := [(0, 12, 15, 13), (0, 12, 19, 15), (0, 12, 23, 17)]) (k := 5) (As := [.ref (ad (d)), .int (xs (i + 1)), .int (xs (i + 2)), .int (xs (i + 3)), .ref (ad (d + 128))]) (rest := []) (mL_setHeight l d (d + 128) (xs (i + 1)) (xs (i + 2)) (xs (i + 3)) hz hn (hbd.lt 0 (by decide)) (hbd.2 0 (by decide)) (mX12_setHeight l kk hzv d sv fp dq dd dc S1.1 S1.2.1 S1.2.2.1 S1.2.2.2.1 S1.2.2.2.2.1 S1.2.2.2.2.2.1 S1.2.2.2.2.2.2.1 S1.2.2.2.2.2.2.2.1 S1.2.2.2.2.2.2.2.2.1 S1.2.2.2.2.2.2.2.2.2 pl ct K (xs (i + 1)) (xs (i + 2)) (xs (i + 3)) hbd hbs hlt hz (by omega) hhs hhis.2.2.1 hhis.2.1 hrow.2.1.1 hrow.2.1.2.1 hrow.2.1.2.2.1 hrow.2.1.2.2.2.1 hrow.2.1.2.2.2.2) (by omega) (fun r w' h => (by obtain ⟨k9, u9, -, -, -, -, -, -, hfw⟩ := h; exact ⟨fo, (hfw (d + 128) (by show ¬ _; (try simp only [gIn]); (try dsimp only); omega)).trans hfo⟩)) (fun xc w' h => h.elim (fun z => Or.inl z.1) (fun h => h.elim (fun z => Or.inr (Or.inl z.1)) (fun z => Or.inr (Or.inr (z.1)))))) q832 q833 q81 q834 rfl rfl (by decide +kernel) ⟨(Nat.le_trans (Nat.le_of_ble_eq_true rfl : _ ≤ 64) hRf), (Nat.le_trans (Nat.le_of_ble_eq_true rfl : _ ≤ 2000) hRl)⟩ rfl hl.1 rfl (Nat.le_of_ble_eq_true rfl) ⟨by omega, by omega⟩ dL_law_292) hS (fun rz w1 H locs hq hP hS => ?_)
  rcases hq with ⟨v1, f1, w2, hrz, hf1, hw2, hq⟩ | ⟨hrz, hq⟩ | ⟨hrz, hq⟩ | ⟨hrz, hq⟩
  · skip
    rw [hw2] at hP
    rw [hrz]
    obtain ⟨k1, u1, hck1, hc1, hv1, hs9n, hh9, hd9, hfw⟩ := hq
    have hclsW : clsP E ad N w2 d kk ((cmS 0 k1 u1 S1.1 S1.2.1 S1.2.2.1 S1.2.2.2.1 S1.2.2.2.2.1 S1.2.2.2.2.2.1 S1.2.2.2.2.2.2.1 S1.2.2.2.2.2.2.2.1 S1.2.2.2.2.2.2.2.2.1 S1.2.2.2.2.2.2.2.2.2).2) ((pl + 1) % 8) (min (ct + 1) 8) (va_up K pl (cpS (S1.1, S1.2.1, S1.2.2.1, S1.2.2.2.1, S1.2.2.2.2.1, S1.2.2.2.2.2.1, S1.2.2.2.2.2.2.1, S1.2.2.2.2.2.2.2.1, S1.2.2.2.2.2.2.2.2.1, S1.2.2.2.2.2.2.2.2.2) (K pl))) sv Z fp dq dd dc bf ln tx := hcls.chg hd9 hs9n hh9 (fun p hp => hfw p (by show ¬ _; (try simp only [gIn]); (try dsimp only); omega))
    have hmdW : bkP N w2 (d + 116) 12 (MDC E ad (d + 116) g kp svr bfr sd bf sg mk td lv tl sv qc (0 : Nat) qd co wy de ca ln fp sm pa tm) := hmd.fr hfw (fun k hk => (by show ¬ _; (try simp only [gIn]); (try dsimp only); omega))
    have hfoW := (hfw (d + 128) (by show ¬ _; (try simp only [gIn]); (try dsimp only); omega)).trans hfo
    have hfdW := (hfw (d + 129) (by show ¬ _; (try simp only [gIn]); (try dsimp only); omega)).trans hfd
    obtain ⟨wb, hwb⟩ : ∃ z, z = va_up w2 (d + 128) (loE E f1) := ⟨_, rfl⟩
    rw [← hwb] at hP
    have hcls2 : clsP E ad N wb d kk ((cmS 0 k1 u1 S1.1 S1.2.1 S1.2.2.1 S1.2.2.2.1 S1.2.2.2.2.1 S1.2.2.2.2.2.1 S1.2.2.2.2.2.2.1 S1.2.2.2.2.2.2.2.1 S1.2.2.2.2.2.2.2.2.1 S1.2.2.2.2.2.2.2.2.2).2) ((pl + 1) % 8) (min (ct + 1) 8) (va_up K pl (cpS (S1.1, S1.2.1, S1.2.2.1, S1.2.2.2.1, S1.2.2.2.2.1, S1.2.2.2.2.2.1, S1.2.2.2.2.2.2.1, S1.2.2.2.2.2.2.2.1, S1.2.2.2.2.2.2.2.2.1, S1.2.2.2.2.2.2.2.2.2) (K pl))) sv Z fp dq dd dc bf ln tx := hclsW.fr (fun p hp => by rw [hwb, va_up_ne _ _ (by omega)])
    have hmd2 : bkP N wb (d + 116) 12 (MDC E ad (d + 116) g kp svr bfr sd bf sg mk td lv tl sv qc (0 : Nat) qd co wy de ca ln fp sm pa tm) := by rw [hwb]; exact hmdW.keep (by omega)
    have hfo2 : wb (d + 128) = loE E f1 := by rw [hwb, va_up_self]
    have hfd2 : wb (d + 129) = doE E fd := by rw [hwb, va_up_ne _ _ (by omega)]; exact hfdW
    refine lv_istore (lv' := [(6, .int (nI (0))), (5, .int (nI (i))), (0, .ref (sa)), (1, .ref (ad (d))), (2, .ref (ad (d + 116))), (3, .ref (ad (d + 128))), (4, .ref (ad (d + 129)))]) hx hb dL_law_295 hl (by decide) rfl (fun ls hl => ?_)
    refine lv_aload_n hx hb dL_law_297 rfl (lv_at hl 4 rfl) ?_
    refine lv_aload_n hx hb dL_law_298 rfl (lv_at hl 2 rfl) ?_
    refine lv_iload hx hb dL_law_299 (lv_at hl 1 rfl) ?_
    refine g_iconst S 1 dL_law_301 (by decide +kernel) ?_
    refine g_iadd S dL_law_302 ?_
    refine g_sld S hX hsa hsA hS (i + 1) (by omega) hL dL_law_303 ?_
    refine lv_aload_n hx hb dL_law_304 rfl (lv_at hl 2 rfl) ?_
    refine lv_iload hx hb dL_law_305 (lv_at hl 1 rfl) ?_
    refine g_iconst S 2 dL_law_307 (by decide +kernel) ?_
    refine g_iadd S dL_law_308 ?_
    refine g_sld S hX hsa hsA hS (i + 2) (by omega) hL dL_law_309 ?_
    refine lv_aload_n hx hb dL_law_310 rfl (lv_at hl 2 rfl) ?_
    refine lv_iload hx hb dL_law_311 (lv_at hl 1 rfl) ?_
    refine g_iconst S 3 dL_law_313 (by decide +kernel) ?_
    refine g_iadd S dL_law_314 ?_
    refine g_sld S hX hsa hsA hS (i + 3) (by omega) hL dL_law_315 ?_
    refine g_afi (g_runV S hI hP hS (k := 3) (As := [.int (xs (i + 1)), .int (xs (i + 2)), .int (xs (i + 3))]) (rest := []) (mX13_setHeight l (d + 116) g kp svr bfr sd bf sg mk td lv tl sv qc (0 : Nat) qd co wy de ca ln fp sm pa tm S1.1 S1.2.1 S1.2.2.1 S1.2.2.2.1 S1.2.2.2.2.1 S1.2.2.2.2.2.1 S1.2.2.2.2.2.2.1 S1.2.2.2.2.2.2.2.1 S1.2.2.2.2.2.2.2.2.1 S1.2.2.2.2.2.2.2.2.2 (xs (i + 1)) (xs (i + 2)) (xs (i + 3)) hmd2 hrow.1 hrow.2.1.1 hrow.2.1.2.1 hrow.2.1.2.2.1 hrow.2.1.2.2.2.1 hrow.2.1.2.2.2.2 (by decide) (by have := hhis.1; have := hhis.2.1; omega)) q1864 q1865 q1866 q100 q1867 rfl rfl (by decide +kernel) ⟨(Nat.le_trans (Nat.le_of_ble_eq_true rfl : _ ≤ 64) hRf), (Nat.le_trans (Nat.le_of_ble_eq_true rfl : _ ≤ 2000) hRl)⟩ rfl (hmd2.lt 0 (by decide)) (hmd2.2 0 (by decide)) rfl hl.1 rfl (Nat.le_of_ble_eq_true rfl) ⟨by omega, by omega⟩ dL_law_316) hS (fun rz2 w3 H locs hq2 hP hS => ?_)
    obtain ⟨hq2, hfr⟩ := hq2
    rcases hq2 with ⟨hc2, g9, mk9, sd9, k2, u2, qd9, hck2, hr2, hR9, hmd3⟩ | ⟨hc2, hr2, hmd3⟩ | ⟨hc2, hr2, hmd3⟩ | ⟨z2, hz0, hz7, hc2, hr2, hmd3⟩
    · skip
      have hcls3 : clsP E ad N w3 d kk ((cmS 0 k1 u1 S1.1 S1.2.1 S1.2.2.1 S1.2.2.2.1 S1.2.2.2.2.1 S1.2.2.2.2.2.1 S1.2.2.2.2.2.2.1 S1.2.2.2.2.2.2.2.1 S1.2.2.2.2.2.2.2.2.1 S1.2.2.2.2.2.2.2.2.2).2) ((pl + 1) % 8) (min (ct + 1) 8) (va_up K pl (cpS (S1.1, S1.2.1, S1.2.2.1, S1.2.2.2.1, S1.2.2.2.2.1, S1.2.2.2.2.2.1, S1.2.2.2.2.2.2.1, S1.2.2.2.2.2.2.2.1, S1.2.2.2.2.2.2.2.2.1, S1.2.2.2.2.2.2.2.2.2) (K pl))) sv Z fp dq dd dc bf ln tx := hcls2.fr (fun p hp => hfr p (by show ¬ _; (try dsimp only [gIn]); omega))
      have hfo3 := (hfr (d + 128) (by show ¬ _; (try dsimp only [gIn]); omega)).trans hfo2
      have hfd3 := (hfr (d + 129) (by show ¬ _; (try dsimp only [gIn]); omega)).trans hfd2
      have hcs := cmS_one (ht := S1.1) (dr := S1.2.1) (pg := S1.2.2.1) (wt := S1.2.2.2.1) (wr := S1.2.2.2.2.1) (mo := S1.2.2.2.2.2.1) (ni := S1.2.2.2.2.2.2.2.1) (po := S1.2.2.2.2.2.2.2.2.1) (dn := S1.2.2.2.2.2.2.2.2.2) (by decide) hck1 hck2
      rw [← hcs] at hr2 hR9
      rw [if_pos rfl, if_pos rfl] at hmd3
      have hv9 : v1 = rz2 := hv1.trans hr2.symm
      rw [hv9] at hf1
      refine lv_istore (lv' := [(7, .int rz2), (6, .int (nI (0))), (5, .int (nI (i))), (0, .ref (sa)), (1, .ref (ad (d))), (2, .ref (ad (d + 116))), (3, .ref (ad (d + 128))), (4, .ref (ad (d + 129)))]) hx hb dL_law_319 hl (by decide) rfl (fun ls hl => ?_)
      refine lv_aload_n hx hb dL_law_321 rfl (lv_at hl 5 rfl) ?_
      refine g_afi (g_runV S hI hP hS (k := 0) (As := []) (rest := []) (mX13_thrown l _ _ _ _ _ _ _ _ _ _ _ _ _ _ _ _ _ _ _ _ _ _ _ _ _ hmd3) q1860 q1861 q1862 q100 q1863 rfl rfl (by decide +kernel) ⟨(Nat.le_trans (Nat.le_of_ble_eq_true rfl : _ ≤ 64) hRf), (Nat.le_trans (Nat.le_of_ble_eq_true rfl : _ ≤ 2000) hRl)⟩ rfl (hmd3.lt 0 (by decide)) (hmd3.2 0 (by decide)) rfl hl.1 rfl (Nat.le_of_ble_eq_true rfl) ⟨by omega, by omega⟩ dL_law_322) hS (fun rz9 w9 H locs hq9 hP hS => ?_)
      obtain ⟨hr9, hw9⟩ := hq9
      rw [hw9] at hP
      rw [hr9]
      refine lv_iload hx hb dL_law_325 (lv_at hl 1 rfl) ?_
      refine g_eq S (a := 0) (b := 0) (by omega) (by omega) (tgt := 332) dL_law_327 (by decide) (fun hb9 => ?_) (fun hb9 => ?_)
      · refine lv_iload hx hb dL_law_332 (lv_at hl 1 rfl) ?_
        refine g_ifne S (a := 0) (by omega) (tgt := 349) dL_law_334 (by decide) (fun hb8 => ?_) (fun hb8 => ?_)
        · omega
        · refine lv_aload_n hx hb dL_law_337 rfl (lv_at hl 6 rfl) ?_
          refine g_iconst S 0 dL_law_338 (by decide +kernel) ?_
          refine g_lald S hI hP (o := d + 128) (by omega) hfo3 dL_law_339 ?_
          rw [hf1]
          refine lv_iload hx hb dL_law_340 (lv_at hl 0 rfl) ?_
          refine lv_i2l hx hb dL_law_342 rfl ?_
          refine g_lcmpE S dL_law_343 ?_
          refine g_ifeq S (a := 0) (by omega) (tgt := 349) dL_law_344 (by decide) (fun hb7 => ?_) (fun hb7 => ?_)
          · refine lv_goto (tgt := 2997) hx hb dL_law_349 (by decide) ?_
            exact W.widen (k := cells + 234) (n := slots + 2848) (by omega) (by omega) (kk9 ad N _ _ _ _ ⟨_, _, _, _, _, _, _, _, _, _, _, _, _, _, _, _, _, _, _, _, _, _, _, _, _, _, _, _, _, _, _, _, hcls3, hmd3, ⟨_, hfo3⟩, ⟨_, hfd3⟩, ⟨⟨hR9, cmS_q (S := S1) hrow.2.1 (by decide) hck1 (fun _ => by have e9 := cmR_u hc1; rw [hck1.2.2.2.1 (Or.inl rfl), nI_clamp hck1.2.1] at e9; exact e9), Nat.le_trans (cmS_w (S := S1) hck1.1 (fun h => absurd h (by decide))) (by have := hrow.2.2; omega)⟩, (hhis.keep hrow).le (by omega), ⟨hsnp.1, fun z => (hsnp.2.1 z).le (by omega), hsnp.2.2⟩, hDat.2.2.2⟩⟩ hP hS (lv_sub hl [2, 3, 4, 5, 6, 7] rfl))
          · omega
      · exact absurd rfl hb9
    · skip
      exact absurd (hc1.symm.trans hc2) (by decide +kernel)
    · skip
      exact absurd (hc1.symm.trans hc2) (by decide +kernel)
    · skip
      have := nI_7 z2 hz7 0 (by decide) (hc2.symm.trans hc1)
      omega
  · skip
    rw [hrz]
    have hq := hq.resolve_right (fun z => z.elim (fun y => absurd y.1 (by decide)) (fun y => absurd y.1 (by decide)))
    obtain ⟨-, hc1, hfw, hd9, hs9n, hh9⟩ := hq
    have hclsW : clsP E ad N w1 d kk S1 pl ct K sv Z fp dq dd dc bf ln tx := hcls.chg hd9 hs9n hh9 (fun p hp => hfw p (by show ¬ _; (try simp only [gIn]); (try dsimp only); omega))
    have hmdW : bkP N w1 (d + 116) 12 (MDC E ad (d + 116) g kp svr bfr sd bf sg mk td lv tl sv qc (0 : Nat) qd co wy de ca ln fp sm pa tm) := hmd.fr hfw (fun k hk => (by show ¬ _; (try simp only [gIn]); (try dsimp only); omega))
    have hfoW := (hfw (d + 128) (by show ¬ _; (try simp only [gIn]); (try dsimp only); omega)).trans hfo
    have hfdW := (hfw (d + 129) (by show ¬ _; (try simp only [gIn]); (try dsimp only); omega)).trans hfd
    obtain ⟨wb, hwb⟩ : ∃ z, z = w1 := ⟨_, rfl⟩
    rw [← hwb] at hP
    have hcls2 : clsP E ad N wb d kk S1 pl ct K sv Z fp dq dd dc bf ln tx := by rw [hwb]; exact hclsW
    have hmd2 : bkP N wb (d + 116) 12 (MDC E ad (d + 116) g kp svr bfr sd bf sg mk td lv tl sv qc (0 : Nat) qd co wy de ca ln fp sm pa tm) := by rw [hwb]; exact hmdW
    have hfo2 : wb (d + 128) = loE E fo := by rw [hwb]; exact hfoW
    have hfd2 : wb (d + 129) = doE E fd := by rw [hwb]; exact hfdW
    refine lv_istore (lv' := [(6, .int (nI (1))), (5, .int (nI (i))), (0, .ref (sa)), (1, .ref (ad (d))), (2, .ref (ad (d + 116))), (3, .ref (ad (d + 128))), (4, .ref (ad (d + 129)))]) hx hb dL_law_295 hl (by decide) rfl (fun ls hl => ?_)
    refine lv_aload_n hx hb dL_law_297 rfl (lv_at hl 4 rfl) ?_
    refine lv_aload_n hx hb dL_law_298 rfl (lv_at hl 2 rfl) ?_
    refine lv_iload hx hb dL_law_299 (lv_at hl 1 rfl) ?_
    refine g_iconst S 1 dL_law_301 (by decide +kernel) ?_
    refine g_iadd S dL_law_302 ?_
    refine g_sld S hX hsa hsA hS (i + 1) (by omega) hL dL_law_303 ?_
    refine lv_aload_n hx hb dL_law_304 rfl (lv_at hl 2 rfl) ?_
    refine lv_iload hx hb dL_law_305 (lv_at hl 1 rfl) ?_
    refine g_iconst S 2 dL_law_307 (by decide +kernel) ?_
    refine g_iadd S dL_law_308 ?_
    refine g_sld S hX hsa hsA hS (i + 2) (by omega) hL dL_law_309 ?_
    refine lv_aload_n hx hb dL_law_310 rfl (lv_at hl 2 rfl) ?_
    refine lv_iload hx hb dL_law_311 (lv_at hl 1 rfl) ?_
    refine g_iconst S 3 dL_law_313 (by decide +kernel) ?_
    refine g_iadd S dL_law_314 ?_
    refine g_sld S hX hsa hsA hS (i + 3) (by omega) hL dL_law_315 ?_
    refine g_afi (g_runV S hI hP hS (k := 3) (As := [.int (xs (i + 1)), .int (xs (i + 2)), .int (xs (i + 3))]) (rest := []) (mX13_setHeight l (d + 116) g kp svr bfr sd bf sg mk td lv tl sv qc (0 : Nat) qd co wy de ca ln fp sm pa tm S1.1 S1.2.1 S1.2.2.1 S1.2.2.2.1 S1.2.2.2.2.1 S1.2.2.2.2.2.1 S1.2.2.2.2.2.2.1 S1.2.2.2.2.2.2.2.1 S1.2.2.2.2.2.2.2.2.1 S1.2.2.2.2.2.2.2.2.2 (xs (i + 1)) (xs (i + 2)) (xs (i + 3)) hmd2 hrow.1 hrow.2.1.1 hrow.2.1.2.1 hrow.2.1.2.2.1 hrow.2.1.2.2.2.1 hrow.2.1.2.2.2.2 (by decide) (by have := hhis.1; have := hhis.2.1; omega)) q1864 q1865 q1866 q100 q1867 rfl rfl (by decide +kernel) ⟨(Nat.le_trans (Nat.le_of_ble_eq_true rfl : _ ≤ 64) hRf), (Nat.le_trans (Nat.le_of_ble_eq_true rfl : _ ≤ 2000) hRl)⟩ rfl (hmd2.lt 0 (by decide)) (hmd2.2 0 (by decide)) rfl hl.1 rfl (Nat.le_of_ble_eq_true rfl) ⟨by omega, by omega⟩ dL_law_316) hS (fun rz2 w3 H locs hq2 hP hS => ?_)
    obtain ⟨hq2, hfr⟩ := hq2
    rcases hq2 with ⟨hc2, g9, mk9, sd9, k2, u2, qd9, hck2, hr2, hR9, hmd3⟩ | ⟨hc2, hr2, hmd3⟩ | ⟨hc2, hr2, hmd3⟩ | ⟨z2, hz0, hz7, hc2, hr2, hmd3⟩
    · skip
      exact absurd (hc1.symm.trans hc2) (by decide +kernel)
    · skip
      have hcls3 : clsP E ad N w3 d kk S1 pl ct K sv Z fp dq dd dc bf ln tx := hcls2.fr (fun p hp => hfr p (by show ¬ _; (try dsimp only [gIn]); omega))
      have hfo3 := (hfr (d + 128) (by show ¬ _; (try dsimp only [gIn]); omega)).trans hfo2
      have hfd3 := (hfr (d + 129) (by show ¬ _; (try dsimp only [gIn]); omega)).trans hfd2
      refine lv_istore (lv' := [(7, .int rz2), (6, .int (nI (1))), (5, .int (nI (i))), (0, .ref (sa)), (1, .ref (ad (d))), (2, .ref (ad (d + 116))), (3, .ref (ad (d + 128))), (4, .ref (ad (d + 129)))]) hx hb dL_law_319 hl (by decide) rfl (fun ls hl => ?_)
      refine lv_aload_n hx hb dL_law_321 rfl (lv_at hl 5 rfl) ?_
      refine g_afi (g_runV S hI hP hS (k := 0) (As := []) (rest := []) (mX13_thrown l _ _ _ _ _ _ _ _ _ _ _ _ _ _ _ _ _ _ _ _ _ _ _ _ _ hmd3) q1860 q1861 q1862 q100 q1863 rfl rfl (by decide +kernel) ⟨(Nat.le_trans (Nat.le_of_ble_eq_true rfl : _ ≤ 64) hRf), (Nat.le_trans (Nat.le_of_ble_eq_true rfl : _ ≤ 2000) hRl)⟩ rfl (hmd3.lt 0 (by decide)) (hmd3.2 0 (by decide)) rfl hl.1 rfl (Nat.le_of_ble_eq_true rfl) ⟨by omega, by omega⟩ dL_law_322) hS (fun rz9 w9 H locs hq9 hP hS => ?_)
      obtain ⟨hr9, hw9⟩ := hq9
      rw [hw9] at hP
      rw [hr9]
      refine lv_iload hx hb dL_law_325 (lv_at hl 1 rfl) ?_
      refine g_eq S (a := 1) (b := 1) (by omega) (by omega) (tgt := 332) dL_law_327 (by decide) (fun hb9 => ?_) (fun hb9 => ?_)
      · refine lv_iload hx hb dL_law_332 (lv_at hl 1 rfl) ?_
        refine g_ifne S (a := 1) (by omega) (tgt := 349) dL_law_334 (by decide) (fun hb8 => ?_) (fun hb8 => ?_)
        · refine lv_goto (tgt := 2997) hx hb dL_law_349 (by decide) ?_
          exact W.widen (k := cells + 234) (n := slots + 2848) (by omega) (by omega) (kk9 ad N _ _ _ _ ⟨_, _, _, _, _, _, _, _, _, _, _, _, _, _, _, _, _, _, _, _, _, _, _, _, _, _, _, _, _, _, _, _, hcls3, hmd3, ⟨_, hfo3⟩, ⟨_, hfd3⟩, hDat.le (by omega)⟩ hP hS (lv_sub hl [2, 3, 4, 5, 6, 7] rfl))
        · omega
      · exact absurd rfl hb9
    · skip
      exact absurd (hc1.symm.trans hc2) (by decide +kernel)
    · skip
      exact absurd (hc2.symm.trans hc1) (nI_7m1 z2 hz7)
  · skip
    rw [hrz]
    have hq := (hq.resolve_left (fun y => absurd y.1 (by decide))).resolve_right (fun y => absurd y.1 (by decide))
    obtain ⟨-, hc1, hfw, hd9, hs9n, hh9⟩ := hq
    have hclsW : clsP E ad N w1 d kk S1 pl ct K sv Z fp dq dd dc bf ln tx := hcls.chg hd9 hs9n hh9 (fun p hp => hfw p (by show ¬ _; (try simp only [gIn]); (try dsimp only); omega))
    have hmdW : bkP N w1 (d + 116) 12 (MDC E ad (d + 116) g kp svr bfr sd bf sg mk td lv tl sv qc (0 : Nat) qd co wy de ca ln fp sm pa tm) := hmd.fr hfw (fun k hk => (by show ¬ _; (try simp only [gIn]); (try dsimp only); omega))
    have hfoW := (hfw (d + 128) (by show ¬ _; (try simp only [gIn]); (try dsimp only); omega)).trans hfo
    have hfdW := (hfw (d + 129) (by show ¬ _; (try simp only [gIn]); (try dsimp only); omega)).trans hfd
    obtain ⟨wb, hwb⟩ : ∃ z, z = w1 := ⟨_, rfl⟩
    rw [← hwb] at hP
    have hcls2 : clsP E ad N wb d kk S1 pl ct K sv Z fp dq dd dc bf ln tx := by rw [hwb]; exact hclsW
    have hmd2 : bkP N wb (d + 116) 12 (MDC E ad (d + 116) g kp svr bfr sd bf sg mk td lv tl sv qc (0 : Nat) qd co wy de ca ln fp sm pa tm) := by rw [hwb]; exact hmdW
    have hfo2 : wb (d + 128) = loE E fo := by rw [hwb]; exact hfoW
    have hfd2 : wb (d + 129) = doE E fd := by rw [hwb]; exact hfdW
    refine lv_istore (lv' := [(6, .int (nI (2))), (5, .int (nI (i))), (0, .ref (sa)), (1, .ref (ad (d))), (2, .ref (ad (d + 116))), (3, .ref (ad (d + 128))), (4, .ref (ad (d + 129)))]) hx hb dL_law_295 hl (by decide) rfl (fun ls hl => ?_)
    refine lv_aload_n hx hb dL_law_297 rfl (lv_at hl 4 rfl) ?_
    refine lv_aload_n hx hb dL_law_298 rfl (lv_at hl 2 rfl) ?_
    refine lv_iload hx hb dL_law_299 (lv_at hl 1 rfl) ?_
    refine g_iconst S 1 dL_law_301 (by decide +kernel) ?_
    refine g_iadd S dL_law_302 ?_
    refine g_sld S hX hsa hsA hS (i + 1) (by omega) hL dL_law_303 ?_
    refine lv_aload_n hx hb dL_law_304 rfl (lv_at hl 2 rfl) ?_
    refine lv_iload hx hb dL_law_305 (lv_at hl 1 rfl) ?_
    refine g_iconst S 2 dL_law_307 (by decide +kernel) ?_
    refine g_iadd S dL_law_308 ?_
    refine g_sld S hX hsa hsA hS (i + 2) (by omega) hL dL_law_309 ?_
    refine lv_aload_n hx hb dL_law_310 rfl (lv_at hl 2 rfl) ?_
    refine lv_iload hx hb dL_law_311 (lv_at hl 1 rfl) ?_
    refine g_iconst S 3 dL_law_313 (by decide +kernel) ?_
    refine g_iadd S dL_law_314 ?_
    refine g_sld S hX hsa hsA hS (i + 3) (by omega) hL dL_law_315 ?_
    refine g_afi (g_runV S hI hP hS (k := 3) (As := [.int (xs (i + 1)), .int (xs (i + 2)), .int (xs (i + 3))]) (rest := []) (mX13_setHeight l (d + 116) g kp svr bfr sd bf sg mk td lv tl sv qc (0 : Nat) qd co wy de ca ln fp sm pa tm S1.1 S1.2.1 S1.2.2.1 S1.2.2.2.1 S1.2.2.2.2.1 S1.2.2.2.2.2.1 S1.2.2.2.2.2.2.1 S1.2.2.2.2.2.2.2.1 S1.2.2.2.2.2.2.2.2.1 S1.2.2.2.2.2.2.2.2.2 (xs (i + 1)) (xs (i + 2)) (xs (i + 3)) hmd2 hrow.1 hrow.2.1.1 hrow.2.1.2.1 hrow.2.1.2.2.1 hrow.2.1.2.2.2.1 hrow.2.1.2.2.2.2 (by decide) (by have := hhis.1; have := hhis.2.1; omega)) q1864 q1865 q1866 q100 q1867 rfl rfl (by decide +kernel) ⟨(Nat.le_trans (Nat.le_of_ble_eq_true rfl : _ ≤ 64) hRf), (Nat.le_trans (Nat.le_of_ble_eq_true rfl : _ ≤ 2000) hRl)⟩ rfl (hmd2.lt 0 (by decide)) (hmd2.2 0 (by decide)) rfl hl.1 rfl (Nat.le_of_ble_eq_true rfl) ⟨by omega, by omega⟩ dL_law_316) hS (fun rz2 w3 H locs hq2 hP hS => ?_)
    obtain ⟨hq2, hfr⟩ := hq2
    rcases hq2 with ⟨hc2, g9, mk9, sd9, k2, u2, qd9, hck2, hr2, hR9, hmd3⟩ | ⟨hc2, hr2, hmd3⟩ | ⟨hc2, hr2, hmd3⟩ | ⟨z2, hz0, hz7, hc2, hr2, hmd3⟩
    · skip
      exact absurd (hc1.symm.trans hc2) (by decide +kernel)
    · skip
      exact absurd (hc1.symm.trans hc2) (by decide +kernel)
    · skip
      have hcls3 : clsP E ad N w3 d kk S1 pl ct K sv Z fp dq dd dc bf ln tx := hcls2.fr (fun p hp => hfr p (by show ¬ _; (try dsimp only [gIn]); omega))
      have hfo3 := (hfr (d + 128) (by show ¬ _; (try dsimp only [gIn]); omega)).trans hfo2
      have hfd3 := (hfr (d + 129) (by show ¬ _; (try dsimp only [gIn]); omega)).trans hfd2
      refine lv_istore (lv' := [(7, .int rz2), (6, .int (nI (2))), (5, .int (nI (i))), (0, .ref (sa)), (1, .ref (ad (d))), (2, .ref (ad (d + 116))), (3, .ref (ad (d + 128))), (4, .ref (ad (d + 129)))]) hx hb dL_law_319 hl (by decide) rfl (fun ls hl => ?_)
      refine lv_aload_n hx hb dL_law_321 rfl (lv_at hl 5 rfl) ?_
      refine g_afi (g_runV S hI hP hS (k := 0) (As := []) (rest := []) (mX13_thrown l _ _ _ _ _ _ _ _ _ _ _ _ _ _ _ _ _ _ _ _ _ _ _ _ _ hmd3) q1860 q1861 q1862 q100 q1863 rfl rfl (by decide +kernel) ⟨(Nat.le_trans (Nat.le_of_ble_eq_true rfl : _ ≤ 64) hRf), (Nat.le_trans (Nat.le_of_ble_eq_true rfl : _ ≤ 2000) hRl)⟩ rfl (hmd3.lt 0 (by decide)) (hmd3.2 0 (by decide)) rfl hl.1 rfl (Nat.le_of_ble_eq_true rfl) ⟨by omega, by omega⟩ dL_law_322) hS (fun rz9 w9 H locs hq9 hP hS => ?_)
      obtain ⟨hr9, hw9⟩ := hq9
      rw [hw9] at hP
      rw [hr9]
      refine lv_iload hx hb dL_law_325 (lv_at hl 1 rfl) ?_
      refine g_eq S (a := 2) (b := 2) (by omega) (by omega) (tgt := 332) dL_law_327 (by decide) (fun hb9 => ?_) (fun hb9 => ?_)
      · refine lv_iload hx hb dL_law_332 (lv_at hl 1 rfl) ?_
        refine g_ifne S (a := 2) (by omega) (tgt := 349) dL_law_334 (by decide) (fun hb8 => ?_) (fun hb8 => ?_)
        · refine lv_goto (tgt := 2997) hx hb dL_law_349 (by decide) ?_
          exact W.widen (k := cells + 234) (n := slots + 2848) (by omega) (by omega) (kk9 ad N _ _ _ _ ⟨_, _, _, _, _, _, _, _, _, _, _, _, _, _, _, _, _, _, _, _, _, _, _, _, _, _, _, _, _, _, _, _, hcls3, hmd3, ⟨_, hfo3⟩, ⟨_, hfd3⟩, hDat.le (by omega)⟩ hP hS (lv_sub hl [2, 3, 4, 5, 6, 7] rfl))
        · omega
      · exact absurd rfl hb9
    · skip
      exact absurd (hc2.symm.trans hc1) (nI_7m2 z2 hz7)
  · skip
    rw [hrz]
    have hq := (hq.resolve_left (fun y => absurd y.1 (by decide))).resolve_left (fun y => absurd y.1 (by decide))
    obtain ⟨-, n1, hn0, hn7, hc1, hd9, hs9n, hh9, hfw⟩ := hq
    have hclsW : clsP E ad N w1 d kk S1 pl ct K sv Z fp (some n1) (cmT S1.2.2.1 S1.2.2.2.2.1 S1.2.2.2.2.2.1 S1.2.2.2.2.2.2.1 n1 (cellV (xs (i + 1)) (xs (i + 2))) (xs (i + 3))) none bf ln tx := hcls.chg hd9 hs9n hh9 (fun p hp => hfw p (by show ¬ _; (try simp only [gIn]); (try dsimp only); omega))
    have hmdW : bkP N w1 (d + 116) 12 (MDC E ad (d + 116) g kp svr bfr sd bf sg mk td lv tl sv qc (0 : Nat) qd co wy de ca ln fp sm pa tm) := hmd.fr hfw (fun k hk => (by show ¬ _; (try simp only [gIn]); (try dsimp only); omega))
    have hfoW := (hfw (d + 128) (by show ¬ _; (try simp only [gIn]); (try dsimp only); omega)).trans hfo
    have hfdW := (hfw (d + 129) (by show ¬ _; (try simp only [gIn]); (try dsimp only); omega)).trans hfd
    obtain ⟨wb, hwb⟩ : ∃ z, z = w1 := ⟨_, rfl⟩
    rw [← hwb] at hP
    have hcls2 : clsP E ad N wb d kk S1 pl ct K sv Z fp (some n1) (cmT S1.2.2.1 S1.2.2.2.2.1 S1.2.2.2.2.2.1 S1.2.2.2.2.2.2.1 n1 (cellV (xs (i + 1)) (xs (i + 2))) (xs (i + 3))) none bf ln tx := by rw [hwb]; exact hclsW
    have hmd2 : bkP N wb (d + 116) 12 (MDC E ad (d + 116) g kp svr bfr sd bf sg mk td lv tl sv qc (0 : Nat) qd co wy de ca ln fp sm pa tm) := by rw [hwb]; exact hmdW
    have hfo2 : wb (d + 128) = loE E fo := by rw [hwb]; exact hfoW
    have hfd2 : wb (d + 129) = doE E fd := by rw [hwb]; exact hfdW
    refine lv_istore (lv' := [(6, .int (nI (3))), (5, .int (nI (i))), (0, .ref (sa)), (1, .ref (ad (d))), (2, .ref (ad (d + 116))), (3, .ref (ad (d + 128))), (4, .ref (ad (d + 129)))]) hx hb dL_law_295 hl (by decide) rfl (fun ls hl => ?_)
    refine lv_aload_n hx hb dL_law_297 rfl (lv_at hl 4 rfl) ?_
    refine lv_aload_n hx hb dL_law_298 rfl (lv_at hl 2 rfl) ?_
    refine lv_iload hx hb dL_law_299 (lv_at hl 1 rfl) ?_
    refine g_iconst S 1 dL_law_301 (by decide +kernel) ?_
    refine g_iadd S dL_law_302 ?_
    refine g_sld S hX hsa hsA hS (i + 1) (by omega) hL dL_law_303 ?_
    refine lv_aload_n hx hb dL_law_304 rfl (lv_at hl 2 rfl) ?_
    refine lv_iload hx hb dL_law_305 (lv_at hl 1 rfl) ?_
    refine g_iconst S 2 dL_law_307 (by decide +kernel) ?_
    refine g_iadd S dL_law_308 ?_
    refine g_sld S hX hsa hsA hS (i + 2) (by omega) hL dL_law_309 ?_
    refine lv_aload_n hx hb dL_law_310 rfl (lv_at hl 2 rfl) ?_
    refine lv_iload hx hb dL_law_311 (lv_at hl 1 rfl) ?_
    refine g_iconst S 3 dL_law_313 (by decide +kernel) ?_
    refine g_iadd S dL_law_314 ?_
    refine g_sld S hX hsa hsA hS (i + 3) (by omega) hL dL_law_315 ?_
    refine g_afi (g_runV S hI hP hS (k := 3) (As := [.int (xs (i + 1)), .int (xs (i + 2)), .int (xs (i + 3))]) (rest := []) (mX13_setHeight l (d + 116) g kp svr bfr sd bf sg mk td lv tl sv qc (0 : Nat) qd co wy de ca ln fp sm pa tm S1.1 S1.2.1 S1.2.2.1 S1.2.2.2.1 S1.2.2.2.2.1 S1.2.2.2.2.2.1 S1.2.2.2.2.2.2.1 S1.2.2.2.2.2.2.2.1 S1.2.2.2.2.2.2.2.2.1 S1.2.2.2.2.2.2.2.2.2 (xs (i + 1)) (xs (i + 2)) (xs (i + 3)) hmd2 hrow.1 hrow.2.1.1 hrow.2.1.2.1 hrow.2.1.2.2.1 hrow.2.1.2.2.2.1 hrow.2.1.2.2.2.2 (by decide) (by have := hhis.1; have := hhis.2.1; omega)) q1864 q1865 q1866 q100 q1867 rfl rfl (by decide +kernel) ⟨(Nat.le_trans (Nat.le_of_ble_eq_true rfl : _ ≤ 64) hRf), (Nat.le_trans (Nat.le_of_ble_eq_true rfl : _ ≤ 2000) hRl)⟩ rfl (hmd2.lt 0 (by decide)) (hmd2.2 0 (by decide)) rfl hl.1 rfl (Nat.le_of_ble_eq_true rfl) ⟨by omega, by omega⟩ dL_law_316) hS (fun rz2 w3 H locs hq2 hP hS => ?_)
    obtain ⟨hq2, hfr⟩ := hq2
    rcases hq2 with ⟨hc2, g9, mk9, sd9, k2, u2, qd9, hck2, hr2, hR9, hmd3⟩ | ⟨hc2, hr2, hmd3⟩ | ⟨hc2, hr2, hmd3⟩ | ⟨z2, hz0, hz7, hc2, hr2, hmd3⟩
    · skip
      have := nI_7 n1 hn7 0 (by decide) (hc1.symm.trans hc2)
      omega
    · skip
      exact absurd (hc1.symm.trans hc2) (nI_7m1 n1 hn7)
    · skip
      exact absurd (hc1.symm.trans hc2) (nI_7m2 n1 hn7)
    · skip
      have hcls3 : clsP E ad N w3 d kk S1 pl ct K sv Z fp (some n1) (cmT S1.2.2.1 S1.2.2.2.2.1 S1.2.2.2.2.2.1 S1.2.2.2.2.2.2.1 n1 (cellV (xs (i + 1)) (xs (i + 2))) (xs (i + 3))) none bf ln tx := hcls2.fr (fun p hp => hfr p (by show ¬ _; (try dsimp only [gIn]); omega))
      have hfo3 := (hfr (d + 128) (by show ¬ _; (try dsimp only [gIn]); omega)).trans hfo2
      have hfd3 := (hfr (d + 129) (by show ¬ _; (try dsimp only [gIn]); omega)).trans hfd2
      have hnz := nI_7 n1 hn7 z2 hz7 (hc1.symm.trans hc2)
      refine lv_istore (lv' := [(7, .int rz2), (6, .int (nI (3))), (5, .int (nI (i))), (0, .ref (sa)), (1, .ref (ad (d))), (2, .ref (ad (d + 116))), (3, .ref (ad (d + 128))), (4, .ref (ad (d + 129)))]) hx hb dL_law_319 hl (by decide) rfl (fun ls hl => ?_)
      refine lv_aload_n hx hb dL_law_321 rfl (lv_at hl 5 rfl) ?_
      refine g_afi (g_runV S hI hP hS (k := 0) (As := []) (rest := []) (mX13_thrown l _ _ _ _ _ _ _ _ _ _ _ _ _ _ _ _ _ _ _ _ _ _ _ _ _ hmd3) q1860 q1861 q1862 q100 q1863 rfl rfl (by decide +kernel) ⟨(Nat.le_trans (Nat.le_of_ble_eq_true rfl : _ ≤ 64) hRf), (Nat.le_trans (Nat.le_of_ble_eq_true rfl : _ ≤ 2000) hRl)⟩ rfl (hmd3.lt 0 (by decide)) (hmd3.2 0 (by decide)) rfl hl.1 rfl (Nat.le_of_ble_eq_true rfl) ⟨by omega, by omega⟩ dL_law_322) hS (fun rz9 w9 H locs hq9 hP hS => ?_)
      obtain ⟨hr9, hw9⟩ := hq9
      rw [hw9] at hP
      rw [hr9]
      refine lv_iload hx hb dL_law_325 (lv_at hl 1 rfl) ?_
      refine g_eq S (a := 3) (b := 3) (by omega) (by omega) (tgt := 332) dL_law_327 (by decide) (fun hb9 => ?_) (fun hb9 => ?_)
      · refine lv_iload hx hb dL_law_332 (lv_at hl 1 rfl) ?_
        refine g_ifne S (a := 3) (by omega) (tgt := 349) dL_law_334 (by decide) (fun hb8 => ?_) (fun hb8 => ?_)
        · refine lv_goto (tgt := 2997) hx hb dL_law_349 (by decide) ?_
          exact W.widen (k := cells + 234) (n := slots + 2848) (by omega) (by omega) (kk9 ad N _ _ _ _ ⟨_, _, _, _, _, _, _, _, _, _, _, _, _, _, _, _, _, _, _, _, _, _, _, _, _, _, _, _, _, _, _, _, hcls3, hmd3, ⟨_, hfo3⟩, ⟨_, hfd3⟩, lawD.le (B := B) ⟨hrow, hhis, hsnp, den_new hz0 hz7 hnz (by rw [hnz]), hDat.2.2.2.2⟩ (by omega)⟩ hP hS (lv_sub hl [2, 3, 4, 5, 6, 7] rfl))
        · omega
      · exact absurd rfl hb9
set_option maxHeartbeats 4000000 in
set_option maxRecDepth 100000 in
/-- the law's case 1: peg -/
theorem lc_1 (kk : Nat → Nat) (hlt : l.stackTraces = false) (hz : gHx E) (hzv : gHv E kk) (hn : gHn E) (S : gFix p m c cL_law 10 s args RL) (hI : gI E s s.heap) (hP : gP E ad N w H) (hS : va_S (gA E) s.heap H locs) (hRf : 64 ≤ R.frames) (hRl : 2000 ≤ R.locals) (hRc : cells + 234 ≤ R.cells) (hRs : slots + 2848 ≤ R.slots) {d B i sa L : Nat} {xs : Nat → Int32} (hB : B ≤ 600000) (hinv : lawP E kk ad N w d B) (hX : va_X sa L xs s s.heap) (hsa : sa < s.heap.size) (hsA : ¬ gA E sa) (hi : i + 5 ≤ L) (hL : L < 2 ^ 31) (hl : lv_has ls 10 [(5, .int (nI (i))), (0, .ref (sa)), (1, .ref (ad (d))), (2, .ref (ad (d + 116))), (3, .ref (ad (d + 128))), (4, .ref (ad (d + 129)))])
    (kk9 : ∀ (ad' : Nat → Nat) (N' : Nat) (w' : Nat → va_E) (H' : Heap) (locs' : List Loc) (ls' : Array Slot), lawP E kk ad' N' w' d (B + 1000) → gP E ad' N' w' H' → va_S (gA E) s.heap H' locs' → lv_has ls' 10 [(5, .int (nI (i))), (0, .ref (sa)), (1, .ref (ad' (d))), (2, .ref (ad' (d + 116))), (3, .ref (ad' (d + 128))), (4, .ref (ad' (d + 129)))] → W p l e R s m args below meth c H' locs' (cells + 234) (slots + 2848) Q (F0 m 2997 ls' [])) :
    W p l e R s m args below meth c H locs cells slots Q (F0 m 352 ls []) := by
  have hx := S.1
  have hb := S.2.1
  obtain ⟨S1, pl, ct, K, sv, Z, fp, dq, dd, dc, bf, ln, tx, g, kp, svr, bfr, sd, sg, mk, td, lv, tl, qc, qd, co, wy, de, ca, sm, pa, tm, hcls, hmd, ⟨fo, hfo⟩, ⟨fd, hfd⟩, hDat⟩ := hinv
  obtain ⟨hdN, ⟨hbd, hbs, hbz, ⟨A0, hba⟩, ⟨T0, hbt⟩, hhs⟩, hscr, hprs, hsb⟩ := id hcls
  obtain ⟨hrow, hhis, hsnp, hden, hbuf, hlin, hfp⟩ := id hDat
  obtain ⟨hs1, ⟨re, ce, rc, tc, hs2⟩, ⟨pa0, hs3⟩, ⟨ra, rk, hs4⟩, hs5, ⟨wa, ke, hs6, hs6a, hs6b⟩, ⟨lv0, hs7⟩, ⟨pn, hs8⟩, ⟨wa2, ke2, hs9, hs9a, hs9b⟩, ⟨re2, ce2, rc2, tc2, hs10⟩, ⟨pa2, hs11⟩, ⟨lv2, hs12⟩, ⟨pq, hs13⟩⟩ := id hscr
  refine lv_aload_n hx hb dL_law_352 rfl (lv_at hl 2 rfl) ?_
  refine lv_aload_n hx hb dL_law_353 rfl (lv_at hl 1 rfl) ?_
  refine lv_iload hx hb dL_law_354 (lv_at hl 0 rfl) ?_
  refine g_iconst S 1 dL_law_356 (by decide +kernel) ?_
  refine g_iadd S dL_law_357 ?_
  refine g_sld S hX hsa hsA hS (i + 1) (by omega) hL dL_law_358 ?_
  refine lv_aload_n hx hb dL_law_359 rfl (lv_at hl 1 rfl) ?_
  refine lv_iload hx hb dL_law_360 (lv_at hl 0 rfl) ?_
  refine g_iconst S 2 dL_law_362 (by decide +kernel) ?_
  refine g_iadd S dL_law_363 ?_
  refine g_sld S hX hsa hsA hS (i + 2) (by omega) hL dL_law_364 ?_
  refine lv_aload_n hx hb dL_law_365 rfl (lv_at hl 4 rfl) ?_
  refine g_afi (g_runSW S hI hP hS (hh := [(0, 10, 13, 13), (0, 10, 17, 17)]) (k := 4) (As := [.ref (ad (d)), .int (xs (i + 1)), .int (xs (i + 2)), .ref (ad (d + 128))]) (rest := []) (mL_peg l d (d + 128) (xs (i + 1)) (xs (i + 2)) hz hn (hbd.lt 0 (by decide)) (hbd.2 0 (by decide)) (mX12_peg l kk hzv d sv fp dq dd dc S1.1 S1.2.1 S1.2.2.1 S1.2.2.2.1 S1.2.2.2.2.1 S1.2.2.2.2.2.1 S1.2.2.2.2.2.2.1 S1.2.2.2.2.2.2.2.1 S1.2.2.2.2.2.2.2.2.1 S1.2.2.2.2.2.2.2.2.2 pl ct K (xs (i + 1)) (xs (i + 2)) hbd hbs hlt hz (by omega) hhs hhis.2.2.1 hhis.2.1 hrow.2.1.1 hrow.2.1.2.1 hrow.2.1.2.2.1 hrow.2.1.2.2.2.1 hrow.2.1.2.2.2.2) (by omega) (fun r w' h => (by obtain ⟨k9, u9, -, -, -, -, -, -, hfw⟩ := h; exact ⟨fo, (hfw (d + 128) (by show ¬ _; (try simp only [gIn]); (try dsimp only); omega)).trans hfo⟩)) (fun xc w' h => h.elim (fun z => Or.inl z.1) (fun h => h.elim (fun z => absurd z.2.1 (cmR_n2 (by decide) (by decide))) (fun z => Or.inr (z.1))))) q844 q845 q81 q846 rfl rfl (by decide +kernel) ⟨(Nat.le_trans (Nat.le_of_ble_eq_true rfl : _ ≤ 64) hRf), (Nat.le_trans (Nat.le_of_ble_eq_true rfl : _ ≤ 2000) hRl)⟩ rfl hl.1 rfl (Nat.le_of_ble_eq_true rfl) ⟨by omega, by omega⟩ dL_law_366) hS (fun rz w1 H locs hq hP hS => ?_)
  rcases hq with ⟨v1, f1, w2, hrz, hf1, hw2, hq⟩ | ⟨hrz, hq⟩ | ⟨hrz, hq⟩
  · skip
    rw [hw2] at hP
    rw [hrz]
    obtain ⟨k1, u1, hck1, hc1, hv1, hs9n, hh9, hd9, hfw⟩ := hq
    have hclsW : clsP E ad N w2 d kk ((cmS 1 k1 u1 S1.1 S1.2.1 S1.2.2.1 S1.2.2.2.1 S1.2.2.2.2.1 S1.2.2.2.2.2.1 S1.2.2.2.2.2.2.1 S1.2.2.2.2.2.2.2.1 S1.2.2.2.2.2.2.2.2.1 S1.2.2.2.2.2.2.2.2.2).2) ((pl + 1) % 8) (min (ct + 1) 8) (va_up K pl (cpS (S1.1, S1.2.1, S1.2.2.1, S1.2.2.2.1, S1.2.2.2.2.1, S1.2.2.2.2.2.1, S1.2.2.2.2.2.2.1, S1.2.2.2.2.2.2.2.1, S1.2.2.2.2.2.2.2.2.1, S1.2.2.2.2.2.2.2.2.2) (K pl))) sv Z fp dq dd dc bf ln tx := hcls.chg hd9 hs9n hh9 (fun p hp => hfw p (by show ¬ _; (try simp only [gIn]); (try dsimp only); omega))
    have hmdW : bkP N w2 (d + 116) 12 (MDC E ad (d + 116) g kp svr bfr sd bf sg mk td lv tl sv qc (0 : Nat) qd co wy de ca ln fp sm pa tm) := hmd.fr hfw (fun k hk => (by show ¬ _; (try simp only [gIn]); (try dsimp only); omega))
    have hfoW := (hfw (d + 128) (by show ¬ _; (try simp only [gIn]); (try dsimp only); omega)).trans hfo
    have hfdW := (hfw (d + 129) (by show ¬ _; (try simp only [gIn]); (try dsimp only); omega)).trans hfd
    obtain ⟨wb, hwb⟩ : ∃ z, z = va_up w2 (d + 128) (loE E f1) := ⟨_, rfl⟩
    rw [← hwb] at hP
    have hcls2 : clsP E ad N wb d kk ((cmS 1 k1 u1 S1.1 S1.2.1 S1.2.2.1 S1.2.2.2.1 S1.2.2.2.2.1 S1.2.2.2.2.2.1 S1.2.2.2.2.2.2.1 S1.2.2.2.2.2.2.2.1 S1.2.2.2.2.2.2.2.2.1 S1.2.2.2.2.2.2.2.2.2).2) ((pl + 1) % 8) (min (ct + 1) 8) (va_up K pl (cpS (S1.1, S1.2.1, S1.2.2.1, S1.2.2.2.1, S1.2.2.2.2.1, S1.2.2.2.2.2.1, S1.2.2.2.2.2.2.1, S1.2.2.2.2.2.2.2.1, S1.2.2.2.2.2.2.2.2.1, S1.2.2.2.2.2.2.2.2.2) (K pl))) sv Z fp dq dd dc bf ln tx := hclsW.fr (fun p hp => by rw [hwb, va_up_ne _ _ (by omega)])
    have hmd2 : bkP N wb (d + 116) 12 (MDC E ad (d + 116) g kp svr bfr sd bf sg mk td lv tl sv qc (0 : Nat) qd co wy de ca ln fp sm pa tm) := by rw [hwb]; exact hmdW.keep (by omega)
    have hfo2 : wb (d + 128) = loE E f1 := by rw [hwb, va_up_self]
    have hfd2 : wb (d + 129) = doE E fd := by rw [hwb, va_up_ne _ _ (by omega)]; exact hfdW
    refine lv_istore (lv' := [(6, .int (nI (0))), (5, .int (nI (i))), (0, .ref (sa)), (1, .ref (ad (d))), (2, .ref (ad (d + 116))), (3, .ref (ad (d + 128))), (4, .ref (ad (d + 129)))]) hx hb dL_law_369 hl (by decide) rfl (fun ls hl => ?_)
    refine lv_aload_n hx hb dL_law_371 rfl (lv_at hl 4 rfl) ?_
    refine lv_aload_n hx hb dL_law_372 rfl (lv_at hl 2 rfl) ?_
    refine lv_iload hx hb dL_law_373 (lv_at hl 1 rfl) ?_
    refine g_iconst S 1 dL_law_375 (by decide +kernel) ?_
    refine g_iadd S dL_law_376 ?_
    refine g_sld S hX hsa hsA hS (i + 1) (by omega) hL dL_law_377 ?_
    refine lv_aload_n hx hb dL_law_378 rfl (lv_at hl 2 rfl) ?_
    refine lv_iload hx hb dL_law_379 (lv_at hl 1 rfl) ?_
    refine g_iconst S 2 dL_law_381 (by decide +kernel) ?_
    refine g_iadd S dL_law_382 ?_
    refine g_sld S hX hsa hsA hS (i + 2) (by omega) hL dL_law_383 ?_
    refine g_afi (g_runV S hI hP hS (k := 2) (As := [.int (xs (i + 1)), .int (xs (i + 2))]) (rest := []) (mX13_peg l (d + 116) g kp svr bfr sd bf sg mk td lv tl sv qc (0 : Nat) qd co wy de ca ln fp sm pa tm S1.1 S1.2.1 S1.2.2.1 S1.2.2.2.1 S1.2.2.2.2.1 S1.2.2.2.2.2.1 S1.2.2.2.2.2.2.1 S1.2.2.2.2.2.2.2.1 S1.2.2.2.2.2.2.2.2.1 S1.2.2.2.2.2.2.2.2.2 (xs (i + 1)) (xs (i + 2)) hmd2 hrow.1 hrow.2.1.1 hrow.2.1.2.1 hrow.2.1.2.2.1 hrow.2.1.2.2.2.1 hrow.2.1.2.2.2.2 (by decide) (by have := hhis.1; have := hhis.2.1; omega)) q1897 q1898 q1899 q100 q1900 rfl rfl (by decide +kernel) ⟨(Nat.le_trans (Nat.le_of_ble_eq_true rfl : _ ≤ 64) hRf), (Nat.le_trans (Nat.le_of_ble_eq_true rfl : _ ≤ 2000) hRl)⟩ rfl (hmd2.lt 0 (by decide)) (hmd2.2 0 (by decide)) rfl hl.1 rfl (Nat.le_of_ble_eq_true rfl) ⟨by omega, by omega⟩ dL_law_384) hS (fun rz2 w3 H locs hq2 hP hS => ?_)
    obtain ⟨hq2, hfr⟩ := hq2
    rcases hq2 with ⟨hc2, g9, mk9, sd9, k2, u2, qd9, hck2, hr2, hR9, hmd3⟩ | ⟨hc2, hr2, hmd3⟩ | ⟨hc2, hr2, hmd3⟩ | ⟨z2, hz0, hz7, hc2, hr2, hmd3⟩
    · skip
      have hcls3 : clsP E ad N w3 d kk ((cmS 1 k1 u1 S1.1 S1.2.1 S1.2.2.1 S1.2.2.2.1 S1.2.2.2.2.1 S1.2.2.2.2.2.1 S1.2.2.2.2.2.2.1 S1.2.2.2.2.2.2.2.1 S1.2.2.2.2.2.2.2.2.1 S1.2.2.2.2.2.2.2.2.2).2) ((pl + 1) % 8) (min (ct + 1) 8) (va_up K pl (cpS (S1.1, S1.2.1, S1.2.2.1, S1.2.2.2.1, S1.2.2.2.2.1, S1.2.2.2.2.2.1, S1.2.2.2.2.2.2.1, S1.2.2.2.2.2.2.2.1, S1.2.2.2.2.2.2.2.2.1, S1.2.2.2.2.2.2.2.2.2) (K pl))) sv Z fp dq dd dc bf ln tx := hcls2.fr (fun p hp => hfr p (by show ¬ _; (try dsimp only [gIn]); omega))
      have hfo3 := (hfr (d + 128) (by show ¬ _; (try dsimp only [gIn]); omega)).trans hfo2
      have hfd3 := (hfr (d + 129) (by show ¬ _; (try dsimp only [gIn]); omega)).trans hfd2
      have hcs := cmS_one (ht := S1.1) (dr := S1.2.1) (pg := S1.2.2.1) (wt := S1.2.2.2.1) (wr := S1.2.2.2.2.1) (mo := S1.2.2.2.2.2.1) (ni := S1.2.2.2.2.2.2.2.1) (po := S1.2.2.2.2.2.2.2.2.1) (dn := S1.2.2.2.2.2.2.2.2.2) (by decide) hck1 hck2
      rw [← hcs] at hr2 hR9
      rw [if_pos rfl, if_pos rfl] at hmd3
      have hv9 : v1 = rz2 := hv1.trans hr2.symm
      rw [hv9] at hf1
      refine lv_istore (lv' := [(7, .int rz2), (6, .int (nI (0))), (5, .int (nI (i))), (0, .ref (sa)), (1, .ref (ad (d))), (2, .ref (ad (d + 116))), (3, .ref (ad (d + 128))), (4, .ref (ad (d + 129)))]) hx hb dL_law_387 hl (by decide) rfl (fun ls hl => ?_)
      refine lv_aload_n hx hb dL_law_389 rfl (lv_at hl 5 rfl) ?_
      refine g_afi (g_runV S hI hP hS (k := 0) (As := []) (rest := []) (mX13_thrown l _ _ _ _ _ _ _ _ _ _ _ _ _ _ _ _ _ _ _ _ _ _ _ _ _ hmd3) q1860 q1861 q1862 q100 q1863 rfl rfl (by decide +kernel) ⟨(Nat.le_trans (Nat.le_of_ble_eq_true rfl : _ ≤ 64) hRf), (Nat.le_trans (Nat.le_of_ble_eq_true rfl : _ ≤ 2000) hRl)⟩ rfl (hmd3.lt 0 (by decide)) (hmd3.2 0 (by decide)) rfl hl.1 rfl (Nat.le_of_ble_eq_true rfl) ⟨by omega, by omega⟩ dL_law_390) hS (fun rz9 w9 H locs hq9 hP hS => ?_)
      obtain ⟨hr9, hw9⟩ := hq9
      rw [hw9] at hP
      rw [hr9]
      refine lv_iload hx hb dL_law_393 (lv_at hl 1 rfl) ?_
      refine g_eq S (a := 0) (b := 0) (by omega) (by omega) (tgt := 400) dL_law_395 (by decide) (fun hb9 => ?_) (fun hb9 => ?_)
      · refine lv_iload hx hb dL_law_400 (lv_at hl 1 rfl) ?_
        refine g_ifne S (a := 0) (by omega) (tgt := 417) dL_law_402 (by decide) (fun hb8 => ?_) (fun hb8 => ?_)
        · omega
        · refine lv_aload_n hx hb dL_law_405 rfl (lv_at hl 6 rfl) ?_
          refine g_iconst S 0 dL_law_406 (by decide +kernel) ?_
          refine g_lald S hI hP (o := d + 128) (by omega) hfo3 dL_law_407 ?_
          rw [hf1]
          refine lv_iload hx hb dL_law_408 (lv_at hl 0 rfl) ?_
          refine lv_i2l hx hb dL_law_410 rfl ?_
          refine g_lcmpE S dL_law_411 ?_
          refine g_ifeq S (a := 0) (by omega) (tgt := 417) dL_law_412 (by decide) (fun hb7 => ?_) (fun hb7 => ?_)
          · refine lv_goto (tgt := 2997) hx hb dL_law_417 (by decide) ?_
            exact W.widen (k := cells + 234) (n := slots + 2848) (by omega) (by omega) (kk9 ad N _ _ _ _ ⟨_, _, _, _, _, _, _, _, _, _, _, _, _, _, _, _, _, _, _, _, _, _, _, _, _, _, _, _, _, _, _, _, hcls3, hmd3, ⟨_, hfo3⟩, ⟨_, hfd3⟩, ⟨⟨hR9, cmS_q (S := S1) hrow.2.1 (by decide) hck1 (fun h => absurd h (by decide)), Nat.le_trans (cmS_w (S := S1) hck1.1 (fun h => absurd h (by decide))) (by have := hrow.2.2; omega)⟩, (hhis.keep hrow).le (by omega), ⟨hsnp.1, fun z => (hsnp.2.1 z).le (by omega), hsnp.2.2⟩, hDat.2.2.2⟩⟩ hP hS (lv_sub hl [2, 3, 4, 5, 6, 7] rfl))
          · omega
      · exact absurd rfl hb9
    · skip
      exact absurd (hc1.symm.trans hc2) (by decide +kernel)
    · skip
      exact absurd (hc1.symm.trans hc2) (by decide +kernel)
    · skip
      have := nI_7 z2 hz7 0 (by decide) (hc2.symm.trans hc1)
      omega
  · skip
    rw [hrz]
    have hq := hq.resolve_right (fun z => z.elim (fun y => absurd y.1 (by decide)) (fun y => absurd y.1 (by decide)))
    obtain ⟨-, hc1, hfw, hd9, hs9n, hh9⟩ := hq
    have hclsW : clsP E ad N w1 d kk S1 pl ct K sv Z fp dq dd dc bf ln tx := hcls.chg hd9 hs9n hh9 (fun p hp => hfw p (by show ¬ _; (try simp only [gIn]); (try dsimp only); omega))
    have hmdW : bkP N w1 (d + 116) 12 (MDC E ad (d + 116) g kp svr bfr sd bf sg mk td lv tl sv qc (0 : Nat) qd co wy de ca ln fp sm pa tm) := hmd.fr hfw (fun k hk => (by show ¬ _; (try simp only [gIn]); (try dsimp only); omega))
    have hfoW := (hfw (d + 128) (by show ¬ _; (try simp only [gIn]); (try dsimp only); omega)).trans hfo
    have hfdW := (hfw (d + 129) (by show ¬ _; (try simp only [gIn]); (try dsimp only); omega)).trans hfd
    obtain ⟨wb, hwb⟩ : ∃ z, z = w1 := ⟨_, rfl⟩
    rw [← hwb] at hP
    have hcls2 : clsP E ad N wb d kk S1 pl ct K sv Z fp dq dd dc bf ln tx := by rw [hwb]; exact hclsW
    have hmd2 : bkP N wb (d + 116) 12 (MDC E ad (d + 116) g kp svr bfr sd bf sg mk td lv tl sv qc (0 : Nat) qd co wy de ca ln fp sm pa tm) := by rw [hwb]; exact hmdW
    have hfo2 : wb (d + 128) = loE E fo := by rw [hwb]; exact hfoW
    have hfd2 : wb (d + 129) = doE E fd := by rw [hwb]; exact hfdW
    refine lv_istore (lv' := [(6, .int (nI (1))), (5, .int (nI (i))), (0, .ref (sa)), (1, .ref (ad (d))), (2, .ref (ad (d + 116))), (3, .ref (ad (d + 128))), (4, .ref (ad (d + 129)))]) hx hb dL_law_369 hl (by decide) rfl (fun ls hl => ?_)
    refine lv_aload_n hx hb dL_law_371 rfl (lv_at hl 4 rfl) ?_
    refine lv_aload_n hx hb dL_law_372 rfl (lv_at hl 2 rfl) ?_
    refine lv_iload hx hb dL_law_373 (lv_at hl 1 rfl) ?_
    refine g_iconst S 1 dL_law_375 (by decide +kernel) ?_
    refine g_iadd S dL_law_376 ?_
    refine g_sld S hX hsa hsA hS (i + 1) (by omega) hL dL_law_377 ?_
    refine lv_aload_n hx hb dL_law_378 rfl (lv_at hl 2 rfl) ?_
    refine lv_iload hx hb dL_law_379 (lv_at hl 1 rfl) ?_
    refine g_iconst S 2 dL_law_381 (by decide +kernel) ?_
    refine g_iadd S dL_law_382 ?_
    refine g_sld S hX hsa hsA hS (i + 2) (by omega) hL dL_law_383 ?_
    refine g_afi (g_runV S hI hP hS (k := 2) (As := [.int (xs (i + 1)), .int (xs (i + 2))]) (rest := []) (mX13_peg l (d + 116) g kp svr bfr sd bf sg mk td lv tl sv qc (0 : Nat) qd co wy de ca ln fp sm pa tm S1.1 S1.2.1 S1.2.2.1 S1.2.2.2.1 S1.2.2.2.2.1 S1.2.2.2.2.2.1 S1.2.2.2.2.2.2.1 S1.2.2.2.2.2.2.2.1 S1.2.2.2.2.2.2.2.2.1 S1.2.2.2.2.2.2.2.2.2 (xs (i + 1)) (xs (i + 2)) hmd2 hrow.1 hrow.2.1.1 hrow.2.1.2.1 hrow.2.1.2.2.1 hrow.2.1.2.2.2.1 hrow.2.1.2.2.2.2 (by decide) (by have := hhis.1; have := hhis.2.1; omega)) q1897 q1898 q1899 q100 q1900 rfl rfl (by decide +kernel) ⟨(Nat.le_trans (Nat.le_of_ble_eq_true rfl : _ ≤ 64) hRf), (Nat.le_trans (Nat.le_of_ble_eq_true rfl : _ ≤ 2000) hRl)⟩ rfl (hmd2.lt 0 (by decide)) (hmd2.2 0 (by decide)) rfl hl.1 rfl (Nat.le_of_ble_eq_true rfl) ⟨by omega, by omega⟩ dL_law_384) hS (fun rz2 w3 H locs hq2 hP hS => ?_)
    obtain ⟨hq2, hfr⟩ := hq2
    rcases hq2 with ⟨hc2, g9, mk9, sd9, k2, u2, qd9, hck2, hr2, hR9, hmd3⟩ | ⟨hc2, hr2, hmd3⟩ | ⟨hc2, hr2, hmd3⟩ | ⟨z2, hz0, hz7, hc2, hr2, hmd3⟩
    · skip
      exact absurd (hc1.symm.trans hc2) (by decide +kernel)
    · skip
      have hcls3 : clsP E ad N w3 d kk S1 pl ct K sv Z fp dq dd dc bf ln tx := hcls2.fr (fun p hp => hfr p (by show ¬ _; (try dsimp only [gIn]); omega))
      have hfo3 := (hfr (d + 128) (by show ¬ _; (try dsimp only [gIn]); omega)).trans hfo2
      have hfd3 := (hfr (d + 129) (by show ¬ _; (try dsimp only [gIn]); omega)).trans hfd2
      refine lv_istore (lv' := [(7, .int rz2), (6, .int (nI (1))), (5, .int (nI (i))), (0, .ref (sa)), (1, .ref (ad (d))), (2, .ref (ad (d + 116))), (3, .ref (ad (d + 128))), (4, .ref (ad (d + 129)))]) hx hb dL_law_387 hl (by decide) rfl (fun ls hl => ?_)
      refine lv_aload_n hx hb dL_law_389 rfl (lv_at hl 5 rfl) ?_
      refine g_afi (g_runV S hI hP hS (k := 0) (As := []) (rest := []) (mX13_thrown l _ _ _ _ _ _ _ _ _ _ _ _ _ _ _ _ _ _ _ _ _ _ _ _ _ hmd3) q1860 q1861 q1862 q100 q1863 rfl rfl (by decide +kernel) ⟨(Nat.le_trans (Nat.le_of_ble_eq_true rfl : _ ≤ 64) hRf), (Nat.le_trans (Nat.le_of_ble_eq_true rfl : _ ≤ 2000) hRl)⟩ rfl (hmd3.lt 0 (by decide)) (hmd3.2 0 (by decide)) rfl hl.1 rfl (Nat.le_of_ble_eq_true rfl) ⟨by omega, by omega⟩ dL_law_390) hS (fun rz9 w9 H locs hq9 hP hS => ?_)
      obtain ⟨hr9, hw9⟩ := hq9
      rw [hw9] at hP
      rw [hr9]
      refine lv_iload hx hb dL_law_393 (lv_at hl 1 rfl) ?_
      refine g_eq S (a := 1) (b := 1) (by omega) (by omega) (tgt := 400) dL_law_395 (by decide) (fun hb9 => ?_) (fun hb9 => ?_)
      · refine lv_iload hx hb dL_law_400 (lv_at hl 1 rfl) ?_
        refine g_ifne S (a := 1) (by omega) (tgt := 417) dL_law_402 (by decide) (fun hb8 => ?_) (fun hb8 => ?_)
        · refine lv_goto (tgt := 2997) hx hb dL_law_417 (by decide) ?_
          exact W.widen (k := cells + 234) (n := slots + 2848) (by omega) (by omega) (kk9 ad N _ _ _ _ ⟨_, _, _, _, _, _, _, _, _, _, _, _, _, _, _, _, _, _, _, _, _, _, _, _, _, _, _, _, _, _, _, _, hcls3, hmd3, ⟨_, hfo3⟩, ⟨_, hfd3⟩, hDat.le (by omega)⟩ hP hS (lv_sub hl [2, 3, 4, 5, 6, 7] rfl))
        · omega
      · exact absurd rfl hb9
    · skip
      exact absurd (hc1.symm.trans hc2) (by decide +kernel)
    · skip
      exact absurd (hc2.symm.trans hc1) (nI_7m1 z2 hz7)
  · skip
    rw [hrz]
    have hq := (hq.resolve_left (fun y => absurd y.1 (by decide))).resolve_left (fun y => absurd y.1 (by decide))
    obtain ⟨-, n1, hn0, hn7, hc1, hd9, hs9n, hh9, hfw⟩ := hq
    have hclsW : clsP E ad N w1 d kk S1 pl ct K sv Z fp (some n1) (cmT S1.2.2.1 S1.2.2.2.2.1 S1.2.2.2.2.2.1 S1.2.2.2.2.2.2.1 n1 (cellV (xs (i + 1)) (xs (i + 2))) (-1)) none bf ln tx := hcls.chg hd9 hs9n hh9 (fun p hp => hfw p (by show ¬ _; (try simp only [gIn]); (try dsimp only); omega))
    have hmdW : bkP N w1 (d + 116) 12 (MDC E ad (d + 116) g kp svr bfr sd bf sg mk td lv tl sv qc (0 : Nat) qd co wy de ca ln fp sm pa tm) := hmd.fr hfw (fun k hk => (by show ¬ _; (try simp only [gIn]); (try dsimp only); omega))
    have hfoW := (hfw (d + 128) (by show ¬ _; (try simp only [gIn]); (try dsimp only); omega)).trans hfo
    have hfdW := (hfw (d + 129) (by show ¬ _; (try simp only [gIn]); (try dsimp only); omega)).trans hfd
    obtain ⟨wb, hwb⟩ : ∃ z, z = w1 := ⟨_, rfl⟩
    rw [← hwb] at hP
    have hcls2 : clsP E ad N wb d kk S1 pl ct K sv Z fp (some n1) (cmT S1.2.2.1 S1.2.2.2.2.1 S1.2.2.2.2.2.1 S1.2.2.2.2.2.2.1 n1 (cellV (xs (i + 1)) (xs (i + 2))) (-1)) none bf ln tx := by rw [hwb]; exact hclsW
    have hmd2 : bkP N wb (d + 116) 12 (MDC E ad (d + 116) g kp svr bfr sd bf sg mk td lv tl sv qc (0 : Nat) qd co wy de ca ln fp sm pa tm) := by rw [hwb]; exact hmdW
    have hfo2 : wb (d + 128) = loE E fo := by rw [hwb]; exact hfoW
    have hfd2 : wb (d + 129) = doE E fd := by rw [hwb]; exact hfdW
    refine lv_istore (lv' := [(6, .int (nI (2))), (5, .int (nI (i))), (0, .ref (sa)), (1, .ref (ad (d))), (2, .ref (ad (d + 116))), (3, .ref (ad (d + 128))), (4, .ref (ad (d + 129)))]) hx hb dL_law_369 hl (by decide) rfl (fun ls hl => ?_)
    refine lv_aload_n hx hb dL_law_371 rfl (lv_at hl 4 rfl) ?_
    refine lv_aload_n hx hb dL_law_372 rfl (lv_at hl 2 rfl) ?_
    refine lv_iload hx hb dL_law_373 (lv_at hl 1 rfl) ?_
    refine g_iconst S 1 dL_law_375 (by decide +kernel) ?_
    refine g_iadd S dL_law_376 ?_
    refine g_sld S hX hsa hsA hS (i + 1) (by omega) hL dL_law_377 ?_
    refine lv_aload_n hx hb dL_law_378 rfl (lv_at hl 2 rfl) ?_
    refine lv_iload hx hb dL_law_379 (lv_at hl 1 rfl) ?_
    refine g_iconst S 2 dL_law_381 (by decide +kernel) ?_
    refine g_iadd S dL_law_382 ?_
    refine g_sld S hX hsa hsA hS (i + 2) (by omega) hL dL_law_383 ?_
    refine g_afi (g_runV S hI hP hS (k := 2) (As := [.int (xs (i + 1)), .int (xs (i + 2))]) (rest := []) (mX13_peg l (d + 116) g kp svr bfr sd bf sg mk td lv tl sv qc (0 : Nat) qd co wy de ca ln fp sm pa tm S1.1 S1.2.1 S1.2.2.1 S1.2.2.2.1 S1.2.2.2.2.1 S1.2.2.2.2.2.1 S1.2.2.2.2.2.2.1 S1.2.2.2.2.2.2.2.1 S1.2.2.2.2.2.2.2.2.1 S1.2.2.2.2.2.2.2.2.2 (xs (i + 1)) (xs (i + 2)) hmd2 hrow.1 hrow.2.1.1 hrow.2.1.2.1 hrow.2.1.2.2.1 hrow.2.1.2.2.2.1 hrow.2.1.2.2.2.2 (by decide) (by have := hhis.1; have := hhis.2.1; omega)) q1897 q1898 q1899 q100 q1900 rfl rfl (by decide +kernel) ⟨(Nat.le_trans (Nat.le_of_ble_eq_true rfl : _ ≤ 64) hRf), (Nat.le_trans (Nat.le_of_ble_eq_true rfl : _ ≤ 2000) hRl)⟩ rfl (hmd2.lt 0 (by decide)) (hmd2.2 0 (by decide)) rfl hl.1 rfl (Nat.le_of_ble_eq_true rfl) ⟨by omega, by omega⟩ dL_law_384) hS (fun rz2 w3 H locs hq2 hP hS => ?_)
    obtain ⟨hq2, hfr⟩ := hq2
    rcases hq2 with ⟨hc2, g9, mk9, sd9, k2, u2, qd9, hck2, hr2, hR9, hmd3⟩ | ⟨hc2, hr2, hmd3⟩ | ⟨hc2, hr2, hmd3⟩ | ⟨z2, hz0, hz7, hc2, hr2, hmd3⟩
    · skip
      have := nI_7 n1 hn7 0 (by decide) (hc1.symm.trans hc2)
      omega
    · skip
      exact absurd (hc1.symm.trans hc2) (nI_7m1 n1 hn7)
    · skip
      exact absurd (hc1.symm.trans hc2) (nI_7m2 n1 hn7)
    · skip
      have hcls3 : clsP E ad N w3 d kk S1 pl ct K sv Z fp (some n1) (cmT S1.2.2.1 S1.2.2.2.2.1 S1.2.2.2.2.2.1 S1.2.2.2.2.2.2.1 n1 (cellV (xs (i + 1)) (xs (i + 2))) (-1)) none bf ln tx := hcls2.fr (fun p hp => hfr p (by show ¬ _; (try dsimp only [gIn]); omega))
      have hfo3 := (hfr (d + 128) (by show ¬ _; (try dsimp only [gIn]); omega)).trans hfo2
      have hfd3 := (hfr (d + 129) (by show ¬ _; (try dsimp only [gIn]); omega)).trans hfd2
      have hnz := nI_7 n1 hn7 z2 hz7 (hc1.symm.trans hc2)
      refine lv_istore (lv' := [(7, .int rz2), (6, .int (nI (2))), (5, .int (nI (i))), (0, .ref (sa)), (1, .ref (ad (d))), (2, .ref (ad (d + 116))), (3, .ref (ad (d + 128))), (4, .ref (ad (d + 129)))]) hx hb dL_law_387 hl (by decide) rfl (fun ls hl => ?_)
      refine lv_aload_n hx hb dL_law_389 rfl (lv_at hl 5 rfl) ?_
      refine g_afi (g_runV S hI hP hS (k := 0) (As := []) (rest := []) (mX13_thrown l _ _ _ _ _ _ _ _ _ _ _ _ _ _ _ _ _ _ _ _ _ _ _ _ _ hmd3) q1860 q1861 q1862 q100 q1863 rfl rfl (by decide +kernel) ⟨(Nat.le_trans (Nat.le_of_ble_eq_true rfl : _ ≤ 64) hRf), (Nat.le_trans (Nat.le_of_ble_eq_true rfl : _ ≤ 2000) hRl)⟩ rfl (hmd3.lt 0 (by decide)) (hmd3.2 0 (by decide)) rfl hl.1 rfl (Nat.le_of_ble_eq_true rfl) ⟨by omega, by omega⟩ dL_law_390) hS (fun rz9 w9 H locs hq9 hP hS => ?_)
      obtain ⟨hr9, hw9⟩ := hq9
      rw [hw9] at hP
      rw [hr9]
      refine lv_iload hx hb dL_law_393 (lv_at hl 1 rfl) ?_
      refine g_eq S (a := 2) (b := 2) (by omega) (by omega) (tgt := 400) dL_law_395 (by decide) (fun hb9 => ?_) (fun hb9 => ?_)
      · refine lv_iload hx hb dL_law_400 (lv_at hl 1 rfl) ?_
        refine g_ifne S (a := 2) (by omega) (tgt := 417) dL_law_402 (by decide) (fun hb8 => ?_) (fun hb8 => ?_)
        · refine lv_goto (tgt := 2997) hx hb dL_law_417 (by decide) ?_
          exact W.widen (k := cells + 234) (n := slots + 2848) (by omega) (by omega) (kk9 ad N _ _ _ _ ⟨_, _, _, _, _, _, _, _, _, _, _, _, _, _, _, _, _, _, _, _, _, _, _, _, _, _, _, _, _, _, _, _, hcls3, hmd3, ⟨_, hfo3⟩, ⟨_, hfd3⟩, lawD.le (B := B) ⟨hrow, hhis, hsnp, den_new hz0 hz7 hnz (by rw [hnz]), hDat.2.2.2.2⟩ (by omega)⟩ hP hS (lv_sub hl [2, 3, 4, 5, 6, 7] rfl))
        · omega
      · exact absurd rfl hb9
set_option maxHeartbeats 4000000 in
set_option maxRecDepth 100000 in
/-- the law's case 2: unpeg -/
theorem lc_2 (kk : Nat → Nat) (hlt : l.stackTraces = false) (hz : gHx E) (hzv : gHv E kk) (hn : gHn E) (S : gFix p m c cL_law 10 s args RL) (hI : gI E s s.heap) (hP : gP E ad N w H) (hS : va_S (gA E) s.heap H locs) (hRf : 64 ≤ R.frames) (hRl : 2000 ≤ R.locals) (hRc : cells + 234 ≤ R.cells) (hRs : slots + 2848 ≤ R.slots) {d B i sa L : Nat} {xs : Nat → Int32} (hB : B ≤ 600000) (hinv : lawP E kk ad N w d B) (hX : va_X sa L xs s s.heap) (hsa : sa < s.heap.size) (hsA : ¬ gA E sa) (hi : i + 5 ≤ L) (hL : L < 2 ^ 31) (hl : lv_has ls 10 [(5, .int (nI (i))), (0, .ref (sa)), (1, .ref (ad (d))), (2, .ref (ad (d + 116))), (3, .ref (ad (d + 128))), (4, .ref (ad (d + 129)))])
    (kk9 : ∀ (ad' : Nat → Nat) (N' : Nat) (w' : Nat → va_E) (H' : Heap) (locs' : List Loc) (ls' : Array Slot), lawP E kk ad' N' w' d (B + 1000) → gP E ad' N' w' H' → va_S (gA E) s.heap H' locs' → lv_has ls' 10 [(5, .int (nI (i))), (0, .ref (sa)), (1, .ref (ad' (d))), (2, .ref (ad' (d + 116))), (3, .ref (ad' (d + 128))), (4, .ref (ad' (d + 129)))] → W p l e R s m args below meth c H' locs' (cells + 234) (slots + 2848) Q (F0 m 2997 ls' [])) :
    W p l e R s m args below meth c H locs cells slots Q (F0 m 420 ls []) := by
  have hx := S.1
  have hb := S.2.1
  obtain ⟨S1, pl, ct, K, sv, Z, fp, dq, dd, dc, bf, ln, tx, g, kp, svr, bfr, sd, sg, mk, td, lv, tl, qc, qd, co, wy, de, ca, sm, pa, tm, hcls, hmd, ⟨fo, hfo⟩, ⟨fd, hfd⟩, hDat⟩ := hinv
  obtain ⟨hdN, ⟨hbd, hbs, hbz, ⟨A0, hba⟩, ⟨T0, hbt⟩, hhs⟩, hscr, hprs, hsb⟩ := id hcls
  obtain ⟨hrow, hhis, hsnp, hden, hbuf, hlin, hfp⟩ := id hDat
  obtain ⟨hs1, ⟨re, ce, rc, tc, hs2⟩, ⟨pa0, hs3⟩, ⟨ra, rk, hs4⟩, hs5, ⟨wa, ke, hs6, hs6a, hs6b⟩, ⟨lv0, hs7⟩, ⟨pn, hs8⟩, ⟨wa2, ke2, hs9, hs9a, hs9b⟩, ⟨re2, ce2, rc2, tc2, hs10⟩, ⟨pa2, hs11⟩, ⟨lv2, hs12⟩, ⟨pq, hs13⟩⟩ := id hscr
  refine lv_aload_n hx hb dL_law_420 rfl (lv_at hl 2 rfl) ?_
  refine lv_aload_n hx hb dL_law_421 rfl (lv_at hl 1 rfl) ?_
  refine lv_iload hx hb dL_law_422 (lv_at hl 0 rfl) ?_
  refine g_iconst S 1 dL_law_424 (by decide +kernel) ?_
  refine g_iadd S dL_law_425 ?_
  refine g_sld S hX hsa hsA hS (i + 1) (by omega) hL dL_law_426 ?_
  refine lv_aload_n hx hb dL_law_427 rfl (lv_at hl 1 rfl) ?_
  refine lv_iload hx hb dL_law_428 (lv_at hl 0 rfl) ?_
  refine g_iconst S 2 dL_law_430 (by decide +kernel) ?_
  refine g_iadd S dL_law_431 ?_
  refine g_sld S hX hsa hsA hS (i + 2) (by omega) hL dL_law_432 ?_
  refine lv_aload_n hx hb dL_law_433 rfl (lv_at hl 4 rfl) ?_
  refine g_afi (g_runSW S hI hP hS (hh := [(0, 10, 13, 13), (0, 10, 17, 17)]) (k := 4) (As := [.ref (ad (d)), .int (xs (i + 1)), .int (xs (i + 2)), .ref (ad (d + 128))]) (rest := []) (mL_unpeg l d (d + 128) (xs (i + 1)) (xs (i + 2)) hz hn (hbd.lt 0 (by decide)) (hbd.2 0 (by decide)) (mX12_unpeg l kk hzv d sv fp dq dd dc S1.1 S1.2.1 S1.2.2.1 S1.2.2.2.1 S1.2.2.2.2.1 S1.2.2.2.2.2.1 S1.2.2.2.2.2.2.1 S1.2.2.2.2.2.2.2.1 S1.2.2.2.2.2.2.2.2.1 S1.2.2.2.2.2.2.2.2.2 pl ct K (xs (i + 1)) (xs (i + 2)) hbd hbs hlt hz (by omega) hhs hhis.2.2.1 hhis.2.1 hrow.2.1.1 hrow.2.1.2.1 hrow.2.1.2.2.1 hrow.2.1.2.2.2.1 hrow.2.1.2.2.2.2) (by omega) (fun r w' h => (by obtain ⟨k9, u9, -, -, -, -, -, -, hfw⟩ := h; exact ⟨fo, (hfw (d + 128) (by show ¬ _; (try simp only [gIn]); (try dsimp only); omega)).trans hfo⟩)) (fun xc w' h => h.elim (fun z => Or.inl z.1) (fun h => h.elim (fun z => absurd z.2.1 (cmR_n2 (by decide) (by decide))) (fun z => Or.inr (z.1))))) q853 q854 q81 q855 rfl rfl (by decide +kernel) ⟨(Nat.le_trans (Nat.le_of_ble_eq_true rfl : _ ≤ 64) hRf), (Nat.le_trans (Nat.le_of_ble_eq_true rfl : _ ≤ 2000) hRl)⟩ rfl hl.1 rfl (Nat.le_of_ble_eq_true rfl) ⟨by omega, by omega⟩ dL_law_434) hS (fun rz w1 H locs hq hP hS => ?_)
  rcases hq with ⟨v1, f1, w2, hrz, hf1, hw2, hq⟩ | ⟨hrz, hq⟩ | ⟨hrz, hq⟩
  · skip
    rw [hw2] at hP
    rw [hrz]
    obtain ⟨k1, u1, hck1, hc1, hv1, hs9n, hh9, hd9, hfw⟩ := hq
    have hclsW : clsP E ad N w2 d kk ((cmS 2 k1 u1 S1.1 S1.2.1 S1.2.2.1 S1.2.2.2.1 S1.2.2.2.2.1 S1.2.2.2.2.2.1 S1.2.2.2.2.2.2.1 S1.2.2.2.2.2.2.2.1 S1.2.2.2.2.2.2.2.2.1 S1.2.2.2.2.2.2.2.2.2).2) ((pl + 1) % 8) (min (ct + 1) 8) (va_up K pl (cpS (S1.1, S1.2.1, S1.2.2.1, S1.2.2.2.1, S1.2.2.2.2.1, S1.2.2.2.2.2.1, S1.2.2.2.2.2.2.1, S1.2.2.2.2.2.2.2.1, S1.2.2.2.2.2.2.2.2.1, S1.2.2.2.2.2.2.2.2.2) (K pl))) sv Z fp dq dd dc bf ln tx := hcls.chg hd9 hs9n hh9 (fun p hp => hfw p (by show ¬ _; (try simp only [gIn]); (try dsimp only); omega))
    have hmdW : bkP N w2 (d + 116) 12 (MDC E ad (d + 116) g kp svr bfr sd bf sg mk td lv tl sv qc (0 : Nat) qd co wy de ca ln fp sm pa tm) := hmd.fr hfw (fun k hk => (by show ¬ _; (try simp only [gIn]); (try dsimp only); omega))
    have hfoW := (hfw (d + 128) (by show ¬ _; (try simp only [gIn]); (try dsimp only); omega)).trans hfo
    have hfdW := (hfw (d + 129) (by show ¬ _; (try simp only [gIn]); (try dsimp only); omega)).trans hfd
    obtain ⟨wb, hwb⟩ : ∃ z, z = va_up w2 (d + 128) (loE E f1) := ⟨_, rfl⟩
    rw [← hwb] at hP
    have hcls2 : clsP E ad N wb d kk ((cmS 2 k1 u1 S1.1 S1.2.1 S1.2.2.1 S1.2.2.2.1 S1.2.2.2.2.1 S1.2.2.2.2.2.1 S1.2.2.2.2.2.2.1 S1.2.2.2.2.2.2.2.1 S1.2.2.2.2.2.2.2.2.1 S1.2.2.2.2.2.2.2.2.2).2) ((pl + 1) % 8) (min (ct + 1) 8) (va_up K pl (cpS (S1.1, S1.2.1, S1.2.2.1, S1.2.2.2.1, S1.2.2.2.2.1, S1.2.2.2.2.2.1, S1.2.2.2.2.2.2.1, S1.2.2.2.2.2.2.2.1, S1.2.2.2.2.2.2.2.2.1, S1.2.2.2.2.2.2.2.2.2) (K pl))) sv Z fp dq dd dc bf ln tx := hclsW.fr (fun p hp => by rw [hwb, va_up_ne _ _ (by omega)])
    have hmd2 : bkP N wb (d + 116) 12 (MDC E ad (d + 116) g kp svr bfr sd bf sg mk td lv tl sv qc (0 : Nat) qd co wy de ca ln fp sm pa tm) := by rw [hwb]; exact hmdW.keep (by omega)
    have hfo2 : wb (d + 128) = loE E f1 := by rw [hwb, va_up_self]
    have hfd2 : wb (d + 129) = doE E fd := by rw [hwb, va_up_ne _ _ (by omega)]; exact hfdW
    refine lv_istore (lv' := [(6, .int (nI (0))), (5, .int (nI (i))), (0, .ref (sa)), (1, .ref (ad (d))), (2, .ref (ad (d + 116))), (3, .ref (ad (d + 128))), (4, .ref (ad (d + 129)))]) hx hb dL_law_437 hl (by decide) rfl (fun ls hl => ?_)
    refine lv_aload_n hx hb dL_law_439 rfl (lv_at hl 4 rfl) ?_
    refine lv_aload_n hx hb dL_law_440 rfl (lv_at hl 2 rfl) ?_
    refine lv_iload hx hb dL_law_441 (lv_at hl 1 rfl) ?_
    refine g_iconst S 1 dL_law_443 (by decide +kernel) ?_
    refine g_iadd S dL_law_444 ?_
    refine g_sld S hX hsa hsA hS (i + 1) (by omega) hL dL_law_445 ?_
    refine lv_aload_n hx hb dL_law_446 rfl (lv_at hl 2 rfl) ?_
    refine lv_iload hx hb dL_law_447 (lv_at hl 1 rfl) ?_
    refine g_iconst S 2 dL_law_449 (by decide +kernel) ?_
    refine g_iadd S dL_law_450 ?_
    refine g_sld S hX hsa hsA hS (i + 2) (by omega) hL dL_law_451 ?_
    refine g_afi (g_runV S hI hP hS (k := 2) (As := [.int (xs (i + 1)), .int (xs (i + 2))]) (rest := []) (mX13_unpeg l (d + 116) g kp svr bfr sd bf sg mk td lv tl sv qc (0 : Nat) qd co wy de ca ln fp sm pa tm S1.1 S1.2.1 S1.2.2.1 S1.2.2.2.1 S1.2.2.2.2.1 S1.2.2.2.2.2.1 S1.2.2.2.2.2.2.1 S1.2.2.2.2.2.2.2.1 S1.2.2.2.2.2.2.2.2.1 S1.2.2.2.2.2.2.2.2.2 (xs (i + 1)) (xs (i + 2)) hmd2 hrow.1 hrow.2.1.1 hrow.2.1.2.1 hrow.2.1.2.2.1 hrow.2.1.2.2.2.1 hrow.2.1.2.2.2.2 (by decide) (by have := hhis.1; have := hhis.2.1; omega)) q1909 q1910 q1911 q100 q1912 rfl rfl (by decide +kernel) ⟨(Nat.le_trans (Nat.le_of_ble_eq_true rfl : _ ≤ 64) hRf), (Nat.le_trans (Nat.le_of_ble_eq_true rfl : _ ≤ 2000) hRl)⟩ rfl (hmd2.lt 0 (by decide)) (hmd2.2 0 (by decide)) rfl hl.1 rfl (Nat.le_of_ble_eq_true rfl) ⟨by omega, by omega⟩ dL_law_452) hS (fun rz2 w3 H locs hq2 hP hS => ?_)
    obtain ⟨hq2, hfr⟩ := hq2
    rcases hq2 with ⟨hc2, g9, mk9, sd9, k2, u2, qd9, hck2, hr2, hR9, hmd3⟩ | ⟨hc2, hr2, hmd3⟩ | ⟨hc2, hr2, hmd3⟩ | ⟨z2, hz0, hz7, hc2, hr2, hmd3⟩
    · skip
      have hcls3 : clsP E ad N w3 d kk ((cmS 2 k1 u1 S1.1 S1.2.1 S1.2.2.1 S1.2.2.2.1 S1.2.2.2.2.1 S1.2.2.2.2.2.1 S1.2.2.2.2.2.2.1 S1.2.2.2.2.2.2.2.1 S1.2.2.2.2.2.2.2.2.1 S1.2.2.2.2.2.2.2.2.2).2) ((pl + 1) % 8) (min (ct + 1) 8) (va_up K pl (cpS (S1.1, S1.2.1, S1.2.2.1, S1.2.2.2.1, S1.2.2.2.2.1, S1.2.2.2.2.2.1, S1.2.2.2.2.2.2.1, S1.2.2.2.2.2.2.2.1, S1.2.2.2.2.2.2.2.2.1, S1.2.2.2.2.2.2.2.2.2) (K pl))) sv Z fp dq dd dc bf ln tx := hcls2.fr (fun p hp => hfr p (by show ¬ _; (try dsimp only [gIn]); omega))
      have hfo3 := (hfr (d + 128) (by show ¬ _; (try dsimp only [gIn]); omega)).trans hfo2
      have hfd3 := (hfr (d + 129) (by show ¬ _; (try dsimp only [gIn]); omega)).trans hfd2
      have hcs := cmS_one (ht := S1.1) (dr := S1.2.1) (pg := S1.2.2.1) (wt := S1.2.2.2.1) (wr := S1.2.2.2.2.1) (mo := S1.2.2.2.2.2.1) (ni := S1.2.2.2.2.2.2.2.1) (po := S1.2.2.2.2.2.2.2.2.1) (dn := S1.2.2.2.2.2.2.2.2.2) (by decide) hck1 hck2
      rw [← hcs] at hr2 hR9
      rw [if_pos rfl, if_pos rfl] at hmd3
      have hv9 : v1 = rz2 := hv1.trans hr2.symm
      rw [hv9] at hf1
      refine lv_istore (lv' := [(7, .int rz2), (6, .int (nI (0))), (5, .int (nI (i))), (0, .ref (sa)), (1, .ref (ad (d))), (2, .ref (ad (d + 116))), (3, .ref (ad (d + 128))), (4, .ref (ad (d + 129)))]) hx hb dL_law_455 hl (by decide) rfl (fun ls hl => ?_)
      refine lv_aload_n hx hb dL_law_457 rfl (lv_at hl 5 rfl) ?_
      refine g_afi (g_runV S hI hP hS (k := 0) (As := []) (rest := []) (mX13_thrown l _ _ _ _ _ _ _ _ _ _ _ _ _ _ _ _ _ _ _ _ _ _ _ _ _ hmd3) q1860 q1861 q1862 q100 q1863 rfl rfl (by decide +kernel) ⟨(Nat.le_trans (Nat.le_of_ble_eq_true rfl : _ ≤ 64) hRf), (Nat.le_trans (Nat.le_of_ble_eq_true rfl : _ ≤ 2000) hRl)⟩ rfl (hmd3.lt 0 (by decide)) (hmd3.2 0 (by decide)) rfl hl.1 rfl (Nat.le_of_ble_eq_true rfl) ⟨by omega, by omega⟩ dL_law_458) hS (fun rz9 w9 H locs hq9 hP hS => ?_)
      obtain ⟨hr9, hw9⟩ := hq9
      rw [hw9] at hP
      rw [hr9]
      refine lv_iload hx hb dL_law_461 (lv_at hl 1 rfl) ?_
      refine g_eq S (a := 0) (b := 0) (by omega) (by omega) (tgt := 468) dL_law_463 (by decide) (fun hb9 => ?_) (fun hb9 => ?_)
      · refine lv_iload hx hb dL_law_468 (lv_at hl 1 rfl) ?_
        refine g_ifne S (a := 0) (by omega) (tgt := 485) dL_law_470 (by decide) (fun hb8 => ?_) (fun hb8 => ?_)
        · omega
        · refine lv_aload_n hx hb dL_law_473 rfl (lv_at hl 6 rfl) ?_
          refine g_iconst S 0 dL_law_474 (by decide +kernel) ?_
          refine g_lald S hI hP (o := d + 128) (by omega) hfo3 dL_law_475 ?_
          rw [hf1]
          refine lv_iload hx hb dL_law_476 (lv_at hl 0 rfl) ?_
          refine lv_i2l hx hb dL_law_478 rfl ?_
          refine g_lcmpE S dL_law_479 ?_
          refine g_ifeq S (a := 0) (by omega) (tgt := 485) dL_law_480 (by decide) (fun hb7 => ?_) (fun hb7 => ?_)
          · refine lv_goto (tgt := 2997) hx hb dL_law_485 (by decide) ?_
            exact W.widen (k := cells + 234) (n := slots + 2848) (by omega) (by omega) (kk9 ad N _ _ _ _ ⟨_, _, _, _, _, _, _, _, _, _, _, _, _, _, _, _, _, _, _, _, _, _, _, _, _, _, _, _, _, _, _, _, hcls3, hmd3, ⟨_, hfo3⟩, ⟨_, hfd3⟩, ⟨⟨hR9, cmS_q (S := S1) hrow.2.1 (by decide) hck1 (fun h => absurd h (by decide)), Nat.le_trans (cmS_w (S := S1) hck1.1 (fun h => absurd h (by decide))) (by have := hrow.2.2; omega)⟩, (hhis.keep hrow).le (by omega), ⟨hsnp.1, fun z => (hsnp.2.1 z).le (by omega), hsnp.2.2⟩, hDat.2.2.2⟩⟩ hP hS (lv_sub hl [2, 3, 4, 5, 6, 7] rfl))
          · omega
      · exact absurd rfl hb9
    · skip
      exact absurd (hc1.symm.trans hc2) (by decide +kernel)
    · skip
      exact absurd (hc1.symm.trans hc2) (by decide +kernel)
    · skip
      have := nI_7 z2 hz7 0 (by decide) (hc2.symm.trans hc1)
      omega
  · skip
    rw [hrz]
    have hq := hq.resolve_right (fun z => z.elim (fun y => absurd y.1 (by decide)) (fun y => absurd y.1 (by decide)))
    obtain ⟨-, hc1, hfw, hd9, hs9n, hh9⟩ := hq
    have hclsW : clsP E ad N w1 d kk S1 pl ct K sv Z fp dq dd dc bf ln tx := hcls.chg hd9 hs9n hh9 (fun p hp => hfw p (by show ¬ _; (try simp only [gIn]); (try dsimp only); omega))
    have hmdW : bkP N w1 (d + 116) 12 (MDC E ad (d + 116) g kp svr bfr sd bf sg mk td lv tl sv qc (0 : Nat) qd co wy de ca ln fp sm pa tm) := hmd.fr hfw (fun k hk => (by show ¬ _; (try simp only [gIn]); (try dsimp only); omega))
    have hfoW := (hfw (d + 128) (by show ¬ _; (try simp only [gIn]); (try dsimp only); omega)).trans hfo
    have hfdW := (hfw (d + 129) (by show ¬ _; (try simp only [gIn]); (try dsimp only); omega)).trans hfd
    obtain ⟨wb, hwb⟩ : ∃ z, z = w1 := ⟨_, rfl⟩
    rw [← hwb] at hP
    have hcls2 : clsP E ad N wb d kk S1 pl ct K sv Z fp dq dd dc bf ln tx := by rw [hwb]; exact hclsW
    have hmd2 : bkP N wb (d + 116) 12 (MDC E ad (d + 116) g kp svr bfr sd bf sg mk td lv tl sv qc (0 : Nat) qd co wy de ca ln fp sm pa tm) := by rw [hwb]; exact hmdW
    have hfo2 : wb (d + 128) = loE E fo := by rw [hwb]; exact hfoW
    have hfd2 : wb (d + 129) = doE E fd := by rw [hwb]; exact hfdW
    refine lv_istore (lv' := [(6, .int (nI (1))), (5, .int (nI (i))), (0, .ref (sa)), (1, .ref (ad (d))), (2, .ref (ad (d + 116))), (3, .ref (ad (d + 128))), (4, .ref (ad (d + 129)))]) hx hb dL_law_437 hl (by decide) rfl (fun ls hl => ?_)
    refine lv_aload_n hx hb dL_law_439 rfl (lv_at hl 4 rfl) ?_
    refine lv_aload_n hx hb dL_law_440 rfl (lv_at hl 2 rfl) ?_
    refine lv_iload hx hb dL_law_441 (lv_at hl 1 rfl) ?_
    refine g_iconst S 1 dL_law_443 (by decide +kernel) ?_
    refine g_iadd S dL_law_444 ?_
    refine g_sld S hX hsa hsA hS (i + 1) (by omega) hL dL_law_445 ?_
    refine lv_aload_n hx hb dL_law_446 rfl (lv_at hl 2 rfl) ?_
    refine lv_iload hx hb dL_law_447 (lv_at hl 1 rfl) ?_
    refine g_iconst S 2 dL_law_449 (by decide +kernel) ?_
    refine g_iadd S dL_law_450 ?_
    refine g_sld S hX hsa hsA hS (i + 2) (by omega) hL dL_law_451 ?_
    refine g_afi (g_runV S hI hP hS (k := 2) (As := [.int (xs (i + 1)), .int (xs (i + 2))]) (rest := []) (mX13_unpeg l (d + 116) g kp svr bfr sd bf sg mk td lv tl sv qc (0 : Nat) qd co wy de ca ln fp sm pa tm S1.1 S1.2.1 S1.2.2.1 S1.2.2.2.1 S1.2.2.2.2.1 S1.2.2.2.2.2.1 S1.2.2.2.2.2.2.1 S1.2.2.2.2.2.2.2.1 S1.2.2.2.2.2.2.2.2.1 S1.2.2.2.2.2.2.2.2.2 (xs (i + 1)) (xs (i + 2)) hmd2 hrow.1 hrow.2.1.1 hrow.2.1.2.1 hrow.2.1.2.2.1 hrow.2.1.2.2.2.1 hrow.2.1.2.2.2.2 (by decide) (by have := hhis.1; have := hhis.2.1; omega)) q1909 q1910 q1911 q100 q1912 rfl rfl (by decide +kernel) ⟨(Nat.le_trans (Nat.le_of_ble_eq_true rfl : _ ≤ 64) hRf), (Nat.le_trans (Nat.le_of_ble_eq_true rfl : _ ≤ 2000) hRl)⟩ rfl (hmd2.lt 0 (by decide)) (hmd2.2 0 (by decide)) rfl hl.1 rfl (Nat.le_of_ble_eq_true rfl) ⟨by omega, by omega⟩ dL_law_452) hS (fun rz2 w3 H locs hq2 hP hS => ?_)
    obtain ⟨hq2, hfr⟩ := hq2
    rcases hq2 with ⟨hc2, g9, mk9, sd9, k2, u2, qd9, hck2, hr2, hR9, hmd3⟩ | ⟨hc2, hr2, hmd3⟩ | ⟨hc2, hr2, hmd3⟩ | ⟨z2, hz0, hz7, hc2, hr2, hmd3⟩
    · skip
      exact absurd (hc1.symm.trans hc2) (by decide +kernel)
    · skip
      have hcls3 : clsP E ad N w3 d kk S1 pl ct K sv Z fp dq dd dc bf ln tx := hcls2.fr (fun p hp => hfr p (by show ¬ _; (try dsimp only [gIn]); omega))
      have hfo3 := (hfr (d + 128) (by show ¬ _; (try dsimp only [gIn]); omega)).trans hfo2
      have hfd3 := (hfr (d + 129) (by show ¬ _; (try dsimp only [gIn]); omega)).trans hfd2
      refine lv_istore (lv' := [(7, .int rz2), (6, .int (nI (1))), (5, .int (nI (i))), (0, .ref (sa)), (1, .ref (ad (d))), (2, .ref (ad (d + 116))), (3, .ref (ad (d + 128))), (4, .ref (ad (d + 129)))]) hx hb dL_law_455 hl (by decide) rfl (fun ls hl => ?_)
      refine lv_aload_n hx hb dL_law_457 rfl (lv_at hl 5 rfl) ?_
      refine g_afi (g_runV S hI hP hS (k := 0) (As := []) (rest := []) (mX13_thrown l _ _ _ _ _ _ _ _ _ _ _ _ _ _ _ _ _ _ _ _ _ _ _ _ _ hmd3) q1860 q1861 q1862 q100 q1863 rfl rfl (by decide +kernel) ⟨(Nat.le_trans (Nat.le_of_ble_eq_true rfl : _ ≤ 64) hRf), (Nat.le_trans (Nat.le_of_ble_eq_true rfl : _ ≤ 2000) hRl)⟩ rfl (hmd3.lt 0 (by decide)) (hmd3.2 0 (by decide)) rfl hl.1 rfl (Nat.le_of_ble_eq_true rfl) ⟨by omega, by omega⟩ dL_law_458) hS (fun rz9 w9 H locs hq9 hP hS => ?_)
      obtain ⟨hr9, hw9⟩ := hq9
      rw [hw9] at hP
      rw [hr9]
      refine lv_iload hx hb dL_law_461 (lv_at hl 1 rfl) ?_
      refine g_eq S (a := 1) (b := 1) (by omega) (by omega) (tgt := 468) dL_law_463 (by decide) (fun hb9 => ?_) (fun hb9 => ?_)
      · refine lv_iload hx hb dL_law_468 (lv_at hl 1 rfl) ?_
        refine g_ifne S (a := 1) (by omega) (tgt := 485) dL_law_470 (by decide) (fun hb8 => ?_) (fun hb8 => ?_)
        · refine lv_goto (tgt := 2997) hx hb dL_law_485 (by decide) ?_
          exact W.widen (k := cells + 234) (n := slots + 2848) (by omega) (by omega) (kk9 ad N _ _ _ _ ⟨_, _, _, _, _, _, _, _, _, _, _, _, _, _, _, _, _, _, _, _, _, _, _, _, _, _, _, _, _, _, _, _, hcls3, hmd3, ⟨_, hfo3⟩, ⟨_, hfd3⟩, hDat.le (by omega)⟩ hP hS (lv_sub hl [2, 3, 4, 5, 6, 7] rfl))
        · omega
      · exact absurd rfl hb9
    · skip
      exact absurd (hc1.symm.trans hc2) (by decide +kernel)
    · skip
      exact absurd (hc2.symm.trans hc1) (nI_7m1 z2 hz7)
  · skip
    rw [hrz]
    have hq := (hq.resolve_left (fun y => absurd y.1 (by decide))).resolve_left (fun y => absurd y.1 (by decide))
    obtain ⟨-, n1, hn0, hn7, hc1, hd9, hs9n, hh9, hfw⟩ := hq
    have hclsW : clsP E ad N w1 d kk S1 pl ct K sv Z fp (some n1) (cmT S1.2.2.1 S1.2.2.2.2.1 S1.2.2.2.2.2.1 S1.2.2.2.2.2.2.1 n1 (cellV (xs (i + 1)) (xs (i + 2))) (-1)) none bf ln tx := hcls.chg hd9 hs9n hh9 (fun p hp => hfw p (by show ¬ _; (try simp only [gIn]); (try dsimp only); omega))
    have hmdW : bkP N w1 (d + 116) 12 (MDC E ad (d + 116) g kp svr bfr sd bf sg mk td lv tl sv qc (0 : Nat) qd co wy de ca ln fp sm pa tm) := hmd.fr hfw (fun k hk => (by show ¬ _; (try simp only [gIn]); (try dsimp only); omega))
    have hfoW := (hfw (d + 128) (by show ¬ _; (try simp only [gIn]); (try dsimp only); omega)).trans hfo
    have hfdW := (hfw (d + 129) (by show ¬ _; (try simp only [gIn]); (try dsimp only); omega)).trans hfd
    obtain ⟨wb, hwb⟩ : ∃ z, z = w1 := ⟨_, rfl⟩
    rw [← hwb] at hP
    have hcls2 : clsP E ad N wb d kk S1 pl ct K sv Z fp (some n1) (cmT S1.2.2.1 S1.2.2.2.2.1 S1.2.2.2.2.2.1 S1.2.2.2.2.2.2.1 n1 (cellV (xs (i + 1)) (xs (i + 2))) (-1)) none bf ln tx := by rw [hwb]; exact hclsW
    have hmd2 : bkP N wb (d + 116) 12 (MDC E ad (d + 116) g kp svr bfr sd bf sg mk td lv tl sv qc (0 : Nat) qd co wy de ca ln fp sm pa tm) := by rw [hwb]; exact hmdW
    have hfo2 : wb (d + 128) = loE E fo := by rw [hwb]; exact hfoW
    have hfd2 : wb (d + 129) = doE E fd := by rw [hwb]; exact hfdW
    refine lv_istore (lv' := [(6, .int (nI (2))), (5, .int (nI (i))), (0, .ref (sa)), (1, .ref (ad (d))), (2, .ref (ad (d + 116))), (3, .ref (ad (d + 128))), (4, .ref (ad (d + 129)))]) hx hb dL_law_437 hl (by decide) rfl (fun ls hl => ?_)
    refine lv_aload_n hx hb dL_law_439 rfl (lv_at hl 4 rfl) ?_
    refine lv_aload_n hx hb dL_law_440 rfl (lv_at hl 2 rfl) ?_
    refine lv_iload hx hb dL_law_441 (lv_at hl 1 rfl) ?_
    refine g_iconst S 1 dL_law_443 (by decide +kernel) ?_
    refine g_iadd S dL_law_444 ?_
    refine g_sld S hX hsa hsA hS (i + 1) (by omega) hL dL_law_445 ?_
    refine lv_aload_n hx hb dL_law_446 rfl (lv_at hl 2 rfl) ?_
    refine lv_iload hx hb dL_law_447 (lv_at hl 1 rfl) ?_
    refine g_iconst S 2 dL_law_449 (by decide +kernel) ?_
    refine g_iadd S dL_law_450 ?_
    refine g_sld S hX hsa hsA hS (i + 2) (by omega) hL dL_law_451 ?_
    refine g_afi (g_runV S hI hP hS (k := 2) (As := [.int (xs (i + 1)), .int (xs (i + 2))]) (rest := []) (mX13_unpeg l (d + 116) g kp svr bfr sd bf sg mk td lv tl sv qc (0 : Nat) qd co wy de ca ln fp sm pa tm S1.1 S1.2.1 S1.2.2.1 S1.2.2.2.1 S1.2.2.2.2.1 S1.2.2.2.2.2.1 S1.2.2.2.2.2.2.1 S1.2.2.2.2.2.2.2.1 S1.2.2.2.2.2.2.2.2.1 S1.2.2.2.2.2.2.2.2.2 (xs (i + 1)) (xs (i + 2)) hmd2 hrow.1 hrow.2.1.1 hrow.2.1.2.1 hrow.2.1.2.2.1 hrow.2.1.2.2.2.1 hrow.2.1.2.2.2.2 (by decide) (by have := hhis.1; have := hhis.2.1; omega)) q1909 q1910 q1911 q100 q1912 rfl rfl (by decide +kernel) ⟨(Nat.le_trans (Nat.le_of_ble_eq_true rfl : _ ≤ 64) hRf), (Nat.le_trans (Nat.le_of_ble_eq_true rfl : _ ≤ 2000) hRl)⟩ rfl (hmd2.lt 0 (by decide)) (hmd2.2 0 (by decide)) rfl hl.1 rfl (Nat.le_of_ble_eq_true rfl) ⟨by omega, by omega⟩ dL_law_452) hS (fun rz2 w3 H locs hq2 hP hS => ?_)
    obtain ⟨hq2, hfr⟩ := hq2
    rcases hq2 with ⟨hc2, g9, mk9, sd9, k2, u2, qd9, hck2, hr2, hR9, hmd3⟩ | ⟨hc2, hr2, hmd3⟩ | ⟨hc2, hr2, hmd3⟩ | ⟨z2, hz0, hz7, hc2, hr2, hmd3⟩
    · skip
      have := nI_7 n1 hn7 0 (by decide) (hc1.symm.trans hc2)
      omega
    · skip
      exact absurd (hc1.symm.trans hc2) (nI_7m1 n1 hn7)
    · skip
      exact absurd (hc1.symm.trans hc2) (nI_7m2 n1 hn7)
    · skip
      have hcls3 : clsP E ad N w3 d kk S1 pl ct K sv Z fp (some n1) (cmT S1.2.2.1 S1.2.2.2.2.1 S1.2.2.2.2.2.1 S1.2.2.2.2.2.2.1 n1 (cellV (xs (i + 1)) (xs (i + 2))) (-1)) none bf ln tx := hcls2.fr (fun p hp => hfr p (by show ¬ _; (try dsimp only [gIn]); omega))
      have hfo3 := (hfr (d + 128) (by show ¬ _; (try dsimp only [gIn]); omega)).trans hfo2
      have hfd3 := (hfr (d + 129) (by show ¬ _; (try dsimp only [gIn]); omega)).trans hfd2
      have hnz := nI_7 n1 hn7 z2 hz7 (hc1.symm.trans hc2)
      refine lv_istore (lv' := [(7, .int rz2), (6, .int (nI (2))), (5, .int (nI (i))), (0, .ref (sa)), (1, .ref (ad (d))), (2, .ref (ad (d + 116))), (3, .ref (ad (d + 128))), (4, .ref (ad (d + 129)))]) hx hb dL_law_455 hl (by decide) rfl (fun ls hl => ?_)
      refine lv_aload_n hx hb dL_law_457 rfl (lv_at hl 5 rfl) ?_
      refine g_afi (g_runV S hI hP hS (k := 0) (As := []) (rest := []) (mX13_thrown l _ _ _ _ _ _ _ _ _ _ _ _ _ _ _ _ _ _ _ _ _ _ _ _ _ hmd3) q1860 q1861 q1862 q100 q1863 rfl rfl (by decide +kernel) ⟨(Nat.le_trans (Nat.le_of_ble_eq_true rfl : _ ≤ 64) hRf), (Nat.le_trans (Nat.le_of_ble_eq_true rfl : _ ≤ 2000) hRl)⟩ rfl (hmd3.lt 0 (by decide)) (hmd3.2 0 (by decide)) rfl hl.1 rfl (Nat.le_of_ble_eq_true rfl) ⟨by omega, by omega⟩ dL_law_458) hS (fun rz9 w9 H locs hq9 hP hS => ?_)
      obtain ⟨hr9, hw9⟩ := hq9
      rw [hw9] at hP
      rw [hr9]
      refine lv_iload hx hb dL_law_461 (lv_at hl 1 rfl) ?_
      refine g_eq S (a := 2) (b := 2) (by omega) (by omega) (tgt := 468) dL_law_463 (by decide) (fun hb9 => ?_) (fun hb9 => ?_)
      · refine lv_iload hx hb dL_law_468 (lv_at hl 1 rfl) ?_
        refine g_ifne S (a := 2) (by omega) (tgt := 485) dL_law_470 (by decide) (fun hb8 => ?_) (fun hb8 => ?_)
        · refine lv_goto (tgt := 2997) hx hb dL_law_485 (by decide) ?_
          exact W.widen (k := cells + 234) (n := slots + 2848) (by omega) (by omega) (kk9 ad N _ _ _ _ ⟨_, _, _, _, _, _, _, _, _, _, _, _, _, _, _, _, _, _, _, _, _, _, _, _, _, _, _, _, _, _, _, _, hcls3, hmd3, ⟨_, hfo3⟩, ⟨_, hfd3⟩, lawD.le (B := B) ⟨hrow, hhis, hsnp, den_new hz0 hz7 hnz (by rw [hnz]), hDat.2.2.2.2⟩ (by omega)⟩ hP hS (lv_sub hl [2, 3, 4, 5, 6, 7] rfl))
        · omega
      · exact absurd rfl hb9
set_option maxHeartbeats 4000000 in
set_option maxRecDepth 100000 in
/-- the law's case 10: pour -/
theorem lc_10 (kk : Nat → Nat) (hlt : l.stackTraces = false) (hz : gHx E) (hzv : gHv E kk) (hn : gHn E) (S : gFix p m c cL_law 10 s args RL) (hI : gI E s s.heap) (hP : gP E ad N w H) (hS : va_S (gA E) s.heap H locs) (hRf : 64 ≤ R.frames) (hRl : 2000 ≤ R.locals) (hRc : cells + 234 ≤ R.cells) (hRs : slots + 2848 ≤ R.slots) {d B i sa L : Nat} {xs : Nat → Int32} (hB : B ≤ 600000) (hinv : lawP E kk ad N w d B) (hX : va_X sa L xs s s.heap) (hsa : sa < s.heap.size) (hsA : ¬ gA E sa) (hi : i + 5 ≤ L) (hL : L < 2 ^ 31) (hl : lv_has ls 10 [(5, .int (nI (i))), (0, .ref (sa)), (1, .ref (ad (d))), (2, .ref (ad (d + 116))), (3, .ref (ad (d + 128))), (4, .ref (ad (d + 129)))])
    (kk9 : ∀ (ad' : Nat → Nat) (N' : Nat) (w' : Nat → va_E) (H' : Heap) (locs' : List Loc) (ls' : Array Slot), lawP E kk ad' N' w' d (B + 1000) → gP E ad' N' w' H' → va_S (gA E) s.heap H' locs' → lv_has ls' 10 [(5, .int (nI (i))), (0, .ref (sa)), (1, .ref (ad' (d))), (2, .ref (ad' (d + 116))), (3, .ref (ad' (d + 128))), (4, .ref (ad' (d + 129)))] → W p l e R s m args below meth c H' locs' (cells + 234) (slots + 2848) Q (F0 m 2997 ls' [])) :
    W p l e R s m args below meth c H locs cells slots Q (F0 m 868 ls []) := by
  have hx := S.1
  have hb := S.2.1
  obtain ⟨S1, pl, ct, K, sv, Z, fp, dq, dd, dc, bf, ln, tx, g, kp, svr, bfr, sd, sg, mk, td, lv, tl, qc, qd, co, wy, de, ca, sm, pa, tm, hcls, hmd, ⟨fo, hfo⟩, ⟨fd, hfd⟩, hDat⟩ := hinv
  obtain ⟨hdN, ⟨hbd, hbs, hbz, ⟨A0, hba⟩, ⟨T0, hbt⟩, hhs⟩, hscr, hprs, hsb⟩ := id hcls
  obtain ⟨hrow, hhis, hsnp, hden, hbuf, hlin, hfp⟩ := id hDat
  obtain ⟨hs1, ⟨re, ce, rc, tc, hs2⟩, ⟨pa0, hs3⟩, ⟨ra, rk, hs4⟩, hs5, ⟨wa, ke, hs6, hs6a, hs6b⟩, ⟨lv0, hs7⟩, ⟨pn, hs8⟩, ⟨wa2, ke2, hs9, hs9a, hs9b⟩, ⟨re2, ce2, rc2, tc2, hs10⟩, ⟨pa2, hs11⟩, ⟨lv2, hs12⟩, ⟨pq, hs13⟩⟩ := id hscr
  refine lv_aload_n hx hb dL_law_868 rfl (lv_at hl 2 rfl) ?_
  refine lv_aload_n hx hb dL_law_869 rfl (lv_at hl 1 rfl) ?_
  refine lv_iload hx hb dL_law_870 (lv_at hl 0 rfl) ?_
  refine g_iconst S 1 dL_law_872 (by decide +kernel) ?_
  refine g_iadd S dL_law_873 ?_
  refine g_sld S hX hsa hsA hS (i + 1) (by omega) hL dL_law_874 ?_
  refine lv_aload_n hx hb dL_law_875 rfl (lv_at hl 1 rfl) ?_
  refine lv_iload hx hb dL_law_876 (lv_at hl 0 rfl) ?_
  refine g_iconst S 2 dL_law_878 (by decide +kernel) ?_
  refine g_iadd S dL_law_879 ?_
  refine g_sld S hX hsa hsA hS (i + 2) (by omega) hL dL_law_880 ?_
  refine lv_aload_n hx hb dL_law_881 rfl (lv_at hl 1 rfl) ?_
  refine lv_iload hx hb dL_law_882 (lv_at hl 0 rfl) ?_
  refine g_iconst S 3 dL_law_884 (by decide +kernel) ?_
  refine g_iadd S dL_law_885 ?_
  refine g_sld S hX hsa hsA hS (i + 3) (by omega) hL dL_law_886 ?_
  refine lv_aload_n hx hb dL_law_887 rfl (lv_at hl 4 rfl) ?_
  refine g_afi (g_runSW S hI hP hS (hh := [(0, 12, 15, 13), (0, 12, 19, 15)]) (k := 5) (As := [.ref (ad (d)), .int (xs (i + 1)), .int (xs (i + 2)), .int (xs (i + 3)), .ref (ad (d + 128))]) (rest := []) (mL_pour l d (d + 128) (xs (i + 1)) (xs (i + 2)) (xs (i + 3)) hz hn (hbd.lt 0 (by decide)) (hbd.2 0 (by decide)) (mX12_pour l kk hzv d sv fp dq dd dc S1.1 S1.2.1 S1.2.2.1 S1.2.2.2.1 S1.2.2.2.2.1 S1.2.2.2.2.2.1 S1.2.2.2.2.2.2.1 S1.2.2.2.2.2.2.2.1 S1.2.2.2.2.2.2.2.2.1 S1.2.2.2.2.2.2.2.2.2 pl ct K (xs (i + 1)) (xs (i + 2)) (xs (i + 3)) hbd hbs hlt hz (by omega) hhs hhis.2.2.1 hhis.2.1 hrow.2.1.1 hrow.2.1.2.1 hrow.2.1.2.2.1 hrow.2.1.2.2.2.1 hrow.2.1.2.2.2.2) (by omega) (fun r w' h => (by obtain ⟨k9, u9, -, -, -, -, -, -, hfw⟩ := h; exact ⟨fo, (hfw (d + 128) (by show ¬ _; (try simp only [gIn]); (try dsimp only); omega)).trans hfo⟩)) (fun xc w' h => h.elim (fun z => Or.inl z.1) (fun h => h.elim (fun z => Or.inr (z.1)) (fun z => by obtain ⟨-, n9, h1, h2, h3, -⟩ := z; exact absurd h3 (cmR_nU (by decide) h1 h2))))) q982 q983 q81 q984 rfl rfl (by decide +kernel) ⟨(Nat.le_trans (Nat.le_of_ble_eq_true rfl : _ ≤ 64) hRf), (Nat.le_trans (Nat.le_of_ble_eq_true rfl : _ ≤ 2000) hRl)⟩ rfl hl.1 rfl (Nat.le_of_ble_eq_true rfl) ⟨by omega, by omega⟩ dL_law_888) hS (fun rz w1 H locs hq hP hS => ?_)
  rcases hq with ⟨v1, f1, w2, hrz, hf1, hw2, hq⟩ | ⟨hrz, hq⟩ | ⟨hrz, hq⟩
  · skip
    rw [hw2] at hP
    rw [hrz]
    obtain ⟨k1, u1, hck1, hc1, hv1, hs9n, hh9, hd9, hfw⟩ := hq
    have hclsW : clsP E ad N w2 d kk ((cmS 4 k1 u1 S1.1 S1.2.1 S1.2.2.1 S1.2.2.2.1 S1.2.2.2.2.1 S1.2.2.2.2.2.1 S1.2.2.2.2.2.2.1 S1.2.2.2.2.2.2.2.1 S1.2.2.2.2.2.2.2.2.1 S1.2.2.2.2.2.2.2.2.2).2) ((pl + 1) % 8) (min (ct + 1) 8) (va_up K pl (cpS (S1.1, S1.2.1, S1.2.2.1, S1.2.2.2.1, S1.2.2.2.2.1, S1.2.2.2.2.2.1, S1.2.2.2.2.2.2.1, S1.2.2.2.2.2.2.2.1, S1.2.2.2.2.2.2.2.2.1, S1.2.2.2.2.2.2.2.2.2) (K pl))) sv Z fp dq dd dc bf ln tx := hcls.chg hd9 hs9n hh9 (fun p hp => hfw p (by show ¬ _; (try simp only [gIn]); (try dsimp only); omega))
    have hmdW : bkP N w2 (d + 116) 12 (MDC E ad (d + 116) g kp svr bfr sd bf sg mk td lv tl sv qc (0 : Nat) qd co wy de ca ln fp sm pa tm) := hmd.fr hfw (fun k hk => (by show ¬ _; (try simp only [gIn]); (try dsimp only); omega))
    have hfoW := (hfw (d + 128) (by show ¬ _; (try simp only [gIn]); (try dsimp only); omega)).trans hfo
    have hfdW := (hfw (d + 129) (by show ¬ _; (try simp only [gIn]); (try dsimp only); omega)).trans hfd
    obtain ⟨wb, hwb⟩ : ∃ z, z = va_up w2 (d + 128) (loE E f1) := ⟨_, rfl⟩
    rw [← hwb] at hP
    have hcls2 : clsP E ad N wb d kk ((cmS 4 k1 u1 S1.1 S1.2.1 S1.2.2.1 S1.2.2.2.1 S1.2.2.2.2.1 S1.2.2.2.2.2.1 S1.2.2.2.2.2.2.1 S1.2.2.2.2.2.2.2.1 S1.2.2.2.2.2.2.2.2.1 S1.2.2.2.2.2.2.2.2.2).2) ((pl + 1) % 8) (min (ct + 1) 8) (va_up K pl (cpS (S1.1, S1.2.1, S1.2.2.1, S1.2.2.2.1, S1.2.2.2.2.1, S1.2.2.2.2.2.1, S1.2.2.2.2.2.2.1, S1.2.2.2.2.2.2.2.1, S1.2.2.2.2.2.2.2.2.1, S1.2.2.2.2.2.2.2.2.2) (K pl))) sv Z fp dq dd dc bf ln tx := hclsW.fr (fun p hp => by rw [hwb, va_up_ne _ _ (by omega)])
    have hmd2 : bkP N wb (d + 116) 12 (MDC E ad (d + 116) g kp svr bfr sd bf sg mk td lv tl sv qc (0 : Nat) qd co wy de ca ln fp sm pa tm) := by rw [hwb]; exact hmdW.keep (by omega)
    have hfo2 : wb (d + 128) = loE E f1 := by rw [hwb, va_up_self]
    have hfd2 : wb (d + 129) = doE E fd := by rw [hwb, va_up_ne _ _ (by omega)]; exact hfdW
    refine lv_istore (lv' := [(6, .int (nI (0))), (5, .int (nI (i))), (0, .ref (sa)), (1, .ref (ad (d))), (2, .ref (ad (d + 116))), (3, .ref (ad (d + 128))), (4, .ref (ad (d + 129)))]) hx hb dL_law_891 hl (by decide) rfl (fun ls hl => ?_)
    refine lv_aload_n hx hb dL_law_893 rfl (lv_at hl 4 rfl) ?_
    refine lv_aload_n hx hb dL_law_894 rfl (lv_at hl 2 rfl) ?_
    refine lv_iload hx hb dL_law_895 (lv_at hl 1 rfl) ?_
    refine g_iconst S 1 dL_law_897 (by decide +kernel) ?_
    refine g_iadd S dL_law_898 ?_
    refine g_sld S hX hsa hsA hS (i + 1) (by omega) hL dL_law_899 ?_
    refine lv_aload_n hx hb dL_law_900 rfl (lv_at hl 2 rfl) ?_
    refine lv_iload hx hb dL_law_901 (lv_at hl 1 rfl) ?_
    refine g_iconst S 2 dL_law_903 (by decide +kernel) ?_
    refine g_iadd S dL_law_904 ?_
    refine g_sld S hX hsa hsA hS (i + 2) (by omega) hL dL_law_905 ?_
    refine lv_aload_n hx hb dL_law_906 rfl (lv_at hl 2 rfl) ?_
    refine lv_iload hx hb dL_law_907 (lv_at hl 1 rfl) ?_
    refine g_iconst S 3 dL_law_909 (by decide +kernel) ?_
    refine g_iadd S dL_law_910 ?_
    refine g_sld S hX hsa hsA hS (i + 3) (by omega) hL dL_law_911 ?_
    refine g_afi (g_runV S hI hP hS (k := 3) (As := [.int (xs (i + 1)), .int (xs (i + 2)), .int (xs (i + 3))]) (rest := []) (mX13_pour l (d + 116) g kp svr bfr sd bf sg mk td lv tl sv qc (0 : Nat) qd co wy de ca ln fp sm pa tm S1.1 S1.2.1 S1.2.2.1 S1.2.2.2.1 S1.2.2.2.2.1 S1.2.2.2.2.2.1 S1.2.2.2.2.2.2.1 S1.2.2.2.2.2.2.2.1 S1.2.2.2.2.2.2.2.2.1 S1.2.2.2.2.2.2.2.2.2 (xs (i + 1)) (xs (i + 2)) (xs (i + 3)) hmd2 hrow.1 hrow.2.1.1 hrow.2.1.2.1 hrow.2.1.2.2.1 hrow.2.1.2.2.2.1 hrow.2.1.2.2.2.2 (by decide) (by have := hhis.1; have := hhis.2.1; omega)) q1952 q1953 q1954 q100 q1955 rfl rfl (by decide +kernel) ⟨(Nat.le_trans (Nat.le_of_ble_eq_true rfl : _ ≤ 64) hRf), (Nat.le_trans (Nat.le_of_ble_eq_true rfl : _ ≤ 2000) hRl)⟩ rfl (hmd2.lt 0 (by decide)) (hmd2.2 0 (by decide)) rfl hl.1 rfl (Nat.le_of_ble_eq_true rfl) ⟨by omega, by omega⟩ dL_law_912) hS (fun rz2 w3 H locs hq2 hP hS => ?_)
    obtain ⟨hq2, hfr⟩ := hq2
    rcases hq2 with ⟨hc2, g9, mk9, sd9, k2, u2, qd9, hck2, hr2, hR9, hmd3⟩ | ⟨hc2, hr2, hmd3⟩ | ⟨hc2, hr2, hmd3⟩ | ⟨z2, hz0, hz7, hc2, hr2, hmd3⟩
    · skip
      have hcls3 : clsP E ad N w3 d kk ((cmS 4 k1 u1 S1.1 S1.2.1 S1.2.2.1 S1.2.2.2.1 S1.2.2.2.2.1 S1.2.2.2.2.2.1 S1.2.2.2.2.2.2.1 S1.2.2.2.2.2.2.2.1 S1.2.2.2.2.2.2.2.2.1 S1.2.2.2.2.2.2.2.2.2).2) ((pl + 1) % 8) (min (ct + 1) 8) (va_up K pl (cpS (S1.1, S1.2.1, S1.2.2.1, S1.2.2.2.1, S1.2.2.2.2.1, S1.2.2.2.2.2.1, S1.2.2.2.2.2.2.1, S1.2.2.2.2.2.2.2.1, S1.2.2.2.2.2.2.2.2.1, S1.2.2.2.2.2.2.2.2.2) (K pl))) sv Z fp dq dd dc bf ln tx := hcls2.fr (fun p hp => hfr p (by show ¬ _; (try dsimp only [gIn]); omega))
      have hfo3 := (hfr (d + 128) (by show ¬ _; (try dsimp only [gIn]); omega)).trans hfo2
      have hfd3 := (hfr (d + 129) (by show ¬ _; (try dsimp only [gIn]); omega)).trans hfd2
      have hcs := cmS_one (ht := S1.1) (dr := S1.2.1) (pg := S1.2.2.1) (wt := S1.2.2.2.1) (wr := S1.2.2.2.2.1) (mo := S1.2.2.2.2.2.1) (ni := S1.2.2.2.2.2.2.2.1) (po := S1.2.2.2.2.2.2.2.2.1) (dn := S1.2.2.2.2.2.2.2.2.2) (by decide) hck1 hck2
      rw [← hcs] at hr2 hR9
      rw [if_pos rfl, if_pos rfl] at hmd3
      have hv9 : v1 = rz2 := hv1.trans hr2.symm
      rw [hv9] at hf1
      refine lv_istore (lv' := [(7, .int rz2), (6, .int (nI (0))), (5, .int (nI (i))), (0, .ref (sa)), (1, .ref (ad (d))), (2, .ref (ad (d + 116))), (3, .ref (ad (d + 128))), (4, .ref (ad (d + 129)))]) hx hb dL_law_915 hl (by decide) rfl (fun ls hl => ?_)
      refine lv_aload_n hx hb dL_law_917 rfl (lv_at hl 5 rfl) ?_
      refine g_afi (g_runV S hI hP hS (k := 0) (As := []) (rest := []) (mX13_thrown l _ _ _ _ _ _ _ _ _ _ _ _ _ _ _ _ _ _ _ _ _ _ _ _ _ hmd3) q1860 q1861 q1862 q100 q1863 rfl rfl (by decide +kernel) ⟨(Nat.le_trans (Nat.le_of_ble_eq_true rfl : _ ≤ 64) hRf), (Nat.le_trans (Nat.le_of_ble_eq_true rfl : _ ≤ 2000) hRl)⟩ rfl (hmd3.lt 0 (by decide)) (hmd3.2 0 (by decide)) rfl hl.1 rfl (Nat.le_of_ble_eq_true rfl) ⟨by omega, by omega⟩ dL_law_918) hS (fun rz9 w9 H locs hq9 hP hS => ?_)
      obtain ⟨hr9, hw9⟩ := hq9
      rw [hw9] at hP
      rw [hr9]
      refine lv_iload hx hb dL_law_921 (lv_at hl 1 rfl) ?_
      refine g_eq S (a := 0) (b := 0) (by omega) (by omega) (tgt := 928) dL_law_923 (by decide) (fun hb9 => ?_) (fun hb9 => ?_)
      · refine lv_iload hx hb dL_law_928 (lv_at hl 1 rfl) ?_
        refine g_ifne S (a := 0) (by omega) (tgt := 945) dL_law_930 (by decide) (fun hb8 => ?_) (fun hb8 => ?_)
        · omega
        · refine lv_aload_n hx hb dL_law_933 rfl (lv_at hl 6 rfl) ?_
          refine g_iconst S 0 dL_law_934 (by decide +kernel) ?_
          refine g_lald S hI hP (o := d + 128) (by omega) hfo3 dL_law_935 ?_
          rw [hf1]
          refine lv_iload hx hb dL_law_936 (lv_at hl 0 rfl) ?_
          refine lv_i2l hx hb dL_law_938 rfl ?_
          refine g_lcmpE S dL_law_939 ?_
          refine g_ifeq S (a := 0) (by omega) (tgt := 945) dL_law_940 (by decide) (fun hb7 => ?_) (fun hb7 => ?_)
          · refine lv_goto (tgt := 2997) hx hb dL_law_945 (by decide) ?_
            exact W.widen (k := cells + 234) (n := slots + 2848) (by omega) (by omega) (kk9 ad N _ _ _ _ ⟨_, _, _, _, _, _, _, _, _, _, _, _, _, _, _, _, _, _, _, _, _, _, _, _, _, _, _, _, _, _, _, _, hcls3, hmd3, ⟨_, hfo3⟩, ⟨_, hfd3⟩, ⟨⟨hR9, cmS_q (S := S1) hrow.2.1 (by decide) hck1 (fun h => absurd h (by decide)), Nat.le_trans (cmS_w (S := S1) hck1.1 (fun _ => by have e9 := cmR_u4 hc1; rw [hck1.2.2.2.1 (Or.inr (Or.inl rfl)), nI_clamp hck1.2.1] at e9; exact e9)) (by have := hrow.2.2; omega)⟩, (hhis.keep hrow).le (by omega), ⟨hsnp.1, fun z => (hsnp.2.1 z).le (by omega), hsnp.2.2⟩, hDat.2.2.2⟩⟩ hP hS (lv_sub hl [2, 3, 4, 5, 6, 7] rfl))
          · omega
      · exact absurd rfl hb9
    · skip
      exact absurd (hc1.symm.trans hc2) (by decide +kernel)
    · skip
      exact absurd (hc1.symm.trans hc2) (by decide +kernel)
    · skip
      have := nI_7 z2 hz7 0 (by decide) (hc2.symm.trans hc1)
      omega
  · skip
    rw [hrz]
    have hq := hq.resolve_right (fun z => z.elim (fun y => absurd y.1 (by decide)) (fun y => absurd y.1 (by decide)))
    obtain ⟨-, hc1, hfw, hd9, hs9n, hh9⟩ := hq
    have hclsW : clsP E ad N w1 d kk S1 pl ct K sv Z fp dq dd dc bf ln tx := hcls.chg hd9 hs9n hh9 (fun p hp => hfw p (by show ¬ _; (try simp only [gIn]); (try dsimp only); omega))
    have hmdW : bkP N w1 (d + 116) 12 (MDC E ad (d + 116) g kp svr bfr sd bf sg mk td lv tl sv qc (0 : Nat) qd co wy de ca ln fp sm pa tm) := hmd.fr hfw (fun k hk => (by show ¬ _; (try simp only [gIn]); (try dsimp only); omega))
    have hfoW := (hfw (d + 128) (by show ¬ _; (try simp only [gIn]); (try dsimp only); omega)).trans hfo
    have hfdW := (hfw (d + 129) (by show ¬ _; (try simp only [gIn]); (try dsimp only); omega)).trans hfd
    obtain ⟨wb, hwb⟩ : ∃ z, z = w1 := ⟨_, rfl⟩
    rw [← hwb] at hP
    have hcls2 : clsP E ad N wb d kk S1 pl ct K sv Z fp dq dd dc bf ln tx := by rw [hwb]; exact hclsW
    have hmd2 : bkP N wb (d + 116) 12 (MDC E ad (d + 116) g kp svr bfr sd bf sg mk td lv tl sv qc (0 : Nat) qd co wy de ca ln fp sm pa tm) := by rw [hwb]; exact hmdW
    have hfo2 : wb (d + 128) = loE E fo := by rw [hwb]; exact hfoW
    have hfd2 : wb (d + 129) = doE E fd := by rw [hwb]; exact hfdW
    refine lv_istore (lv' := [(6, .int (nI (1))), (5, .int (nI (i))), (0, .ref (sa)), (1, .ref (ad (d))), (2, .ref (ad (d + 116))), (3, .ref (ad (d + 128))), (4, .ref (ad (d + 129)))]) hx hb dL_law_891 hl (by decide) rfl (fun ls hl => ?_)
    refine lv_aload_n hx hb dL_law_893 rfl (lv_at hl 4 rfl) ?_
    refine lv_aload_n hx hb dL_law_894 rfl (lv_at hl 2 rfl) ?_
    refine lv_iload hx hb dL_law_895 (lv_at hl 1 rfl) ?_
    refine g_iconst S 1 dL_law_897 (by decide +kernel) ?_
    refine g_iadd S dL_law_898 ?_
    refine g_sld S hX hsa hsA hS (i + 1) (by omega) hL dL_law_899 ?_
    refine lv_aload_n hx hb dL_law_900 rfl (lv_at hl 2 rfl) ?_
    refine lv_iload hx hb dL_law_901 (lv_at hl 1 rfl) ?_
    refine g_iconst S 2 dL_law_903 (by decide +kernel) ?_
    refine g_iadd S dL_law_904 ?_
    refine g_sld S hX hsa hsA hS (i + 2) (by omega) hL dL_law_905 ?_
    refine lv_aload_n hx hb dL_law_906 rfl (lv_at hl 2 rfl) ?_
    refine lv_iload hx hb dL_law_907 (lv_at hl 1 rfl) ?_
    refine g_iconst S 3 dL_law_909 (by decide +kernel) ?_
    refine g_iadd S dL_law_910 ?_
    refine g_sld S hX hsa hsA hS (i + 3) (by omega) hL dL_law_911 ?_
    refine g_afi (g_runV S hI hP hS (k := 3) (As := [.int (xs (i + 1)), .int (xs (i + 2)), .int (xs (i + 3))]) (rest := []) (mX13_pour l (d + 116) g kp svr bfr sd bf sg mk td lv tl sv qc (0 : Nat) qd co wy de ca ln fp sm pa tm S1.1 S1.2.1 S1.2.2.1 S1.2.2.2.1 S1.2.2.2.2.1 S1.2.2.2.2.2.1 S1.2.2.2.2.2.2.1 S1.2.2.2.2.2.2.2.1 S1.2.2.2.2.2.2.2.2.1 S1.2.2.2.2.2.2.2.2.2 (xs (i + 1)) (xs (i + 2)) (xs (i + 3)) hmd2 hrow.1 hrow.2.1.1 hrow.2.1.2.1 hrow.2.1.2.2.1 hrow.2.1.2.2.2.1 hrow.2.1.2.2.2.2 (by decide) (by have := hhis.1; have := hhis.2.1; omega)) q1952 q1953 q1954 q100 q1955 rfl rfl (by decide +kernel) ⟨(Nat.le_trans (Nat.le_of_ble_eq_true rfl : _ ≤ 64) hRf), (Nat.le_trans (Nat.le_of_ble_eq_true rfl : _ ≤ 2000) hRl)⟩ rfl (hmd2.lt 0 (by decide)) (hmd2.2 0 (by decide)) rfl hl.1 rfl (Nat.le_of_ble_eq_true rfl) ⟨by omega, by omega⟩ dL_law_912) hS (fun rz2 w3 H locs hq2 hP hS => ?_)
    obtain ⟨hq2, hfr⟩ := hq2
    rcases hq2 with ⟨hc2, g9, mk9, sd9, k2, u2, qd9, hck2, hr2, hR9, hmd3⟩ | ⟨hc2, hr2, hmd3⟩ | ⟨hc2, hr2, hmd3⟩ | ⟨z2, hz0, hz7, hc2, hr2, hmd3⟩
    · skip
      exact absurd (hc1.symm.trans hc2) (by decide +kernel)
    · skip
      have hcls3 : clsP E ad N w3 d kk S1 pl ct K sv Z fp dq dd dc bf ln tx := hcls2.fr (fun p hp => hfr p (by show ¬ _; (try dsimp only [gIn]); omega))
      have hfo3 := (hfr (d + 128) (by show ¬ _; (try dsimp only [gIn]); omega)).trans hfo2
      have hfd3 := (hfr (d + 129) (by show ¬ _; (try dsimp only [gIn]); omega)).trans hfd2
      refine lv_istore (lv' := [(7, .int rz2), (6, .int (nI (1))), (5, .int (nI (i))), (0, .ref (sa)), (1, .ref (ad (d))), (2, .ref (ad (d + 116))), (3, .ref (ad (d + 128))), (4, .ref (ad (d + 129)))]) hx hb dL_law_915 hl (by decide) rfl (fun ls hl => ?_)
      refine lv_aload_n hx hb dL_law_917 rfl (lv_at hl 5 rfl) ?_
      refine g_afi (g_runV S hI hP hS (k := 0) (As := []) (rest := []) (mX13_thrown l _ _ _ _ _ _ _ _ _ _ _ _ _ _ _ _ _ _ _ _ _ _ _ _ _ hmd3) q1860 q1861 q1862 q100 q1863 rfl rfl (by decide +kernel) ⟨(Nat.le_trans (Nat.le_of_ble_eq_true rfl : _ ≤ 64) hRf), (Nat.le_trans (Nat.le_of_ble_eq_true rfl : _ ≤ 2000) hRl)⟩ rfl (hmd3.lt 0 (by decide)) (hmd3.2 0 (by decide)) rfl hl.1 rfl (Nat.le_of_ble_eq_true rfl) ⟨by omega, by omega⟩ dL_law_918) hS (fun rz9 w9 H locs hq9 hP hS => ?_)
      obtain ⟨hr9, hw9⟩ := hq9
      rw [hw9] at hP
      rw [hr9]
      refine lv_iload hx hb dL_law_921 (lv_at hl 1 rfl) ?_
      refine g_eq S (a := 1) (b := 1) (by omega) (by omega) (tgt := 928) dL_law_923 (by decide) (fun hb9 => ?_) (fun hb9 => ?_)
      · refine lv_iload hx hb dL_law_928 (lv_at hl 1 rfl) ?_
        refine g_ifne S (a := 1) (by omega) (tgt := 945) dL_law_930 (by decide) (fun hb8 => ?_) (fun hb8 => ?_)
        · refine lv_goto (tgt := 2997) hx hb dL_law_945 (by decide) ?_
          exact W.widen (k := cells + 234) (n := slots + 2848) (by omega) (by omega) (kk9 ad N _ _ _ _ ⟨_, _, _, _, _, _, _, _, _, _, _, _, _, _, _, _, _, _, _, _, _, _, _, _, _, _, _, _, _, _, _, _, hcls3, hmd3, ⟨_, hfo3⟩, ⟨_, hfd3⟩, hDat.le (by omega)⟩ hP hS (lv_sub hl [2, 3, 4, 5, 6, 7] rfl))
        · omega
      · exact absurd rfl hb9
    · skip
      exact absurd (hc1.symm.trans hc2) (by decide +kernel)
    · skip
      exact absurd (hc2.symm.trans hc1) (nI_7m1 z2 hz7)
  · skip
    rw [hrz]
    have hq := (hq.resolve_left (fun y => absurd y.1 (by decide))).resolve_right (fun y => absurd y.1 (by decide))
    obtain ⟨-, hc1, hfw, hd9, hs9n, hh9⟩ := hq
    have hclsW : clsP E ad N w1 d kk S1 pl ct K sv Z fp dq dd dc bf ln tx := hcls.chg hd9 hs9n hh9 (fun p hp => hfw p (by show ¬ _; (try simp only [gIn]); (try dsimp only); omega))
    have hmdW : bkP N w1 (d + 116) 12 (MDC E ad (d + 116) g kp svr bfr sd bf sg mk td lv tl sv qc (0 : Nat) qd co wy de ca ln fp sm pa tm) := hmd.fr hfw (fun k hk => (by show ¬ _; (try simp only [gIn]); (try dsimp only); omega))
    have hfoW := (hfw (d + 128) (by show ¬ _; (try simp only [gIn]); (try dsimp only); omega)).trans hfo
    have hfdW := (hfw (d + 129) (by show ¬ _; (try simp only [gIn]); (try dsimp only); omega)).trans hfd
    obtain ⟨wb, hwb⟩ : ∃ z, z = w1 := ⟨_, rfl⟩
    rw [← hwb] at hP
    have hcls2 : clsP E ad N wb d kk S1 pl ct K sv Z fp dq dd dc bf ln tx := by rw [hwb]; exact hclsW
    have hmd2 : bkP N wb (d + 116) 12 (MDC E ad (d + 116) g kp svr bfr sd bf sg mk td lv tl sv qc (0 : Nat) qd co wy de ca ln fp sm pa tm) := by rw [hwb]; exact hmdW
    have hfo2 : wb (d + 128) = loE E fo := by rw [hwb]; exact hfoW
    have hfd2 : wb (d + 129) = doE E fd := by rw [hwb]; exact hfdW
    refine lv_istore (lv' := [(6, .int (nI (2))), (5, .int (nI (i))), (0, .ref (sa)), (1, .ref (ad (d))), (2, .ref (ad (d + 116))), (3, .ref (ad (d + 128))), (4, .ref (ad (d + 129)))]) hx hb dL_law_891 hl (by decide) rfl (fun ls hl => ?_)
    refine lv_aload_n hx hb dL_law_893 rfl (lv_at hl 4 rfl) ?_
    refine lv_aload_n hx hb dL_law_894 rfl (lv_at hl 2 rfl) ?_
    refine lv_iload hx hb dL_law_895 (lv_at hl 1 rfl) ?_
    refine g_iconst S 1 dL_law_897 (by decide +kernel) ?_
    refine g_iadd S dL_law_898 ?_
    refine g_sld S hX hsa hsA hS (i + 1) (by omega) hL dL_law_899 ?_
    refine lv_aload_n hx hb dL_law_900 rfl (lv_at hl 2 rfl) ?_
    refine lv_iload hx hb dL_law_901 (lv_at hl 1 rfl) ?_
    refine g_iconst S 2 dL_law_903 (by decide +kernel) ?_
    refine g_iadd S dL_law_904 ?_
    refine g_sld S hX hsa hsA hS (i + 2) (by omega) hL dL_law_905 ?_
    refine lv_aload_n hx hb dL_law_906 rfl (lv_at hl 2 rfl) ?_
    refine lv_iload hx hb dL_law_907 (lv_at hl 1 rfl) ?_
    refine g_iconst S 3 dL_law_909 (by decide +kernel) ?_
    refine g_iadd S dL_law_910 ?_
    refine g_sld S hX hsa hsA hS (i + 3) (by omega) hL dL_law_911 ?_
    refine g_afi (g_runV S hI hP hS (k := 3) (As := [.int (xs (i + 1)), .int (xs (i + 2)), .int (xs (i + 3))]) (rest := []) (mX13_pour l (d + 116) g kp svr bfr sd bf sg mk td lv tl sv qc (0 : Nat) qd co wy de ca ln fp sm pa tm S1.1 S1.2.1 S1.2.2.1 S1.2.2.2.1 S1.2.2.2.2.1 S1.2.2.2.2.2.1 S1.2.2.2.2.2.2.1 S1.2.2.2.2.2.2.2.1 S1.2.2.2.2.2.2.2.2.1 S1.2.2.2.2.2.2.2.2.2 (xs (i + 1)) (xs (i + 2)) (xs (i + 3)) hmd2 hrow.1 hrow.2.1.1 hrow.2.1.2.1 hrow.2.1.2.2.1 hrow.2.1.2.2.2.1 hrow.2.1.2.2.2.2 (by decide) (by have := hhis.1; have := hhis.2.1; omega)) q1952 q1953 q1954 q100 q1955 rfl rfl (by decide +kernel) ⟨(Nat.le_trans (Nat.le_of_ble_eq_true rfl : _ ≤ 64) hRf), (Nat.le_trans (Nat.le_of_ble_eq_true rfl : _ ≤ 2000) hRl)⟩ rfl (hmd2.lt 0 (by decide)) (hmd2.2 0 (by decide)) rfl hl.1 rfl (Nat.le_of_ble_eq_true rfl) ⟨by omega, by omega⟩ dL_law_912) hS (fun rz2 w3 H locs hq2 hP hS => ?_)
    obtain ⟨hq2, hfr⟩ := hq2
    rcases hq2 with ⟨hc2, g9, mk9, sd9, k2, u2, qd9, hck2, hr2, hR9, hmd3⟩ | ⟨hc2, hr2, hmd3⟩ | ⟨hc2, hr2, hmd3⟩ | ⟨z2, hz0, hz7, hc2, hr2, hmd3⟩
    · skip
      exact absurd (hc1.symm.trans hc2) (by decide +kernel)
    · skip
      exact absurd (hc1.symm.trans hc2) (by decide +kernel)
    · skip
      have hcls3 : clsP E ad N w3 d kk S1 pl ct K sv Z fp dq dd dc bf ln tx := hcls2.fr (fun p hp => hfr p (by show ¬ _; (try dsimp only [gIn]); omega))
      have hfo3 := (hfr (d + 128) (by show ¬ _; (try dsimp only [gIn]); omega)).trans hfo2
      have hfd3 := (hfr (d + 129) (by show ¬ _; (try dsimp only [gIn]); omega)).trans hfd2
      refine lv_istore (lv' := [(7, .int rz2), (6, .int (nI (2))), (5, .int (nI (i))), (0, .ref (sa)), (1, .ref (ad (d))), (2, .ref (ad (d + 116))), (3, .ref (ad (d + 128))), (4, .ref (ad (d + 129)))]) hx hb dL_law_915 hl (by decide) rfl (fun ls hl => ?_)
      refine lv_aload_n hx hb dL_law_917 rfl (lv_at hl 5 rfl) ?_
      refine g_afi (g_runV S hI hP hS (k := 0) (As := []) (rest := []) (mX13_thrown l _ _ _ _ _ _ _ _ _ _ _ _ _ _ _ _ _ _ _ _ _ _ _ _ _ hmd3) q1860 q1861 q1862 q100 q1863 rfl rfl (by decide +kernel) ⟨(Nat.le_trans (Nat.le_of_ble_eq_true rfl : _ ≤ 64) hRf), (Nat.le_trans (Nat.le_of_ble_eq_true rfl : _ ≤ 2000) hRl)⟩ rfl (hmd3.lt 0 (by decide)) (hmd3.2 0 (by decide)) rfl hl.1 rfl (Nat.le_of_ble_eq_true rfl) ⟨by omega, by omega⟩ dL_law_918) hS (fun rz9 w9 H locs hq9 hP hS => ?_)
      obtain ⟨hr9, hw9⟩ := hq9
      rw [hw9] at hP
      rw [hr9]
      refine lv_iload hx hb dL_law_921 (lv_at hl 1 rfl) ?_
      refine g_eq S (a := 2) (b := 2) (by omega) (by omega) (tgt := 928) dL_law_923 (by decide) (fun hb9 => ?_) (fun hb9 => ?_)
      · refine lv_iload hx hb dL_law_928 (lv_at hl 1 rfl) ?_
        refine g_ifne S (a := 2) (by omega) (tgt := 945) dL_law_930 (by decide) (fun hb8 => ?_) (fun hb8 => ?_)
        · refine lv_goto (tgt := 2997) hx hb dL_law_945 (by decide) ?_
          exact W.widen (k := cells + 234) (n := slots + 2848) (by omega) (by omega) (kk9 ad N _ _ _ _ ⟨_, _, _, _, _, _, _, _, _, _, _, _, _, _, _, _, _, _, _, _, _, _, _, _, _, _, _, _, _, _, _, _, hcls3, hmd3, ⟨_, hfo3⟩, ⟨_, hfd3⟩, hDat.le (by omega)⟩ hP hS (lv_sub hl [2, 3, 4, 5, 6, 7] rfl))
        · omega
      · exact absurd rfl hb9
    · skip
      exact absurd (hc2.symm.trans hc1) (nI_7m2 z2 hz7)
set_option maxHeartbeats 4000000 in
set_option maxRecDepth 100000 in
/-- the law's case 25: addMoth -/
theorem lc_25 (kk : Nat → Nat) (hlt : l.stackTraces = false) (hz : gHx E) (hzv : gHv E kk) (hn : gHn E) (S : gFix p m c cL_law 10 s args RL) (hI : gI E s s.heap) (hP : gP E ad N w H) (hS : va_S (gA E) s.heap H locs) (hRf : 64 ≤ R.frames) (hRl : 2000 ≤ R.locals) (hRc : cells + 234 ≤ R.cells) (hRs : slots + 2848 ≤ R.slots) {d B i sa L : Nat} {xs : Nat → Int32} (hB : B ≤ 600000) (hinv : lawP E kk ad N w d B) (hX : va_X sa L xs s s.heap) (hsa : sa < s.heap.size) (hsA : ¬ gA E sa) (hi : i + 5 ≤ L) (hL : L < 2 ^ 31) (hl : lv_has ls 10 [(5, .int (nI (i))), (0, .ref (sa)), (1, .ref (ad (d))), (2, .ref (ad (d + 116))), (3, .ref (ad (d + 128))), (4, .ref (ad (d + 129)))])
    (kk9 : ∀ (ad' : Nat → Nat) (N' : Nat) (w' : Nat → va_E) (H' : Heap) (locs' : List Loc) (ls' : Array Slot), lawP E kk ad' N' w' d (B + 1000) → gP E ad' N' w' H' → va_S (gA E) s.heap H' locs' → lv_has ls' 10 [(5, .int (nI (i))), (0, .ref (sa)), (1, .ref (ad' (d))), (2, .ref (ad' (d + 116))), (3, .ref (ad' (d + 128))), (4, .ref (ad' (d + 129)))] → W p l e R s m args below meth c H' locs' (cells + 234) (slots + 2848) Q (F0 m 2997 ls' [])) :
    W p l e R s m args below meth c H locs cells slots Q (F0 m 1831 ls []) := by
  have hx := S.1
  have hb := S.2.1
  obtain ⟨S1, pl, ct, K, sv, Z, fp, dq, dd, dc, bf, ln, tx, g, kp, svr, bfr, sd, sg, mk, td, lv, tl, qc, qd, co, wy, de, ca, sm, pa, tm, hcls, hmd, ⟨fo, hfo⟩, ⟨fd, hfd⟩, hDat⟩ := hinv
  obtain ⟨hdN, ⟨hbd, hbs, hbz, ⟨A0, hba⟩, ⟨T0, hbt⟩, hhs⟩, hscr, hprs, hsb⟩ := id hcls
  obtain ⟨hrow, hhis, hsnp, hden, hbuf, hlin, hfp⟩ := id hDat
  obtain ⟨hs1, ⟨re, ce, rc, tc, hs2⟩, ⟨pa0, hs3⟩, ⟨ra, rk, hs4⟩, hs5, ⟨wa, ke, hs6, hs6a, hs6b⟩, ⟨lv0, hs7⟩, ⟨pn, hs8⟩, ⟨wa2, ke2, hs9, hs9a, hs9b⟩, ⟨re2, ce2, rc2, tc2, hs10⟩, ⟨pa2, hs11⟩, ⟨lv2, hs12⟩, ⟨pq, hs13⟩⟩ := id hscr
  refine lv_aload_n hx hb dL_law_1831 rfl (lv_at hl 2 rfl) ?_
  refine lv_aload_n hx hb dL_law_1832 rfl (lv_at hl 1 rfl) ?_
  refine lv_iload hx hb dL_law_1833 (lv_at hl 0 rfl) ?_
  refine g_iconst S 1 dL_law_1835 (by decide +kernel) ?_
  refine g_iadd S dL_law_1836 ?_
  refine g_sld S hX hsa hsA hS (i + 1) (by omega) hL dL_law_1837 ?_
  refine lv_aload_n hx hb dL_law_1838 rfl (lv_at hl 1 rfl) ?_
  refine lv_iload hx hb dL_law_1839 (lv_at hl 0 rfl) ?_
  refine g_iconst S 2 dL_law_1841 (by decide +kernel) ?_
  refine g_iadd S dL_law_1842 ?_
  refine g_sld S hX hsa hsA hS (i + 2) (by omega) hL dL_law_1843 ?_
  refine lv_aload_n hx hb dL_law_1844 rfl (lv_at hl 4 rfl) ?_
  refine g_afi (g_runSW S hI hP hS (hh := [(0, 10, 13, 13), (0, 10, 17, 17)]) (k := 4) (As := [.ref (ad (d)), .int (xs (i + 1)), .int (xs (i + 2)), .ref (ad (d + 128))]) (rest := []) (mL_addMoth l d (d + 128) (xs (i + 1)) (xs (i + 2)) hz hn (hbd.lt 0 (by decide)) (hbd.2 0 (by decide)) (mX12_addMoth l kk hzv d sv fp dq dd dc S1.1 S1.2.1 S1.2.2.1 S1.2.2.2.1 S1.2.2.2.2.1 S1.2.2.2.2.2.1 S1.2.2.2.2.2.2.1 S1.2.2.2.2.2.2.2.1 S1.2.2.2.2.2.2.2.2.1 S1.2.2.2.2.2.2.2.2.2 pl ct K (xs (i + 1)) (xs (i + 2)) hbd hbs hlt hz (by omega) hhs hhis.2.2.1 hhis.2.1 hrow.2.1.1 hrow.2.1.2.1 hrow.2.1.2.2.1 hrow.2.1.2.2.2.1 hrow.2.1.2.2.2.2) (by omega) (fun r w' h => (by obtain ⟨k9, u9, -, -, -, -, -, -, hfw⟩ := h; exact ⟨fo, (hfw (d + 128) (by show ¬ _; (try simp only [gIn]); (try dsimp only); omega)).trans hfo⟩)) (fun xc w' h => h.elim (fun z => Or.inl z.1) (fun h => h.elim (fun z => absurd z.2.1 (cmR_n2 (by decide) (by decide))) (fun z => Or.inr (z.1))))) q1157 q1158 q81 q1159 rfl rfl (by decide +kernel) ⟨(Nat.le_trans (Nat.le_of_ble_eq_true rfl : _ ≤ 64) hRf), (Nat.le_trans (Nat.le_of_ble_eq_true rfl : _ ≤ 2000) hRl)⟩ rfl hl.1 rfl (Nat.le_of_ble_eq_true rfl) ⟨by omega, by omega⟩ dL_law_1845) hS (fun rz w1 H locs hq hP hS => ?_)
  rcases hq with ⟨v1, f1, w2, hrz, hf1, hw2, hq⟩ | ⟨hrz, hq⟩ | ⟨hrz, hq⟩
  · skip
    rw [hw2] at hP
    rw [hrz]
    obtain ⟨k1, u1, hck1, hc1, hv1, hs9n, hh9, hd9, hfw⟩ := hq
    have hclsW : clsP E ad N w2 d kk ((cmS 6 k1 u1 S1.1 S1.2.1 S1.2.2.1 S1.2.2.2.1 S1.2.2.2.2.1 S1.2.2.2.2.2.1 S1.2.2.2.2.2.2.1 S1.2.2.2.2.2.2.2.1 S1.2.2.2.2.2.2.2.2.1 S1.2.2.2.2.2.2.2.2.2).2) ((pl + 1) % 8) (min (ct + 1) 8) (va_up K pl (cpS (S1.1, S1.2.1, S1.2.2.1, S1.2.2.2.1, S1.2.2.2.2.1, S1.2.2.2.2.2.1, S1.2.2.2.2.2.2.1, S1.2.2.2.2.2.2.2.1, S1.2.2.2.2.2.2.2.2.1, S1.2.2.2.2.2.2.2.2.2) (K pl))) sv Z fp dq dd dc bf ln tx := hcls.chg hd9 hs9n hh9 (fun p hp => hfw p (by show ¬ _; (try simp only [gIn]); (try dsimp only); omega))
    have hmdW : bkP N w2 (d + 116) 12 (MDC E ad (d + 116) g kp svr bfr sd bf sg mk td lv tl sv qc (0 : Nat) qd co wy de ca ln fp sm pa tm) := hmd.fr hfw (fun k hk => (by show ¬ _; (try simp only [gIn]); (try dsimp only); omega))
    have hfoW := (hfw (d + 128) (by show ¬ _; (try simp only [gIn]); (try dsimp only); omega)).trans hfo
    have hfdW := (hfw (d + 129) (by show ¬ _; (try simp only [gIn]); (try dsimp only); omega)).trans hfd
    obtain ⟨wb, hwb⟩ : ∃ z, z = va_up w2 (d + 128) (loE E f1) := ⟨_, rfl⟩
    rw [← hwb] at hP
    have hcls2 : clsP E ad N wb d kk ((cmS 6 k1 u1 S1.1 S1.2.1 S1.2.2.1 S1.2.2.2.1 S1.2.2.2.2.1 S1.2.2.2.2.2.1 S1.2.2.2.2.2.2.1 S1.2.2.2.2.2.2.2.1 S1.2.2.2.2.2.2.2.2.1 S1.2.2.2.2.2.2.2.2.2).2) ((pl + 1) % 8) (min (ct + 1) 8) (va_up K pl (cpS (S1.1, S1.2.1, S1.2.2.1, S1.2.2.2.1, S1.2.2.2.2.1, S1.2.2.2.2.2.1, S1.2.2.2.2.2.2.1, S1.2.2.2.2.2.2.2.1, S1.2.2.2.2.2.2.2.2.1, S1.2.2.2.2.2.2.2.2.2) (K pl))) sv Z fp dq dd dc bf ln tx := hclsW.fr (fun p hp => by rw [hwb, va_up_ne _ _ (by omega)])
    have hmd2 : bkP N wb (d + 116) 12 (MDC E ad (d + 116) g kp svr bfr sd bf sg mk td lv tl sv qc (0 : Nat) qd co wy de ca ln fp sm pa tm) := by rw [hwb]; exact hmdW.keep (by omega)
    have hfo2 : wb (d + 128) = loE E f1 := by rw [hwb, va_up_self]
    have hfd2 : wb (d + 129) = doE E fd := by rw [hwb, va_up_ne _ _ (by omega)]; exact hfdW
    refine lv_istore (lv' := [(6, .int (nI (0))), (5, .int (nI (i))), (0, .ref (sa)), (1, .ref (ad (d))), (2, .ref (ad (d + 116))), (3, .ref (ad (d + 128))), (4, .ref (ad (d + 129)))]) hx hb dL_law_1848 hl (by decide) rfl (fun ls hl => ?_)
    refine lv_aload_n hx hb dL_law_1850 rfl (lv_at hl 4 rfl) ?_
    refine lv_aload_n hx hb dL_law_1851 rfl (lv_at hl 2 rfl) ?_
    refine lv_iload hx hb dL_law_1852 (lv_at hl 1 rfl) ?_
    refine g_iconst S 1 dL_law_1854 (by decide +kernel) ?_
    refine g_iadd S dL_law_1855 ?_
    refine g_sld S hX hsa hsA hS (i + 1) (by omega) hL dL_law_1856 ?_
    refine lv_aload_n hx hb dL_law_1857 rfl (lv_at hl 2 rfl) ?_
    refine lv_iload hx hb dL_law_1858 (lv_at hl 1 rfl) ?_
    refine g_iconst S 2 dL_law_1860 (by decide +kernel) ?_
    refine g_iadd S dL_law_1861 ?_
    refine g_sld S hX hsa hsA hS (i + 2) (by omega) hL dL_law_1862 ?_
    refine g_afi (g_runV S hI hP hS (k := 2) (As := [.int (xs (i + 1)), .int (xs (i + 2))]) (rest := []) (mX13_addMoth l (d + 116) g kp svr bfr sd bf sg mk td lv tl sv qc (0 : Nat) qd co wy de ca ln fp sm pa tm S1.1 S1.2.1 S1.2.2.1 S1.2.2.2.1 S1.2.2.2.2.1 S1.2.2.2.2.2.1 S1.2.2.2.2.2.2.1 S1.2.2.2.2.2.2.2.1 S1.2.2.2.2.2.2.2.2.1 S1.2.2.2.2.2.2.2.2.2 (xs (i + 1)) (xs (i + 2)) hmd2 hrow.1 hrow.2.1.1 hrow.2.1.2.1 hrow.2.1.2.2.1 hrow.2.1.2.2.2.1 hrow.2.1.2.2.2.2 (by decide) (by have := hhis.1; have := hhis.2.1; omega)) q2055 q2056 q2057 q100 q2058 rfl rfl (by decide +kernel) ⟨(Nat.le_trans (Nat.le_of_ble_eq_true rfl : _ ≤ 64) hRf), (Nat.le_trans (Nat.le_of_ble_eq_true rfl : _ ≤ 2000) hRl)⟩ rfl (hmd2.lt 0 (by decide)) (hmd2.2 0 (by decide)) rfl hl.1 rfl (Nat.le_of_ble_eq_true rfl) ⟨by omega, by omega⟩ dL_law_1863) hS (fun rz2 w3 H locs hq2 hP hS => ?_)
    obtain ⟨hq2, hfr⟩ := hq2
    rcases hq2 with ⟨hc2, g9, mk9, sd9, k2, u2, qd9, hck2, hr2, hR9, hmd3⟩ | ⟨hc2, hr2, hmd3⟩ | ⟨hc2, hr2, hmd3⟩ | ⟨z2, hz0, hz7, hc2, hr2, hmd3⟩
    · skip
      have hcls3 : clsP E ad N w3 d kk ((cmS 6 k1 u1 S1.1 S1.2.1 S1.2.2.1 S1.2.2.2.1 S1.2.2.2.2.1 S1.2.2.2.2.2.1 S1.2.2.2.2.2.2.1 S1.2.2.2.2.2.2.2.1 S1.2.2.2.2.2.2.2.2.1 S1.2.2.2.2.2.2.2.2.2).2) ((pl + 1) % 8) (min (ct + 1) 8) (va_up K pl (cpS (S1.1, S1.2.1, S1.2.2.1, S1.2.2.2.1, S1.2.2.2.2.1, S1.2.2.2.2.2.1, S1.2.2.2.2.2.2.1, S1.2.2.2.2.2.2.2.1, S1.2.2.2.2.2.2.2.2.1, S1.2.2.2.2.2.2.2.2.2) (K pl))) sv Z fp dq dd dc bf ln tx := hcls2.fr (fun p hp => hfr p (by show ¬ _; (try dsimp only [gIn]); omega))
      have hfo3 := (hfr (d + 128) (by show ¬ _; (try dsimp only [gIn]); omega)).trans hfo2
      have hfd3 := (hfr (d + 129) (by show ¬ _; (try dsimp only [gIn]); omega)).trans hfd2
      have hcs := cmS_one (ht := S1.1) (dr := S1.2.1) (pg := S1.2.2.1) (wt := S1.2.2.2.1) (wr := S1.2.2.2.2.1) (mo := S1.2.2.2.2.2.1) (ni := S1.2.2.2.2.2.2.2.1) (po := S1.2.2.2.2.2.2.2.2.1) (dn := S1.2.2.2.2.2.2.2.2.2) (by decide) hck1 hck2
      rw [← hcs] at hr2 hR9
      rw [if_pos rfl, if_pos rfl] at hmd3
      have hv9 : v1 = rz2 := hv1.trans hr2.symm
      rw [hv9] at hf1
      refine lv_istore (lv' := [(7, .int rz2), (6, .int (nI (0))), (5, .int (nI (i))), (0, .ref (sa)), (1, .ref (ad (d))), (2, .ref (ad (d + 116))), (3, .ref (ad (d + 128))), (4, .ref (ad (d + 129)))]) hx hb dL_law_1866 hl (by decide) rfl (fun ls hl => ?_)
      refine lv_aload_n hx hb dL_law_1868 rfl (lv_at hl 5 rfl) ?_
      refine g_afi (g_runV S hI hP hS (k := 0) (As := []) (rest := []) (mX13_thrown l _ _ _ _ _ _ _ _ _ _ _ _ _ _ _ _ _ _ _ _ _ _ _ _ _ hmd3) q1860 q1861 q1862 q100 q1863 rfl rfl (by decide +kernel) ⟨(Nat.le_trans (Nat.le_of_ble_eq_true rfl : _ ≤ 64) hRf), (Nat.le_trans (Nat.le_of_ble_eq_true rfl : _ ≤ 2000) hRl)⟩ rfl (hmd3.lt 0 (by decide)) (hmd3.2 0 (by decide)) rfl hl.1 rfl (Nat.le_of_ble_eq_true rfl) ⟨by omega, by omega⟩ dL_law_1869) hS (fun rz9 w9 H locs hq9 hP hS => ?_)
      obtain ⟨hr9, hw9⟩ := hq9
      rw [hw9] at hP
      rw [hr9]
      refine lv_iload hx hb dL_law_1872 (lv_at hl 1 rfl) ?_
      refine g_eq S (a := 0) (b := 0) (by omega) (by omega) (tgt := 1879) dL_law_1874 (by decide) (fun hb9 => ?_) (fun hb9 => ?_)
      · refine lv_iload hx hb dL_law_1879 (lv_at hl 1 rfl) ?_
        refine g_ifne S (a := 0) (by omega) (tgt := 1896) dL_law_1881 (by decide) (fun hb8 => ?_) (fun hb8 => ?_)
        · omega
        · refine lv_aload_n hx hb dL_law_1884 rfl (lv_at hl 6 rfl) ?_
          refine g_iconst S 0 dL_law_1885 (by decide +kernel) ?_
          refine g_lald S hI hP (o := d + 128) (by omega) hfo3 dL_law_1886 ?_
          rw [hf1]
          refine lv_iload hx hb dL_law_1887 (lv_at hl 0 rfl) ?_
          refine lv_i2l hx hb dL_law_1889 rfl ?_
          refine g_lcmpE S dL_law_1890 ?_
          refine g_ifeq S (a := 0) (by omega) (tgt := 1896) dL_law_1891 (by decide) (fun hb7 => ?_) (fun hb7 => ?_)
          · refine lv_goto (tgt := 2997) hx hb dL_law_1896 (by decide) ?_
            exact W.widen (k := cells + 234) (n := slots + 2848) (by omega) (by omega) (kk9 ad N _ _ _ _ ⟨_, _, _, _, _, _, _, _, _, _, _, _, _, _, _, _, _, _, _, _, _, _, _, _, _, _, _, _, _, _, _, _, hcls3, hmd3, ⟨_, hfo3⟩, ⟨_, hfd3⟩, ⟨⟨hR9, cmS_q (S := S1) hrow.2.1 (by decide) hck1 (fun h => absurd h (by decide)), Nat.le_trans (cmS_w (S := S1) hck1.1 (fun h => absurd h (by decide))) (by have := hrow.2.2; omega)⟩, (hhis.keep hrow).le (by omega), ⟨hsnp.1, fun z => (hsnp.2.1 z).le (by omega), hsnp.2.2⟩, hDat.2.2.2⟩⟩ hP hS (lv_sub hl [2, 3, 4, 5, 6, 7] rfl))
          · omega
      · exact absurd rfl hb9
    · skip
      exact absurd (hc1.symm.trans hc2) (by decide +kernel)
    · skip
      exact absurd (hc1.symm.trans hc2) (by decide +kernel)
    · skip
      have := nI_7 z2 hz7 0 (by decide) (hc2.symm.trans hc1)
      omega
  · skip
    rw [hrz]
    have hq := hq.resolve_right (fun z => z.elim (fun y => absurd y.1 (by decide)) (fun y => absurd y.1 (by decide)))
    obtain ⟨-, hc1, hfw, hd9, hs9n, hh9⟩ := hq
    have hclsW : clsP E ad N w1 d kk S1 pl ct K sv Z fp dq dd dc bf ln tx := hcls.chg hd9 hs9n hh9 (fun p hp => hfw p (by show ¬ _; (try simp only [gIn]); (try dsimp only); omega))
    have hmdW : bkP N w1 (d + 116) 12 (MDC E ad (d + 116) g kp svr bfr sd bf sg mk td lv tl sv qc (0 : Nat) qd co wy de ca ln fp sm pa tm) := hmd.fr hfw (fun k hk => (by show ¬ _; (try simp only [gIn]); (try dsimp only); omega))
    have hfoW := (hfw (d + 128) (by show ¬ _; (try simp only [gIn]); (try dsimp only); omega)).trans hfo
    have hfdW := (hfw (d + 129) (by show ¬ _; (try simp only [gIn]); (try dsimp only); omega)).trans hfd
    obtain ⟨wb, hwb⟩ : ∃ z, z = w1 := ⟨_, rfl⟩
    rw [← hwb] at hP
    have hcls2 : clsP E ad N wb d kk S1 pl ct K sv Z fp dq dd dc bf ln tx := by rw [hwb]; exact hclsW
    have hmd2 : bkP N wb (d + 116) 12 (MDC E ad (d + 116) g kp svr bfr sd bf sg mk td lv tl sv qc (0 : Nat) qd co wy de ca ln fp sm pa tm) := by rw [hwb]; exact hmdW
    have hfo2 : wb (d + 128) = loE E fo := by rw [hwb]; exact hfoW
    have hfd2 : wb (d + 129) = doE E fd := by rw [hwb]; exact hfdW
    refine lv_istore (lv' := [(6, .int (nI (1))), (5, .int (nI (i))), (0, .ref (sa)), (1, .ref (ad (d))), (2, .ref (ad (d + 116))), (3, .ref (ad (d + 128))), (4, .ref (ad (d + 129)))]) hx hb dL_law_1848 hl (by decide) rfl (fun ls hl => ?_)
    refine lv_aload_n hx hb dL_law_1850 rfl (lv_at hl 4 rfl) ?_
    refine lv_aload_n hx hb dL_law_1851 rfl (lv_at hl 2 rfl) ?_
    refine lv_iload hx hb dL_law_1852 (lv_at hl 1 rfl) ?_
    refine g_iconst S 1 dL_law_1854 (by decide +kernel) ?_
    refine g_iadd S dL_law_1855 ?_
    refine g_sld S hX hsa hsA hS (i + 1) (by omega) hL dL_law_1856 ?_
    refine lv_aload_n hx hb dL_law_1857 rfl (lv_at hl 2 rfl) ?_
    refine lv_iload hx hb dL_law_1858 (lv_at hl 1 rfl) ?_
    refine g_iconst S 2 dL_law_1860 (by decide +kernel) ?_
    refine g_iadd S dL_law_1861 ?_
    refine g_sld S hX hsa hsA hS (i + 2) (by omega) hL dL_law_1862 ?_
    refine g_afi (g_runV S hI hP hS (k := 2) (As := [.int (xs (i + 1)), .int (xs (i + 2))]) (rest := []) (mX13_addMoth l (d + 116) g kp svr bfr sd bf sg mk td lv tl sv qc (0 : Nat) qd co wy de ca ln fp sm pa tm S1.1 S1.2.1 S1.2.2.1 S1.2.2.2.1 S1.2.2.2.2.1 S1.2.2.2.2.2.1 S1.2.2.2.2.2.2.1 S1.2.2.2.2.2.2.2.1 S1.2.2.2.2.2.2.2.2.1 S1.2.2.2.2.2.2.2.2.2 (xs (i + 1)) (xs (i + 2)) hmd2 hrow.1 hrow.2.1.1 hrow.2.1.2.1 hrow.2.1.2.2.1 hrow.2.1.2.2.2.1 hrow.2.1.2.2.2.2 (by decide) (by have := hhis.1; have := hhis.2.1; omega)) q2055 q2056 q2057 q100 q2058 rfl rfl (by decide +kernel) ⟨(Nat.le_trans (Nat.le_of_ble_eq_true rfl : _ ≤ 64) hRf), (Nat.le_trans (Nat.le_of_ble_eq_true rfl : _ ≤ 2000) hRl)⟩ rfl (hmd2.lt 0 (by decide)) (hmd2.2 0 (by decide)) rfl hl.1 rfl (Nat.le_of_ble_eq_true rfl) ⟨by omega, by omega⟩ dL_law_1863) hS (fun rz2 w3 H locs hq2 hP hS => ?_)
    obtain ⟨hq2, hfr⟩ := hq2
    rcases hq2 with ⟨hc2, g9, mk9, sd9, k2, u2, qd9, hck2, hr2, hR9, hmd3⟩ | ⟨hc2, hr2, hmd3⟩ | ⟨hc2, hr2, hmd3⟩ | ⟨z2, hz0, hz7, hc2, hr2, hmd3⟩
    · skip
      exact absurd (hc1.symm.trans hc2) (by decide +kernel)
    · skip
      have hcls3 : clsP E ad N w3 d kk S1 pl ct K sv Z fp dq dd dc bf ln tx := hcls2.fr (fun p hp => hfr p (by show ¬ _; (try dsimp only [gIn]); omega))
      have hfo3 := (hfr (d + 128) (by show ¬ _; (try dsimp only [gIn]); omega)).trans hfo2
      have hfd3 := (hfr (d + 129) (by show ¬ _; (try dsimp only [gIn]); omega)).trans hfd2
      refine lv_istore (lv' := [(7, .int rz2), (6, .int (nI (1))), (5, .int (nI (i))), (0, .ref (sa)), (1, .ref (ad (d))), (2, .ref (ad (d + 116))), (3, .ref (ad (d + 128))), (4, .ref (ad (d + 129)))]) hx hb dL_law_1866 hl (by decide) rfl (fun ls hl => ?_)
      refine lv_aload_n hx hb dL_law_1868 rfl (lv_at hl 5 rfl) ?_
      refine g_afi (g_runV S hI hP hS (k := 0) (As := []) (rest := []) (mX13_thrown l _ _ _ _ _ _ _ _ _ _ _ _ _ _ _ _ _ _ _ _ _ _ _ _ _ hmd3) q1860 q1861 q1862 q100 q1863 rfl rfl (by decide +kernel) ⟨(Nat.le_trans (Nat.le_of_ble_eq_true rfl : _ ≤ 64) hRf), (Nat.le_trans (Nat.le_of_ble_eq_true rfl : _ ≤ 2000) hRl)⟩ rfl (hmd3.lt 0 (by decide)) (hmd3.2 0 (by decide)) rfl hl.1 rfl (Nat.le_of_ble_eq_true rfl) ⟨by omega, by omega⟩ dL_law_1869) hS (fun rz9 w9 H locs hq9 hP hS => ?_)
      obtain ⟨hr9, hw9⟩ := hq9
      rw [hw9] at hP
      rw [hr9]
      refine lv_iload hx hb dL_law_1872 (lv_at hl 1 rfl) ?_
      refine g_eq S (a := 1) (b := 1) (by omega) (by omega) (tgt := 1879) dL_law_1874 (by decide) (fun hb9 => ?_) (fun hb9 => ?_)
      · refine lv_iload hx hb dL_law_1879 (lv_at hl 1 rfl) ?_
        refine g_ifne S (a := 1) (by omega) (tgt := 1896) dL_law_1881 (by decide) (fun hb8 => ?_) (fun hb8 => ?_)
        · refine lv_goto (tgt := 2997) hx hb dL_law_1896 (by decide) ?_
          exact W.widen (k := cells + 234) (n := slots + 2848) (by omega) (by omega) (kk9 ad N _ _ _ _ ⟨_, _, _, _, _, _, _, _, _, _, _, _, _, _, _, _, _, _, _, _, _, _, _, _, _, _, _, _, _, _, _, _, hcls3, hmd3, ⟨_, hfo3⟩, ⟨_, hfd3⟩, hDat.le (by omega)⟩ hP hS (lv_sub hl [2, 3, 4, 5, 6, 7] rfl))
        · omega
      · exact absurd rfl hb9
    · skip
      exact absurd (hc1.symm.trans hc2) (by decide +kernel)
    · skip
      exact absurd (hc2.symm.trans hc1) (nI_7m1 z2 hz7)
  · skip
    rw [hrz]
    have hq := (hq.resolve_left (fun y => absurd y.1 (by decide))).resolve_left (fun y => absurd y.1 (by decide))
    obtain ⟨-, n1, hn0, hn7, hc1, hd9, hs9n, hh9, hfw⟩ := hq
    have hclsW : clsP E ad N w1 d kk S1 pl ct K sv Z fp (some n1) (cmT S1.2.2.1 S1.2.2.2.2.1 S1.2.2.2.2.2.1 S1.2.2.2.2.2.2.1 n1 (cellV (xs (i + 1)) (xs (i + 2))) (-1)) none bf ln tx := hcls.chg hd9 hs9n hh9 (fun p hp => hfw p (by show ¬ _; (try simp only [gIn]); (try dsimp only); omega))
    have hmdW : bkP N w1 (d + 116) 12 (MDC E ad (d + 116) g kp svr bfr sd bf sg mk td lv tl sv qc (0 : Nat) qd co wy de ca ln fp sm pa tm) := hmd.fr hfw (fun k hk => (by show ¬ _; (try simp only [gIn]); (try dsimp only); omega))
    have hfoW := (hfw (d + 128) (by show ¬ _; (try simp only [gIn]); (try dsimp only); omega)).trans hfo
    have hfdW := (hfw (d + 129) (by show ¬ _; (try simp only [gIn]); (try dsimp only); omega)).trans hfd
    obtain ⟨wb, hwb⟩ : ∃ z, z = w1 := ⟨_, rfl⟩
    rw [← hwb] at hP
    have hcls2 : clsP E ad N wb d kk S1 pl ct K sv Z fp (some n1) (cmT S1.2.2.1 S1.2.2.2.2.1 S1.2.2.2.2.2.1 S1.2.2.2.2.2.2.1 n1 (cellV (xs (i + 1)) (xs (i + 2))) (-1)) none bf ln tx := by rw [hwb]; exact hclsW
    have hmd2 : bkP N wb (d + 116) 12 (MDC E ad (d + 116) g kp svr bfr sd bf sg mk td lv tl sv qc (0 : Nat) qd co wy de ca ln fp sm pa tm) := by rw [hwb]; exact hmdW
    have hfo2 : wb (d + 128) = loE E fo := by rw [hwb]; exact hfoW
    have hfd2 : wb (d + 129) = doE E fd := by rw [hwb]; exact hfdW
    refine lv_istore (lv' := [(6, .int (nI (2))), (5, .int (nI (i))), (0, .ref (sa)), (1, .ref (ad (d))), (2, .ref (ad (d + 116))), (3, .ref (ad (d + 128))), (4, .ref (ad (d + 129)))]) hx hb dL_law_1848 hl (by decide) rfl (fun ls hl => ?_)
    refine lv_aload_n hx hb dL_law_1850 rfl (lv_at hl 4 rfl) ?_
    refine lv_aload_n hx hb dL_law_1851 rfl (lv_at hl 2 rfl) ?_
    refine lv_iload hx hb dL_law_1852 (lv_at hl 1 rfl) ?_
    refine g_iconst S 1 dL_law_1854 (by decide +kernel) ?_
    refine g_iadd S dL_law_1855 ?_
    refine g_sld S hX hsa hsA hS (i + 1) (by omega) hL dL_law_1856 ?_
    refine lv_aload_n hx hb dL_law_1857 rfl (lv_at hl 2 rfl) ?_
    refine lv_iload hx hb dL_law_1858 (lv_at hl 1 rfl) ?_
    refine g_iconst S 2 dL_law_1860 (by decide +kernel) ?_
    refine g_iadd S dL_law_1861 ?_
    refine g_sld S hX hsa hsA hS (i + 2) (by omega) hL dL_law_1862 ?_
    refine g_afi (g_runV S hI hP hS (k := 2) (As := [.int (xs (i + 1)), .int (xs (i + 2))]) (rest := []) (mX13_addMoth l (d + 116) g kp svr bfr sd bf sg mk td lv tl sv qc (0 : Nat) qd co wy de ca ln fp sm pa tm S1.1 S1.2.1 S1.2.2.1 S1.2.2.2.1 S1.2.2.2.2.1 S1.2.2.2.2.2.1 S1.2.2.2.2.2.2.1 S1.2.2.2.2.2.2.2.1 S1.2.2.2.2.2.2.2.2.1 S1.2.2.2.2.2.2.2.2.2 (xs (i + 1)) (xs (i + 2)) hmd2 hrow.1 hrow.2.1.1 hrow.2.1.2.1 hrow.2.1.2.2.1 hrow.2.1.2.2.2.1 hrow.2.1.2.2.2.2 (by decide) (by have := hhis.1; have := hhis.2.1; omega)) q2055 q2056 q2057 q100 q2058 rfl rfl (by decide +kernel) ⟨(Nat.le_trans (Nat.le_of_ble_eq_true rfl : _ ≤ 64) hRf), (Nat.le_trans (Nat.le_of_ble_eq_true rfl : _ ≤ 2000) hRl)⟩ rfl (hmd2.lt 0 (by decide)) (hmd2.2 0 (by decide)) rfl hl.1 rfl (Nat.le_of_ble_eq_true rfl) ⟨by omega, by omega⟩ dL_law_1863) hS (fun rz2 w3 H locs hq2 hP hS => ?_)
    obtain ⟨hq2, hfr⟩ := hq2
    rcases hq2 with ⟨hc2, g9, mk9, sd9, k2, u2, qd9, hck2, hr2, hR9, hmd3⟩ | ⟨hc2, hr2, hmd3⟩ | ⟨hc2, hr2, hmd3⟩ | ⟨z2, hz0, hz7, hc2, hr2, hmd3⟩
    · skip
      have := nI_7 n1 hn7 0 (by decide) (hc1.symm.trans hc2)
      omega
    · skip
      exact absurd (hc1.symm.trans hc2) (nI_7m1 n1 hn7)
    · skip
      exact absurd (hc1.symm.trans hc2) (nI_7m2 n1 hn7)
    · skip
      have hcls3 : clsP E ad N w3 d kk S1 pl ct K sv Z fp (some n1) (cmT S1.2.2.1 S1.2.2.2.2.1 S1.2.2.2.2.2.1 S1.2.2.2.2.2.2.1 n1 (cellV (xs (i + 1)) (xs (i + 2))) (-1)) none bf ln tx := hcls2.fr (fun p hp => hfr p (by show ¬ _; (try dsimp only [gIn]); omega))
      have hfo3 := (hfr (d + 128) (by show ¬ _; (try dsimp only [gIn]); omega)).trans hfo2
      have hfd3 := (hfr (d + 129) (by show ¬ _; (try dsimp only [gIn]); omega)).trans hfd2
      have hnz := nI_7 n1 hn7 z2 hz7 (hc1.symm.trans hc2)
      refine lv_istore (lv' := [(7, .int rz2), (6, .int (nI (2))), (5, .int (nI (i))), (0, .ref (sa)), (1, .ref (ad (d))), (2, .ref (ad (d + 116))), (3, .ref (ad (d + 128))), (4, .ref (ad (d + 129)))]) hx hb dL_law_1866 hl (by decide) rfl (fun ls hl => ?_)
      refine lv_aload_n hx hb dL_law_1868 rfl (lv_at hl 5 rfl) ?_
      refine g_afi (g_runV S hI hP hS (k := 0) (As := []) (rest := []) (mX13_thrown l _ _ _ _ _ _ _ _ _ _ _ _ _ _ _ _ _ _ _ _ _ _ _ _ _ hmd3) q1860 q1861 q1862 q100 q1863 rfl rfl (by decide +kernel) ⟨(Nat.le_trans (Nat.le_of_ble_eq_true rfl : _ ≤ 64) hRf), (Nat.le_trans (Nat.le_of_ble_eq_true rfl : _ ≤ 2000) hRl)⟩ rfl (hmd3.lt 0 (by decide)) (hmd3.2 0 (by decide)) rfl hl.1 rfl (Nat.le_of_ble_eq_true rfl) ⟨by omega, by omega⟩ dL_law_1869) hS (fun rz9 w9 H locs hq9 hP hS => ?_)
      obtain ⟨hr9, hw9⟩ := hq9
      rw [hw9] at hP
      rw [hr9]
      refine lv_iload hx hb dL_law_1872 (lv_at hl 1 rfl) ?_
      refine g_eq S (a := 2) (b := 2) (by omega) (by omega) (tgt := 1879) dL_law_1874 (by decide) (fun hb9 => ?_) (fun hb9 => ?_)
      · refine lv_iload hx hb dL_law_1879 (lv_at hl 1 rfl) ?_
        refine g_ifne S (a := 2) (by omega) (tgt := 1896) dL_law_1881 (by decide) (fun hb8 => ?_) (fun hb8 => ?_)
        · refine lv_goto (tgt := 2997) hx hb dL_law_1896 (by decide) ?_
          exact W.widen (k := cells + 234) (n := slots + 2848) (by omega) (by omega) (kk9 ad N _ _ _ _ ⟨_, _, _, _, _, _, _, _, _, _, _, _, _, _, _, _, _, _, _, _, _, _, _, _, _, _, _, _, _, _, _, _, hcls3, hmd3, ⟨_, hfo3⟩, ⟨_, hfd3⟩, lawD.le (B := B) ⟨hrow, hhis, hsnp, den_new hz0 hz7 hnz (by rw [hnz]), hDat.2.2.2.2⟩ (by omega)⟩ hP hS (lv_sub hl [2, 3, 4, 5, 6, 7] rfl))
        · omega
      · exact absurd rfl hb9
set_option maxHeartbeats 4000000 in
set_option maxRecDepth 100000 in
/-- the law's case 26: removeMoth -/
theorem lc_26 (kk : Nat → Nat) (hlt : l.stackTraces = false) (hz : gHx E) (hzv : gHv E kk) (hn : gHn E) (S : gFix p m c cL_law 10 s args RL) (hI : gI E s s.heap) (hP : gP E ad N w H) (hS : va_S (gA E) s.heap H locs) (hRf : 64 ≤ R.frames) (hRl : 2000 ≤ R.locals) (hRc : cells + 234 ≤ R.cells) (hRs : slots + 2848 ≤ R.slots) {d B i sa L : Nat} {xs : Nat → Int32} (hB : B ≤ 600000) (hinv : lawP E kk ad N w d B) (hX : va_X sa L xs s s.heap) (hsa : sa < s.heap.size) (hsA : ¬ gA E sa) (hi : i + 5 ≤ L) (hL : L < 2 ^ 31) (hl : lv_has ls 10 [(5, .int (nI (i))), (0, .ref (sa)), (1, .ref (ad (d))), (2, .ref (ad (d + 116))), (3, .ref (ad (d + 128))), (4, .ref (ad (d + 129)))])
    (kk9 : ∀ (ad' : Nat → Nat) (N' : Nat) (w' : Nat → va_E) (H' : Heap) (locs' : List Loc) (ls' : Array Slot), lawP E kk ad' N' w' d (B + 1000) → gP E ad' N' w' H' → va_S (gA E) s.heap H' locs' → lv_has ls' 10 [(5, .int (nI (i))), (0, .ref (sa)), (1, .ref (ad' (d))), (2, .ref (ad' (d + 116))), (3, .ref (ad' (d + 128))), (4, .ref (ad' (d + 129)))] → W p l e R s m args below meth c H' locs' (cells + 234) (slots + 2848) Q (F0 m 2997 ls' [])) :
    W p l e R s m args below meth c H locs cells slots Q (F0 m 1899 ls []) := by
  have hx := S.1
  have hb := S.2.1
  obtain ⟨S1, pl, ct, K, sv, Z, fp, dq, dd, dc, bf, ln, tx, g, kp, svr, bfr, sd, sg, mk, td, lv, tl, qc, qd, co, wy, de, ca, sm, pa, tm, hcls, hmd, ⟨fo, hfo⟩, ⟨fd, hfd⟩, hDat⟩ := hinv
  obtain ⟨hdN, ⟨hbd, hbs, hbz, ⟨A0, hba⟩, ⟨T0, hbt⟩, hhs⟩, hscr, hprs, hsb⟩ := id hcls
  obtain ⟨hrow, hhis, hsnp, hden, hbuf, hlin, hfp⟩ := id hDat
  obtain ⟨hs1, ⟨re, ce, rc, tc, hs2⟩, ⟨pa0, hs3⟩, ⟨ra, rk, hs4⟩, hs5, ⟨wa, ke, hs6, hs6a, hs6b⟩, ⟨lv0, hs7⟩, ⟨pn, hs8⟩, ⟨wa2, ke2, hs9, hs9a, hs9b⟩, ⟨re2, ce2, rc2, tc2, hs10⟩, ⟨pa2, hs11⟩, ⟨lv2, hs12⟩, ⟨pq, hs13⟩⟩ := id hscr
  refine lv_aload_n hx hb dL_law_1899 rfl (lv_at hl 2 rfl) ?_
  refine lv_aload_n hx hb dL_law_1900 rfl (lv_at hl 1 rfl) ?_
  refine lv_iload hx hb dL_law_1901 (lv_at hl 0 rfl) ?_
  refine g_iconst S 1 dL_law_1903 (by decide +kernel) ?_
  refine g_iadd S dL_law_1904 ?_
  refine g_sld S hX hsa hsA hS (i + 1) (by omega) hL dL_law_1905 ?_
  refine lv_aload_n hx hb dL_law_1906 rfl (lv_at hl 4 rfl) ?_
  refine g_afi (g_runSW S hI hP hS (hh := [(0, 9, 12, 13)]) (k := 3) (As := [.ref (ad (d)), .int (xs (i + 1)), .ref (ad (d + 128))]) (rest := []) (mL_removeMoth l d (d + 128) (xs (i + 1)) hz hn (hbd.lt 0 (by decide)) (hbd.2 0 (by decide)) (mX12_removeMoth l kk hzv d sv fp dq dd dc S1.1 S1.2.1 S1.2.2.1 S1.2.2.2.1 S1.2.2.2.2.1 S1.2.2.2.2.2.1 S1.2.2.2.2.2.2.1 S1.2.2.2.2.2.2.2.1 S1.2.2.2.2.2.2.2.2.1 S1.2.2.2.2.2.2.2.2.2 pl ct K (xs (i + 1)) hbd hbs hlt hz (by omega) hhs hhis.2.2.1 hhis.2.1 hrow.2.1.1 hrow.2.1.2.1 hrow.2.1.2.2.1 hrow.2.1.2.2.2.1 hrow.2.1.2.2.2.2) (by omega) (fun r w' h => (by obtain ⟨k9, u9, -, -, -, -, -, -, hfw⟩ := h; exact ⟨fo, (hfw (d + 128) (by show ¬ _; (try simp only [gIn]); (try dsimp only); omega)).trans hfo⟩)) (fun xc w' h => h.elim (fun z => z.1) (fun h => h.elim (fun z => absurd z.2.1 (cmR_n2 (by decide) (by decide))) (fun z => by obtain ⟨-, n9, h1, h2, h3, -⟩ := z; exact absurd h3 (cmR_nU (by decide) h1 h2))))) q1166 q1167 q81 q1168 rfl rfl (by decide +kernel) ⟨(Nat.le_trans (Nat.le_of_ble_eq_true rfl : _ ≤ 64) hRf), (Nat.le_trans (Nat.le_of_ble_eq_true rfl : _ ≤ 2000) hRl)⟩ rfl hl.1 rfl (Nat.le_of_ble_eq_true rfl) ⟨by omega, by omega⟩ dL_law_1907) hS (fun rz w1 H locs hq hP hS => ?_)
  rcases hq with ⟨v1, f1, w2, hrz, hf1, hw2, hq⟩ | ⟨hrz, hq⟩
  · skip
    rw [hw2] at hP
    rw [hrz]
    obtain ⟨k1, u1, hck1, hc1, hv1, hs9n, hh9, hd9, hfw⟩ := hq
    have hclsW : clsP E ad N w2 d kk ((cmS 7 k1 u1 S1.1 S1.2.1 S1.2.2.1 S1.2.2.2.1 S1.2.2.2.2.1 S1.2.2.2.2.2.1 S1.2.2.2.2.2.2.1 S1.2.2.2.2.2.2.2.1 S1.2.2.2.2.2.2.2.2.1 S1.2.2.2.2.2.2.2.2.2).2) ((pl + 1) % 8) (min (ct + 1) 8) (va_up K pl (cpS (S1.1, S1.2.1, S1.2.2.1, S1.2.2.2.1, S1.2.2.2.2.1, S1.2.2.2.2.2.1, S1.2.2.2.2.2.2.1, S1.2.2.2.2.2.2.2.1, S1.2.2.2.2.2.2.2.2.1, S1.2.2.2.2.2.2.2.2.2) (K pl))) sv Z fp dq dd dc bf ln tx := hcls.chg hd9 hs9n hh9 (fun p hp => hfw p (by show ¬ _; (try simp only [gIn]); (try dsimp only); omega))
    have hmdW : bkP N w2 (d + 116) 12 (MDC E ad (d + 116) g kp svr bfr sd bf sg mk td lv tl sv qc (0 : Nat) qd co wy de ca ln fp sm pa tm) := hmd.fr hfw (fun k hk => (by show ¬ _; (try simp only [gIn]); (try dsimp only); omega))
    have hfoW := (hfw (d + 128) (by show ¬ _; (try simp only [gIn]); (try dsimp only); omega)).trans hfo
    have hfdW := (hfw (d + 129) (by show ¬ _; (try simp only [gIn]); (try dsimp only); omega)).trans hfd
    obtain ⟨wb, hwb⟩ : ∃ z, z = va_up w2 (d + 128) (loE E f1) := ⟨_, rfl⟩
    rw [← hwb] at hP
    have hcls2 : clsP E ad N wb d kk ((cmS 7 k1 u1 S1.1 S1.2.1 S1.2.2.1 S1.2.2.2.1 S1.2.2.2.2.1 S1.2.2.2.2.2.1 S1.2.2.2.2.2.2.1 S1.2.2.2.2.2.2.2.1 S1.2.2.2.2.2.2.2.2.1 S1.2.2.2.2.2.2.2.2.2).2) ((pl + 1) % 8) (min (ct + 1) 8) (va_up K pl (cpS (S1.1, S1.2.1, S1.2.2.1, S1.2.2.2.1, S1.2.2.2.2.1, S1.2.2.2.2.2.1, S1.2.2.2.2.2.2.1, S1.2.2.2.2.2.2.2.1, S1.2.2.2.2.2.2.2.2.1, S1.2.2.2.2.2.2.2.2.2) (K pl))) sv Z fp dq dd dc bf ln tx := hclsW.fr (fun p hp => by rw [hwb, va_up_ne _ _ (by omega)])
    have hmd2 : bkP N wb (d + 116) 12 (MDC E ad (d + 116) g kp svr bfr sd bf sg mk td lv tl sv qc (0 : Nat) qd co wy de ca ln fp sm pa tm) := by rw [hwb]; exact hmdW.keep (by omega)
    have hfo2 : wb (d + 128) = loE E f1 := by rw [hwb, va_up_self]
    have hfd2 : wb (d + 129) = doE E fd := by rw [hwb, va_up_ne _ _ (by omega)]; exact hfdW
    refine lv_istore (lv' := [(6, .int (nI (0))), (5, .int (nI (i))), (0, .ref (sa)), (1, .ref (ad (d))), (2, .ref (ad (d + 116))), (3, .ref (ad (d + 128))), (4, .ref (ad (d + 129)))]) hx hb dL_law_1910 hl (by decide) rfl (fun ls hl => ?_)
    refine lv_aload_n hx hb dL_law_1912 rfl (lv_at hl 4 rfl) ?_
    refine lv_aload_n hx hb dL_law_1913 rfl (lv_at hl 2 rfl) ?_
    refine lv_iload hx hb dL_law_1914 (lv_at hl 1 rfl) ?_
    refine g_iconst S 1 dL_law_1916 (by decide +kernel) ?_
    refine g_iadd S dL_law_1917 ?_
    refine g_sld S hX hsa hsA hS (i + 1) (by omega) hL dL_law_1918 ?_
    refine g_afi (g_runV S hI hP hS (k := 1) (As := [.int (xs (i + 1))]) (rest := []) (mX13_removeMoth l (d + 116) g kp svr bfr sd bf sg mk td lv tl sv qc (0 : Nat) qd co wy de ca ln fp sm pa tm S1.1 S1.2.1 S1.2.2.1 S1.2.2.2.1 S1.2.2.2.2.1 S1.2.2.2.2.2.1 S1.2.2.2.2.2.2.1 S1.2.2.2.2.2.2.2.1 S1.2.2.2.2.2.2.2.2.1 S1.2.2.2.2.2.2.2.2.2 (xs (i + 1)) hmd2 hrow.1 hrow.2.1.1 hrow.2.1.2.1 hrow.2.1.2.2.1 hrow.2.1.2.2.2.1 hrow.2.1.2.2.2.2 (by decide) (by have := hhis.1; have := hhis.2.1; omega)) q2067 q2068 q2069 q100 q2070 rfl rfl (by decide +kernel) ⟨(Nat.le_trans (Nat.le_of_ble_eq_true rfl : _ ≤ 64) hRf), (Nat.le_trans (Nat.le_of_ble_eq_true rfl : _ ≤ 2000) hRl)⟩ rfl (hmd2.lt 0 (by decide)) (hmd2.2 0 (by decide)) rfl hl.1 rfl (Nat.le_of_ble_eq_true rfl) ⟨by omega, by omega⟩ dL_law_1919) hS (fun rz2 w3 H locs hq2 hP hS => ?_)
    obtain ⟨hq2, hfr⟩ := hq2
    rcases hq2 with ⟨hc2, g9, mk9, sd9, k2, u2, qd9, hck2, hr2, hR9, hmd3⟩ | ⟨hc2, hr2, hmd3⟩ | ⟨hc2, hr2, hmd3⟩ | ⟨z2, hz0, hz7, hc2, hr2, hmd3⟩
    · skip
      have hcls3 : clsP E ad N w3 d kk ((cmS 7 k1 u1 S1.1 S1.2.1 S1.2.2.1 S1.2.2.2.1 S1.2.2.2.2.1 S1.2.2.2.2.2.1 S1.2.2.2.2.2.2.1 S1.2.2.2.2.2.2.2.1 S1.2.2.2.2.2.2.2.2.1 S1.2.2.2.2.2.2.2.2.2).2) ((pl + 1) % 8) (min (ct + 1) 8) (va_up K pl (cpS (S1.1, S1.2.1, S1.2.2.1, S1.2.2.2.1, S1.2.2.2.2.1, S1.2.2.2.2.2.1, S1.2.2.2.2.2.2.1, S1.2.2.2.2.2.2.2.1, S1.2.2.2.2.2.2.2.2.1, S1.2.2.2.2.2.2.2.2.2) (K pl))) sv Z fp dq dd dc bf ln tx := hcls2.fr (fun p hp => hfr p (by show ¬ _; (try dsimp only [gIn]); omega))
      have hfo3 := (hfr (d + 128) (by show ¬ _; (try dsimp only [gIn]); omega)).trans hfo2
      have hfd3 := (hfr (d + 129) (by show ¬ _; (try dsimp only [gIn]); omega)).trans hfd2
      have hcs := cmS_one (ht := S1.1) (dr := S1.2.1) (pg := S1.2.2.1) (wt := S1.2.2.2.1) (wr := S1.2.2.2.2.1) (mo := S1.2.2.2.2.2.1) (ni := S1.2.2.2.2.2.2.2.1) (po := S1.2.2.2.2.2.2.2.2.1) (dn := S1.2.2.2.2.2.2.2.2.2) (by decide) hck1 hck2
      rw [← hcs] at hr2 hR9
      rw [if_pos rfl, if_pos rfl] at hmd3
      have hv9 : v1 = rz2 := hv1.trans hr2.symm
      rw [hv9] at hf1
      refine lv_istore (lv' := [(7, .int rz2), (6, .int (nI (0))), (5, .int (nI (i))), (0, .ref (sa)), (1, .ref (ad (d))), (2, .ref (ad (d + 116))), (3, .ref (ad (d + 128))), (4, .ref (ad (d + 129)))]) hx hb dL_law_1922 hl (by decide) rfl (fun ls hl => ?_)
      refine lv_aload_n hx hb dL_law_1924 rfl (lv_at hl 5 rfl) ?_
      refine g_afi (g_runV S hI hP hS (k := 0) (As := []) (rest := []) (mX13_thrown l _ _ _ _ _ _ _ _ _ _ _ _ _ _ _ _ _ _ _ _ _ _ _ _ _ hmd3) q1860 q1861 q1862 q100 q1863 rfl rfl (by decide +kernel) ⟨(Nat.le_trans (Nat.le_of_ble_eq_true rfl : _ ≤ 64) hRf), (Nat.le_trans (Nat.le_of_ble_eq_true rfl : _ ≤ 2000) hRl)⟩ rfl (hmd3.lt 0 (by decide)) (hmd3.2 0 (by decide)) rfl hl.1 rfl (Nat.le_of_ble_eq_true rfl) ⟨by omega, by omega⟩ dL_law_1925) hS (fun rz9 w9 H locs hq9 hP hS => ?_)
      obtain ⟨hr9, hw9⟩ := hq9
      rw [hw9] at hP
      rw [hr9]
      refine lv_iload hx hb dL_law_1928 (lv_at hl 1 rfl) ?_
      refine g_eq S (a := 0) (b := 0) (by omega) (by omega) (tgt := 1935) dL_law_1930 (by decide) (fun hb9 => ?_) (fun hb9 => ?_)
      · refine lv_iload hx hb dL_law_1935 (lv_at hl 1 rfl) ?_
        refine g_ifne S (a := 0) (by omega) (tgt := 1952) dL_law_1937 (by decide) (fun hb8 => ?_) (fun hb8 => ?_)
        · omega
        · refine lv_aload_n hx hb dL_law_1940 rfl (lv_at hl 6 rfl) ?_
          refine g_iconst S 0 dL_law_1941 (by decide +kernel) ?_
          refine g_lald S hI hP (o := d + 128) (by omega) hfo3 dL_law_1942 ?_
          rw [hf1]
          refine lv_iload hx hb dL_law_1943 (lv_at hl 0 rfl) ?_
          refine lv_i2l hx hb dL_law_1945 rfl ?_
          refine g_lcmpE S dL_law_1946 ?_
          refine g_ifeq S (a := 0) (by omega) (tgt := 1952) dL_law_1947 (by decide) (fun hb7 => ?_) (fun hb7 => ?_)
          · refine lv_goto (tgt := 2997) hx hb dL_law_1952 (by decide) ?_
            exact W.widen (k := cells + 234) (n := slots + 2848) (by omega) (by omega) (kk9 ad N _ _ _ _ ⟨_, _, _, _, _, _, _, _, _, _, _, _, _, _, _, _, _, _, _, _, _, _, _, _, _, _, _, _, _, _, _, _, hcls3, hmd3, ⟨_, hfo3⟩, ⟨_, hfd3⟩, ⟨⟨hR9, cmS_q (S := S1) hrow.2.1 (by decide) hck1 (fun h => absurd h (by decide)), Nat.le_trans (cmS_w (S := S1) hck1.1 (fun h => absurd h (by decide))) (by have := hrow.2.2; omega)⟩, (hhis.keep hrow).le (by omega), ⟨hsnp.1, fun z => (hsnp.2.1 z).le (by omega), hsnp.2.2⟩, hDat.2.2.2⟩⟩ hP hS (lv_sub hl [2, 3, 4, 5, 6, 7] rfl))
          · omega
      · exact absurd rfl hb9
    · skip
      exact absurd (hc1.symm.trans hc2) (by decide +kernel)
    · skip
      exact absurd (hc1.symm.trans hc2) (by decide +kernel)
    · skip
      have := nI_7 z2 hz7 0 (by decide) (hc2.symm.trans hc1)
      omega
  · skip
    rw [hrz]
    have hq := hq.resolve_right (fun z => z.elim (fun y => absurd y.1 (by decide)) (fun y => absurd y.1 (by decide)))
    obtain ⟨-, hc1, hfw, hd9, hs9n, hh9⟩ := hq
    have hclsW : clsP E ad N w1 d kk S1 pl ct K sv Z fp dq dd dc bf ln tx := hcls.chg hd9 hs9n hh9 (fun p hp => hfw p (by show ¬ _; (try simp only [gIn]); (try dsimp only); omega))
    have hmdW : bkP N w1 (d + 116) 12 (MDC E ad (d + 116) g kp svr bfr sd bf sg mk td lv tl sv qc (0 : Nat) qd co wy de ca ln fp sm pa tm) := hmd.fr hfw (fun k hk => (by show ¬ _; (try simp only [gIn]); (try dsimp only); omega))
    have hfoW := (hfw (d + 128) (by show ¬ _; (try simp only [gIn]); (try dsimp only); omega)).trans hfo
    have hfdW := (hfw (d + 129) (by show ¬ _; (try simp only [gIn]); (try dsimp only); omega)).trans hfd
    obtain ⟨wb, hwb⟩ : ∃ z, z = w1 := ⟨_, rfl⟩
    rw [← hwb] at hP
    have hcls2 : clsP E ad N wb d kk S1 pl ct K sv Z fp dq dd dc bf ln tx := by rw [hwb]; exact hclsW
    have hmd2 : bkP N wb (d + 116) 12 (MDC E ad (d + 116) g kp svr bfr sd bf sg mk td lv tl sv qc (0 : Nat) qd co wy de ca ln fp sm pa tm) := by rw [hwb]; exact hmdW
    have hfo2 : wb (d + 128) = loE E fo := by rw [hwb]; exact hfoW
    have hfd2 : wb (d + 129) = doE E fd := by rw [hwb]; exact hfdW
    refine lv_istore (lv' := [(6, .int (nI (1))), (5, .int (nI (i))), (0, .ref (sa)), (1, .ref (ad (d))), (2, .ref (ad (d + 116))), (3, .ref (ad (d + 128))), (4, .ref (ad (d + 129)))]) hx hb dL_law_1910 hl (by decide) rfl (fun ls hl => ?_)
    refine lv_aload_n hx hb dL_law_1912 rfl (lv_at hl 4 rfl) ?_
    refine lv_aload_n hx hb dL_law_1913 rfl (lv_at hl 2 rfl) ?_
    refine lv_iload hx hb dL_law_1914 (lv_at hl 1 rfl) ?_
    refine g_iconst S 1 dL_law_1916 (by decide +kernel) ?_
    refine g_iadd S dL_law_1917 ?_
    refine g_sld S hX hsa hsA hS (i + 1) (by omega) hL dL_law_1918 ?_
    refine g_afi (g_runV S hI hP hS (k := 1) (As := [.int (xs (i + 1))]) (rest := []) (mX13_removeMoth l (d + 116) g kp svr bfr sd bf sg mk td lv tl sv qc (0 : Nat) qd co wy de ca ln fp sm pa tm S1.1 S1.2.1 S1.2.2.1 S1.2.2.2.1 S1.2.2.2.2.1 S1.2.2.2.2.2.1 S1.2.2.2.2.2.2.1 S1.2.2.2.2.2.2.2.1 S1.2.2.2.2.2.2.2.2.1 S1.2.2.2.2.2.2.2.2.2 (xs (i + 1)) hmd2 hrow.1 hrow.2.1.1 hrow.2.1.2.1 hrow.2.1.2.2.1 hrow.2.1.2.2.2.1 hrow.2.1.2.2.2.2 (by decide) (by have := hhis.1; have := hhis.2.1; omega)) q2067 q2068 q2069 q100 q2070 rfl rfl (by decide +kernel) ⟨(Nat.le_trans (Nat.le_of_ble_eq_true rfl : _ ≤ 64) hRf), (Nat.le_trans (Nat.le_of_ble_eq_true rfl : _ ≤ 2000) hRl)⟩ rfl (hmd2.lt 0 (by decide)) (hmd2.2 0 (by decide)) rfl hl.1 rfl (Nat.le_of_ble_eq_true rfl) ⟨by omega, by omega⟩ dL_law_1919) hS (fun rz2 w3 H locs hq2 hP hS => ?_)
    obtain ⟨hq2, hfr⟩ := hq2
    rcases hq2 with ⟨hc2, g9, mk9, sd9, k2, u2, qd9, hck2, hr2, hR9, hmd3⟩ | ⟨hc2, hr2, hmd3⟩ | ⟨hc2, hr2, hmd3⟩ | ⟨z2, hz0, hz7, hc2, hr2, hmd3⟩
    · skip
      exact absurd (hc1.symm.trans hc2) (by decide +kernel)
    · skip
      have hcls3 : clsP E ad N w3 d kk S1 pl ct K sv Z fp dq dd dc bf ln tx := hcls2.fr (fun p hp => hfr p (by show ¬ _; (try dsimp only [gIn]); omega))
      have hfo3 := (hfr (d + 128) (by show ¬ _; (try dsimp only [gIn]); omega)).trans hfo2
      have hfd3 := (hfr (d + 129) (by show ¬ _; (try dsimp only [gIn]); omega)).trans hfd2
      refine lv_istore (lv' := [(7, .int rz2), (6, .int (nI (1))), (5, .int (nI (i))), (0, .ref (sa)), (1, .ref (ad (d))), (2, .ref (ad (d + 116))), (3, .ref (ad (d + 128))), (4, .ref (ad (d + 129)))]) hx hb dL_law_1922 hl (by decide) rfl (fun ls hl => ?_)
      refine lv_aload_n hx hb dL_law_1924 rfl (lv_at hl 5 rfl) ?_
      refine g_afi (g_runV S hI hP hS (k := 0) (As := []) (rest := []) (mX13_thrown l _ _ _ _ _ _ _ _ _ _ _ _ _ _ _ _ _ _ _ _ _ _ _ _ _ hmd3) q1860 q1861 q1862 q100 q1863 rfl rfl (by decide +kernel) ⟨(Nat.le_trans (Nat.le_of_ble_eq_true rfl : _ ≤ 64) hRf), (Nat.le_trans (Nat.le_of_ble_eq_true rfl : _ ≤ 2000) hRl)⟩ rfl (hmd3.lt 0 (by decide)) (hmd3.2 0 (by decide)) rfl hl.1 rfl (Nat.le_of_ble_eq_true rfl) ⟨by omega, by omega⟩ dL_law_1925) hS (fun rz9 w9 H locs hq9 hP hS => ?_)
      obtain ⟨hr9, hw9⟩ := hq9
      rw [hw9] at hP
      rw [hr9]
      refine lv_iload hx hb dL_law_1928 (lv_at hl 1 rfl) ?_
      refine g_eq S (a := 1) (b := 1) (by omega) (by omega) (tgt := 1935) dL_law_1930 (by decide) (fun hb9 => ?_) (fun hb9 => ?_)
      · refine lv_iload hx hb dL_law_1935 (lv_at hl 1 rfl) ?_
        refine g_ifne S (a := 1) (by omega) (tgt := 1952) dL_law_1937 (by decide) (fun hb8 => ?_) (fun hb8 => ?_)
        · refine lv_goto (tgt := 2997) hx hb dL_law_1952 (by decide) ?_
          exact W.widen (k := cells + 234) (n := slots + 2848) (by omega) (by omega) (kk9 ad N _ _ _ _ ⟨_, _, _, _, _, _, _, _, _, _, _, _, _, _, _, _, _, _, _, _, _, _, _, _, _, _, _, _, _, _, _, _, hcls3, hmd3, ⟨_, hfo3⟩, ⟨_, hfd3⟩, hDat.le (by omega)⟩ hP hS (lv_sub hl [2, 3, 4, 5, 6, 7] rfl))
        · omega
      · exact absurd rfl hb9
    · skip
      exact absurd (hc1.symm.trans hc2) (by decide +kernel)
    · skip
      exact absurd (hc2.symm.trans hc1) (nI_7m1 z2 hz7)
set_option maxHeartbeats 4000000 in
set_option maxRecDepth 100000 in
/-- the law's case 28: patch -/
theorem lc_28 (kk : Nat → Nat) (hlt : l.stackTraces = false) (hz : gHx E) (hzv : gHv E kk) (hn : gHn E) (S : gFix p m c cL_law 10 s args RL) (hI : gI E s s.heap) (hP : gP E ad N w H) (hS : va_S (gA E) s.heap H locs) (hRf : 64 ≤ R.frames) (hRl : 2000 ≤ R.locals) (hRc : cells + 234 ≤ R.cells) (hRs : slots + 2848 ≤ R.slots) {d B i sa L : Nat} {xs : Nat → Int32} (hB : B ≤ 600000) (hinv : lawP E kk ad N w d B) (hX : va_X sa L xs s s.heap) (hsa : sa < s.heap.size) (hsA : ¬ gA E sa) (hi : i + 5 ≤ L) (hL : L < 2 ^ 31) (hl : lv_has ls 10 [(5, .int (nI (i))), (0, .ref (sa)), (1, .ref (ad (d))), (2, .ref (ad (d + 116))), (3, .ref (ad (d + 128))), (4, .ref (ad (d + 129)))])
    (kk9 : ∀ (ad' : Nat → Nat) (N' : Nat) (w' : Nat → va_E) (H' : Heap) (locs' : List Loc) (ls' : Array Slot), lawP E kk ad' N' w' d (B + 1000) → gP E ad' N' w' H' → va_S (gA E) s.heap H' locs' → lv_has ls' 10 [(5, .int (nI (i))), (0, .ref (sa)), (1, .ref (ad' (d))), (2, .ref (ad' (d + 116))), (3, .ref (ad' (d + 128))), (4, .ref (ad' (d + 129)))] → W p l e R s m args below meth c H' locs' (cells + 234) (slots + 2848) Q (F0 m 2997 ls' [])) :
    W p l e R s m args below meth c H locs cells slots Q (F0 m 1968 ls []) := by
  have hx := S.1
  have hb := S.2.1
  obtain ⟨S1, pl, ct, K, sv, Z, fp, dq, dd, dc, bf, ln, tx, g, kp, svr, bfr, sd, sg, mk, td, lv, tl, qc, qd, co, wy, de, ca, sm, pa, tm, hcls, hmd, ⟨fo, hfo⟩, ⟨fd, hfd⟩, hDat⟩ := hinv
  obtain ⟨hdN, ⟨hbd, hbs, hbz, ⟨A0, hba⟩, ⟨T0, hbt⟩, hhs⟩, hscr, hprs, hsb⟩ := id hcls
  obtain ⟨hrow, hhis, hsnp, hden, hbuf, hlin, hfp⟩ := id hDat
  obtain ⟨hs1, ⟨re, ce, rc, tc, hs2⟩, ⟨pa0, hs3⟩, ⟨ra, rk, hs4⟩, hs5, ⟨wa, ke, hs6, hs6a, hs6b⟩, ⟨lv0, hs7⟩, ⟨pn, hs8⟩, ⟨wa2, ke2, hs9, hs9a, hs9b⟩, ⟨re2, ce2, rc2, tc2, hs10⟩, ⟨pa2, hs11⟩, ⟨lv2, hs12⟩, ⟨pq, hs13⟩⟩ := id hscr
  refine lv_aload_n hx hb dL_law_1968 rfl (lv_at hl 2 rfl) ?_
  refine lv_aload_n hx hb dL_law_1969 rfl (lv_at hl 1 rfl) ?_
  refine lv_iload hx hb dL_law_1970 (lv_at hl 0 rfl) ?_
  refine g_iconst S 1 dL_law_1972 (by decide +kernel) ?_
  refine g_iadd S dL_law_1973 ?_
  refine g_sld S hX hsa hsA hS (i + 1) (by omega) hL dL_law_1974 ?_
  refine lv_aload_n hx hb dL_law_1975 rfl (lv_at hl 1 rfl) ?_
  refine lv_iload hx hb dL_law_1976 (lv_at hl 0 rfl) ?_
  refine g_iconst S 2 dL_law_1978 (by decide +kernel) ?_
  refine g_iadd S dL_law_1979 ?_
  refine g_sld S hX hsa hsA hS (i + 2) (by omega) hL dL_law_1980 ?_
  refine lv_aload_n hx hb dL_law_1981 rfl (lv_at hl 4 rfl) ?_
  refine g_afi (g_runSW S hI hP hS (hh := [(0, 10, 13, 13), (0, 10, 17, 17)]) (k := 4) (As := [.ref (ad (d)), .int (xs (i + 1)), .int (xs (i + 2)), .ref (ad (d + 128))]) (rest := []) (mL_patch l d (d + 128) (xs (i + 1)) (xs (i + 2)) hz hn (hbd.lt 0 (by decide)) (hbd.2 0 (by decide)) (mX12_patch l kk hzv d sv fp dq dd dc S1.1 S1.2.1 S1.2.2.1 S1.2.2.2.1 S1.2.2.2.2.1 S1.2.2.2.2.2.1 S1.2.2.2.2.2.2.1 S1.2.2.2.2.2.2.2.1 S1.2.2.2.2.2.2.2.2.1 S1.2.2.2.2.2.2.2.2.2 pl ct K (xs (i + 1)) (xs (i + 2)) hbd hbs hlt hz (by omega) hhs hhis.2.2.1 hhis.2.1 hrow.2.1.1 hrow.2.1.2.1 hrow.2.1.2.2.1 hrow.2.1.2.2.2.1 hrow.2.1.2.2.2.2) (by omega) (fun r w' h => (by obtain ⟨k9, u9, -, -, -, -, -, -, hfw⟩ := h; exact ⟨fo, (hfw (d + 128) (by show ¬ _; (try simp only [gIn]); (try dsimp only); omega)).trans hfo⟩)) (fun xc w' h => h.elim (fun z => Or.inl z.1) (fun h => h.elim (fun z => absurd z.2.1 (cmR_n2 (by decide) (by decide))) (fun z => Or.inr (z.1))))) q1175 q1176 q81 q1177 rfl rfl (by decide +kernel) ⟨(Nat.le_trans (Nat.le_of_ble_eq_true rfl : _ ≤ 64) hRf), (Nat.le_trans (Nat.le_of_ble_eq_true rfl : _ ≤ 2000) hRl)⟩ rfl hl.1 rfl (Nat.le_of_ble_eq_true rfl) ⟨by omega, by omega⟩ dL_law_1982) hS (fun rz w1 H locs hq hP hS => ?_)
  rcases hq with ⟨v1, f1, w2, hrz, hf1, hw2, hq⟩ | ⟨hrz, hq⟩ | ⟨hrz, hq⟩
  · skip
    rw [hw2] at hP
    rw [hrz]
    obtain ⟨k1, u1, hck1, hc1, hv1, hs9n, hh9, hd9, hfw⟩ := hq
    have hclsW : clsP E ad N w2 d kk ((cmS 9 k1 u1 S1.1 S1.2.1 S1.2.2.1 S1.2.2.2.1 S1.2.2.2.2.1 S1.2.2.2.2.2.1 S1.2.2.2.2.2.2.1 S1.2.2.2.2.2.2.2.1 S1.2.2.2.2.2.2.2.2.1 S1.2.2.2.2.2.2.2.2.2).2) ((pl + 1) % 8) (min (ct + 1) 8) (va_up K pl (cpS (S1.1, S1.2.1, S1.2.2.1, S1.2.2.2.1, S1.2.2.2.2.1, S1.2.2.2.2.2.1, S1.2.2.2.2.2.2.1, S1.2.2.2.2.2.2.2.1, S1.2.2.2.2.2.2.2.2.1, S1.2.2.2.2.2.2.2.2.2) (K pl))) sv Z fp dq dd dc bf ln tx := hcls.chg hd9 hs9n hh9 (fun p hp => hfw p (by show ¬ _; (try simp only [gIn]); (try dsimp only); omega))
    have hmdW : bkP N w2 (d + 116) 12 (MDC E ad (d + 116) g kp svr bfr sd bf sg mk td lv tl sv qc (0 : Nat) qd co wy de ca ln fp sm pa tm) := hmd.fr hfw (fun k hk => (by show ¬ _; (try simp only [gIn]); (try dsimp only); omega))
    have hfoW := (hfw (d + 128) (by show ¬ _; (try simp only [gIn]); (try dsimp only); omega)).trans hfo
    have hfdW := (hfw (d + 129) (by show ¬ _; (try simp only [gIn]); (try dsimp only); omega)).trans hfd
    obtain ⟨wb, hwb⟩ : ∃ z, z = va_up w2 (d + 128) (loE E f1) := ⟨_, rfl⟩
    rw [← hwb] at hP
    have hcls2 : clsP E ad N wb d kk ((cmS 9 k1 u1 S1.1 S1.2.1 S1.2.2.1 S1.2.2.2.1 S1.2.2.2.2.1 S1.2.2.2.2.2.1 S1.2.2.2.2.2.2.1 S1.2.2.2.2.2.2.2.1 S1.2.2.2.2.2.2.2.2.1 S1.2.2.2.2.2.2.2.2.2).2) ((pl + 1) % 8) (min (ct + 1) 8) (va_up K pl (cpS (S1.1, S1.2.1, S1.2.2.1, S1.2.2.2.1, S1.2.2.2.2.1, S1.2.2.2.2.2.1, S1.2.2.2.2.2.2.1, S1.2.2.2.2.2.2.2.1, S1.2.2.2.2.2.2.2.2.1, S1.2.2.2.2.2.2.2.2.2) (K pl))) sv Z fp dq dd dc bf ln tx := hclsW.fr (fun p hp => by rw [hwb, va_up_ne _ _ (by omega)])
    have hmd2 : bkP N wb (d + 116) 12 (MDC E ad (d + 116) g kp svr bfr sd bf sg mk td lv tl sv qc (0 : Nat) qd co wy de ca ln fp sm pa tm) := by rw [hwb]; exact hmdW.keep (by omega)
    have hfo2 : wb (d + 128) = loE E f1 := by rw [hwb, va_up_self]
    have hfd2 : wb (d + 129) = doE E fd := by rw [hwb, va_up_ne _ _ (by omega)]; exact hfdW
    refine lv_istore (lv' := [(6, .int (nI (0))), (5, .int (nI (i))), (0, .ref (sa)), (1, .ref (ad (d))), (2, .ref (ad (d + 116))), (3, .ref (ad (d + 128))), (4, .ref (ad (d + 129)))]) hx hb dL_law_1985 hl (by decide) rfl (fun ls hl => ?_)
    refine lv_aload_n hx hb dL_law_1987 rfl (lv_at hl 4 rfl) ?_
    refine lv_aload_n hx hb dL_law_1988 rfl (lv_at hl 2 rfl) ?_
    refine lv_iload hx hb dL_law_1989 (lv_at hl 1 rfl) ?_
    refine g_iconst S 1 dL_law_1991 (by decide +kernel) ?_
    refine g_iadd S dL_law_1992 ?_
    refine g_sld S hX hsa hsA hS (i + 1) (by omega) hL dL_law_1993 ?_
    refine lv_aload_n hx hb dL_law_1994 rfl (lv_at hl 2 rfl) ?_
    refine lv_iload hx hb dL_law_1995 (lv_at hl 1 rfl) ?_
    refine g_iconst S 2 dL_law_1997 (by decide +kernel) ?_
    refine g_iadd S dL_law_1998 ?_
    refine g_sld S hX hsa hsA hS (i + 2) (by omega) hL dL_law_1999 ?_
    refine g_afi (g_runV S hI hP hS (k := 2) (As := [.int (xs (i + 1)), .int (xs (i + 2))]) (rest := []) (mX13_patch l (d + 116) g kp svr bfr sd bf sg mk td lv tl sv qc (0 : Nat) qd co wy de ca ln fp sm pa tm S1.1 S1.2.1 S1.2.2.1 S1.2.2.2.1 S1.2.2.2.2.1 S1.2.2.2.2.2.1 S1.2.2.2.2.2.2.1 S1.2.2.2.2.2.2.2.1 S1.2.2.2.2.2.2.2.2.1 S1.2.2.2.2.2.2.2.2.2 (xs (i + 1)) (xs (i + 2)) hmd2 hrow.1 hrow.2.1.1 hrow.2.1.2.1 hrow.2.1.2.2.1 hrow.2.1.2.2.2.1 hrow.2.1.2.2.2.2 (by decide) (by have := hhis.1; have := hhis.2.1; omega)) q2083 q2084 q2085 q100 q2086 rfl rfl (by decide +kernel) ⟨(Nat.le_trans (Nat.le_of_ble_eq_true rfl : _ ≤ 64) hRf), (Nat.le_trans (Nat.le_of_ble_eq_true rfl : _ ≤ 2000) hRl)⟩ rfl (hmd2.lt 0 (by decide)) (hmd2.2 0 (by decide)) rfl hl.1 rfl (Nat.le_of_ble_eq_true rfl) ⟨by omega, by omega⟩ dL_law_2000) hS (fun rz2 w3 H locs hq2 hP hS => ?_)
    obtain ⟨hq2, hfr⟩ := hq2
    rcases hq2 with ⟨hc2, g9, mk9, sd9, k2, u2, qd9, hck2, hr2, hR9, hmd3⟩ | ⟨hc2, hr2, hmd3⟩ | ⟨hc2, hr2, hmd3⟩ | ⟨z2, hz0, hz7, hc2, hr2, hmd3⟩
    · skip
      have hcls3 : clsP E ad N w3 d kk ((cmS 9 k1 u1 S1.1 S1.2.1 S1.2.2.1 S1.2.2.2.1 S1.2.2.2.2.1 S1.2.2.2.2.2.1 S1.2.2.2.2.2.2.1 S1.2.2.2.2.2.2.2.1 S1.2.2.2.2.2.2.2.2.1 S1.2.2.2.2.2.2.2.2.2).2) ((pl + 1) % 8) (min (ct + 1) 8) (va_up K pl (cpS (S1.1, S1.2.1, S1.2.2.1, S1.2.2.2.1, S1.2.2.2.2.1, S1.2.2.2.2.2.1, S1.2.2.2.2.2.2.1, S1.2.2.2.2.2.2.2.1, S1.2.2.2.2.2.2.2.2.1, S1.2.2.2.2.2.2.2.2.2) (K pl))) sv Z fp dq dd dc bf ln tx := hcls2.fr (fun p hp => hfr p (by show ¬ _; (try dsimp only [gIn]); omega))
      have hfo3 := (hfr (d + 128) (by show ¬ _; (try dsimp only [gIn]); omega)).trans hfo2
      have hfd3 := (hfr (d + 129) (by show ¬ _; (try dsimp only [gIn]); omega)).trans hfd2
      have hcs := cmS_one (ht := S1.1) (dr := S1.2.1) (pg := S1.2.2.1) (wt := S1.2.2.2.1) (wr := S1.2.2.2.2.1) (mo := S1.2.2.2.2.2.1) (ni := S1.2.2.2.2.2.2.2.1) (po := S1.2.2.2.2.2.2.2.2.1) (dn := S1.2.2.2.2.2.2.2.2.2) (by decide) hck1 hck2
      rw [← hcs] at hr2 hR9
      rw [if_pos rfl, if_pos rfl] at hmd3
      have hv9 : v1 = rz2 := hv1.trans hr2.symm
      rw [hv9] at hf1
      refine lv_istore (lv' := [(7, .int rz2), (6, .int (nI (0))), (5, .int (nI (i))), (0, .ref (sa)), (1, .ref (ad (d))), (2, .ref (ad (d + 116))), (3, .ref (ad (d + 128))), (4, .ref (ad (d + 129)))]) hx hb dL_law_2003 hl (by decide) rfl (fun ls hl => ?_)
      refine lv_aload_n hx hb dL_law_2005 rfl (lv_at hl 5 rfl) ?_
      refine g_afi (g_runV S hI hP hS (k := 0) (As := []) (rest := []) (mX13_thrown l _ _ _ _ _ _ _ _ _ _ _ _ _ _ _ _ _ _ _ _ _ _ _ _ _ hmd3) q1860 q1861 q1862 q100 q1863 rfl rfl (by decide +kernel) ⟨(Nat.le_trans (Nat.le_of_ble_eq_true rfl : _ ≤ 64) hRf), (Nat.le_trans (Nat.le_of_ble_eq_true rfl : _ ≤ 2000) hRl)⟩ rfl (hmd3.lt 0 (by decide)) (hmd3.2 0 (by decide)) rfl hl.1 rfl (Nat.le_of_ble_eq_true rfl) ⟨by omega, by omega⟩ dL_law_2006) hS (fun rz9 w9 H locs hq9 hP hS => ?_)
      obtain ⟨hr9, hw9⟩ := hq9
      rw [hw9] at hP
      rw [hr9]
      refine lv_iload hx hb dL_law_2009 (lv_at hl 1 rfl) ?_
      refine g_eq S (a := 0) (b := 0) (by omega) (by omega) (tgt := 2016) dL_law_2011 (by decide) (fun hb9 => ?_) (fun hb9 => ?_)
      · refine lv_iload hx hb dL_law_2016 (lv_at hl 1 rfl) ?_
        refine g_ifne S (a := 0) (by omega) (tgt := 2033) dL_law_2018 (by decide) (fun hb8 => ?_) (fun hb8 => ?_)
        · omega
        · refine lv_aload_n hx hb dL_law_2021 rfl (lv_at hl 6 rfl) ?_
          refine g_iconst S 0 dL_law_2022 (by decide +kernel) ?_
          refine g_lald S hI hP (o := d + 128) (by omega) hfo3 dL_law_2023 ?_
          rw [hf1]
          refine lv_iload hx hb dL_law_2024 (lv_at hl 0 rfl) ?_
          refine lv_i2l hx hb dL_law_2026 rfl ?_
          refine g_lcmpE S dL_law_2027 ?_
          refine g_ifeq S (a := 0) (by omega) (tgt := 2033) dL_law_2028 (by decide) (fun hb7 => ?_) (fun hb7 => ?_)
          · refine lv_goto (tgt := 2997) hx hb dL_law_2033 (by decide) ?_
            exact W.widen (k := cells + 234) (n := slots + 2848) (by omega) (by omega) (kk9 ad N _ _ _ _ ⟨_, _, _, _, _, _, _, _, _, _, _, _, _, _, _, _, _, _, _, _, _, _, _, _, _, _, _, _, _, _, _, _, hcls3, hmd3, ⟨_, hfo3⟩, ⟨_, hfd3⟩, ⟨⟨hR9, cmS_q (S := S1) hrow.2.1 (by decide) hck1 (fun h => absurd h (by decide)), Nat.le_trans (cmS_w (S := S1) hck1.1 (fun h => absurd h (by decide))) (by have := hrow.2.2; omega)⟩, (hhis.keep hrow).le (by omega), ⟨hsnp.1, fun z => (hsnp.2.1 z).le (by omega), hsnp.2.2⟩, hDat.2.2.2⟩⟩ hP hS (lv_sub hl [2, 3, 4, 5, 6, 7] rfl))
          · omega
      · exact absurd rfl hb9
    · skip
      exact absurd (hc1.symm.trans hc2) (by decide +kernel)
    · skip
      exact absurd (hc1.symm.trans hc2) (by decide +kernel)
    · skip
      have := nI_7 z2 hz7 0 (by decide) (hc2.symm.trans hc1)
      omega
  · skip
    rw [hrz]
    have hq := hq.resolve_right (fun z => z.elim (fun y => absurd y.1 (by decide)) (fun y => absurd y.1 (by decide)))
    obtain ⟨-, hc1, hfw, hd9, hs9n, hh9⟩ := hq
    have hclsW : clsP E ad N w1 d kk S1 pl ct K sv Z fp dq dd dc bf ln tx := hcls.chg hd9 hs9n hh9 (fun p hp => hfw p (by show ¬ _; (try simp only [gIn]); (try dsimp only); omega))
    have hmdW : bkP N w1 (d + 116) 12 (MDC E ad (d + 116) g kp svr bfr sd bf sg mk td lv tl sv qc (0 : Nat) qd co wy de ca ln fp sm pa tm) := hmd.fr hfw (fun k hk => (by show ¬ _; (try simp only [gIn]); (try dsimp only); omega))
    have hfoW := (hfw (d + 128) (by show ¬ _; (try simp only [gIn]); (try dsimp only); omega)).trans hfo
    have hfdW := (hfw (d + 129) (by show ¬ _; (try simp only [gIn]); (try dsimp only); omega)).trans hfd
    obtain ⟨wb, hwb⟩ : ∃ z, z = w1 := ⟨_, rfl⟩
    rw [← hwb] at hP
    have hcls2 : clsP E ad N wb d kk S1 pl ct K sv Z fp dq dd dc bf ln tx := by rw [hwb]; exact hclsW
    have hmd2 : bkP N wb (d + 116) 12 (MDC E ad (d + 116) g kp svr bfr sd bf sg mk td lv tl sv qc (0 : Nat) qd co wy de ca ln fp sm pa tm) := by rw [hwb]; exact hmdW
    have hfo2 : wb (d + 128) = loE E fo := by rw [hwb]; exact hfoW
    have hfd2 : wb (d + 129) = doE E fd := by rw [hwb]; exact hfdW
    refine lv_istore (lv' := [(6, .int (nI (1))), (5, .int (nI (i))), (0, .ref (sa)), (1, .ref (ad (d))), (2, .ref (ad (d + 116))), (3, .ref (ad (d + 128))), (4, .ref (ad (d + 129)))]) hx hb dL_law_1985 hl (by decide) rfl (fun ls hl => ?_)
    refine lv_aload_n hx hb dL_law_1987 rfl (lv_at hl 4 rfl) ?_
    refine lv_aload_n hx hb dL_law_1988 rfl (lv_at hl 2 rfl) ?_
    refine lv_iload hx hb dL_law_1989 (lv_at hl 1 rfl) ?_
    refine g_iconst S 1 dL_law_1991 (by decide +kernel) ?_
    refine g_iadd S dL_law_1992 ?_
    refine g_sld S hX hsa hsA hS (i + 1) (by omega) hL dL_law_1993 ?_
    refine lv_aload_n hx hb dL_law_1994 rfl (lv_at hl 2 rfl) ?_
    refine lv_iload hx hb dL_law_1995 (lv_at hl 1 rfl) ?_
    refine g_iconst S 2 dL_law_1997 (by decide +kernel) ?_
    refine g_iadd S dL_law_1998 ?_
    refine g_sld S hX hsa hsA hS (i + 2) (by omega) hL dL_law_1999 ?_
    refine g_afi (g_runV S hI hP hS (k := 2) (As := [.int (xs (i + 1)), .int (xs (i + 2))]) (rest := []) (mX13_patch l (d + 116) g kp svr bfr sd bf sg mk td lv tl sv qc (0 : Nat) qd co wy de ca ln fp sm pa tm S1.1 S1.2.1 S1.2.2.1 S1.2.2.2.1 S1.2.2.2.2.1 S1.2.2.2.2.2.1 S1.2.2.2.2.2.2.1 S1.2.2.2.2.2.2.2.1 S1.2.2.2.2.2.2.2.2.1 S1.2.2.2.2.2.2.2.2.2 (xs (i + 1)) (xs (i + 2)) hmd2 hrow.1 hrow.2.1.1 hrow.2.1.2.1 hrow.2.1.2.2.1 hrow.2.1.2.2.2.1 hrow.2.1.2.2.2.2 (by decide) (by have := hhis.1; have := hhis.2.1; omega)) q2083 q2084 q2085 q100 q2086 rfl rfl (by decide +kernel) ⟨(Nat.le_trans (Nat.le_of_ble_eq_true rfl : _ ≤ 64) hRf), (Nat.le_trans (Nat.le_of_ble_eq_true rfl : _ ≤ 2000) hRl)⟩ rfl (hmd2.lt 0 (by decide)) (hmd2.2 0 (by decide)) rfl hl.1 rfl (Nat.le_of_ble_eq_true rfl) ⟨by omega, by omega⟩ dL_law_2000) hS (fun rz2 w3 H locs hq2 hP hS => ?_)
    obtain ⟨hq2, hfr⟩ := hq2
    rcases hq2 with ⟨hc2, g9, mk9, sd9, k2, u2, qd9, hck2, hr2, hR9, hmd3⟩ | ⟨hc2, hr2, hmd3⟩ | ⟨hc2, hr2, hmd3⟩ | ⟨z2, hz0, hz7, hc2, hr2, hmd3⟩
    · skip
      exact absurd (hc1.symm.trans hc2) (by decide +kernel)
    · skip
      have hcls3 : clsP E ad N w3 d kk S1 pl ct K sv Z fp dq dd dc bf ln tx := hcls2.fr (fun p hp => hfr p (by show ¬ _; (try dsimp only [gIn]); omega))
      have hfo3 := (hfr (d + 128) (by show ¬ _; (try dsimp only [gIn]); omega)).trans hfo2
      have hfd3 := (hfr (d + 129) (by show ¬ _; (try dsimp only [gIn]); omega)).trans hfd2
      refine lv_istore (lv' := [(7, .int rz2), (6, .int (nI (1))), (5, .int (nI (i))), (0, .ref (sa)), (1, .ref (ad (d))), (2, .ref (ad (d + 116))), (3, .ref (ad (d + 128))), (4, .ref (ad (d + 129)))]) hx hb dL_law_2003 hl (by decide) rfl (fun ls hl => ?_)
      refine lv_aload_n hx hb dL_law_2005 rfl (lv_at hl 5 rfl) ?_
      refine g_afi (g_runV S hI hP hS (k := 0) (As := []) (rest := []) (mX13_thrown l _ _ _ _ _ _ _ _ _ _ _ _ _ _ _ _ _ _ _ _ _ _ _ _ _ hmd3) q1860 q1861 q1862 q100 q1863 rfl rfl (by decide +kernel) ⟨(Nat.le_trans (Nat.le_of_ble_eq_true rfl : _ ≤ 64) hRf), (Nat.le_trans (Nat.le_of_ble_eq_true rfl : _ ≤ 2000) hRl)⟩ rfl (hmd3.lt 0 (by decide)) (hmd3.2 0 (by decide)) rfl hl.1 rfl (Nat.le_of_ble_eq_true rfl) ⟨by omega, by omega⟩ dL_law_2006) hS (fun rz9 w9 H locs hq9 hP hS => ?_)
      obtain ⟨hr9, hw9⟩ := hq9
      rw [hw9] at hP
      rw [hr9]
      refine lv_iload hx hb dL_law_2009 (lv_at hl 1 rfl) ?_
      refine g_eq S (a := 1) (b := 1) (by omega) (by omega) (tgt := 2016) dL_law_2011 (by decide) (fun hb9 => ?_) (fun hb9 => ?_)
      · refine lv_iload hx hb dL_law_2016 (lv_at hl 1 rfl) ?_
        refine g_ifne S (a := 1) (by omega) (tgt := 2033) dL_law_2018 (by decide) (fun hb8 => ?_) (fun hb8 => ?_)
        · refine lv_goto (tgt := 2997) hx hb dL_law_2033 (by decide) ?_
          exact W.widen (k := cells + 234) (n := slots + 2848) (by omega) (by omega) (kk9 ad N _ _ _ _ ⟨_, _, _, _, _, _, _, _, _, _, _, _, _, _, _, _, _, _, _, _, _, _, _, _, _, _, _, _, _, _, _, _, hcls3, hmd3, ⟨_, hfo3⟩, ⟨_, hfd3⟩, hDat.le (by omega)⟩ hP hS (lv_sub hl [2, 3, 4, 5, 6, 7] rfl))
        · omega
      · exact absurd rfl hb9
    · skip
      exact absurd (hc1.symm.trans hc2) (by decide +kernel)
    · skip
      exact absurd (hc2.symm.trans hc1) (nI_7m1 z2 hz7)
  · skip
    rw [hrz]
    have hq := (hq.resolve_left (fun y => absurd y.1 (by decide))).resolve_left (fun y => absurd y.1 (by decide))
    obtain ⟨-, n1, hn0, hn7, hc1, hd9, hs9n, hh9, hfw⟩ := hq
    have hclsW : clsP E ad N w1 d kk S1 pl ct K sv Z fp (some n1) (cmT S1.2.2.1 S1.2.2.2.2.1 S1.2.2.2.2.2.1 S1.2.2.2.2.2.2.1 n1 (cellV (xs (i + 1)) (xs (i + 2))) (-1)) none bf ln tx := hcls.chg hd9 hs9n hh9 (fun p hp => hfw p (by show ¬ _; (try simp only [gIn]); (try dsimp only); omega))
    have hmdW : bkP N w1 (d + 116) 12 (MDC E ad (d + 116) g kp svr bfr sd bf sg mk td lv tl sv qc (0 : Nat) qd co wy de ca ln fp sm pa tm) := hmd.fr hfw (fun k hk => (by show ¬ _; (try simp only [gIn]); (try dsimp only); omega))
    have hfoW := (hfw (d + 128) (by show ¬ _; (try simp only [gIn]); (try dsimp only); omega)).trans hfo
    have hfdW := (hfw (d + 129) (by show ¬ _; (try simp only [gIn]); (try dsimp only); omega)).trans hfd
    obtain ⟨wb, hwb⟩ : ∃ z, z = w1 := ⟨_, rfl⟩
    rw [← hwb] at hP
    have hcls2 : clsP E ad N wb d kk S1 pl ct K sv Z fp (some n1) (cmT S1.2.2.1 S1.2.2.2.2.1 S1.2.2.2.2.2.1 S1.2.2.2.2.2.2.1 n1 (cellV (xs (i + 1)) (xs (i + 2))) (-1)) none bf ln tx := by rw [hwb]; exact hclsW
    have hmd2 : bkP N wb (d + 116) 12 (MDC E ad (d + 116) g kp svr bfr sd bf sg mk td lv tl sv qc (0 : Nat) qd co wy de ca ln fp sm pa tm) := by rw [hwb]; exact hmdW
    have hfo2 : wb (d + 128) = loE E fo := by rw [hwb]; exact hfoW
    have hfd2 : wb (d + 129) = doE E fd := by rw [hwb]; exact hfdW
    refine lv_istore (lv' := [(6, .int (nI (2))), (5, .int (nI (i))), (0, .ref (sa)), (1, .ref (ad (d))), (2, .ref (ad (d + 116))), (3, .ref (ad (d + 128))), (4, .ref (ad (d + 129)))]) hx hb dL_law_1985 hl (by decide) rfl (fun ls hl => ?_)
    refine lv_aload_n hx hb dL_law_1987 rfl (lv_at hl 4 rfl) ?_
    refine lv_aload_n hx hb dL_law_1988 rfl (lv_at hl 2 rfl) ?_
    refine lv_iload hx hb dL_law_1989 (lv_at hl 1 rfl) ?_
    refine g_iconst S 1 dL_law_1991 (by decide +kernel) ?_
    refine g_iadd S dL_law_1992 ?_
    refine g_sld S hX hsa hsA hS (i + 1) (by omega) hL dL_law_1993 ?_
    refine lv_aload_n hx hb dL_law_1994 rfl (lv_at hl 2 rfl) ?_
    refine lv_iload hx hb dL_law_1995 (lv_at hl 1 rfl) ?_
    refine g_iconst S 2 dL_law_1997 (by decide +kernel) ?_
    refine g_iadd S dL_law_1998 ?_
    refine g_sld S hX hsa hsA hS (i + 2) (by omega) hL dL_law_1999 ?_
    refine g_afi (g_runV S hI hP hS (k := 2) (As := [.int (xs (i + 1)), .int (xs (i + 2))]) (rest := []) (mX13_patch l (d + 116) g kp svr bfr sd bf sg mk td lv tl sv qc (0 : Nat) qd co wy de ca ln fp sm pa tm S1.1 S1.2.1 S1.2.2.1 S1.2.2.2.1 S1.2.2.2.2.1 S1.2.2.2.2.2.1 S1.2.2.2.2.2.2.1 S1.2.2.2.2.2.2.2.1 S1.2.2.2.2.2.2.2.2.1 S1.2.2.2.2.2.2.2.2.2 (xs (i + 1)) (xs (i + 2)) hmd2 hrow.1 hrow.2.1.1 hrow.2.1.2.1 hrow.2.1.2.2.1 hrow.2.1.2.2.2.1 hrow.2.1.2.2.2.2 (by decide) (by have := hhis.1; have := hhis.2.1; omega)) q2083 q2084 q2085 q100 q2086 rfl rfl (by decide +kernel) ⟨(Nat.le_trans (Nat.le_of_ble_eq_true rfl : _ ≤ 64) hRf), (Nat.le_trans (Nat.le_of_ble_eq_true rfl : _ ≤ 2000) hRl)⟩ rfl (hmd2.lt 0 (by decide)) (hmd2.2 0 (by decide)) rfl hl.1 rfl (Nat.le_of_ble_eq_true rfl) ⟨by omega, by omega⟩ dL_law_2000) hS (fun rz2 w3 H locs hq2 hP hS => ?_)
    obtain ⟨hq2, hfr⟩ := hq2
    rcases hq2 with ⟨hc2, g9, mk9, sd9, k2, u2, qd9, hck2, hr2, hR9, hmd3⟩ | ⟨hc2, hr2, hmd3⟩ | ⟨hc2, hr2, hmd3⟩ | ⟨z2, hz0, hz7, hc2, hr2, hmd3⟩
    · skip
      have := nI_7 n1 hn7 0 (by decide) (hc1.symm.trans hc2)
      omega
    · skip
      exact absurd (hc1.symm.trans hc2) (nI_7m1 n1 hn7)
    · skip
      exact absurd (hc1.symm.trans hc2) (nI_7m2 n1 hn7)
    · skip
      have hcls3 : clsP E ad N w3 d kk S1 pl ct K sv Z fp (some n1) (cmT S1.2.2.1 S1.2.2.2.2.1 S1.2.2.2.2.2.1 S1.2.2.2.2.2.2.1 n1 (cellV (xs (i + 1)) (xs (i + 2))) (-1)) none bf ln tx := hcls2.fr (fun p hp => hfr p (by show ¬ _; (try dsimp only [gIn]); omega))
      have hfo3 := (hfr (d + 128) (by show ¬ _; (try dsimp only [gIn]); omega)).trans hfo2
      have hfd3 := (hfr (d + 129) (by show ¬ _; (try dsimp only [gIn]); omega)).trans hfd2
      have hnz := nI_7 n1 hn7 z2 hz7 (hc1.symm.trans hc2)
      refine lv_istore (lv' := [(7, .int rz2), (6, .int (nI (2))), (5, .int (nI (i))), (0, .ref (sa)), (1, .ref (ad (d))), (2, .ref (ad (d + 116))), (3, .ref (ad (d + 128))), (4, .ref (ad (d + 129)))]) hx hb dL_law_2003 hl (by decide) rfl (fun ls hl => ?_)
      refine lv_aload_n hx hb dL_law_2005 rfl (lv_at hl 5 rfl) ?_
      refine g_afi (g_runV S hI hP hS (k := 0) (As := []) (rest := []) (mX13_thrown l _ _ _ _ _ _ _ _ _ _ _ _ _ _ _ _ _ _ _ _ _ _ _ _ _ hmd3) q1860 q1861 q1862 q100 q1863 rfl rfl (by decide +kernel) ⟨(Nat.le_trans (Nat.le_of_ble_eq_true rfl : _ ≤ 64) hRf), (Nat.le_trans (Nat.le_of_ble_eq_true rfl : _ ≤ 2000) hRl)⟩ rfl (hmd3.lt 0 (by decide)) (hmd3.2 0 (by decide)) rfl hl.1 rfl (Nat.le_of_ble_eq_true rfl) ⟨by omega, by omega⟩ dL_law_2006) hS (fun rz9 w9 H locs hq9 hP hS => ?_)
      obtain ⟨hr9, hw9⟩ := hq9
      rw [hw9] at hP
      rw [hr9]
      refine lv_iload hx hb dL_law_2009 (lv_at hl 1 rfl) ?_
      refine g_eq S (a := 2) (b := 2) (by omega) (by omega) (tgt := 2016) dL_law_2011 (by decide) (fun hb9 => ?_) (fun hb9 => ?_)
      · refine lv_iload hx hb dL_law_2016 (lv_at hl 1 rfl) ?_
        refine g_ifne S (a := 2) (by omega) (tgt := 2033) dL_law_2018 (by decide) (fun hb8 => ?_) (fun hb8 => ?_)
        · refine lv_goto (tgt := 2997) hx hb dL_law_2033 (by decide) ?_
          exact W.widen (k := cells + 234) (n := slots + 2848) (by omega) (by omega) (kk9 ad N _ _ _ _ ⟨_, _, _, _, _, _, _, _, _, _, _, _, _, _, _, _, _, _, _, _, _, _, _, _, _, _, _, _, _, _, _, _, hcls3, hmd3, ⟨_, hfo3⟩, ⟨_, hfd3⟩, lawD.le (B := B) ⟨hrow, hhis, hsnp, den_new hz0 hz7 hnz (by rw [hnz]), hDat.2.2.2.2⟩ (by omega)⟩ hP hS (lv_sub hl [2, 3, 4, 5, 6, 7] rfl))
        · omega
      · exact absurd rfl hb9
end CASES5
