/-! THE LOOP OF THE LAW -/
theorem and63 (x : Int32) : ∃ a, a < 64 ∧ x &&& nI 63 = nI a := by
  refine ⟨x.toBitVec.toNat &&& 63, Nat.lt_succ_of_le Nat.and_le_right, ?_⟩
  apply Int32.toBitVec_inj.mp
  apply BitVec.eq_of_toNat_eq
  have h : x.toBitVec.toNat &&& 63 ≤ 63 := Nat.and_le_right
  have e : (nI (x.toBitVec.toNat &&& 63)).toBitVec.toNat = (x.toBitVec.toNat &&& 63) % 4294967296 := rfl
  rw [e, Nat.mod_eq_of_lt (by omega)]
  show (x.toBitVec &&& (nI 63).toBitVec).toNat = _
  rw [BitVec.toNat_and]
  rfl
theorem few_5 : ∀ L, L < 5 → ∀ i, i < 5 → nI L - nI 5 < nI i := by decide +kernel
theorem lawP.le {E : gE} {kk ad : Nat → Nat} {N : Nat} {w : Nat → va_E} {d B B' : Nat} (h : lawP E kk ad N w d B) (hB : B ≤ B') : lawP E kk ad N w d B' := by
  obtain ⟨S1, pl, ct, K, sv, Z, fp, dq, dd, dc, bf, ln, tx, g, kp, svr, bfr, sd, sg, mk, td, lv, tl, qc, qd, co, wy, de, ca, sm, pa, tm, h1, h2, h3, h4, h5⟩ := h
  exact ⟨S1, pl, ct, K, sv, Z, fp, dq, dd, dc, bf, ln, tx, g, kp, svr, bfr, sd, sg, mk, td, lv, tl, qc, qd, co, wy, de, ca, sm, pa, tm, h1, h2, h3, h4, h5.le hB⟩
section LOOP9
variable {p : Program} {l : Launch} {e : Env} {R : Room} {s : State} {m : MethodId} {args : Array Value} {below : List Frame} {meth : Method} {c : Code} {H : Heap} {locs : List Loc} {cells slots : Nat} {Q : State → Prop}
variable {cc : ByteArray} {pc nL : Nat} {ls : Array Slot} {rest st0 : List Value} {own : String} {E : gE} {ad : Nat → Nat} {N : Nat} {w : Nat → va_E}
set_option maxHeartbeats 4000000 in
set_option maxRecDepth 100000 in
/-- the loop over the script -/
theorem law_loop (kk : Nat → Nat) (hlt : l.stackTraces = false) (hz : gHx E) (hzv : gHv E kk) (hn : gHn E) (S : gFix p m c cL_law 10 s args RL) (hI : gI E s s.heap) (hRf : 64 ≤ R.frames) (hRl : 2000 ≤ R.locals) {d sa L : Nat} {xs : Nat → Int32} (hX : va_X sa L xs s s.heap) (hsa : sa < s.heap.size) (hsA : ¬ gA E sa) (hL : L ≤ 2560)
    (kkE : ∀ (H' : Heap) (locs' : List Loc) (cells' slots' : Nat) (ls' : Array Slot), va_S (gA E) s.heap H' locs' → cells' ≤ R.cells → slots' ≤ R.slots → W p l e R s m args below meth c H' locs' cells' slots' Q (F0 m 3003 ls' [])) :
    ∀ (n i : Nat) (ad : Nat → Nat) (N : Nat) (w : Nat → va_E) (H : Heap) (locs : List Loc) (cells slots : Nat) (ls : Array Slot), L - i < n → i ≤ L → cells + 47 * (L - i) ≤ R.cells → slots + 570 * (L - i) ≤ R.slots → lawP E kk ad N w d (200 * i) → gP E ad N w H → va_S (gA E) s.heap H locs → lv_has ls 10 [(5, .int (nI (i))), (0, .ref (sa)), (1, .ref (ad (d))), (2, .ref (ad (d + 116))), (3, .ref (ad (d + 128))), (4, .ref (ad (d + 129)))] → W p l e R s m args below meth c H locs cells slots Q (F0 m 28 ls []) := by
  have hx := S.1
  have hb := S.2.1
  intro n
  induction n with
  | zero => intro i ad N w H locs cells slots ls hn9; omega
  | succ n ih =>
    intro i ad N w H locs cells slots ls hn9 hiL hRc hRs hinv hP hS hl
    refine lv_iload hx hb dL_law_28 (lv_at hl 0 rfl) ?_
    refine lv_aload_n hx hb dL_law_30 rfl (lv_at hl 1 rfl) ?_
    refine va_slen S.1 S.2.1 hX hsa hsA hS dL_law_31 ?_
    show W p l e R s m args below meth c H locs cells slots Q (F0 m 32 ls [.int (nI L), .int (nI i)])
    refine g_iconst S 5 dL_law_32 (by decide +kernel) ?_
    by_cases hL5 : 5 ≤ L
    · skip
      refine g_isub S (by omega) dL_law_33 ?_
      refine g_gt S (a := i) (b := L - 5) (by omega) (by omega) (tgt := 3003) dL_law_34 (by decide) (fun hg9 => ?_) (fun hg9 => ?_)
      · exact kkE _ _ _ _ _ hS (by omega) (by omega)
      · have hend : ∀ (ad' : Nat → Nat) (N' : Nat) (w' : Nat → va_E) (H' : Heap) (locs' : List Loc) (ls' : Array Slot), lawP E kk ad' N' w' d (200 * i + 1000) → gP E ad' N' w' H' → va_S (gA E) s.heap H' locs' → lv_has ls' 10 [(5, .int (nI (i))), (0, .ref (sa)), (1, .ref (ad' (d))), (2, .ref (ad' (d + 116))), (3, .ref (ad' (d + 128))), (4, .ref (ad' (d + 129)))] → W p l e R s m args below meth c H' locs' (cells + 234) (slots + 2848) Q (F0 m 2997 ls' []) := by
          intro ad' N' w' H' locs' ls' hinv hP hS hl
          refine lv_iinc (v := nI (i + 5)) (lv' := [(5, .int (nI (i + 5))), (0, .ref (sa)), (1, .ref (ad' (d))), (2, .ref (ad' (d + 116))), (3, .ref (ad' (d + 128))), (4, .ref (ad' (d + 129)))]) hx hb dL_law_2997 hl (k := 0) rfl (g_inc _ 5 (by decide +kernel)) (by decide) rfl (fun ls hl => ?_)
          refine lv_goto (tgt := 28) hx hb dL_law_3000 (by decide) ?_
          exact ih (i + 5) ad' N' w' H' locs' (cells + 234) (slots + 2848) _ (by omega) (by omega) (by omega) (by omega) (by rw [show 200 * (i + 5) = 200 * i + 1000 by omega]; exact hinv) hP hS hl
        refine lv_aload_n hx hb dL_law_37 rfl (lv_at hl 1 rfl) ?_
        refine lv_iload hx hb dL_law_38 (lv_at hl 0 rfl) ?_
        refine g_sld S hX hsa hsA hS (i) (by omega) (by omega) dL_law_40 ?_
        refine g_bipush S 63 dL_law_41 (by decide +kernel) ?_
        refine lv_iand hx hb dL_law_43 ?_
        obtain ⟨a, ha, hea⟩ := and63 (xs i)
        rw [hea]
        by_cases h53 : a < 53
        · skip
          have hcs : a = 0 ∨ a = 1 ∨ a = 2 ∨ a = 3 ∨ a = 4 ∨ a = 5 ∨ a = 6 ∨ a = 7 ∨ a = 8 ∨ a = 9 ∨ a = 10 ∨ a = 11 ∨ a = 12 ∨ a = 13 ∨ a = 14 ∨ a = 15 ∨ a = 16 ∨ a = 17 ∨ a = 18 ∨ a = 19 ∨ a = 20 ∨ a = 21 ∨ a = 22 ∨ a = 23 ∨ a = 24 ∨ a = 25 ∨ a = 26 ∨ a = 27 ∨ a = 28 ∨ a = 29 ∨ a = 30 ∨ a = 31 ∨ a = 32 ∨ a = 33 ∨ a = 34 ∨ a = 35 ∨ a = 36 ∨ a = 37 ∨ a = 38 ∨ a = 39 ∨ a = 40 ∨ a = 41 ∨ a = 42 ∨ a = 43 ∨ a = 44 ∨ a = 45 ∨ a = 46 ∨ a = 47 ∨ a = 48 ∨ a = 49 ∨ a = 50 ∨ a = 51 ∨ a = 52 := by omega
          rcases hcs with rfl | rfl | rfl | rfl | rfl | rfl | rfl | rfl | rfl | rfl | rfl | rfl | rfl | rfl | rfl | rfl | rfl | rfl | rfl | rfl | rfl | rfl | rfl | rfl | rfl | rfl | rfl | rfl | rfl | rfl | rfl | rfl | rfl | rfl | rfl | rfl | rfl | rfl | rfl | rfl | rfl | rfl | rfl | rfl | rfl | rfl | rfl | rfl | rfl | rfl | rfl | rfl | rfl
          · refine g_tabIn S (a := 0) (by decide) dL_law_44 (by decide) (by decide) rfl (tgt := 272) (by decide) ?_
            exact lc_0 kk hlt hz hzv hn S hI hP hS hRf hRl (by omega) (by omega) (by omega) hinv hX hsa hsA (by omega) (by omega) hl hend
          · refine g_tabIn S (a := 1) (by decide) dL_law_44 (by decide) (by decide) rfl (tgt := 352) (by decide) ?_
            exact lc_1 kk hlt hz hzv hn S hI hP hS hRf hRl (by omega) (by omega) (by omega) hinv hX hsa hsA (by omega) (by omega) hl hend
          · refine g_tabIn S (a := 2) (by decide) dL_law_44 (by decide) (by decide) rfl (tgt := 420) (by decide) ?_
            exact lc_2 kk hlt hz hzv hn S hI hP hS hRf hRl (by omega) (by omega) (by omega) hinv hX hsa hsA (by omega) (by omega) hl hend
          · refine g_tabIn S (a := 3) (by decide) dL_law_44 (by decide) (by decide) rfl (tgt := 488) (by decide) ?_
            exact lc_3 kk hlt hz hzv hn S hI hP hS hRf hRl (by omega) (by omega) (by omega) hinv hX hsa hsA (by omega) (by omega) hl hend
          · refine g_tabIn S (a := 4) (by decide) dL_law_44 (by decide) (by decide) rfl (tgt := 501) (by decide) ?_
            exact lc_4 kk hlt hz hzv hn S hI hP hS hRf hRl (by omega) (by omega) (by omega) hinv hX hsa hsA (by omega) (by omega) hl hend
          · refine g_tabIn S (a := 5) (by decide) dL_law_44 (by decide) (by decide) rfl (tgt := 569) (by decide) ?_
            exact lc_5 kk hlt hz hzv hn S hI hP hS hRf hRl (by omega) (by omega) (by omega) hinv hX hsa hsA (by omega) (by omega) hl hend
          · refine g_tabIn S (a := 6) (by decide) dL_law_44 (by decide) (by decide) rfl (tgt := 644) (by decide) ?_
            exact lc_6 kk hlt hz hzv hn S hI hP hS hRf hRl (by omega) (by omega) (by omega) hinv hX hsa hsA (by omega) (by omega) hl hend
          · refine g_tabIn S (a := 7) (by decide) dL_law_44 (by decide) (by decide) rfl (tgt := 700) (by decide) ?_
            exact lc_7 kk hlt hz hzv hn S hI hP hS hRf hRl (by omega) (by omega) (by omega) hinv hX hsa hsA (by omega) (by omega) hl hend
          · refine g_tabIn S (a := 8) (by decide) dL_law_44 (by decide) (by decide) rfl (tgt := 756) (by decide) ?_
            exact lc_8 kk hlt hz hzv hn S hI hP hS hRf hRl (by omega) (by omega) (by omega) hinv hX hsa hsA (by omega) (by omega) hl hend
          · refine g_tabIn S (a := 9) (by decide) dL_law_44 (by decide) (by decide) rfl (tgt := 812) (by decide) ?_
            exact lc_9 kk hlt hz hzv hn S hI hP hS hRf hRl (by omega) (by omega) (by omega) hinv hX hsa hsA (by omega) (by omega) hl hend
          · refine g_tabIn S (a := 10) (by decide) dL_law_44 (by decide) (by decide) rfl (tgt := 868) (by decide) ?_
            exact lc_10 kk hlt hz hzv hn S hI hP hS hRf hRl (by omega) (by omega) (by omega) hinv hX hsa hsA (by omega) (by omega) hl hend
          · refine g_tabIn S (a := 11) (by decide) dL_law_44 (by decide) (by decide) rfl (tgt := 948) (by decide) ?_
            exact lc_11 kk hlt hz hzv hn S hI hP hS hRf hRl (by omega) (by omega) (by omega) hinv hX hsa hsA (by omega) (by omega) hl hend
          · refine g_tabIn S (a := 12) (by decide) dL_law_44 (by decide) (by decide) rfl (tgt := 961) (by decide) ?_
            exact lc_12 kk hlt hz hzv hn S hI hP hS hRf hRl (by omega) (by omega) (by omega) hinv hX hsa hsA (by omega) (by omega) hl hend
          · refine g_tabIn S (a := 13) (by decide) dL_law_44 (by decide) (by decide) rfl (tgt := 1029) (by decide) ?_
            exact lc_13 kk hlt hz hzv hn S hI hP hS hRf hRl (by omega) (by omega) (by omega) hinv hX hsa hsA (by omega) (by omega) hl hend
          · refine g_tabIn S (a := 14) (by decide) dL_law_44 (by decide) (by decide) rfl (tgt := 1097) (by decide) ?_
            exact lc_14 kk hlt hz hzv hn S hI hP hS hRf hRl (by omega) (by omega) (by omega) hinv hX hsa hsA (by omega) (by omega) hl hend
          · refine g_tabIn S (a := 15) (by decide) dL_law_44 (by decide) (by decide) rfl (tgt := 1165) (by decide) ?_
            exact lc_15 kk hlt hz hzv hn S hI hP hS hRf hRl (by omega) (by omega) (by omega) hinv hX hsa hsA (by omega) (by omega) hl hend
          · refine g_tabIn S (a := 16) (by decide) dL_law_44 (by decide) (by decide) rfl (tgt := 1178) (by decide) ?_
            exact lc_16 kk hlt hz hzv hn S hI hP hS hRf hRl (by omega) (by omega) (by omega) hinv hX hsa hsA (by omega) (by omega) hl hend
          · refine g_tabIn S (a := 17) (by decide) dL_law_44 (by decide) (by decide) rfl (tgt := 1246) (by decide) ?_
            exact lc_17 kk hlt hz hzv hn S hI hP hS hRf hRl (by omega) (by omega) (by omega) hinv hX hsa hsA (by omega) (by omega) hl hend
          · refine g_tabIn S (a := 18) (by decide) dL_law_44 (by decide) (by decide) rfl (tgt := 1314) (by decide) ?_
            exact lc_18 kk hlt hz hzv hn S hI hP hS hRf hRl (by omega) (by omega) (by omega) hinv hX hsa hsA (by omega) (by omega) hl hend
          · refine g_tabIn S (a := 19) (by decide) dL_law_44 (by decide) (by decide) rfl (tgt := 1382) (by decide) ?_
            exact lc_19 kk hlt hz hzv hn S hI hP hS hRf hRl (by omega) (by omega) (by omega) hinv hX hsa hsA (by omega) (by omega) hl hend
          · refine g_tabIn S (a := 20) (by decide) dL_law_44 (by decide) (by decide) rfl (tgt := 1450) (by decide) ?_
            exact lc_20 kk hlt hz hzv hn S hI hP hS hRf hRl (by omega) (by omega) (by omega) hinv hX hsa hsA (by omega) (by omega) hl hend
          · refine g_tabIn S (a := 21) (by decide) dL_law_44 (by decide) (by decide) rfl (tgt := 1463) (by decide) ?_
            exact lc_21 kk hlt hz hzv hn S hI hP hS hRf hRl (by omega) (by omega) (by omega) hinv hX hsa hsA (by omega) (by omega) hl hend
          · refine g_tabIn S (a := 22) (by decide) dL_law_44 (by decide) (by decide) rfl (tgt := 1555) (by decide) ?_
            exact lc_22 kk hlt hz hzv hn S hI hP hS hRf hRl (by omega) (by omega) (by omega) hinv hX hsa hsA (by omega) (by omega) hl hend
          · refine g_tabIn S (a := 23) (by decide) dL_law_44 (by decide) (by decide) rfl (tgt := 1647) (by decide) ?_
            exact lc_23 kk hlt hz hzv hn S hI hP hS hRf hRl (by omega) (by omega) (by omega) hinv hX hsa hsA (by omega) (by omega) hl hend
          · refine g_tabIn S (a := 24) (by decide) dL_law_44 (by decide) (by decide) rfl (tgt := 1739) (by decide) ?_
            exact lc_24 kk hlt hz hzv hn S hI hP hS hRf hRl (by omega) (by omega) (by omega) hinv hX hsa hsA (by omega) (by omega) hl hend
          · refine g_tabIn S (a := 25) (by decide) dL_law_44 (by decide) (by decide) rfl (tgt := 1831) (by decide) ?_
            exact lc_25 kk hlt hz hzv hn S hI hP hS hRf hRl (by omega) (by omega) (by omega) hinv hX hsa hsA (by omega) (by omega) hl hend
          · refine g_tabIn S (a := 26) (by decide) dL_law_44 (by decide) (by decide) rfl (tgt := 1899) (by decide) ?_
            exact lc_26 kk hlt hz hzv hn S hI hP hS hRf hRl (by omega) (by omega) (by omega) hinv hX hsa hsA (by omega) (by omega) hl hend
          · refine g_tabIn S (a := 27) (by decide) dL_law_44 (by decide) (by decide) rfl (tgt := 1955) (by decide) ?_
            exact lc_27 kk hlt hz hzv hn S hI hP hS hRf hRl (by omega) (by omega) (by omega) hinv hX hsa hsA (by omega) (by omega) hl hend
          · refine g_tabIn S (a := 28) (by decide) dL_law_44 (by decide) (by decide) rfl (tgt := 1968) (by decide) ?_
            exact lc_28 kk hlt hz hzv hn S hI hP hS hRf hRl (by omega) (by omega) (by omega) hinv hX hsa hsA (by omega) (by omega) hl hend
          · refine g_tabIn S (a := 29) (by decide) dL_law_44 (by decide) (by decide) rfl (tgt := 2036) (by decide) ?_
            exact lc_29 kk hlt hz hzv hn S hI hP hS hRf hRl (by omega) (by omega) (by omega) hinv hX hsa hsA (by omega) (by omega) hl hend
          · refine g_tabIn S (a := 30) (by decide) dL_law_44 (by decide) (by decide) rfl (tgt := 2049) (by decide) ?_
            exact lc_30 kk hlt hz hzv hn S hI hP hS hRf hRl (by omega) (by omega) (by omega) hinv hX hsa hsA (by omega) (by omega) hl hend
          · refine g_tabIn S (a := 31) (by decide) dL_law_44 (by decide) (by decide) rfl (tgt := 2105) (by decide) ?_
            exact lc_31 kk hlt hz hzv hn S hI hP hS hRf hRl (by omega) (by omega) (by omega) hinv hX hsa hsA (by omega) (by omega) hl hend
          · refine g_tabIn S (a := 32) (by decide) dL_law_44 (by decide) (by decide) rfl (tgt := 2161) (by decide) ?_
            exact lc_32 kk hlt hz hzv hn S hI hP hS hRf hRl (by omega) (by omega) (by omega) hinv hX hsa hsA (by omega) (by omega) hl hend
          · refine g_tabIn S (a := 33) (by decide) dL_law_44 (by decide) (by decide) rfl (tgt := 2229) (by decide) ?_
            exact lc_33 kk hlt hz hzv hn S hI hP hS hRf hRl (by omega) (by omega) (by omega) hinv hX hsa hsA (by omega) (by omega) hl hend
          · refine g_tabIn S (a := 34) (by decide) dL_law_44 (by decide) (by decide) rfl (tgt := 2242) (by decide) ?_
            exact lc_34 kk hlt hz hzv hn S hI hP hS hRf hRl (by omega) (by omega) (by omega) hinv hX hsa hsA (by omega) (by omega) hl hend
          · refine g_tabIn S (a := 35) (by decide) dL_law_44 (by decide) (by decide) rfl (tgt := 2310) (by decide) ?_
            exact lc_35 kk hlt hz hzv hn S hI hP hS hRf hRl (by omega) (by omega) (by omega) hinv hX hsa hsA (by omega) (by omega) hl hend
          · refine g_tabIn S (a := 36) (by decide) dL_law_44 (by decide) (by decide) rfl (tgt := 2323) (by decide) ?_
            exact lc_36 kk hlt hz hzv hn S hI hP hS hRf hRl (by omega) (by omega) (by omega) hinv hX hsa hsA (by omega) (by omega) hl hend
          · refine g_tabIn S (a := 37) (by decide) dL_law_44 (by decide) (by decide) rfl (tgt := 2336) (by decide) ?_
            exact lc_37 kk hlt hz hzv hn S hI hP hS hRf hRl (by omega) (by omega) (by omega) hinv hX hsa hsA (by omega) (by omega) hl hend
          · refine g_tabIn S (a := 38) (by decide) dL_law_44 (by decide) (by decide) rfl (tgt := 2349) (by decide) ?_
            exact lc_38 kk hlt hz hzv hn S hI hP hS hRf hRl (by omega) (by omega) (by omega) hinv hX hsa hsA (by omega) (by omega) hl hend
          · refine g_tabIn S (a := 39) (by decide) dL_law_44 (by decide) (by decide) rfl (tgt := 2362) (by decide) ?_
            exact lc_39 kk hlt hz hzv hn S hI hP hS hRf hRl (by omega) (by omega) (by omega) hinv hX hsa hsA (by omega) (by omega) hl hend
          · refine g_tabIn S (a := 40) (by decide) dL_law_44 (by decide) (by decide) rfl (tgt := 2403) (by decide) ?_
            exact lc_40 kk hlt hz hzv hn S hI hP hS hRf hRl (by omega) (by omega) (by omega) hinv hX hsa hsA (by omega) (by omega) hl hend
          · refine g_tabIn S (a := 41) (by decide) dL_law_44 (by decide) (by decide) rfl (tgt := 2493) (by decide) ?_
            exact lc_41 kk hlt hz hzv hn S hI hP hS hRf hRl (by omega) (by omega) (by omega) hinv hX hsa hsA (by omega) (by omega) hl hend
          · refine g_tabIn S (a := 42) (by decide) dL_law_44 (by decide) (by decide) rfl (tgt := 2551) (by decide) ?_
            exact lc_42 kk hlt hz hzv hn S hI hP hS hRf hRl (by omega) (by omega) (by omega) hinv hX hsa hsA (by omega) (by omega) hl hend
          · refine g_tabIn S (a := 43) (by decide) dL_law_44 (by decide) (by decide) rfl (tgt := 2595) (by decide) ?_
            exact lc_43 kk hlt hz hzv hn S hI hP hS hRf hRl (by omega) (by omega) (by omega) hinv hX hsa hsA (by omega) (by omega) hl hend
          · refine g_tabIn S (a := 44) (by decide) dL_law_44 (by decide) (by decide) rfl (tgt := 2639) (by decide) ?_
            exact lc_44 kk hlt hz hzv hn S hI hP hS hRf hRl (by omega) (by omega) (by omega) hinv hX hsa hsA (by omega) (by omega) hl hend
          · refine g_tabIn S (a := 45) (by decide) dL_law_44 (by decide) (by decide) rfl (tgt := 2695) (by decide) ?_
            exact lc_45 kk hlt hz hzv hn S hI hP hS hRf hRl (by omega) (by omega) (by omega) hinv hX hsa hsA (by omega) (by omega) hl hend
          · refine g_tabIn S (a := 46) (by decide) dL_law_44 (by decide) (by decide) rfl (tgt := 2751) (by decide) ?_
            exact lc_46 kk hlt hz hzv hn S hI hP hS hRf hRl (by omega) (by omega) (by omega) hinv hX hsa hsA (by omega) (by omega) hl hend
          · refine g_tabIn S (a := 47) (by decide) dL_law_44 (by decide) (by decide) rfl (tgt := 2795) (by decide) ?_
            exact lc_47 kk hlt hz hzv hn S hI hP hS hRf hRl (by omega) (by omega) (by omega) hinv hX hsa hsA (by omega) (by omega) hl hend
          · refine g_tabIn S (a := 48) (by decide) dL_law_44 (by decide) (by decide) rfl (tgt := 2839) (by decide) ?_
            exact lc_48 kk hlt hz hzv hn S hI hP hS hRf hRl (by omega) (by omega) (by omega) hinv hX hsa hsA (by omega) (by omega) hl hend
          · refine g_tabIn S (a := 49) (by decide) dL_law_44 (by decide) (by decide) rfl (tgt := 2883) (by decide) ?_
            exact lc_49 kk hlt hz hzv hn S hI hP hS hRf hRl (by omega) (by omega) (by omega) hinv hX hsa hsA (by omega) (by omega) hl hend
          · refine g_tabIn S (a := 50) (by decide) dL_law_44 (by decide) (by decide) rfl (tgt := 2927) (by decide) ?_
            exact lc_50 kk hlt hz hzv hn S hI hP hS hRf hRl (by omega) (by omega) (by omega) hinv hX hsa hsA (by omega) (by omega) hl hend
          · refine g_tabIn S (a := 51) (by decide) dL_law_44 (by decide) (by decide) rfl (tgt := 2940) (by decide) ?_
            exact lc_51 kk hlt hz hzv hn S hI hP hS hRf hRl (by omega) (by omega) (by omega) hinv hX hsa hsA (by omega) (by omega) hl hend
          · refine g_tabIn S (a := 52) (by decide) dL_law_44 (by decide) (by decide) rfl (tgt := 2953) (by decide) ?_
            exact lc_52 kk hlt hz hzv hn S hI hP hS hRf hRl (by omega) (by omega) (by omega) hinv hX hsa hsA (by omega) (by omega) hl hend
        · refine g_tabOut S (a := a) (by omega) dL_law_44 (Or.inr (by omega)) (tgt := 2997) (by decide) ?_
          exact W.widen (k := cells + 234) (n := slots + 2848) (by omega) (by omega) (hend ad N w H locs _ (hinv.le (by omega)) hP hS hl)
    · skip
      refine lv_isub hx hb dL_law_33 ?_
      refine lv_icmp_gt (tgt := 3003) hx hb dL_law_34 (by decide) (fun _ => ?_) (fun h => absurd (few_5 L (by omega) i (by omega)) h)
      exact kkE _ _ _ _ _ hS (by omega) (by omega)
end LOOP9
