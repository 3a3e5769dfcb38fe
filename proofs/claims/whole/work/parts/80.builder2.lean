/-! THE LINE: its bytes lie at the place behind it, whichever row they are in -/
theorem gP.swap {E : gE} {ad : Nat → Nat} {N : Nat} {w : Nat → va_E} {H : Heap} (h : gP E ad (N + 1) w H) {k : Nat} (hk : k < N) : gP E (va_up ad k (ad N)) N (va_up w k (w N)) H := by
  have h1 := h.pick N (fun p => if p = k then N else p) (fun p hp => by (try dsimp only); split <;> omega) (fun i j hi hj e => by
    (try dsimp only at e)
    split at e <;> split at e <;> omega)
  have h2 := h1.ad (ad' := va_up ad k (ad N)) (fun p hp => by
    by_cases q : p = k
    · subst q; rw [va_up_self]; simp
    · rw [va_up_ne _ _ q]; simp [q])
  exact h2.to (fun p hp => by
    by_cases q : p = k
    · subst q; rw [va_up_self]; simp
    · rw [va_up_ne _ _ q]; simp [q])
def sbR (E : gE) (ad : Nat → Nat) (N : Nat) (w : Nat → va_E) (q cp mb sn : Nat) (f : Nat → Nat) : Prop :=
  bkP N w q 1 (SBC E ad q (ad (q + 1)) 0 mb sn) ∧ q + 1 < N ∧ w (q + 1) = gAr (E.2.1 3) cp f ∧ cpOk cp ∧ sn ≤ cp ∧ ∀ j, j < cp → f j < 128
theorem cpOk.le {cp : Nat} (h : cpOk cp) : 16 ≤ cp ∧ cp ≤ 70 ∧ (cp < 60 → cpOk (cp + (cp + 2))) := by
  rcases h with rfl | rfl | rfl
  · exact ⟨by decide, by decide, fun _ => Or.inr (Or.inl rfl)⟩
  · exact ⟨by decide, by decide, fun _ => Or.inr (Or.inr rfl)⟩
  · exact ⟨by decide, by decide, fun h => absurd h (by decide)⟩
theorem isub_le : ∀ x, x < 75 → ∀ y, y < 75 → (nI x - nI y ≤ 0 ↔ x ≤ y) := by decide +kernel
/-- how the line's world goes on: all but its two places keep -/
def sbG (ad : Nat → Nat) (N : Nat) (w : Nat → va_E) (q : Nat) (ad' : Nat → Nat) (N' : Nat) (w' : Nat → va_E) : Prop := N' = N ∧ (∀ p, p < N → p ≠ q + 1 → ad' p = ad p) ∧ ∀ p, p < N → p ≠ q → p ≠ q + 1 → w' p = w p
theorem sbG.rf {ad : Nat → Nat} {N : Nat} {w : Nat → va_E} {q : Nat} : sbG ad N w q ad N w := ⟨rfl, fun _ _ _ => rfl, fun _ _ _ _ => rfl⟩
theorem sbG.trans {ad ad' ad2 : Nat → Nat} {N N' N2 : Nat} {w w' w2 : Nat → va_E} {q : Nat} (h : sbG ad N w q ad' N' w') (g : sbG ad' N' w' q ad2 N2 w2) : sbG ad N w q ad2 N2 w2 := by
  obtain ⟨rfl, h2, h3⟩ := h
  obtain ⟨rfl, g2, g3⟩ := g
  exact ⟨rfl, fun p a b => (g2 p a b).trans (h2 p a b), fun p a b c => (g3 p a b c).trans (h3 p a b c)⟩
set_option maxHeartbeats 4000000 in
set_option maxRecDepth 100000 in
/-- room for more -/
theorem mJ5_ensureCapacityInternal_d00df (l : Launch) {E : gE} {ad : Nat → Nat} {N : Nat} {w : Nat → va_E} (kk : Nat → Nat) (hzv : gHv E kk) (q cp mb sn : Nat) (f : Nat → Nat) (x : Nat) (hR : sbR E ad N w q cp mb sn f) (hxc0 : x ≤ cp + 2) (hx60 : x ≤ 60) : gUv l yJ5_ensureCapacityInternal_d00df (lw_ws yJ5_ensureCapacityInternal_d00df cJ5_ensureCapacityInternal_d00df 3 none) ({ frames := 3, cells := 1, slots := 70, locals := 69 } : Room) E ad N w [.ref (ad (q)), .int (nI (x))] (fun ad' N' w' => sbG ad N w q ad' N' w' ∧ ∃ cp' f', sbR E ad' N' w' q cp' mb sn f' ∧ (∀ j, j < sn → f' j = f j) ∧ x ≤ cp') 1 70 := by
  refine Met.ofW (cc := cJ5_ensureCapacityInternal_d00df) (maxL := 3) (ret := none) (by decide) rfl ?_
  intro p e s m args below meth cd s₁ B hml hv
  obtain ⟨rfl, hI, hP⟩ := hv
  obtain ⟨S, hr, hlocks⟩ := gPre (ws := []) B hml (C := RJ5) rfl
  have hx := S.1
  have hb := S.2.1
  have hzk := hzv s s.heap hI.2.2.2.2
  have hS : va_S (gA E) s.heap s.heap [] := va_S.rf
  have hl := lv_entry ([.ref (ad (q)), .int (nI (x))]) (n := 3) (Nat.le_of_ble_eq_true rfl)
  rw [lg_entry_eq]
  generalize (lg_sl ([.ref (ad (q)), .int (nI (x))]) ++ List.replicate (3 - (lg_sl ([.ref (ad (q)), .int (nI (x))])).length) Slot.unset).toArray = ls at hl ⊢
  have hl : lv_has ls 3 [(0, .ref (ad (q))), (1, .int (nI (x)))] := hl
  obtain ⟨hb_a, hq1, hrw, hco, hsc, hf⟩ := hR
  obtain ⟨hc16, hc70, hcg⟩ := hco.le
  have hqN : q < N := by omega
  refine lv_aload_n hx hb dJ5_ensureCapacityInternal_d00df_0 rfl (lv_at hl 0 rfl) ?_
  refine g_get S hI hP uJ4 rfl (fs := _) (hb_a.lt 0 (by decide)) (hb_a.2 0 (by decide)) 0 (by decide) q387 rfl (v := .ref ((ad (q + 1)))) rfl dJ5_ensureCapacityInternal_d00df_1 ?_
  refine g_alen S hI hP (t0 := 3) hq1 hrw rfl dJ5_ensureCapacityInternal_d00df_4 ?_
  refine lv_aload_n hx hb dJ5_ensureCapacityInternal_d00df_5 rfl (lv_at hl 0 rfl) ?_
  refine g_get S hI hP uJ4 rfl (fs := _) (hb_a.lt 0 (by decide)) (hb_a.2 0 (by decide)) 1 (by decide) q388 rfl (v := .int (nI (0))) rfl dJ5_ensureCapacityInternal_d00df_6 ?_
  refine lv_ishr hx hb dJ5_ensureCapacityInternal_d00df_9 ?_
  rw [nI_shr0]
  refine lv_istore_n (lv' := [(2, .int (nI (cp))), (0, .ref (ad (q))), (1, .int (nI (x)))]) hx hb dJ5_ensureCapacityInternal_d00df_10 rfl hl (by decide) rfl (fun ls hl => ?_)
  refine lv_iload_n hx hb dJ5_ensureCapacityInternal_d00df_11 rfl (lv_at hl 2 rfl) ?_
  refine lv_iload_n hx hb dJ5_ensureCapacityInternal_d00df_12 rfl (lv_at hl 0 rfl) ?_
  refine lv_isub hx hb dJ5_ensureCapacityInternal_d00df_13 ?_
  refine lv_if_le (tgt := 38) hx hb dJ5_ensureCapacityInternal_d00df_14 (by decide) (fun hc => ?_) (fun hc => ?_)
  · rw [isub_le x (by omega) cp (by omega)] at hc
    exact g_uvret S hr hlocks hP hS (⟨sbG.rf, cp, f, ⟨hb_a, hq1, hrw, hco, hsc, hf⟩, fun _ _ => rfl, hc⟩) (Nat.le_of_ble_eq_true rfl) (Nat.le_of_ble_eq_true rfl) dJ5_ensureCapacityInternal_d00df_38
  · rw [isub_le x (by omega) cp (by omega)] at hc
    have hc70b := (hcg (by omega)).le.2.1
    refine lv_aload_n hx hb dJ5_ensureCapacityInternal_d00df_17 rfl (lv_at hl 1 rfl) ?_
    refine lv_aload_n hx hb dJ5_ensureCapacityInternal_d00df_18 rfl (lv_at hl 1 rfl) ?_
    refine g_get S hI hP uJ4 rfl (fs := _) (hb_a.lt 0 (by decide)) (hb_a.2 0 (by decide)) 0 (by decide) q387 rfl (v := .ref ((ad (q + 1)))) rfl dJ5_ensureCapacityInternal_d00df_19 ?_
    refine lv_aload_n hx hb dJ5_ensureCapacityInternal_d00df_22 rfl (lv_at hl 1 rfl) ?_
    refine lv_iload_n hx hb dJ5_ensureCapacityInternal_d00df_23 rfl (lv_at hl 2 rfl) ?_
    refine g_roi (g_runU S hI hP hS (k := 1) (C := "java/lang/StringBuilder") (As := [.int (nI (x))]) (rest := [.ref ((ad (q + 1))), .ref (ad (q))]) (mJ5_newCapacity_0f7a4 l q mb sn (q + 1) cp x f hb_a hq1 hrw hc70 (by omega) hxc0) q1484 q2257 q1486 q2316 q96 q1487 rfl rfl (by decide +kernel) ⟨(Nat.le_of_ble_eq_true rfl), (Nat.le_of_ble_eq_true rfl)⟩ rfl (hb_a.lt 0 (by decide)) (hb_a.2 0 (by decide)) rfl hl.1 rfl (Nat.le_of_ble_eq_true rfl) ⟨(Nat.le_of_ble_eq_true rfl), (Nat.le_of_ble_eq_true rfl)⟩ dJ5_ensureCapacityInternal_d00df_24) hS (fun H locs hP hS => ?_)
    refine lv_aload_n hx hb dJ5_ensureCapacityInternal_d00df_27 rfl (lv_at hl 1 rfl) ?_
    refine g_get S hI hP uJ4 rfl (fs := _) (hb_a.lt 0 (by decide)) (hb_a.2 0 (by decide)) 1 (by decide) q388 rfl (v := .int (nI (0))) rfl dJ5_ensureCapacityInternal_d00df_28 ?_
    refine lv_ishl hx hb dJ5_ensureCapacityInternal_d00df_31 ?_
    rw [nI_shl0]
    refine g_uafr (g_runSX S hI hP hS (k := 2) (As := [.ref ((ad (q + 1))), .int (nI (cp + (cp + 2)))]) (rest := [.ref (ad (q))]) (mJ7_copyOf_9075b l (q + 1) cp (cp + (cp + 2)) f hq1 hrw (by omega) (by omega) hf) q1490 q1491 q84 q1492 rfl rfl (by decide +kernel) ⟨(Nat.le_of_ble_eq_true rfl), (Nat.le_of_ble_eq_true rfl)⟩ rfl hl.1 rfl (Nat.le_of_ble_eq_true rfl) ⟨(Nat.le_of_ble_eq_true rfl), (Nat.le_of_ble_eq_true rfl)⟩ dJ5_ensureCapacityInternal_d00df_32) hS (fun rz ad1 N1 w1 H locs hq hP hS => ?_)
    obtain ⟨hr1, hN1, hadL1, hwN1, hwL1⟩ := hq
    rw [hr1]
    subst hN1
    have hb1 : bkP (N + 1) w1 q 1 (SBC E ad1 q (ad (q + 1)) 0 mb sn) := SB_mv hb_a (w' := w1) (M := N) (by omega) (Nat.le_succ _) (fun p hp => (hadL1 p hp).symm) (fun p h1 h2 => hwL1 p (by omega))
    rw [show ([.ref ((ad1 N)), .ref (ad (q))] : List Value) = [.ref ((ad1 N)), .ref (ad1 (q))] by rw [hadL1 (q) (by omega)]]
    have hl : lv_has ls 3 [(2, .int (nI (cp))), (0, .ref (ad1 (q))), (1, .int (nI (x)))] := by rw [hadL1 (q) (by omega)]; exact hl
    refine g_put S hI hP hS uJ4 rfl tyJ4 tyJ4_ok nmJ4 (fs := _) (hb1.lt 0 (by decide)) (hb1.2 0 (by decide)) 0 (by decide) q387 rfl rfl (v := .ref ((ad1 N))) rfl rfl (Nat.le_of_ble_eq_true rfl) dJ5_ensureCapacityInternal_d00df_35 (fun H locs hP hS => ?_)
    have hP : gP E ad1 (N + 1) (va_up _ (q) (SBC E ad1 q (ad1 N) 0 mb sn 0)) H := hP
    have hb1 : bkP (N + 1) (va_up _ (q) (SBC E ad1 q (ad1 N) 0 mb sn 0)) q 1 (SBC E ad1 q (ad1 N) 0 mb sn) := SB_setO hb1 _ _ _ _
    have hP9 := hP.swap (k := q + 1) hq1
    exact g_uvret S hr hlocks (hP9) hS (⟨⟨rfl, fun p h1 h2 => by rw [va_up_ne _ _ h2]; exact hadL1 p h1, fun p h1 h2 h3 => by rw [va_up_ne _ _ h3, va_up_ne _ _ h2]; exact hwL1 p h1⟩, cp + (cp + 2), fil cp f (fun _ => 0), ⟨⟨by omega, fun k hk => by rw [show k = 0 by omega, va_up_ne _ _ (by omega)]; show va_up w1 q _ q = _; rw [va_up_self, va_up_self]; rfl⟩, hq1, by rw [va_up_self, va_up_ne _ _ (by omega), hwN1], hcg (by omega), by omega, fun j hj => by unfold fil; split; exact hf j (by assumption); exact Nat.zero_lt_succ _⟩, fun j hj => fil_in (by omega), by omega⟩) (Nat.le_of_ble_eq_true rfl) (Nat.le_of_ble_eq_true rfl) dJ5_ensureCapacityInternal_d00df_38
set_option maxHeartbeats 4000000 in
set_option maxRecDepth 100000 in
/-- a sign more -/
theorem mJ5_append_3fe6f (l : Launch) {E : gE} {ad : Nat → Nat} {N : Nat} {w : Nat → va_E} (kk : Nat → Nat) (hzv : gHv E kk) (q cp mb sn : Nat) (f : Nat → Nat) (x : Nat) (hR : sbR E ad N w q cp mb sn f) (hxx : x < 128) (hs60 : sn + 1 ≤ 60) : gUr l yJ5_append_3fe6f (lw_ws yJ5_append_3fe6f cJ5_append_3fe6f 2 (some (.object "java/lang/AbstractStringBuilder"))) ({ frames := 4, cells := 1, slots := 70, locals := 91 } : Room) E ad N w [.ref (ad (q)), .int (nI (x))] (fun r ad' N' w' => r = ad' q ∧ sbG ad N w q ad' N' w' ∧ ∃ cp' mb' f', sbR E ad' N' w' q cp' mb' (sn + 1) f' ∧ (∀ j, j < sn → f' j = f j) ∧ f' sn = x) 1 70 := by
  refine Met.ofW (cc := cJ5_append_3fe6f) (maxL := 2) (ret := (some (.object "java/lang/AbstractStringBuilder"))) (by decide) rfl ?_
  intro p e s m args below meth cd s₁ B hml hv
  obtain ⟨rfl, hI, hP⟩ := hv
  obtain ⟨S, hr, hlocks⟩ := gPre (ws := []) B hml (C := RJ5) rfl
  have hx := S.1
  have hb := S.2.1
  have hzk := hzv s s.heap hI.2.2.2.2
  have hS : va_S (gA E) s.heap s.heap [] := va_S.rf
  have hl := lv_entry ([.ref (ad (q)), .int (nI (x))]) (n := 2) (Nat.le_of_ble_eq_true rfl)
  rw [lg_entry_eq]
  generalize (lg_sl ([.ref (ad (q)), .int (nI (x))]) ++ List.replicate (2 - (lg_sl ([.ref (ad (q)), .int (nI (x))])).length) Slot.unset).toArray = ls at hl ⊢
  have hl : lv_has ls 2 [(0, .ref (ad (q))), (1, .int (nI (x)))] := hl
  obtain ⟨hb_a, hq1, hrw, hco, hsc, hf⟩ := hR
  obtain ⟨hc16, hc70, hcg⟩ := hco.le
  have hqN : q < N := by omega
  refine lv_aload_n hx hb dJ5_append_3fe6f_0 rfl (lv_at hl 0 rfl) ?_
  refine lv_aload_n hx hb dJ5_append_3fe6f_1 rfl (lv_at hl 0 rfl) ?_
  refine g_get S hI hP uJ4 rfl (fs := _) (hb_a.lt 0 (by decide)) (hb_a.2 0 (by decide)) 3 (by decide) q391 rfl (v := .int (nI (sn))) rfl dJ5_append_3fe6f_2 ?_
  refine g_iconst S 1 dJ5_append_3fe6f_5 (by decide +kernel) ?_
  refine g_iadd S dJ5_append_3fe6f_6 ?_
  refine g_uafv (g_runU S hI hP hS (k := 1) (C := "java/lang/StringBuilder") (As := [.int (nI (sn + 1))]) (rest := []) (mJ5_ensureCapacityInternal_d00df l kk hzv q cp mb sn f (sn + 1) ⟨hb_a, hq1, hrw, hco, hsc, hf⟩ (by omega) hs60) q1480 q2256 q1482 q2315 q96 q1483 rfl rfl (by decide +kernel) ⟨(Nat.le_of_ble_eq_true rfl), (Nat.le_of_ble_eq_true rfl)⟩ rfl (hb_a.lt 0 (by decide)) (hb_a.2 0 (by decide)) rfl hl.1 rfl (Nat.le_of_ble_eq_true rfl) ⟨(Nat.le_of_ble_eq_true rfl), (Nat.le_of_ble_eq_true rfl)⟩ dJ5_append_3fe6f_7) hS (fun ad1 N1 w1 H locs hq hP hS => ?_)
  obtain ⟨hG1, cp1, f1, hR1, hff1, hxc1⟩ := hq
  obtain ⟨hN1, ha1, hw1⟩ := id hG1
  have hN1 := hN1.symm
  subst hN1
  have hadL1 : ∀ p, p ≤ q → ad1 p = ad p := fun p hp => ha1 p (by omega) (by omega)
  obtain ⟨hb1_a, hq11, hrw1, hco1, hsc1, hf1⟩ := hR1
  have hl : lv_has ls 2 [(0, .ref (ad1 (q))), (1, .int (nI (x)))] := by rw [hadL1 (q) (by omega)]; exact hl
  refine lv_aload_n hx hb dJ5_append_3fe6f_10 rfl (lv_at hl 0 rfl) ?_
  refine g_roi (g_runU S hI hP hS (k := 0) (C := "java/lang/StringBuilder") (As := []) (rest := []) (mJ5_isLatin1_aae02 l kk hzv q (ad1 (q + 1)) mb sn hb1_a) q1500 q1502 q1501 q1503 q96 q1504 rfl rfl (by decide +kernel) ⟨(Nat.le_of_ble_eq_true rfl), (Nat.le_of_ble_eq_true rfl)⟩ rfl (hb1_a.lt 0 (by decide)) (hb1_a.2 0 (by decide)) rfl hl.1 rfl (Nat.le_of_ble_eq_true rfl) ⟨(Nat.le_of_ble_eq_true rfl), (Nat.le_of_ble_eq_true rfl)⟩ dJ5_append_3fe6f_11) hS (fun H locs hP hS => ?_)
  refine g_ifeq S (a := 1) (by omega) (tgt := 45) dJ5_append_3fe6f_14 (by decide) (fun hc => ?_) (fun hc => ?_)
  · omega
  · refine lv_iload_n hx hb dJ5_append_3fe6f_17 rfl (lv_at hl 1 rfl) ?_
    refine g_roi (g_runSX S hI hP hS (k := 1) (As := [.int (nI (x))]) (rest := []) (mJ1_canEncode_fc78d l x hxx) q1699 q1700 q115 q1701 rfl rfl (by decide +kernel) ⟨Nat.le_of_ble_eq_true rfl, Nat.le_of_ble_eq_true rfl⟩ rfl hl.1 rfl (Nat.le_of_ble_eq_true rfl) ⟨(Nat.le_of_ble_eq_true rfl), (Nat.le_of_ble_eq_true rfl)⟩ dJ5_append_3fe6f_18) hS (fun H locs hP hS => ?_)
    refine g_ifeq S (a := 1) (by omega) (tgt := 45) dJ5_append_3fe6f_21 (by decide) (fun hc2 => ?_) (fun hc2 => ?_)
    · omega
    · refine lv_aload_n hx hb dJ5_append_3fe6f_24 rfl (lv_at hl 0 rfl) ?_
      refine g_get S hI hP uJ4 rfl (fs := _) (hb1_a.lt 0 (by decide)) (hb1_a.2 0 (by decide)) 0 (by decide) q387 rfl (v := .ref ((ad1 (q + 1)))) rfl dJ5_append_3fe6f_25 ?_
      refine lv_aload_n hx hb dJ5_append_3fe6f_28 rfl (lv_at hl 0 rfl) ?_
      refine lv_dup hx hb dJ5_append_3fe6f_29 rfl ?_
      refine g_get S hI hP uJ4 rfl (fs := _) (hb1_a.lt 0 (by decide)) (hb1_a.2 0 (by decide)) 3 (by decide) q391 rfl (v := .int (nI (sn))) rfl dJ5_append_3fe6f_30 ?_
      refine lv_dup_x1 hx hb dJ5_append_3fe6f_33 rfl rfl ?_
      refine g_iconst S 1 dJ5_append_3fe6f_34 (by decide +kernel) ?_
      refine g_iadd S dJ5_append_3fe6f_35 ?_
      refine g_put S hI hP hS uJ4 rfl tyJ4 tyJ4_ok nmJ4 (fs := _) (hb1_a.lt 0 (by decide)) (hb1_a.2 0 (by decide)) 3 (by decide) q391 rfl rfl (v := .int (nI (sn + 1))) rfl rfl (Nat.le_of_ble_eq_true rfl) dJ5_append_3fe6f_36 (fun H locs hP hS => ?_)
      have hP : gP E ad1 N (va_up _ (q) (SBC E ad1 q (ad1 (q + 1)) 0 mb (sn + 1) 0)) H := hP
      have hb1 : bkP N (va_up _ (q) (SBC E ad1 q (ad1 (q + 1)) 0 mb (sn + 1) 0)) q 1 (SBC E ad1 q (ad1 (q + 1)) 0 mb (sn + 1)) := SB_setO hb1_a _ _ _ _
      refine lv_iload_n hx hb dJ5_append_3fe6f_39 rfl (lv_at hl 1 rfl) ?_
      refine lv_i2b hx hb dJ5_append_3fe6f_40 (nI_i2b x hxx) ?_
      have hc170 := hco1.le.2.1
      have hrw9 := (va_up_ne w1 (SBC E ad1 q (ad1 (q + 1)) 0 mb (sn + 1) 0) (show q + 1 ≠ q by omega)).trans hrw1
      refine g_bast S hI hP hS (q0 := q + 1) hq11 hrw9 sn (by omega) (by omega) hxx dJ5_append_3fe6f_41 (fun H locs hP hS => ?_)
      have hb9 := hb1.keep (p := q + 1) (e := gAr (E.2.1 3) cp1 (va_up f1 sn x)) (by omega)
      refine lv_goto (tgt := 75) hx hb dJ5_append_3fe6f_42 (by decide) ?_
      refine lv_aload_n hx hb dJ5_append_3fe6f_75 rfl (lv_at hl 0 rfl) ?_
      exact g_urret S hr (by first | exact Or.inl ⟨_, rfl⟩ | exact Or.inr ⟨_, rfl⟩) hlocks hP hS (⟨rfl, hG1.trans ⟨rfl, fun _ _ _ => rfl, fun p a b c => by rw [va_up_ne _ _ c, va_up_ne _ _ b]⟩, cp1, mb, va_up f1 sn x, ⟨hb9, hq11, va_up_self _ _ _, hco1, hxc1, fun j hj => by by_cases z : j = sn; subst z; rw [va_up_self]; exact hxx; rw [va_up_ne _ _ z]; exact hf1 j hj⟩, fun j hj => by rw [va_up_ne _ _ (by omega)]; exact hff1 j hj, va_up_self _ _ _⟩) (Nat.le_of_ble_eq_true rfl) (Nat.le_of_ble_eq_true rfl) dJ5_append_3fe6f_76
set_option maxHeartbeats 4000000 in
set_option maxRecDepth 100000 in
/-- a sign more -/
theorem mJ4_append_cf468 (l : Launch) {E : gE} {ad : Nat → Nat} {N : Nat} {w : Nat → va_E} (kk : Nat → Nat) (hzv : gHv E kk) (q cp mb sn : Nat) (f : Nat → Nat) (x : Nat) (hR : sbR E ad N w q cp mb sn f) (hxx : x < 128) (hs60 : sn + 1 ≤ 60) : gUr l yJ4_append_cf468 (lw_ws yJ4_append_cf468 cJ4_append_cf468 2 (some (.object "java/lang/StringBuilder"))) ({ frames := 5, cells := 1, slots := 70, locals := 112 } : Room) E ad N w [.ref (ad (q)), .int (nI (x))] (fun r ad' N' w' => r = ad' q ∧ sbG ad N w q ad' N' w' ∧ ∃ cp' mb' f', sbR E ad' N' w' q cp' mb' (sn + 1) f' ∧ (∀ j, j < sn → f' j = f j) ∧ f' sn = x) 1 70 := by
  refine Met.ofW (cc := cJ4_append_cf468) (maxL := 2) (ret := (some (.object "java/lang/StringBuilder"))) (by decide) rfl ?_
  intro p e s m args below meth cd s₁ B hml hv
  obtain ⟨rfl, hI, hP⟩ := hv
  obtain ⟨S, hr, hlocks⟩ := gPre (ws := []) B hml (C := RJ4) rfl
  have hx := S.1
  have hb := S.2.1
  have hzk := hzv s s.heap hI.2.2.2.2
  have hS : va_S (gA E) s.heap s.heap [] := va_S.rf
  have hl := lv_entry ([.ref (ad (q)), .int (nI (x))]) (n := 2) (Nat.le_of_ble_eq_true rfl)
  rw [lg_entry_eq]
  generalize (lg_sl ([.ref (ad (q)), .int (nI (x))]) ++ List.replicate (2 - (lg_sl ([.ref (ad (q)), .int (nI (x))])).length) Slot.unset).toArray = ls at hl ⊢
  have hl : lv_has ls 2 [(0, .ref (ad (q))), (1, .int (nI (x)))] := hl
  obtain ⟨hb_a, hq1, hrw, hco, hsc, hf⟩ := hR
  obtain ⟨hc16, hc70, hcg⟩ := hco.le
  have hqN : q < N := by omega
  refine lv_aload_n hx hb dJ4_append_cf468_0 rfl (lv_at hl 0 rfl) ?_
  refine lv_iload_n hx hb dJ4_append_cf468_1 rfl (lv_at hl 1 rfl) ?_
  refine g_uafr (g_runSU S hI hP hS (k := 1) (C := "java/lang/StringBuilder") (As := [.int (nI (x))]) (rest := []) (mJ5_append_3fe6f l kk hzv q cp mb sn f x ⟨hb_a, hq1, hrw, hco, hsc, hf⟩ hxx hs60) q1696 q2262 q400 q1697 q96 q1698 rfl rfl (by decide +kernel) ⟨(Nat.le_of_ble_eq_true rfl), (Nat.le_of_ble_eq_true rfl)⟩ rfl (hb_a.lt 0 (by decide)) (hb_a.2 0 (by decide)) rfl hl.1 rfl (Nat.le_of_ble_eq_true rfl) ⟨(Nat.le_of_ble_eq_true rfl), (Nat.le_of_ble_eq_true rfl)⟩ dJ4_append_cf468_2) hS (fun rz ad1 N1 w1 H locs hq hP hS => ?_)
  have hqq := hq
  obtain ⟨hr1, hG1, -⟩ := hq
  obtain ⟨hN1, ha1, hw1⟩ := id hG1
  have hN1 := hN1.symm
  subst hN1
  have hadL1 : ∀ p, p ≤ q → ad1 p = ad p := fun p hp => ha1 p (by omega) (by omega)
  have hl : lv_has ls 2 [(0, .ref (ad1 (q))), (1, .int (nI (x)))] := by rw [hadL1 (q) (by omega)]; exact hl
  refine lv_pop hx hb dJ4_append_cf468_5 rfl ?_
  refine lv_aload_n hx hb dJ4_append_cf468_6 rfl (lv_at hl 0 rfl) ?_
  exact g_urret S hr (by first | exact Or.inl ⟨_, rfl⟩ | exact Or.inr ⟨_, rfl⟩) hlocks hP hS (⟨rfl, hqq.2⟩) (Nat.le_of_ble_eq_true rfl) (Nat.le_of_ble_eq_true rfl) dJ4_append_cf468_7
set_option maxHeartbeats 4000000 in
set_option maxRecDepth 100000 in
/-- the line is emptied -/
theorem mJ5_setLength_d00df (l : Launch) {E : gE} {ad : Nat → Nat} {N : Nat} {w : Nat → va_E} (kk : Nat → Nat) (hzv : gHv E kk) (q cp mb sn : Nat) (f : Nat → Nat)  (hR : sbR E ad N w q cp mb sn f) (hs60 : sn ≤ 60) : gUv l yJ5_setLength_d00df (lw_ws yJ5_setLength_d00df cJ5_setLength_d00df 2 none) ({ frames := 4, cells := 1, slots := 70, locals := 91 } : Room) E ad N w [.ref (ad (q)), .int (nI (0))] (fun ad' N' w' => sbG ad N w q ad' N' w' ∧ ∃ cp' mb' f', sbR E ad' N' w' q cp' mb' 0 f') 1 70 := by
  refine Met.ofW (cc := cJ5_setLength_d00df) (maxL := 2) (ret := none) (by decide) rfl ?_
  intro p e s m args below meth cd s₁ B hml hv
  obtain ⟨rfl, hI, hP⟩ := hv
  obtain ⟨S, hr, hlocks⟩ := gPre (ws := []) B hml (C := RJ5) rfl
  have hx := S.1
  have hb := S.2.1
  have hzk := hzv s s.heap hI.2.2.2.2
  have hS : va_S (gA E) s.heap s.heap [] := va_S.rf
  have hl := lv_entry ([.ref (ad (q)), .int (nI (0))]) (n := 2) (Nat.le_of_ble_eq_true rfl)
  rw [lg_entry_eq]
  generalize (lg_sl ([.ref (ad (q)), .int (nI (0))]) ++ List.replicate (2 - (lg_sl ([.ref (ad (q)), .int (nI (0))])).length) Slot.unset).toArray = ls at hl ⊢
  have hl : lv_has ls 2 [(0, .ref (ad (q))), (1, .int (nI (0)))] := hl
  obtain ⟨hb_a, hq1, hrw, hco, hsc, hf⟩ := hR
  obtain ⟨hc16, hc70, hcg⟩ := hco.le
  have hqN : q < N := by omega
  refine lv_iload_n hx hb dJ5_setLength_d00df_0 rfl (lv_at hl 1 rfl) ?_
  refine g_ifge S (a := 0) (by omega) (tgt := 13) dJ5_setLength_d00df_1 (by decide) ?_
  refine lv_aload_n hx hb dJ5_setLength_d00df_13 rfl (lv_at hl 0 rfl) ?_
  refine lv_iload_n hx hb dJ5_setLength_d00df_14 rfl (lv_at hl 1 rfl) ?_
  refine g_uafv (g_runU S hI hP hS (k := 1) (C := "java/lang/StringBuilder") (As := [.int (nI (0))]) (rest := []) (mJ5_ensureCapacityInternal_d00df l kk hzv q cp mb sn f 0 ⟨hb_a, hq1, hrw, hco, hsc, hf⟩ (by omega) (by omega)) q1480 q2256 q1482 q2315 q96 q1483 rfl rfl (by decide +kernel) ⟨(Nat.le_of_ble_eq_true rfl), (Nat.le_of_ble_eq_true rfl)⟩ rfl (hb_a.lt 0 (by decide)) (hb_a.2 0 (by decide)) rfl hl.1 rfl (Nat.le_of_ble_eq_true rfl) ⟨(Nat.le_of_ble_eq_true rfl), (Nat.le_of_ble_eq_true rfl)⟩ dJ5_setLength_d00df_15) hS (fun ad1 N1 w1 H locs hq hP hS => ?_)
  obtain ⟨hG1, cp1, f1, hR1, hff1, hxc1⟩ := hq
  obtain ⟨hN1, ha1, hw1⟩ := id hG1
  have hN1 := hN1.symm
  subst hN1
  have hadL1 : ∀ p, p ≤ q → ad1 p = ad p := fun p hp => ha1 p (by omega) (by omega)
  obtain ⟨hb1_a, hq11, hrw1, hco1, hsc1, hf1⟩ := hR1
  have hl : lv_has ls 2 [(0, .ref (ad1 (q))), (1, .int (nI (0)))] := by rw [hadL1 (q) (by omega)]; exact hl
  refine lv_aload_n hx hb dJ5_setLength_d00df_18 rfl (lv_at hl 0 rfl) ?_
  refine g_get S hI hP uJ4 rfl (fs := _) (hb1_a.lt 0 (by decide)) (hb1_a.2 0 (by decide)) 3 (by decide) q391 rfl (v := .int (nI (sn))) rfl dJ5_setLength_d00df_19 ?_
  refine lv_iload_n hx hb dJ5_setLength_d00df_22 rfl (lv_at hl 1 rfl) ?_
  refine g_ge S (a := sn) (b := 0) (by omega) (by omega) (tgt := 63) dJ5_setLength_d00df_23 (by decide) (fun hc => ?_) (fun hc => ?_)
  · refine lv_aload_n hx hb dJ5_setLength_d00df_63 rfl (lv_at hl 0 rfl) ?_
    refine g_get S hI hP uJ4 rfl (fs := _) (hb1_a.lt 0 (by decide)) (hb1_a.2 0 (by decide)) 3 (by decide) q391 rfl (v := .int (nI (sn))) rfl dJ5_setLength_d00df_64 ?_
    refine lv_iload_n hx hb dJ5_setLength_d00df_67 rfl (lv_at hl 1 rfl) ?_
    refine g_le S (a := sn) (b := 0) (by omega) (by omega) (tgt := 76) dJ5_setLength_d00df_68 (by decide) (fun hc2 => ?_) (fun hc2 => ?_)
    · refine lv_aload_n hx hb dJ5_setLength_d00df_76 rfl (lv_at hl 0 rfl) ?_
      refine lv_iload_n hx hb dJ5_setLength_d00df_77 rfl (lv_at hl 1 rfl) ?_
      refine g_put S hI hP hS uJ4 rfl tyJ4 tyJ4_ok nmJ4 (fs := _) (hb1_a.lt 0 (by decide)) (hb1_a.2 0 (by decide)) 3 (by decide) q391 rfl rfl (v := .int (nI (0))) rfl rfl (Nat.le_of_ble_eq_true rfl) dJ5_setLength_d00df_78 (fun H locs hP hS => ?_)
      have hP : gP E ad1 N (va_up _ (q) (SBC E ad1 q (ad1 (q + 1)) 0 mb 0 0)) H := hP
      have hb2 : bkP N (va_up _ (q) (SBC E ad1 q (ad1 (q + 1)) 0 mb 0 0)) q 1 (SBC E ad1 q (ad1 (q + 1)) 0 mb 0) := SB_setO hb1_a _ _ _ _
      exact g_uvret S hr hlocks hP hS (⟨hG1.trans ⟨rfl, fun _ _ _ => rfl, fun p a b c => by rw [va_up_ne _ _ b]⟩, cp1, mb, f1, ⟨hb2, hq11, by rw [va_up_ne _ _ (by omega)]; exact hrw1, hco1, Nat.zero_le _, hf1⟩⟩) (Nat.le_of_ble_eq_true rfl) (Nat.le_of_ble_eq_true rfl) dJ5_setLength_d00df_81
    · refine lv_aload_n hx hb dJ5_setLength_d00df_71 rfl (lv_at hl 0 rfl) ?_
      refine g_iconst S 1 dJ5_setLength_d00df_72 (by decide +kernel) ?_
      refine g_put S hI hP hS uJ4 rfl tyJ4 tyJ4_ok nmJ4 (fs := _) (hb1_a.lt 0 (by decide)) (hb1_a.2 0 (by decide)) 2 (by decide) q389 rfl rfl (v := .int (nI (1))) rfl rfl (Nat.le_of_ble_eq_true rfl) dJ5_setLength_d00df_73 (fun H locs hP hS => ?_)
      have hP : gP E ad1 N (va_up _ (q) (SBC E ad1 q (ad1 (q + 1)) 0 1 sn 0)) H := hP
      have hb3 : bkP N (va_up _ (q) (SBC E ad1 q (ad1 (q + 1)) 0 1 sn 0)) q 1 (SBC E ad1 q (ad1 (q + 1)) 0 1 sn) := SB_setO hb1_a _ _ _ _
      refine lv_aload_n hx hb dJ5_setLength_d00df_76 rfl (lv_at hl 0 rfl) ?_
      refine lv_iload_n hx hb dJ5_setLength_d00df_77 rfl (lv_at hl 1 rfl) ?_
      refine g_put S hI hP hS uJ4 rfl tyJ4 tyJ4_ok nmJ4 (fs := _) (hb3.lt 0 (by decide)) (hb3.2 0 (by decide)) 3 (by decide) q391 rfl rfl (v := .int (nI (0))) rfl rfl (Nat.le_of_ble_eq_true rfl) dJ5_setLength_d00df_78 (fun H locs hP hS => ?_)
      have hP : gP E ad1 N (va_up _ (q) (SBC E ad1 q (ad1 (q + 1)) 0 1 0 0)) H := hP
      have hb4 : bkP N (va_up _ (q) (SBC E ad1 q (ad1 (q + 1)) 0 1 0 0)) q 1 (SBC E ad1 q (ad1 (q + 1)) 0 1 0) := SB_setO hb3 _ _ _ _
      exact g_uvret S hr hlocks hP hS (⟨hG1.trans ⟨rfl, fun _ _ _ => rfl, fun p a b c => by rw [va_up_ne _ _ b, va_up_ne _ _ b]⟩, cp1, 1, f1, ⟨hb4, hq11, by rw [va_up_ne _ _ (by omega), va_up_ne _ _ (by omega)]; exact hrw1, hco1, Nat.zero_le _, hf1⟩⟩) (Nat.le_of_ble_eq_true rfl) (Nat.le_of_ble_eq_true rfl) dJ5_setLength_d00df_81
  · omega
set_option maxHeartbeats 4000000 in
set_option maxRecDepth 100000 in
/-- the line is emptied -/
theorem mJ4_setLength_d00df (l : Launch) {E : gE} {ad : Nat → Nat} {N : Nat} {w : Nat → va_E} (kk : Nat → Nat) (hzv : gHv E kk) (q cp mb sn : Nat) (f : Nat → Nat)  (hR : sbR E ad N w q cp mb sn f) (hs60 : sn ≤ 60) : gUv l yJ4_setLength_d00df (lw_ws yJ4_setLength_d00df cJ4_setLength_d00df 2 none) ({ frames := 5, cells := 1, slots := 70, locals := 112 } : Room) E ad N w [.ref (ad (q)), .int (nI (0))] (fun ad' N' w' => sbG ad N w q ad' N' w' ∧ ∃ cp' mb' f', sbR E ad' N' w' q cp' mb' 0 f') 1 70 := by
  refine Met.ofW (cc := cJ4_setLength_d00df) (maxL := 2) (ret := none) (by decide) rfl ?_
  intro p e s m args below meth cd s₁ B hml hv
  obtain ⟨rfl, hI, hP⟩ := hv
  obtain ⟨S, hr, hlocks⟩ := gPre (ws := []) B hml (C := RJ4) rfl
  have hx := S.1
  have hb := S.2.1
  have hzk := hzv s s.heap hI.2.2.2.2
  have hS : va_S (gA E) s.heap s.heap [] := va_S.rf
  have hl := lv_entry ([.ref (ad (q)), .int (nI (0))]) (n := 2) (Nat.le_of_ble_eq_true rfl)
  rw [lg_entry_eq]
  generalize (lg_sl ([.ref (ad (q)), .int (nI (0))]) ++ List.replicate (2 - (lg_sl ([.ref (ad (q)), .int (nI (0))])).length) Slot.unset).toArray = ls at hl ⊢
  have hl : lv_has ls 2 [(0, .ref (ad (q))), (1, .int (nI (0)))] := hl
  obtain ⟨hb_a, hq1, hrw, hco, hsc, hf⟩ := hR
  obtain ⟨hc16, hc70, hcg⟩ := hco.le
  refine lv_aload_n hx hb dJ4_setLength_d00df_0 rfl (lv_at hl 0 rfl) ?_
  refine lv_iload_n hx hb dJ4_setLength_d00df_1 rfl (lv_at hl 1 rfl) ?_
  refine g_uafv (g_runSU S hI hP hS (k := 1) (C := "java/lang/StringBuilder") (As := [.int (nI (0))]) (rest := []) (mJ5_setLength_d00df l kk hzv q cp mb sn f ⟨hb_a, hq1, hrw, hco, hsc, hf⟩ hs60) q1458 q2253 q400 q1459 q96 q1460 rfl rfl (by decide +kernel) ⟨(Nat.le_of_ble_eq_true rfl), (Nat.le_of_ble_eq_true rfl)⟩ rfl (hb_a.lt 0 (by decide)) (hb_a.2 0 (by decide)) rfl hl.1 rfl (Nat.le_of_ble_eq_true rfl) ⟨(Nat.le_of_ble_eq_true rfl), (Nat.le_of_ble_eq_true rfl)⟩ dJ4_setLength_d00df_2) hS (fun ad1 N1 w1 H locs hq hP hS => ?_)
  exact g_uvret S hr hlocks hP hS (hq) (Nat.le_of_ble_eq_true rfl) (Nat.le_of_ble_eq_true rfl) dJ4_setLength_d00df_5
set_option maxHeartbeats 4000000 in
set_option maxRecDepth 100000 in
/-- a sign of the line -/
theorem mJ5_charAt_5068e (l : Launch) {E : gE} {ad : Nat → Nat} {N : Nat} {w : Nat → va_E} (kk : Nat → Nat) (hzv : gHv E kk) (q cp mb sn : Nat) (f : Nat → Nat) (i : Nat) (hR : sbR E ad N w q cp mb sn f) (hi : i < sn) : gMi l yJ5_charAt_5068e (lw_ws yJ5_charAt_5068e cJ5_charAt_5068e 5 (some .char)) ({ frames := 2, cells := 0, slots := 0, locals := 43 } : Room) E ad N w [.ref (ad (q)), .int (nI (i))] (fun r w' => r = nI (f i) ∧ w' = w) 0 0 := by
  refine Met.ofW (cc := cJ5_charAt_5068e) (maxL := 5) (ret := (some .char)) (by decide) rfl ?_
  intro p e s m args below meth cd s₁ B hml hv
  obtain ⟨rfl, hI, hP⟩ := hv
  obtain ⟨S, hr, hlocks⟩ := gPre (ws := []) B hml (C := RJ5) rfl
  have hx := S.1
  have hb := S.2.1
  have hzk := hzv s s.heap hI.2.2.2.2
  have hS : va_S (gA E) s.heap s.heap [] := va_S.rf
  have hl := lv_entry ([.ref (ad (q)), .int (nI (i))]) (n := 5) (Nat.le_of_ble_eq_true rfl)
  rw [lg_entry_eq]
  generalize (lg_sl ([.ref (ad (q)), .int (nI (i))]) ++ List.replicate (5 - (lg_sl ([.ref (ad (q)), .int (nI (i))])).length) Slot.unset).toArray = ls at hl ⊢
  have hl : lv_has ls 5 [(0, .ref (ad (q))), (1, .int (nI (i)))] := hl
  obtain ⟨hb_a, hq1, hrw, hco, hsc, hf⟩ := hR
  obtain ⟨hc16, hc70, hcg⟩ := hco.le
  refine lv_aload_n hx hb dJ5_charAt_5068e_0 rfl (lv_at hl 0 rfl) ?_
  refine g_get S hI hP uJ4 rfl (fs := _) (hb_a.lt 0 (by decide)) (hb_a.2 0 (by decide)) 1 (by decide) q388 rfl (v := .int (nI (0))) rfl dJ5_charAt_5068e_1 ?_
  refine lv_istore_n (lv' := [(2, .int (nI (0))), (0, .ref (ad (q))), (1, .int (nI (i)))]) hx hb dJ5_charAt_5068e_4 rfl hl (by decide) rfl (fun ls hl => ?_)
  refine lv_aload_n hx hb dJ5_charAt_5068e_5 rfl (lv_at hl 1 rfl) ?_
  refine g_get S hI hP uJ4 rfl (fs := _) (hb_a.lt 0 (by decide)) (hb_a.2 0 (by decide)) 0 (by decide) q387 rfl (v := .ref ((ad (q + 1)))) rfl dJ5_charAt_5068e_6 ?_
  refine lv_astore_n (lv' := [(3, .ref ((ad (q + 1)))), (2, .int (nI (0))), (0, .ref (ad (q))), (1, .int (nI (i)))]) hx hb dJ5_charAt_5068e_9 rfl hl (by decide) rfl (fun ls hl => ?_)
  refine lv_aload_n hx hb dJ5_charAt_5068e_10 rfl (lv_at hl 2 rfl) ?_
  refine g_get S hI hP uJ4 rfl (fs := _) (hb_a.lt 0 (by decide)) (hb_a.2 0 (by decide)) 3 (by decide) q391 rfl (v := .int (nI (sn))) rfl dJ5_charAt_5068e_11 ?_
  refine lv_aload_n hx hb dJ5_charAt_5068e_14 rfl (lv_at hl 0 rfl) ?_
  refine g_alen S hI hP (t0 := 3) hq1 hrw rfl dJ5_charAt_5068e_15 ?_
  refine lv_iload_n hx hb dJ5_charAt_5068e_16 rfl (lv_at hl 1 rfl) ?_
  refine lv_ishr hx hb dJ5_charAt_5068e_17 ?_
  rw [nI_shr0]
  refine g_min S hl.1 (a := sn) (b := cp) (by omega) (by omega) q1727 q652 q112 q653 (Nat.le_of_ble_eq_true rfl) (Nat.le_of_ble_eq_true rfl) (Nat.le_of_ble_eq_true rfl) (Nat.le_of_ble_eq_true rfl) dJ5_charAt_5068e_18 ?_
  rw [show min sn cp = sn by omega]
  refine lv_istore (lv' := [(4, .int (nI (sn))), (3, .ref ((ad (q + 1)))), (2, .int (nI (0))), (0, .ref (ad (q))), (1, .int (nI (i)))]) hx hb dJ5_charAt_5068e_21 hl (by decide) rfl (fun ls hl => ?_)
  refine lv_iload_n hx hb dJ5_charAt_5068e_23 rfl (lv_at hl 4 rfl) ?_
  refine lv_iload hx hb dJ5_charAt_5068e_24 (lv_at hl 0 rfl) ?_
  refine g_afv (g_runSX S hI hP hS (k := 2) (As := [.int (nI (i)), .int (nI (sn))]) (rest := []) (mJ0_checkIndex_df160 l kk hzv i sn hi (by omega)) q1728 q1307 q98 q1308 rfl rfl (by decide +kernel) ⟨Nat.le_of_ble_eq_true rfl, Nat.le_of_ble_eq_true rfl⟩ rfl hl.1 rfl (Nat.le_of_ble_eq_true rfl) ⟨(Nat.le_of_ble_eq_true rfl), (Nat.le_of_ble_eq_true rfl)⟩ dJ5_charAt_5068e_26) hS (fun w1 H locs hq hP hS => ?_)
  obtain hq := hq
  rw [hq] at hP
  refine lv_iload_n hx hb dJ5_charAt_5068e_29 rfl (lv_at hl 2 rfl) ?_
  refine g_ifne S (a := 0) (by omega) (tgt := 42) dJ5_charAt_5068e_30 (by decide) (fun hc => ?_) (fun hc => ?_)
  · omega
  · refine lv_aload_n hx hb dJ5_charAt_5068e_33 rfl (lv_at hl 1 rfl) ?_
    refine lv_iload_n hx hb dJ5_charAt_5068e_34 rfl (lv_at hl 4 rfl) ?_
    have hfi := hf i (by omega)
    refine g_bald S hI hP (q0 := q + 1) hq1 hrw i (by omega) (by omega) dJ5_charAt_5068e_35 ?_
    refine g_sipush S 255 dJ5_charAt_5068e_36 (by decide +kernel) ?_
    refine lv_iand hx hb dJ5_charAt_5068e_39 ?_
    rw [nI_and255 _ (by omega)]
    refine lv_i2c hx hb dJ5_charAt_5068e_40 (nI_i2c (by omega)) ?_
    exact g_cret S hr hlocks (⟨_, by omega, rfl⟩) hP hS (⟨rfl, rfl⟩) (fun _ _ => rfl) (Nat.le_of_ble_eq_true rfl) (Nat.le_of_ble_eq_true rfl) dJ5_charAt_5068e_41
set_option maxHeartbeats 4000000 in
set_option maxRecDepth 100000 in
/-- a sign of the line -/
theorem mJ4_charAt_5068e (l : Launch) {E : gE} {ad : Nat → Nat} {N : Nat} {w : Nat → va_E} (kk : Nat → Nat) (hzv : gHv E kk) (q cp mb sn : Nat) (f : Nat → Nat) (i : Nat) (hR : sbR E ad N w q cp mb sn f) (hi : i < sn) : gMi l yJ4_charAt_5068e (lw_ws yJ4_charAt_5068e cJ4_charAt_5068e 2 (some .char)) ({ frames := 3, cells := 0, slots := 0, locals := 67 } : Room) E ad N w [.ref (ad (q)), .int (nI (i))] (fun r w' => r = nI (f i) ∧ w' = w) 0 0 := by
  refine Met.ofW (cc := cJ4_charAt_5068e) (maxL := 2) (ret := (some .char)) (by decide) rfl ?_
  intro p e s m args below meth cd s₁ B hml hv
  obtain ⟨rfl, hI, hP⟩ := hv
  obtain ⟨S, hr, hlocks⟩ := gPre (ws := []) B hml (C := RJ4) rfl
  have hx := S.1
  have hb := S.2.1
  have hzk := hzv s s.heap hI.2.2.2.2
  have hS : va_S (gA E) s.heap s.heap [] := va_S.rf
  have hl := lv_entry ([.ref (ad (q)), .int (nI (i))]) (n := 2) (Nat.le_of_ble_eq_true rfl)
  rw [lg_entry_eq]
  generalize (lg_sl ([.ref (ad (q)), .int (nI (i))]) ++ List.replicate (2 - (lg_sl ([.ref (ad (q)), .int (nI (i))])).length) Slot.unset).toArray = ls at hl ⊢
  have hl : lv_has ls 2 [(0, .ref (ad (q))), (1, .int (nI (i)))] := hl
  obtain ⟨hb_a, hq1, hrw, hco, hsc, hf⟩ := hR
  obtain ⟨hc16, hc70, hcg⟩ := hco.le
  refine lv_aload_n hx hb dJ4_charAt_5068e_0 rfl (lv_at hl 0 rfl) ?_
  refine lv_iload_n hx hb dJ4_charAt_5068e_1 rfl (lv_at hl 1 rfl) ?_
  have hfi := hf i (by omega)
  refine g_roi (g_runSU S hI hP hS (k := 1) (C := "java/lang/StringBuilder") (As := [.int (nI (i))]) (rest := []) (mJ5_charAt_5068e l kk hzv q cp mb sn f i ⟨hb_a, hq1, hrw, hco, hsc, hf⟩ hi) q1724 q2264 q400 q1725 q96 q1726 rfl rfl (by decide +kernel) ⟨(Nat.le_of_ble_eq_true rfl), (Nat.le_of_ble_eq_true rfl)⟩ rfl (hb_a.lt 0 (by decide)) (hb_a.2 0 (by decide)) rfl hl.1 rfl (Nat.le_of_ble_eq_true rfl) ⟨(Nat.le_of_ble_eq_true rfl), (Nat.le_of_ble_eq_true rfl)⟩ dJ4_charAt_5068e_2) hS (fun H locs hP hS => ?_)
  exact g_cret S hr hlocks (⟨_, by omega, rfl⟩) hP hS (⟨rfl, rfl⟩) (fun _ _ => rfl) (Nat.le_of_ble_eq_true rfl) (Nat.le_of_ble_eq_true rfl) dJ4_charAt_5068e_5
