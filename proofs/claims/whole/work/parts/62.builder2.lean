/-! THE LINE: its bytes lie at the place behind it, whichever row they are in -/
theorem gP.swap {E : gE} {ad : Nat → Nat} {N : Nat} {w : Nat → va_E} {H : Heap} (h : gP E ad (N + 1) w H) {k : Nat} (hk : k < N) : gP E (va_up ad k (ad N)) N (va_up w k (w N)) H := by
  have h1 := h.pick N (fun p => if p = k then N else p) (fun p hp => by (try dsimp only); split <;> omega) (fun i j hi hj e => by
    (try dsimp only at e)
    split at e <;> split at e <;> omega)
  have h2 := h1.ad (ad' := va_up ad k (ad N)) (fun p hp => by
    by_cases q : p = k
    · subst q; rw [va_up_self]; simp
    · rw [va_up_ne _ _ q]; simp [q])
  exact h2.to (fun p hp => by
    by_cases q : p = k
    · subst q; rw [va_up_self]; simp
    · rw [va_up_ne _ _ q]; simp [q])
def sbR (E : gE) (ad : Nat → Nat) (N : Nat) (w : Nat → va_E) (q cp mb sn : Nat) (f : Nat → Nat) : Prop :=
  bkP N w q 1 (SBC E ad q (ad (q + 1)) 0 mb sn) ∧ q + 1 < N ∧ w (q + 1) = gAr (E.2.1 3) cp f ∧ cpOk cp ∧ sn ≤ cp ∧ ∀ j, j < cp → f j < 128
theorem cpOk.le {cp : Nat} (h : cpOk cp) : 16 ≤ cp ∧ cp ≤ 70 ∧ (cp < 60 → cpOk (cp + (cp + 2))) := by
  rcases h with rfl | rfl | rfl
  · exact ⟨by decide, by decide, fun _ => Or.inr (Or.inl rfl)⟩
  · exact ⟨by decide, by decide, fun _ => Or.inr (Or.inr rfl)⟩
  · exact ⟨by decide, by decide, fun h => absurd h (by decide)⟩
theorem isub_le : ∀ x, x < 75 → ∀ y, y < 75 → (nI x - nI y ≤ 0 ↔ x ≤ y) := by decide +kernel
/-- how the line's world goes on: all but its two places keep -/
def sbG (ad : Nat → Nat) (N : Nat) (w : Nat → va_E) (q : Nat) (ad' : Nat → Nat) (N' : Nat) (w' : Nat → va_E) : Prop := N' = N ∧ (∀ p, p < N → p ≠ q + 1 → ad' p = ad p) ∧ ∀ p, p < N → p ≠ q → p ≠ q + 1 → w' p = w p
theorem sbG.rf {ad : Nat → Nat} {N : Nat} {w : Nat → va_E} {q : Nat} : sbG ad N w q ad N w := ⟨rfl, fun _ _ _ => rfl, fun _ _ _ _ => rfl⟩
theorem sbG.trans {ad ad' ad2 : Nat → Nat} {N N' N2 : Nat} {w w' w2 : Nat → va_E} {q : Nat} (h : sbG ad N w q ad' N' w') (g : sbG ad' N' w' q ad2 N2 w2) : sbG ad N w q ad2 N2 w2 := by
  obtain ⟨rfl, h2, h3⟩ := h
  obtain ⟨rfl, g2, g3⟩ := g
  exact ⟨rfl, fun p a b => (g2 p a b).trans (h2 p a b), fun p a b c => (g3 p a b c).trans (h3 p a b c)⟩
set_option maxHeartbeats 4000000 in
set_option maxRecDepth 100000 in
/-- room for more -/
theorem mJ5_ensureCapacityInternal_d00df (l : Launch) {E : gE} {ad : Nat → Nat} {N : Nat} {w : Nat → va_E} (kk : Nat → Nat) (hzv : gHv E kk) (q cp mb sn : Nat) (f : Nat → Nat) (x : Nat) (hR : sbR E ad N w q cp mb sn f) (hx : x ≤ cp + 2) (hx60 : x ≤ 60) : gUv l yJ5_ensureCapacityInternal_d00df (lw_ws yJ5_ensureCapacityInternal_d00df cJ5_ensureCapacityInternal_d00df 3 none) ({ frames := 3, cells := 1, slots := 70, locals := 69 } : Room) E ad N w [.ref (ad (q)), .int (nI (x))] (fun ad' N' w' => sbG ad N w q ad' N' w' ∧ ∃ cp' f', sbR E ad' N' w' q cp' mb sn f' ∧ (∀ j, j < sn → f' j = f j) ∧ x ≤ cp') 1 70 := by
  refine Met.ofW (cc := cJ5_ensureCapacityInternal_d00df) (maxL := 3) (ret := none) (by decide) rfl ?_
  intro p e s m args below meth cd s₁ B hml hv
  obtain ⟨rfl, hI, hP⟩ := hv
  obtain ⟨S, hr, hlocks⟩ := gPre (ws := []) B hml (C := RJ5) rfl
  have hx := S.1
  have hb := S.2.1
  have hzk := hzv s s.heap hI.2.2.2.2
  have hS : va_S (gA E) s.heap s.heap [] := va_S.rf
  have hl := lv_entry ([.ref (ad (q)), .int (nI (x))]) (n := 3) (Nat.le_of_ble_eq_true rfl)
  rw [lg_entry_eq]
  generalize (lg_sl ([.ref (ad (q)), .int (nI (x))]) ++ List.replicate (3 - (lg_sl ([.ref (ad (q)), .int (nI (x))])).length) Slot.unset).toArray = ls at hl ⊢
  have hl : lv_has ls 3 [(0, .ref (ad (q))), (1, .int (nI (x)))] := hl
  obtain ⟨hb_a, hq1, hrw, hco, hsc, hf⟩ := hR
  obtain ⟨hc16, hc70, hcg⟩ := hco.le
  have hqN : q < N := by omega
  refine lv_aload_n hx hb dJ5_ensureCapacityInternal_d00df_0 rfl (lv_at hl 0 rfl) ?_
  refine g_get S hI hP uJ4 rfl (fs := _) (hb_a.lt 0 (by decide)) (hb_a.2 0 (by decide)) 0 (by decide) q387 rfl (v := .ref ((ad (q + 1)))) rfl dJ5_ensureCapacityInternal_d00df_1 ?_
  refine g_alen S hI hP (t0 := 3) hq1 hrw rfl dJ5_ensureCapacityInternal_d00df_4 ?_
  refine lv_aload_n hx hb dJ5_ensureCapacityInternal_d00df_5 rfl (lv_at hl 0 rfl) ?_
  refine g_get S hI hP uJ4 rfl (fs := _) (hb_a.lt 0 (by decide)) (hb_a.2 0 (by decide)) 1 (by decide) q388 rfl (v := .int (nI (0))) rfl dJ5_ensureCapacityInternal_d00df_6 ?_
  refine lv_ishr hx hb dJ5_ensureCapacityInternal_d00df_9 ?_
  rw [nI_shr0]
  refine lv_istore_n (lv' := [(2, .int (nI (cp))), (0, .ref (ad (q))), (1, .int (nI (x)))]) hx hb dJ5_ensureCapacityInternal_d00df_10 rfl hl (by decide) rfl (fun ls hl => ?_)
  refine lv_iload_n hx hb dJ5_ensureCapacityInternal_d00df_11 rfl (lv_at hl 2 rfl) ?_
  refine lv_iload_n hx hb dJ5_ensureCapacityInternal_d00df_12 rfl (lv_at hl 0 rfl) ?_
  refine lv_isub hx hb dJ5_ensureCapacityInternal_d00df_13 ?_
  refine lv_if_le (tgt := 38) hx hb dJ5_ensureCapacityInternal_d00df_14 (by decide) (fun hc => ?_) (fun hc => ?_)
  · rw [isub_le x (by omega) cp (by omega)] at hc
    exact g_uvret S hr hlocks hP hS (⟨sbG.rf, cp, f, ⟨hb_a, hq1, hrw, hco, hsc, hf⟩, fun _ _ => rfl, hc⟩) (Nat.le_of_ble_eq_true rfl) (Nat.le_of_ble_eq_true rfl) dJ5_ensureCapacityInternal_d00df_38
  · rw [isub_le x (by omega) cp (by omega)] at hc
    refine lv_aload_n hx hb dJ5_ensureCapacityInternal_d00df_17 rfl (lv_at hl 1 rfl) ?_
    refine lv_aload_n hx hb dJ5_ensureCapacityInternal_d00df_18 rfl (lv_at hl 1 rfl) ?_
    refine g_get S hI hP uJ4 rfl (fs := _) (hb_a.lt 0 (by decide)) (hb_a.2 0 (by decide)) 0 (by decide) q387 rfl (v := .ref ((ad (q + 1)))) rfl dJ5_ensureCapacityInternal_d00df_19 ?_
    refine lv_aload_n hx hb dJ5_ensureCapacityInternal_d00df_22 rfl (lv_at hl 1 rfl) ?_
    refine lv_iload_n hx hb dJ5_ensureCapacityInternal_d00df_23 rfl (lv_at hl 2 rfl) ?_
    refine g_roi (g_runU S hI hP hS (k := 1) (C := "java/lang/StringBuilder") (As := [.int (nI (x))]) (rest := [.ref ((ad (q + 1))), .ref (ad (q))]) (mJ5_newCapacity_0f7a4 l q mb sn (q + 1) cp x f hb_a hq1 hrw hc70 (by omega) hx) q1484 q2257 q1486 q2316 q96 q1487 rfl rfl (by decide +kernel) ⟨(Nat.le_of_ble_eq_true rfl), (Nat.le_of_ble_eq_true rfl)⟩ rfl (hb_a.lt 0 (by decide)) (hb_a.2 0 (by decide)) rfl hl.1 rfl (Nat.le_of_ble_eq_true rfl) ⟨(Nat.le_of_ble_eq_true rfl), (Nat.le_of_ble_eq_true rfl)⟩ dJ5_ensureCapacityInternal_d00df_24) hS (fun H locs hP hS => ?_)
    refine lv_aload_n hx hb dJ5_ensureCapacityInternal_d00df_27 rfl (lv_at hl 1 rfl) ?_
    refine g_get S hI hP uJ4 rfl (fs := _) (hb_a.lt 0 (by decide)) (hb_a.2 0 (by decide)) 1 (by decide) q388 rfl (v := .int (nI (0))) rfl dJ5_ensureCapacityInternal_d00df_28 ?_
    refine lv_ishl hx hb dJ5_ensureCapacityInternal_d00df_31 ?_
    rw [nI_shl0]
    refine g_uafr (g_runSX S hI hP hS (k := 2) (As := [.ref ((ad (q + 1))), .int (nI (cp + (cp + 2)))]) (rest := [.ref (ad (q))]) (mJ7_copyOf_9075b l (q + 1) cp (cp + (cp + 2)) f hq1 hrw (by omega) (by omega) hf) q1490 q1491 q84 q1492 rfl rfl (by decide +kernel) ⟨(Nat.le_of_ble_eq_true rfl), (Nat.le_of_ble_eq_true rfl)⟩ rfl hl.1 rfl (Nat.le_of_ble_eq_true rfl) ⟨(Nat.le_of_ble_eq_true rfl), (Nat.le_of_ble_eq_true rfl)⟩ dJ5_ensureCapacityInternal_d00df_32) hS (fun rz ad1 N1 w1 H locs hq hP hS => ?_)
    obtain ⟨hr1, hN1, hadL1, hwN1, hwL1⟩ := hq
    rw [hr1]
    subst hN1
    have hb1 : bkP (N + 1) w1 q 1 (SBC E ad1 q (ad (q + 1)) 0 mb sn) := SB_mv hb_a (w' := w1) (M := N) (by omega) (Nat.le_succ _) (fun p hp => (hadL1 p hp).symm) (fun p h1 h2 => hwL1 p (by omega))
    rw [show ([.ref ((ad1 N)), .ref (ad (q))] : List Value) = [.ref ((ad1 N)), .ref (ad1 (q))] by rw [hadL1 (q) (by omega)]]
    have hl : lv_has ls 3 [(2, .int (nI (cp))), (0, .ref (ad1 (q))), (1, .int (nI (x)))] := by rw [hadL1 (q) (by omega)]; exact hl
    refine g_put S hI hP hS uJ4 rfl tyJ4 tyJ4_ok nmJ4 (fs := _) (hb1.lt 0 (by decide)) (hb1.2 0 (by decide)) 0 (by decide) q387 rfl rfl (v := .ref ((ad1 N))) rfl rfl (Nat.le_of_ble_eq_true rfl) dJ5_ensureCapacityInternal_d00df_35 (fun H locs hP hS => ?_)
    have hP : gP E ad1 (N + 1) (va_up _ (q) (SBC E ad1 q (ad1 N) 0 mb sn 0)) H := hP
    have hb1 : bkP (N + 1) (va_up _ (q) (SBC E ad1 q (ad1 N) 0 mb sn 0)) q 1 (SBC E ad1 q (ad1 N) 0 mb sn) := SB_setO hb1 _ _ _ _
    have hP9 := hP.swap (k := q + 1) hq1
    exact g_uvret S hr hlocks (hP9) hS (⟨⟨rfl, fun p h1 h2 => by rw [va_up_ne _ _ h2]; exact hadL1 p h1, fun p h1 h2 h3 => by rw [va_up_ne _ _ h3, va_up_ne _ _ h2]; exact hwL1 p h1⟩, cp + (cp + 2), fil cp f (fun _ => 0), ⟨⟨by omega, fun k hk => by rw [show k = 0 by omega, va_up_ne _ _ (by omega)]; show va_up w1 q _ q = _; rw [va_up_self, va_up_self]; rfl⟩, hq1, by rw [va_up_self, va_up_ne _ _ (by omega), hwN1], hcg (by omega), by omega, fun j hj => by unfold fil; split; exact hf j (by assumption); decide⟩, fun j hj => fil_in (by omega), by omega⟩) (Nat.le_of_ble_eq_true rfl) (Nat.le_of_ble_eq_true rfl) dJ5_ensureCapacityInternal_d00df_38
