/-! A NUMBER'S DIGITS IN THE LINE -/
def ndg (v : Nat) : Nat := if v < 10 then 1 else 2
theorem ndg_b (v : Nat) : 1 ≤ ndg v ∧ ndg v ≤ 2 := by unfold ndg; split <;> omega
def dgs (v ix : Nat) (f : Nat → Nat) : Nat → Nat := if v < 10 then va_up f (ix - 1) (48 + v % 10) else va_up (va_up f (ix - 1) (48 + v % 10)) (ix - 1 - 1) (48 + v / 10)
theorem ng_10 : ∀ v, v < 100 → (-nI v ≤ -10 ↔ 10 ≤ v) := by decide +kernel
theorem ng_100 : ∀ v, v < 100 → ¬ (-nI v ≤ nI 10 * -10) := by decide +kernel
theorem ng_g : ∀ v, v < 100 → ¬ (-nI v ≤ -100) := by decide +kernel
theorem ng_9 : ∀ v, v < 100 → (-9 ≤ -nI v ↔ v ≤ 9) := by decide +kernel
theorem ng_ng : ∀ v, v < 100 → -(-nI v) = nI v := by decide +kernel
/-- a line's text -/
def lnT (f : Nat → Nat) (n : Nat) : List Nat := (List.range n).map f
theorem lnT_len {f : Nat → Nat} {n : Nat} : (lnT f n).length = n := by simp [lnT]
theorem lnT_one {f g : Nat → Nat} {n x : Nat} (h : ∀ j, j < n → g j = f j) (hx : g n = x) : lnT g (n + 1) = lnT f n ++ [x] := by
  unfold lnT
  rw [List.range_succ, List.map_append, List.map_congr_left (fun j hj => h j (List.mem_range.mp hj))]
  simp [hx]
theorem lnT_get {f : Nat → Nat} {n i : Nat} (h : i < n) : (lnT f n).getD i 0 = f i := by simp [lnT, h]
theorem dgs_128 {x ix cp : Nat} {f : Nat → Nat} (hx : x < 100) (h : ∀ j, j < cp → f j < 128) : ∀ j, j < cp → dgs x ix f j < 128 := fun j hj => by
  have h0 := h j hj
  unfold dgs
  split
  · unfold va_up; split <;> omega
  · unfold va_up; split
    · omega
    · split <;> omega
theorem dgs_lo {x sn : Nat} {f g : Nat → Nat} (h : ∀ j, j < sn → f j = g j) : ∀ j, j < sn → dgs x (sn + ndg x) f j = g j := fun j hj => by
  unfold dgs ndg
  by_cases q : x < 10
  · rw [if_pos q, if_pos q, va_up_ne _ _ (by omega)]; exact h j hj
  · rw [if_neg q, if_neg q, va_up_ne _ _ (by omega), va_up_ne _ _ (by omega)]; exact h j hj
theorem dgs_hi {x sn : Nat} {f : Nat → Nat} : (x < 10 → dgs x (sn + ndg x) f sn = 48 + x) ∧ (10 ≤ x → dgs x (sn + ndg x) f sn = 48 + x / 10 ∧ dgs x (sn + ndg x) f (sn + 1) = 48 + x % 10) := by
  refine ⟨fun q => ?_, fun q => ?_⟩
  · unfold dgs ndg
    rw [if_pos q, if_pos q, show sn + 1 - 1 = sn by omega, va_up_self]
    omega
  · have q2 : ¬ x < 10 := by omega
    unfold dgs ndg
    rw [if_neg q2, if_neg q2, show sn + 2 - 1 = sn + 1 by omega, show sn + 1 - 1 = sn by omega, va_up_self, va_up_ne _ _ (by omega), va_up_self]
    exact ⟨rfl, rfl⟩
set_option maxHeartbeats 4000000 in
set_option maxRecDepth 100000 in
/-- how many digits -/
theorem mJ6_stringSize_0f7a4 (l : Launch) {E : gE} {ad : Nat → Nat} {N : Nat} {w : Nat → va_E} (v : Nat) (hv : v < 100) : gMi l yJ6_stringSize_0f7a4 (lw_ws yJ6_stringSize_0f7a4 cJ6_stringSize_0f7a4 4 (some .int)) ({ frames := 0, cells := 0, slots := 0, locals := 0 } : Room) E ad N w [.int (nI (v))] (fun r w' => r = nI (ndg v) ∧ w' = w) 0 0 := by
  refine Met.ofW (cc := cJ6_stringSize_0f7a4) (maxL := 4) (ret := (some .int)) (by decide) rfl ?_
  intro p e s m args below meth cd s₁ B hml hv
  obtain ⟨rfl, hI, hP⟩ := hv
  obtain ⟨S, hr, hlocks⟩ := gPre (ws := []) B hml (C := RJ6) rfl
  have hx := S.1
  have hb := S.2.1
  have hS : va_S (gA E) s.heap s.heap [] := va_S.rf
  have hl := lv_entry ([.int (nI (v))]) (n := 4) (Nat.le_of_ble_eq_true rfl)
  rw [lg_entry_eq]
  generalize (lg_sl ([.int (nI (v))]) ++ List.replicate (4 - (lg_sl ([.int (nI (v))])).length) Slot.unset).toArray = ls at hl ⊢
  have hl : lv_has ls 4 [(0, .int (nI (v)))] := hl
  refine g_iconst S 1 dJ6_stringSize_0f7a4_0 (by decide +kernel) ?_
  refine lv_istore_n (lv' := [(1, .int (nI (1))), (0, .int (nI (v)))]) hx hb dJ6_stringSize_0f7a4_1 rfl hl (by decide) rfl (fun ls hl => ?_)
  refine lv_iload_n hx hb dJ6_stringSize_0f7a4_2 rfl (lv_at hl 1 rfl) ?_
  refine g_iflt S (a := v) (by omega) (tgt := 11) dJ6_stringSize_0f7a4_3 (by decide) ?_
  refine g_iconst S 0 dJ6_stringSize_0f7a4_6 (by decide +kernel) ?_
  refine lv_istore_n (lv' := [(1, .int (nI (0))), (0, .int (nI (v)))]) hx hb dJ6_stringSize_0f7a4_7 rfl hl (by decide) rfl (fun ls hl => ?_)
  refine lv_iload_n hx hb dJ6_stringSize_0f7a4_8 rfl (lv_at hl 1 rfl) ?_
  refine lv_ineg hx hb dJ6_stringSize_0f7a4_9 ?_
  refine lv_istore_n (lv' := [(0, .int (-nI (v))), (1, .int (nI (0)))]) hx hb dJ6_stringSize_0f7a4_10 rfl hl (by decide) rfl (fun ls hl => ?_)
  refine lv_bipush (v := -10) hx hb dJ6_stringSize_0f7a4_11 (by decide +kernel) ?_
  refine lv_istore_n (lv' := [(2, .int (-10)), (0, .int (-nI (v))), (1, .int (nI (0)))]) hx hb dJ6_stringSize_0f7a4_13 rfl hl (by decide) rfl (fun ls hl => ?_)
  refine g_iconst S 1 dJ6_stringSize_0f7a4_14 (by decide +kernel) ?_
  refine lv_istore_n (lv' := [(3, .int (nI (1))), (2, .int (-10)), (0, .int (-nI (v))), (1, .int (nI (0)))]) hx hb dJ6_stringSize_0f7a4_15 rfl hl (by decide) rfl (fun ls hl => ?_)
  refine lv_iload_n hx hb dJ6_stringSize_0f7a4_16 rfl (lv_at hl 0 rfl) ?_
  refine g_bipush S 10 dJ6_stringSize_0f7a4_17 (by decide +kernel) ?_
  refine g_ge S (a := 1) (b := 10) (by omega) (by omega) (tgt := 42) dJ6_stringSize_0f7a4_19 (by decide) (fun hk1 => ?_) (fun hk1 => ?_)
  · omega
  · refine lv_iload_n hx hb dJ6_stringSize_0f7a4_22 rfl (lv_at hl 2 rfl) ?_
    refine lv_iload_n hx hb dJ6_stringSize_0f7a4_23 rfl (lv_at hl 1 rfl) ?_
    refine lv_icmp_le (tgt := 31) hx hb dJ6_stringSize_0f7a4_24 (by decide) (fun hc => ?_) (fun hc => ?_)
    · rw [ng_10 v hv] at hc
      refine g_bipush S 10 dJ6_stringSize_0f7a4_31 (by decide +kernel) ?_
      refine lv_iload_n hx hb dJ6_stringSize_0f7a4_33 rfl (lv_at hl 1 rfl) ?_
      refine lv_imul hx hb dJ6_stringSize_0f7a4_34 ?_
      refine lv_istore_n (lv' := [(2, .int (nI (10) * (-10))), (3, .int (nI (1))), (0, .int (-nI (v))), (1, .int (nI (0)))]) hx hb dJ6_stringSize_0f7a4_35 rfl hl (by decide) rfl (fun ls hl => ?_)
      refine lv_iinc (v := nI (1 + 1)) (lv' := [(3, .int (nI (1 + 1))), (2, .int (nI (10) * (-10))), (0, .int (-nI (v))), (1, .int (nI (0)))]) hx hb dJ6_stringSize_0f7a4_36 hl (k := 1) rfl (g_inc _ 1 (by decide +kernel)) (by decide) rfl (fun ls hl => ?_)
      refine lv_goto (tgt := 16) hx hb dJ6_stringSize_0f7a4_39 (by decide) ?_
      refine lv_iload_n hx hb dJ6_stringSize_0f7a4_16 rfl (lv_at hl 0 rfl) ?_
      refine g_bipush S 10 dJ6_stringSize_0f7a4_17 (by decide +kernel) ?_
      refine g_ge S (a := 1 + 1) (b := 10) (by omega) (by omega) (tgt := 42) dJ6_stringSize_0f7a4_19 (by decide) (fun hk2 => ?_) (fun hk2 => ?_)
      · omega
      · refine lv_iload_n hx hb dJ6_stringSize_0f7a4_22 rfl (lv_at hl 2 rfl) ?_
        refine lv_iload_n hx hb dJ6_stringSize_0f7a4_23 rfl (lv_at hl 1 rfl) ?_
        refine lv_icmp_le (tgt := 31) hx hb dJ6_stringSize_0f7a4_24 (by decide) (fun hc2 => ?_) (fun hc2 => ?_)
        · exact absurd hc2 (ng_100 v hv)
        · refine lv_iload_n hx hb dJ6_stringSize_0f7a4_27 rfl (lv_at hl 0 rfl) ?_
          refine lv_iload_n hx hb dJ6_stringSize_0f7a4_28 rfl (lv_at hl 3 rfl) ?_
          refine g_iadd S dJ6_stringSize_0f7a4_29 ?_
          exact g_iret S hr hlocks hP hS (⟨by unfold ndg; rw [if_neg (by omega)], rfl⟩) (fun _ _ => rfl) (Nat.le_of_ble_eq_true rfl) (Nat.le_of_ble_eq_true rfl) dJ6_stringSize_0f7a4_30
    · rw [ng_10 v hv] at hc
      refine lv_iload_n hx hb dJ6_stringSize_0f7a4_27 rfl (lv_at hl 0 rfl) ?_
      refine lv_iload_n hx hb dJ6_stringSize_0f7a4_28 rfl (lv_at hl 3 rfl) ?_
      refine g_iadd S dJ6_stringSize_0f7a4_29 ?_
      exact g_iret S hr hlocks hP hS (⟨by unfold ndg; rw [if_pos (by omega)], rfl⟩) (fun _ _ => rfl) (Nat.le_of_ble_eq_true rfl) (Nat.le_of_ble_eq_true rfl) dJ6_stringSize_0f7a4_30
set_option maxHeartbeats 4000000 in
set_option maxRecDepth 100000 in
/-- digits laid -/
theorem mJ6_getChars_ba4f3 (l : Launch) {E : gE} {ad : Nat → Nat} {N : Nat} {w : Nat → va_E} (kk : Nat → Nat) (hzv : gHv E kk) (v ix lb cp : Nat) (f : Nat → Nat) (hv : v < 100) (hlb : lb < N) (hrw : w lb = gAr (E.2.1 3) cp f) (hix : ndg v ≤ ix) (hixc : ix ≤ cp) (hcp : cp ≤ 70) : gMi l yJ6_getChars_ba4f3 (lw_ws yJ6_getChars_ba4f3 cJ6_getChars_ba4f3 7 (some .int)) ({ frames := 0, cells := 0, slots := 0, locals := 0 } : Room) E ad N w [.int (nI (v)), .int (nI (ix)), .ref (ad (lb))] (fun _ w' => w' lb = gAr (E.2.1 3) cp (dgs v ix f) ∧ gFr (fun p => p = lb) w w') 0 0 := by
  refine Met.ofW (cc := cJ6_getChars_ba4f3) (maxL := 7) (ret := (some .int)) (by decide) rfl ?_
  intro p e s m args below meth cd s₁ B hml hv
  obtain ⟨rfl, hI, hP⟩ := hv
  obtain ⟨S, hr, hlocks⟩ := gPre (ws := []) B hml (C := RJ6) rfl
  have hx := S.1
  have hb := S.2.1
  have hzk := hzv s s.heap hI.2.2.2.2
  have hS : va_S (gA E) s.heap s.heap [] := va_S.rf
  have hl := lv_entry ([.int (nI (v)), .int (nI (ix)), .ref (ad (lb))]) (n := 7) (Nat.le_of_ble_eq_true rfl)
  rw [lg_entry_eq]
  generalize (lg_sl ([.int (nI (v)), .int (nI (ix)), .ref (ad (lb))]) ++ List.replicate (7 - (lg_sl ([.int (nI (v)), .int (nI (ix)), .ref (ad (lb))])).length) Slot.unset).toArray = ls at hl ⊢
  have hl : lv_has ls 7 [(0, .int (nI (v))), (1, .int (nI (ix))), (2, .ref (ad (lb)))] := hl
  have hnd := ndg_b v
  refine lv_iload_n hx hb dJ6_getChars_ba4f3_0 rfl (lv_at hl 1 rfl) ?_
  refine lv_istore (lv' := [(5, .int (nI (ix))), (0, .int (nI (v))), (1, .int (nI (ix))), (2, .ref (ad (lb)))]) hx hb dJ6_getChars_ba4f3_1 hl (by decide) rfl (fun ls hl => ?_)
  refine lv_iload_n hx hb dJ6_getChars_ba4f3_3 rfl (lv_at hl 1 rfl) ?_
  refine g_ifge S (a := v) (by omega) (tgt := 11) dJ6_getChars_ba4f3_4 (by decide) ?_
  refine g_iconst S 0 dJ6_getChars_ba4f3_11 (by decide +kernel) ?_
  refine lv_istore (lv' := [(6, .int (nI (0))), (5, .int (nI (ix))), (0, .int (nI (v))), (1, .int (nI (ix))), (2, .ref (ad (lb)))]) hx hb dJ6_getChars_ba4f3_12 hl (by decide) rfl (fun ls hl => ?_)
  refine lv_iload hx hb dJ6_getChars_ba4f3_14 (lv_at hl 0 rfl) ?_
  refine g_ifne S (a := 0) (by omega) (tgt := 22) dJ6_getChars_ba4f3_16 (by decide) (fun hc => ?_) (fun hc => ?_)
  · omega
  · refine lv_iload_n hx hb dJ6_getChars_ba4f3_19 rfl (lv_at hl 2 rfl) ?_
    refine lv_ineg hx hb dJ6_getChars_ba4f3_20 ?_
    refine lv_istore_n (lv' := [(0, .int (-nI (v))), (6, .int (nI (0))), (5, .int (nI (ix))), (1, .int (nI (ix))), (2, .ref (ad (lb)))]) hx hb dJ6_getChars_ba4f3_21 rfl hl (by decide) rfl (fun ls hl => ?_)
    refine lv_iload_n hx hb dJ6_getChars_ba4f3_22 rfl (lv_at hl 0 rfl) ?_
    refine lv_bipush (v := -100) hx hb dJ6_getChars_ba4f3_23 (by decide +kernel) ?_
    refine lv_icmp_gt (tgt := 72) hx hb dJ6_getChars_ba4f3_25 (by decide) (fun hc2 => ?_) (fun hc2 => ?_)
    · refine lv_aload_n hx hb dJ6_getChars_ba4f3_72 rfl (lv_at hl 4 rfl) ?_
      refine lv_iinc (v := nI (ix - 1)) (lv' := [(5, .int (nI (ix - 1))), (0, .int (-nI (v))), (6, .int (nI (0))), (1, .int (nI (ix))), (2, .ref (ad (lb)))]) hx hb dJ6_getChars_ba4f3_73 hl (k := 2) rfl (g_dec1 (by omega)) (by decide) rfl (fun ls hl => ?_)
      refine lv_iload hx hb dJ6_getChars_ba4f3_76 (lv_at hl 0 rfl) ?_
      refine g_gets S hS (v := .ref ((kk 34))) hzk.2.2.2.2.2.2.2.1.1 q1568 dJ6_getChars_ba4f3_78 ?_
      refine lv_iload_n hx hb dJ6_getChars_ba4f3_81 rfl (lv_at hl 1 rfl) ?_
      refine lv_ineg hx hb dJ6_getChars_ba4f3_82 ?_
      rw [ng_ng v hv]
      refine g_stb S hS hzk.2.2.2.2.2.2.2.1.2 v (by omega) (by decide) dJ6_getChars_ba4f3_83 ?_
      refine g_bast S hI hP hS (q0 := lb) hlb hrw (ix - 1) (by omega) (by omega) (x := 48 + v % 10) (by omega) dJ6_getChars_ba4f3_84 (fun H locs hP hS => ?_)
      refine lv_iload_n hx hb dJ6_getChars_ba4f3_85 rfl (lv_at hl 1 rfl) ?_
      refine lv_bipush (v := -9) hx hb dJ6_getChars_ba4f3_86 (by decide +kernel) ?_
      refine lv_icmp_ge (tgt := 104) hx hb dJ6_getChars_ba4f3_88 (by decide) (fun hc3 => ?_) (fun hc3 => ?_)
      · have hc3 := (ng_9 v hv).mp hc3
        refine lv_iload hx hb dJ6_getChars_ba4f3_104 (lv_at hl 2 rfl) ?_
        refine g_ifeq S (a := 0) (by omega) (tgt := 118) dJ6_getChars_ba4f3_106 (by decide) (fun hc4 => ?_) (fun hc4 => ?_)
        · refine lv_iload hx hb dJ6_getChars_ba4f3_118 (lv_at hl 0 rfl) ?_
          exact g_iret S hr hlocks hP hS (⟨by rw [va_up_self]; unfold dgs; rw [if_pos (by omega)], fun p hp => va_up_ne _ _ hp⟩) (fun _ _ => rfl) (Nat.le_of_ble_eq_true rfl) (Nat.le_of_ble_eq_true rfl) dJ6_getChars_ba4f3_120
        · omega
      · rw [ng_9 v hv] at hc3
        have hn2 : ndg v = 2 := if_neg (by omega)
        refine lv_aload_n hx hb dJ6_getChars_ba4f3_91 rfl (lv_at hl 4 rfl) ?_
        refine lv_iinc (v := nI (ix - 1 - 1)) (lv' := [(5, .int (nI (ix - 1 - 1))), (0, .int (-nI (v))), (6, .int (nI (0))), (1, .int (nI (ix))), (2, .ref (ad (lb)))]) hx hb dJ6_getChars_ba4f3_92 hl (k := 0) rfl (g_dec1 (by omega)) (by decide) rfl (fun ls hl => ?_)
        refine lv_iload hx hb dJ6_getChars_ba4f3_95 (lv_at hl 0 rfl) ?_
        refine g_gets S hS (v := .ref ((kk 33))) hzk.2.2.2.2.2.2.1.1 q1570 dJ6_getChars_ba4f3_97 ?_
        refine lv_iload_n hx hb dJ6_getChars_ba4f3_100 rfl (lv_at hl 1 rfl) ?_
        refine lv_ineg hx hb dJ6_getChars_ba4f3_101 ?_
        rw [ng_ng v hv]
        refine g_stb S hS hzk.2.2.2.2.2.2.1.2 v (by omega) (by decide) dJ6_getChars_ba4f3_102 ?_
        refine g_bast S hI hP hS (q0 := lb) hlb (va_up_self _ _ _) (ix - 1 - 1) (by omega) (by omega) (x := 48 + v / 10) (by omega) dJ6_getChars_ba4f3_103 (fun H locs hP hS => ?_)
        refine lv_iload hx hb dJ6_getChars_ba4f3_104 (lv_at hl 2 rfl) ?_
        refine g_ifeq S (a := 0) (by omega) (tgt := 118) dJ6_getChars_ba4f3_106 (by decide) (fun hc4 => ?_) (fun hc4 => ?_)
        · refine lv_iload hx hb dJ6_getChars_ba4f3_118 (lv_at hl 0 rfl) ?_
          exact g_iret S hr hlocks hP hS (⟨by rw [va_up_self]; unfold dgs; rw [if_neg (by omega)], fun p hp => by rw [va_up_ne _ _ hp, va_up_ne _ _ hp]⟩) (fun _ _ => rfl) (Nat.le_of_ble_eq_true rfl) (Nat.le_of_ble_eq_true rfl) dJ6_getChars_ba4f3_120
        · omega
    · exact absurd (Int32.not_lt.mp hc2) (ng_g v hv)
set_option maxHeartbeats 4000000 in
set_option maxRecDepth 100000 in
/-- a number more -/
theorem mJ5_append_c97b9 (l : Launch) {E : gE} {ad : Nat → Nat} {N : Nat} {w : Nat → va_E} (kk : Nat → Nat) (hzv : gHv E kk) (q cp mb sn : Nat) (f : Nat → Nat) (x : Nat) (hR : sbR E ad N w q cp mb sn f) (hxx : x < 100) (hs60 : sn + 2 ≤ 60) : gUr l yJ5_append_c97b9 (lw_ws yJ5_append_c97b9 cJ5_append_c97b9 4 (some (.object "java/lang/AbstractStringBuilder"))) ({ frames := 4, cells := 1, slots := 70, locals := 91 } : Room) E ad N w [.ref (ad (q)), .int (nI (x))] (fun r ad' N' w' => r = ad' q ∧ sbG ad N w q ad' N' w' ∧ ∃ cp' mb' f', sbR E ad' N' w' q cp' mb' (sn + ndg x) f' ∧ (∀ j, j < sn → f' j = f j) ∧ (x < 10 → f' sn = 48 + x) ∧ (10 ≤ x → f' sn = 48 + x / 10 ∧ f' (sn + 1) = 48 + x % 10)) 1 70 := by
  refine Met.ofW (cc := cJ5_append_c97b9) (maxL := 4) (ret := (some (.object "java/lang/AbstractStringBuilder"))) (by decide) rfl ?_
  intro p e s m args below meth cd s₁ B hml hv
  obtain ⟨rfl, hI, hP⟩ := hv
  obtain ⟨S, hr, hlocks⟩ := gPre (ws := []) B hml (C := RJ5) rfl
  have hx := S.1
  have hb := S.2.1
  have hzk := hzv s s.heap hI.2.2.2.2
  have hS : va_S (gA E) s.heap s.heap [] := va_S.rf
  have hl := lv_entry ([.ref (ad (q)), .int (nI (x))]) (n := 4) (Nat.le_of_ble_eq_true rfl)
  rw [lg_entry_eq]
  generalize (lg_sl ([.ref (ad (q)), .int (nI (x))]) ++ List.replicate (4 - (lg_sl ([.ref (ad (q)), .int (nI (x))])).length) Slot.unset).toArray = ls at hl ⊢
  have hl : lv_has ls 4 [(0, .ref (ad (q))), (1, .int (nI (x)))] := hl
  obtain ⟨hb_a, hq1, hrw, hco, hsc, hf⟩ := hR
  obtain ⟨hc16, hc70, hcg⟩ := hco.le
  have hqN : q < N := by omega
  have hnd := ndg_b x
  refine lv_aload_n hx hb dJ5_append_c97b9_0 rfl (lv_at hl 0 rfl) ?_
  refine g_get S hI hP uJ4 rfl (fs := _) (hb_a.lt 0 (by decide)) (hb_a.2 0 (by decide)) 3 (by decide) q391 rfl (v := .int (nI (sn))) rfl dJ5_append_c97b9_1 ?_
  refine lv_istore_n (lv' := [(2, .int (nI (sn))), (0, .ref (ad (q))), (1, .int (nI (x)))]) hx hb dJ5_append_c97b9_4 rfl hl (by decide) rfl (fun ls hl => ?_)
  refine lv_iload_n hx hb dJ5_append_c97b9_5 rfl (lv_at hl 0 rfl) ?_
  refine lv_iload_n hx hb dJ5_append_c97b9_6 rfl (lv_at hl 2 rfl) ?_
  refine g_roi (g_runSX S hI hP hS (k := 1) (As := [.int (nI (x))]) (rest := [.int (nI (sn))]) (mJ6_stringSize_0f7a4 l x hxx) q1562 q1563 q121 q1564 rfl rfl (by decide +kernel) ⟨Nat.le_of_ble_eq_true rfl, Nat.le_of_ble_eq_true rfl⟩ rfl hl.1 rfl (Nat.le_of_ble_eq_true rfl) ⟨(Nat.le_of_ble_eq_true rfl), (Nat.le_of_ble_eq_true rfl)⟩ dJ5_append_c97b9_7) hS (fun H locs hP hS => ?_)
  refine g_iadd S dJ5_append_c97b9_10 ?_
  refine lv_istore_n (lv' := [(3, .int (nI (sn + (ndg x)))), (2, .int (nI (sn))), (0, .ref (ad (q))), (1, .int (nI (x)))]) hx hb dJ5_append_c97b9_11 rfl hl (by decide) rfl (fun ls hl => ?_)
  refine lv_aload_n hx hb dJ5_append_c97b9_12 rfl (lv_at hl 2 rfl) ?_
  refine lv_iload_n hx hb dJ5_append_c97b9_13 rfl (lv_at hl 0 rfl) ?_
  refine g_uafv (g_runU S hI hP hS (k := 1) (C := "java/lang/StringBuilder") (As := [.int (nI (sn + (ndg x)))]) (rest := []) (mJ5_ensureCapacityInternal_d00df l kk hzv q cp mb sn f (sn + ndg x) ⟨hb_a, hq1, hrw, hco, hsc, hf⟩ (by omega) (by omega)) q1480 q2256 q1482 q2315 q96 q1483 rfl rfl (by decide +kernel) ⟨(Nat.le_of_ble_eq_true rfl), (Nat.le_of_ble_eq_true rfl)⟩ rfl (hb_a.lt 0 (by decide)) (hb_a.2 0 (by decide)) rfl hl.1 rfl (Nat.le_of_ble_eq_true rfl) ⟨(Nat.le_of_ble_eq_true rfl), (Nat.le_of_ble_eq_true rfl)⟩ dJ5_append_c97b9_14) hS (fun ad1 N1 w1 H locs hq hP hS => ?_)
  obtain ⟨hG1, cp1, f1, hR1, hff1, hxc1⟩ := hq
  obtain ⟨hN1, ha1, hw1⟩ := id hG1
  have hN1 := hN1.symm
  subst hN1
  have hadL1 : ∀ p, p ≤ q → ad1 p = ad p := fun p hp => ha1 p (by omega) (by omega)
  obtain ⟨hb1_a, hq11, hrw1, hco1, hsc1, hf1⟩ := hR1
  have hl : lv_has ls 4 [(3, .int (nI (sn + (ndg x)))), (2, .int (nI (sn))), (0, .ref (ad1 (q))), (1, .int (nI (x)))] := by rw [hadL1 (q) (by omega)]; exact hl
  refine lv_aload_n hx hb dJ5_append_c97b9_17 rfl (lv_at hl 2 rfl) ?_
  refine g_roi (g_runU S hI hP hS (k := 0) (C := "java/lang/StringBuilder") (As := []) (rest := []) (mJ5_isLatin1_aae02 l kk hzv q (ad1 (q + 1)) mb sn hb1_a) q1500 q1502 q1501 q1503 q96 q1504 rfl rfl (by decide +kernel) ⟨(Nat.le_of_ble_eq_true rfl), (Nat.le_of_ble_eq_true rfl)⟩ rfl (hb1_a.lt 0 (by decide)) (hb1_a.2 0 (by decide)) rfl hl.1 rfl (Nat.le_of_ble_eq_true rfl) ⟨(Nat.le_of_ble_eq_true rfl), (Nat.le_of_ble_eq_true rfl)⟩ dJ5_append_c97b9_18) hS (fun H locs hP hS => ?_)
  refine g_ifeq S (a := 1) (by omega) (tgt := 37) dJ5_append_c97b9_21 (by decide) (fun hc => ?_) (fun hc => ?_)
  · omega
  · have hc170 := hco1.le.2.1
    refine lv_iload_n hx hb dJ5_append_c97b9_24 rfl (lv_at hl 3 rfl) ?_
    refine lv_iload_n hx hb dJ5_append_c97b9_25 rfl (lv_at hl 0 rfl) ?_
    refine lv_aload_n hx hb dJ5_append_c97b9_26 rfl (lv_at hl 2 rfl) ?_
    refine g_get S hI hP uJ4 rfl (fs := _) (hb1_a.lt 0 (by decide)) (hb1_a.2 0 (by decide)) 0 (by decide) q387 rfl (v := .ref ((ad1 (q + 1)))) rfl dJ5_append_c97b9_27 ?_
    refine g_afi (g_runSX S hI hP hS (k := 3) (As := [.int (nI (x)), .int (nI (sn + (ndg x))), .ref ((ad1 (q + 1)))]) (rest := []) (mJ6_getChars_ba4f3 l kk hzv x (sn + ndg x) (q + 1) cp1 f1 hxx hq11 hrw1 (by omega) hxc1 hc170) q1565 q1566 q121 q1567 rfl rfl (by decide +kernel) ⟨(Nat.le_of_ble_eq_true rfl), (Nat.le_of_ble_eq_true rfl)⟩ rfl hl.1 rfl (Nat.le_of_ble_eq_true rfl) ⟨(Nat.le_of_ble_eq_true rfl), (Nat.le_of_ble_eq_true rfl)⟩ dJ5_append_c97b9_30) hS (fun rz w2 H locs hq hP hS => ?_)
    obtain ⟨hrw2, hf2⟩ := hq
    have hb2_a := hb1_a.fr hf2 (fun k hk => by show ¬ _; (try dsimp only); omega)
    refine lv_pop hx hb dJ5_append_c97b9_33 rfl ?_
    refine lv_goto (tgt := 48) hx hb dJ5_append_c97b9_34 (by decide) ?_
    refine lv_aload_n hx hb dJ5_append_c97b9_48 rfl (lv_at hl 2 rfl) ?_
    refine lv_iload_n hx hb dJ5_append_c97b9_49 rfl (lv_at hl 0 rfl) ?_
    refine g_put S hI hP hS uJ4 rfl tyJ4 tyJ4_ok nmJ4 (fs := _) (hb2_a.lt 0 (by decide)) (hb2_a.2 0 (by decide)) 3 (by decide) q391 rfl rfl (v := .int (nI (sn + (ndg x)))) rfl rfl (Nat.le_of_ble_eq_true rfl) dJ5_append_c97b9_50 (fun H locs hP hS => ?_)
    have hP : gP E ad1 N (va_up _ (q) (SBC E ad1 q (ad1 (q + 1)) 0 mb (sn + (ndg x)) 0)) H := hP
    have hb1 : bkP N (va_up _ (q) (SBC E ad1 q (ad1 (q + 1)) 0 mb (sn + (ndg x)) 0)) q 1 (SBC E ad1 q (ad1 (q + 1)) 0 mb (sn + (ndg x))) := SB_setO hb2_a _ _ _ _
    refine lv_aload_n hx hb dJ5_append_c97b9_53 rfl (lv_at hl 2 rfl) ?_
    exact g_urret S hr (by first | exact Or.inl ⟨_, rfl⟩ | exact Or.inr ⟨_, rfl⟩) hlocks hP hS (⟨rfl, hG1.trans ⟨rfl, fun _ _ _ => rfl, fun p a b c => by rw [va_up_ne _ _ b]; exact hf2 p c⟩, cp1, mb, dgs x (sn + ndg x) f1, ⟨hb1, hq11, by rw [va_up_ne _ _ (by omega)]; exact hrw2, hco1, hxc1, dgs_128 hxx hf1⟩, dgs_lo hff1, dgs_hi⟩) (Nat.le_of_ble_eq_true rfl) (Nat.le_of_ble_eq_true rfl) dJ5_append_c97b9_54
set_option maxHeartbeats 4000000 in
set_option maxRecDepth 100000 in
/-- a number more -/
theorem mJ4_append_bf812 (l : Launch) {E : gE} {ad : Nat → Nat} {N : Nat} {w : Nat → va_E} (kk : Nat → Nat) (hzv : gHv E kk) (q cp mb sn : Nat) (f : Nat → Nat) (x : Nat) (hR : sbR E ad N w q cp mb sn f) (hxx : x < 100) (hs60 : sn + 2 ≤ 60) : gUr l yJ4_append_bf812 (lw_ws yJ4_append_bf812 cJ4_append_bf812 2 (some (.object "java/lang/StringBuilder"))) ({ frames := 5, cells := 1, slots := 70, locals := 114 } : Room) E ad N w [.ref (ad (q)), .int (nI (x))] (fun r ad' N' w' => r = ad' q ∧ sbG ad N w q ad' N' w' ∧ ∃ cp' mb' f', sbR E ad' N' w' q cp' mb' (sn + ndg x) f' ∧ (∀ j, j < sn → f' j = f j) ∧ (x < 10 → f' sn = 48 + x) ∧ (10 ≤ x → f' sn = 48 + x / 10 ∧ f' (sn + 1) = 48 + x % 10)) 1 70 := by
  refine Met.ofW (cc := cJ4_append_bf812) (maxL := 2) (ret := (some (.object "java/lang/StringBuilder"))) (by decide) rfl ?_
  intro p e s m args below meth cd s₁ B hml hv
  obtain ⟨rfl, hI, hP⟩ := hv
  obtain ⟨S, hr, hlocks⟩ := gPre (ws := []) B hml (C := RJ4) rfl
  have hx := S.1
  have hb := S.2.1
  have hzk := hzv s s.heap hI.2.2.2.2
  have hS : va_S (gA E) s.heap s.heap [] := va_S.rf
  have hl := lv_entry ([.ref (ad (q)), .int (nI (x))]) (n := 2) (Nat.le_of_ble_eq_true rfl)
  rw [lg_entry_eq]
  generalize (lg_sl ([.ref (ad (q)), .int (nI (x))]) ++ List.replicate (2 - (lg_sl ([.ref (ad (q)), .int (nI (x))])).length) Slot.unset).toArray = ls at hl ⊢
  have hl : lv_has ls 2 [(0, .ref (ad (q))), (1, .int (nI (x)))] := hl
  obtain ⟨hb_a, hq1, hrw, hco, hsc, hf⟩ := hR
  obtain ⟨hc16, hc70, hcg⟩ := hco.le
  have hqN : q < N := by omega
  refine lv_aload_n hx hb dJ4_append_bf812_0 rfl (lv_at hl 0 rfl) ?_
  refine lv_iload_n hx hb dJ4_append_bf812_1 rfl (lv_at hl 1 rfl) ?_
  refine g_uafr (g_runSU S hI hP hS (k := 1) (C := "java/lang/StringBuilder") (As := [.int (nI (x))]) (rest := []) (mJ5_append_c97b9 l kk hzv q cp mb sn f x ⟨hb_a, hq1, hrw, hco, hsc, hf⟩ hxx hs60) q1559 q2261 q400 q1560 q96 q1561 rfl rfl (by decide +kernel) ⟨(Nat.le_of_ble_eq_true rfl), (Nat.le_of_ble_eq_true rfl)⟩ rfl (hb_a.lt 0 (by decide)) (hb_a.2 0 (by decide)) rfl hl.1 rfl (Nat.le_of_ble_eq_true rfl) ⟨(Nat.le_of_ble_eq_true rfl), (Nat.le_of_ble_eq_true rfl)⟩ dJ4_append_bf812_2) hS (fun rz ad1 N1 w1 H locs hq hP hS => ?_)
  have hqq := hq
  obtain ⟨hr1, hG1, -⟩ := hq
  obtain ⟨hN1, ha1, hw1⟩ := id hG1
  have hN1 := hN1.symm
  subst hN1
  have hadL1 : ∀ p, p ≤ q → ad1 p = ad p := fun p hp => ha1 p (by omega) (by omega)
  have hl : lv_has ls 2 [(0, .ref (ad1 (q))), (1, .int (nI (x)))] := by rw [hadL1 (q) (by omega)]; exact hl
  refine lv_pop hx hb dJ4_append_bf812_5 rfl ?_
  refine lv_aload_n hx hb dJ4_append_bf812_6 rfl (lv_at hl 0 rfl) ?_
  exact g_urret S hr (by first | exact Or.inl ⟨_, rfl⟩ | exact Or.inr ⟨_, rfl⟩) hlocks hP hS (⟨rfl, hqq.2⟩) (Nat.le_of_ble_eq_true rfl) (Nat.le_of_ble_eq_true rfl) dJ4_append_bf812_7
