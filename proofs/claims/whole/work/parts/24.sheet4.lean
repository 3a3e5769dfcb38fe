set_option maxHeartbeats 4000000 in
set_option maxRecDepth 100000 in
/-- is a height refused -/
theorem mX7_refusalOfHeight (l : Launch) {E : gE} {ad : Nat → Nat} {N : Nat} {w : Nat → va_E} (b : Nat) (ht dr pg wt wr mo : Nat → Nat) (mc ni po dn : Nat) (o : Option Nat) (v : Int32) (hb_s : bkP N w b 7 (SHC E ad b ht dr pg wt wr mo mc ni po dn)) (ho : ∀ k, o = some k → k < 36) (hht : ∀ k, k < 36 → ht k ≤ 99) : gMi l yX7_refusalOfHeight (lw_ws yX7_refusalOfHeight cX7_refusalOfHeight 3 (some .int)) ({ frames := 0, cells := 0, slots := 0, locals := 0 } : Room) E ad N w [.ref (ad (b)), .int (oI (o)), .int (v)] (fun r w' => r = rfH ht o v ∧ w' = w) 0 0 := by
  refine Met.ofW (cc := cX7_refusalOfHeight) (maxL := 3) (ret := (some .int)) (by decide) rfl ?_
  intro p e s m args below meth cd s₁ B hml hv
  obtain ⟨rfl, hI, hP⟩ := hv
  obtain ⟨S, hr, hlocks⟩ := gPre (ws := []) B hml (C := RX7) rfl
  have hx := S.1
  have hb := S.2.1
  have hS : va_S (gA E) s.heap s.heap [] := va_S.rf
  have hl := lv_entry ([.ref (ad (b)), .int (oI (o)), .int (v)]) (n := 3) (Nat.le_of_ble_eq_true rfl)
  rw [lg_entry_eq]
  generalize (lg_sl ([.ref (ad (b)), .int (oI (o)), .int (v)]) ++ List.replicate (3 - (lg_sl ([.ref (ad (b)), .int (oI (o)), .int (v)])).length) Slot.unset).toArray = ls at hl ⊢
  have hl : lv_has ls 3 [(0, .ref (ad (b))), (1, .int (oI (o))), (2, .int (v))] := hl
  refine lv_iload_n hx hb dX7_refusalOfHeight_0 rfl (lv_at hl 1 rfl) ?_
  refine lv_iconst (v := -1) hx hb dX7_refusalOfHeight_1 (by decide +kernel) ?_
  refine g_one S (o := o) (fun k hk => Nat.lt_trans (ho k hk) (by decide)) (tgt := 7) dX7_refusalOfHeight_2 (by decide) (fun hn_k hn => ?_) (fun hn => ?_)
  · have hk36 := ho _ hn
    have hzk := hht _ hk36
    have hl : lv_has ls 3 [(0, .ref (ad (b))), (1, .int (nI (hn_k))), (2, .int (v))] := by rw [hn] at hl; exact hl
    refine lv_iload_n hx hb dX7_refusalOfHeight_7 rfl (lv_at hl 2 rfl) ?_
    rcases pk_ix v (n := 100) (by decide) with hv0 | hv0 | ⟨u, hu, rfl⟩
    · refine lv_if_lt (tgt := 17) hx hb dX7_refusalOfHeight_8 (by decide) (fun hc => ?_) (fun hc => ?_)
      · refine lv_bipush (v := -2) hx hb dX7_refusalOfHeight_17 (by decide +kernel) ?_
        exact g_iret S hr hlocks hP hS (⟨by rw [hn]; simp only [rfH, inR_neg hv0], rfl⟩) (fun _ _ => rfl) (Nat.le_of_ble_eq_true rfl) (Nat.le_of_ble_eq_true rfl) dX7_refusalOfHeight_19
      · exact absurd hv0 hc
    · have hv1 : ¬ v < 0 := fun q => nI_pos (n := 100) (by decide) (Int32.lt_of_le_of_lt hv0 q)
      refine lv_if_lt (tgt := 17) hx hb dX7_refusalOfHeight_8 (by decide) (fun hc => ?_) (fun hc => ?_)
      · exact absurd hc hv1
      · refine lv_iload_n hx hb dX7_refusalOfHeight_11 rfl (lv_at hl 2 rfl) ?_
        refine g_bipush S 99 dX7_refusalOfHeight_12 (by decide +kernel) ?_
        refine lv_icmp_le (tgt := 20) hx hb dX7_refusalOfHeight_14 (by decide) (fun hc2 => ?_) (fun hc2 => ?_)
        · exact absurd (Int32.le_trans hv0 hc2) (by decide +kernel)
        · refine lv_bipush (v := -2) hx hb dX7_refusalOfHeight_17 (by decide +kernel) ?_
          exact g_iret S hr hlocks hP hS (⟨by rw [hn]; simp only [rfH, inR_big hv0], rfl⟩) (fun _ _ => rfl) (Nat.le_of_ble_eq_true rfl) (Nat.le_of_ble_eq_true rfl) dX7_refusalOfHeight_19
    · refine g_iflt S (a := u) (by omega) (tgt := 17) dX7_refusalOfHeight_8 (by decide) ?_
      refine lv_iload_n hx hb dX7_refusalOfHeight_11 rfl (lv_at hl 2 rfl) ?_
      refine g_bipush S 99 dX7_refusalOfHeight_12 (by decide +kernel) ?_
      refine g_le S (a := u) (b := 99) (by omega) (by omega) (tgt := 20) dX7_refusalOfHeight_14 (by decide) (fun hc => ?_) (fun hc => ?_)
      · refine lv_aload_n hx hb dX7_refusalOfHeight_20 rfl (lv_at hl 0 rfl) ?_
        refine g_get S hI hP uX7 rfl (fs := _) (hb_s.lt 0 (by decide)) (hb_s.2 0 (by decide)) 0 (by decide) q140 rfl (v := .ref (ad (b + 1))) rfl dX7_refusalOfHeight_21 ?_
        refine lv_iload_n hx hb dX7_refusalOfHeight_24 rfl (lv_at hl 1 rfl) ?_
        refine g_iald S hI hP (f := fun j => nI (ht j)) (hb_s.lt 1 (by decide)) (hb_s.2 1 (by decide)) (hn_k) (hk36) (by decide) dX7_refusalOfHeight_25 ?_
        refine lv_iload_n hx hb dX7_refusalOfHeight_26 rfl (lv_at hl 2 rfl) ?_
        refine g_ne S (a := ht hn_k) (b := u) (by omega) (by omega) (tgt := 35) dX7_refusalOfHeight_27 (by decide) (fun he => ?_) (fun he => ?_)
        · refine g_iconst S 0 dX7_refusalOfHeight_35 (by decide +kernel) ?_
          exact g_iret S hr hlocks hP hS (⟨by rw [hn]; simp only [rfH, inR_nI hu (by decide : 100 < 2 ^ 31)]; rw [if_neg he], rfl⟩) (fun _ _ => rfl) (Nat.le_of_ble_eq_true rfl) (Nat.le_of_ble_eq_true rfl) dX7_refusalOfHeight_36
        · refine g_bipush S 6 dX7_refusalOfHeight_30 (by decide +kernel) ?_
          refine lv_goto (tgt := 36) hx hb dX7_refusalOfHeight_32 (by decide) ?_
          exact g_iret S hr hlocks hP hS (⟨by rw [hn]; simp only [rfH, inR_nI hu (by decide : 100 < 2 ^ 31)]; rw [if_pos he], rfl⟩) (fun _ _ => rfl) (Nat.le_of_ble_eq_true rfl) (Nat.le_of_ble_eq_true rfl) dX7_refusalOfHeight_36
      · omega
  · refine lv_iconst (v := -1) hx hb dX7_refusalOfHeight_5 (by decide +kernel) ?_
    exact g_iret S hr hlocks hP hS (⟨by rw [hn]; rfl, rfl⟩) (fun _ _ => rfl) (Nat.le_of_ble_eq_true rfl) (Nat.le_of_ble_eq_true rfl) dX7_refusalOfHeight_6
set_option maxHeartbeats 4000000 in
set_option maxRecDepth 100000 in
/-- is a peg refused -/
theorem mX7_refusalOfPegging (l : Launch) {E : gE} {ad : Nat → Nat} {N : Nat} {w : Nat → va_E} (b : Nat) (ht dr pg wt wr mo : Nat → Nat) (mc ni po dn : Nat) (o : Option Nat) (v : Nat) (hb_s : bkP N w b 7 (SHC E ad b ht dr pg wt wr mo mc ni po dn)) (ho : ∀ k, o = some k → k < 36) (hv : v ≤ 1) (hpg : ∀ k, k < 36 → pg k ≤ 1) : gMi l yX7_refusalOfPegging (lw_ws yX7_refusalOfPegging cX7_refusalOfPegging 3 (some .int)) ({ frames := 0, cells := 0, slots := 0, locals := 0 } : Room) E ad N w [.ref (ad (b)), .int (oI (o)), .int (nI (v))] (fun r w' => r = rfP pg o v ∧ w' = w) 0 0 := by
  refine Met.ofW (cc := cX7_refusalOfPegging) (maxL := 3) (ret := (some .int)) (by decide) rfl ?_
  intro p e s m args below meth cd s₁ B hml hv
  obtain ⟨rfl, hI, hP⟩ := hv
  obtain ⟨S, hr, hlocks⟩ := gPre (ws := []) B hml (C := RX7) rfl
  have hx := S.1
  have hb := S.2.1
  have hS : va_S (gA E) s.heap s.heap [] := va_S.rf
  have hl := lv_entry ([.ref (ad (b)), .int (oI (o)), .int (nI (v))]) (n := 3) (Nat.le_of_ble_eq_true rfl)
  rw [lg_entry_eq]
  generalize (lg_sl ([.ref (ad (b)), .int (oI (o)), .int (nI (v))]) ++ List.replicate (3 - (lg_sl ([.ref (ad (b)), .int (oI (o)), .int (nI (v))])).length) Slot.unset).toArray = ls at hl ⊢
  have hl : lv_has ls 3 [(0, .ref (ad (b))), (1, .int (oI (o))), (2, .int (nI (v)))] := hl
  refine lv_iload_n hx hb dX7_refusalOfPegging_0 rfl (lv_at hl 1 rfl) ?_
  refine lv_iconst (v := -1) hx hb dX7_refusalOfPegging_1 (by decide +kernel) ?_
  refine g_one S (o := o) (fun k hk => Nat.lt_trans (ho k hk) (by decide)) (tgt := 7) dX7_refusalOfPegging_2 (by decide) (fun hn_k hn => ?_) (fun hn => ?_)
  · have hk36 := ho _ hn
    have hzk := hpg _ hk36
    have hl : lv_has ls 3 [(0, .ref (ad (b))), (1, .int (nI (hn_k))), (2, .int (nI (v)))] := by rw [hn] at hl; exact hl
    refine lv_aload_n hx hb dX7_refusalOfPegging_7 rfl (lv_at hl 0 rfl) ?_
    refine g_get S hI hP uX7 rfl (fs := _) (hb_s.lt 0 (by decide)) (hb_s.2 0 (by decide)) 2 (by decide) q145 rfl (v := .ref (ad (b + 3))) rfl dX7_refusalOfPegging_8 ?_
    refine lv_iload_n hx hb dX7_refusalOfPegging_11 rfl (lv_at hl 1 rfl) ?_
    refine g_zald S hI hP (f := fun j => nI (pg j)) (hb_s.lt 3 (by decide)) (hb_s.2 3 (by decide)) (hn_k) (hk36) (by decide) dX7_refusalOfPegging_12 ?_
    refine lv_iload_n hx hb dX7_refusalOfPegging_13 rfl (lv_at hl 2 rfl) ?_
    refine g_ne S (a := pg hn_k) (b := v) (by omega) (by omega) (tgt := 21) dX7_refusalOfPegging_14 (by decide) (fun he => ?_) (fun he => ?_)
    · refine g_iconst S 0 dX7_refusalOfPegging_21 (by decide +kernel) ?_
      exact g_iret S hr hlocks hP hS (⟨by rw [hn]; simp only [rfP]; rw [if_neg he], rfl⟩) (fun _ _ => rfl) (Nat.le_of_ble_eq_true rfl) (Nat.le_of_ble_eq_true rfl) dX7_refusalOfPegging_22
    · refine g_iconst S 2 dX7_refusalOfPegging_17 (by decide +kernel) ?_
      refine lv_goto (tgt := 22) hx hb dX7_refusalOfPegging_18 (by decide) ?_
      exact g_iret S hr hlocks hP hS (⟨by rw [hn]; simp only [rfP]; rw [if_pos he], rfl⟩) (fun _ _ => rfl) (Nat.le_of_ble_eq_true rfl) (Nat.le_of_ble_eq_true rfl) dX7_refusalOfPegging_22
  · refine lv_iconst (v := -1) hx hb dX7_refusalOfPegging_5 (by decide +kernel) ?_
    exact g_iret S hr hlocks hP hS (⟨by rw [hn]; rfl, rfl⟩) (fun _ _ => rfl) (Nat.le_of_ble_eq_true rfl) (Nat.le_of_ble_eq_true rfl) dX7_refusalOfPegging_6
set_option maxHeartbeats 4000000 in
set_option maxRecDepth 100000 in
/-- is pouring refused -/
theorem mX7_refusalOfPouring (l : Launch) {E : gE} {ad : Nat → Nat} {N : Nat} {w : Nat → va_E} (b : Nat) (ht dr pg wt wr mo : Nat → Nat) (mc ni po dn : Nat) (o : Option Nat) (v : Int32) (hb_s : bkP N w b 7 (SHC E ad b ht dr pg wt wr mo mc ni po dn)) (ho : ∀ k, o = some k → k < 36) : gMi l yX7_refusalOfPouring (lw_ws yX7_refusalOfPouring cX7_refusalOfPouring 3 (some .int)) ({ frames := 0, cells := 0, slots := 0, locals := 0 } : Room) E ad N w [.ref (ad (b)), .int (oI (o)), .int (v)] (fun r w' => r = rfU o v ∧ w' = w) 0 0 := by
  refine Met.ofW (cc := cX7_refusalOfPouring) (maxL := 3) (ret := (some .int)) (by decide) rfl ?_
  intro p e s m args below meth cd s₁ B hml hv
  obtain ⟨rfl, hI, hP⟩ := hv
  obtain ⟨S, hr, hlocks⟩ := gPre (ws := []) B hml (C := RX7) rfl
  have hx := S.1
  have hb := S.2.1
  have hS : va_S (gA E) s.heap s.heap [] := va_S.rf
  have hl := lv_entry ([.ref (ad (b)), .int (oI (o)), .int (v)]) (n := 3) (Nat.le_of_ble_eq_true rfl)
  rw [lg_entry_eq]
  generalize (lg_sl ([.ref (ad (b)), .int (oI (o)), .int (v)]) ++ List.replicate (3 - (lg_sl ([.ref (ad (b)), .int (oI (o)), .int (v)])).length) Slot.unset).toArray = ls at hl ⊢
  have hl : lv_has ls 3 [(0, .ref (ad (b))), (1, .int (oI (o))), (2, .int (v))] := hl
  refine lv_iload_n hx hb dX7_refusalOfPouring_0 rfl (lv_at hl 1 rfl) ?_
  refine lv_iconst (v := -1) hx hb dX7_refusalOfPouring_1 (by decide +kernel) ?_
  refine g_one S (o := o) (fun k hk => Nat.lt_trans (ho k hk) (by decide)) (tgt := 7) dX7_refusalOfPouring_2 (by decide) (fun hn_k hn => ?_) (fun hn => ?_)
  · have hl : lv_has ls 3 [(0, .ref (ad (b))), (1, .int (nI (hn_k))), (2, .int (v))] := by rw [hn] at hl; exact hl
    refine lv_iload_n hx hb dX7_refusalOfPouring_7 rfl (lv_at hl 2 rfl) ?_
    refine g_iconst S 1 dX7_refusalOfPouring_8 (by decide +kernel) ?_
    rcases pk_ix v (n := 100) (by decide) with hv0 | hv0 | ⟨u, hu, rfl⟩
    · refine lv_icmp_lt (tgt := 18) hx hb dX7_refusalOfPouring_9 (by decide) (fun hc => ?_) (fun hc => ?_)
      · refine lv_bipush (v := -2) hx hb dX7_refusalOfPouring_18 (by decide +kernel) ?_
        refine lv_goto (tgt := 24) hx hb dX7_refusalOfPouring_20 (by decide) ?_
        exact g_iret S hr hlocks hP hS (⟨by rw [hn]; simp only [rfU, inR_neg hv0], rfl⟩) (fun _ _ => rfl) (Nat.le_of_ble_eq_true rfl) (Nat.le_of_ble_eq_true rfl) dX7_refusalOfPouring_24
      · exact absurd (Int32.lt_trans hv0 (show (0 : Int32) < nI 1 by decide +kernel)) hc
    · have hv1 : ¬ v < nI 1 := fun q => (show ¬ nI 100 < nI 1 by decide +kernel) (Int32.lt_of_le_of_lt hv0 q)
      refine lv_icmp_lt (tgt := 18) hx hb dX7_refusalOfPouring_9 (by decide) (fun hc => ?_) (fun hc => ?_)
      · exact absurd hc hv1
      · refine lv_iload_n hx hb dX7_refusalOfPouring_12 rfl (lv_at hl 2 rfl) ?_
        refine g_bipush S 99 dX7_refusalOfPouring_13 (by decide +kernel) ?_
        refine lv_icmp_le (tgt := 23) hx hb dX7_refusalOfPouring_15 (by decide) (fun hc2 => ?_) (fun hc2 => ?_)
        · exact absurd (Int32.le_trans hv0 hc2) (by decide +kernel)
        · refine lv_bipush (v := -2) hx hb dX7_refusalOfPouring_18 (by decide +kernel) ?_
          refine lv_goto (tgt := 24) hx hb dX7_refusalOfPouring_20 (by decide) ?_
          exact g_iret S hr hlocks hP hS (⟨by rw [hn]; simp only [rfU, inR_big hv0], rfl⟩) (fun _ _ => rfl) (Nat.le_of_ble_eq_true rfl) (Nat.le_of_ble_eq_true rfl) dX7_refusalOfPouring_24
    · refine g_lt S (a := u) (b := 1) (by omega) (by omega) (tgt := 18) dX7_refusalOfPouring_9 (by decide) (fun hc => ?_) (fun hc => ?_)
      · refine lv_bipush (v := -2) hx hb dX7_refusalOfPouring_18 (by decide +kernel) ?_
        refine lv_goto (tgt := 24) hx hb dX7_refusalOfPouring_20 (by decide) ?_
        exact g_iret S hr hlocks hP hS (⟨by rw [hn]; simp only [rfU, inR_nI hu (by decide : 100 < 2 ^ 31)]; rw [if_pos (by omega)], rfl⟩) (fun _ _ => rfl) (Nat.le_of_ble_eq_true rfl) (Nat.le_of_ble_eq_true rfl) dX7_refusalOfPouring_24
      · refine lv_iload_n hx hb dX7_refusalOfPouring_12 rfl (lv_at hl 2 rfl) ?_
        refine g_bipush S 99 dX7_refusalOfPouring_13 (by decide +kernel) ?_
        refine g_le S (a := u) (b := 99) (by omega) (by omega) (tgt := 23) dX7_refusalOfPouring_15 (by decide) (fun hc2 => ?_) (fun hc2 => ?_)
        · refine g_iconst S 0 dX7_refusalOfPouring_23 (by decide +kernel) ?_
          exact g_iret S hr hlocks hP hS (⟨by rw [hn]; simp only [rfU, inR_nI hu (by decide : 100 < 2 ^ 31)]; rw [if_neg (by omega)], rfl⟩) (fun _ _ => rfl) (Nat.le_of_ble_eq_true rfl) (Nat.le_of_ble_eq_true rfl) dX7_refusalOfPouring_24
        · omega
  · refine lv_iconst (v := -1) hx hb dX7_refusalOfPouring_5 (by decide +kernel) ?_
    exact g_iret S hr hlocks hP hS (⟨by rw [hn]; rfl, rfl⟩) (fun _ _ => rfl) (Nat.le_of_ble_eq_true rfl) (Nat.le_of_ble_eq_true rfl) dX7_refusalOfPouring_6
set_option maxHeartbeats 4000000 in
set_option maxRecDepth 100000 in
/-- is a moth refused -/
theorem mX7_refusalOfMoth (l : Launch) {E : gE} {ad : Nat → Nat} {N : Nat} {w : Nat → va_E} (b : Nat) (ht dr pg wt wr mo : Nat → Nat) (mc ni po dn : Nat) (o : Option Nat) (hb_s : bkP N w b 7 (SHC E ad b ht dr pg wt wr mo mc ni po dn)) (ho : ∀ k, o = some k → k < 36) (hwr : ∀ k, k < 36 → wr k ≤ 3) (hm : mc ≤ 4) (hmo : ∀ k, k < mc → mo k < 36) : gMi l yX7_refusalOfMoth (lw_ws yX7_refusalOfMoth cX7_refusalOfMoth 2 (some .int)) ({ frames := 1, cells := 0, slots := 0, locals := 22 } : Room) E ad N w [.ref (ad (b)), .int (oI (o))] (fun r w' => r = rfM wr mo mc o ∧ w' = w) 0 0 := by
  refine Met.ofW (cc := cX7_refusalOfMoth) (maxL := 2) (ret := (some .int)) (by decide) rfl ?_
  intro p e s m args below meth cd s₁ B hml hv
  obtain ⟨rfl, hI, hP⟩ := hv
  obtain ⟨S, hr, hlocks⟩ := gPre (ws := []) B hml (C := RX7) rfl
  have hx := S.1
  have hb := S.2.1
  have hS : va_S (gA E) s.heap s.heap [] := va_S.rf
  have hl := lv_entry ([.ref (ad (b)), .int (oI (o))]) (n := 2) (Nat.le_of_ble_eq_true rfl)
  rw [lg_entry_eq]
  generalize (lg_sl ([.ref (ad (b)), .int (oI (o))]) ++ List.replicate (2 - (lg_sl ([.ref (ad (b)), .int (oI (o))])).length) Slot.unset).toArray = ls at hl ⊢
  have hl : lv_has ls 2 [(0, .ref (ad (b))), (1, .int (oI (o)))] := hl
  refine lv_iload_n hx hb dX7_refusalOfMoth_0 rfl (lv_at hl 1 rfl) ?_
  refine lv_iconst (v := -1) hx hb dX7_refusalOfMoth_1 (by decide +kernel) ?_
  refine g_one S (o := o) (fun k hk => Nat.lt_trans (ho k hk) (by decide)) (tgt := 7) dX7_refusalOfMoth_2 (by decide) (fun hn_k hn => ?_) (fun hn => ?_)
  · have hk36 := ho _ hn
    have hl : lv_has ls 2 [(0, .ref (ad (b))), (1, .int (nI (hn_k)))] := by rw [hn] at hl; exact hl
    refine lv_aload_n hx hb dX7_refusalOfMoth_7 rfl (lv_at hl 0 rfl) ?_
    refine g_get S hI hP uX7 rfl (fs := _) (hb_s.lt 0 (by decide)) (hb_s.2 0 (by decide)) 6 (by decide) q153 rfl (v := .int (nI (mc))) rfl dX7_refusalOfMoth_8 ?_
    refine g_iconst S 4 dX7_refusalOfMoth_11 (by decide +kernel) ?_
    refine g_lt S (a := mc) (b := 4) (by omega) (by omega) (tgt := 17) dX7_refusalOfMoth_12 (by decide) (fun hc => ?_) (fun hc => ?_)
    · refine lv_aload_n hx hb dX7_refusalOfMoth_17 rfl (lv_at hl 0 rfl) ?_
      refine lv_iload_n hx hb dX7_refusalOfMoth_18 rfl (lv_at hl 1 rfl) ?_
      refine g_roi (g_runV S hI hP hS (k := 1) (As := [.int (nI (hn_k))]) (rest := []) (mX7_hasHole l b ht dr pg wt wr mo mc ni po dn hn_k hb_s hk36 (hwr _ hk36)) q505 q506 q507 q83 q508 rfl rfl (by decide +kernel) ⟨Nat.le_of_ble_eq_true rfl, Nat.le_of_ble_eq_true rfl⟩ rfl (hb_s.lt 0 (by decide)) (hb_s.2 0 (by decide)) rfl hl.1 rfl (Nat.le_of_ble_eq_true rfl) ⟨(Nat.le_of_ble_eq_true rfl), (Nat.le_of_ble_eq_true rfl)⟩ dX7_refusalOfMoth_19) hS (fun H locs hP hS => ?_)
      refine g_beq S (b := decide (3 ≤ wr hn_k)) (tgt := 27) dX7_refusalOfMoth_22 (by decide) (fun hh => ?_) (fun hh => ?_)
      · have hh2 : ¬ 3 ≤ wr hn_k := of_decide_eq_false hh
        refine lv_aload_n hx hb dX7_refusalOfMoth_27 rfl (lv_at hl 0 rfl) ?_
        refine lv_iload_n hx hb dX7_refusalOfMoth_28 rfl (lv_at hl 1 rfl) ?_
        refine g_roi (g_runV S hI hP hS (k := 1) (As := [.int (nI (hn_k))]) (rest := []) (mX7_mothOn l b ht dr pg wt wr mo mc ni po dn hn_k hb_s hk36 hm hmo) q509 q510 q511 q83 q512 rfl rfl (by decide +kernel) ⟨Nat.le_of_ble_eq_true rfl, Nat.le_of_ble_eq_true rfl⟩ rfl (hb_s.lt 0 (by decide)) (hb_s.2 0 (by decide)) rfl hl.1 rfl (Nat.le_of_ble_eq_true rfl) ⟨(Nat.le_of_ble_eq_true rfl), (Nat.le_of_ble_eq_true rfl)⟩ dX7_refusalOfMoth_29) hS (fun H locs hP hS => ?_)
        refine lv_iconst (v := -1) hx hb dX7_refusalOfMoth_32 (by decide +kernel) ?_
        refine g_oeq S (o := fstN (fun j => mo j == hn_k) mc) (fun k hk => by have := fstN_lt hk; omega) (tgt := 40) dX7_refusalOfMoth_33 (by decide) (fun hq => ?_) (fun hq_k hq => ?_)
        · refine g_iconst S 0 dX7_refusalOfMoth_40 (by decide +kernel) ?_
          exact g_iret S hr hlocks hP hS (⟨by rw [hn]; simp only [rfM, hq]; rw [if_neg (by omega), if_neg hh2], rfl⟩) (fun _ _ => rfl) (Nat.le_of_ble_eq_true rfl) (Nat.le_of_ble_eq_true rfl) dX7_refusalOfMoth_41
        · refine g_iconst S 5 dX7_refusalOfMoth_36 (by decide +kernel) ?_
          refine lv_goto (tgt := 41) hx hb dX7_refusalOfMoth_37 (by decide) ?_
          exact g_iret S hr hlocks hP hS (⟨by rw [hn]; simp only [rfM, hq]; rw [if_neg (by omega), if_neg hh2], rfl⟩) (fun _ _ => rfl) (Nat.le_of_ble_eq_true rfl) (Nat.le_of_ble_eq_true rfl) dX7_refusalOfMoth_41
      · have hh2 : 3 ≤ wr hn_k := of_decide_eq_true hh
        refine g_iconst S 3 dX7_refusalOfMoth_25 (by decide +kernel) ?_
        exact g_iret S hr hlocks hP hS (⟨by rw [hn]; simp only [rfM]; rw [if_neg (by omega), if_pos hh2], rfl⟩) (fun _ _ => rfl) (Nat.le_of_ble_eq_true rfl) (Nat.le_of_ble_eq_true rfl) dX7_refusalOfMoth_26
    · refine g_iconst S 1 dX7_refusalOfMoth_15 (by decide +kernel) ?_
      exact g_iret S hr hlocks hP hS (⟨by rw [hn]; simp only [rfM]; rw [if_pos hc], rfl⟩) (fun _ _ => rfl) (Nat.le_of_ble_eq_true rfl) (Nat.le_of_ble_eq_true rfl) dX7_refusalOfMoth_16
  · refine lv_iconst (v := -1) hx hb dX7_refusalOfMoth_5 (by decide +kernel) ?_
    exact g_iret S hr hlocks hP hS (⟨by rw [hn]; rfl, rfl⟩) (fun _ _ => rfl) (Nat.le_of_ble_eq_true rfl) (Nat.le_of_ble_eq_true rfl) dX7_refusalOfMoth_6
set_option maxHeartbeats 4000000 in
set_option maxRecDepth 100000 in
/-- is a patch refused -/
theorem mX7_refusalOfPatch (l : Launch) {E : gE} {ad : Nat → Nat} {N : Nat} {w : Nat → va_E} (b : Nat) (ht dr pg wt wr mo : Nat → Nat) (mc ni po dn : Nat) (o : Option Nat) (hb_s : bkP N w b 7 (SHC E ad b ht dr pg wt wr mo mc ni po dn)) (ho : ∀ k, o = some k → k < 36) (hwr : ∀ k, k < 36 → wr k ≤ 3) (hm : mc ≤ 4) (hmo : ∀ k, k < mc → mo k < 36) : gMi l yX7_refusalOfPatch (lw_ws yX7_refusalOfPatch cX7_refusalOfPatch 2 (some .int)) ({ frames := 1, cells := 0, slots := 0, locals := 22 } : Room) E ad N w [.ref (ad (b)), .int (oI (o))] (fun r w' => r = rfC wr mo mc o ∧ w' = w) 0 0 := by
  refine Met.ofW (cc := cX7_refusalOfPatch) (maxL := 2) (ret := (some .int)) (by decide) rfl ?_
  intro p e s m args below meth cd s₁ B hml hv
  obtain ⟨rfl, hI, hP⟩ := hv
  obtain ⟨S, hr, hlocks⟩ := gPre (ws := []) B hml (C := RX7) rfl
  have hx := S.1
  have hb := S.2.1
  have hS : va_S (gA E) s.heap s.heap [] := va_S.rf
  have hl := lv_entry ([.ref (ad (b)), .int (oI (o))]) (n := 2) (Nat.le_of_ble_eq_true rfl)
  rw [lg_entry_eq]
  generalize (lg_sl ([.ref (ad (b)), .int (oI (o))]) ++ List.replicate (2 - (lg_sl ([.ref (ad (b)), .int (oI (o))])).length) Slot.unset).toArray = ls at hl ⊢
  have hl : lv_has ls 2 [(0, .ref (ad (b))), (1, .int (oI (o)))] := hl
  refine lv_iload_n hx hb dX7_refusalOfPatch_0 rfl (lv_at hl 1 rfl) ?_
  refine lv_iconst (v := -1) hx hb dX7_refusalOfPatch_1 (by decide +kernel) ?_
  refine g_one S (o := o) (fun k hk => Nat.lt_trans (ho k hk) (by decide)) (tgt := 7) dX7_refusalOfPatch_2 (by decide) (fun hn_k hn => ?_) (fun hn => ?_)
  · have hk36 := ho _ hn
    have hwk := hwr _ hk36
    have hl : lv_has ls 2 [(0, .ref (ad (b))), (1, .int (nI (hn_k)))] := by rw [hn] at hl; exact hl
    refine lv_aload_n hx hb dX7_refusalOfPatch_7 rfl (lv_at hl 0 rfl) ?_
    refine lv_iload_n hx hb dX7_refusalOfPatch_8 rfl (lv_at hl 1 rfl) ?_
    refine g_roi (g_runV S hI hP hS (k := 1) (As := [.int (nI (hn_k))]) (rest := []) (mX7_mothOn l b ht dr pg wt wr mo mc ni po dn hn_k hb_s hk36 hm hmo) q509 q510 q511 q83 q512 rfl rfl (by decide +kernel) ⟨Nat.le_of_ble_eq_true rfl, Nat.le_of_ble_eq_true rfl⟩ rfl (hb_s.lt 0 (by decide)) (hb_s.2 0 (by decide)) rfl hl.1 rfl (Nat.le_of_ble_eq_true rfl) ⟨(Nat.le_of_ble_eq_true rfl), (Nat.le_of_ble_eq_true rfl)⟩ dX7_refusalOfPatch_9) hS (fun H locs hP hS => ?_)
    refine lv_iconst (v := -1) hx hb dX7_refusalOfPatch_12 (by decide +kernel) ?_
    refine g_oeq S (o := fstN (fun j => mo j == hn_k) mc) (fun k hk => by have := fstN_lt hk; omega) (tgt := 18) dX7_refusalOfPatch_13 (by decide) (fun hq => ?_) (fun hq_k hq => ?_)
    · refine lv_aload_n hx hb dX7_refusalOfPatch_18 rfl (lv_at hl 0 rfl) ?_
      refine g_get S hI hP uX7 rfl (fs := _) (hb_s.lt 0 (by decide)) (hb_s.2 0 (by decide)) 4 (by decide) q149 rfl (v := .ref (ad (b + 5))) rfl dX7_refusalOfPatch_19 ?_
      refine lv_iload_n hx hb dX7_refusalOfPatch_22 rfl (lv_at hl 1 rfl) ?_
      refine g_iald S hI hP (f := fun j => nI (wr j)) (hb_s.lt 5 (by decide)) (hb_s.2 5 (by decide)) (hn_k) (hk36) (by decide) dX7_refusalOfPatch_23 ?_
      refine g_ifne S (a := wr hn_k) (by omega) (tgt := 31) dX7_refusalOfPatch_24 (by decide) (fun hz => ?_) (fun hz => ?_)
      · refine g_iconst S 0 dX7_refusalOfPatch_31 (by decide +kernel) ?_
        exact g_iret S hr hlocks hP hS (⟨by rw [hn]; simp only [rfC, hq]; rw [if_neg (by omega)], rfl⟩) (fun _ _ => rfl) (Nat.le_of_ble_eq_true rfl) (Nat.le_of_ble_eq_true rfl) dX7_refusalOfPatch_32
      · refine g_iconst S 4 dX7_refusalOfPatch_27 (by decide +kernel) ?_
        refine lv_goto (tgt := 32) hx hb dX7_refusalOfPatch_28 (by decide) ?_
        exact g_iret S hr hlocks hP hS (⟨by rw [hn]; simp only [rfC, hq]; rw [if_pos hz], rfl⟩) (fun _ _ => rfl) (Nat.le_of_ble_eq_true rfl) (Nat.le_of_ble_eq_true rfl) dX7_refusalOfPatch_32
    · refine g_iconst S 5 dX7_refusalOfPatch_16 (by decide +kernel) ?_
      exact g_iret S hr hlocks hP hS (⟨by rw [hn]; simp only [rfC, hq], rfl⟩) (fun _ _ => rfl) (Nat.le_of_ble_eq_true rfl) (Nat.le_of_ble_eq_true rfl) dX7_refusalOfPatch_17
  · refine lv_iconst (v := -1) hx hb dX7_refusalOfPatch_5 (by decide +kernel) ?_
    exact g_iret S hr hlocks hP hS (⟨by rw [hn]; rfl, rfl⟩) (fun _ _ => rfl) (Nat.le_of_ble_eq_true rfl) (Nat.le_of_ble_eq_true rfl) dX7_refusalOfPatch_6
set_option maxHeartbeats 4000000 in
set_option maxRecDepth 100000 in
/-- a sheet becomes another -/
theorem mX7_copyFrom (l : Launch) {E : gE} {ad : Nat → Nat} {N : Nat} {w : Nat → va_E} (b a : Nat) (ht dr pg wt wr mo : Nat → Nat) (mc ni po dn : Nat) (ht2 dr2 pg2 wt2 wr2 mo2 : Nat → Nat) (mc2 ni2 po2 dn2 : Nat) (hb_s : bkP N w b 7 (SHC E ad b ht dr pg wt wr mo mc ni po dn)) (hb_o : bkP N w a 7 (SHC E ad a ht2 dr2 pg2 wt2 wr2 mo2 mc2 ni2 po2 dn2)) (hab : a + 7 ≤ b ∨ b + 7 ≤ a) (hpg2 : ∀ k, k < 36 → pg2 k ≤ 1) : gMv l yX7_copyFrom (lw_ws yX7_copyFrom cX7_copyFrom 3 none) ({ frames := 1, cells := 0, slots := 0, locals := 25 } : Room) E ad N w [.ref (ad (b)), .ref (ad (a))] (fun w' => bkP N w' b 7 (SHC E ad b (fil 36 ht2 ht) dr (fil 36 pg2 pg) (fil 36 wt2 wt) (fil 36 wr2 wr) (fil 4 mo2 mo) mc2 ni2 po2 dn2) ∧ gFr (gIn b 7) w w') 0 0 := by
  refine Met.ofW (cc := cX7_copyFrom) (maxL := 3) (ret := none) (by decide) rfl ?_
  intro p e s m args below meth cd s₁ B hml hv
  obtain ⟨rfl, hI, hP⟩ := hv
  obtain ⟨S, hr, hlocks⟩ := gPre (ws := []) B hml (C := RX7) rfl
  have hx := S.1
  have hb := S.2.1
  have hS : va_S (gA E) s.heap s.heap [] := va_S.rf
  have hfr : gFr (gIn b 7) w w := gFr.rf
  have hl := lv_entry ([.ref (ad (b)), .ref (ad (a))]) (n := 3) (Nat.le_of_ble_eq_true rfl)
  rw [lg_entry_eq]
  generalize (lg_sl ([.ref (ad (b)), .ref (ad (a))]) ++ List.replicate (3 - (lg_sl ([.ref (ad (b)), .ref (ad (a))])).length) Slot.unset).toArray = ls at hl ⊢
  have hl : lv_has ls 3 [(0, .ref (ad (b))), (1, .ref (ad (a)))] := hl
  refine lv_aload_n hx hb dX7_copyFrom_0 rfl (lv_at hl 1 rfl) ?_
  refine g_get S hI hP uX7 rfl (fs := _) (hb_o.lt 0 (by decide)) (hb_o.2 0 (by decide)) 0 (by decide) q140 rfl (v := .ref (ad (a + 1))) rfl dX7_copyFrom_1 ?_
  refine g_iconst S 0 dX7_copyFrom_4 (by decide +kernel) ?_
  refine lv_aload_n hx hb dX7_copyFrom_5 rfl (lv_at hl 0 rfl) ?_
  refine g_get S hI hP uX7 rfl (fs := _) (hb_s.lt 0 (by decide)) (hb_s.2 0 (by decide)) 0 (by decide) q140 rfl (v := .ref (ad (b + 1))) rfl dX7_copyFrom_6 ?_
  refine g_iconst S 0 dX7_copyFrom_9 (by decide +kernel) ?_
  refine g_bipush S 36 dX7_copyFrom_10 (by decide +kernel) ?_
  refine g_copy S hl.1 hI hP hS (t := 0) (k := 36) (hb_o.lt 1 (by decide)) (hb_o.2 1 (by decide)) (hb_s.lt 1 (by decide)) (hb_s.2 1 (by decide)) rfl rfl (by decide) (by decide) (by decide) (fun _ _ => rfl) q648 q650 q649 q111 (Nat.le_of_ble_eq_true rfl) (Nat.le_of_ble_eq_true rfl) dX7_copyFrom_12 (fun H locs hP hS => ?_)
  have hP : gP E ad N (va_up _ (b + 1) (SHC E ad b (fil 36 ht2 ht) dr pg wt wr mo mc ni po dn 1)) H := hP
  have hb1 : bkP N (va_up _ (b + 1) (SHC E ad b (fil 36 ht2 ht) dr pg wt wr mo mc ni po dn 1)) b 7 (SHC E ad b (fil 36 ht2 ht) dr pg wt wr mo mc ni po dn) := SH_setA0 hb_s _
  have hb2 := hb_o.keep (p := b + 1) (e := SHC E ad b (fil 36 ht2 ht) dr pg wt wr mo mc ni po dn 1) (by omega)
  have hfr := hfr.up (p := b + 1) (e := SHC E ad b (fil 36 ht2 ht) dr pg wt wr mo mc ni po dn 1) (by show _ ∧ _; omega)
  refine lv_aload_n hx hb dX7_copyFrom_15 rfl (lv_at hl 1 rfl) ?_
  refine g_get S hI hP uX7 rfl (fs := _) (hb2.lt 0 (by decide)) (hb2.2 0 (by decide)) 3 (by decide) q147 rfl (v := .ref (ad (a + 4))) rfl dX7_copyFrom_16 ?_
  refine g_iconst S 0 dX7_copyFrom_19 (by decide +kernel) ?_
  refine lv_aload_n hx hb dX7_copyFrom_20 rfl (lv_at hl 0 rfl) ?_
  refine g_get S hI hP uX7 rfl (fs := _) (hb1.lt 0 (by decide)) (hb1.2 0 (by decide)) 3 (by decide) q147 rfl (v := .ref (ad (b + 4))) rfl dX7_copyFrom_21 ?_
  refine g_iconst S 0 dX7_copyFrom_24 (by decide +kernel) ?_
  refine g_bipush S 36 dX7_copyFrom_25 (by decide +kernel) ?_
  refine g_copy S hl.1 hI hP hS (t := 0) (k := 36) (hb2.lt 4 (by decide)) (hb2.2 4 (by decide)) (hb1.lt 4 (by decide)) (hb1.2 4 (by decide)) rfl rfl (by decide) (by decide) (by decide) (fun _ _ => rfl) q648 q650 q649 q111 (Nat.le_of_ble_eq_true rfl) (Nat.le_of_ble_eq_true rfl) dX7_copyFrom_27 (fun H locs hP hS => ?_)
  have hP : gP E ad N (va_up _ (b + 4) (SHC E ad b (fil 36 ht2 ht) dr pg (fil 36 wt2 wt) wr mo mc ni po dn 4)) H := hP
  have hb3 : bkP N (va_up _ (b + 4) (SHC E ad b (fil 36 ht2 ht) dr pg (fil 36 wt2 wt) wr mo mc ni po dn 4)) b 7 (SHC E ad b (fil 36 ht2 ht) dr pg (fil 36 wt2 wt) wr mo mc ni po dn) := SH_setA3 hb1 _
  have hb4 := hb2.keep (p := b + 4) (e := SHC E ad b (fil 36 ht2 ht) dr pg (fil 36 wt2 wt) wr mo mc ni po dn 4) (by omega)
  have hfr := hfr.up (p := b + 4) (e := SHC E ad b (fil 36 ht2 ht) dr pg (fil 36 wt2 wt) wr mo mc ni po dn 4) (by show _ ∧ _; omega)
  refine lv_aload_n hx hb dX7_copyFrom_30 rfl (lv_at hl 1 rfl) ?_
  refine g_get S hI hP uX7 rfl (fs := _) (hb4.lt 0 (by decide)) (hb4.2 0 (by decide)) 4 (by decide) q149 rfl (v := .ref (ad (a + 5))) rfl dX7_copyFrom_31 ?_
  refine g_iconst S 0 dX7_copyFrom_34 (by decide +kernel) ?_
  refine lv_aload_n hx hb dX7_copyFrom_35 rfl (lv_at hl 0 rfl) ?_
  refine g_get S hI hP uX7 rfl (fs := _) (hb3.lt 0 (by decide)) (hb3.2 0 (by decide)) 4 (by decide) q149 rfl (v := .ref (ad (b + 5))) rfl dX7_copyFrom_36 ?_
  refine g_iconst S 0 dX7_copyFrom_39 (by decide +kernel) ?_
  refine g_bipush S 36 dX7_copyFrom_40 (by decide +kernel) ?_
  refine g_copy S hl.1 hI hP hS (t := 0) (k := 36) (hb4.lt 5 (by decide)) (hb4.2 5 (by decide)) (hb3.lt 5 (by decide)) (hb3.2 5 (by decide)) rfl rfl (by decide) (by decide) (by decide) (fun _ _ => rfl) q648 q650 q649 q111 (Nat.le_of_ble_eq_true rfl) (Nat.le_of_ble_eq_true rfl) dX7_copyFrom_42 (fun H locs hP hS => ?_)
  have hP : gP E ad N (va_up _ (b + 5) (SHC E ad b (fil 36 ht2 ht) dr pg (fil 36 wt2 wt) (fil 36 wr2 wr) mo mc ni po dn 5)) H := hP
  have hb5 : bkP N (va_up _ (b + 5) (SHC E ad b (fil 36 ht2 ht) dr pg (fil 36 wt2 wt) (fil 36 wr2 wr) mo mc ni po dn 5)) b 7 (SHC E ad b (fil 36 ht2 ht) dr pg (fil 36 wt2 wt) (fil 36 wr2 wr) mo mc ni po dn) := SH_setA4 hb3 _
  have hb6 := hb4.keep (p := b + 5) (e := SHC E ad b (fil 36 ht2 ht) dr pg (fil 36 wt2 wt) (fil 36 wr2 wr) mo mc ni po dn 5) (by omega)
  have hfr := hfr.up (p := b + 5) (e := SHC E ad b (fil 36 ht2 ht) dr pg (fil 36 wt2 wt) (fil 36 wr2 wr) mo mc ni po dn 5) (by show _ ∧ _; omega)
  refine lv_aload_n hx hb dX7_copyFrom_45 rfl (lv_at hl 1 rfl) ?_
  refine g_get S hI hP uX7 rfl (fs := _) (hb6.lt 0 (by decide)) (hb6.2 0 (by decide)) 5 (by decide) q151 rfl (v := .ref (ad (a + 6))) rfl dX7_copyFrom_46 ?_
  refine g_iconst S 0 dX7_copyFrom_49 (by decide +kernel) ?_
  refine lv_aload_n hx hb dX7_copyFrom_50 rfl (lv_at hl 0 rfl) ?_
  refine g_get S hI hP uX7 rfl (fs := _) (hb5.lt 0 (by decide)) (hb5.2 0 (by decide)) 5 (by decide) q151 rfl (v := .ref (ad (b + 6))) rfl dX7_copyFrom_51 ?_
  refine g_iconst S 0 dX7_copyFrom_54 (by decide +kernel) ?_
  refine g_iconst S 4 dX7_copyFrom_55 (by decide +kernel) ?_
  refine g_copy S hl.1 hI hP hS (t := 0) (k := 4) (hb6.lt 6 (by decide)) (hb6.2 6 (by decide)) (hb5.lt 6 (by decide)) (hb5.2 6 (by decide)) rfl rfl (by decide) (by decide) (by decide) (fun _ _ => rfl) q648 q650 q649 q111 (Nat.le_of_ble_eq_true rfl) (Nat.le_of_ble_eq_true rfl) dX7_copyFrom_56 (fun H locs hP hS => ?_)
  have hP : gP E ad N (va_up _ (b + 6) (SHC E ad b (fil 36 ht2 ht) dr pg (fil 36 wt2 wt) (fil 36 wr2 wr) (fil 4 mo2 mo) mc ni po dn 6)) H := hP
  have hb7 : bkP N (va_up _ (b + 6) (SHC E ad b (fil 36 ht2 ht) dr pg (fil 36 wt2 wt) (fil 36 wr2 wr) (fil 4 mo2 mo) mc ni po dn 6)) b 7 (SHC E ad b (fil 36 ht2 ht) dr pg (fil 36 wt2 wt) (fil 36 wr2 wr) (fil 4 mo2 mo) mc ni po dn) := SH_setA5 hb5 _
  have hb8 := hb6.keep (p := b + 6) (e := SHC E ad b (fil 36 ht2 ht) dr pg (fil 36 wt2 wt) (fil 36 wr2 wr) (fil 4 mo2 mo) mc ni po dn 6) (by omega)
  have hfr := hfr.up (p := b + 6) (e := SHC E ad b (fil 36 ht2 ht) dr pg (fil 36 wt2 wt) (fil 36 wr2 wr) (fil 4 mo2 mo) mc ni po dn 6) (by show _ ∧ _; omega)
  refine g_iconst S 0 dX7_copyFrom_59 (by decide +kernel) ?_
  refine lv_istore_n (lv' := [(2, .int (nI (0))), (0, .ref (ad (b))), (1, .ref (ad (a)))]) hx hb dX7_copyFrom_60 rfl hl (by decide) rfl (fun ls hl => ?_)
  rw [show SHC E ad b (fil 36 ht2 ht) dr pg (fil 36 wt2 wt) (fil 36 wr2 wr) (fil 4 mo2 mo) mc ni po dn = SHC E ad b (fil 36 ht2 ht) dr (fil 0 pg2 pg) (fil 36 wt2 wt) (fil 36 wr2 wr) (fil 4 mo2 mo) mc ni po dn by rw [fil_0]] at hb7 hb8 hP hfr
  have loop9 : ∀ (n : Nat) (i : Nat), 36 - i < n → (i ≤ 36) → ∀ (w1 : Nat → va_E) (H : Heap) (locs : List Loc), gP E ad N w1 H → va_S (gA E) s.heap H locs → bkP N w1 b 7 (SHC E ad b (fil 36 ht2 ht) dr (fil i pg2 pg) (fil 36 wt2 wt) (fil 36 wr2 wr) (fil 4 mo2 mo) mc ni po dn) → bkP N w1 a 7 (SHC E ad a ht2 dr2 pg2 wt2 wr2 mo2 mc2 ni2 po2 dn2) → gFr (gIn b 7) w w1 → ∀ (ls : Array Slot), lv_has ls 3 [(2, .int (nI (i))), (0, .ref (ad (b))), (1, .ref (ad (a)))] → W p l e (headSpec (lw_ws yX7_copyFrom cX7_copyFrom 3 none) ({ frames := 1, cells := 0, slots := 0, locals := 25 } : Room)).room s m ([.ref (ad (b)), .ref (ad (a))] : List Value).toArray below meth cd H locs 0 0 (MQ below (va_Qv (fun w' => bkP N w' b 7 (SHC E ad b (fil 36 ht2 ht) dr (fil 36 pg2 pg) (fil 36 wt2 wt) (fil 36 wr2 wr) (fil 4 mo2 mo) mc2 ni2 po2 dn2) ∧ gFr (gIn b 7) w w') (gB E ad N) (gA E)) ([.ref (ad (b)), .ref (ad (a))] : List Value).toArray s 0 0 (gA E)) (F0 m 61 ls []) := by
    intro n
    induction n with
    | zero => intro i hmeas; omega
    | succ n ih_loop9 =>
      intro i hmeas hi w1 H locs hP hS hb10 hb11 hfr ls hl
      refine lv_iload_n hx hb dX7_copyFrom_61 rfl (lv_at hl 0 rfl) ?_
      refine g_bipush S 36 dX7_copyFrom_62 (by decide +kernel) ?_
      refine g_ge S (a := i) (b := 36) (by omega) (by omega) (tgt := 85) dX7_copyFrom_64 (by decide) (fun h => ?_) (fun h => ?_)
      · have e : i = 36 := by omega
        rw [e] at hb10
        refine lv_aload_n hx hb dX7_copyFrom_85 rfl (lv_at hl 1 rfl) ?_
        refine lv_aload_n hx hb dX7_copyFrom_86 rfl (lv_at hl 2 rfl) ?_
        refine g_get S hI hP uX7 rfl (fs := _) (hb11.lt 0 (by decide)) (hb11.2 0 (by decide)) 6 (by decide) q153 rfl (v := .int (nI (mc2))) rfl dX7_copyFrom_87 ?_
        refine g_put S hI hP hS uX7 rfl tyX7 tyX7_ok nmX7 (fs := _) (hb10.lt 0 (by decide)) (hb10.2 0 (by decide)) 6 (by decide) q153 rfl rfl (v := .int (nI (mc2))) rfl rfl (Nat.le_of_ble_eq_true rfl) dX7_copyFrom_90 (fun H locs hP hS => ?_)
        have hP : gP E ad N (va_up _ (b) (SHC E ad b (fil 36 ht2 ht) dr (fil 36 pg2 pg) (fil 36 wt2 wt) (fil 36 wr2 wr) (fil 4 mo2 mo) mc2 ni po dn 0)) H := hP
        have hb12 : bkP N (va_up _ (b) (SHC E ad b (fil 36 ht2 ht) dr (fil 36 pg2 pg) (fil 36 wt2 wt) (fil 36 wr2 wr) (fil 4 mo2 mo) mc2 ni po dn 0)) b 7 (SHC E ad b (fil 36 ht2 ht) dr (fil 36 pg2 pg) (fil 36 wt2 wt) (fil 36 wr2 wr) (fil 4 mo2 mo) mc2 ni po dn) := SH_setO hb10 _ _ _ _
        have hb13 := hb11.keep (p := b) (e := SHC E ad b (fil 36 ht2 ht) dr (fil 36 pg2 pg) (fil 36 wt2 wt) (fil 36 wr2 wr) (fil 4 mo2 mo) mc2 ni po dn 0) (by omega)
        have hfr := hfr.up (p := b) (e := SHC E ad b (fil 36 ht2 ht) dr (fil 36 pg2 pg) (fil 36 wt2 wt) (fil 36 wr2 wr) (fil 4 mo2 mo) mc2 ni po dn 0) (by show _ ∧ _; omega)
        refine lv_aload_n hx hb dX7_copyFrom_93 rfl (lv_at hl 1 rfl) ?_
        refine lv_aload_n hx hb dX7_copyFrom_94 rfl (lv_at hl 2 rfl) ?_
        refine g_get S hI hP uX7 rfl (fs := _) (hb13.lt 0 (by decide)) (hb13.2 0 (by decide)) 7 (by decide) q155 rfl (v := .int (nI (ni2))) rfl dX7_copyFrom_95 ?_
        refine g_put S hI hP hS uX7 rfl tyX7 tyX7_ok nmX7 (fs := _) (hb12.lt 0 (by decide)) (hb12.2 0 (by decide)) 7 (by decide) q155 rfl rfl (v := .int (nI (ni2))) rfl rfl (Nat.le_of_ble_eq_true rfl) dX7_copyFrom_98 (fun H locs hP hS => ?_)
        have hP : gP E ad N (va_up _ (b) (SHC E ad b (fil 36 ht2 ht) dr (fil 36 pg2 pg) (fil 36 wt2 wt) (fil 36 wr2 wr) (fil 4 mo2 mo) mc2 ni2 po dn 0)) H := hP
        have hb14 : bkP N (va_up _ (b) (SHC E ad b (fil 36 ht2 ht) dr (fil 36 pg2 pg) (fil 36 wt2 wt) (fil 36 wr2 wr) (fil 4 mo2 mo) mc2 ni2 po dn 0)) b 7 (SHC E ad b (fil 36 ht2 ht) dr (fil 36 pg2 pg) (fil 36 wt2 wt) (fil 36 wr2 wr) (fil 4 mo2 mo) mc2 ni2 po dn) := SH_setO hb12 _ _ _ _
        have hb15 := hb13.keep (p := b) (e := SHC E ad b (fil 36 ht2 ht) dr (fil 36 pg2 pg) (fil 36 wt2 wt) (fil 36 wr2 wr) (fil 4 mo2 mo) mc2 ni2 po dn 0) (by omega)
        have hfr := hfr.up (p := b) (e := SHC E ad b (fil 36 ht2 ht) dr (fil 36 pg2 pg) (fil 36 wt2 wt) (fil 36 wr2 wr) (fil 4 mo2 mo) mc2 ni2 po dn 0) (by show _ ∧ _; omega)
        refine lv_aload_n hx hb dX7_copyFrom_101 rfl (lv_at hl 1 rfl) ?_
        refine lv_aload_n hx hb dX7_copyFrom_102 rfl (lv_at hl 2 rfl) ?_
        refine g_get S hI hP uX7 rfl (fs := _) (hb15.lt 0 (by decide)) (hb15.2 0 (by decide)) 8 (by decide) q157 rfl (v := .int (nI (po2))) rfl dX7_copyFrom_103 ?_
        refine g_put S hI hP hS uX7 rfl tyX7 tyX7_ok nmX7 (fs := _) (hb14.lt 0 (by decide)) (hb14.2 0 (by decide)) 8 (by decide) q157 rfl rfl (v := .int (nI (po2))) rfl rfl (Nat.le_of_ble_eq_true rfl) dX7_copyFrom_106 (fun H locs hP hS => ?_)
        have hP : gP E ad N (va_up _ (b) (SHC E ad b (fil 36 ht2 ht) dr (fil 36 pg2 pg) (fil 36 wt2 wt) (fil 36 wr2 wr) (fil 4 mo2 mo) mc2 ni2 po2 dn 0)) H := hP
        have hb16 : bkP N (va_up _ (b) (SHC E ad b (fil 36 ht2 ht) dr (fil 36 pg2 pg) (fil 36 wt2 wt) (fil 36 wr2 wr) (fil 4 mo2 mo) mc2 ni2 po2 dn 0)) b 7 (SHC E ad b (fil 36 ht2 ht) dr (fil 36 pg2 pg) (fil 36 wt2 wt) (fil 36 wr2 wr) (fil 4 mo2 mo) mc2 ni2 po2 dn) := SH_setO hb14 _ _ _ _
        have hb17 := hb15.keep (p := b) (e := SHC E ad b (fil 36 ht2 ht) dr (fil 36 pg2 pg) (fil 36 wt2 wt) (fil 36 wr2 wr) (fil 4 mo2 mo) mc2 ni2 po2 dn 0) (by omega)
        have hfr := hfr.up (p := b) (e := SHC E ad b (fil 36 ht2 ht) dr (fil 36 pg2 pg) (fil 36 wt2 wt) (fil 36 wr2 wr) (fil 4 mo2 mo) mc2 ni2 po2 dn 0) (by show _ ∧ _; omega)
        refine lv_aload_n hx hb dX7_copyFrom_109 rfl (lv_at hl 1 rfl) ?_
        refine lv_aload_n hx hb dX7_copyFrom_110 rfl (lv_at hl 2 rfl) ?_
        refine g_get S hI hP uX7 rfl (fs := _) (hb17.lt 0 (by decide)) (hb17.2 0 (by decide)) 9 (by decide) q159 rfl (v := .int (nI (dn2))) rfl dX7_copyFrom_111 ?_
        refine g_put S hI hP hS uX7 rfl tyX7 tyX7_ok nmX7 (fs := _) (hb16.lt 0 (by decide)) (hb16.2 0 (by decide)) 9 (by decide) q159 rfl rfl (v := .int (nI (dn2))) rfl rfl (Nat.le_of_ble_eq_true rfl) dX7_copyFrom_114 (fun H locs hP hS => ?_)
        have hP : gP E ad N (va_up _ (b) (SHC E ad b (fil 36 ht2 ht) dr (fil 36 pg2 pg) (fil 36 wt2 wt) (fil 36 wr2 wr) (fil 4 mo2 mo) mc2 ni2 po2 dn2 0)) H := hP
        have hb18 : bkP N (va_up _ (b) (SHC E ad b (fil 36 ht2 ht) dr (fil 36 pg2 pg) (fil 36 wt2 wt) (fil 36 wr2 wr) (fil 4 mo2 mo) mc2 ni2 po2 dn2 0)) b 7 (SHC E ad b (fil 36 ht2 ht) dr (fil 36 pg2 pg) (fil 36 wt2 wt) (fil 36 wr2 wr) (fil 4 mo2 mo) mc2 ni2 po2 dn2) := SH_setO hb16 _ _ _ _
        have hb19 := hb17.keep (p := b) (e := SHC E ad b (fil 36 ht2 ht) dr (fil 36 pg2 pg) (fil 36 wt2 wt) (fil 36 wr2 wr) (fil 4 mo2 mo) mc2 ni2 po2 dn2 0) (by omega)
        have hfr := hfr.up (p := b) (e := SHC E ad b (fil 36 ht2 ht) dr (fil 36 pg2 pg) (fil 36 wt2 wt) (fil 36 wr2 wr) (fil 4 mo2 mo) mc2 ni2 po2 dn2 0) (by show _ ∧ _; omega)
        exact g_vret S hr hlocks hP hS (⟨hb18, hfr⟩) (fun _ _ => rfl) (Nat.le_of_ble_eq_true rfl) (Nat.le_of_ble_eq_true rfl) dX7_copyFrom_117
      · have hpi := hpg2 i h
        refine lv_aload_n hx hb dX7_copyFrom_67 rfl (lv_at hl 1 rfl) ?_
        refine g_get S hI hP uX7 rfl (fs := _) (hb10.lt 0 (by decide)) (hb10.2 0 (by decide)) 2 (by decide) q145 rfl (v := .ref (ad (b + 3))) rfl dX7_copyFrom_68 ?_
        refine lv_iload_n hx hb dX7_copyFrom_71 rfl (lv_at hl 0 rfl) ?_
        refine lv_aload_n hx hb dX7_copyFrom_72 rfl (lv_at hl 2 rfl) ?_
        refine g_get S hI hP uX7 rfl (fs := _) (hb11.lt 0 (by decide)) (hb11.2 0 (by decide)) 2 (by decide) q145 rfl (v := .ref (ad (a + 3))) rfl dX7_copyFrom_73 ?_
        refine lv_iload_n hx hb dX7_copyFrom_76 rfl (lv_at hl 0 rfl) ?_
        refine g_zald S hI hP (f := fun j => nI (pg2 j)) (hb11.lt 3 (by decide)) (hb11.2 3 (by decide)) (i) (h) (by decide) dX7_copyFrom_77 ?_
        refine g_zastN S hI hP hS (f := fil i pg2 pg) (x := pg2 i) (hb10.lt 3 (by decide)) (hb10.2 3 (by decide)) (i) (h) (by decide) (by omega) dX7_copyFrom_78 (fun H locs hP hS => ?_)
        have hP : gP E ad N (va_up _ (b + 3) (SHC E ad b (fil 36 ht2 ht) dr (va_up (fil i pg2 pg) i (pg2 i)) (fil 36 wt2 wt) (fil 36 wr2 wr) (fil 4 mo2 mo) mc ni po dn 3)) H := hP
        have hb20 : bkP N (va_up _ (b + 3) (SHC E ad b (fil 36 ht2 ht) dr (va_up (fil i pg2 pg) i (pg2 i)) (fil 36 wt2 wt) (fil 36 wr2 wr) (fil 4 mo2 mo) mc ni po dn 3)) b 7 (SHC E ad b (fil 36 ht2 ht) dr (va_up (fil i pg2 pg) i (pg2 i)) (fil 36 wt2 wt) (fil 36 wr2 wr) (fil 4 mo2 mo) mc ni po dn) := SH_setA2 hb10 _
        have hb21 := hb11.keep (p := b + 3) (e := SHC E ad b (fil 36 ht2 ht) dr (va_up (fil i pg2 pg) i (pg2 i)) (fil 36 wt2 wt) (fil 36 wr2 wr) (fil 4 mo2 mo) mc ni po dn 3) (by omega)
        have hfr := hfr.up (p := b + 3) (e := SHC E ad b (fil 36 ht2 ht) dr (va_up (fil i pg2 pg) i (pg2 i)) (fil 36 wt2 wt) (fil 36 wr2 wr) (fil 4 mo2 mo) mc ni po dn 3) (by show _ ∧ _; omega)
        rw [fil_up i pg2 pg] at hb20 hb21 hP hfr
        refine lv_iinc (v := nI (i + 1)) (lv' := [(2, .int (nI (i + 1))), (0, .ref (ad (b))), (1, .ref (ad (a)))]) hx hb dX7_copyFrom_79 hl (k := 0) rfl (g_inc _ 1 (by decide +kernel)) (by decide) rfl (fun ls hl => ?_)
        refine lv_goto (tgt := 61) hx hb dX7_copyFrom_82 (by decide) ?_
        exact ih_loop9 (i + 1) (by omega) (by omega) _ _ _ hP hS hb20 hb21 hfr ls (lv_sub hl [0, 1, 2] rfl)
  exact loop9 (36 - (0) + 1) (0) (Nat.lt_succ_self _) (by omega) _ _ _ hP hS hb7 hb8 hfr ls (lv_sub hl [0, 1, 2] rfl)
