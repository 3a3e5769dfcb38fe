/-! THE LAW's ENTRY -/
theorem rowP_0 : rowP (mg0 36) 0 shZ := by
  refine ⟨⟨fun k hk => ?_, fun k hk => ?_, fun k hk => ?_, fun k hk => ?_, fun k hk => absurd hk (Nat.not_lt_zero _), rfl, rfl, rfl, rfl⟩, ⟨fun k hk => ?_, fun k hk => Nat.zero_le _, fun k hk => Nat.zero_le _, Nat.zero_le _, fun k hk => absurd hk (Nat.not_lt_zero _)⟩, by decide⟩
  · show mg0 36 (4 + k) = fil 36 (fun _ => 50) (fun _ => 0) k
    rw [fil_in hk]; unfold mg0; rw [if_pos (by omega)]
  · show mg0 36 (40 + k) = 0
    unfold mg0; rw [if_neg (by omega)]
  · show mg0 36 (76 + k) = 0
    unfold mg0; rw [if_neg (by omega)]
  · show mg0 36 (112 + k) = 0
    unfold mg0; rw [if_neg (by omega)]
  · show fil 36 (fun _ => 50) (fun _ => 0) k ≤ 99
    rw [fil_in hk]; decide
theorem lawD_0 : lawD 0 shZ 0 0 (fun _ => shZ) 0 shZ none none (-1) none (fun _ => 0) 0 [] (mg0 36) (fun _ => 0) (fun _ => 0) (fun _ => 0) 0 0 0 0 0 :=
  ⟨rowP_0, ⟨rfl, by decide, by decide, fun _ _ => rowP_0.2.1, fun j hj => absurd hj (Nat.not_lt_zero _)⟩, ⟨by decide, fun h => absurd h (by decide), fun _ _ => Nat.zero_le _⟩, ⟨rfl, by decide, by decide, fun h => absurd h (by decide), rfl⟩, ⟨by decide, fun _ => by show (0 : Nat) < 65536; decide⟩, ⟨rfl, by decide, rfl, fun _ _ => by show (0 : Nat) < 128; decide⟩, fun k h => by cases h⟩
section ENTRY9
variable {p : Program} {l : Launch} {e : Env} {R : Room} {s : State} {m : MethodId} {args : Array Value} {below : List Frame} {meth : Method} {c : Code} {H : Heap} {locs : List Loc} {cells slots : Nat} {Q : State → Prop}
variable {cc : ByteArray} {pc nL : Nat} {ls : Array Slot} {rest st0 : List Value} {own : String} {E : gE} {ad : Nat → Nat} {N : Nat} {w : Nat → va_E}
theorem g_newaL (S : gFix p m c cc nL s args own) (hI : gI E s s.heap) (hP : gP E ad N w H) (hS : va_S (gA E) s.heap H locs) (q1 : Cond.arrayClass (newarray.typeOf .long) ∈ lw_all) (hcells : cells + 1 ≤ R.cells) (hslots : slots + 1 ≤ R.slots) (hdg : decode cc pc = .ok (.newarray .long, 2))
    (kk : ∀ (a1 : Nat → Nat) (w1 : Nat → va_E) (H1 : Heap), gP E a1 (N + 1) w1 H1 → va_S (gA E) s.heap H1 locs → (∀ p, p < N → a1 p = ad p) → (∀ p, p < N → w1 p = w p) → w1 N = loE E (fun _ => 0) → W p l e R s m args below meth c H1 locs (cells + 1) (slots + 1) Q (F0 m (pc + 2) ls (.ref (a1 N) :: rest))) : W p l e R s m args below meth c H locs cells slots Q (F0 m pc ls (.int (nI 1) :: rest)) := by
  refine g_newa S hI hP hS 6 rfl (fun _ _ h => h) rfl q1 1 (a0 := (1, .inr (.inl (fun _ => 0)))) (fun cA => by rw [vp_cell_l]; rfl) (by decide) (by decide) hcells hslots hdg (fun q H1 hP1 hS1 => ?_)
  have h := kk (va_up ad N q) (va_up w N (loE E (fun _ => 0))) H1 hP1 hS1 (fun p hp => va_up_ne _ _ (Nat.ne_of_lt hp)) (fun p hp => va_up_ne _ _ (Nat.ne_of_lt hp)) (va_up_self _ _ _)
  rw [va_up_self] at h
  exact h
theorem g_newaD (S : gFix p m c cc nL s args own) (hI : gI E s s.heap) (hP : gP E ad N w H) (hS : va_S (gA E) s.heap H locs) (q1 : Cond.arrayClass (newarray.typeOf .double) ∈ lw_all) (hcells : cells + 1 ≤ R.cells) (hslots : slots + 1 ≤ R.slots) (hdg : decode cc pc = .ok (.newarray .double, 2))
    (kk : ∀ (a1 : Nat → Nat) (w1 : Nat → va_E) (H1 : Heap), gP E a1 (N + 1) w1 H1 → va_S (gA E) s.heap H1 locs → (∀ p, p < N → a1 p = ad p) → (∀ p, p < N → w1 p = w p) → w1 N = doE E (fun _ => 0) → W p l e R s m args below meth c H1 locs (cells + 1) (slots + 1) Q (F0 m (pc + 2) ls (.ref (a1 N) :: rest))) : W p l e R s m args below meth c H locs cells slots Q (F0 m pc ls (.int (nI 1) :: rest)) := by
  refine g_newa S hI hP hS 7 rfl (fun _ _ h => h) rfl q1 1 (a0 := (1, .inr (.inr (.inr (.inl (fun _ => 0)))))) (fun cA => by rw [vp_cell_d]; rfl) (by decide) (by decide) hcells hslots hdg (fun q H1 hP1 hS1 => ?_)
  have h := kk (va_up ad N q) (va_up w N (doE E (fun _ => 0))) H1 hP1 hS1 (fun p hp => va_up_ne _ _ (Nat.ne_of_lt hp)) (fun p hp => va_up_ne _ _ (Nat.ne_of_lt hp)) (va_up_self _ _ _)
  rw [va_up_self] at h
  exact h
set_option maxHeartbeats 4000000 in
set_option maxRecDepth 100000 in
/-- the law's entry: the two are made -/
theorem law_entry (kk : Nat → Nat) (hzv : gHv E kk) (S : gFix p m c cL_law 10 s args RL) (hI : gI E s s.heap) {d : Nat} (hP : gP E ad d w H) (hS : va_S (gA E) s.heap H locs) (hRf : 64 ≤ R.frames) (hRl : 2000 ≤ R.locals) (hRc : cells + 200 ≤ R.cells) (hRs : slots + 6000 ≤ R.slots) {sa : Nat} (hl : lv_has ls 10 [(0, .ref (sa))])
    (kk9 : ∀ (ad' : Nat → Nat) (w' : Nat → va_E) (H' : Heap) (locs' : List Loc) (cells' slots' : Nat) (ls' : Array Slot), cells' ≤ cells + 200 → slots' ≤ slots + 6000 → lawP E kk ad' (d + 130) w' d 0 → gP E ad' (d + 130) w' H' → va_S (gA E) s.heap H' locs' → lv_has ls' 10 [(5, .int (nI 0)), (0, .ref (sa)), (1, .ref (ad' (d))), (2, .ref (ad' (d + 116))), (3, .ref (ad' (d + 128))), (4, .ref (ad' (d + 129)))] → W p l e R s m args below meth c H' locs' cells' slots' Q (F0 m 28 ls' [])) :
    W p l e R s m args below meth c H locs cells slots Q (F0 m 0 ls []) := by
  have hx := S.1
  have hb := S.2.1
  refine g_newM S hI hP hS (ci := 15) uX12 rfl tyX12 tyX12_ok q123 q124 q82 (fs := [.null, .null, .null, .null, .null, .null, .null, .null, .null, .null, .int 0, .int 0, .int 0, .int 0, .int 0]) (fun j hj => by match j, hj with | 0, _ => rfl | 1, _ => rfl | 2, _ => rfl | 3, _ => rfl | 4, _ => rfl | 5, _ => rfl | 6, _ => rfl | 7, _ => rfl | 8, _ => rfl | 9, _ => rfl | 10, _ => rfl | 11, _ => rfl | 12, _ => rfl | 13, _ => rfl | 14, _ => rfl) (by omega) (by omega) dL_law_0 (fun ad1 wn1 H hP hS hadL1 hwL1 hwN1 => ?_)
  have hP : gP E ad1 (d + 1) wn1 H := hP
  refine lv_dup hx hb dL_law_3 rfl ?_
  refine g_uafv (g_runI S hI hP hS (k := 0) (b := d) (As := []) (rest := [.ref (ad1 (d))]) (mX12_init l kk hzv (d) hwN1) q125 q126 q82 q127 rfl rfl rfl (by decide +kernel) ⟨(Nat.le_trans (Nat.le_of_ble_eq_true rfl : _ ≤ 64) hRf), (Nat.le_trans (Nat.le_of_ble_eq_true rfl : _ ≤ 2000) hRl)⟩ rfl hl.1 rfl (Nat.le_of_ble_eq_true rfl) ⟨by omega, by omega⟩ dL_law_4) hS (fun ad2 N2 wn2 H locs hq hP hS => ?_)
  obtain ⟨hN2, hadL2, hwL2, hd2, hsa2, hsb2, hsc2, hsd2, hh2, hs1, hs2, hs3, hs4, hs5, hs6, hs7, hs8, hs9, hs10, hs11, hs12, hs13, ht2, hal2, hsb9⟩ := hq
  have hN2 : N2 = d + 116 := hN2
  subst hN2
  rw [show ([.ref (ad1 (d))] : List Value) = [.ref (ad2 (d))] by rw [hadL2 (d) (by omega)]]
  refine lv_astore_n (lv' := [(1, .ref (ad2 (d))), (0, .ref (sa))]) hx hb dL_law_7 rfl hl (by decide) rfl (fun ls hl => ?_)
  refine g_newM S hI hP hS (ci := 16) uX13 rfl tyX13 tyX13_ok q1781 q1782 q100 (fs := [.null, .null, .null, .null, .null, .int 0, .int 0, .int 0, .int 0, .int 0, .int 0, .int 0, .int 0, .null, .int 0, .int 0, .null, .int 0, .null, .null, .null, .int 0, .null, .int 0]) (fun j hj => by match j, hj with | 0, _ => rfl | 1, _ => rfl | 2, _ => rfl | 3, _ => rfl | 4, _ => rfl | 5, _ => rfl | 6, _ => rfl | 7, _ => rfl | 8, _ => rfl | 9, _ => rfl | 10, _ => rfl | 11, _ => rfl | 12, _ => rfl | 13, _ => rfl | 14, _ => rfl | 15, _ => rfl | 16, _ => rfl | 17, _ => rfl | 18, _ => rfl | 19, _ => rfl | 20, _ => rfl | 21, _ => rfl | 22, _ => rfl | 23, _ => rfl | _ + 24, h => exact absurd h (by omega)) (by omega) (by omega) dL_law_8 (fun ad3 wn3 H hP hS hadL3 hwL3 hwN3 => ?_)
  have hP : gP E ad3 (d + 117) wn3 H := hP
  have hl : lv_has ls 10 [(1, .ref (ad3 (d))), (0, .ref (sa))] := by rw [hadL3 (d) (by omega)]; exact hl
  refine lv_dup hx hb dL_law_11 rfl ?_
  refine g_uafv (g_runI S hI hP hS (k := 0) (b := d + 116) (As := []) (rest := [.ref (ad3 (d + 116))]) (mX13_init l (d + 116) hwN3) q1783 q1784 q100 q1785 rfl rfl rfl (by decide +kernel) ⟨(Nat.le_trans (Nat.le_of_ble_eq_true rfl : _ ≤ 64) hRf), (Nat.le_trans (Nat.le_of_ble_eq_true rfl : _ ≤ 2000) hRl)⟩ rfl hl.1 rfl (Nat.le_of_ble_eq_true rfl) ⟨by omega, by omega⟩ dL_law_12) hS (fun ad4 N4 wn4 H locs hq hP hS => ?_)
  obtain ⟨hN4, hadL4, hwL4, hm4⟩ := hq
  have hN4 : N4 = d + 128 := hN4
  subst hN4
  rw [show ([.ref (ad3 (d + 116))] : List Value) = [.ref (ad4 (d + 116))] by rw [hadL4 (d + 116) (by omega)]]
  have hl : lv_has ls 10 [(1, .ref (ad4 (d))), (0, .ref (sa))] := by rw [hadL4 (d) (by omega)]; exact hl
  refine lv_astore_n (lv' := [(2, .ref (ad4 (d + 116))), (1, .ref (ad4 (d))), (0, .ref (sa))]) hx hb dL_law_15 rfl hl (by decide) rfl (fun ls hl => ?_)
  refine g_iconst S 1 dL_law_16 (by decide +kernel) ?_
  refine g_newaL S hI hP hS q2250 (by omega) (by omega) dL_law_17 (fun ad5 wn5 H hP hS hadL5 hwL5 hwN5 => ?_)
  have hP : gP E ad5 (d + 129) wn5 H := hP
  have hl : lv_has ls 10 [(2, .ref (ad5 (d + 116))), (1, .ref (ad5 (d))), (0, .ref (sa))] := by rw [hadL5 (d + 116) (by omega), hadL5 (d) (by omega)]; exact hl
  refine lv_astore_n (lv' := [(3, .ref (ad5 (d + 128))), (2, .ref (ad5 (d + 116))), (1, .ref (ad5 (d))), (0, .ref (sa))]) hx hb dL_law_19 rfl hl (by decide) rfl (fun ls hl => ?_)
  refine g_iconst S 1 dL_law_20 (by decide +kernel) ?_
  refine g_newaD S hI hP hS q2251 (by omega) (by omega) dL_law_21 (fun ad6 wn6 H hP hS hadL6 hwL6 hwN6 => ?_)
  have hP : gP E ad6 (d + 130) wn6 H := hP
  have hl : lv_has ls 10 [(3, .ref (ad6 (d + 128))), (2, .ref (ad6 (d + 116))), (1, .ref (ad6 (d))), (0, .ref (sa))] := by rw [hadL6 (d + 128) (by omega), hadL6 (d + 116) (by omega), hadL6 (d) (by omega)]; exact hl
  refine lv_astore (lv' := [(4, .ref (ad6 (d + 129))), (3, .ref (ad6 (d + 128))), (2, .ref (ad6 (d + 116))), (1, .ref (ad6 (d))), (0, .ref (sa))]) hx hb dL_law_23 hl (by decide) rfl (fun ls hl => ?_)
  refine g_iconst S 0 dL_law_25 (by decide +kernel) ?_
  refine lv_istore (lv' := [(5, .int (nI (0))), (4, .ref (ad6 (d + 129))), (3, .ref (ad6 (d + 128))), (2, .ref (ad6 (d + 116))), (1, .ref (ad6 (d))), (0, .ref (sa))]) hx hb dL_law_26 hl (by decide) rfl (fun ls hl => ?_)
  have hA : ∀ p, p < d + 116 → ad2 p = ad6 p := fun p hp => by rw [hadL6 p (by omega), hadL5 p (by omega), hadL4 p (by omega), hadL3 p (by omega)]
  have hW : ∀ p, p < d + 116 → wn6 p = wn2 p := fun p hp => by rw [hwL6 p (by omega), hwL5 p (by omega), hwL4 p (by omega), hwL3 p (by omega)]
  have hcor : corP E ad6 (d + 130) wn6 d shZ 0 0 (fun _ => shZ) 0 shZ none none (-1) none := corP.mv (N := d + 116) (w := wn2) (ad := ad2) ⟨hd2, hsa2, hsb2, ⟨shZ, hsc2⟩, ⟨shZ, hsd2⟩, hh2⟩ (M := d + 116) (by omega) (by omega) hA (fun p a b => hW p (by omega))
  have hscr : scr E ad6 (d + 130) wn6 d := scr.mv (N := d + 116) (w := wn2) (ad := ad2) ⟨hs1, ⟨_, _, _, _, hs2⟩, ⟨_, hs3⟩, ⟨_, _, hs4⟩, hs5, ⟨_, _, hs6, fun _ _ => rfl, fun _ _ => by show (0 : Nat) < 2 ^ 30; decide⟩, ⟨_, hs7⟩, ⟨_, hs8⟩, ⟨_, _, hs9, fun _ _ => rfl, fun _ _ => by show (0 : Nat) < 2 ^ 30; decide⟩, ⟨_, _, _, _, hs10⟩, ⟨_, hs11⟩, ⟨_, hs12⟩, ⟨_, hs13⟩⟩ (M := d + 116) (by omega) (by omega) hA (fun p a b => hW p (by omega))
  have hprs : prsP E ad6 (d + 130) wn6 d kk (fun _ => 0) 0 := ⟨⟨_, _, _, _, TP_mv ht2 (M := d + 116) (by omega) (by omega) hA (fun p a b => hW p (by omega))⟩, nI 0, none, 0, fun _ => 0, fun _ => (0, none, 0), AL_mv hal2 (M := d + 116) (by omega) (by omega) hA (fun p a b => hW p (by omega)), by decide, fun _ => rfl, fun a h => (by cases h), fun j hj => absurd hj (Nat.not_lt_zero _)⟩
  have hsbT : sbT E ad6 (d + 130) wn6 (d + 114) [] := ⟨16, 0, fun _ => 0, SBR_mv hsb9 (M := d + 116) (by omega) (by omega) hA (fun p a b => hW p (by omega)), rfl⟩
  have hmd : bkP (d + 130) wn6 (d + 116) 12 (MDC E ad6 (d + 116) (mg0 36) (fun _ => 0) (fun _ => 0) (fun _ => 0) (fun _ => 0) (fun _ => 0) (fun _ => 0) (fun _ => 0) (fun _ => 0) (fun _ => 0) (fun _ => 0) 0 0 0 0 0 0 0 0 0 none 0 0 0) := ⟨by omega, fun k hk => by rw [hwL6 _ (by omega), hwL5 _ (by omega), hm4.2 k hk]; exact MD_eq2 (fun p a b => by rw [hadL6 p (by omega), hadL5 p (by omega)]) k hk⟩
  have hfo : wn6 (d + 128) = loE E (fun _ => 0) := by rw [hwL6 _ (by omega)]; exact hwN5
  exact kk9 ad6 wn6 _ _ _ _ _ (by omega) (by omega) ⟨_, _, _, _, _, _, _, _, _, _, _, _, _, _, _, _, _, _, _, _, _, _, _, _, _, _, _, _, _, _, _, _, ⟨by omega, hcor, hscr, hprs, hsbT⟩, hmd, ⟨_, hfo⟩, ⟨_, hwN6⟩, lawD_0⟩ hP hS (lv_sub hl [0, 5, 4, 3, 2, 1] rfl)
end ENTRY9
