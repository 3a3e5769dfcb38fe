section GNEWM
variable {p : Program} {l : Launch} {e : Env} {R : Room} {s : State} {m : MethodId} {args : Array Value} {below : List Frame} {meth : Method} {c : Code} {H : Heap} {locs : List Loc} {cells slots : Nat} {Q : State → Prop}
variable {cc : ByteArray} {pc nL : Nat} {ls : Array Slot} {rest st0 : List Value} {own : String} {E : gE} {ad : Nat → Nat} {N : Nat} {w : Nat → va_E}
theorem g_newM (S : gFix p m c cc nL s args own) (hI : gI E s s.heap) (hP : gP E ad N w H) (hS : va_S (gA E) s.heap H locs) {C : String} {T : u_T} {n ci index : Nat} (hin : ∀ w ∈ u_ws C T n, w ∈ lw_all) (hc : vwCl[ci]? = some (C, T, n)) (ty : Nat → FieldType) (hty : ∀ k, k < n → parseFieldDescriptor (T k).2.2.1 = some (ty k)) (q1 : Cond.classLink own index C ∈ lw_all) (q2 : Cond.instantiable C n ∈ lw_all) (q3 : Cond.initialized C ∈ lw_all) {fs : List Value} (hfs : ∀ j, j < n → defaultValue (ty j) = vp_V fs j) (hcells : cells + 1 ≤ R.cells) (hslots : slots + n ≤ R.slots) (hdg : decode cc pc = .ok (.new index, 3))
    (kk : ∀ (a1 : Nat → Nat) (w1 : Nat → va_E) (H1 : Heap), gP E a1 (N + 1) w1 H1 → va_S (gA E) s.heap H1 locs → (∀ p, p < N → a1 p = ad p) → (∀ p, p < N → w1 p = w p) → w1 N = .inr (ci, fs) → W p l e R s m args below meth c H1 locs (cells + 1) (slots + n) Q (F0 m (pc + 3) ls (.ref (a1 N) :: rest))) : W p l e R s m args below meth c H locs cells slots Q (F0 m pc ls rest) := by
  refine g_new S hI hP hS hin hc ty hty q1 q2 q3 hfs hcells hslots hdg (fun q H1 hP1 hS1 => ?_)
  have h := kk (va_up ad N q) (va_up w N (.inr (ci, fs))) H1 hP1 hS1 (fun p hp => va_up_ne _ _ (Nat.ne_of_lt hp)) (fun p hp => va_up_ne _ _ (Nat.ne_of_lt hp)) (va_up_self _ _ _)
  rw [va_up_self] at h
  exact h
end GNEWM
/-- a world cut back to N places -/
def ctW (N : Nat) (w w1 : Nat → va_E) : Nat → va_E := fun q => if q < N then w1 q else w q
theorem ctW_lt {N : Nat} {w w1 : Nat → va_E} {q : Nat} (h : q < N) : ctW N w w1 q = w1 q := if_pos h
theorem ctW_fr {N : Nat} {w w1 : Nat → va_E} {P : Nat → Prop} (h : ∀ q, q < N → ¬ P q → w1 q = w q) : gFr P w (ctW N w w1) := fun q hq => by
  unfold ctW
  by_cases r : q < N
  · rw [if_pos r]; exact h q r hq
  · rw [if_neg r]
set_option maxHeartbeats 4000000 in
set_option maxRecDepth 100000 in
/-- setHeight -/
theorem mX12_setHeight (l : Launch) {E : gE} {ad : Nat → Nat} {N : Nat} {w : Nat → va_E} (kk : Nat → Nat) (hzv : gHv E kk) (d : Nat) (sv : Nat) (fp dq : Option Nat) (dd : Int32) (dc : Option Nat) (ht dr pg wt wr mo : Nat → Nat) (mc ni po dn : Nat) (pl ct : Nat) (K : Nat → Sh) (x y v : Int32) (hb_d : bkP N w d 1 (DMC E ad d sv fp dq dd dc)) (hb_s : bkP N w (d + 1) 7 (SHC E ad (d + 1) ht dr pg wt wr mo mc ni po dn)) (hlt : l.stackTraces = false) (hz : gHx E) (hdN : d + 116 ≤ N) (hh : hsP E ad N w (d + 29) pl ct K) (hpl : pl < 8) (hct : ct ≤ 8) (hht : ∀ k, k < 36 → ht k ≤ 99) (hpg : ∀ k, k < 36 → pg k ≤ 1) (hwr : ∀ k, k < 36 → wr k ≤ 3) (hm : mc ≤ 4) (hmo : ∀ k, k < mc → mo k < 36) : gXi l yX12_setHeight (lw_ws yX12_setHeight cX12_setHeight 4 (some .int)) ({ frames := 8, cells := 2, slots := 9, locals := 181 } : Room) E ad N w [.ref (ad (d)), .int (x), .int (y), .int (v)] (fun r w' => ∃ k u, cmK 0 (cellV x y) v k u mc ∧ cmR ht pg wr mo mc 0 (cellV x y) v = nI 0 ∧ r = (cmS 0 k u ht dr pg wt wr mo mc ni po dn).1 ∧ bkP N w' (d + 1) 7 (shC E ad (d + 1) (cmS 0 k u ht dr pg wt wr mo mc ni po dn).2) ∧ hsP E ad N w' (d + 29) ((pl + 1) % 8) (min (ct + 1) 8) (va_up K pl (cpS (ht, dr, pg, wt, wr, mo, mc, ni, po, dn) (K pl))) ∧ bkP N w' d 1 (DMC E ad d sv fp dq dd dc) ∧ gFr (fun q => (d + 1 ≤ q ∧ q < d + 8) ∨ (d + 29 ≤ q ∧ q < d + 87) ∨ q = d) w w') (fun xc w' => (xc = xIO ∧ cmR ht pg wr mo mc 0 (cellV x y) v = -1 ∧ gFr (fun q => (d + 1 ≤ q ∧ q < d + 8) ∨ (d + 29 ≤ q ∧ q < d + 87) ∨ q = d) w w' ∧ bkP N w' d 1 (DMC E ad d sv fp dq dd dc) ∧ bkP N w' (d + 1) 7 (SHC E ad (d + 1) ht dr pg wt wr mo mc ni po dn) ∧ hsP E ad N w' (d + 29) pl ct K) ∨ (xc = xIA ∧ cmR ht pg wr mo mc 0 (cellV x y) v = -2 ∧ gFr (fun q => (d + 1 ≤ q ∧ q < d + 8) ∨ (d + 29 ≤ q ∧ q < d + 87) ∨ q = d) w w' ∧ bkP N w' d 1 (DMC E ad d sv fp dq dd dc) ∧ bkP N w' (d + 1) 7 (SHC E ad (d + 1) ht dr pg wt wr mo mc ni po dn) ∧ hsP E ad N w' (d + 29) pl ct K) ∨ (xc = xUO ∧ ∃ n, 0 < n ∧ n < 7 ∧ cmR ht pg wr mo mc 0 (cellV x y) v = nI n ∧ bkP N w' d 1 (DMC E ad d sv fp (some n) (cmT pg wr mo mc n (cellV x y) v) none) ∧ bkP N w' (d + 1) 7 (SHC E ad (d + 1) ht dr pg wt wr mo mc ni po dn) ∧ hsP E ad N w' (d + 29) pl ct K ∧ gFr (fun q => (d + 1 ≤ q ∧ q < d + 8) ∨ (d + 29 ≤ q ∧ q < d + 87) ∨ q = d) w w')) 2 9 := by
  refine vx_ofW (cc := cX12_setHeight) (maxL := 4) (ret := (some .int)) (by decide) rfl ?_
  intro p e s m args below meth cd s₁ B hml htab hv
  obtain ⟨rfl, hI, hP⟩ := hv
  obtain ⟨S, hr, hlocks⟩ := gPre (ws := []) B hml (C := RX12) rfl
  have hx := S.1
  have hb := S.2.1
  have hzk := hzv s s.heap hI.2.2.2.2
  have hS : va_S (gA E) s.heap s.heap [] := va_S.rf
  have hl := lv_entry ([.ref (ad (d)), .int (x), .int (y), .int (v)]) (n := 4) (Nat.le_of_ble_eq_true rfl)
  rw [lg_entry_eq]
  generalize (lg_sl ([.ref (ad (d)), .int (x), .int (y), .int (v)]) ++ List.replicate (4 - (lg_sl ([.ref (ad (d)), .int (x), .int (y), .int (v)])).length) Slot.unset).toArray = ls at hl ⊢
  have hl : lv_has ls 4 [(0, .ref (ad (d))), (1, .int (x)), (2, .int (y)), (3, .int (v))] := hl
  refine lv_aload_n hx hb dX12_setHeight_0 rfl (lv_at hl 0 rfl) ?_
  refine g_newM S hI hP hS (ci := 6) uX2 rfl tyX2 tyX2_ok q452 q453 q101 (fs := [.null, .int 0, .int 0]) (fun j hj => by match j, hj with | 0, _ => rfl | 1, _ => rfl | 2, _ => rfl) (Nat.le_of_ble_eq_true rfl) (Nat.le_of_ble_eq_true rfl) dX12_setHeight_1 (fun ad1 wn1 H hP hS hadL1 hwL1 hwN1 => ?_)
  rw [show ([.ref (ad1 (N)), .ref (ad (d))] : List Value) = [.ref (ad1 (N)), .ref (ad1 (d))] by rw [hadL1 (d) (by omega)]]
  have hl : lv_has ls 4 [(0, .ref (ad1 (d))), (1, .int (x)), (2, .int (y)), (3, .int (v))] := by rw [hadL1 (d) (by omega)]; exact hl
  have hb1 := DM_mv hb_d (w' := wn1) (M := N) (by omega) (Nat.le_succ _) (fun p hp => (hadL1 p hp).symm) (fun p h1 h2 => hwL1 p (by omega))
  have hb2 := SH_mv hb_s (w' := wn1) (M := N) (by omega) (Nat.le_succ _) (fun p hp => (hadL1 p hp).symm) (fun p h1 h2 => hwL1 p (by omega))
  have hh1 := hh.mv (w' := wn1) (M := N) (by omega) (Nat.le_succ _) (fun p hp => (hadL1 p hp).symm) (fun p h1 h2 => hwL1 p (by omega))
  refine lv_dup hx hb dX12_setHeight_4 rfl ?_
  refine g_gets S hS (hzk.1 0 (by decide)).1.1 q842 dX12_setHeight_5 ?_
  refine lv_iload_n hx hb dX12_setHeight_8 rfl (lv_at hl 1 rfl) ?_
  refine lv_iload_n hx hb dX12_setHeight_9 rfl (lv_at hl 2 rfl) ?_
  refine g_roi (g_runS S hI hP hS (k := 2) (As := [.int (x), .int (y)]) (rest := [.ref (kk 0), .ref (ad1 (N)), .ref (ad1 (N)), .ref (ad1 (d))]) (mX12_cellOf l x y) q677 q678 q82 q679 rfl rfl (by decide +kernel) ⟨Nat.le_of_ble_eq_true rfl, Nat.le_of_ble_eq_true rfl⟩ rfl hl.1 rfl (Nat.le_of_ble_eq_true rfl) ⟨(Nat.le_of_ble_eq_true rfl), (Nat.le_of_ble_eq_true rfl)⟩ dX12_setHeight_10) hS (fun H locs hP hS => ?_)
  refine lv_iload_n hx hb dX12_setHeight_13 rfl (lv_at hl 3 rfl) ?_
  refine g_afv (g_runI S hI hP hS (k := 3) (b := N) (As := [.ref (kk 0), .int (oI (cellV x y)), .int (v)]) (rest := [.ref (ad1 (N)), .ref (ad1 (d))]) (mX2_init l kk N 0 (cellV x y) v (Nat.lt_succ_self _) hwN1) q456 q457 q101 q458 rfl rfl rfl (by decide +kernel) ⟨(Nat.le_of_ble_eq_true rfl), (Nat.le_of_ble_eq_true rfl)⟩ rfl hl.1 rfl (Nat.le_of_ble_eq_true rfl) ⟨(Nat.le_of_ble_eq_true rfl), (Nat.le_of_ble_eq_true rfl)⟩ dX12_setHeight_14) hS (fun w5 H locs hq hP hS => ?_)
  obtain ⟨hbc, hf1⟩ := hq
  have hx_d := hb1.fr hf1 (fun k hk => by show ¬ _; simp only [gIn]; omega)
  have hx_s := hb2.fr hf1 (fun k hk => by show ¬ _; simp only [gIn]; omega)
  have hh2 := hh1.fr hf1 (fun q a b => by show ¬ _; simp only [gIn]; omega)
  refine g_xafi (g_xrunV S hI hP hS (k := 1) (As := [.ref (ad1 (N))]) (rest := []) (mX12_change l kk hzv d sv fp dq dd dc ht dr pg wt wr mo mc ni po dn pl ct K N 0 (cellV x y) v hx_d hx_s hbc hlt hz hdN hh2 hpl hct (by decide) (fun k h => cellV_lt h) hht hpg hwr hm hmo) q473 q475 q0 q82 q476 rfl rfl (by decide +kernel) ⟨(Nat.le_of_ble_eq_true rfl), (Nat.le_of_ble_eq_true rfl)⟩ rfl (hx_d.lt 0 (by decide)) (hx_d.2 0 (by decide)) rfl hl.1 rfl (Nat.le_of_ble_eq_true rfl) ⟨(Nat.le_of_ble_eq_true rfl), (Nat.le_of_ble_eq_true rfl)⟩ dX12_setHeight_17) hS (fun xc w1 xq ce H locs hpx hP hS hcell hcv hcl => ?_) (fun rz w1 H locs hq hP hS => ?_)
  · have hP9 : gP E ad N (ctW N w w1) H := ((hP.cut N (Nat.le_succ N)).ad (fun p hp => hadL1 p hp)).to (fun p hp => (ctW_lt hp).symm)
    have hfz : ∀ {hfx : gFr (fun q => (d + 1 ≤ q ∧ q < d + 8) ∨ (d + 29 ≤ q ∧ q < d + 87) ∨ q = d) w5 w1}, gFr (fun q => (d + 1 ≤ q ∧ q < d + 8) ∨ (d + 29 ≤ q ∧ q < d + 87) ∨ q = d) w (ctW N w w1) := fun {hfx} => ctW_fr (fun q hq hn => (hfx q hn).trans ((hf1 q (fun z => by simp only [gIn] at z; omega)).trans (hwL1 q hq)))
    refine g_xout S hI hS htab hlocks hP9 hcell hcv hcl ?_ (Nat.le_of_ble_eq_true rfl) (Nat.le_of_ble_eq_true rfl)
    rcases hpx with ⟨z1, z2, z3, z4, z5, z6⟩ | ⟨z1, z2, z3, z4, z5, z6⟩ | ⟨z1, n, z2, z3, z4, z5, z6, z7, z8⟩
    · exact Or.inl ⟨z1, z2, hfz (hfx := z3), DM_mv z4 (M := N) (by omega) (Nat.le_refl _) hadL1 (fun p h1 h2 => ctW_lt (by omega)), SH_mv z5 (M := N) (by omega) (Nat.le_refl _) hadL1 (fun p h1 h2 => ctW_lt (by omega)), z6.mv (M := N) (by omega) (Nat.le_refl _) hadL1 (fun p h1 h2 => ctW_lt (by omega))⟩
    · exact Or.inr (Or.inl ⟨z1, z2, hfz (hfx := z3), DM_mv z4 (M := N) (by omega) (Nat.le_refl _) hadL1 (fun p h1 h2 => ctW_lt (by omega)), SH_mv z5 (M := N) (by omega) (Nat.le_refl _) hadL1 (fun p h1 h2 => ctW_lt (by omega)), z6.mv (M := N) (by omega) (Nat.le_refl _) hadL1 (fun p h1 h2 => ctW_lt (by omega))⟩)
    · exact Or.inr (Or.inr ⟨z1, n, z2, z3, z4, DM_mv z5 (M := N) (by omega) (Nat.le_refl _) hadL1 (fun p h1 h2 => ctW_lt (by omega)), SH_mv z6 (M := N) (by omega) (Nat.le_refl _) hadL1 (fun p h1 h2 => ctW_lt (by omega)), z7.mv (M := N) (by omega) (Nat.le_refl _) hadL1 (fun p h1 h2 => ctW_lt (by omega)), hfz (hfx := z8)⟩)
  · have hP9 : gP E ad N (ctW N w w1) H := ((hP.cut N (Nat.le_succ N)).ad (fun p hp => hadL1 p hp)).to (fun p hp => (ctW_lt hp).symm)
    have hfz : ∀ {hfx : gFr (fun q => (d + 1 ≤ q ∧ q < d + 8) ∨ (d + 29 ≤ q ∧ q < d + 87) ∨ q = d) w5 w1}, gFr (fun q => (d + 1 ≤ q ∧ q < d + 8) ∨ (d + 29 ≤ q ∧ q < d + 87) ∨ q = d) w (ctW N w w1) := fun {hfx} => ctW_fr (fun q hq hn => (hfx q hn).trans ((hf1 q (fun z => by simp only [gIn] at z; omega)).trans (hwL1 q hq)))
    obtain ⟨k, u, y1, y2, y3, y4, y5, y6, y7⟩ := hq
    rw [y3]
    exact vx_ret (g_iret S hr hlocks (hP9) hS (⟨k, u, y1, y2, rfl, SH_mv y4 (M := N) (by omega) (Nat.le_refl _) hadL1 (fun p h1 h2 => ctW_lt (by omega)), y5.mv (M := N) (by omega) (Nat.le_refl _) hadL1 (fun p h1 h2 => ctW_lt (by omega)), DM_mv y6 (M := N) (by omega) (Nat.le_refl _) hadL1 (fun p h1 h2 => ctW_lt (by omega)), hfz (hfx := y7)⟩) (fun _ _ => rfl) (Nat.le_of_ble_eq_true rfl) (Nat.le_of_ble_eq_true rfl) dX12_setHeight_20)
set_option maxHeartbeats 4000000 in
set_option maxRecDepth 100000 in
/-- peg -/
theorem mX12_peg (l : Launch) {E : gE} {ad : Nat → Nat} {N : Nat} {w : Nat → va_E} (kk : Nat → Nat) (hzv : gHv E kk) (d : Nat) (sv : Nat) (fp dq : Option Nat) (dd : Int32) (dc : Option Nat) (ht dr pg wt wr mo : Nat → Nat) (mc ni po dn : Nat) (pl ct : Nat) (K : Nat → Sh) (x y : Int32) (hb_d : bkP N w d 1 (DMC E ad d sv fp dq dd dc)) (hb_s : bkP N w (d + 1) 7 (SHC E ad (d + 1) ht dr pg wt wr mo mc ni po dn)) (hlt : l.stackTraces = false) (hz : gHx E) (hdN : d + 116 ≤ N) (hh : hsP E ad N w (d + 29) pl ct K) (hpl : pl < 8) (hct : ct ≤ 8) (hht : ∀ k, k < 36 → ht k ≤ 99) (hpg : ∀ k, k < 36 → pg k ≤ 1) (hwr : ∀ k, k < 36 → wr k ≤ 3) (hm : mc ≤ 4) (hmo : ∀ k, k < mc → mo k < 36) : gXi l yX12_peg (lw_ws yX12_peg cX12_peg 3 (some .int)) ({ frames := 8, cells := 2, slots := 9, locals := 181 } : Room) E ad N w [.ref (ad (d)), .int (x), .int (y)] (fun r w' => ∃ k u, cmK 1 (cellV x y) (-1) k u mc ∧ cmR ht pg wr mo mc 1 (cellV x y) (-1) = nI 0 ∧ r = (cmS 1 k u ht dr pg wt wr mo mc ni po dn).1 ∧ bkP N w' (d + 1) 7 (shC E ad (d + 1) (cmS 1 k u ht dr pg wt wr mo mc ni po dn).2) ∧ hsP E ad N w' (d + 29) ((pl + 1) % 8) (min (ct + 1) 8) (va_up K pl (cpS (ht, dr, pg, wt, wr, mo, mc, ni, po, dn) (K pl))) ∧ bkP N w' d 1 (DMC E ad d sv fp dq dd dc) ∧ gFr (fun q => (d + 1 ≤ q ∧ q < d + 8) ∨ (d + 29 ≤ q ∧ q < d + 87) ∨ q = d) w w') (fun xc w' => (xc = xIO ∧ cmR ht pg wr mo mc 1 (cellV x y) (-1) = -1 ∧ gFr (fun q => (d + 1 ≤ q ∧ q < d + 8) ∨ (d + 29 ≤ q ∧ q < d + 87) ∨ q = d) w w' ∧ bkP N w' d 1 (DMC E ad d sv fp dq dd dc) ∧ bkP N w' (d + 1) 7 (SHC E ad (d + 1) ht dr pg wt wr mo mc ni po dn) ∧ hsP E ad N w' (d + 29) pl ct K) ∨ (xc = xIA ∧ cmR ht pg wr mo mc 1 (cellV x y) (-1) = -2 ∧ gFr (fun q => (d + 1 ≤ q ∧ q < d + 8) ∨ (d + 29 ≤ q ∧ q < d + 87) ∨ q = d) w w' ∧ bkP N w' d 1 (DMC E ad d sv fp dq dd dc) ∧ bkP N w' (d + 1) 7 (SHC E ad (d + 1) ht dr pg wt wr mo mc ni po dn) ∧ hsP E ad N w' (d + 29) pl ct K) ∨ (xc = xUO ∧ ∃ n, 0 < n ∧ n < 7 ∧ cmR ht pg wr mo mc 1 (cellV x y) (-1) = nI n ∧ bkP N w' d 1 (DMC E ad d sv fp (some n) (cmT pg wr mo mc n (cellV x y) (-1)) none) ∧ bkP N w' (d + 1) 7 (SHC E ad (d + 1) ht dr pg wt wr mo mc ni po dn) ∧ hsP E ad N w' (d + 29) pl ct K ∧ gFr (fun q => (d + 1 ≤ q ∧ q < d + 8) ∨ (d + 29 ≤ q ∧ q < d + 87) ∨ q = d) w w')) 2 9 := by
  refine vx_ofW (cc := cX12_peg) (maxL := 3) (ret := (some .int)) (by decide) rfl ?_
  intro p e s m args below meth cd s₁ B hml htab hv
  obtain ⟨rfl, hI, hP⟩ := hv
  obtain ⟨S, hr, hlocks⟩ := gPre (ws := []) B hml (C := RX12) rfl
  have hx := S.1
  have hb := S.2.1
  have hzk := hzv s s.heap hI.2.2.2.2
  have hS : va_S (gA E) s.heap s.heap [] := va_S.rf
  have hl := lv_entry ([.ref (ad (d)), .int (x), .int (y)]) (n := 3) (Nat.le_of_ble_eq_true rfl)
  rw [lg_entry_eq]
  generalize (lg_sl ([.ref (ad (d)), .int (x), .int (y)]) ++ List.replicate (3 - (lg_sl ([.ref (ad (d)), .int (x), .int (y)])).length) Slot.unset).toArray = ls at hl ⊢
  have hl : lv_has ls 3 [(0, .ref (ad (d))), (1, .int (x)), (2, .int (y))] := hl
  refine lv_aload_n hx hb dX12_peg_0 rfl (lv_at hl 0 rfl) ?_
  refine g_newM S hI hP hS (ci := 6) uX2 rfl tyX2 tyX2_ok q452 q453 q101 (fs := [.null, .int 0, .int 0]) (fun j hj => by match j, hj with | 0, _ => rfl | 1, _ => rfl | 2, _ => rfl) (Nat.le_of_ble_eq_true rfl) (Nat.le_of_ble_eq_true rfl) dX12_peg_1 (fun ad1 wn1 H hP hS hadL1 hwL1 hwN1 => ?_)
  rw [show ([.ref (ad1 (N)), .ref (ad (d))] : List Value) = [.ref (ad1 (N)), .ref (ad1 (d))] by rw [hadL1 (d) (by omega)]]
  have hl : lv_has ls 3 [(0, .ref (ad1 (d))), (1, .int (x)), (2, .int (y))] := by rw [hadL1 (d) (by omega)]; exact hl
  have hb1 := DM_mv hb_d (w' := wn1) (M := N) (by omega) (Nat.le_succ _) (fun p hp => (hadL1 p hp).symm) (fun p h1 h2 => hwL1 p (by omega))
  have hb2 := SH_mv hb_s (w' := wn1) (M := N) (by omega) (Nat.le_succ _) (fun p hp => (hadL1 p hp).symm) (fun p h1 h2 => hwL1 p (by omega))
  have hh1 := hh.mv (w' := wn1) (M := N) (by omega) (Nat.le_succ _) (fun p hp => (hadL1 p hp).symm) (fun p h1 h2 => hwL1 p (by omega))
  refine lv_dup hx hb dX12_peg_4 rfl ?_
  refine g_gets S hS (hzk.1 1 (by decide)).1.1 q851 dX12_peg_5 ?_
  refine lv_iload_n hx hb dX12_peg_8 rfl (lv_at hl 1 rfl) ?_
  refine lv_iload_n hx hb dX12_peg_9 rfl (lv_at hl 2 rfl) ?_
  refine g_roi (g_runS S hI hP hS (k := 2) (As := [.int (x), .int (y)]) (rest := [.ref (kk 1), .ref (ad1 (N)), .ref (ad1 (N)), .ref (ad1 (d))]) (mX12_cellOf l x y) q677 q678 q82 q679 rfl rfl (by decide +kernel) ⟨Nat.le_of_ble_eq_true rfl, Nat.le_of_ble_eq_true rfl⟩ rfl hl.1 rfl (Nat.le_of_ble_eq_true rfl) ⟨(Nat.le_of_ble_eq_true rfl), (Nat.le_of_ble_eq_true rfl)⟩ dX12_peg_10) hS (fun H locs hP hS => ?_)
  refine lv_iconst (v := -1) hx hb dX12_peg_13 (by decide +kernel) ?_
  refine g_afv (g_runI S hI hP hS (k := 3) (b := N) (As := [.ref (kk 1), .int (oI (cellV x y)), .int (-1)]) (rest := [.ref (ad1 (N)), .ref (ad1 (d))]) (mX2_init l kk N 1 (cellV x y) (-1) (Nat.lt_succ_self _) hwN1) q456 q457 q101 q458 rfl rfl rfl (by decide +kernel) ⟨(Nat.le_of_ble_eq_true rfl), (Nat.le_of_ble_eq_true rfl)⟩ rfl hl.1 rfl (Nat.le_of_ble_eq_true rfl) ⟨(Nat.le_of_ble_eq_true rfl), (Nat.le_of_ble_eq_true rfl)⟩ dX12_peg_14) hS (fun w5 H locs hq hP hS => ?_)
  obtain ⟨hbc, hf1⟩ := hq
  have hx_d := hb1.fr hf1 (fun k hk => by show ¬ _; simp only [gIn]; omega)
  have hx_s := hb2.fr hf1 (fun k hk => by show ¬ _; simp only [gIn]; omega)
  have hh2 := hh1.fr hf1 (fun q a b => by show ¬ _; simp only [gIn]; omega)
  refine g_xafi (g_xrunV S hI hP hS (k := 1) (As := [.ref (ad1 (N))]) (rest := []) (mX12_change l kk hzv d sv fp dq dd dc ht dr pg wt wr mo mc ni po dn pl ct K N 1 (cellV x y) (-1) hx_d hx_s hbc hlt hz hdN hh2 hpl hct (by decide) (fun k h => cellV_lt h) hht hpg hwr hm hmo) q473 q475 q0 q82 q476 rfl rfl (by decide +kernel) ⟨(Nat.le_of_ble_eq_true rfl), (Nat.le_of_ble_eq_true rfl)⟩ rfl (hx_d.lt 0 (by decide)) (hx_d.2 0 (by decide)) rfl hl.1 rfl (Nat.le_of_ble_eq_true rfl) ⟨(Nat.le_of_ble_eq_true rfl), (Nat.le_of_ble_eq_true rfl)⟩ dX12_peg_17) hS (fun xc w1 xq ce H locs hpx hP hS hcell hcv hcl => ?_) (fun rz w1 H locs hq hP hS => ?_)
  · have hP9 : gP E ad N (ctW N w w1) H := ((hP.cut N (Nat.le_succ N)).ad (fun p hp => hadL1 p hp)).to (fun p hp => (ctW_lt hp).symm)
    have hfz : ∀ {hfx : gFr (fun q => (d + 1 ≤ q ∧ q < d + 8) ∨ (d + 29 ≤ q ∧ q < d + 87) ∨ q = d) w5 w1}, gFr (fun q => (d + 1 ≤ q ∧ q < d + 8) ∨ (d + 29 ≤ q ∧ q < d + 87) ∨ q = d) w (ctW N w w1) := fun {hfx} => ctW_fr (fun q hq hn => (hfx q hn).trans ((hf1 q (fun z => by simp only [gIn] at z; omega)).trans (hwL1 q hq)))
    refine g_xout S hI hS htab hlocks hP9 hcell hcv hcl ?_ (Nat.le_of_ble_eq_true rfl) (Nat.le_of_ble_eq_true rfl)
    rcases hpx with ⟨z1, z2, z3, z4, z5, z6⟩ | ⟨z1, z2, z3, z4, z5, z6⟩ | ⟨z1, n, z2, z3, z4, z5, z6, z7, z8⟩
    · exact Or.inl ⟨z1, z2, hfz (hfx := z3), DM_mv z4 (M := N) (by omega) (Nat.le_refl _) hadL1 (fun p h1 h2 => ctW_lt (by omega)), SH_mv z5 (M := N) (by omega) (Nat.le_refl _) hadL1 (fun p h1 h2 => ctW_lt (by omega)), z6.mv (M := N) (by omega) (Nat.le_refl _) hadL1 (fun p h1 h2 => ctW_lt (by omega))⟩
    · exact Or.inr (Or.inl ⟨z1, z2, hfz (hfx := z3), DM_mv z4 (M := N) (by omega) (Nat.le_refl _) hadL1 (fun p h1 h2 => ctW_lt (by omega)), SH_mv z5 (M := N) (by omega) (Nat.le_refl _) hadL1 (fun p h1 h2 => ctW_lt (by omega)), z6.mv (M := N) (by omega) (Nat.le_refl _) hadL1 (fun p h1 h2 => ctW_lt (by omega))⟩)
    · exact Or.inr (Or.inr ⟨z1, n, z2, z3, z4, DM_mv z5 (M := N) (by omega) (Nat.le_refl _) hadL1 (fun p h1 h2 => ctW_lt (by omega)), SH_mv z6 (M := N) (by omega) (Nat.le_refl _) hadL1 (fun p h1 h2 => ctW_lt (by omega)), z7.mv (M := N) (by omega) (Nat.le_refl _) hadL1 (fun p h1 h2 => ctW_lt (by omega)), hfz (hfx := z8)⟩)
  · have hP9 : gP E ad N (ctW N w w1) H := ((hP.cut N (Nat.le_succ N)).ad (fun p hp => hadL1 p hp)).to (fun p hp => (ctW_lt hp).symm)
    have hfz : ∀ {hfx : gFr (fun q => (d + 1 ≤ q ∧ q < d + 8) ∨ (d + 29 ≤ q ∧ q < d + 87) ∨ q = d) w5 w1}, gFr (fun q => (d + 1 ≤ q ∧ q < d + 8) ∨ (d + 29 ≤ q ∧ q < d + 87) ∨ q = d) w (ctW N w w1) := fun {hfx} => ctW_fr (fun q hq hn => (hfx q hn).trans ((hf1 q (fun z => by simp only [gIn] at z; omega)).trans (hwL1 q hq)))
    obtain ⟨k, u, y1, y2, y3, y4, y5, y6, y7⟩ := hq
    rw [y3]
    exact vx_ret (g_iret S hr hlocks (hP9) hS (⟨k, u, y1, y2, rfl, SH_mv y4 (M := N) (by omega) (Nat.le_refl _) hadL1 (fun p h1 h2 => ctW_lt (by omega)), y5.mv (M := N) (by omega) (Nat.le_refl _) hadL1 (fun p h1 h2 => ctW_lt (by omega)), DM_mv y6 (M := N) (by omega) (Nat.le_refl _) hadL1 (fun p h1 h2 => ctW_lt (by omega)), hfz (hfx := y7)⟩) (fun _ _ => rfl) (Nat.le_of_ble_eq_true rfl) (Nat.le_of_ble_eq_true rfl) dX12_peg_20)
set_option maxHeartbeats 4000000 in
set_option maxRecDepth 100000 in
/-- unpeg -/
theorem mX12_unpeg (l : Launch) {E : gE} {ad : Nat → Nat} {N : Nat} {w : Nat → va_E} (kk : Nat → Nat) (hzv : gHv E kk) (d : Nat) (sv : Nat) (fp dq : Option Nat) (dd : Int32) (dc : Option Nat) (ht dr pg wt wr mo : Nat → Nat) (mc ni po dn : Nat) (pl ct : Nat) (K : Nat → Sh) (x y : Int32) (hb_d : bkP N w d 1 (DMC E ad d sv fp dq dd dc)) (hb_s : bkP N w (d + 1) 7 (SHC E ad (d + 1) ht dr pg wt wr mo mc ni po dn)) (hlt : l.stackTraces = false) (hz : gHx E) (hdN : d + 116 ≤ N) (hh : hsP E ad N w (d + 29) pl ct K) (hpl : pl < 8) (hct : ct ≤ 8) (hht : ∀ k, k < 36 → ht k ≤ 99) (hpg : ∀ k, k < 36 → pg k ≤ 1) (hwr : ∀ k, k < 36 → wr k ≤ 3) (hm : mc ≤ 4) (hmo : ∀ k, k < mc → mo k < 36) : gXi l yX12_unpeg (lw_ws yX12_unpeg cX12_unpeg 3 (some .int)) ({ frames := 8, cells := 2, slots := 9, locals := 181 } : Room) E ad N w [.ref (ad (d)), .int (x), .int (y)] (fun r w' => ∃ k u, cmK 2 (cellV x y) (-1) k u mc ∧ cmR ht pg wr mo mc 2 (cellV x y) (-1) = nI 0 ∧ r = (cmS 2 k u ht dr pg wt wr mo mc ni po dn).1 ∧ bkP N w' (d + 1) 7 (shC E ad (d + 1) (cmS 2 k u ht dr pg wt wr mo mc ni po dn).2) ∧ hsP E ad N w' (d + 29) ((pl + 1) % 8) (min (ct + 1) 8) (va_up K pl (cpS (ht, dr, pg, wt, wr, mo, mc, ni, po, dn) (K pl))) ∧ bkP N w' d 1 (DMC E ad d sv fp dq dd dc) ∧ gFr (fun q => (d + 1 ≤ q ∧ q < d + 8) ∨ (d + 29 ≤ q ∧ q < d + 87) ∨ q = d) w w') (fun xc w' => (xc = xIO ∧ cmR ht pg wr mo mc 2 (cellV x y) (-1) = -1 ∧ gFr (fun q => (d + 1 ≤ q ∧ q < d + 8) ∨ (d + 29 ≤ q ∧ q < d + 87) ∨ q = d) w w' ∧ bkP N w' d 1 (DMC E ad d sv fp dq dd dc) ∧ bkP N w' (d + 1) 7 (SHC E ad (d + 1) ht dr pg wt wr mo mc ni po dn) ∧ hsP E ad N w' (d + 29) pl ct K) ∨ (xc = xIA ∧ cmR ht pg wr mo mc 2 (cellV x y) (-1) = -2 ∧ gFr (fun q => (d + 1 ≤ q ∧ q < d + 8) ∨ (d + 29 ≤ q ∧ q < d + 87) ∨ q = d) w w' ∧ bkP N w' d 1 (DMC E ad d sv fp dq dd dc) ∧ bkP N w' (d + 1) 7 (SHC E ad (d + 1) ht dr pg wt wr mo mc ni po dn) ∧ hsP E ad N w' (d + 29) pl ct K) ∨ (xc = xUO ∧ ∃ n, 0 < n ∧ n < 7 ∧ cmR ht pg wr mo mc 2 (cellV x y) (-1) = nI n ∧ bkP N w' d 1 (DMC E ad d sv fp (some n) (cmT pg wr mo mc n (cellV x y) (-1)) none) ∧ bkP N w' (d + 1) 7 (SHC E ad (d + 1) ht dr pg wt wr mo mc ni po dn) ∧ hsP E ad N w' (d + 29) pl ct K ∧ gFr (fun q => (d + 1 ≤ q ∧ q < d + 8) ∨ (d + 29 ≤ q ∧ q < d + 87) ∨ q = d) w w')) 2 9 := by
  refine vx_ofW (cc := cX12_unpeg) (maxL := 3) (ret := (some .int)) (by decide) rfl ?_
  intro p e s m args below meth cd s₁ B hml htab hv
  obtain ⟨rfl, hI, hP⟩ := hv
  obtain ⟨S, hr, hlocks⟩ := gPre (ws := []) B hml (C := RX12) rfl
  have hx := S.1
  have hb := S.2.1
  have hzk := hzv s s.heap hI.2.2.2.2
  have hS : va_S (gA E) s.heap s.heap [] := va_S.rf
  have hl := lv_entry ([.ref (ad (d)), .int (x), .int (y)]) (n := 3) (Nat.le_of_ble_eq_true rfl)
  rw [lg_entry_eq]
  generalize (lg_sl ([.ref (ad (d)), .int (x), .int (y)]) ++ List.replicate (3 - (lg_sl ([.ref (ad (d)), .int (x), .int (y)])).length) Slot.unset).toArray = ls at hl ⊢
  have hl : lv_has ls 3 [(0, .ref (ad (d))), (1, .int (x)), (2, .int (y))] := hl
  refine lv_aload_n hx hb dX12_unpeg_0 rfl (lv_at hl 0 rfl) ?_
  refine g_newM S hI hP hS (ci := 6) uX2 rfl tyX2 tyX2_ok q452 q453 q101 (fs := [.null, .int 0, .int 0]) (fun j hj => by match j, hj with | 0, _ => rfl | 1, _ => rfl | 2, _ => rfl) (Nat.le_of_ble_eq_true rfl) (Nat.le_of_ble_eq_true rfl) dX12_unpeg_1 (fun ad1 wn1 H hP hS hadL1 hwL1 hwN1 => ?_)
  rw [show ([.ref (ad1 (N)), .ref (ad (d))] : List Value) = [.ref (ad1 (N)), .ref (ad1 (d))] by rw [hadL1 (d) (by omega)]]
  have hl : lv_has ls 3 [(0, .ref (ad1 (d))), (1, .int (x)), (2, .int (y))] := by rw [hadL1 (d) (by omega)]; exact hl
  have hb1 := DM_mv hb_d (w' := wn1) (M := N) (by omega) (Nat.le_succ _) (fun p hp => (hadL1 p hp).symm) (fun p h1 h2 => hwL1 p (by omega))
  have hb2 := SH_mv hb_s (w' := wn1) (M := N) (by omega) (Nat.le_succ _) (fun p hp => (hadL1 p hp).symm) (fun p h1 h2 => hwL1 p (by omega))
  have hh1 := hh.mv (w' := wn1) (M := N) (by omega) (Nat.le_succ _) (fun p hp => (hadL1 p hp).symm) (fun p h1 h2 => hwL1 p (by omega))
  refine lv_dup hx hb dX12_unpeg_4 rfl ?_
  refine g_gets S hS (hzk.1 2 (by decide)).1.1 q860 dX12_unpeg_5 ?_
  refine lv_iload_n hx hb dX12_unpeg_8 rfl (lv_at hl 1 rfl) ?_
  refine lv_iload_n hx hb dX12_unpeg_9 rfl (lv_at hl 2 rfl) ?_
  refine g_roi (g_runS S hI hP hS (k := 2) (As := [.int (x), .int (y)]) (rest := [.ref (kk 2), .ref (ad1 (N)), .ref (ad1 (N)), .ref (ad1 (d))]) (mX12_cellOf l x y) q677 q678 q82 q679 rfl rfl (by decide +kernel) ⟨Nat.le_of_ble_eq_true rfl, Nat.le_of_ble_eq_true rfl⟩ rfl hl.1 rfl (Nat.le_of_ble_eq_true rfl) ⟨(Nat.le_of_ble_eq_true rfl), (Nat.le_of_ble_eq_true rfl)⟩ dX12_unpeg_10) hS (fun H locs hP hS => ?_)
  refine lv_iconst (v := -1) hx hb dX12_unpeg_13 (by decide +kernel) ?_
  refine g_afv (g_runI S hI hP hS (k := 3) (b := N) (As := [.ref (kk 2), .int (oI (cellV x y)), .int (-1)]) (rest := [.ref (ad1 (N)), .ref (ad1 (d))]) (mX2_init l kk N 2 (cellV x y) (-1) (Nat.lt_succ_self _) hwN1) q456 q457 q101 q458 rfl rfl rfl (by decide +kernel) ⟨(Nat.le_of_ble_eq_true rfl), (Nat.le_of_ble_eq_true rfl)⟩ rfl hl.1 rfl (Nat.le_of_ble_eq_true rfl) ⟨(Nat.le_of_ble_eq_true rfl), (Nat.le_of_ble_eq_true rfl)⟩ dX12_unpeg_14) hS (fun w5 H locs hq hP hS => ?_)
  obtain ⟨hbc, hf1⟩ := hq
  have hx_d := hb1.fr hf1 (fun k hk => by show ¬ _; simp only [gIn]; omega)
  have hx_s := hb2.fr hf1 (fun k hk => by show ¬ _; simp only [gIn]; omega)
  have hh2 := hh1.fr hf1 (fun q a b => by show ¬ _; simp only [gIn]; omega)
  refine g_xafi (g_xrunV S hI hP hS (k := 1) (As := [.ref (ad1 (N))]) (rest := []) (mX12_change l kk hzv d sv fp dq dd dc ht dr pg wt wr mo mc ni po dn pl ct K N 2 (cellV x y) (-1) hx_d hx_s hbc hlt hz hdN hh2 hpl hct (by decide) (fun k h => cellV_lt h) hht hpg hwr hm hmo) q473 q475 q0 q82 q476 rfl rfl (by decide +kernel) ⟨(Nat.le_of_ble_eq_true rfl), (Nat.le_of_ble_eq_true rfl)⟩ rfl (hx_d.lt 0 (by decide)) (hx_d.2 0 (by decide)) rfl hl.1 rfl (Nat.le_of_ble_eq_true rfl) ⟨(Nat.le_of_ble_eq_true rfl), (Nat.le_of_ble_eq_true rfl)⟩ dX12_unpeg_17) hS (fun xc w1 xq ce H locs hpx hP hS hcell hcv hcl => ?_) (fun rz w1 H locs hq hP hS => ?_)
  · have hP9 : gP E ad N (ctW N w w1) H := ((hP.cut N (Nat.le_succ N)).ad (fun p hp => hadL1 p hp)).to (fun p hp => (ctW_lt hp).symm)
    have hfz : ∀ {hfx : gFr (fun q => (d + 1 ≤ q ∧ q < d + 8) ∨ (d + 29 ≤ q ∧ q < d + 87) ∨ q = d) w5 w1}, gFr (fun q => (d + 1 ≤ q ∧ q < d + 8) ∨ (d + 29 ≤ q ∧ q < d + 87) ∨ q = d) w (ctW N w w1) := fun {hfx} => ctW_fr (fun q hq hn => (hfx q hn).trans ((hf1 q (fun z => by simp only [gIn] at z; omega)).trans (hwL1 q hq)))
    refine g_xout S hI hS htab hlocks hP9 hcell hcv hcl ?_ (Nat.le_of_ble_eq_true rfl) (Nat.le_of_ble_eq_true rfl)
    rcases hpx with ⟨z1, z2, z3, z4, z5, z6⟩ | ⟨z1, z2, z3, z4, z5, z6⟩ | ⟨z1, n, z2, z3, z4, z5, z6, z7, z8⟩
    · exact Or.inl ⟨z1, z2, hfz (hfx := z3), DM_mv z4 (M := N) (by omega) (Nat.le_refl _) hadL1 (fun p h1 h2 => ctW_lt (by omega)), SH_mv z5 (M := N) (by omega) (Nat.le_refl _) hadL1 (fun p h1 h2 => ctW_lt (by omega)), z6.mv (M := N) (by omega) (Nat.le_refl _) hadL1 (fun p h1 h2 => ctW_lt (by omega))⟩
    · exact Or.inr (Or.inl ⟨z1, z2, hfz (hfx := z3), DM_mv z4 (M := N) (by omega) (Nat.le_refl _) hadL1 (fun p h1 h2 => ctW_lt (by omega)), SH_mv z5 (M := N) (by omega) (Nat.le_refl _) hadL1 (fun p h1 h2 => ctW_lt (by omega)), z6.mv (M := N) (by omega) (Nat.le_refl _) hadL1 (fun p h1 h2 => ctW_lt (by omega))⟩)
    · exact Or.inr (Or.inr ⟨z1, n, z2, z3, z4, DM_mv z5 (M := N) (by omega) (Nat.le_refl _) hadL1 (fun p h1 h2 => ctW_lt (by omega)), SH_mv z6 (M := N) (by omega) (Nat.le_refl _) hadL1 (fun p h1 h2 => ctW_lt (by omega)), z7.mv (M := N) (by omega) (Nat.le_refl _) hadL1 (fun p h1 h2 => ctW_lt (by omega)), hfz (hfx := z8)⟩)
  · have hP9 : gP E ad N (ctW N w w1) H := ((hP.cut N (Nat.le_succ N)).ad (fun p hp => hadL1 p hp)).to (fun p hp => (ctW_lt hp).symm)
    have hfz : ∀ {hfx : gFr (fun q => (d + 1 ≤ q ∧ q < d + 8) ∨ (d + 29 ≤ q ∧ q < d + 87) ∨ q = d) w5 w1}, gFr (fun q => (d + 1 ≤ q ∧ q < d + 8) ∨ (d + 29 ≤ q ∧ q < d + 87) ∨ q = d) w (ctW N w w1) := fun {hfx} => ctW_fr (fun q hq hn => (hfx q hn).trans ((hf1 q (fun z => by simp only [gIn] at z; omega)).trans (hwL1 q hq)))
    obtain ⟨k, u, y1, y2, y3, y4, y5, y6, y7⟩ := hq
    rw [y3]
    exact vx_ret (g_iret S hr hlocks (hP9) hS (⟨k, u, y1, y2, rfl, SH_mv y4 (M := N) (by omega) (Nat.le_refl _) hadL1 (fun p h1 h2 => ctW_lt (by omega)), y5.mv (M := N) (by omega) (Nat.le_refl _) hadL1 (fun p h1 h2 => ctW_lt (by omega)), DM_mv y6 (M := N) (by omega) (Nat.le_refl _) hadL1 (fun p h1 h2 => ctW_lt (by omega)), hfz (hfx := y7)⟩) (fun _ _ => rfl) (Nat.le_of_ble_eq_true rfl) (Nat.le_of_ble_eq_true rfl) dX12_unpeg_20)
set_option maxHeartbeats 4000000 in
set_option maxRecDepth 100000 in
/-- drape -/
theorem mX12_drape (l : Launch) {E : gE} {ad : Nat → Nat} {N : Nat} {w : Nat → va_E} (kk : Nat → Nat) (hzv : gHv E kk) (d : Nat) (sv : Nat) (fp dq : Option Nat) (dd : Int32) (dc : Option Nat) (ht dr pg wt wr mo : Nat → Nat) (mc ni po dn : Nat) (pl ct : Nat) (K : Nat → Sh)  (hb_d : bkP N w d 1 (DMC E ad d sv fp dq dd dc)) (hb_s : bkP N w (d + 1) 7 (SHC E ad (d + 1) ht dr pg wt wr mo mc ni po dn)) (hlt : l.stackTraces = false) (hz : gHx E) (hdN : d + 116 ≤ N) (hh : hsP E ad N w (d + 29) pl ct K) (hpl : pl < 8) (hct : ct ≤ 8) (hht : ∀ k, k < 36 → ht k ≤ 99) (hpg : ∀ k, k < 36 → pg k ≤ 1) (hwr : ∀ k, k < 36 → wr k ≤ 3) (hm : mc ≤ 4) (hmo : ∀ k, k < mc → mo k < 36) : gXi l yX12_drape (lw_ws yX12_drape cX12_drape 1 (some .int)) ({ frames := 8, cells := 2, slots := 9, locals := 181 } : Room) E ad N w [.ref (ad (d))] (fun r w' => ∃ k u, cmK 3 none (-1) k u mc ∧ cmR ht pg wr mo mc 3 none (-1) = nI 0 ∧ r = (cmS 3 k u ht dr pg wt wr mo mc ni po dn).1 ∧ bkP N w' (d + 1) 7 (shC E ad (d + 1) (cmS 3 k u ht dr pg wt wr mo mc ni po dn).2) ∧ hsP E ad N w' (d + 29) ((pl + 1) % 8) (min (ct + 1) 8) (va_up K pl (cpS (ht, dr, pg, wt, wr, mo, mc, ni, po, dn) (K pl))) ∧ bkP N w' d 1 (DMC E ad d sv fp dq dd dc) ∧ gFr (fun q => (d + 1 ≤ q ∧ q < d + 8) ∨ (d + 29 ≤ q ∧ q < d + 87) ∨ q = d) w w') (fun xc w' => (xc = xIO ∧ cmR ht pg wr mo mc 3 none (-1) = -1 ∧ gFr (fun q => (d + 1 ≤ q ∧ q < d + 8) ∨ (d + 29 ≤ q ∧ q < d + 87) ∨ q = d) w w' ∧ bkP N w' d 1 (DMC E ad d sv fp dq dd dc) ∧ bkP N w' (d + 1) 7 (SHC E ad (d + 1) ht dr pg wt wr mo mc ni po dn) ∧ hsP E ad N w' (d + 29) pl ct K) ∨ (xc = xIA ∧ cmR ht pg wr mo mc 3 none (-1) = -2 ∧ gFr (fun q => (d + 1 ≤ q ∧ q < d + 8) ∨ (d + 29 ≤ q ∧ q < d + 87) ∨ q = d) w w' ∧ bkP N w' d 1 (DMC E ad d sv fp dq dd dc) ∧ bkP N w' (d + 1) 7 (SHC E ad (d + 1) ht dr pg wt wr mo mc ni po dn) ∧ hsP E ad N w' (d + 29) pl ct K) ∨ (xc = xUO ∧ ∃ n, 0 < n ∧ n < 7 ∧ cmR ht pg wr mo mc 3 none (-1) = nI n ∧ bkP N w' d 1 (DMC E ad d sv fp (some n) (cmT pg wr mo mc n none (-1)) none) ∧ bkP N w' (d + 1) 7 (SHC E ad (d + 1) ht dr pg wt wr mo mc ni po dn) ∧ hsP E ad N w' (d + 29) pl ct K ∧ gFr (fun q => (d + 1 ≤ q ∧ q < d + 8) ∨ (d + 29 ≤ q ∧ q < d + 87) ∨ q = d) w w')) 2 9 := by
  refine vx_ofW (cc := cX12_drape) (maxL := 1) (ret := (some .int)) (by decide) rfl ?_
  intro p e s m args below meth cd s₁ B hml htab hv
  obtain ⟨rfl, hI, hP⟩ := hv
  obtain ⟨S, hr, hlocks⟩ := gPre (ws := []) B hml (C := RX12) rfl
  have hx := S.1
  have hb := S.2.1
  have hzk := hzv s s.heap hI.2.2.2.2
  have hS : va_S (gA E) s.heap s.heap [] := va_S.rf
  have hl := lv_entry ([.ref (ad (d))]) (n := 1) (Nat.le_of_ble_eq_true rfl)
  rw [lg_entry_eq]
  generalize (lg_sl ([.ref (ad (d))]) ++ List.replicate (1 - (lg_sl ([.ref (ad (d))])).length) Slot.unset).toArray = ls at hl ⊢
  have hl : lv_has ls 1 [(0, .ref (ad (d)))] := hl
  refine lv_aload_n hx hb dX12_drape_0 rfl (lv_at hl 0 rfl) ?_
  refine g_newM S hI hP hS (ci := 6) uX2 rfl tyX2 tyX2_ok q452 q453 q101 (fs := [.null, .int 0, .int 0]) (fun j hj => by match j, hj with | 0, _ => rfl | 1, _ => rfl | 2, _ => rfl) (Nat.le_of_ble_eq_true rfl) (Nat.le_of_ble_eq_true rfl) dX12_drape_1 (fun ad1 wn1 H hP hS hadL1 hwL1 hwN1 => ?_)
  rw [show ([.ref (ad1 (N)), .ref (ad (d))] : List Value) = [.ref (ad1 (N)), .ref (ad1 (d))] by rw [hadL1 (d) (by omega)]]
  have hl : lv_has ls 1 [(0, .ref (ad1 (d)))] := by rw [hadL1 (d) (by omega)]; exact hl
  have hb1 := DM_mv hb_d (w' := wn1) (M := N) (by omega) (Nat.le_succ _) (fun p hp => (hadL1 p hp).symm) (fun p h1 h2 => hwL1 p (by omega))
  have hb2 := SH_mv hb_s (w' := wn1) (M := N) (by omega) (Nat.le_succ _) (fun p hp => (hadL1 p hp).symm) (fun p h1 h2 => hwL1 p (by omega))
  have hh1 := hh.mv (w' := wn1) (M := N) (by omega) (Nat.le_succ _) (fun p hp => (hadL1 p hp).symm) (fun p h1 h2 => hwL1 p (by omega))
  refine lv_dup hx hb dX12_drape_4 rfl ?_
  refine g_gets S hS (hzk.1 3 (by decide)).1.1 q454 dX12_drape_5 ?_
  refine lv_iconst (v := -1) hx hb dX12_drape_8 (by decide +kernel) ?_
  refine lv_iconst (v := -1) hx hb dX12_drape_9 (by decide +kernel) ?_
  refine g_afv (g_runI S hI hP hS (k := 3) (b := N) (As := [.ref (kk 3), .int (oI (none)), .int (-1)]) (rest := [.ref (ad1 (N)), .ref (ad1 (d))]) (mX2_init l kk N 3 none (-1) (Nat.lt_succ_self _) hwN1) q456 q457 q101 q458 rfl rfl rfl (by decide +kernel) ⟨(Nat.le_of_ble_eq_true rfl), (Nat.le_of_ble_eq_true rfl)⟩ rfl hl.1 rfl (Nat.le_of_ble_eq_true rfl) ⟨(Nat.le_of_ble_eq_true rfl), (Nat.le_of_ble_eq_true rfl)⟩ dX12_drape_10) hS (fun w5 H locs hq hP hS => ?_)
  obtain ⟨hbc, hf1⟩ := hq
  have hx_d := hb1.fr hf1 (fun k hk => by show ¬ _; simp only [gIn]; omega)
  have hx_s := hb2.fr hf1 (fun k hk => by show ¬ _; simp only [gIn]; omega)
  have hh2 := hh1.fr hf1 (fun q a b => by show ¬ _; simp only [gIn]; omega)
  refine g_xafi (g_xrunV S hI hP hS (k := 1) (As := [.ref (ad1 (N))]) (rest := []) (mX12_change l kk hzv d sv fp dq dd dc ht dr pg wt wr mo mc ni po dn pl ct K N 3 none (-1) hx_d hx_s hbc hlt hz hdN hh2 hpl hct (by decide) (fun k h => by cases h) hht hpg hwr hm hmo) q473 q475 q0 q82 q476 rfl rfl (by decide +kernel) ⟨(Nat.le_of_ble_eq_true rfl), (Nat.le_of_ble_eq_true rfl)⟩ rfl (hx_d.lt 0 (by decide)) (hx_d.2 0 (by decide)) rfl hl.1 rfl (Nat.le_of_ble_eq_true rfl) ⟨(Nat.le_of_ble_eq_true rfl), (Nat.le_of_ble_eq_true rfl)⟩ dX12_drape_13) hS (fun xc w1 xq ce H locs hpx hP hS hcell hcv hcl => ?_) (fun rz w1 H locs hq hP hS => ?_)
  · have hP9 : gP E ad N (ctW N w w1) H := ((hP.cut N (Nat.le_succ N)).ad (fun p hp => hadL1 p hp)).to (fun p hp => (ctW_lt hp).symm)
    have hfz : ∀ {hfx : gFr (fun q => (d + 1 ≤ q ∧ q < d + 8) ∨ (d + 29 ≤ q ∧ q < d + 87) ∨ q = d) w5 w1}, gFr (fun q => (d + 1 ≤ q ∧ q < d + 8) ∨ (d + 29 ≤ q ∧ q < d + 87) ∨ q = d) w (ctW N w w1) := fun {hfx} => ctW_fr (fun q hq hn => (hfx q hn).trans ((hf1 q (fun z => by simp only [gIn] at z; omega)).trans (hwL1 q hq)))
    refine g_xout S hI hS htab hlocks hP9 hcell hcv hcl ?_ (Nat.le_of_ble_eq_true rfl) (Nat.le_of_ble_eq_true rfl)
    rcases hpx with ⟨z1, z2, z3, z4, z5, z6⟩ | ⟨z1, z2, z3, z4, z5, z6⟩ | ⟨z1, n, z2, z3, z4, z5, z6, z7, z8⟩
    · exact Or.inl ⟨z1, z2, hfz (hfx := z3), DM_mv z4 (M := N) (by omega) (Nat.le_refl _) hadL1 (fun p h1 h2 => ctW_lt (by omega)), SH_mv z5 (M := N) (by omega) (Nat.le_refl _) hadL1 (fun p h1 h2 => ctW_lt (by omega)), z6.mv (M := N) (by omega) (Nat.le_refl _) hadL1 (fun p h1 h2 => ctW_lt (by omega))⟩
    · exact Or.inr (Or.inl ⟨z1, z2, hfz (hfx := z3), DM_mv z4 (M := N) (by omega) (Nat.le_refl _) hadL1 (fun p h1 h2 => ctW_lt (by omega)), SH_mv z5 (M := N) (by omega) (Nat.le_refl _) hadL1 (fun p h1 h2 => ctW_lt (by omega)), z6.mv (M := N) (by omega) (Nat.le_refl _) hadL1 (fun p h1 h2 => ctW_lt (by omega))⟩)
    · exact Or.inr (Or.inr ⟨z1, n, z2, z3, z4, DM_mv z5 (M := N) (by omega) (Nat.le_refl _) hadL1 (fun p h1 h2 => ctW_lt (by omega)), SH_mv z6 (M := N) (by omega) (Nat.le_refl _) hadL1 (fun p h1 h2 => ctW_lt (by omega)), z7.mv (M := N) (by omega) (Nat.le_refl _) hadL1 (fun p h1 h2 => ctW_lt (by omega)), hfz (hfx := z8)⟩)
  · have hP9 : gP E ad N (ctW N w w1) H := ((hP.cut N (Nat.le_succ N)).ad (fun p hp => hadL1 p hp)).to (fun p hp => (ctW_lt hp).symm)
    have hfz : ∀ {hfx : gFr (fun q => (d + 1 ≤ q ∧ q < d + 8) ∨ (d + 29 ≤ q ∧ q < d + 87) ∨ q = d) w5 w1}, gFr (fun q => (d + 1 ≤ q ∧ q < d + 8) ∨ (d + 29 ≤ q ∧ q < d + 87) ∨ q = d) w (ctW N w w1) := fun {hfx} => ctW_fr (fun q hq hn => (hfx q hn).trans ((hf1 q (fun z => by simp only [gIn] at z; omega)).trans (hwL1 q hq)))
    obtain ⟨k, u, y1, y2, y3, y4, y5, y6, y7⟩ := hq
    rw [y3]
    exact vx_ret (g_iret S hr hlocks (hP9) hS (⟨k, u, y1, y2, rfl, SH_mv y4 (M := N) (by omega) (Nat.le_refl _) hadL1 (fun p h1 h2 => ctW_lt (by omega)), y5.mv (M := N) (by omega) (Nat.le_refl _) hadL1 (fun p h1 h2 => ctW_lt (by omega)), DM_mv y6 (M := N) (by omega) (Nat.le_refl _) hadL1 (fun p h1 h2 => ctW_lt (by omega)), hfz (hfx := y7)⟩) (fun _ _ => rfl) (Nat.le_of_ble_eq_true rfl) (Nat.le_of_ble_eq_true rfl) dX12_drape_16)
set_option maxHeartbeats 4000000 in
set_option maxRecDepth 100000 in
/-- pour -/
theorem mX12_pour (l : Launch) {E : gE} {ad : Nat → Nat} {N : Nat} {w : Nat → va_E} (kk : Nat → Nat) (hzv : gHv E kk) (d : Nat) (sv : Nat) (fp dq : Option Nat) (dd : Int32) (dc : Option Nat) (ht dr pg wt wr mo : Nat → Nat) (mc ni po dn : Nat) (pl ct : Nat) (K : Nat → Sh) (x y v : Int32) (hb_d : bkP N w d 1 (DMC E ad d sv fp dq dd dc)) (hb_s : bkP N w (d + 1) 7 (SHC E ad (d + 1) ht dr pg wt wr mo mc ni po dn)) (hlt : l.stackTraces = false) (hz : gHx E) (hdN : d + 116 ≤ N) (hh : hsP E ad N w (d + 29) pl ct K) (hpl : pl < 8) (hct : ct ≤ 8) (hht : ∀ k, k < 36 → ht k ≤ 99) (hpg : ∀ k, k < 36 → pg k ≤ 1) (hwr : ∀ k, k < 36 → wr k ≤ 3) (hm : mc ≤ 4) (hmo : ∀ k, k < mc → mo k < 36) : gXi l yX12_pour (lw_ws yX12_pour cX12_pour 4 (some .int)) ({ frames := 8, cells := 2, slots := 9, locals := 181 } : Room) E ad N w [.ref (ad (d)), .int (x), .int (y), .int (v)] (fun r w' => ∃ k u, cmK 4 (cellV x y) v k u mc ∧ cmR ht pg wr mo mc 4 (cellV x y) v = nI 0 ∧ r = (cmS 4 k u ht dr pg wt wr mo mc ni po dn).1 ∧ bkP N w' (d + 1) 7 (shC E ad (d + 1) (cmS 4 k u ht dr pg wt wr mo mc ni po dn).2) ∧ hsP E ad N w' (d + 29) ((pl + 1) % 8) (min (ct + 1) 8) (va_up K pl (cpS (ht, dr, pg, wt, wr, mo, mc, ni, po, dn) (K pl))) ∧ bkP N w' d 1 (DMC E ad d sv fp dq dd dc) ∧ gFr (fun q => (d + 1 ≤ q ∧ q < d + 8) ∨ (d + 29 ≤ q ∧ q < d + 87) ∨ q = d) w w') (fun xc w' => (xc = xIO ∧ cmR ht pg wr mo mc 4 (cellV x y) v = -1 ∧ gFr (fun q => (d + 1 ≤ q ∧ q < d + 8) ∨ (d + 29 ≤ q ∧ q < d + 87) ∨ q = d) w w' ∧ bkP N w' d 1 (DMC E ad d sv fp dq dd dc) ∧ bkP N w' (d + 1) 7 (SHC E ad (d + 1) ht dr pg wt wr mo mc ni po dn) ∧ hsP E ad N w' (d + 29) pl ct K) ∨ (xc = xIA ∧ cmR ht pg wr mo mc 4 (cellV x y) v = -2 ∧ gFr (fun q => (d + 1 ≤ q ∧ q < d + 8) ∨ (d + 29 ≤ q ∧ q < d + 87) ∨ q = d) w w' ∧ bkP N w' d 1 (DMC E ad d sv fp dq dd dc) ∧ bkP N w' (d + 1) 7 (SHC E ad (d + 1) ht dr pg wt wr mo mc ni po dn) ∧ hsP E ad N w' (d + 29) pl ct K) ∨ (xc = xUO ∧ ∃ n, 0 < n ∧ n < 7 ∧ cmR ht pg wr mo mc 4 (cellV x y) v = nI n ∧ bkP N w' d 1 (DMC E ad d sv fp (some n) (cmT pg wr mo mc n (cellV x y) v) none) ∧ bkP N w' (d + 1) 7 (SHC E ad (d + 1) ht dr pg wt wr mo mc ni po dn) ∧ hsP E ad N w' (d + 29) pl ct K ∧ gFr (fun q => (d + 1 ≤ q ∧ q < d + 8) ∨ (d + 29 ≤ q ∧ q < d + 87) ∨ q = d) w w')) 2 9 := by
  refine vx_ofW (cc := cX12_pour) (maxL := 4) (ret := (some .int)) (by decide) rfl ?_
  intro p e s m args below meth cd s₁ B hml htab hv
  obtain ⟨rfl, hI, hP⟩ := hv
  obtain ⟨S, hr, hlocks⟩ := gPre (ws := []) B hml (C := RX12) rfl
  have hx := S.1
  have hb := S.2.1
  have hzk := hzv s s.heap hI.2.2.2.2
  have hS : va_S (gA E) s.heap s.heap [] := va_S.rf
  have hl := lv_entry ([.ref (ad (d)), .int (x), .int (y), .int (v)]) (n := 4) (Nat.le_of_ble_eq_true rfl)
  rw [lg_entry_eq]
  generalize (lg_sl ([.ref (ad (d)), .int (x), .int (y), .int (v)]) ++ List.replicate (4 - (lg_sl ([.ref (ad (d)), .int (x), .int (y), .int (v)])).length) Slot.unset).toArray = ls at hl ⊢
  have hl : lv_has ls 4 [(0, .ref (ad (d))), (1, .int (x)), (2, .int (y)), (3, .int (v))] := hl
  refine lv_aload_n hx hb dX12_pour_0 rfl (lv_at hl 0 rfl) ?_
  refine g_newM S hI hP hS (ci := 6) uX2 rfl tyX2 tyX2_ok q452 q453 q101 (fs := [.null, .int 0, .int 0]) (fun j hj => by match j, hj with | 0, _ => rfl | 1, _ => rfl | 2, _ => rfl) (Nat.le_of_ble_eq_true rfl) (Nat.le_of_ble_eq_true rfl) dX12_pour_1 (fun ad1 wn1 H hP hS hadL1 hwL1 hwN1 => ?_)
  rw [show ([.ref (ad1 (N)), .ref (ad (d))] : List Value) = [.ref (ad1 (N)), .ref (ad1 (d))] by rw [hadL1 (d) (by omega)]]
  have hl : lv_has ls 4 [(0, .ref (ad1 (d))), (1, .int (x)), (2, .int (y)), (3, .int (v))] := by rw [hadL1 (d) (by omega)]; exact hl
  have hb1 := DM_mv hb_d (w' := wn1) (M := N) (by omega) (Nat.le_succ _) (fun p hp => (hadL1 p hp).symm) (fun p h1 h2 => hwL1 p (by omega))
  have hb2 := SH_mv hb_s (w' := wn1) (M := N) (by omega) (Nat.le_succ _) (fun p hp => (hadL1 p hp).symm) (fun p h1 h2 => hwL1 p (by omega))
  have hh1 := hh.mv (w' := wn1) (M := N) (by omega) (Nat.le_succ _) (fun p hp => (hadL1 p hp).symm) (fun p h1 h2 => hwL1 p (by omega))
  refine lv_dup hx hb dX12_pour_4 rfl ?_
  refine g_gets S hS (hzk.1 4 (by decide)).1.1 q989 dX12_pour_5 ?_
  refine lv_iload_n hx hb dX12_pour_8 rfl (lv_at hl 1 rfl) ?_
  refine lv_iload_n hx hb dX12_pour_9 rfl (lv_at hl 2 rfl) ?_
  refine g_roi (g_runS S hI hP hS (k := 2) (As := [.int (x), .int (y)]) (rest := [.ref (kk 4), .ref (ad1 (N)), .ref (ad1 (N)), .ref (ad1 (d))]) (mX12_cellOf l x y) q677 q678 q82 q679 rfl rfl (by decide +kernel) ⟨Nat.le_of_ble_eq_true rfl, Nat.le_of_ble_eq_true rfl⟩ rfl hl.1 rfl (Nat.le_of_ble_eq_true rfl) ⟨(Nat.le_of_ble_eq_true rfl), (Nat.le_of_ble_eq_true rfl)⟩ dX12_pour_10) hS (fun H locs hP hS => ?_)
  refine lv_iload_n hx hb dX12_pour_13 rfl (lv_at hl 3 rfl) ?_
  refine g_afv (g_runI S hI hP hS (k := 3) (b := N) (As := [.ref (kk 4), .int (oI (cellV x y)), .int (v)]) (rest := [.ref (ad1 (N)), .ref (ad1 (d))]) (mX2_init l kk N 4 (cellV x y) v (Nat.lt_succ_self _) hwN1) q456 q457 q101 q458 rfl rfl rfl (by decide +kernel) ⟨(Nat.le_of_ble_eq_true rfl), (Nat.le_of_ble_eq_true rfl)⟩ rfl hl.1 rfl (Nat.le_of_ble_eq_true rfl) ⟨(Nat.le_of_ble_eq_true rfl), (Nat.le_of_ble_eq_true rfl)⟩ dX12_pour_14) hS (fun w5 H locs hq hP hS => ?_)
  obtain ⟨hbc, hf1⟩ := hq
  have hx_d := hb1.fr hf1 (fun k hk => by show ¬ _; simp only [gIn]; omega)
  have hx_s := hb2.fr hf1 (fun k hk => by show ¬ _; simp only [gIn]; omega)
  have hh2 := hh1.fr hf1 (fun q a b => by show ¬ _; simp only [gIn]; omega)
  refine g_xafi (g_xrunV S hI hP hS (k := 1) (As := [.ref (ad1 (N))]) (rest := []) (mX12_change l kk hzv d sv fp dq dd dc ht dr pg wt wr mo mc ni po dn pl ct K N 4 (cellV x y) v hx_d hx_s hbc hlt hz hdN hh2 hpl hct (by decide) (fun k h => cellV_lt h) hht hpg hwr hm hmo) q473 q475 q0 q82 q476 rfl rfl (by decide +kernel) ⟨(Nat.le_of_ble_eq_true rfl), (Nat.le_of_ble_eq_true rfl)⟩ rfl (hx_d.lt 0 (by decide)) (hx_d.2 0 (by decide)) rfl hl.1 rfl (Nat.le_of_ble_eq_true rfl) ⟨(Nat.le_of_ble_eq_true rfl), (Nat.le_of_ble_eq_true rfl)⟩ dX12_pour_17) hS (fun xc w1 xq ce H locs hpx hP hS hcell hcv hcl => ?_) (fun rz w1 H locs hq hP hS => ?_)
  · have hP9 : gP E ad N (ctW N w w1) H := ((hP.cut N (Nat.le_succ N)).ad (fun p hp => hadL1 p hp)).to (fun p hp => (ctW_lt hp).symm)
    have hfz : ∀ {hfx : gFr (fun q => (d + 1 ≤ q ∧ q < d + 8) ∨ (d + 29 ≤ q ∧ q < d + 87) ∨ q = d) w5 w1}, gFr (fun q => (d + 1 ≤ q ∧ q < d + 8) ∨ (d + 29 ≤ q ∧ q < d + 87) ∨ q = d) w (ctW N w w1) := fun {hfx} => ctW_fr (fun q hq hn => (hfx q hn).trans ((hf1 q (fun z => by simp only [gIn] at z; omega)).trans (hwL1 q hq)))
    refine g_xout S hI hS htab hlocks hP9 hcell hcv hcl ?_ (Nat.le_of_ble_eq_true rfl) (Nat.le_of_ble_eq_true rfl)
    rcases hpx with ⟨z1, z2, z3, z4, z5, z6⟩ | ⟨z1, z2, z3, z4, z5, z6⟩ | ⟨z1, n, z2, z3, z4, z5, z6, z7, z8⟩
    · exact Or.inl ⟨z1, z2, hfz (hfx := z3), DM_mv z4 (M := N) (by omega) (Nat.le_refl _) hadL1 (fun p h1 h2 => ctW_lt (by omega)), SH_mv z5 (M := N) (by omega) (Nat.le_refl _) hadL1 (fun p h1 h2 => ctW_lt (by omega)), z6.mv (M := N) (by omega) (Nat.le_refl _) hadL1 (fun p h1 h2 => ctW_lt (by omega))⟩
    · exact Or.inr (Or.inl ⟨z1, z2, hfz (hfx := z3), DM_mv z4 (M := N) (by omega) (Nat.le_refl _) hadL1 (fun p h1 h2 => ctW_lt (by omega)), SH_mv z5 (M := N) (by omega) (Nat.le_refl _) hadL1 (fun p h1 h2 => ctW_lt (by omega)), z6.mv (M := N) (by omega) (Nat.le_refl _) hadL1 (fun p h1 h2 => ctW_lt (by omega))⟩)
    · exact Or.inr (Or.inr ⟨z1, n, z2, z3, z4, DM_mv z5 (M := N) (by omega) (Nat.le_refl _) hadL1 (fun p h1 h2 => ctW_lt (by omega)), SH_mv z6 (M := N) (by omega) (Nat.le_refl _) hadL1 (fun p h1 h2 => ctW_lt (by omega)), z7.mv (M := N) (by omega) (Nat.le_refl _) hadL1 (fun p h1 h2 => ctW_lt (by omega)), hfz (hfx := z8)⟩)
  · have hP9 : gP E ad N (ctW N w w1) H := ((hP.cut N (Nat.le_succ N)).ad (fun p hp => hadL1 p hp)).to (fun p hp => (ctW_lt hp).symm)
    have hfz : ∀ {hfx : gFr (fun q => (d + 1 ≤ q ∧ q < d + 8) ∨ (d + 29 ≤ q ∧ q < d + 87) ∨ q = d) w5 w1}, gFr (fun q => (d + 1 ≤ q ∧ q < d + 8) ∨ (d + 29 ≤ q ∧ q < d + 87) ∨ q = d) w (ctW N w w1) := fun {hfx} => ctW_fr (fun q hq hn => (hfx q hn).trans ((hf1 q (fun z => by simp only [gIn] at z; omega)).trans (hwL1 q hq)))
    obtain ⟨k, u, y1, y2, y3, y4, y5, y6, y7⟩ := hq
    rw [y3]
    exact vx_ret (g_iret S hr hlocks (hP9) hS (⟨k, u, y1, y2, rfl, SH_mv y4 (M := N) (by omega) (Nat.le_refl _) hadL1 (fun p h1 h2 => ctW_lt (by omega)), y5.mv (M := N) (by omega) (Nat.le_refl _) hadL1 (fun p h1 h2 => ctW_lt (by omega)), DM_mv y6 (M := N) (by omega) (Nat.le_refl _) hadL1 (fun p h1 h2 => ctW_lt (by omega)), hfz (hfx := y7)⟩) (fun _ _ => rfl) (Nat.le_of_ble_eq_true rfl) (Nat.le_of_ble_eq_true rfl) dX12_pour_20)
set_option maxHeartbeats 4000000 in
set_option maxRecDepth 100000 in
/-- settle -/
theorem mX12_settle (l : Launch) {E : gE} {ad : Nat → Nat} {N : Nat} {w : Nat → va_E} (kk : Nat → Nat) (hzv : gHv E kk) (d : Nat) (sv : Nat) (fp dq : Option Nat) (dd : Int32) (dc : Option Nat) (ht dr pg wt wr mo : Nat → Nat) (mc ni po dn : Nat) (pl ct : Nat) (K : Nat → Sh)  (hb_d : bkP N w d 1 (DMC E ad d sv fp dq dd dc)) (hb_s : bkP N w (d + 1) 7 (SHC E ad (d + 1) ht dr pg wt wr mo mc ni po dn)) (hlt : l.stackTraces = false) (hz : gHx E) (hdN : d + 116 ≤ N) (hh : hsP E ad N w (d + 29) pl ct K) (hpl : pl < 8) (hct : ct ≤ 8) (hht : ∀ k, k < 36 → ht k ≤ 99) (hpg : ∀ k, k < 36 → pg k ≤ 1) (hwr : ∀ k, k < 36 → wr k ≤ 3) (hm : mc ≤ 4) (hmo : ∀ k, k < mc → mo k < 36) : gXi l yX12_settle (lw_ws yX12_settle cX12_settle 1 (some .int)) ({ frames := 8, cells := 2, slots := 9, locals := 181 } : Room) E ad N w [.ref (ad (d))] (fun r w' => ∃ k u, cmK 5 none (-1) k u mc ∧ cmR ht pg wr mo mc 5 none (-1) = nI 0 ∧ r = (cmS 5 k u ht dr pg wt wr mo mc ni po dn).1 ∧ bkP N w' (d + 1) 7 (shC E ad (d + 1) (cmS 5 k u ht dr pg wt wr mo mc ni po dn).2) ∧ hsP E ad N w' (d + 29) ((pl + 1) % 8) (min (ct + 1) 8) (va_up K pl (cpS (ht, dr, pg, wt, wr, mo, mc, ni, po, dn) (K pl))) ∧ bkP N w' d 1 (DMC E ad d sv fp dq dd dc) ∧ gFr (fun q => (d + 1 ≤ q ∧ q < d + 8) ∨ (d + 29 ≤ q ∧ q < d + 87) ∨ q = d) w w') (fun xc w' => (xc = xIO ∧ cmR ht pg wr mo mc 5 none (-1) = -1 ∧ gFr (fun q => (d + 1 ≤ q ∧ q < d + 8) ∨ (d + 29 ≤ q ∧ q < d + 87) ∨ q = d) w w' ∧ bkP N w' d 1 (DMC E ad d sv fp dq dd dc) ∧ bkP N w' (d + 1) 7 (SHC E ad (d + 1) ht dr pg wt wr mo mc ni po dn) ∧ hsP E ad N w' (d + 29) pl ct K) ∨ (xc = xIA ∧ cmR ht pg wr mo mc 5 none (-1) = -2 ∧ gFr (fun q => (d + 1 ≤ q ∧ q < d + 8) ∨ (d + 29 ≤ q ∧ q < d + 87) ∨ q = d) w w' ∧ bkP N w' d 1 (DMC E ad d sv fp dq dd dc) ∧ bkP N w' (d + 1) 7 (SHC E ad (d + 1) ht dr pg wt wr mo mc ni po dn) ∧ hsP E ad N w' (d + 29) pl ct K) ∨ (xc = xUO ∧ ∃ n, 0 < n ∧ n < 7 ∧ cmR ht pg wr mo mc 5 none (-1) = nI n ∧ bkP N w' d 1 (DMC E ad d sv fp (some n) (cmT pg wr mo mc n none (-1)) none) ∧ bkP N w' (d + 1) 7 (SHC E ad (d + 1) ht dr pg wt wr mo mc ni po dn) ∧ hsP E ad N w' (d + 29) pl ct K ∧ gFr (fun q => (d + 1 ≤ q ∧ q < d + 8) ∨ (d + 29 ≤ q ∧ q < d + 87) ∨ q = d) w w')) 2 9 := by
  refine vx_ofW (cc := cX12_settle) (maxL := 1) (ret := (some .int)) (by decide) rfl ?_
  intro p e s m args below meth cd s₁ B hml htab hv
  obtain ⟨rfl, hI, hP⟩ := hv
  obtain ⟨S, hr, hlocks⟩ := gPre (ws := []) B hml (C := RX12) rfl
  have hx := S.1
  have hb := S.2.1
  have hzk := hzv s s.heap hI.2.2.2.2
  have hS : va_S (gA E) s.heap s.heap [] := va_S.rf
  have hl := lv_entry ([.ref (ad (d))]) (n := 1) (Nat.le_of_ble_eq_true rfl)
  rw [lg_entry_eq]
  generalize (lg_sl ([.ref (ad (d))]) ++ List.replicate (1 - (lg_sl ([.ref (ad (d))])).length) Slot.unset).toArray = ls at hl ⊢
  have hl : lv_has ls 1 [(0, .ref (ad (d)))] := hl
  refine lv_aload_n hx hb dX12_settle_0 rfl (lv_at hl 0 rfl) ?_
  refine g_newM S hI hP hS (ci := 6) uX2 rfl tyX2 tyX2_ok q452 q453 q101 (fs := [.null, .int 0, .int 0]) (fun j hj => by match j, hj with | 0, _ => rfl | 1, _ => rfl | 2, _ => rfl) (Nat.le_of_ble_eq_true rfl) (Nat.le_of_ble_eq_true rfl) dX12_settle_1 (fun ad1 wn1 H hP hS hadL1 hwL1 hwN1 => ?_)
  rw [show ([.ref (ad1 (N)), .ref (ad (d))] : List Value) = [.ref (ad1 (N)), .ref (ad1 (d))] by rw [hadL1 (d) (by omega)]]
  have hl : lv_has ls 1 [(0, .ref (ad1 (d)))] := by rw [hadL1 (d) (by omega)]; exact hl
  have hb1 := DM_mv hb_d (w' := wn1) (M := N) (by omega) (Nat.le_succ _) (fun p hp => (hadL1 p hp).symm) (fun p h1 h2 => hwL1 p (by omega))
  have hb2 := SH_mv hb_s (w' := wn1) (M := N) (by omega) (Nat.le_succ _) (fun p hp => (hadL1 p hp).symm) (fun p h1 h2 => hwL1 p (by omega))
  have hh1 := hh.mv (w' := wn1) (M := N) (by omega) (Nat.le_succ _) (fun p hp => (hadL1 p hp).symm) (fun p h1 h2 => hwL1 p (by omega))
  refine lv_dup hx hb dX12_settle_4 rfl ?_
  refine g_gets S hS (hzk.1 5 (by decide)).1.1 q728 dX12_settle_5 ?_
  refine lv_iconst (v := -1) hx hb dX12_settle_8 (by decide +kernel) ?_
  refine lv_iconst (v := -1) hx hb dX12_settle_9 (by decide +kernel) ?_
  refine g_afv (g_runI S hI hP hS (k := 3) (b := N) (As := [.ref (kk 5), .int (oI (none)), .int (-1)]) (rest := [.ref (ad1 (N)), .ref (ad1 (d))]) (mX2_init l kk N 5 none (-1) (Nat.lt_succ_self _) hwN1) q456 q457 q101 q458 rfl rfl rfl (by decide +kernel) ⟨(Nat.le_of_ble_eq_true rfl), (Nat.le_of_ble_eq_true rfl)⟩ rfl hl.1 rfl (Nat.le_of_ble_eq_true rfl) ⟨(Nat.le_of_ble_eq_true rfl), (Nat.le_of_ble_eq_true rfl)⟩ dX12_settle_10) hS (fun w5 H locs hq hP hS => ?_)
  obtain ⟨hbc, hf1⟩ := hq
  have hx_d := hb1.fr hf1 (fun k hk => by show ¬ _; simp only [gIn]; omega)
  have hx_s := hb2.fr hf1 (fun k hk => by show ¬ _; simp only [gIn]; omega)
  have hh2 := hh1.fr hf1 (fun q a b => by show ¬ _; simp only [gIn]; omega)
  refine g_xafi (g_xrunV S hI hP hS (k := 1) (As := [.ref (ad1 (N))]) (rest := []) (mX12_change l kk hzv d sv fp dq dd dc ht dr pg wt wr mo mc ni po dn pl ct K N 5 none (-1) hx_d hx_s hbc hlt hz hdN hh2 hpl hct (by decide) (fun k h => by cases h) hht hpg hwr hm hmo) q473 q475 q0 q82 q476 rfl rfl (by decide +kernel) ⟨(Nat.le_of_ble_eq_true rfl), (Nat.le_of_ble_eq_true rfl)⟩ rfl (hx_d.lt 0 (by decide)) (hx_d.2 0 (by decide)) rfl hl.1 rfl (Nat.le_of_ble_eq_true rfl) ⟨(Nat.le_of_ble_eq_true rfl), (Nat.le_of_ble_eq_true rfl)⟩ dX12_settle_13) hS (fun xc w1 xq ce H locs hpx hP hS hcell hcv hcl => ?_) (fun rz w1 H locs hq hP hS => ?_)
  · have hP9 : gP E ad N (ctW N w w1) H := ((hP.cut N (Nat.le_succ N)).ad (fun p hp => hadL1 p hp)).to (fun p hp => (ctW_lt hp).symm)
    have hfz : ∀ {hfx : gFr (fun q => (d + 1 ≤ q ∧ q < d + 8) ∨ (d + 29 ≤ q ∧ q < d + 87) ∨ q = d) w5 w1}, gFr (fun q => (d + 1 ≤ q ∧ q < d + 8) ∨ (d + 29 ≤ q ∧ q < d + 87) ∨ q = d) w (ctW N w w1) := fun {hfx} => ctW_fr (fun q hq hn => (hfx q hn).trans ((hf1 q (fun z => by simp only [gIn] at z; omega)).trans (hwL1 q hq)))
    refine g_xout S hI hS htab hlocks hP9 hcell hcv hcl ?_ (Nat.le_of_ble_eq_true rfl) (Nat.le_of_ble_eq_true rfl)
    rcases hpx with ⟨z1, z2, z3, z4, z5, z6⟩ | ⟨z1, z2, z3, z4, z5, z6⟩ | ⟨z1, n, z2, z3, z4, z5, z6, z7, z8⟩
    · exact Or.inl ⟨z1, z2, hfz (hfx := z3), DM_mv z4 (M := N) (by omega) (Nat.le_refl _) hadL1 (fun p h1 h2 => ctW_lt (by omega)), SH_mv z5 (M := N) (by omega) (Nat.le_refl _) hadL1 (fun p h1 h2 => ctW_lt (by omega)), z6.mv (M := N) (by omega) (Nat.le_refl _) hadL1 (fun p h1 h2 => ctW_lt (by omega))⟩
    · exact Or.inr (Or.inl ⟨z1, z2, hfz (hfx := z3), DM_mv z4 (M := N) (by omega) (Nat.le_refl _) hadL1 (fun p h1 h2 => ctW_lt (by omega)), SH_mv z5 (M := N) (by omega) (Nat.le_refl _) hadL1 (fun p h1 h2 => ctW_lt (by omega)), z6.mv (M := N) (by omega) (Nat.le_refl _) hadL1 (fun p h1 h2 => ctW_lt (by omega))⟩)
    · exact Or.inr (Or.inr ⟨z1, n, z2, z3, z4, DM_mv z5 (M := N) (by omega) (Nat.le_refl _) hadL1 (fun p h1 h2 => ctW_lt (by omega)), SH_mv z6 (M := N) (by omega) (Nat.le_refl _) hadL1 (fun p h1 h2 => ctW_lt (by omega)), z7.mv (M := N) (by omega) (Nat.le_refl _) hadL1 (fun p h1 h2 => ctW_lt (by omega)), hfz (hfx := z8)⟩)
  · have hP9 : gP E ad N (ctW N w w1) H := ((hP.cut N (Nat.le_succ N)).ad (fun p hp => hadL1 p hp)).to (fun p hp => (ctW_lt hp).symm)
    have hfz : ∀ {hfx : gFr (fun q => (d + 1 ≤ q ∧ q < d + 8) ∨ (d + 29 ≤ q ∧ q < d + 87) ∨ q = d) w5 w1}, gFr (fun q => (d + 1 ≤ q ∧ q < d + 8) ∨ (d + 29 ≤ q ∧ q < d + 87) ∨ q = d) w (ctW N w w1) := fun {hfx} => ctW_fr (fun q hq hn => (hfx q hn).trans ((hf1 q (fun z => by simp only [gIn] at z; omega)).trans (hwL1 q hq)))
    obtain ⟨k, u, y1, y2, y3, y4, y5, y6, y7⟩ := hq
    rw [y3]
    exact vx_ret (g_iret S hr hlocks (hP9) hS (⟨k, u, y1, y2, rfl, SH_mv y4 (M := N) (by omega) (Nat.le_refl _) hadL1 (fun p h1 h2 => ctW_lt (by omega)), y5.mv (M := N) (by omega) (Nat.le_refl _) hadL1 (fun p h1 h2 => ctW_lt (by omega)), DM_mv y6 (M := N) (by omega) (Nat.le_refl _) hadL1 (fun p h1 h2 => ctW_lt (by omega)), hfz (hfx := y7)⟩) (fun _ _ => rfl) (Nat.le_of_ble_eq_true rfl) (Nat.le_of_ble_eq_true rfl) dX12_settle_16)
set_option maxHeartbeats 4000000 in
set_option maxRecDepth 100000 in
/-- addMoth -/
theorem mX12_addMoth (l : Launch) {E : gE} {ad : Nat → Nat} {N : Nat} {w : Nat → va_E} (kk : Nat → Nat) (hzv : gHv E kk) (d : Nat) (sv : Nat) (fp dq : Option Nat) (dd : Int32) (dc : Option Nat) (ht dr pg wt wr mo : Nat → Nat) (mc ni po dn : Nat) (pl ct : Nat) (K : Nat → Sh) (x y : Int32) (hb_d : bkP N w d 1 (DMC E ad d sv fp dq dd dc)) (hb_s : bkP N w (d + 1) 7 (SHC E ad (d + 1) ht dr pg wt wr mo mc ni po dn)) (hlt : l.stackTraces = false) (hz : gHx E) (hdN : d + 116 ≤ N) (hh : hsP E ad N w (d + 29) pl ct K) (hpl : pl < 8) (hct : ct ≤ 8) (hht : ∀ k, k < 36 → ht k ≤ 99) (hpg : ∀ k, k < 36 → pg k ≤ 1) (hwr : ∀ k, k < 36 → wr k ≤ 3) (hm : mc ≤ 4) (hmo : ∀ k, k < mc → mo k < 36) : gXi l yX12_addMoth (lw_ws yX12_addMoth cX12_addMoth 3 (some .int)) ({ frames := 8, cells := 2, slots := 9, locals := 181 } : Room) E ad N w [.ref (ad (d)), .int (x), .int (y)] (fun r w' => ∃ k u, cmK 6 (cellV x y) (-1) k u mc ∧ cmR ht pg wr mo mc 6 (cellV x y) (-1) = nI 0 ∧ r = (cmS 6 k u ht dr pg wt wr mo mc ni po dn).1 ∧ bkP N w' (d + 1) 7 (shC E ad (d + 1) (cmS 6 k u ht dr pg wt wr mo mc ni po dn).2) ∧ hsP E ad N w' (d + 29) ((pl + 1) % 8) (min (ct + 1) 8) (va_up K pl (cpS (ht, dr, pg, wt, wr, mo, mc, ni, po, dn) (K pl))) ∧ bkP N w' d 1 (DMC E ad d sv fp dq dd dc) ∧ gFr (fun q => (d + 1 ≤ q ∧ q < d + 8) ∨ (d + 29 ≤ q ∧ q < d + 87) ∨ q = d) w w') (fun xc w' => (xc = xIO ∧ cmR ht pg wr mo mc 6 (cellV x y) (-1) = -1 ∧ gFr (fun q => (d + 1 ≤ q ∧ q < d + 8) ∨ (d + 29 ≤ q ∧ q < d + 87) ∨ q = d) w w' ∧ bkP N w' d 1 (DMC E ad d sv fp dq dd dc) ∧ bkP N w' (d + 1) 7 (SHC E ad (d + 1) ht dr pg wt wr mo mc ni po dn) ∧ hsP E ad N w' (d + 29) pl ct K) ∨ (xc = xIA ∧ cmR ht pg wr mo mc 6 (cellV x y) (-1) = -2 ∧ gFr (fun q => (d + 1 ≤ q ∧ q < d + 8) ∨ (d + 29 ≤ q ∧ q < d + 87) ∨ q = d) w w' ∧ bkP N w' d 1 (DMC E ad d sv fp dq dd dc) ∧ bkP N w' (d + 1) 7 (SHC E ad (d + 1) ht dr pg wt wr mo mc ni po dn) ∧ hsP E ad N w' (d + 29) pl ct K) ∨ (xc = xUO ∧ ∃ n, 0 < n ∧ n < 7 ∧ cmR ht pg wr mo mc 6 (cellV x y) (-1) = nI n ∧ bkP N w' d 1 (DMC E ad d sv fp (some n) (cmT pg wr mo mc n (cellV x y) (-1)) none) ∧ bkP N w' (d + 1) 7 (SHC E ad (d + 1) ht dr pg wt wr mo mc ni po dn) ∧ hsP E ad N w' (d + 29) pl ct K ∧ gFr (fun q => (d + 1 ≤ q ∧ q < d + 8) ∨ (d + 29 ≤ q ∧ q < d + 87) ∨ q = d) w w')) 2 9 := by
  refine vx_ofW (cc := cX12_addMoth) (maxL := 3) (ret := (some .int)) (by decide) rfl ?_
  intro p e s m args below meth cd s₁ B hml htab hv
  obtain ⟨rfl, hI, hP⟩ := hv
  obtain ⟨S, hr, hlocks⟩ := gPre (ws := []) B hml (C := RX12) rfl
  have hx := S.1
  have hb := S.2.1
  have hzk := hzv s s.heap hI.2.2.2.2
  have hS : va_S (gA E) s.heap s.heap [] := va_S.rf
  have hl := lv_entry ([.ref (ad (d)), .int (x), .int (y)]) (n := 3) (Nat.le_of_ble_eq_true rfl)
  rw [lg_entry_eq]
  generalize (lg_sl ([.ref (ad (d)), .int (x), .int (y)]) ++ List.replicate (3 - (lg_sl ([.ref (ad (d)), .int (x), .int (y)])).length) Slot.unset).toArray = ls at hl ⊢
  have hl : lv_has ls 3 [(0, .ref (ad (d))), (1, .int (x)), (2, .int (y))] := hl
  refine lv_aload_n hx hb dX12_addMoth_0 rfl (lv_at hl 0 rfl) ?_
  refine g_newM S hI hP hS (ci := 6) uX2 rfl tyX2 tyX2_ok q452 q453 q101 (fs := [.null, .int 0, .int 0]) (fun j hj => by match j, hj with | 0, _ => rfl | 1, _ => rfl | 2, _ => rfl) (Nat.le_of_ble_eq_true rfl) (Nat.le_of_ble_eq_true rfl) dX12_addMoth_1 (fun ad1 wn1 H hP hS hadL1 hwL1 hwN1 => ?_)
  rw [show ([.ref (ad1 (N)), .ref (ad (d))] : List Value) = [.ref (ad1 (N)), .ref (ad1 (d))] by rw [hadL1 (d) (by omega)]]
  have hl : lv_has ls 3 [(0, .ref (ad1 (d))), (1, .int (x)), (2, .int (y))] := by rw [hadL1 (d) (by omega)]; exact hl
  have hb1 := DM_mv hb_d (w' := wn1) (M := N) (by omega) (Nat.le_succ _) (fun p hp => (hadL1 p hp).symm) (fun p h1 h2 => hwL1 p (by omega))
  have hb2 := SH_mv hb_s (w' := wn1) (M := N) (by omega) (Nat.le_succ _) (fun p hp => (hadL1 p hp).symm) (fun p h1 h2 => hwL1 p (by omega))
  have hh1 := hh.mv (w' := wn1) (M := N) (by omega) (Nat.le_succ _) (fun p hp => (hadL1 p hp).symm) (fun p h1 h2 => hwL1 p (by omega))
  refine lv_dup hx hb dX12_addMoth_4 rfl ?_
  refine g_gets S hS (hzk.1 6 (by decide)).1.1 q1164 dX12_addMoth_5 ?_
  refine lv_iload_n hx hb dX12_addMoth_8 rfl (lv_at hl 1 rfl) ?_
  refine lv_iload_n hx hb dX12_addMoth_9 rfl (lv_at hl 2 rfl) ?_
  refine g_roi (g_runS S hI hP hS (k := 2) (As := [.int (x), .int (y)]) (rest := [.ref (kk 6), .ref (ad1 (N)), .ref (ad1 (N)), .ref (ad1 (d))]) (mX12_cellOf l x y) q677 q678 q82 q679 rfl rfl (by decide +kernel) ⟨Nat.le_of_ble_eq_true rfl, Nat.le_of_ble_eq_true rfl⟩ rfl hl.1 rfl (Nat.le_of_ble_eq_true rfl) ⟨(Nat.le_of_ble_eq_true rfl), (Nat.le_of_ble_eq_true rfl)⟩ dX12_addMoth_10) hS (fun H locs hP hS => ?_)
  refine lv_iconst (v := -1) hx hb dX12_addMoth_13 (by decide +kernel) ?_
  refine g_afv (g_runI S hI hP hS (k := 3) (b := N) (As := [.ref (kk 6), .int (oI (cellV x y)), .int (-1)]) (rest := [.ref (ad1 (N)), .ref (ad1 (d))]) (mX2_init l kk N 6 (cellV x y) (-1) (Nat.lt_succ_self _) hwN1) q456 q457 q101 q458 rfl rfl rfl (by decide +kernel) ⟨(Nat.le_of_ble_eq_true rfl), (Nat.le_of_ble_eq_true rfl)⟩ rfl hl.1 rfl (Nat.le_of_ble_eq_true rfl) ⟨(Nat.le_of_ble_eq_true rfl), (Nat.le_of_ble_eq_true rfl)⟩ dX12_addMoth_14) hS (fun w5 H locs hq hP hS => ?_)
  obtain ⟨hbc, hf1⟩ := hq
  have hx_d := hb1.fr hf1 (fun k hk => by show ¬ _; simp only [gIn]; omega)
  have hx_s := hb2.fr hf1 (fun k hk => by show ¬ _; simp only [gIn]; omega)
  have hh2 := hh1.fr hf1 (fun q a b => by show ¬ _; simp only [gIn]; omega)
  refine g_xafi (g_xrunV S hI hP hS (k := 1) (As := [.ref (ad1 (N))]) (rest := []) (mX12_change l kk hzv d sv fp dq dd dc ht dr pg wt wr mo mc ni po dn pl ct K N 6 (cellV x y) (-1) hx_d hx_s hbc hlt hz hdN hh2 hpl hct (by decide) (fun k h => cellV_lt h) hht hpg hwr hm hmo) q473 q475 q0 q82 q476 rfl rfl (by decide +kernel) ⟨(Nat.le_of_ble_eq_true rfl), (Nat.le_of_ble_eq_true rfl)⟩ rfl (hx_d.lt 0 (by decide)) (hx_d.2 0 (by decide)) rfl hl.1 rfl (Nat.le_of_ble_eq_true rfl) ⟨(Nat.le_of_ble_eq_true rfl), (Nat.le_of_ble_eq_true rfl)⟩ dX12_addMoth_17) hS (fun xc w1 xq ce H locs hpx hP hS hcell hcv hcl => ?_) (fun rz w1 H locs hq hP hS => ?_)
  · have hP9 : gP E ad N (ctW N w w1) H := ((hP.cut N (Nat.le_succ N)).ad (fun p hp => hadL1 p hp)).to (fun p hp => (ctW_lt hp).symm)
    have hfz : ∀ {hfx : gFr (fun q => (d + 1 ≤ q ∧ q < d + 8) ∨ (d + 29 ≤ q ∧ q < d + 87) ∨ q = d) w5 w1}, gFr (fun q => (d + 1 ≤ q ∧ q < d + 8) ∨ (d + 29 ≤ q ∧ q < d + 87) ∨ q = d) w (ctW N w w1) := fun {hfx} => ctW_fr (fun q hq hn => (hfx q hn).trans ((hf1 q (fun z => by simp only [gIn] at z; omega)).trans (hwL1 q hq)))
    refine g_xout S hI hS htab hlocks hP9 hcell hcv hcl ?_ (Nat.le_of_ble_eq_true rfl) (Nat.le_of_ble_eq_true rfl)
    rcases hpx with ⟨z1, z2, z3, z4, z5, z6⟩ | ⟨z1, z2, z3, z4, z5, z6⟩ | ⟨z1, n, z2, z3, z4, z5, z6, z7, z8⟩
    · exact Or.inl ⟨z1, z2, hfz (hfx := z3), DM_mv z4 (M := N) (by omega) (Nat.le_refl _) hadL1 (fun p h1 h2 => ctW_lt (by omega)), SH_mv z5 (M := N) (by omega) (Nat.le_refl _) hadL1 (fun p h1 h2 => ctW_lt (by omega)), z6.mv (M := N) (by omega) (Nat.le_refl _) hadL1 (fun p h1 h2 => ctW_lt (by omega))⟩
    · exact Or.inr (Or.inl ⟨z1, z2, hfz (hfx := z3), DM_mv z4 (M := N) (by omega) (Nat.le_refl _) hadL1 (fun p h1 h2 => ctW_lt (by omega)), SH_mv z5 (M := N) (by omega) (Nat.le_refl _) hadL1 (fun p h1 h2 => ctW_lt (by omega)), z6.mv (M := N) (by omega) (Nat.le_refl _) hadL1 (fun p h1 h2 => ctW_lt (by omega))⟩)
    · exact Or.inr (Or.inr ⟨z1, n, z2, z3, z4, DM_mv z5 (M := N) (by omega) (Nat.le_refl _) hadL1 (fun p h1 h2 => ctW_lt (by omega)), SH_mv z6 (M := N) (by omega) (Nat.le_refl _) hadL1 (fun p h1 h2 => ctW_lt (by omega)), z7.mv (M := N) (by omega) (Nat.le_refl _) hadL1 (fun p h1 h2 => ctW_lt (by omega)), hfz (hfx := z8)⟩)
  · have hP9 : gP E ad N (ctW N w w1) H := ((hP.cut N (Nat.le_succ N)).ad (fun p hp => hadL1 p hp)).to (fun p hp => (ctW_lt hp).symm)
    have hfz : ∀ {hfx : gFr (fun q => (d + 1 ≤ q ∧ q < d + 8) ∨ (d + 29 ≤ q ∧ q < d + 87) ∨ q = d) w5 w1}, gFr (fun q => (d + 1 ≤ q ∧ q < d + 8) ∨ (d + 29 ≤ q ∧ q < d + 87) ∨ q = d) w (ctW N w w1) := fun {hfx} => ctW_fr (fun q hq hn => (hfx q hn).trans ((hf1 q (fun z => by simp only [gIn] at z; omega)).trans (hwL1 q hq)))
    obtain ⟨k, u, y1, y2, y3, y4, y5, y6, y7⟩ := hq
    rw [y3]
    exact vx_ret (g_iret S hr hlocks (hP9) hS (⟨k, u, y1, y2, rfl, SH_mv y4 (M := N) (by omega) (Nat.le_refl _) hadL1 (fun p h1 h2 => ctW_lt (by omega)), y5.mv (M := N) (by omega) (Nat.le_refl _) hadL1 (fun p h1 h2 => ctW_lt (by omega)), DM_mv y6 (M := N) (by omega) (Nat.le_refl _) hadL1 (fun p h1 h2 => ctW_lt (by omega)), hfz (hfx := y7)⟩) (fun _ _ => rfl) (Nat.le_of_ble_eq_true rfl) (Nat.le_of_ble_eq_true rfl) dX12_addMoth_20)
set_option maxHeartbeats 4000000 in
set_option maxRecDepth 100000 in
/-- removeMoth -/
theorem mX12_removeMoth (l : Launch) {E : gE} {ad : Nat → Nat} {N : Nat} {w : Nat → va_E} (kk : Nat → Nat) (hzv : gHv E kk) (d : Nat) (sv : Nat) (fp dq : Option Nat) (dd : Int32) (dc : Option Nat) (ht dr pg wt wr mo : Nat → Nat) (mc ni po dn : Nat) (pl ct : Nat) (K : Nat → Sh) (v : Int32) (hb_d : bkP N w d 1 (DMC E ad d sv fp dq dd dc)) (hb_s : bkP N w (d + 1) 7 (SHC E ad (d + 1) ht dr pg wt wr mo mc ni po dn)) (hlt : l.stackTraces = false) (hz : gHx E) (hdN : d + 116 ≤ N) (hh : hsP E ad N w (d + 29) pl ct K) (hpl : pl < 8) (hct : ct ≤ 8) (hht : ∀ k, k < 36 → ht k ≤ 99) (hpg : ∀ k, k < 36 → pg k ≤ 1) (hwr : ∀ k, k < 36 → wr k ≤ 3) (hm : mc ≤ 4) (hmo : ∀ k, k < mc → mo k < 36) : gXi l yX12_removeMoth (lw_ws yX12_removeMoth cX12_removeMoth 2 (some .int)) ({ frames := 8, cells := 2, slots := 9, locals := 181 } : Room) E ad N w [.ref (ad (d)), .int (v)] (fun r w' => ∃ k u, cmK 7 none v k u mc ∧ cmR ht pg wr mo mc 7 none v = nI 0 ∧ r = (cmS 7 k u ht dr pg wt wr mo mc ni po dn).1 ∧ bkP N w' (d + 1) 7 (shC E ad (d + 1) (cmS 7 k u ht dr pg wt wr mo mc ni po dn).2) ∧ hsP E ad N w' (d + 29) ((pl + 1) % 8) (min (ct + 1) 8) (va_up K pl (cpS (ht, dr, pg, wt, wr, mo, mc, ni, po, dn) (K pl))) ∧ bkP N w' d 1 (DMC E ad d sv fp dq dd dc) ∧ gFr (fun q => (d + 1 ≤ q ∧ q < d + 8) ∨ (d + 29 ≤ q ∧ q < d + 87) ∨ q = d) w w') (fun xc w' => (xc = xIO ∧ cmR ht pg wr mo mc 7 none v = -1 ∧ gFr (fun q => (d + 1 ≤ q ∧ q < d + 8) ∨ (d + 29 ≤ q ∧ q < d + 87) ∨ q = d) w w' ∧ bkP N w' d 1 (DMC E ad d sv fp dq dd dc) ∧ bkP N w' (d + 1) 7 (SHC E ad (d + 1) ht dr pg wt wr mo mc ni po dn) ∧ hsP E ad N w' (d + 29) pl ct K) ∨ (xc = xIA ∧ cmR ht pg wr mo mc 7 none v = -2 ∧ gFr (fun q => (d + 1 ≤ q ∧ q < d + 8) ∨ (d + 29 ≤ q ∧ q < d + 87) ∨ q = d) w w' ∧ bkP N w' d 1 (DMC E ad d sv fp dq dd dc) ∧ bkP N w' (d + 1) 7 (SHC E ad (d + 1) ht dr pg wt wr mo mc ni po dn) ∧ hsP E ad N w' (d + 29) pl ct K) ∨ (xc = xUO ∧ ∃ n, 0 < n ∧ n < 7 ∧ cmR ht pg wr mo mc 7 none v = nI n ∧ bkP N w' d 1 (DMC E ad d sv fp (some n) (cmT pg wr mo mc n none v) none) ∧ bkP N w' (d + 1) 7 (SHC E ad (d + 1) ht dr pg wt wr mo mc ni po dn) ∧ hsP E ad N w' (d + 29) pl ct K ∧ gFr (fun q => (d + 1 ≤ q ∧ q < d + 8) ∨ (d + 29 ≤ q ∧ q < d + 87) ∨ q = d) w w')) 2 9 := by
  refine vx_ofW (cc := cX12_removeMoth) (maxL := 2) (ret := (some .int)) (by decide) rfl ?_
  intro p e s m args below meth cd s₁ B hml htab hv
  obtain ⟨rfl, hI, hP⟩ := hv
  obtain ⟨S, hr, hlocks⟩ := gPre (ws := []) B hml (C := RX12) rfl
  have hx := S.1
  have hb := S.2.1
  have hzk := hzv s s.heap hI.2.2.2.2
  have hS : va_S (gA E) s.heap s.heap [] := va_S.rf
  have hl := lv_entry ([.ref (ad (d)), .int (v)]) (n := 2) (Nat.le_of_ble_eq_true rfl)
  rw [lg_entry_eq]
  generalize (lg_sl ([.ref (ad (d)), .int (v)]) ++ List.replicate (2 - (lg_sl ([.ref (ad (d)), .int (v)])).length) Slot.unset).toArray = ls at hl ⊢
  have hl : lv_has ls 2 [(0, .ref (ad (d))), (1, .int (v))] := hl
  refine lv_aload_n hx hb dX12_removeMoth_0 rfl (lv_at hl 0 rfl) ?_
  refine g_newM S hI hP hS (ci := 6) uX2 rfl tyX2 tyX2_ok q452 q453 q101 (fs := [.null, .int 0, .int 0]) (fun j hj => by match j, hj with | 0, _ => rfl | 1, _ => rfl | 2, _ => rfl) (Nat.le_of_ble_eq_true rfl) (Nat.le_of_ble_eq_true rfl) dX12_removeMoth_1 (fun ad1 wn1 H hP hS hadL1 hwL1 hwN1 => ?_)
  rw [show ([.ref (ad1 (N)), .ref (ad (d))] : List Value) = [.ref (ad1 (N)), .ref (ad1 (d))] by rw [hadL1 (d) (by omega)]]
  have hl : lv_has ls 2 [(0, .ref (ad1 (d))), (1, .int (v))] := by rw [hadL1 (d) (by omega)]; exact hl
  have hb1 := DM_mv hb_d (w' := wn1) (M := N) (by omega) (Nat.le_succ _) (fun p hp => (hadL1 p hp).symm) (fun p h1 h2 => hwL1 p (by omega))
  have hb2 := SH_mv hb_s (w' := wn1) (M := N) (by omega) (Nat.le_succ _) (fun p hp => (hadL1 p hp).symm) (fun p h1 h2 => hwL1 p (by omega))
  have hh1 := hh.mv (w' := wn1) (M := N) (by omega) (Nat.le_succ _) (fun p hp => (hadL1 p hp).symm) (fun p h1 h2 => hwL1 p (by omega))
  refine lv_dup hx hb dX12_removeMoth_4 rfl ?_
  refine g_gets S hS (hzk.1 7 (by decide)).1.1 q1173 dX12_removeMoth_5 ?_
  refine lv_iconst (v := -1) hx hb dX12_removeMoth_8 (by decide +kernel) ?_
  refine lv_iload_n hx hb dX12_removeMoth_9 rfl (lv_at hl 1 rfl) ?_
  refine g_afv (g_runI S hI hP hS (k := 3) (b := N) (As := [.ref (kk 7), .int (oI (none)), .int (v)]) (rest := [.ref (ad1 (N)), .ref (ad1 (d))]) (mX2_init l kk N 7 none v (Nat.lt_succ_self _) hwN1) q456 q457 q101 q458 rfl rfl rfl (by decide +kernel) ⟨(Nat.le_of_ble_eq_true rfl), (Nat.le_of_ble_eq_true rfl)⟩ rfl hl.1 rfl (Nat.le_of_ble_eq_true rfl) ⟨(Nat.le_of_ble_eq_true rfl), (Nat.le_of_ble_eq_true rfl)⟩ dX12_removeMoth_10) hS (fun w5 H locs hq hP hS => ?_)
  obtain ⟨hbc, hf1⟩ := hq
  have hx_d := hb1.fr hf1 (fun k hk => by show ¬ _; simp only [gIn]; omega)
  have hx_s := hb2.fr hf1 (fun k hk => by show ¬ _; simp only [gIn]; omega)
  have hh2 := hh1.fr hf1 (fun q a b => by show ¬ _; simp only [gIn]; omega)
  refine g_xafi (g_xrunV S hI hP hS (k := 1) (As := [.ref (ad1 (N))]) (rest := []) (mX12_change l kk hzv d sv fp dq dd dc ht dr pg wt wr mo mc ni po dn pl ct K N 7 none v hx_d hx_s hbc hlt hz hdN hh2 hpl hct (by decide) (fun k h => by cases h) hht hpg hwr hm hmo) q473 q475 q0 q82 q476 rfl rfl (by decide +kernel) ⟨(Nat.le_of_ble_eq_true rfl), (Nat.le_of_ble_eq_true rfl)⟩ rfl (hx_d.lt 0 (by decide)) (hx_d.2 0 (by decide)) rfl hl.1 rfl (Nat.le_of_ble_eq_true rfl) ⟨(Nat.le_of_ble_eq_true rfl), (Nat.le_of_ble_eq_true rfl)⟩ dX12_removeMoth_13) hS (fun xc w1 xq ce H locs hpx hP hS hcell hcv hcl => ?_) (fun rz w1 H locs hq hP hS => ?_)
  · have hP9 : gP E ad N (ctW N w w1) H := ((hP.cut N (Nat.le_succ N)).ad (fun p hp => hadL1 p hp)).to (fun p hp => (ctW_lt hp).symm)
    have hfz : ∀ {hfx : gFr (fun q => (d + 1 ≤ q ∧ q < d + 8) ∨ (d + 29 ≤ q ∧ q < d + 87) ∨ q = d) w5 w1}, gFr (fun q => (d + 1 ≤ q ∧ q < d + 8) ∨ (d + 29 ≤ q ∧ q < d + 87) ∨ q = d) w (ctW N w w1) := fun {hfx} => ctW_fr (fun q hq hn => (hfx q hn).trans ((hf1 q (fun z => by simp only [gIn] at z; omega)).trans (hwL1 q hq)))
    refine g_xout S hI hS htab hlocks hP9 hcell hcv hcl ?_ (Nat.le_of_ble_eq_true rfl) (Nat.le_of_ble_eq_true rfl)
    rcases hpx with ⟨z1, z2, z3, z4, z5, z6⟩ | ⟨z1, z2, z3, z4, z5, z6⟩ | ⟨z1, n, z2, z3, z4, z5, z6, z7, z8⟩
    · exact Or.inl ⟨z1, z2, hfz (hfx := z3), DM_mv z4 (M := N) (by omega) (Nat.le_refl _) hadL1 (fun p h1 h2 => ctW_lt (by omega)), SH_mv z5 (M := N) (by omega) (Nat.le_refl _) hadL1 (fun p h1 h2 => ctW_lt (by omega)), z6.mv (M := N) (by omega) (Nat.le_refl _) hadL1 (fun p h1 h2 => ctW_lt (by omega))⟩
    · exact Or.inr (Or.inl ⟨z1, z2, hfz (hfx := z3), DM_mv z4 (M := N) (by omega) (Nat.le_refl _) hadL1 (fun p h1 h2 => ctW_lt (by omega)), SH_mv z5 (M := N) (by omega) (Nat.le_refl _) hadL1 (fun p h1 h2 => ctW_lt (by omega)), z6.mv (M := N) (by omega) (Nat.le_refl _) hadL1 (fun p h1 h2 => ctW_lt (by omega))⟩)
    · exact Or.inr (Or.inr ⟨z1, n, z2, z3, z4, DM_mv z5 (M := N) (by omega) (Nat.le_refl _) hadL1 (fun p h1 h2 => ctW_lt (by omega)), SH_mv z6 (M := N) (by omega) (Nat.le_refl _) hadL1 (fun p h1 h2 => ctW_lt (by omega)), z7.mv (M := N) (by omega) (Nat.le_refl _) hadL1 (fun p h1 h2 => ctW_lt (by omega)), hfz (hfx := z8)⟩)
  · have hP9 : gP E ad N (ctW N w w1) H := ((hP.cut N (Nat.le_succ N)).ad (fun p hp => hadL1 p hp)).to (fun p hp => (ctW_lt hp).symm)
    have hfz : ∀ {hfx : gFr (fun q => (d + 1 ≤ q ∧ q < d + 8) ∨ (d + 29 ≤ q ∧ q < d + 87) ∨ q = d) w5 w1}, gFr (fun q => (d + 1 ≤ q ∧ q < d + 8) ∨ (d + 29 ≤ q ∧ q < d + 87) ∨ q = d) w (ctW N w w1) := fun {hfx} => ctW_fr (fun q hq hn => (hfx q hn).trans ((hf1 q (fun z => by simp only [gIn] at z; omega)).trans (hwL1 q hq)))
    obtain ⟨k, u, y1, y2, y3, y4, y5, y6, y7⟩ := hq
    rw [y3]
    exact vx_ret (g_iret S hr hlocks (hP9) hS (⟨k, u, y1, y2, rfl, SH_mv y4 (M := N) (by omega) (Nat.le_refl _) hadL1 (fun p h1 h2 => ctW_lt (by omega)), y5.mv (M := N) (by omega) (Nat.le_refl _) hadL1 (fun p h1 h2 => ctW_lt (by omega)), DM_mv y6 (M := N) (by omega) (Nat.le_refl _) hadL1 (fun p h1 h2 => ctW_lt (by omega)), hfz (hfx := y7)⟩) (fun _ _ => rfl) (Nat.le_of_ble_eq_true rfl) (Nat.le_of_ble_eq_true rfl) dX12_removeMoth_16)
set_option maxHeartbeats 4000000 in
set_option maxRecDepth 100000 in
/-- passNight -/
theorem mX12_passNight (l : Launch) {E : gE} {ad : Nat → Nat} {N : Nat} {w : Nat → va_E} (kk : Nat → Nat) (hzv : gHv E kk) (d : Nat) (sv : Nat) (fp dq : Option Nat) (dd : Int32) (dc : Option Nat) (ht dr pg wt wr mo : Nat → Nat) (mc ni po dn : Nat) (pl ct : Nat) (K : Nat → Sh)  (hb_d : bkP N w d 1 (DMC E ad d sv fp dq dd dc)) (hb_s : bkP N w (d + 1) 7 (SHC E ad (d + 1) ht dr pg wt wr mo mc ni po dn)) (hlt : l.stackTraces = false) (hz : gHx E) (hdN : d + 116 ≤ N) (hh : hsP E ad N w (d + 29) pl ct K) (hpl : pl < 8) (hct : ct ≤ 8) (hht : ∀ k, k < 36 → ht k ≤ 99) (hpg : ∀ k, k < 36 → pg k ≤ 1) (hwr : ∀ k, k < 36 → wr k ≤ 3) (hm : mc ≤ 4) (hmo : ∀ k, k < mc → mo k < 36) : gXi l yX12_passNight (lw_ws yX12_passNight cX12_passNight 1 (some .int)) ({ frames := 8, cells := 2, slots := 9, locals := 181 } : Room) E ad N w [.ref (ad (d))] (fun r w' => ∃ k u, cmK 8 none (-1) k u mc ∧ cmR ht pg wr mo mc 8 none (-1) = nI 0 ∧ r = (cmS 8 k u ht dr pg wt wr mo mc ni po dn).1 ∧ bkP N w' (d + 1) 7 (shC E ad (d + 1) (cmS 8 k u ht dr pg wt wr mo mc ni po dn).2) ∧ hsP E ad N w' (d + 29) ((pl + 1) % 8) (min (ct + 1) 8) (va_up K pl (cpS (ht, dr, pg, wt, wr, mo, mc, ni, po, dn) (K pl))) ∧ bkP N w' d 1 (DMC E ad d sv fp dq dd dc) ∧ gFr (fun q => (d + 1 ≤ q ∧ q < d + 8) ∨ (d + 29 ≤ q ∧ q < d + 87) ∨ q = d) w w') (fun xc w' => (xc = xIO ∧ cmR ht pg wr mo mc 8 none (-1) = -1 ∧ gFr (fun q => (d + 1 ≤ q ∧ q < d + 8) ∨ (d + 29 ≤ q ∧ q < d + 87) ∨ q = d) w w' ∧ bkP N w' d 1 (DMC E ad d sv fp dq dd dc) ∧ bkP N w' (d + 1) 7 (SHC E ad (d + 1) ht dr pg wt wr mo mc ni po dn) ∧ hsP E ad N w' (d + 29) pl ct K) ∨ (xc = xIA ∧ cmR ht pg wr mo mc 8 none (-1) = -2 ∧ gFr (fun q => (d + 1 ≤ q ∧ q < d + 8) ∨ (d + 29 ≤ q ∧ q < d + 87) ∨ q = d) w w' ∧ bkP N w' d 1 (DMC E ad d sv fp dq dd dc) ∧ bkP N w' (d + 1) 7 (SHC E ad (d + 1) ht dr pg wt wr mo mc ni po dn) ∧ hsP E ad N w' (d + 29) pl ct K) ∨ (xc = xUO ∧ ∃ n, 0 < n ∧ n < 7 ∧ cmR ht pg wr mo mc 8 none (-1) = nI n ∧ bkP N w' d 1 (DMC E ad d sv fp (some n) (cmT pg wr mo mc n none (-1)) none) ∧ bkP N w' (d + 1) 7 (SHC E ad (d + 1) ht dr pg wt wr mo mc ni po dn) ∧ hsP E ad N w' (d + 29) pl ct K ∧ gFr (fun q => (d + 1 ≤ q ∧ q < d + 8) ∨ (d + 29 ≤ q ∧ q < d + 87) ∨ q = d) w w')) 2 9 := by
  refine vx_ofW (cc := cX12_passNight) (maxL := 1) (ret := (some .int)) (by decide) rfl ?_
  intro p e s m args below meth cd s₁ B hml htab hv
  obtain ⟨rfl, hI, hP⟩ := hv
  obtain ⟨S, hr, hlocks⟩ := gPre (ws := []) B hml (C := RX12) rfl
  have hx := S.1
  have hb := S.2.1
  have hzk := hzv s s.heap hI.2.2.2.2
  have hS : va_S (gA E) s.heap s.heap [] := va_S.rf
  have hl := lv_entry ([.ref (ad (d))]) (n := 1) (Nat.le_of_ble_eq_true rfl)
  rw [lg_entry_eq]
  generalize (lg_sl ([.ref (ad (d))]) ++ List.replicate (1 - (lg_sl ([.ref (ad (d))])).length) Slot.unset).toArray = ls at hl ⊢
  have hl : lv_has ls 1 [(0, .ref (ad (d)))] := hl
  refine lv_aload_n hx hb dX12_passNight_0 rfl (lv_at hl 0 rfl) ?_
  refine g_newM S hI hP hS (ci := 6) uX2 rfl tyX2 tyX2_ok q452 q453 q101 (fs := [.null, .int 0, .int 0]) (fun j hj => by match j, hj with | 0, _ => rfl | 1, _ => rfl | 2, _ => rfl) (Nat.le_of_ble_eq_true rfl) (Nat.le_of_ble_eq_true rfl) dX12_passNight_1 (fun ad1 wn1 H hP hS hadL1 hwL1 hwN1 => ?_)
  rw [show ([.ref (ad1 (N)), .ref (ad (d))] : List Value) = [.ref (ad1 (N)), .ref (ad1 (d))] by rw [hadL1 (d) (by omega)]]
  have hl : lv_has ls 1 [(0, .ref (ad1 (d)))] := by rw [hadL1 (d) (by omega)]; exact hl
  have hb1 := DM_mv hb_d (w' := wn1) (M := N) (by omega) (Nat.le_succ _) (fun p hp => (hadL1 p hp).symm) (fun p h1 h2 => hwL1 p (by omega))
  have hb2 := SH_mv hb_s (w' := wn1) (M := N) (by omega) (Nat.le_succ _) (fun p hp => (hadL1 p hp).symm) (fun p h1 h2 => hwL1 p (by omega))
  have hh1 := hh.mv (w' := wn1) (M := N) (by omega) (Nat.le_succ _) (fun p hp => (hadL1 p hp).symm) (fun p h1 h2 => hwL1 p (by omega))
  refine lv_dup hx hb dX12_passNight_4 rfl ?_
  refine g_gets S hS (hzk.1 8 (by decide)).1.1 q783 dX12_passNight_5 ?_
  refine lv_iconst (v := -1) hx hb dX12_passNight_8 (by decide +kernel) ?_
  refine lv_iconst (v := -1) hx hb dX12_passNight_9 (by decide +kernel) ?_
  refine g_afv (g_runI S hI hP hS (k := 3) (b := N) (As := [.ref (kk 8), .int (oI (none)), .int (-1)]) (rest := [.ref (ad1 (N)), .ref (ad1 (d))]) (mX2_init l kk N 8 none (-1) (Nat.lt_succ_self _) hwN1) q456 q457 q101 q458 rfl rfl rfl (by decide +kernel) ⟨(Nat.le_of_ble_eq_true rfl), (Nat.le_of_ble_eq_true rfl)⟩ rfl hl.1 rfl (Nat.le_of_ble_eq_true rfl) ⟨(Nat.le_of_ble_eq_true rfl), (Nat.le_of_ble_eq_true rfl)⟩ dX12_passNight_10) hS (fun w5 H locs hq hP hS => ?_)
  obtain ⟨hbc, hf1⟩ := hq
  have hx_d := hb1.fr hf1 (fun k hk => by show ¬ _; simp only [gIn]; omega)
  have hx_s := hb2.fr hf1 (fun k hk => by show ¬ _; simp only [gIn]; omega)
  have hh2 := hh1.fr hf1 (fun q a b => by show ¬ _; simp only [gIn]; omega)
  refine g_xafi (g_xrunV S hI hP hS (k := 1) (As := [.ref (ad1 (N))]) (rest := []) (mX12_change l kk hzv d sv fp dq dd dc ht dr pg wt wr mo mc ni po dn pl ct K N 8 none (-1) hx_d hx_s hbc hlt hz hdN hh2 hpl hct (by decide) (fun k h => by cases h) hht hpg hwr hm hmo) q473 q475 q0 q82 q476 rfl rfl (by decide +kernel) ⟨(Nat.le_of_ble_eq_true rfl), (Nat.le_of_ble_eq_true rfl)⟩ rfl (hx_d.lt 0 (by decide)) (hx_d.2 0 (by decide)) rfl hl.1 rfl (Nat.le_of_ble_eq_true rfl) ⟨(Nat.le_of_ble_eq_true rfl), (Nat.le_of_ble_eq_true rfl)⟩ dX12_passNight_13) hS (fun xc w1 xq ce H locs hpx hP hS hcell hcv hcl => ?_) (fun rz w1 H locs hq hP hS => ?_)
  · have hP9 : gP E ad N (ctW N w w1) H := ((hP.cut N (Nat.le_succ N)).ad (fun p hp => hadL1 p hp)).to (fun p hp => (ctW_lt hp).symm)
    have hfz : ∀ {hfx : gFr (fun q => (d + 1 ≤ q ∧ q < d + 8) ∨ (d + 29 ≤ q ∧ q < d + 87) ∨ q = d) w5 w1}, gFr (fun q => (d + 1 ≤ q ∧ q < d + 8) ∨ (d + 29 ≤ q ∧ q < d + 87) ∨ q = d) w (ctW N w w1) := fun {hfx} => ctW_fr (fun q hq hn => (hfx q hn).trans ((hf1 q (fun z => by simp only [gIn] at z; omega)).trans (hwL1 q hq)))
    refine g_xout S hI hS htab hlocks hP9 hcell hcv hcl ?_ (Nat.le_of_ble_eq_true rfl) (Nat.le_of_ble_eq_true rfl)
    rcases hpx with ⟨z1, z2, z3, z4, z5, z6⟩ | ⟨z1, z2, z3, z4, z5, z6⟩ | ⟨z1, n, z2, z3, z4, z5, z6, z7, z8⟩
    · exact Or.inl ⟨z1, z2, hfz (hfx := z3), DM_mv z4 (M := N) (by omega) (Nat.le_refl _) hadL1 (fun p h1 h2 => ctW_lt (by omega)), SH_mv z5 (M := N) (by omega) (Nat.le_refl _) hadL1 (fun p h1 h2 => ctW_lt (by omega)), z6.mv (M := N) (by omega) (Nat.le_refl _) hadL1 (fun p h1 h2 => ctW_lt (by omega))⟩
    · exact Or.inr (Or.inl ⟨z1, z2, hfz (hfx := z3), DM_mv z4 (M := N) (by omega) (Nat.le_refl _) hadL1 (fun p h1 h2 => ctW_lt (by omega)), SH_mv z5 (M := N) (by omega) (Nat.le_refl _) hadL1 (fun p h1 h2 => ctW_lt (by omega)), z6.mv (M := N) (by omega) (Nat.le_refl _) hadL1 (fun p h1 h2 => ctW_lt (by omega))⟩)
    · exact Or.inr (Or.inr ⟨z1, n, z2, z3, z4, DM_mv z5 (M := N) (by omega) (Nat.le_refl _) hadL1 (fun p h1 h2 => ctW_lt (by omega)), SH_mv z6 (M := N) (by omega) (Nat.le_refl _) hadL1 (fun p h1 h2 => ctW_lt (by omega)), z7.mv (M := N) (by omega) (Nat.le_refl _) hadL1 (fun p h1 h2 => ctW_lt (by omega)), hfz (hfx := z8)⟩)
  · have hP9 : gP E ad N (ctW N w w1) H := ((hP.cut N (Nat.le_succ N)).ad (fun p hp => hadL1 p hp)).to (fun p hp => (ctW_lt hp).symm)
    have hfz : ∀ {hfx : gFr (fun q => (d + 1 ≤ q ∧ q < d + 8) ∨ (d + 29 ≤ q ∧ q < d + 87) ∨ q = d) w5 w1}, gFr (fun q => (d + 1 ≤ q ∧ q < d + 8) ∨ (d + 29 ≤ q ∧ q < d + 87) ∨ q = d) w (ctW N w w1) := fun {hfx} => ctW_fr (fun q hq hn => (hfx q hn).trans ((hf1 q (fun z => by simp only [gIn] at z; omega)).trans (hwL1 q hq)))
    obtain ⟨k, u, y1, y2, y3, y4, y5, y6, y7⟩ := hq
    rw [y3]
    exact vx_ret (g_iret S hr hlocks (hP9) hS (⟨k, u, y1, y2, rfl, SH_mv y4 (M := N) (by omega) (Nat.le_refl _) hadL1 (fun p h1 h2 => ctW_lt (by omega)), y5.mv (M := N) (by omega) (Nat.le_refl _) hadL1 (fun p h1 h2 => ctW_lt (by omega)), DM_mv y6 (M := N) (by omega) (Nat.le_refl _) hadL1 (fun p h1 h2 => ctW_lt (by omega)), hfz (hfx := y7)⟩) (fun _ _ => rfl) (Nat.le_of_ble_eq_true rfl) (Nat.le_of_ble_eq_true rfl) dX12_passNight_16)
set_option maxHeartbeats 4000000 in
set_option maxRecDepth 100000 in
/-- patch -/
theorem mX12_patch (l : Launch) {E : gE} {ad : Nat → Nat} {N : Nat} {w : Nat → va_E} (kk : Nat → Nat) (hzv : gHv E kk) (d : Nat) (sv : Nat) (fp dq : Option Nat) (dd : Int32) (dc : Option Nat) (ht dr pg wt wr mo : Nat → Nat) (mc ni po dn : Nat) (pl ct : Nat) (K : Nat → Sh) (x y : Int32) (hb_d : bkP N w d 1 (DMC E ad d sv fp dq dd dc)) (hb_s : bkP N w (d + 1) 7 (SHC E ad (d + 1) ht dr pg wt wr mo mc ni po dn)) (hlt : l.stackTraces = false) (hz : gHx E) (hdN : d + 116 ≤ N) (hh : hsP E ad N w (d + 29) pl ct K) (hpl : pl < 8) (hct : ct ≤ 8) (hht : ∀ k, k < 36 → ht k ≤ 99) (hpg : ∀ k, k < 36 → pg k ≤ 1) (hwr : ∀ k, k < 36 → wr k ≤ 3) (hm : mc ≤ 4) (hmo : ∀ k, k < mc → mo k < 36) : gXi l yX12_patch (lw_ws yX12_patch cX12_patch 3 (some .int)) ({ frames := 8, cells := 2, slots := 9, locals := 181 } : Room) E ad N w [.ref (ad (d)), .int (x), .int (y)] (fun r w' => ∃ k u, cmK 9 (cellV x y) (-1) k u mc ∧ cmR ht pg wr mo mc 9 (cellV x y) (-1) = nI 0 ∧ r = (cmS 9 k u ht dr pg wt wr mo mc ni po dn).1 ∧ bkP N w' (d + 1) 7 (shC E ad (d + 1) (cmS 9 k u ht dr pg wt wr mo mc ni po dn).2) ∧ hsP E ad N w' (d + 29) ((pl + 1) % 8) (min (ct + 1) 8) (va_up K pl (cpS (ht, dr, pg, wt, wr, mo, mc, ni, po, dn) (K pl))) ∧ bkP N w' d 1 (DMC E ad d sv fp dq dd dc) ∧ gFr (fun q => (d + 1 ≤ q ∧ q < d + 8) ∨ (d + 29 ≤ q ∧ q < d + 87) ∨ q = d) w w') (fun xc w' => (xc = xIO ∧ cmR ht pg wr mo mc 9 (cellV x y) (-1) = -1 ∧ gFr (fun q => (d + 1 ≤ q ∧ q < d + 8) ∨ (d + 29 ≤ q ∧ q < d + 87) ∨ q = d) w w' ∧ bkP N w' d 1 (DMC E ad d sv fp dq dd dc) ∧ bkP N w' (d + 1) 7 (SHC E ad (d + 1) ht dr pg wt wr mo mc ni po dn) ∧ hsP E ad N w' (d + 29) pl ct K) ∨ (xc = xIA ∧ cmR ht pg wr mo mc 9 (cellV x y) (-1) = -2 ∧ gFr (fun q => (d + 1 ≤ q ∧ q < d + 8) ∨ (d + 29 ≤ q ∧ q < d + 87) ∨ q = d) w w' ∧ bkP N w' d 1 (DMC E ad d sv fp dq dd dc) ∧ bkP N w' (d + 1) 7 (SHC E ad (d + 1) ht dr pg wt wr mo mc ni po dn) ∧ hsP E ad N w' (d + 29) pl ct K) ∨ (xc = xUO ∧ ∃ n, 0 < n ∧ n < 7 ∧ cmR ht pg wr mo mc 9 (cellV x y) (-1) = nI n ∧ bkP N w' d 1 (DMC E ad d sv fp (some n) (cmT pg wr mo mc n (cellV x y) (-1)) none) ∧ bkP N w' (d + 1) 7 (SHC E ad (d + 1) ht dr pg wt wr mo mc ni po dn) ∧ hsP E ad N w' (d + 29) pl ct K ∧ gFr (fun q => (d + 1 ≤ q ∧ q < d + 8) ∨ (d + 29 ≤ q ∧ q < d + 87) ∨ q = d) w w')) 2 9 := by
  refine vx_ofW (cc := cX12_patch) (maxL := 3) (ret := (some .int)) (by decide) rfl ?_
  intro p e s m args below meth cd s₁ B hml htab hv
  obtain ⟨rfl, hI, hP⟩ := hv
  obtain ⟨S, hr, hlocks⟩ := gPre (ws := []) B hml (C := RX12) rfl
  have hx := S.1
  have hb := S.2.1
  have hzk := hzv s s.heap hI.2.2.2.2
  have hS : va_S (gA E) s.heap s.heap [] := va_S.rf
  have hl := lv_entry ([.ref (ad (d)), .int (x), .int (y)]) (n := 3) (Nat.le_of_ble_eq_true rfl)
  rw [lg_entry_eq]
  generalize (lg_sl ([.ref (ad (d)), .int (x), .int (y)]) ++ List.replicate (3 - (lg_sl ([.ref (ad (d)), .int (x), .int (y)])).length) Slot.unset).toArray = ls at hl ⊢
  have hl : lv_has ls 3 [(0, .ref (ad (d))), (1, .int (x)), (2, .int (y))] := hl
  refine lv_aload_n hx hb dX12_patch_0 rfl (lv_at hl 0 rfl) ?_
  refine g_newM S hI hP hS (ci := 6) uX2 rfl tyX2 tyX2_ok q452 q453 q101 (fs := [.null, .int 0, .int 0]) (fun j hj => by match j, hj with | 0, _ => rfl | 1, _ => rfl | 2, _ => rfl) (Nat.le_of_ble_eq_true rfl) (Nat.le_of_ble_eq_true rfl) dX12_patch_1 (fun ad1 wn1 H hP hS hadL1 hwL1 hwN1 => ?_)
  rw [show ([.ref (ad1 (N)), .ref (ad (d))] : List Value) = [.ref (ad1 (N)), .ref (ad1 (d))] by rw [hadL1 (d) (by omega)]]
  have hl : lv_has ls 3 [(0, .ref (ad1 (d))), (1, .int (x)), (2, .int (y))] := by rw [hadL1 (d) (by omega)]; exact hl
  have hb1 := DM_mv hb_d (w' := wn1) (M := N) (by omega) (Nat.le_succ _) (fun p hp => (hadL1 p hp).symm) (fun p h1 h2 => hwL1 p (by omega))
  have hb2 := SH_mv hb_s (w' := wn1) (M := N) (by omega) (Nat.le_succ _) (fun p hp => (hadL1 p hp).symm) (fun p h1 h2 => hwL1 p (by omega))
  have hh1 := hh.mv (w' := wn1) (M := N) (by omega) (Nat.le_succ _) (fun p hp => (hadL1 p hp).symm) (fun p h1 h2 => hwL1 p (by omega))
  refine lv_dup hx hb dX12_patch_4 rfl ?_
  refine g_gets S hS (hzk.1 9 (by decide)).1.1 q1182 dX12_patch_5 ?_
  refine lv_iload_n hx hb dX12_patch_8 rfl (lv_at hl 1 rfl) ?_
  refine lv_iload_n hx hb dX12_patch_9 rfl (lv_at hl 2 rfl) ?_
  refine g_roi (g_runS S hI hP hS (k := 2) (As := [.int (x), .int (y)]) (rest := [.ref (kk 9), .ref (ad1 (N)), .ref (ad1 (N)), .ref (ad1 (d))]) (mX12_cellOf l x y) q677 q678 q82 q679 rfl rfl (by decide +kernel) ⟨Nat.le_of_ble_eq_true rfl, Nat.le_of_ble_eq_true rfl⟩ rfl hl.1 rfl (Nat.le_of_ble_eq_true rfl) ⟨(Nat.le_of_ble_eq_true rfl), (Nat.le_of_ble_eq_true rfl)⟩ dX12_patch_10) hS (fun H locs hP hS => ?_)
  refine lv_iconst (v := -1) hx hb dX12_patch_13 (by decide +kernel) ?_
  refine g_afv (g_runI S hI hP hS (k := 3) (b := N) (As := [.ref (kk 9), .int (oI (cellV x y)), .int (-1)]) (rest := [.ref (ad1 (N)), .ref (ad1 (d))]) (mX2_init l kk N 9 (cellV x y) (-1) (Nat.lt_succ_self _) hwN1) q456 q457 q101 q458 rfl rfl rfl (by decide +kernel) ⟨(Nat.le_of_ble_eq_true rfl), (Nat.le_of_ble_eq_true rfl)⟩ rfl hl.1 rfl (Nat.le_of_ble_eq_true rfl) ⟨(Nat.le_of_ble_eq_true rfl), (Nat.le_of_ble_eq_true rfl)⟩ dX12_patch_14) hS (fun w5 H locs hq hP hS => ?_)
  obtain ⟨hbc, hf1⟩ := hq
  have hx_d := hb1.fr hf1 (fun k hk => by show ¬ _; simp only [gIn]; omega)
  have hx_s := hb2.fr hf1 (fun k hk => by show ¬ _; simp only [gIn]; omega)
  have hh2 := hh1.fr hf1 (fun q a b => by show ¬ _; simp only [gIn]; omega)
  refine g_xafi (g_xrunV S hI hP hS (k := 1) (As := [.ref (ad1 (N))]) (rest := []) (mX12_change l kk hzv d sv fp dq dd dc ht dr pg wt wr mo mc ni po dn pl ct K N 9 (cellV x y) (-1) hx_d hx_s hbc hlt hz hdN hh2 hpl hct (by decide) (fun k h => cellV_lt h) hht hpg hwr hm hmo) q473 q475 q0 q82 q476 rfl rfl (by decide +kernel) ⟨(Nat.le_of_ble_eq_true rfl), (Nat.le_of_ble_eq_true rfl)⟩ rfl (hx_d.lt 0 (by decide)) (hx_d.2 0 (by decide)) rfl hl.1 rfl (Nat.le_of_ble_eq_true rfl) ⟨(Nat.le_of_ble_eq_true rfl), (Nat.le_of_ble_eq_true rfl)⟩ dX12_patch_17) hS (fun xc w1 xq ce H locs hpx hP hS hcell hcv hcl => ?_) (fun rz w1 H locs hq hP hS => ?_)
  · have hP9 : gP E ad N (ctW N w w1) H := ((hP.cut N (Nat.le_succ N)).ad (fun p hp => hadL1 p hp)).to (fun p hp => (ctW_lt hp).symm)
    have hfz : ∀ {hfx : gFr (fun q => (d + 1 ≤ q ∧ q < d + 8) ∨ (d + 29 ≤ q ∧ q < d + 87) ∨ q = d) w5 w1}, gFr (fun q => (d + 1 ≤ q ∧ q < d + 8) ∨ (d + 29 ≤ q ∧ q < d + 87) ∨ q = d) w (ctW N w w1) := fun {hfx} => ctW_fr (fun q hq hn => (hfx q hn).trans ((hf1 q (fun z => by simp only [gIn] at z; omega)).trans (hwL1 q hq)))
    refine g_xout S hI hS htab hlocks hP9 hcell hcv hcl ?_ (Nat.le_of_ble_eq_true rfl) (Nat.le_of_ble_eq_true rfl)
    rcases hpx with ⟨z1, z2, z3, z4, z5, z6⟩ | ⟨z1, z2, z3, z4, z5, z6⟩ | ⟨z1, n, z2, z3, z4, z5, z6, z7, z8⟩
    · exact Or.inl ⟨z1, z2, hfz (hfx := z3), DM_mv z4 (M := N) (by omega) (Nat.le_refl _) hadL1 (fun p h1 h2 => ctW_lt (by omega)), SH_mv z5 (M := N) (by omega) (Nat.le_refl _) hadL1 (fun p h1 h2 => ctW_lt (by omega)), z6.mv (M := N) (by omega) (Nat.le_refl _) hadL1 (fun p h1 h2 => ctW_lt (by omega))⟩
    · exact Or.inr (Or.inl ⟨z1, z2, hfz (hfx := z3), DM_mv z4 (M := N) (by omega) (Nat.le_refl _) hadL1 (fun p h1 h2 => ctW_lt (by omega)), SH_mv z5 (M := N) (by omega) (Nat.le_refl _) hadL1 (fun p h1 h2 => ctW_lt (by omega)), z6.mv (M := N) (by omega) (Nat.le_refl _) hadL1 (fun p h1 h2 => ctW_lt (by omega))⟩)
    · exact Or.inr (Or.inr ⟨z1, n, z2, z3, z4, DM_mv z5 (M := N) (by omega) (Nat.le_refl _) hadL1 (fun p h1 h2 => ctW_lt (by omega)), SH_mv z6 (M := N) (by omega) (Nat.le_refl _) hadL1 (fun p h1 h2 => ctW_lt (by omega)), z7.mv (M := N) (by omega) (Nat.le_refl _) hadL1 (fun p h1 h2 => ctW_lt (by omega)), hfz (hfx := z8)⟩)
  · have hP9 : gP E ad N (ctW N w w1) H := ((hP.cut N (Nat.le_succ N)).ad (fun p hp => hadL1 p hp)).to (fun p hp => (ctW_lt hp).symm)
    have hfz : ∀ {hfx : gFr (fun q => (d + 1 ≤ q ∧ q < d + 8) ∨ (d + 29 ≤ q ∧ q < d + 87) ∨ q = d) w5 w1}, gFr (fun q => (d + 1 ≤ q ∧ q < d + 8) ∨ (d + 29 ≤ q ∧ q < d + 87) ∨ q = d) w (ctW N w w1) := fun {hfx} => ctW_fr (fun q hq hn => (hfx q hn).trans ((hf1 q (fun z => by simp only [gIn] at z; omega)).trans (hwL1 q hq)))
    obtain ⟨k, u, y1, y2, y3, y4, y5, y6, y7⟩ := hq
    rw [y3]
    exact vx_ret (g_iret S hr hlocks (hP9) hS (⟨k, u, y1, y2, rfl, SH_mv y4 (M := N) (by omega) (Nat.le_refl _) hadL1 (fun p h1 h2 => ctW_lt (by omega)), y5.mv (M := N) (by omega) (Nat.le_refl _) hadL1 (fun p h1 h2 => ctW_lt (by omega)), DM_mv y6 (M := N) (by omega) (Nat.le_refl _) hadL1 (fun p h1 h2 => ctW_lt (by omega)), hfz (hfx := y7)⟩) (fun _ _ => rfl) (Nat.le_of_ble_eq_true rfl) (Nat.le_of_ble_eq_true rfl) dX12_patch_20)
