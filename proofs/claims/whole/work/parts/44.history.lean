def HSC (E : gE) (ad : Nat → Nat) (b : Nat) (pl ct : Nat) : Nat → va_E
  | _ => .inr (8, [.ref (ad (b + 1)), .int (nI pl), .int (nI ct)])
theorem HS_setO {E : gE} {ad : Nat → Nat} {N b : Nat} {pl ct : Nat} {w : Nat → va_E} (h : bkP N w b 1 (HSC E ad b pl ct)) (pl' ct' : Nat) : bkP N (va_up w (b) (HSC E ad b  pl' ct' 0)) b 1 (HSC E ad b  pl' ct') := (h.set 0 (by decide) _).to (fun k hk => by match k, hk with | 0, _ => rfl)
/-! a sheet as one value; the sheets as they were, in a ring -/
def shC (E : gE) (ad : Nat → Nat) (b : Nat) (s : Sh) : Nat → va_E := SHC E ad b s.1 s.2.1 s.2.2.1 s.2.2.2.1 s.2.2.2.2.1 s.2.2.2.2.2.1 s.2.2.2.2.2.2.1 s.2.2.2.2.2.2.2.1 s.2.2.2.2.2.2.2.2.1 s.2.2.2.2.2.2.2.2.2
/-- a sheet o becomes n: but for the row that draping uses -/
def cpS (n o : Sh) : Sh := (n.1, o.2.1, n.2.2)
def shOk (B : Nat) (s : Sh) : Prop := (∀ k, k < 36 → s.1 k ≤ 99) ∧ (∀ k, k < 36 → s.2.2.1 k ≤ 1) ∧ smN s.2.2.2.1 36 ≤ B ∧ (∀ k, k < 36 → s.2.2.2.2.1 k ≤ 3) ∧ s.2.2.2.2.2.2.1 ≤ 4 ∧ ∀ k, k < s.2.2.2.2.2.2.1 → s.2.2.2.2.2.1 k < 36
theorem cpS_ok {B : Nat} {n o : Sh} (h : shOk B n) : shOk B (cpS n o) := h
def hsA (E : gE) (ad : Nat → Nat) (h : Nat) : va_E := .inl (E.2.1 4, 8, .inr (.inr (.inr (.inr (fun j => if j < 8 then some (ad (h + 2 + 7 * j)) else none)))))
def hsP (E : gE) (ad : Nat → Nat) (N : Nat) (w : Nat → va_E) (h pl ct : Nat) (K : Nat → Sh) : Prop := bkP N w h 1 (HSC E ad h pl ct) ∧ h + 58 ≤ N ∧ w (h + 1) = hsA E ad h ∧ ∀ j, j < 8 → bkP N w (h + 2 + 7 * j) 7 (shC E ad (h + 2 + 7 * j) (K j))
theorem hsP.fr {E : gE} {ad : Nat → Nat} {N : Nat} {w w' : Nat → va_E} {h pl ct : Nat} {K : Nat → Sh} {P : Nat → Prop} (hh : hsP E ad N w h pl ct K) (hf : gFr P w w') (hP : ∀ q, h ≤ q → q < h + 58 → ¬ P q) : hsP E ad N w' h pl ct K :=
  ⟨hh.1.fr hf (fun k hk => hP _ (by omega) (by omega)), hh.2.1, (hf _ (hP _ (by omega) (by omega))).trans hh.2.2.1, fun j hj => (hh.2.2.2 j hj).fr hf (fun k hk => hP _ (by omega) (by omega))⟩
section GROW8
variable {p : Program} {l : Launch} {e : Env} {R : Room} {s : State} {m : MethodId} {args : Array Value} {below : List Frame} {meth : Method} {c : Code} {H : Heap} {locs : List Loc} {cells slots : Nat} {Q : State → Prop}
variable {cc : ByteArray} {pc nL : Nat} {ls : Array Slot} {rest st0 : List Value} {own : String} {E : gE} {ad : Nat → Nat} {N : Nat} {w : Nat → va_E}
theorem g_aald (S : gFix p m c cc nL s args own) (hI : gI E s s.heap) (hP : gP E ad N w H) {q0 n t : Nat} {cA : ClassId} {C : String} {f : Nat → Option Nat} (hq : q0 < N) (he : w q0 = .inl (cA, n, .inr (.inr (.inr (.inr f))))) (ht : (gT E)[t]? = some (cA, .object C)) (i : Nat) (hi : i < n) (hn : n < 2 ^ 31) {a : Nat} (ha : f i = some a) (hdg : decode cc pc = .ok (.aaload, 1))
    (kk : W p l e R s m args below meth c H locs cells slots Q (F0 m (pc + 1) ls (.ref a :: rest))) : W p l e R s m args below meth c H locs cells slots Q (F0 m pc ls (.int (nI i) :: .ref (ad q0) :: rest)) := by
  refine va_aldq (D := E.1) (cl := vwCl) (tys := gT E) (ws := gl ad N w) S.1 S.2.1 hI.1 hP.1 q0 t (by rw [gl_get hq, he]) ht (vp_in_nI hi hn) hdg ?_
  rw [nI_clamp (Nat.lt_trans hi hn), ha]
  exact kk
end GROW8
set_option maxHeartbeats 4000000 in
set_option maxRecDepth 100000 in
/-- a sheet is kept -/
theorem mX4_keep (l : Launch) {E : gE} {ad : Nat → Nat} {N : Nat} {w : Nat → va_E} (h pl ct : Nat) (K : Nat → Sh) (b : Nat) (ht dr pg wt wr mo : Nat → Nat) (mc ni po dn : Nat) (hb_s : bkP N w b 7 (SHC E ad b ht dr pg wt wr mo mc ni po dn)) (hh : hsP E ad N w h pl ct K) (hbh : b + 7 ≤ h) (hpl : pl < 8) (hct : ct ≤ 8) (hpg : ∀ k, k < 36 → pg k ≤ 1) : gMv l yX4_keep (lw_ws yX4_keep cX4_keep 2 none) ({ frames := 2, cells := 0, slots := 0, locals := 47 } : Room) E ad N w [.ref (ad (h)), .ref (ad (b))] (fun w' => hsP E ad N w' h ((pl + 1) % 8) (min (ct + 1) 8) (va_up K pl (cpS (ht, dr, pg, wt, wr, mo, mc, ni, po, dn) (K pl))) ∧ gFr (fun q => h ≤ q ∧ q < h + 58) w w') 0 0 := by
  refine Met.ofW (cc := cX4_keep) (maxL := 2) (ret := none) (by decide) rfl ?_
  intro p e s m args below meth cd s₁ B hml hv
  obtain ⟨rfl, hI, hP⟩ := hv
  obtain ⟨S, hr, hlocks⟩ := gPre (ws := []) B hml (C := RX4) rfl
  have hx := S.1
  have hb := S.2.1
  have hS : va_S (gA E) s.heap s.heap [] := va_S.rf
  have hfr : gFr (fun q => h ≤ q ∧ q < h + 58) w w := gFr.rf
  have hl := lv_entry ([.ref (ad (h)), .ref (ad (b))]) (n := 2) (Nat.le_of_ble_eq_true rfl)
  rw [lg_entry_eq]
  generalize (lg_sl ([.ref (ad (h)), .ref (ad (b))]) ++ List.replicate (2 - (lg_sl ([.ref (ad (h)), .ref (ad (b))])).length) Slot.unset).toArray = ls at hl ⊢
  have hl : lv_has ls 2 [(0, .ref (ad (h))), (1, .ref (ad (b)))] := hl
  obtain ⟨hb_h, hhN, hha, hhs⟩ := hh
  have hb_o := hhs pl hpl
  have hb_o : bkP N _ (h + 2 + 7 * pl) 7 (SHC E ad (h + 2 + 7 * pl) ((K pl).1) ((K pl).2.1) ((K pl).2.2.1) ((K pl).2.2.2.1) ((K pl).2.2.2.2.1) ((K pl).2.2.2.2.2.1) ((K pl).2.2.2.2.2.2.1) ((K pl).2.2.2.2.2.2.2.1) ((K pl).2.2.2.2.2.2.2.2.1) ((K pl).2.2.2.2.2.2.2.2.2)) := hb_o
  refine lv_aload_n hx hb dX4_keep_0 rfl (lv_at hl 0 rfl) ?_
  refine g_get S hI hP uX4 rfl (fs := _) (hb_h.lt 0 (by decide)) (hb_h.2 0 (by decide)) 0 (by decide) q193 rfl (v := .ref (ad (h + 1))) rfl dX4_keep_1 ?_
  refine lv_aload_n hx hb dX4_keep_4 rfl (lv_at hl 0 rfl) ?_
  refine g_get S hI hP uX4 rfl (fs := _) (hb_h.lt 0 (by decide)) (hb_h.2 0 (by decide)) 1 (by decide) q194 rfl (v := .int (nI (pl))) rfl dX4_keep_5 ?_
  refine g_aald S hI hP (t := 4) (C := "DustSheetMap$Sheet") (q0 := h + 1) (by omega) hha rfl pl hpl (by decide) (if_pos hpl) dX4_keep_8 ?_
  refine lv_aload_n hx hb dX4_keep_9 rfl (lv_at hl 1 rfl) ?_
  refine g_afv (g_runV S hI hP hS (k := 1) (As := [.ref (ad (b))]) (rest := []) (mX7_copyFromN l (h + 2 + 7 * pl) b ((K pl).1) ((K pl).2.1) ((K pl).2.2.1) ((K pl).2.2.2.1) ((K pl).2.2.2.2.1) ((K pl).2.2.2.2.2.1) ((K pl).2.2.2.2.2.2.1) ((K pl).2.2.2.2.2.2.2.1) ((K pl).2.2.2.2.2.2.2.2.1) ((K pl).2.2.2.2.2.2.2.2.2) ht dr pg wt wr mo mc ni po dn hb_o hb_s (by omega) hpg) q644 q645 q646 q83 q647 rfl rfl (by decide +kernel) ⟨Nat.le_of_ble_eq_true rfl, Nat.le_of_ble_eq_true rfl⟩ rfl (hb_o.lt 0 (by decide)) (hb_o.2 0 (by decide)) rfl hl.1 rfl (Nat.le_of_ble_eq_true rfl) ⟨(Nat.le_of_ble_eq_true rfl), (Nat.le_of_ble_eq_true rfl)⟩ dX4_keep_10) hS (fun w1 H locs hq hP hS => ?_)
  obtain ⟨hb1, hf2⟩ := hq
  have hb3 := hb_s.fr hf2 (fun k hk => by show ¬ _; (try simp only [gIn]); (try dsimp only); omega)
  have hb4 := hb_h.fr hf2 (fun k hk => by show ¬ _; (try simp only [gIn]); (try dsimp only); omega)
  have hfr := hfr.trans hf2 (fun q hq => by (try simp only [gIn] at hq ⊢); (try dsimp only at hq ⊢); omega)
  have hf0 : gFr (gIn (h + 2 + 7 * pl) 7) w w1 := by assumption
  refine lv_aload_n hx hb dX4_keep_13 rfl (lv_at hl 0 rfl) ?_
  refine lv_aload_n hx hb dX4_keep_14 rfl (lv_at hl 0 rfl) ?_
  refine g_get S hI hP uX4 rfl (fs := _) (hb4.lt 0 (by decide)) (hb4.2 0 (by decide)) 1 (by decide) q194 rfl (v := .int (nI (pl))) rfl dX4_keep_15 ?_
  refine g_iconst S 1 dX4_keep_18 (by decide +kernel) ?_
  refine g_iadd S dX4_keep_19 ?_
  refine g_bipush S 8 dX4_keep_20 (by decide +kernel) ?_
  refine g_irem S (by omega) (by omega) (by omega) dX4_keep_22 ?_
  refine g_put S hI hP hS uX4 rfl tyX4 tyX4_ok nmX4 (fs := _) (hb4.lt 0 (by decide)) (hb4.2 0 (by decide)) 1 (by decide) q194 rfl rfl (v := .int (nI ((pl + 1) % 8))) rfl rfl (Nat.le_of_ble_eq_true rfl) dX4_keep_23 (fun H locs hP hS => ?_)
  have hP : gP E ad N (va_up _ (h) (HSC E ad h ((pl + 1) % 8) ct 0)) H := hP
  have hb5 : bkP N (va_up _ (h) (HSC E ad h ((pl + 1) % 8) ct 0)) h 1 (HSC E ad h ((pl + 1) % 8) ct) := HS_setO hb4 _ _
  have hb6 := hb3.keep (p := h) (e := HSC E ad h ((pl + 1) % 8) ct 0) (by omega)
  have hb7 := hb1.keep (p := h) (e := HSC E ad h ((pl + 1) % 8) ct 0) (by omega)
  have hfr := hfr.up (p := h) (e := HSC E ad h ((pl + 1) % 8) ct 0) (by show _ ∧ _; omega)
  refine lv_aload_n hx hb dX4_keep_26 rfl (lv_at hl 0 rfl) ?_
  refine lv_aload_n hx hb dX4_keep_27 rfl (lv_at hl 0 rfl) ?_
  refine g_get S hI hP uX4 rfl (fs := _) (hb5.lt 0 (by decide)) (hb5.2 0 (by decide)) 2 (by decide) q195 rfl (v := .int (nI (ct))) rfl dX4_keep_28 ?_
  refine g_iconst S 1 dX4_keep_31 (by decide +kernel) ?_
  refine g_iadd S dX4_keep_32 ?_
  refine g_bipush S 8 dX4_keep_33 (by decide +kernel) ?_
  refine g_min S hl.1 (a := ct + 1) (b := 8) (by omega) (by omega) q651 q652 q112 q653 (Nat.le_of_ble_eq_true rfl) (Nat.le_of_ble_eq_true rfl) (Nat.le_of_ble_eq_true rfl) (Nat.le_of_ble_eq_true rfl) dX4_keep_35 ?_
  refine g_put S hI hP hS uX4 rfl tyX4 tyX4_ok nmX4 (fs := _) (hb5.lt 0 (by decide)) (hb5.2 0 (by decide)) 2 (by decide) q195 rfl rfl (v := .int (nI (min (ct + 1) 8))) rfl rfl (Nat.le_of_ble_eq_true rfl) dX4_keep_38 (fun H locs hP hS => ?_)
  have hP : gP E ad N (va_up _ (h) (HSC E ad h ((pl + 1) % 8) (min (ct + 1) 8) 0)) H := hP
  have hb8 : bkP N (va_up _ (h) (HSC E ad h ((pl + 1) % 8) (min (ct + 1) 8) 0)) h 1 (HSC E ad h ((pl + 1) % 8) (min (ct + 1) 8)) := HS_setO hb5 _ _
  have hb9 := hb6.keep (p := h) (e := HSC E ad h ((pl + 1) % 8) (min (ct + 1) 8) 0) (by omega)
  have hb10 := hb7.keep (p := h) (e := HSC E ad h ((pl + 1) % 8) (min (ct + 1) 8) 0) (by omega)
  have hfr := hfr.up (p := h) (e := HSC E ad h ((pl + 1) % 8) (min (ct + 1) 8) 0) (by show _ ∧ _; omega)
  have hhs2 : ∀ j, j < 8 → bkP N (va_up (va_up w1 h (HSC E ad h ((pl + 1) % 8) ct 0)) h (HSC E ad h ((pl + 1) % 8) (min (ct + 1) 8) 0)) (h + 2 + 7 * j) 7 (shC E ad (h + 2 + 7 * j) ((va_up K pl (cpS (ht, dr, pg, wt, wr, mo, mc, ni, po, dn) (K pl))) j)) := fun j hj => by
    by_cases q : j = pl
    · subst q; rw [va_up_self]; exact hb10
    · rw [va_up_ne _ _ q]
      exact (((hhs j hj).fr hf0 (fun k hk => by show ¬ _; simp only [gIn]; omega)).keep (by omega)).keep (by omega)
  have hha2 : (va_up (va_up w1 h (HSC E ad h ((pl + 1) % 8) ct 0)) h (HSC E ad h ((pl + 1) % 8) (min (ct + 1) 8) 0)) (h + 1) = hsA E ad h := by rw [va_up_ne _ _ (by omega), va_up_ne _ _ (by omega)]; exact (hf0 _ (by simp only [gIn]; omega)).trans hha
  exact g_vret S hr hlocks hP hS (⟨⟨hb8, hhN, hha2, hhs2⟩, hfr⟩) (fun _ _ => rfl) (Nat.le_of_ble_eq_true rfl) (Nat.le_of_ble_eq_true rfl) dX4_keep_41
set_option maxHeartbeats 4000000 in
set_option maxRecDepth 100000 in
/-- the last kept sheet is taken back -/
theorem mX4_takeBack (l : Launch) {E : gE} {ad : Nat → Nat} {N : Nat} {w : Nat → va_E} (h pl ct : Nat) (K : Nat → Sh) (b : Nat) (ht dr pg wt wr mo : Nat → Nat) (mc ni po dn : Nat) (hb_s : bkP N w b 7 (SHC E ad b ht dr pg wt wr mo mc ni po dn)) (hh : hsP E ad N w h pl ct K) (hbh : b + 7 ≤ h) (hpl : pl < 8) (hct : ct ≤ 8) (hK : ∀ j, j < 8 → ∃ B, shOk B (K j)) : gMi l yX4_takeBack (lw_ws yX4_takeBack cX4_takeBack 2 (some .boolean)) ({ frames := 2, cells := 0, slots := 0, locals := 47 } : Room) E ad N w [.ref (ad (h)), .ref (ad (b))] (fun r w' => r = bI (!decide (ct = 0)) ∧ hsP E ad N w' h (if ct = 0 then pl else ((pl + 8 - 1) % 8)) (ct - 1) K ∧ bkP N w' b 7 (shC E ad b (if ct = 0 then (ht, dr, pg, wt, wr, mo, mc, ni, po, dn) else (cpS (K ((pl + 8 - 1) % 8)) (ht, dr, pg, wt, wr, mo, mc, ni, po, dn)))) ∧ gFr (fun q => (h ≤ q ∧ q < h + 58) ∨ (b ≤ q ∧ q < b + 7)) w w') 0 0 := by
  refine Met.ofW (cc := cX4_takeBack) (maxL := 2) (ret := (some .boolean)) (by decide) rfl ?_
  intro p e s m args below meth cd s₁ B hml hv
  obtain ⟨rfl, hI, hP⟩ := hv
  obtain ⟨S, hr, hlocks⟩ := gPre (ws := []) B hml (C := RX4) rfl
  have hx := S.1
  have hb := S.2.1
  have hS : va_S (gA E) s.heap s.heap [] := va_S.rf
  have hfr : gFr (fun q => (h ≤ q ∧ q < h + 58) ∨ (b ≤ q ∧ q < b + 7)) w w := gFr.rf
  have hl := lv_entry ([.ref (ad (h)), .ref (ad (b))]) (n := 2) (Nat.le_of_ble_eq_true rfl)
  rw [lg_entry_eq]
  generalize (lg_sl ([.ref (ad (h)), .ref (ad (b))]) ++ List.replicate (2 - (lg_sl ([.ref (ad (h)), .ref (ad (b))])).length) Slot.unset).toArray = ls at hl ⊢
  have hl : lv_has ls 2 [(0, .ref (ad (h))), (1, .ref (ad (b)))] := hl
  obtain ⟨hb_h, hhN, hha, hhs⟩ := hh
  refine lv_aload_n hx hb dX4_takeBack_0 rfl (lv_at hl 0 rfl) ?_
  refine g_get S hI hP uX4 rfl (fs := _) (hb_h.lt 0 (by decide)) (hb_h.2 0 (by decide)) 2 (by decide) q195 rfl (v := .int (nI (ct))) rfl dX4_takeBack_1 ?_
  refine g_ifne S (a := ct) (by omega) (tgt := 9) dX4_takeBack_4 (by decide) (fun hz => ?_) (fun hz => ?_)
  · have hp8 : ((pl + 8 - 1) % 8) < 8 := by omega
    have hb_o := hhs ((pl + 8 - 1) % 8) hp8
    have hb_o : bkP N _ (h + 2 + 7 * ((pl + 8 - 1) % 8)) 7 (SHC E ad (h + 2 + 7 * ((pl + 8 - 1) % 8)) ((K ((pl + 8 - 1) % 8)).1) ((K ((pl + 8 - 1) % 8)).2.1) ((K ((pl + 8 - 1) % 8)).2.2.1) ((K ((pl + 8 - 1) % 8)).2.2.2.1) ((K ((pl + 8 - 1) % 8)).2.2.2.2.1) ((K ((pl + 8 - 1) % 8)).2.2.2.2.2.1) ((K ((pl + 8 - 1) % 8)).2.2.2.2.2.2.1) ((K ((pl + 8 - 1) % 8)).2.2.2.2.2.2.2.1) ((K ((pl + 8 - 1) % 8)).2.2.2.2.2.2.2.2.1) ((K ((pl + 8 - 1) % 8)).2.2.2.2.2.2.2.2.2)) := hb_o
    obtain ⟨B0, hB0⟩ := hK ((pl + 8 - 1) % 8) hp8
    refine lv_aload_n hx hb dX4_takeBack_9 rfl (lv_at hl 0 rfl) ?_
    refine lv_dup hx hb dX4_takeBack_10 rfl ?_
    refine g_get S hI hP uX4 rfl (fs := _) (hb_h.lt 0 (by decide)) (hb_h.2 0 (by decide)) 2 (by decide) q195 rfl (v := .int (nI (ct))) rfl dX4_takeBack_11 ?_
    refine g_iconst S 1 dX4_takeBack_14 (by decide +kernel) ?_
    refine g_isub S (by omega) dX4_takeBack_15 ?_
    refine g_put S hI hP hS uX4 rfl tyX4 tyX4_ok nmX4 (fs := _) (hb_h.lt 0 (by decide)) (hb_h.2 0 (by decide)) 2 (by decide) q195 rfl rfl (v := .int (nI (ct - 1))) rfl rfl (Nat.le_of_ble_eq_true rfl) dX4_takeBack_16 (fun H locs hP hS => ?_)
    have hP : gP E ad N (va_up _ (h) (HSC E ad h pl (ct - 1) 0)) H := hP
    have hb1 : bkP N (va_up _ (h) (HSC E ad h pl (ct - 1) 0)) h 1 (HSC E ad h pl (ct - 1)) := HS_setO hb_h _ _
    have hb2 := hb_s.keep (p := h) (e := HSC E ad h pl (ct - 1) 0) (by omega)
    have hb3 := hb_o.keep (p := h) (e := HSC E ad h pl (ct - 1) 0) (by omega)
    have hfr := hfr.up (p := h) (e := HSC E ad h pl (ct - 1) 0) (by show _ ∨ _; omega)
    refine lv_aload_n hx hb dX4_takeBack_19 rfl (lv_at hl 0 rfl) ?_
    refine lv_aload_n hx hb dX4_takeBack_20 rfl (lv_at hl 0 rfl) ?_
    refine g_get S hI hP uX4 rfl (fs := _) (hb1.lt 0 (by decide)) (hb1.2 0 (by decide)) 1 (by decide) q194 rfl (v := .int (nI (pl))) rfl dX4_takeBack_21 ?_
    refine g_bipush S 8 dX4_takeBack_24 (by decide +kernel) ?_
    refine g_iadd S dX4_takeBack_26 ?_
    refine g_iconst S 1 dX4_takeBack_27 (by decide +kernel) ?_
    refine g_isub S (by omega) dX4_takeBack_28 ?_
    refine g_bipush S 8 dX4_takeBack_29 (by decide +kernel) ?_
    refine g_irem S (by omega) (by omega) (by omega) dX4_takeBack_31 ?_
    refine g_put S hI hP hS uX4 rfl tyX4 tyX4_ok nmX4 (fs := _) (hb1.lt 0 (by decide)) (hb1.2 0 (by decide)) 1 (by decide) q194 rfl rfl (v := .int (nI ((pl + 8 - 1) % 8))) rfl rfl (Nat.le_of_ble_eq_true rfl) dX4_takeBack_32 (fun H locs hP hS => ?_)
    have hP : gP E ad N (va_up _ (h) (HSC E ad h ((pl + 8 - 1) % 8) (ct - 1) 0)) H := hP
    have hb4 : bkP N (va_up _ (h) (HSC E ad h ((pl + 8 - 1) % 8) (ct - 1) 0)) h 1 (HSC E ad h ((pl + 8 - 1) % 8) (ct - 1)) := HS_setO hb1 _ _
    have hb5 := hb2.keep (p := h) (e := HSC E ad h ((pl + 8 - 1) % 8) (ct - 1) 0) (by omega)
    have hb6 := hb3.keep (p := h) (e := HSC E ad h ((pl + 8 - 1) % 8) (ct - 1) 0) (by omega)
    have hfr := hfr.up (p := h) (e := HSC E ad h ((pl + 8 - 1) % 8) (ct - 1) 0) (by show _ ∨ _; omega)
    refine lv_aload_n hx hb dX4_takeBack_35 rfl (lv_at hl 1 rfl) ?_
    refine lv_aload_n hx hb dX4_takeBack_36 rfl (lv_at hl 0 rfl) ?_
    refine g_get S hI hP uX4 rfl (fs := _) (hb4.lt 0 (by decide)) (hb4.2 0 (by decide)) 0 (by decide) q193 rfl (v := .ref (ad (h + 1))) rfl dX4_takeBack_37 ?_
    refine lv_aload_n hx hb dX4_takeBack_40 rfl (lv_at hl 0 rfl) ?_
    refine g_get S hI hP uX4 rfl (fs := _) (hb4.lt 0 (by decide)) (hb4.2 0 (by decide)) 1 (by decide) q194 rfl (v := .int (nI ((pl + 8 - 1) % 8))) rfl dX4_takeBack_41 ?_
    have hha2 : (va_up (va_up w h (HSC E ad h pl (ct - 1) 0)) h (HSC E ad h ((pl + 8 - 1) % 8) (ct - 1) 0)) (h + 1) = hsA E ad h := by rw [va_up_ne _ _ (by omega), va_up_ne _ _ (by omega)]; exact hha
    have hhs2 : ∀ j, j < 8 → bkP N (va_up (va_up w h (HSC E ad h pl (ct - 1) 0)) h (HSC E ad h ((pl + 8 - 1) % 8) (ct - 1) 0)) (h + 2 + 7 * j) 7 (shC E ad (h + 2 + 7 * j) (K j)) := fun j hj => ((hhs j hj).keep (by omega)).keep (by omega)
    refine g_aald S hI hP (t := 4) (C := "DustSheetMap$Sheet") (q0 := h + 1) (by omega) hha2 rfl ((pl + 8 - 1) % 8) hp8 (by decide) (if_pos hp8) dX4_takeBack_44 ?_
    refine g_afv (g_runV S hI hP hS (k := 1) (As := [.ref (ad (h + 2 + 7 * ((pl + 8 - 1) % 8)))]) (rest := []) (mX7_copyFromN l b (h + 2 + 7 * ((pl + 8 - 1) % 8)) ht dr pg wt wr mo mc ni po dn ((K ((pl + 8 - 1) % 8)).1) ((K ((pl + 8 - 1) % 8)).2.1) ((K ((pl + 8 - 1) % 8)).2.2.1) ((K ((pl + 8 - 1) % 8)).2.2.2.1) ((K ((pl + 8 - 1) % 8)).2.2.2.2.1) ((K ((pl + 8 - 1) % 8)).2.2.2.2.2.1) ((K ((pl + 8 - 1) % 8)).2.2.2.2.2.2.1) ((K ((pl + 8 - 1) % 8)).2.2.2.2.2.2.2.1) ((K ((pl + 8 - 1) % 8)).2.2.2.2.2.2.2.2.1) ((K ((pl + 8 - 1) % 8)).2.2.2.2.2.2.2.2.2) hb5 hb6 (by omega) hB0.2.1) q644 q645 q646 q83 q647 rfl rfl (by decide +kernel) ⟨Nat.le_of_ble_eq_true rfl, Nat.le_of_ble_eq_true rfl⟩ rfl (hb5.lt 0 (by decide)) (hb5.2 0 (by decide)) rfl hl.1 rfl (Nat.le_of_ble_eq_true rfl) ⟨(Nat.le_of_ble_eq_true rfl), (Nat.le_of_ble_eq_true rfl)⟩ dX4_takeBack_45) hS (fun w1 H locs hq hP hS => ?_)
    obtain ⟨hb7, hf8⟩ := hq
    have hb9 := hb4.fr hf8 (fun k hk => by show ¬ _; (try simp only [gIn]); (try dsimp only); omega)
    have hb10 := hb6.fr hf8 (fun k hk => by show ¬ _; (try simp only [gIn]); (try dsimp only); omega)
    have hfr := hfr.trans hf8 (fun q hq => by (try simp only [gIn] at hq ⊢); (try dsimp only at hq ⊢); omega)
    have hf0 : gFr (gIn b 7) (va_up (va_up w h (HSC E ad h pl (ct - 1) 0)) h (HSC E ad h ((pl + 8 - 1) % 8) (ct - 1) 0)) w1 := by assumption
    have hhs3 : ∀ j, j < 8 → bkP N w1 (h + 2 + 7 * j) 7 (shC E ad (h + 2 + 7 * j) (K j)) := fun j hj => (hhs2 j hj).fr hf0 (fun k hk => by show ¬ _; simp only [gIn]; omega)
    have hha3 : w1 (h + 1) = hsA E ad h := (hf0 _ (by simp only [gIn]; omega)).trans hha2
    have hz0 : ¬ ct = 0 := by omega
    refine g_iconst S 1 dX4_takeBack_48 (by decide +kernel) ?_
    exact g_zret S hr hlocks (Or.inr (by decide +kernel)) hP hS (⟨by rw [decide_eq_false hz0]; rfl, by rw [if_neg hz0]; exact ⟨hb9, hhN, hha3, hhs3⟩, by rw [if_neg hz0]; exact hb7, hfr⟩) (fun _ _ => rfl) (Nat.le_of_ble_eq_true rfl) (Nat.le_of_ble_eq_true rfl) dX4_takeBack_49
  · refine g_iconst S 0 dX4_takeBack_7 (by decide +kernel) ?_
    exact g_zret S hr hlocks (Or.inl nI_0) hP hS (⟨by rw [hz]; rfl, by rw [if_pos hz, show ct - 1 = ct by omega]; exact ⟨hb_h, hhN, hha, hhs⟩, by rw [if_pos hz]; exact hb_s, hfr⟩) (fun _ _ => rfl) (Nat.le_of_ble_eq_true rfl) (Nat.le_of_ble_eq_true rfl) dX4_takeBack_8
set_option maxHeartbeats 4000000 in
set_option maxRecDepth 100000 in
/-- no change can be undone -/
theorem mX4_forget (l : Launch) {E : gE} {ad : Nat → Nat} {N : Nat} {w : Nat → va_E} (h pl ct : Nat) (K : Nat → Sh) (hh : hsP E ad N w h pl ct K) : gMv l yX4_forget (lw_ws yX4_forget cX4_forget 1 none) ({ frames := 0, cells := 0, slots := 0, locals := 0 } : Room) E ad N w [.ref (ad (h))] (fun w' => hsP E ad N w' h pl 0 K ∧ gFr (fun q => h ≤ q ∧ q < h + 58) w w') 0 0 := by
  refine Met.ofW (cc := cX4_forget) (maxL := 1) (ret := none) (by decide) rfl ?_
  intro p e s m args below meth cd s₁ B hml hv
  obtain ⟨rfl, hI, hP⟩ := hv
  obtain ⟨S, hr, hlocks⟩ := gPre (ws := []) B hml (C := RX4) rfl
  have hx := S.1
  have hb := S.2.1
  have hS : va_S (gA E) s.heap s.heap [] := va_S.rf
  have hfr : gFr (fun q => h ≤ q ∧ q < h + 58) w w := gFr.rf
  have hl := lv_entry ([.ref (ad (h))]) (n := 1) (Nat.le_of_ble_eq_true rfl)
  rw [lg_entry_eq]
  generalize (lg_sl ([.ref (ad (h))]) ++ List.replicate (1 - (lg_sl ([.ref (ad (h))])).length) Slot.unset).toArray = ls at hl ⊢
  have hl : lv_has ls 1 [(0, .ref (ad (h)))] := hl
  obtain ⟨hb_h, hhN, hha, hhs⟩ := hh
  refine lv_aload_n hx hb dX4_forget_0 rfl (lv_at hl 0 rfl) ?_
  refine g_iconst S 0 dX4_forget_1 (by decide +kernel) ?_
  refine g_put S hI hP hS uX4 rfl tyX4 tyX4_ok nmX4 (fs := _) (hb_h.lt 0 (by decide)) (hb_h.2 0 (by decide)) 2 (by decide) q195 rfl rfl (v := .int (nI (0))) rfl rfl (Nat.le_of_ble_eq_true rfl) dX4_forget_2 (fun H locs hP hS => ?_)
  have hP : gP E ad N (va_up _ (h) (HSC E ad h pl 0 0)) H := hP
  have hb1 : bkP N (va_up _ (h) (HSC E ad h pl 0 0)) h 1 (HSC E ad h pl 0) := HS_setO hb_h _ _
  have hfr := hfr.up (p := h) (e := HSC E ad h pl 0 0) (by show _ ∧ _; omega)
  have hha2 : (va_up w h (HSC E ad h pl 0 0)) (h + 1) = hsA E ad h := by rw [va_up_ne _ _ (by omega)]; exact hha
  have hhs2 : ∀ j, j < 8 → bkP N (va_up w h (HSC E ad h pl 0 0)) (h + 2 + 7 * j) 7 (shC E ad (h + 2 + 7 * j) (K j)) := fun j hj => (hhs j hj).keep (by omega)
  exact g_vret S hr hlocks hP hS (⟨⟨hb1, hhN, hha2, hhs2⟩, hfr⟩) (fun _ _ => rfl) (Nat.le_of_ble_eq_true rfl) (Nat.le_of_ble_eq_true rfl) dX4_forget_5
