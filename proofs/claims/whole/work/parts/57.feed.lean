set_option maxHeartbeats 4000000 in
set_option maxRecDepth 100000 in
/-- a sign is fed -/
theorem mX12_feed (l : Launch) {E : gE} {ad : Nat → Nat} {N : Nat} {w : Nat → va_E} (d : Nat) (sv : Nat) (fp dq : Option Nat) (dd : Int32) (dc : Option Nat) (bf : Nat → Nat) (ln fa : Nat) (rw cl nm : Option Nat) (ch : Nat) (hb_d : bkP N w d 1 (DMC E ad d sv fp dq dd dc)) (hb_t : bkP N w (d + 111) 2 (TPC E ad (d + 111) bf ln fa rw cl nm)) (hlt : l.stackTraces = false) (hz : gHx E) (hln : ln ≤ 60) (hch : ch < 65536) : gXi l yX12_feed (lw_ws yX12_feed cX12_feed 2 (some .int)) ({ frames := 6, cells := 1, slots := 6, locals := 90 } : Room) E ad N w [.ref (ad (d)), .int (nI (ch))] (fun r w' => ln < 60 ∧ r = nI (ln + 1) ∧ bkP N w' (d + 111) 2 (TPC E ad (d + 111) (va_up bf ln ch) (ln + 1) fa rw cl nm) ∧ gFr (gIn (d + 111) 2) w w') (fun xc w' => xc = xIS ∧ ln = 60 ∧ bkP N w' (d + 111) 2 (TPC E ad (d + 111) bf ln fa rw cl nm) ∧ gFr (gIn (d + 111) 2) w w') 1 6 := by
  refine vx_ofW (cc := cX12_feed) (maxL := 2) (ret := (some .int)) (by decide) rfl ?_
  intro p e s m args below meth cd s₁ B hml htab hv
  obtain ⟨rfl, hI, hP⟩ := hv
  obtain ⟨S, hr, hlocks⟩ := gPre (ws := []) B hml (C := RX12) rfl
  have hx := S.1
  have hb := S.2.1
  have hS : va_S (gA E) s.heap s.heap [] := va_S.rf
  have hl := lv_entry ([.ref (ad (d)), .int (nI (ch))]) (n := 2) (Nat.le_of_ble_eq_true rfl)
  rw [lg_entry_eq]
  generalize (lg_sl ([.ref (ad (d)), .int (nI (ch))]) ++ List.replicate (2 - (lg_sl ([.ref (ad (d)), .int (nI (ch))])).length) Slot.unset).toArray = ls at hl ⊢
  have hl : lv_has ls 2 [(0, .ref (ad (d))), (1, .int (nI (ch)))] := hl
  refine lv_aload_n hx hb dX12_feed_0 rfl (lv_at hl 0 rfl) ?_
  refine g_get S hI hP uX12 rfl (fs := _) (hb_d.lt 0 (by decide)) (hb_d.2 0 (by decide)) 8 (by decide) q410 rfl (v := .ref (ad (d + 111))) rfl dX12_feed_1 ?_
  refine lv_iload_n hx hb dX12_feed_4 rfl (lv_at hl 1 rfl) ?_
  refine g_afi (g_runV S hI hP hS (k := 1) (As := [.int (nI (ch))]) (rest := []) (mX9_append l (d + 111) bf ln fa rw cl nm ch hb_t hln hch) q1241 q1242 q1243 q92 q1244 rfl rfl (by decide +kernel) ⟨(Nat.le_of_ble_eq_true rfl), (Nat.le_of_ble_eq_true rfl)⟩ rfl (hb_t.lt 0 (by decide)) (hb_t.2 0 (by decide)) rfl hl.1 rfl (Nat.le_of_ble_eq_true rfl) ⟨(Nat.le_of_ble_eq_true rfl), (Nat.le_of_ble_eq_true rfl)⟩ dX12_feed_5) hS (fun rz w1 H locs hq hP hS => ?_)
  obtain ⟨hq, hf1⟩ := hq
  by_cases h60 : ln = 60
  · rw [if_pos h60] at hq
    obtain ⟨hrz, hb1⟩ := hq
    rw [hrz]
    refine g_ifne S (a := 0) (by omega) (tgt := 21) dX12_feed_8 (by decide) (fun hc => ?_) (fun hc => ?_)
    · omega
    · exact g_throw S hI hP hS hl.1 htab hlocks hlt hz (cls := "java/lang/IllegalStateException") (text := "the text buffer is full") q1245 q114 (by decide) tx_253 (by decide +kernel) dX12_feed_11 dX12_feed_14 dX12_feed_15 dX12_feed_17 dX12_feed_20 (Nat.le_of_ble_eq_true rfl) (Nat.le_of_ble_eq_true rfl) (Nat.le_of_ble_eq_true rfl) (Nat.le_of_ble_eq_true rfl) (Nat.le_of_ble_eq_true rfl) (Nat.le_of_ble_eq_true rfl) (⟨rfl, h60, hb1, hf1⟩)
  · rw [if_neg h60] at hq
    obtain ⟨hrz, hb1⟩ := hq
    rw [hrz]
    refine g_ifne S (a := 1) (by omega) (tgt := 21) dX12_feed_8 (by decide) (fun hc => ?_) (fun hc => ?_)
    · have hx_d := hb_d.fr hf1 (fun k hk => by show ¬ _; simp only [gIn]; omega)
      refine lv_aload_n hx hb dX12_feed_21 rfl (lv_at hl 0 rfl) ?_
      refine g_get S hI hP uX12 rfl (fs := _) (hx_d.lt 0 (by decide)) (hx_d.2 0 (by decide)) 8 (by decide) q410 rfl (v := .ref (ad (d + 111))) rfl dX12_feed_22 ?_
      refine g_getN S hI hP uX9 rfl (fs := _) (hb1.lt 0 (by decide)) (hb1.2 0 (by decide)) 2 (by decide) q349 rfl (v := .int (nI ((ln + 1)))) rfl dX12_feed_25 ?_
      exact vx_ret (g_iret S hr hlocks hP hS (⟨by omega, rfl, hb1, hf1⟩) (fun _ _ => rfl) (Nat.le_of_ble_eq_true rfl) (Nat.le_of_ble_eq_true rfl) dX12_feed_28)
    · omega
