def CMC (E : gE) (ad : Nat → Nat) (b : Nat) (kk : Nat → Nat) (vb : Nat) (o : Option Nat) (v : Int32) : Nat → va_E
  | _ => .inr (6, [.ref (kk vb), .int (oI o), .int v])
theorem CM_setO {E : gE} {ad : Nat → Nat} {N b : Nat} {kk : Nat → Nat} {vb : Nat} {o : Option Nat} {v : Int32} {w : Nat → va_E} (h : bkP N w b 1 (CMC E ad b kk vb o v)) (vb' : Nat) (o' : Option Nat) (v' : Int32) : bkP N (va_up w (b) (CMC E ad b kk vb' o' v' 0)) b 1 (CMC E ad b kk vb' o' v') := (h.set 0 (by decide) _).to (fun k hk => by match k, hk with | 0, _ => rfl)
set_option maxHeartbeats 4000000 in
set_option maxRecDepth 100000 in
/-- a constant of Verb by its number -/
theorem mJx29ce0_ordinal_8abf5 (l : Launch) {E : gE} {ad : Nat → Nat} {N : Nat} {w : Nat → va_E} (kk : Nat → Nat) (hzv : gHv E kk) (i : Nat) (hi : i < 10)  : gMi l yJx29ce0_ordinal_8abf5 (lw_ws yJx29ce0_ordinal_8abf5 cJx29ce0_ordinal_8abf5 1 (some .int)) ({ frames := 0, cells := 0, slots := 0, locals := 0 } : Room) E ad N w [.ref (kk i)] (fun r w' => r = nI i ∧ w' = w) 0 0 := by
  refine Met.ofW (cc := cJx29ce0_ordinal_8abf5) (maxL := 1) (ret := (some .int)) (by decide) rfl ?_
  intro p e s m args below meth cd s₁ B hml hv
  obtain ⟨rfl, hI, hP⟩ := hv
  obtain ⟨S, hr, hlocks⟩ := gPre (ws := []) B hml (C := RJx29ce0) rfl
  have hx := S.1
  have hb := S.2.1
  have hzk := hzv s s.heap hI.2.2.2.2
  have hS : va_S (gA E) s.heap s.heap [] := va_S.rf
  have hl := lv_entry ([.ref (kk i)]) (n := 1) (Nat.le_of_ble_eq_true rfl)
  rw [lg_entry_eq]
  generalize (lg_sl ([.ref (kk i)]) ++ List.replicate (1 - (lg_sl ([.ref (kk i)])).length) Slot.unset).toArray = ls at hl ⊢
  have hl : lv_has ls 1 [(0, .ref (kk i))] := hl
  refine lv_aload_n hx hb dJx29ce0_ordinal_8abf5_0 rfl (lv_at hl 0 rfl) ?_
  refine g_getc S hS (hzk.1 i hi).1.2.2.1 q2303 rfl dJx29ce0_ordinal_8abf5_1 ?_
  exact g_iret S hr hlocks hP hS (⟨rfl, rfl⟩) (fun _ _ => rfl) (Nat.le_of_ble_eq_true rfl) (Nat.le_of_ble_eq_true rfl) dJx29ce0_ordinal_8abf5_4
set_option maxHeartbeats 4000000 in
set_option maxRecDepth 100000 in
/-- is a command refused -/
theorem mX7_refusalOf (l : Launch) {E : gE} {ad : Nat → Nat} {N : Nat} {w : Nat → va_E} (kk : Nat → Nat) (hzv : gHv E kk) (b : Nat) (ht dr pg wt wr mo : Nat → Nat) (mc ni po dn : Nat) (q vb : Nat) (o : Option Nat) (v : Int32) (hb_s : bkP N w b 7 (SHC E ad b ht dr pg wt wr mo mc ni po dn)) (hb_c : bkP N w q 1 (CMC E ad q kk vb o v)) (hvb : vb < 10) (ho : ∀ k, o = some k → k < 36) (hht : ∀ k, k < 36 → ht k ≤ 99) (hpg : ∀ k, k < 36 → pg k ≤ 1) (hwr : ∀ k, k < 36 → wr k ≤ 3) (hm : mc ≤ 4) (hmo : ∀ k, k < mc → mo k < 36) : gMi l yX7_refusalOf (lw_ws yX7_refusalOf cX7_refusalOf 2 (some .int)) ({ frames := 2, cells := 0, slots := 0, locals := 43 } : Room) E ad N w [.ref (ad (b)), .ref (ad (q))] (fun r w' => r = cmR ht pg wr mo mc vb o v ∧ w' = w) 0 0 := by
  refine Met.ofW (cc := cX7_refusalOf) (maxL := 2) (ret := (some .int)) (by decide) rfl ?_
  intro p e s m args below meth cd s₁ B hml hv
  obtain ⟨rfl, hI, hP⟩ := hv
  obtain ⟨S, hr, hlocks⟩ := gPre (ws := []) B hml (C := RX7) rfl
  have hx := S.1
  have hb := S.2.1
  have hzk := hzv s s.heap hI.2.2.2.2
  have hS : va_S (gA E) s.heap s.heap [] := va_S.rf
  have hl := lv_entry ([.ref (ad (b)), .ref (ad (q))]) (n := 2) (Nat.le_of_ble_eq_true rfl)
  rw [lg_entry_eq]
  generalize (lg_sl ([.ref (ad (b)), .ref (ad (q))]) ++ List.replicate (2 - (lg_sl ([.ref (ad (b)), .ref (ad (q))])).length) Slot.unset).toArray = ls at hl ⊢
  have hl : lv_has ls 2 [(0, .ref (ad (b))), (1, .ref (ad (q)))] := hl
  refine g_gets S hS hzk.2.1.1 q481 dX7_refusalOf_0 ?_
  refine lv_aload_n hx hb dX7_refusalOf_3 rfl (lv_at hl 1 rfl) ?_
  refine g_getN S hI hP uX2 rfl (fs := _) (hb_c.lt 0 (by decide)) (hb_c.2 0 (by decide)) 0 (by decide) q461 rfl (v := .ref (kk vb)) rfl dX7_refusalOf_4 ?_
  refine g_roi (g_runO S hI hP hS (k := 0) (As := []) (rest := [.ref (kk 31)]) (hzk.1 vb hvb).1.2.1 (mJx29ce0_ordinal_8abf5 l kk hzv vb hvb) q483 q484 q487 q486 q102 q488 rfl rfl rfl (by decide +kernel) ⟨(Nat.le_of_ble_eq_true rfl), (Nat.le_of_ble_eq_true rfl)⟩ rfl hl.1 rfl (Nat.le_of_ble_eq_true rfl) ⟨(Nat.le_of_ble_eq_true rfl), (Nat.le_of_ble_eq_true rfl)⟩ dX7_refusalOf_7) hS (fun H locs hP hS => ?_)
  refine g_sti S hS hzk.2.1.2 vb hvb (by decide) dX7_refusalOf_10 ?_
  rcases (show vb = 0 ∨ vb = 1 ∨ vb = 2 ∨ vb = 3 ∨ vb = 4 ∨ vb = 5 ∨ vb = 6 ∨ vb = 7 ∨ vb = 8 ∨ vb = 9 from by omega) with rfl | rfl | rfl | rfl | rfl | rfl | rfl | rfl | rfl | rfl
  · show W p l e _ s m _ below meth cd _ _ _ _ _ (F0 m _ ls [.int (nI 1)])
    refine g_tabIn S (a := 1) (by decide) dX7_refusalOf_11 (by decide) (by decide) rfl (tgt := 52) (by decide) ?_
    refine lv_aload_n hx hb dX7_refusalOf_52 rfl (lv_at hl 0 rfl) ?_
    refine lv_aload_n hx hb dX7_refusalOf_53 rfl (lv_at hl 1 rfl) ?_
    refine g_getN S hI hP uX2 rfl (fs := _) (hb_c.lt 0 (by decide)) (hb_c.2 0 (by decide)) 1 (by decide) q463 rfl (v := .int (oI (o))) rfl dX7_refusalOf_54 ?_
    refine lv_aload_n hx hb dX7_refusalOf_57 rfl (lv_at hl 1 rfl) ?_
    refine g_getN S hI hP uX2 rfl (fs := _) (hb_c.lt 0 (by decide)) (hb_c.2 0 (by decide)) 2 (by decide) q465 rfl (v := .int (v)) rfl dX7_refusalOf_58 ?_
    refine g_roi (g_runV S hI hP hS (k := 2) (As := [.int (oI (o)), .int (v)]) (rest := []) (mX7_refusalOfHeight l b ht dr pg wt wr mo mc ni po dn o v hb_s ho hht) q489 q491 q1 q83 q492 rfl rfl (by decide +kernel) ⟨Nat.le_of_ble_eq_true rfl, Nat.le_of_ble_eq_true rfl⟩ rfl (hb_s.lt 0 (by decide)) (hb_s.2 0 (by decide)) rfl hl.1 rfl (Nat.le_of_ble_eq_true rfl) ⟨(Nat.le_of_ble_eq_true rfl), (Nat.le_of_ble_eq_true rfl)⟩ dX7_refusalOf_61) hS (fun H locs hP hS => ?_)
    exact g_iret S hr hlocks hP hS (⟨rfl, rfl⟩) (fun _ _ => rfl) (Nat.le_of_ble_eq_true rfl) (Nat.le_of_ble_eq_true rfl) dX7_refusalOf_64
  · show W p l e _ s m _ below meth cd _ _ _ _ _ (F0 m _ ls [.int (nI 2)])
    refine g_tabIn S (a := 2) (by decide) dX7_refusalOf_11 (by decide) (by decide) rfl (tgt := 65) (by decide) ?_
    refine lv_aload_n hx hb dX7_refusalOf_65 rfl (lv_at hl 0 rfl) ?_
    refine lv_aload_n hx hb dX7_refusalOf_66 rfl (lv_at hl 1 rfl) ?_
    refine g_getN S hI hP uX2 rfl (fs := _) (hb_c.lt 0 (by decide)) (hb_c.2 0 (by decide)) 1 (by decide) q463 rfl (v := .int (oI (o))) rfl dX7_refusalOf_67 ?_
    refine g_iconst S 1 dX7_refusalOf_70 (by decide +kernel) ?_
    refine g_roi (g_runV S hI hP hS (k := 2) (As := [.int (oI (o)), .int (nI (1))]) (rest := []) (mX7_refusalOfPegging l b ht dr pg wt wr mo mc ni po dn o 1 hb_s ho (by decide) hpg) q493 q495 q2 q83 q496 rfl rfl (by decide +kernel) ⟨Nat.le_of_ble_eq_true rfl, Nat.le_of_ble_eq_true rfl⟩ rfl (hb_s.lt 0 (by decide)) (hb_s.2 0 (by decide)) rfl hl.1 rfl (Nat.le_of_ble_eq_true rfl) ⟨(Nat.le_of_ble_eq_true rfl), (Nat.le_of_ble_eq_true rfl)⟩ dX7_refusalOf_71) hS (fun H locs hP hS => ?_)
    exact g_iret S hr hlocks hP hS (⟨rfl, rfl⟩) (fun _ _ => rfl) (Nat.le_of_ble_eq_true rfl) (Nat.le_of_ble_eq_true rfl) dX7_refusalOf_74
  · show W p l e _ s m _ below meth cd _ _ _ _ _ (F0 m _ ls [.int (nI 3)])
    refine g_tabIn S (a := 3) (by decide) dX7_refusalOf_11 (by decide) (by decide) rfl (tgt := 75) (by decide) ?_
    refine lv_aload_n hx hb dX7_refusalOf_75 rfl (lv_at hl 0 rfl) ?_
    refine lv_aload_n hx hb dX7_refusalOf_76 rfl (lv_at hl 1 rfl) ?_
    refine g_getN S hI hP uX2 rfl (fs := _) (hb_c.lt 0 (by decide)) (hb_c.2 0 (by decide)) 1 (by decide) q463 rfl (v := .int (oI (o))) rfl dX7_refusalOf_77 ?_
    refine g_iconst S 0 dX7_refusalOf_80 (by decide +kernel) ?_
    refine g_roi (g_runV S hI hP hS (k := 2) (As := [.int (oI (o)), .int (nI (0))]) (rest := []) (mX7_refusalOfPegging l b ht dr pg wt wr mo mc ni po dn o 0 hb_s ho (by decide) hpg) q493 q495 q2 q83 q496 rfl rfl (by decide +kernel) ⟨Nat.le_of_ble_eq_true rfl, Nat.le_of_ble_eq_true rfl⟩ rfl (hb_s.lt 0 (by decide)) (hb_s.2 0 (by decide)) rfl hl.1 rfl (Nat.le_of_ble_eq_true rfl) ⟨(Nat.le_of_ble_eq_true rfl), (Nat.le_of_ble_eq_true rfl)⟩ dX7_refusalOf_81) hS (fun H locs hP hS => ?_)
    exact g_iret S hr hlocks hP hS (⟨rfl, rfl⟩) (fun _ _ => rfl) (Nat.le_of_ble_eq_true rfl) (Nat.le_of_ble_eq_true rfl) dX7_refusalOf_84
  · show W p l e _ s m _ below meth cd _ _ _ _ _ (F0 m _ ls [.int (nI 8)])
    refine g_tabOut S (a := 8) (by decide) dX7_refusalOf_11 (by decide) (tgt := 133) (by decide) ?_
    refine g_iconst S 0 dX7_refusalOf_133 (by decide +kernel) ?_
    exact g_iret S hr hlocks hP hS (⟨rfl, rfl⟩) (fun _ _ => rfl) (Nat.le_of_ble_eq_true rfl) (Nat.le_of_ble_eq_true rfl) dX7_refusalOf_134
  · show W p l e _ s m _ below meth cd _ _ _ _ _ (F0 m _ ls [.int (nI 4)])
    refine g_tabIn S (a := 4) (by decide) dX7_refusalOf_11 (by decide) (by decide) rfl (tgt := 85) (by decide) ?_
    refine lv_aload_n hx hb dX7_refusalOf_85 rfl (lv_at hl 0 rfl) ?_
    refine lv_aload_n hx hb dX7_refusalOf_86 rfl (lv_at hl 1 rfl) ?_
    refine g_getN S hI hP uX2 rfl (fs := _) (hb_c.lt 0 (by decide)) (hb_c.2 0 (by decide)) 1 (by decide) q463 rfl (v := .int (oI (o))) rfl dX7_refusalOf_87 ?_
    refine lv_aload_n hx hb dX7_refusalOf_90 rfl (lv_at hl 1 rfl) ?_
    refine g_getN S hI hP uX2 rfl (fs := _) (hb_c.lt 0 (by decide)) (hb_c.2 0 (by decide)) 2 (by decide) q465 rfl (v := .int (v)) rfl dX7_refusalOf_91 ?_
    refine g_roi (g_runV S hI hP hS (k := 2) (As := [.int (oI (o)), .int (v)]) (rest := []) (mX7_refusalOfPouring l b ht dr pg wt wr mo mc ni po dn o v hb_s ho) q497 q499 q3 q83 q500 rfl rfl (by decide +kernel) ⟨Nat.le_of_ble_eq_true rfl, Nat.le_of_ble_eq_true rfl⟩ rfl (hb_s.lt 0 (by decide)) (hb_s.2 0 (by decide)) rfl hl.1 rfl (Nat.le_of_ble_eq_true rfl) ⟨(Nat.le_of_ble_eq_true rfl), (Nat.le_of_ble_eq_true rfl)⟩ dX7_refusalOf_94) hS (fun H locs hP hS => ?_)
    exact g_iret S hr hlocks hP hS (⟨rfl, rfl⟩) (fun _ _ => rfl) (Nat.le_of_ble_eq_true rfl) (Nat.le_of_ble_eq_true rfl) dX7_refusalOf_97
  · show W p l e _ s m _ below meth cd _ _ _ _ _ (F0 m _ ls [.int (nI 9)])
    refine g_tabOut S (a := 9) (by decide) dX7_refusalOf_11 (by decide) (tgt := 133) (by decide) ?_
    refine g_iconst S 0 dX7_refusalOf_133 (by decide +kernel) ?_
    exact g_iret S hr hlocks hP hS (⟨rfl, rfl⟩) (fun _ _ => rfl) (Nat.le_of_ble_eq_true rfl) (Nat.le_of_ble_eq_true rfl) dX7_refusalOf_134
  · show W p l e _ s m _ below meth cd _ _ _ _ _ (F0 m _ ls [.int (nI 5)])
    refine g_tabIn S (a := 5) (by decide) dX7_refusalOf_11 (by decide) (by decide) rfl (tgt := 98) (by decide) ?_
    refine lv_aload_n hx hb dX7_refusalOf_98 rfl (lv_at hl 0 rfl) ?_
    refine lv_aload_n hx hb dX7_refusalOf_99 rfl (lv_at hl 1 rfl) ?_
    refine g_getN S hI hP uX2 rfl (fs := _) (hb_c.lt 0 (by decide)) (hb_c.2 0 (by decide)) 1 (by decide) q463 rfl (v := .int (oI (o))) rfl dX7_refusalOf_100 ?_
    refine g_roi (g_runV S hI hP hS (k := 1) (As := [.int (oI (o))]) (rest := []) (mX7_refusalOfMoth l b ht dr pg wt wr mo mc ni po dn o hb_s ho hwr hm hmo) q501 q503 q4 q83 q504 rfl rfl (by decide +kernel) ⟨Nat.le_of_ble_eq_true rfl, Nat.le_of_ble_eq_true rfl⟩ rfl (hb_s.lt 0 (by decide)) (hb_s.2 0 (by decide)) rfl hl.1 rfl (Nat.le_of_ble_eq_true rfl) ⟨(Nat.le_of_ble_eq_true rfl), (Nat.le_of_ble_eq_true rfl)⟩ dX7_refusalOf_103) hS (fun H locs hP hS => ?_)
    exact g_iret S hr hlocks hP hS (⟨rfl, rfl⟩) (fun _ _ => rfl) (Nat.le_of_ble_eq_true rfl) (Nat.le_of_ble_eq_true rfl) dX7_refusalOf_106
  · show W p l e _ s m _ below meth cd _ _ _ _ _ (F0 m _ ls [.int (nI 6)])
    refine g_tabIn S (a := 6) (by decide) dX7_refusalOf_11 (by decide) (by decide) rfl (tgt := 107) (by decide) ?_
    refine lv_aload_n hx hb dX7_refusalOf_107 rfl (lv_at hl 0 rfl) ?_
    refine lv_aload_n hx hb dX7_refusalOf_108 rfl (lv_at hl 1 rfl) ?_
    refine g_getN S hI hP uX2 rfl (fs := _) (hb_c.lt 0 (by decide)) (hb_c.2 0 (by decide)) 2 (by decide) q465 rfl (v := .int (v)) rfl dX7_refusalOf_109 ?_
    refine g_roi (g_runV S hI hP hS (k := 1) (As := [.int (v)]) (rest := []) (mX7_isMoth l b ht dr pg wt wr mo mc ni po dn v hb_s hm) q513 q514 q515 q83 q516 rfl rfl (by decide +kernel) ⟨Nat.le_of_ble_eq_true rfl, Nat.le_of_ble_eq_true rfl⟩ rfl (hb_s.lt 0 (by decide)) (hb_s.2 0 (by decide)) rfl hl.1 rfl (Nat.le_of_ble_eq_true rfl) ⟨(Nat.le_of_ble_eq_true rfl), (Nat.le_of_ble_eq_true rfl)⟩ dX7_refusalOf_112) hS (fun H locs hP hS => ?_)
    refine g_beq S (b := (inR v mc).isSome) (tgt := 122) dX7_refusalOf_115 (by decide) (fun hsm => ?_) (fun hsm => ?_)
    · refine lv_iconst (v := -1) hx hb dX7_refusalOf_122 (by decide +kernel) ?_
      exact g_iret S hr hlocks hP hS (⟨by show _ = (if (inR v mc).isSome = true then nI 0 else -1); rw [if_neg (by rw [hsm]; decide)], rfl⟩) (fun _ _ => rfl) (Nat.le_of_ble_eq_true rfl) (Nat.le_of_ble_eq_true rfl) dX7_refusalOf_123
    · refine g_iconst S 0 dX7_refusalOf_118 (by decide +kernel) ?_
      refine lv_goto (tgt := 123) hx hb dX7_refusalOf_119 (by decide) ?_
      exact g_iret S hr hlocks hP hS (⟨by show _ = (if (inR v mc).isSome = true then nI 0 else -1); rw [if_pos hsm], rfl⟩) (fun _ _ => rfl) (Nat.le_of_ble_eq_true rfl) (Nat.le_of_ble_eq_true rfl) dX7_refusalOf_123
  · show W p l e _ s m _ below meth cd _ _ _ _ _ (F0 m _ ls [.int (nI 10)])
    refine g_tabOut S (a := 10) (by decide) dX7_refusalOf_11 (by decide) (tgt := 133) (by decide) ?_
    refine g_iconst S 0 dX7_refusalOf_133 (by decide +kernel) ?_
    exact g_iret S hr hlocks hP hS (⟨rfl, rfl⟩) (fun _ _ => rfl) (Nat.le_of_ble_eq_true rfl) (Nat.le_of_ble_eq_true rfl) dX7_refusalOf_134
  · show W p l e _ s m _ below meth cd _ _ _ _ _ (F0 m _ ls [.int (nI 7)])
    refine g_tabIn S (a := 7) (by decide) dX7_refusalOf_11 (by decide) (by decide) rfl (tgt := 124) (by decide) ?_
    refine lv_aload_n hx hb dX7_refusalOf_124 rfl (lv_at hl 0 rfl) ?_
    refine lv_aload_n hx hb dX7_refusalOf_125 rfl (lv_at hl 1 rfl) ?_
    refine g_getN S hI hP uX2 rfl (fs := _) (hb_c.lt 0 (by decide)) (hb_c.2 0 (by decide)) 1 (by decide) q463 rfl (v := .int (oI (o))) rfl dX7_refusalOf_126 ?_
    refine g_roi (g_runV S hI hP hS (k := 1) (As := [.int (oI (o))]) (rest := []) (mX7_refusalOfPatch l b ht dr pg wt wr mo mc ni po dn o hb_s ho hwr hm hmo) q517 q519 q5 q83 q520 rfl rfl (by decide +kernel) ⟨Nat.le_of_ble_eq_true rfl, Nat.le_of_ble_eq_true rfl⟩ rfl (hb_s.lt 0 (by decide)) (hb_s.2 0 (by decide)) rfl hl.1 rfl (Nat.le_of_ble_eq_true rfl) ⟨(Nat.le_of_ble_eq_true rfl), (Nat.le_of_ble_eq_true rfl)⟩ dX7_refusalOf_129) hS (fun H locs hP hS => ?_)
    exact g_iret S hr hlocks hP hS (⟨rfl, rfl⟩) (fun _ _ => rfl) (Nat.le_of_ble_eq_true rfl) (Nat.le_of_ble_eq_true rfl) dX7_refusalOf_132
set_option maxHeartbeats 4000000 in
set_option maxRecDepth 100000 in
/-- a denial's detail -/
theorem mX7_detailOf (l : Launch) {E : gE} {ad : Nat → Nat} {N : Nat} {w : Nat → va_E} (kk : Nat → Nat) (hzv : gHv E kk) (b : Nat) (ht dr pg wt wr mo : Nat → Nat) (mc ni po dn : Nat) (q vb : Nat) (o : Option Nat) (v : Int32) (dq : Nat) (hb_s : bkP N w b 7 (SHC E ad b ht dr pg wt wr mo mc ni po dn)) (hb_c : bkP N w q 1 (CMC E ad q kk vb o v)) (hdq : dq < 7) (ho5 : dq = 5 → ∃ k, o = some k ∧ k < 36) (hvb : vb < 10) (ho : ∀ k, o = some k → k < 36) (hht : ∀ k, k < 36 → ht k ≤ 99) (hpg : ∀ k, k < 36 → pg k ≤ 1) (hwr : ∀ k, k < 36 → wr k ≤ 3) (hm : mc ≤ 4) (hmo : ∀ k, k < mc → mo k < 36) : gMi l yX7_detailOf (lw_ws yX7_detailOf cX7_detailOf 3 (some .int)) ({ frames := 2, cells := 0, slots := 0, locals := 43 } : Room) E ad N w [.ref (ad (b)), .int (nI (dq)), .ref (ad (q))] (fun r w' => r = cmT pg wr mo mc dq o v ∧ w' = w) 0 0 := by
  refine Met.ofW (cc := cX7_detailOf) (maxL := 3) (ret := (some .int)) (by decide) rfl ?_
  intro p e s m args below meth cd s₁ B hml hv
  obtain ⟨rfl, hI, hP⟩ := hv
  obtain ⟨S, hr, hlocks⟩ := gPre (ws := []) B hml (C := RX7) rfl
  have hx := S.1
  have hb := S.2.1
  have hzk := hzv s s.heap hI.2.2.2.2
  have hS : va_S (gA E) s.heap s.heap [] := va_S.rf
  have hl := lv_entry ([.ref (ad (b)), .int (nI (dq)), .ref (ad (q))]) (n := 3) (Nat.le_of_ble_eq_true rfl)
  rw [lg_entry_eq]
  generalize (lg_sl ([.ref (ad (b)), .int (nI (dq)), .ref (ad (q))]) ++ List.replicate (3 - (lg_sl ([.ref (ad (b)), .int (nI (dq)), .ref (ad (q))])).length) Slot.unset).toArray = ls at hl ⊢
  have hl : lv_has ls 3 [(0, .ref (ad (b))), (1, .int (nI (dq))), (2, .ref (ad (q)))] := hl
  refine lv_iload_n hx hb dX7_detailOf_0 rfl (lv_at hl 1 rfl) ?_
  rcases (show dq = 0 ∨ dq = 1 ∨ dq = 2 ∨ dq = 3 ∨ dq = 4 ∨ dq = 5 ∨ dq = 6 from by omega) with rfl | rfl | rfl | rfl | rfl | rfl | rfl
  · refine g_tabOut S (a := 0) (by decide) dX7_detailOf_1 (by decide) (tgt := 57) (by decide) ?_
    refine lv_aload_n hx hb dX7_detailOf_57 rfl (lv_at hl 2 rfl) ?_
    refine g_getN S hI hP uX2 rfl (fs := _) (hb_c.lt 0 (by decide)) (hb_c.2 0 (by decide)) 2 (by decide) q465 rfl (v := .int (v)) rfl dX7_detailOf_58 ?_
    exact g_iret S hr hlocks hP hS (⟨rfl, rfl⟩) (fun _ _ => rfl) (Nat.le_of_ble_eq_true rfl) (Nat.le_of_ble_eq_true rfl) dX7_detailOf_61
  · refine g_tabIn S (a := 1) (by decide) dX7_detailOf_1 (by decide) (by decide) rfl (tgt := 36) (by decide) ?_
    refine g_iconst S 4 dX7_detailOf_36 (by decide +kernel) ?_
    exact g_iret S hr hlocks hP hS (⟨rfl, rfl⟩) (fun _ _ => rfl) (Nat.le_of_ble_eq_true rfl) (Nat.le_of_ble_eq_true rfl) dX7_detailOf_37
  · refine g_tabIn S (a := 2) (by decide) dX7_detailOf_1 (by decide) (by decide) rfl (tgt := 38) (by decide) ?_
    refine lv_aload_n hx hb dX7_detailOf_38 rfl (lv_at hl 0 rfl) ?_
    refine g_roi (g_runV S hI hP hS (k := 0) (As := []) (rest := []) (mX7_countPegs l b ht dr pg wt wr mo mc ni po dn hb_s hpg) q612 q613 q614 q83 q615 rfl rfl (by decide +kernel) ⟨Nat.le_of_ble_eq_true rfl, Nat.le_of_ble_eq_true rfl⟩ rfl (hb_s.lt 0 (by decide)) (hb_s.2 0 (by decide)) rfl hl.1 rfl (Nat.le_of_ble_eq_true rfl) ⟨(Nat.le_of_ble_eq_true rfl), (Nat.le_of_ble_eq_true rfl)⟩ dX7_detailOf_39) hS (fun H locs hP hS => ?_)
    exact g_iret S hr hlocks hP hS (⟨rfl, rfl⟩) (fun _ _ => rfl) (Nat.le_of_ble_eq_true rfl) (Nat.le_of_ble_eq_true rfl) dX7_detailOf_42
  · refine g_tabIn S (a := 3) (by decide) dX7_detailOf_1 (by decide) (by decide) rfl (tgt := 43) (by decide) ?_
    refine lv_aload_n hx hb dX7_detailOf_43 rfl (lv_at hl 0 rfl) ?_
    refine g_roi (g_runV S hI hP hS (k := 0) (As := []) (rest := []) (mX7_countHoles l b ht dr pg wt wr mo mc ni po dn hb_s hwr) q616 q617 q618 q83 q619 rfl rfl (by decide +kernel) ⟨Nat.le_of_ble_eq_true rfl, Nat.le_of_ble_eq_true rfl⟩ rfl (hb_s.lt 0 (by decide)) (hb_s.2 0 (by decide)) rfl hl.1 rfl (Nat.le_of_ble_eq_true rfl) ⟨(Nat.le_of_ble_eq_true rfl), (Nat.le_of_ble_eq_true rfl)⟩ dX7_detailOf_44) hS (fun H locs hP hS => ?_)
    exact g_iret S hr hlocks hP hS (⟨rfl, rfl⟩) (fun _ _ => rfl) (Nat.le_of_ble_eq_true rfl) (Nat.le_of_ble_eq_true rfl) dX7_detailOf_47
  · refine g_tabIn S (a := 4) (by decide) dX7_detailOf_1 (by decide) (by decide) rfl (tgt := 43) (by decide) ?_
    refine lv_aload_n hx hb dX7_detailOf_43 rfl (lv_at hl 0 rfl) ?_
    refine g_roi (g_runV S hI hP hS (k := 0) (As := []) (rest := []) (mX7_countHoles l b ht dr pg wt wr mo mc ni po dn hb_s hwr) q616 q617 q618 q83 q619 rfl rfl (by decide +kernel) ⟨Nat.le_of_ble_eq_true rfl, Nat.le_of_ble_eq_true rfl⟩ rfl (hb_s.lt 0 (by decide)) (hb_s.2 0 (by decide)) rfl hl.1 rfl (Nat.le_of_ble_eq_true rfl) ⟨(Nat.le_of_ble_eq_true rfl), (Nat.le_of_ble_eq_true rfl)⟩ dX7_detailOf_44) hS (fun H locs hP hS => ?_)
    exact g_iret S hr hlocks hP hS (⟨rfl, rfl⟩) (fun _ _ => rfl) (Nat.le_of_ble_eq_true rfl) (Nat.le_of_ble_eq_true rfl) dX7_detailOf_47
  · refine g_tabIn S (a := 5) (by decide) dX7_detailOf_1 (by decide) (by decide) rfl (tgt := 48) (by decide) ?_
    obtain ⟨k5, hk5, hk36⟩ := ho5 rfl
    subst hk5
    refine lv_aload_n hx hb dX7_detailOf_48 rfl (lv_at hl 0 rfl) ?_
    refine lv_aload_n hx hb dX7_detailOf_49 rfl (lv_at hl 2 rfl) ?_
    refine g_getN S hI hP uX2 rfl (fs := _) (hb_c.lt 0 (by decide)) (hb_c.2 0 (by decide)) 1 (by decide) q463 rfl (v := .int (oI ((some k5)))) rfl dX7_detailOf_50 ?_
    refine g_roi (g_runV S hI hP hS (k := 1) (As := [.int (nI (k5))]) (rest := []) (mX7_mothOn l b ht dr pg wt wr mo mc ni po dn k5 hb_s hk36 hm hmo) q509 q510 q511 q83 q512 rfl rfl (by decide +kernel) ⟨Nat.le_of_ble_eq_true rfl, Nat.le_of_ble_eq_true rfl⟩ rfl (hb_s.lt 0 (by decide)) (hb_s.2 0 (by decide)) rfl hl.1 rfl (Nat.le_of_ble_eq_true rfl) ⟨(Nat.le_of_ble_eq_true rfl), (Nat.le_of_ble_eq_true rfl)⟩ dX7_detailOf_53) hS (fun H locs hP hS => ?_)
    exact g_iret S hr hlocks hP hS (⟨rfl, rfl⟩) (fun _ _ => rfl) (Nat.le_of_ble_eq_true rfl) (Nat.le_of_ble_eq_true rfl) dX7_detailOf_56
  · refine g_tabOut S (a := 6) (by decide) dX7_detailOf_1 (by decide) (tgt := 57) (by decide) ?_
    refine lv_aload_n hx hb dX7_detailOf_57 rfl (lv_at hl 2 rfl) ?_
    refine g_getN S hI hP uX2 rfl (fs := _) (hb_c.lt 0 (by decide)) (hb_c.2 0 (by decide)) 2 (by decide) q465 rfl (v := .int (v)) rfl dX7_detailOf_58 ?_
    exact g_iret S hr hlocks hP hS (⟨rfl, rfl⟩) (fun _ _ => rfl) (Nat.le_of_ble_eq_true rfl) (Nat.le_of_ble_eq_true rfl) dX7_detailOf_61
set_option maxHeartbeats 4000000 in
set_option maxRecDepth 100000 in
/-- a command is carried out -/
theorem mX7_carryOut (l : Launch) {E : gE} {ad : Nat → Nat} {N : Nat} {w : Nat → va_E} (kk : Nat → Nat) (hzv : gHv E kk) (b : Nat) (ht dr pg wt wr mo : Nat → Nat) (mc ni po dn : Nat) (q vb : Nat) (o : Option Nat) (v : Int32) (k u : Nat) (hb_s : bkP N w b 7 (SHC E ad b ht dr pg wt wr mo mc ni po dn)) (hb_c : bkP N w q 1 (CMC E ad q kk vb o v)) (hbq : b + 7 ≤ q) (hvb : vb < 10) (ho : ∀ k, o = some k → k < 36) (hck : cmK vb o v k u mc) (hht : ∀ k, k < 36 → ht k ≤ 99) (hpg : ∀ k, k < 36 → pg k ≤ 1) (hwr : ∀ k, k < 36 → wr k ≤ 3) (hm : mc ≤ 4) (hmo : ∀ k, k < mc → mo k < 36) : gMi l yX7_carryOut (lw_ws yX7_carryOut cX7_carryOut 2 (some .int)) ({ frames := 6, cells := 0, slots := 0, locals := 138 } : Room) E ad N w [.ref (ad (b)), .ref (ad (q))] (fun r w' => r = (cmS vb k u ht dr pg wt wr mo mc ni po dn).1 ∧ bkP N w' b 7 (SHC E ad b (cmS vb k u ht dr pg wt wr mo mc ni po dn).2.1 (cmS vb k u ht dr pg wt wr mo mc ni po dn).2.2.1 (cmS vb k u ht dr pg wt wr mo mc ni po dn).2.2.2.1 (cmS vb k u ht dr pg wt wr mo mc ni po dn).2.2.2.2.1 (cmS vb k u ht dr pg wt wr mo mc ni po dn).2.2.2.2.2.1 (cmS vb k u ht dr pg wt wr mo mc ni po dn).2.2.2.2.2.2.1 (cmS vb k u ht dr pg wt wr mo mc ni po dn).2.2.2.2.2.2.2.1 (cmS vb k u ht dr pg wt wr mo mc ni po dn).2.2.2.2.2.2.2.2.1 (cmS vb k u ht dr pg wt wr mo mc ni po dn).2.2.2.2.2.2.2.2.2.1 (cmS vb k u ht dr pg wt wr mo mc ni po dn).2.2.2.2.2.2.2.2.2.2) ∧ gFr (gIn b 7) w w') 0 0 := by
  refine Met.ofW (cc := cX7_carryOut) (maxL := 2) (ret := (some .int)) (by decide) rfl ?_
  intro p e s m args below meth cd s₁ B hml hv
  obtain ⟨rfl, hI, hP⟩ := hv
  obtain ⟨S, hr, hlocks⟩ := gPre (ws := []) B hml (C := RX7) rfl
  have hx := S.1
  have hb := S.2.1
  have hzk := hzv s s.heap hI.2.2.2.2
  have hS : va_S (gA E) s.heap s.heap [] := va_S.rf
  have hfr : gFr (gIn b 7) w w := gFr.rf
  have hl := lv_entry ([.ref (ad (b)), .ref (ad (q))]) (n := 2) (Nat.le_of_ble_eq_true rfl)
  rw [lg_entry_eq]
  generalize (lg_sl ([.ref (ad (b)), .ref (ad (q))]) ++ List.replicate (2 - (lg_sl ([.ref (ad (b)), .ref (ad (q))])).length) Slot.unset).toArray = ls at hl ⊢
  have hl : lv_has ls 2 [(0, .ref (ad (b))), (1, .ref (ad (q)))] := hl
  obtain ⟨hk36, hu31, hok, hvu, h64, h7m⟩ := hck
  refine g_gets S hS hzk.2.1.1 q481 dX7_carryOut_0 ?_
  refine lv_aload_n hx hb dX7_carryOut_3 rfl (lv_at hl 1 rfl) ?_
  refine g_getN S hI hP uX2 rfl (fs := _) (hb_c.lt 0 (by decide)) (hb_c.2 0 (by decide)) 0 (by decide) q461 rfl (v := .ref (kk vb)) rfl dX7_carryOut_4 ?_
  refine g_roi (g_runO S hI hP hS (k := 0) (As := []) (rest := [.ref (kk 31)]) (hzk.1 vb hvb).1.2.1 (mJx29ce0_ordinal_8abf5 l kk hzv vb hvb) q483 q484 q487 q486 q102 q488 rfl rfl rfl (by decide +kernel) ⟨(Nat.le_of_ble_eq_true rfl), (Nat.le_of_ble_eq_true rfl)⟩ rfl hl.1 rfl (Nat.le_of_ble_eq_true rfl) ⟨(Nat.le_of_ble_eq_true rfl), (Nat.le_of_ble_eq_true rfl)⟩ dX7_carryOut_7) hS (fun H locs hP hS => ?_)
  refine g_sti S hS hzk.2.1.2 vb hvb (by decide) dX7_carryOut_10 ?_
  rcases (show vb = 0 ∨ vb = 1 ∨ vb = 2 ∨ vb = 3 ∨ vb = 4 ∨ vb = 5 ∨ vb = 6 ∨ vb = 7 ∨ vb = 8 ∨ vb = 9 from by omega) with rfl | rfl | rfl | rfl | rfl | rfl | rfl | rfl | rfl | rfl
  · show W p l e _ s m _ below meth cd _ _ _ _ _ (F0 m _ ls [.int (nI 1)])
    refine g_tabIn S (a := 1) (by decide) dX7_carryOut_11 (by decide) (by decide) rfl (tgt := 64) (by decide) ?_
    have hok := hok (by omega)
    subst hok
    have hvu := hvu (by omega)
    subst hvu
    refine lv_aload_n hx hb dX7_carryOut_64 rfl (lv_at hl 0 rfl) ?_
    refine lv_aload_n hx hb dX7_carryOut_65 rfl (lv_at hl 1 rfl) ?_
    refine g_getN S hI hP uX2 rfl (fs := _) (hb_c.lt 0 (by decide)) (hb_c.2 0 (by decide)) 1 (by decide) q463 rfl (v := .int (oI ((some k)))) rfl dX7_carryOut_66 ?_
    refine lv_aload_n hx hb dX7_carryOut_69 rfl (lv_at hl 1 rfl) ?_
    refine g_getN S hI hP uX2 rfl (fs := _) (hb_c.lt 0 (by decide)) (hb_c.2 0 (by decide)) 2 (by decide) q465 rfl (v := .int ((nI u))) rfl dX7_carryOut_70 ?_
    refine g_afi (g_runV S hI hP hS (k := 2) (As := [.int (nI (k)), .int (nI (u))]) (rest := []) (mX7_replaceHeight l b ht dr pg wt wr mo mc ni po dn k u hb_s hk36) q658 q660 q8 q83 q661 rfl rfl (by decide +kernel) ⟨Nat.le_of_ble_eq_true rfl, Nat.le_of_ble_eq_true rfl⟩ rfl (hb_s.lt 0 (by decide)) (hb_s.2 0 (by decide)) rfl hl.1 rfl (Nat.le_of_ble_eq_true rfl) ⟨(Nat.le_of_ble_eq_true rfl), (Nat.le_of_ble_eq_true rfl)⟩ dX7_carryOut_73) hS (fun rz w1 H locs hq hP hS => ?_)
    obtain ⟨hr3, hb1, hf2⟩ := hq
    rw [hr3]
    have hb4 := hb_c.fr hf2 (fun k hk => by show ¬ _; (try simp only [gIn]); (try dsimp only); omega)
    have hfr := hfr.trans hf2 (fun q hq => by (try simp only [gIn] at hq ⊢); (try dsimp only at hq ⊢); omega)
    exact g_iret S hr hlocks hP hS (⟨rfl, hb1, hfr⟩) (fun _ _ => rfl) (Nat.le_of_ble_eq_true rfl) (Nat.le_of_ble_eq_true rfl) dX7_carryOut_76
  · show W p l e _ s m _ below meth cd _ _ _ _ _ (F0 m _ ls [.int (nI 2)])
    refine g_tabIn S (a := 2) (by decide) dX7_carryOut_11 (by decide) (by decide) rfl (tgt := 77) (by decide) ?_
    have hok := hok (by omega)
    subst hok
    refine lv_aload_n hx hb dX7_carryOut_77 rfl (lv_at hl 0 rfl) ?_
    refine lv_aload_n hx hb dX7_carryOut_78 rfl (lv_at hl 1 rfl) ?_
    refine g_getN S hI hP uX2 rfl (fs := _) (hb_c.lt 0 (by decide)) (hb_c.2 0 (by decide)) 1 (by decide) q463 rfl (v := .int (oI ((some k)))) rfl dX7_carryOut_79 ?_
    refine g_iconst S 1 dX7_carryOut_82 (by decide +kernel) ?_
    refine g_afi (g_runV S hI hP hS (k := 2) (As := [.int (nI (k)), .int (nI (1))]) (rest := []) (mX7_replacePeg l b ht dr pg wt wr mo mc ni po dn k 1 hb_s hk36 (by decide) hpg) q662 q664 q9 q83 q665 rfl rfl (by decide +kernel) ⟨Nat.le_of_ble_eq_true rfl, Nat.le_of_ble_eq_true rfl⟩ rfl (hb_s.lt 0 (by decide)) (hb_s.2 0 (by decide)) rfl hl.1 rfl (Nat.le_of_ble_eq_true rfl) ⟨(Nat.le_of_ble_eq_true rfl), (Nat.le_of_ble_eq_true rfl)⟩ dX7_carryOut_83) hS (fun rz w1 H locs hq hP hS => ?_)
    obtain ⟨hr7, hb5, hf6⟩ := hq
    rw [hr7]
    have hb8 := hb_c.fr hf6 (fun k hk => by show ¬ _; (try simp only [gIn]); (try dsimp only); omega)
    have hfr := hfr.trans hf6 (fun q hq => by (try simp only [gIn] at hq ⊢); (try dsimp only at hq ⊢); omega)
    exact g_iret S hr hlocks hP hS (⟨rfl, hb5, hfr⟩) (fun _ _ => rfl) (Nat.le_of_ble_eq_true rfl) (Nat.le_of_ble_eq_true rfl) dX7_carryOut_86
  · show W p l e _ s m _ below meth cd _ _ _ _ _ (F0 m _ ls [.int (nI 3)])
    refine g_tabIn S (a := 3) (by decide) dX7_carryOut_11 (by decide) (by decide) rfl (tgt := 87) (by decide) ?_
    have hok := hok (by omega)
    subst hok
    refine lv_aload_n hx hb dX7_carryOut_87 rfl (lv_at hl 0 rfl) ?_
    refine lv_aload_n hx hb dX7_carryOut_88 rfl (lv_at hl 1 rfl) ?_
    refine g_getN S hI hP uX2 rfl (fs := _) (hb_c.lt 0 (by decide)) (hb_c.2 0 (by decide)) 1 (by decide) q463 rfl (v := .int (oI ((some k)))) rfl dX7_carryOut_89 ?_
    refine g_iconst S 0 dX7_carryOut_92 (by decide +kernel) ?_
    refine g_afi (g_runV S hI hP hS (k := 2) (As := [.int (nI (k)), .int (nI (0))]) (rest := []) (mX7_replacePeg l b ht dr pg wt wr mo mc ni po dn k 0 hb_s hk36 (by decide) hpg) q662 q664 q9 q83 q665 rfl rfl (by decide +kernel) ⟨Nat.le_of_ble_eq_true rfl, Nat.le_of_ble_eq_true rfl⟩ rfl (hb_s.lt 0 (by decide)) (hb_s.2 0 (by decide)) rfl hl.1 rfl (Nat.le_of_ble_eq_true rfl) ⟨(Nat.le_of_ble_eq_true rfl), (Nat.le_of_ble_eq_true rfl)⟩ dX7_carryOut_93) hS (fun rz w1 H locs hq hP hS => ?_)
    obtain ⟨hr11, hb9, hf10⟩ := hq
    rw [hr11]
    have hb12 := hb_c.fr hf10 (fun k hk => by show ¬ _; (try simp only [gIn]); (try dsimp only); omega)
    have hfr := hfr.trans hf10 (fun q hq => by (try simp only [gIn] at hq ⊢); (try dsimp only at hq ⊢); omega)
    exact g_iret S hr hlocks hP hS (⟨rfl, hb9, hfr⟩) (fun _ _ => rfl) (Nat.le_of_ble_eq_true rfl) (Nat.le_of_ble_eq_true rfl) dX7_carryOut_96
  · show W p l e _ s m _ below meth cd _ _ _ _ _ (F0 m _ ls [.int (nI 8)])
    refine g_tabIn S (a := 8) (by decide) dX7_carryOut_11 (by decide) (by decide) rfl (tgt := 97) (by decide) ?_
    refine lv_aload_n hx hb dX7_carryOut_97 rfl (lv_at hl 0 rfl) ?_
    refine g_afi (g_runV S hI hP hS (k := 0) (As := []) (rest := []) (mX7_drapeAll l b ht dr pg wt wr mo mc ni po dn hb_s hht hpg) q666 q668 q10 q83 q669 rfl rfl (by decide +kernel) ⟨Nat.le_of_ble_eq_true rfl, Nat.le_of_ble_eq_true rfl⟩ rfl (hb_s.lt 0 (by decide)) (hb_s.2 0 (by decide)) rfl hl.1 rfl (Nat.le_of_ble_eq_true rfl) ⟨(Nat.le_of_ble_eq_true rfl), (Nat.le_of_ble_eq_true rfl)⟩ dX7_carryOut_98) hS (fun rz w1 H locs hq hP hS => ?_)
    obtain ⟨hr15, hb13, hf14⟩ := hq
    rw [hr15]
    have hb16 := hb_c.fr hf14 (fun k hk => by show ¬ _; (try simp only [gIn]); (try dsimp only); omega)
    have hfr := hfr.trans hf14 (fun q hq => by (try simp only [gIn] at hq ⊢); (try dsimp only at hq ⊢); omega)
    exact g_iret S hr hlocks hP hS (⟨rfl, hb13, hfr⟩) (fun _ _ => rfl) (Nat.le_of_ble_eq_true rfl) (Nat.le_of_ble_eq_true rfl) dX7_carryOut_101
  · show W p l e _ s m _ below meth cd _ _ _ _ _ (F0 m _ ls [.int (nI 4)])
    refine g_tabIn S (a := 4) (by decide) dX7_carryOut_11 (by decide) (by decide) rfl (tgt := 102) (by decide) ?_
    have hok := hok (by omega)
    subst hok
    have hvu := hvu (by omega)
    subst hvu
    refine lv_aload_n hx hb dX7_carryOut_102 rfl (lv_at hl 0 rfl) ?_
    refine lv_aload_n hx hb dX7_carryOut_103 rfl (lv_at hl 1 rfl) ?_
    refine g_getN S hI hP uX2 rfl (fs := _) (hb_c.lt 0 (by decide)) (hb_c.2 0 (by decide)) 1 (by decide) q463 rfl (v := .int (oI ((some k)))) rfl dX7_carryOut_104 ?_
    refine lv_aload_n hx hb dX7_carryOut_107 rfl (lv_at hl 1 rfl) ?_
    refine g_getN S hI hP uX2 rfl (fs := _) (hb_c.lt 0 (by decide)) (hb_c.2 0 (by decide)) 2 (by decide) q465 rfl (v := .int ((nI u))) rfl dX7_carryOut_108 ?_
    refine g_afi (g_runV S hI hP hS (k := 2) (As := [.int (nI (k)), .int (nI (u))]) (rest := []) (mX7_pourOn l b ht dr pg wt wr mo mc ni po dn k u hb_s hk36 hwr hht) q680 q682 q12 q83 q683 rfl rfl (by decide +kernel) ⟨Nat.le_of_ble_eq_true rfl, Nat.le_of_ble_eq_true rfl⟩ rfl (hb_s.lt 0 (by decide)) (hb_s.2 0 (by decide)) rfl hl.1 rfl (Nat.le_of_ble_eq_true rfl) ⟨(Nat.le_of_ble_eq_true rfl), (Nat.le_of_ble_eq_true rfl)⟩ dX7_carryOut_111) hS (fun rz w1 H locs hq hP hS => ?_)
    obtain ⟨hr19, hb17, hf18⟩ := hq
    rw [hr19]
    have hb20 := hb_c.fr hf18 (fun k hk => by show ¬ _; (try simp only [gIn]); (try dsimp only); omega)
    have hfr := hfr.trans hf18 (fun q hq => by (try simp only [gIn] at hq ⊢); (try dsimp only at hq ⊢); omega)
    exact g_iret S hr hlocks hP hS (⟨rfl, hb17, hfr⟩) (fun _ _ => rfl) (Nat.le_of_ble_eq_true rfl) (Nat.le_of_ble_eq_true rfl) dX7_carryOut_114
  · show W p l e _ s m _ below meth cd _ _ _ _ _ (F0 m _ ls [.int (nI 9)])
    refine g_tabIn S (a := 9) (by decide) dX7_carryOut_11 (by decide) (by decide) rfl (tgt := 115) (by decide) ?_
    refine lv_aload_n hx hb dX7_carryOut_115 rfl (lv_at hl 0 rfl) ?_
    refine g_afi (g_runV S hI hP hS (k := 0) (As := []) (rest := []) (mX7_settleAll l b ht dr pg wt wr mo mc ni po dn hb_s hwr hht) q696 q698 q14 q83 q699 rfl rfl (by decide +kernel) ⟨Nat.le_of_ble_eq_true rfl, Nat.le_of_ble_eq_true rfl⟩ rfl (hb_s.lt 0 (by decide)) (hb_s.2 0 (by decide)) rfl hl.1 rfl (Nat.le_of_ble_eq_true rfl) ⟨(Nat.le_of_ble_eq_true rfl), (Nat.le_of_ble_eq_true rfl)⟩ dX7_carryOut_116) hS (fun rz w1 H locs hq hP hS => ?_)
    obtain ⟨hr23, hb21, hf22⟩ := hq
    rw [hr23]
    have hb24 := hb_c.fr hf22 (fun k hk => by show ¬ _; (try simp only [gIn]); (try dsimp only); omega)
    have hfr := hfr.trans hf22 (fun q hq => by (try simp only [gIn] at hq ⊢); (try dsimp only at hq ⊢); omega)
    exact g_iret S hr hlocks hP hS (⟨rfl, hb21, hfr⟩) (fun _ _ => rfl) (Nat.le_of_ble_eq_true rfl) (Nat.le_of_ble_eq_true rfl) dX7_carryOut_119
  · show W p l e _ s m _ below meth cd _ _ _ _ _ (F0 m _ ls [.int (nI 5)])
    refine g_tabIn S (a := 5) (by decide) dX7_carryOut_11 (by decide) (by decide) rfl (tgt := 120) (by decide) ?_
    have hok := hok (by omega)
    subst hok
    refine lv_aload_n hx hb dX7_carryOut_120 rfl (lv_at hl 0 rfl) ?_
    refine lv_aload_n hx hb dX7_carryOut_121 rfl (lv_at hl 1 rfl) ?_
    refine g_getN S hI hP uX2 rfl (fs := _) (hb_c.lt 0 (by decide)) (hb_c.2 0 (by decide)) 1 (by decide) q463 rfl (v := .int (oI ((some k)))) rfl dX7_carryOut_122 ?_
    refine g_afi (g_runV S hI hP hS (k := 1) (As := [.int (nI (k))]) (rest := []) (mX7_letMothCome l b ht dr pg wt wr mo mc ni po dn k hb_s (h64 rfl)) q700 q702 q15 q83 q703 rfl rfl (by decide +kernel) ⟨Nat.le_of_ble_eq_true rfl, Nat.le_of_ble_eq_true rfl⟩ rfl (hb_s.lt 0 (by decide)) (hb_s.2 0 (by decide)) rfl hl.1 rfl (Nat.le_of_ble_eq_true rfl) ⟨(Nat.le_of_ble_eq_true rfl), (Nat.le_of_ble_eq_true rfl)⟩ dX7_carryOut_125) hS (fun rz w1 H locs hq hP hS => ?_)
    obtain ⟨hr27, hb25, hf26⟩ := hq
    rw [hr27]
    have hb28 := hb_c.fr hf26 (fun k hk => by show ¬ _; (try simp only [gIn]); (try dsimp only); omega)
    have hfr := hfr.trans hf26 (fun q hq => by (try simp only [gIn] at hq ⊢); (try dsimp only at hq ⊢); omega)
    exact g_iret S hr hlocks hP hS (⟨rfl, hb25, hfr⟩) (fun _ _ => rfl) (Nat.le_of_ble_eq_true rfl) (Nat.le_of_ble_eq_true rfl) dX7_carryOut_128
  · show W p l e _ s m _ below meth cd _ _ _ _ _ (F0 m _ ls [.int (nI 6)])
    refine g_tabIn S (a := 6) (by decide) dX7_carryOut_11 (by decide) (by decide) rfl (tgt := 129) (by decide) ?_
    have hvu := hvu (by omega)
    subst hvu
    refine lv_aload_n hx hb dX7_carryOut_129 rfl (lv_at hl 0 rfl) ?_
    refine lv_aload_n hx hb dX7_carryOut_130 rfl (lv_at hl 1 rfl) ?_
    refine g_getN S hI hP uX2 rfl (fs := _) (hb_c.lt 0 (by decide)) (hb_c.2 0 (by decide)) 2 (by decide) q465 rfl (v := .int ((nI u))) rfl dX7_carryOut_131 ?_
    refine g_afi (g_runV S hI hP hS (k := 1) (As := [.int (nI (u))]) (rest := []) (mX7_letMothGo l b ht dr pg wt wr mo mc ni po dn u hb_s (h7m rfl) hm) q704 q706 q16 q83 q707 rfl rfl (by decide +kernel) ⟨Nat.le_of_ble_eq_true rfl, Nat.le_of_ble_eq_true rfl⟩ rfl (hb_s.lt 0 (by decide)) (hb_s.2 0 (by decide)) rfl hl.1 rfl (Nat.le_of_ble_eq_true rfl) ⟨(Nat.le_of_ble_eq_true rfl), (Nat.le_of_ble_eq_true rfl)⟩ dX7_carryOut_134) hS (fun rz w1 H locs hq hP hS => ?_)
    obtain ⟨hr31, hb29, hf30⟩ := hq
    rw [hr31]
    have hb32 := hb_c.fr hf30 (fun k hk => by show ¬ _; (try simp only [gIn]); (try dsimp only); omega)
    have hfr := hfr.trans hf30 (fun q hq => by (try simp only [gIn] at hq ⊢); (try dsimp only at hq ⊢); omega)
    exact g_iret S hr hlocks hP hS (⟨rfl, hb29, hfr⟩) (fun _ _ => rfl) (Nat.le_of_ble_eq_true rfl) (Nat.le_of_ble_eq_true rfl) dX7_carryOut_137
  · show W p l e _ s m _ below meth cd _ _ _ _ _ (F0 m _ ls [.int (nI 10)])
    refine g_tabIn S (a := 10) (by decide) dX7_carryOut_11 (by decide) (by decide) rfl (tgt := 138) (by decide) ?_
    refine lv_aload_n hx hb dX7_carryOut_138 rfl (lv_at hl 0 rfl) ?_
    refine g_afi (g_runV S hI hP hS (k := 0) (As := []) (rest := []) (mX7_letNightPass l b ht dr pg wt wr mo mc ni po dn hb_s hwr hht hm hmo) q708 q709 q710 q83 q711 rfl rfl (by decide +kernel) ⟨Nat.le_of_ble_eq_true rfl, Nat.le_of_ble_eq_true rfl⟩ rfl (hb_s.lt 0 (by decide)) (hb_s.2 0 (by decide)) rfl hl.1 rfl (Nat.le_of_ble_eq_true rfl) ⟨(Nat.le_of_ble_eq_true rfl), (Nat.le_of_ble_eq_true rfl)⟩ dX7_carryOut_139) hS (fun rz w1 H locs hq hP hS => ?_)
    obtain ⟨hr35, hb33, hf34⟩ := hq
    rw [hr35]
    have hb36 := hb_c.fr hf34 (fun k hk => by show ¬ _; (try simp only [gIn]); (try dsimp only); omega)
    have hfr := hfr.trans hf34 (fun q hq => by (try simp only [gIn] at hq ⊢); (try dsimp only at hq ⊢); omega)
    exact g_iret S hr hlocks hP hS (⟨rfl, hb33, hfr⟩) (fun _ _ => rfl) (Nat.le_of_ble_eq_true rfl) (Nat.le_of_ble_eq_true rfl) dX7_carryOut_142
  · show W p l e _ s m _ below meth cd _ _ _ _ _ (F0 m _ ls [.int (nI 7)])
    refine g_tabIn S (a := 7) (by decide) dX7_carryOut_11 (by decide) (by decide) rfl (tgt := 143) (by decide) ?_
    have hok := hok (by omega)
    subst hok
    refine lv_aload_n hx hb dX7_carryOut_143 rfl (lv_at hl 0 rfl) ?_
    refine lv_aload_n hx hb dX7_carryOut_144 rfl (lv_at hl 1 rfl) ?_
    refine g_getN S hI hP uX2 rfl (fs := _) (hb_c.lt 0 (by decide)) (hb_c.2 0 (by decide)) 1 (by decide) q463 rfl (v := .int (oI ((some k)))) rfl dX7_carryOut_145 ?_
    refine g_afi (g_runV S hI hP hS (k := 1) (As := [.int (nI (k))]) (rest := []) (mX7_patchUp l b ht dr pg wt wr mo mc ni po dn k hb_s hk36) q720 q722 q19 q83 q723 rfl rfl (by decide +kernel) ⟨Nat.le_of_ble_eq_true rfl, Nat.le_of_ble_eq_true rfl⟩ rfl (hb_s.lt 0 (by decide)) (hb_s.2 0 (by decide)) rfl hl.1 rfl (Nat.le_of_ble_eq_true rfl) ⟨(Nat.le_of_ble_eq_true rfl), (Nat.le_of_ble_eq_true rfl)⟩ dX7_carryOut_148) hS (fun rz w1 H locs hq hP hS => ?_)
    obtain ⟨hr39, hb37, hf38⟩ := hq
    rw [hr39]
    have hb40 := hb_c.fr hf38 (fun k hk => by show ¬ _; (try simp only [gIn]); (try dsimp only); omega)
    have hfr := hfr.trans hf38 (fun q hq => by (try simp only [gIn] at hq ⊢); (try dsimp only at hq ⊢); omega)
    exact g_iret S hr hlocks hP hS (⟨rfl, hb37, hfr⟩) (fun _ _ => rfl) (Nat.le_of_ble_eq_true rfl) (Nat.le_of_ble_eq_true rfl) dX7_carryOut_151
set_option maxHeartbeats 4000000 in
set_option maxRecDepth 100000 in
/-- the slope of a cell -/
theorem mX7_meanDifference (l : Launch) {E : gE} {ad : Nat → Nat} {N : Nat} {w : Nat → va_E} (b : Nat) (ht dr pg wt wr mo : Nat → Nat) (mc ni po dn : Nat) (c : Nat) (hb_s : bkP N w b 7 (SHC E ad b ht dr pg wt wr mo mc ni po dn)) (hc : c < 36) (hht : ∀ k, k < 36 → ht k ≤ 99) : gMf l yX7_meanDifference (lw_ws yX7_meanDifference cX7_meanDifference 6 (some .float)) ({ frames := 2, cells := 0, slots := 0, locals := 44 } : Room) E ad N w [.ref (ad (b)), .int (nI (c))] (fun r w' => r = FP.fdiv (FP.i2f (nI (slS ht c 4))) (FP.i2f (nI (slC c 4))) ∧ w' = w) 0 0 := by
  refine Met.ofW (cc := cX7_meanDifference) (maxL := 6) (ret := (some .float)) (by decide) rfl ?_
  intro p e s m args below meth cd s₁ B hml hv
  obtain ⟨rfl, hI, hP⟩ := hv
  obtain ⟨S, hr, hlocks⟩ := gPre (ws := []) B hml (C := RX7) rfl
  have hx := S.1
  have hb := S.2.1
  have hS : va_S (gA E) s.heap s.heap [] := va_S.rf
  have hl := lv_entry ([.ref (ad (b)), .int (nI (c))]) (n := 6) (Nat.le_of_ble_eq_true rfl)
  rw [lg_entry_eq]
  generalize (lg_sl ([.ref (ad (b)), .int (nI (c))]) ++ List.replicate (6 - (lg_sl ([.ref (ad (b)), .int (nI (c))])).length) Slot.unset).toArray = ls at hl ⊢
  have hl : lv_has ls 6 [(0, .ref (ad (b))), (1, .int (nI (c)))] := hl
  refine g_iconst S 0 dX7_meanDifference_0 (by decide +kernel) ?_
  refine lv_istore_n (lv' := [(2, .int (nI (0))), (0, .ref (ad (b))), (1, .int (nI (c)))]) hx hb dX7_meanDifference_1 rfl hl (by decide) rfl (fun ls hl => ?_)
  refine g_iconst S 0 dX7_meanDifference_2 (by decide +kernel) ?_
  refine lv_istore_n (lv' := [(3, .int (nI (0))), (2, .int (nI (0))), (0, .ref (ad (b))), (1, .int (nI (c)))]) hx hb dX7_meanDifference_3 rfl hl (by decide) rfl (fun ls hl => ?_)
  refine g_iconst S 0 dX7_meanDifference_4 (by decide +kernel) ?_
  refine lv_istore (lv' := [(4, .int (nI (0))), (3, .int (nI (0))), (2, .int (nI (0))), (0, .ref (ad (b))), (1, .int (nI (c)))]) hx hb dX7_meanDifference_5 hl (by decide) rfl (fun ls hl => ?_)
  have loop1 : ∀ (n : Nat) (d : Nat), 4 - d < n → (d ≤ 4) → ∀ (H : Heap) (locs : List Loc), gP E ad N w H → va_S (gA E) s.heap H locs → ∀ (ls : Array Slot), lv_has ls 6 [(4, .int (nI (d))), (3, .int (nI (slC c d))), (2, .int (nI (slS ht c d))), (1, .int (nI (c))), (0, .ref (ad (b)))] → W p l e (headSpec (lw_ws yX7_meanDifference cX7_meanDifference 6 (some .float)) ({ frames := 2, cells := 0, slots := 0, locals := 44 } : Room)).room s m ([.ref (ad (b)), .int (nI (c))] : List Value).toArray below meth cd H locs 0 0 (MQ below (va_Qf (fun r w' => r = FP.fdiv (FP.i2f (nI (slS ht c 4))) (FP.i2f (nI (slC c 4))) ∧ w' = w) (gB E ad N) (gA E)) ([.ref (ad (b)), .int (nI (c))] : List Value).toArray s 0 0 (gA E)) (F0 m 7 ls []) := by
    intro n
    induction n with
    | zero => intro d hmeas; omega
    | succ n ih_loop1 =>
      intro d hmeas hd H locs hP hS ls hl
      have hsb := slS_b hc hht d
      have hsc := slC_le c d
      refine lv_iload hx hb dX7_meanDifference_7 (lv_at hl 0 rfl) ?_
      refine g_iconst S 4 dX7_meanDifference_9 (by decide +kernel) ?_
      refine g_ge S (a := d) (b := 4) (by omega) (by omega) (tgt := 46) dX7_meanDifference_10 (by decide) (fun hd4 => ?_) (fun hd4 => ?_)
      · have e_d : d = 4 := by omega
        subst e_d
        have h2 := slC_4 c hc
        refine lv_iload_n hx hb dX7_meanDifference_46 rfl (lv_at hl 1 rfl) ?_
        refine g_ifne S (a := slC c 4) (by omega) (tgt := 54) dX7_meanDifference_47 (by decide) (fun hz => ?_) (fun hz => ?_)
        · refine lv_iload_n hx hb dX7_meanDifference_54 rfl (lv_at hl 2 rfl) ?_
          refine lv_i2f hx hb dX7_meanDifference_55 ?_
          refine lv_iload_n hx hb dX7_meanDifference_56 rfl (lv_at hl 1 rfl) ?_
          refine lv_i2f hx hb dX7_meanDifference_57 ?_
          refine lv_fdiv hx hb dX7_meanDifference_58 (sl_num _ (by omega) _ (by omega) h2) ?_
          exact g_fret S hr hlocks hP hS (⟨rfl, rfl⟩) (fun _ _ => rfl) (Nat.le_of_ble_eq_true rfl) (Nat.le_of_ble_eq_true rfl) dX7_meanDifference_59
        · omega
      · refine lv_iload_n hx hb dX7_meanDifference_13 rfl (lv_at hl 3 rfl) ?_
        refine lv_iload hx hb dX7_meanDifference_14 (lv_at hl 0 rfl) ?_
        refine g_roi (g_runSN S hI hP hS (k := 2) (As := [.int (nI (c)), .int (nI (d))]) (rest := []) (mX12_neighbour l c d hc hd4) q674 q675 q82 q676 rfl rfl (by decide +kernel) ⟨Nat.le_of_ble_eq_true rfl, Nat.le_of_ble_eq_true rfl⟩ rfl hl.1 rfl (Nat.le_of_ble_eq_true rfl) ⟨(Nat.le_of_ble_eq_true rfl), (Nat.le_of_ble_eq_true rfl)⟩ dX7_meanDifference_16) hS (fun H locs hP hS => ?_)
        refine lv_istore (lv' := [(5, .int (oI (nb c d))), (4, .int (nI (d))), (3, .int (nI (slC c d))), (2, .int (nI (slS ht c d))), (1, .int (nI (c))), (0, .ref (ad (b)))]) hx hb dX7_meanDifference_19 hl (by decide) rfl (fun ls hl => ?_)
        refine lv_iload hx hb dX7_meanDifference_21 (lv_at hl 0 rfl) ?_
        refine lv_iconst (v := -1) hx hb dX7_meanDifference_23 (by decide +kernel) ?_
        refine g_oeq S (o := nb c d) (fun k hk => Nat.lt_trans (nb_lt hc hk) (by decide)) (tgt := 40) dX7_meanDifference_24 (by decide) (fun hn => ?_) (fun hn_k hn => ?_)
        · refine lv_iinc (v := nI (d + 1)) (lv' := [(4, .int (nI (d + 1))), (5, .int (oI (nb c d))), (3, .int (nI (slC c d))), (2, .int (nI (slS ht c d))), (1, .int (nI (c))), (0, .ref (ad (b)))]) hx hb dX7_meanDifference_40 hl (k := 1) rfl (g_inc _ 1 (by decide +kernel)) (by decide) rfl (fun ls hl => ?_)
          refine lv_goto (tgt := 7) hx hb dX7_meanDifference_43 (by decide) ?_
          have hl : lv_has ls 6 [(4, .int (nI (d + 1))), (5, .int (oI (nb c d))), (3, .int (nI (slC c d))), (2, .int (nI (slS ht c (d + 1)))), (1, .int (nI (c))), (0, .ref (ad (b)))] := by rw [show slS ht c (d + 1) = slS ht c d by simp [slS, hn]]; exact hl
          have hl : lv_has ls 6 [(4, .int (nI (d + 1))), (5, .int (oI (nb c d))), (3, .int (nI (slC c (d + 1)))), (2, .int (nI (slS ht c (d + 1)))), (1, .int (nI (c))), (0, .ref (ad (b)))] := by rw [show slC c (d + 1) = slC c d by simp [slC, hn]]; exact hl
          exact ih_loop1 (d + 1) (by omega) (by omega) _ _ hP hS ls (lv_sub hl [0, 2, 3, 4, 5] rfl)
        · have hk36 := nb_lt hc hn
          have hl : lv_has ls 6 [(5, .int (nI (hn_k))), (4, .int (nI (d))), (3, .int (nI (slC c d))), (2, .int (nI (slS ht c d))), (1, .int (nI (c))), (0, .ref (ad (b)))] := by rw [hn] at hl; exact hl
          refine lv_iload_n hx hb dX7_meanDifference_27 rfl (lv_at hl 3 rfl) ?_
          refine lv_aload_n hx hb dX7_meanDifference_28 rfl (lv_at hl 5 rfl) ?_
          refine lv_iload_n hx hb dX7_meanDifference_29 rfl (lv_at hl 4 rfl) ?_
          refine lv_iload hx hb dX7_meanDifference_30 (lv_at hl 0 rfl) ?_
          refine g_roi (g_runV S hI hP hS (k := 2) (As := [.int (nI (c)), .int (nI (hn_k))]) (rest := [.int (nI (slS ht c d))]) (mX7_difference l b ht dr pg wt wr mo mc ni po dn c hn_k hb_s hc hk36 hht) q1232 q1088 q1089 q83 q1090 rfl rfl (by decide +kernel) ⟨Nat.le_of_ble_eq_true rfl, Nat.le_of_ble_eq_true rfl⟩ rfl (hb_s.lt 0 (by decide)) (hb_s.2 0 (by decide)) rfl hl.1 rfl (Nat.le_of_ble_eq_true rfl) ⟨(Nat.le_of_ble_eq_true rfl), (Nat.le_of_ble_eq_true rfl)⟩ dX7_meanDifference_32) hS (fun H locs hP hS => ?_)
          refine g_iadd S dX7_meanDifference_35 ?_
          refine lv_istore_n (lv' := [(2, .int (nI (slS ht c d + (dif (ht c) (ht hn_k))))), (5, .int (nI (hn_k))), (4, .int (nI (d))), (3, .int (nI (slC c d))), (1, .int (nI (c))), (0, .ref (ad (b)))]) hx hb dX7_meanDifference_36 rfl hl (by decide) rfl (fun ls hl => ?_)
          refine lv_iinc (v := nI (slC c d + 1)) (lv' := [(3, .int (nI (slC c d + 1))), (2, .int (nI (slS ht c d + (dif (ht c) (ht hn_k))))), (5, .int (nI (hn_k))), (4, .int (nI (d))), (1, .int (nI (c))), (0, .ref (ad (b)))]) hx hb dX7_meanDifference_37 hl (k := 3) rfl (g_inc _ 1 (by decide +kernel)) (by decide) rfl (fun ls hl => ?_)
          refine lv_iinc (v := nI (d + 1)) (lv' := [(4, .int (nI (d + 1))), (3, .int (nI (slC c d + 1))), (2, .int (nI (slS ht c d + (dif (ht c) (ht hn_k))))), (5, .int (nI (hn_k))), (1, .int (nI (c))), (0, .ref (ad (b)))]) hx hb dX7_meanDifference_40 hl (k := 3) rfl (g_inc _ 1 (by decide +kernel)) (by decide) rfl (fun ls hl => ?_)
          refine lv_goto (tgt := 7) hx hb dX7_meanDifference_43 (by decide) ?_
          have hl : lv_has ls 6 [(4, .int (nI (d + 1))), (3, .int (nI (slC c d + 1))), (2, .int (nI (slS ht c (d + 1)))), (5, .int (nI (hn_k))), (1, .int (nI (c))), (0, .ref (ad (b)))] := by rw [show slS ht c (d + 1) = slS ht c d + dif (ht c) (ht hn_k) by simp [slS, hn]]; exact hl
          have hl : lv_has ls 6 [(4, .int (nI (d + 1))), (3, .int (nI (slC c (d + 1)))), (2, .int (nI (slS ht c (d + 1)))), (5, .int (nI (hn_k))), (1, .int (nI (c))), (0, .ref (ad (b)))] := by rw [show slC c (d + 1) = slC c d + 1 by simp [slC, hn]]; exact hl
          exact ih_loop1 (d + 1) (by omega) (by omega) _ _ hP hS ls (lv_sub hl [0, 1, 2, 4, 5] rfl)
  exact loop1 (4 - (0) + 1) (0) (Nat.lt_succ_self _) (by omega) _ _ hP hS ls (lv_sub hl [0, 1, 2, 4, 3] rfl)
