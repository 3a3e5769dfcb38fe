/-! FORMS -/
def rdF (ln : Nat) (bf : Nat → Nat) : List Nat → Nat → Tp → Nat × Option Tp
  | [], x, t => (x, some t)
  | c :: l, x, t => if (rdS ln bf c x t).1 = 0 then (x, none) else rdF ln bf l (x + (rdS ln bf c x t).1) (rdS ln bf c x t).2
theorem rdS_le {ln : Nat} {bf : Nat → Nat} {c p : Nat} {t : Tp} : (rdS ln bf c p t).1 ≤ 2 := by
  have h : ∀ o : Option Nat, wdO o ≤ 2 := fun o => by cases o <;> exact by simp [wdO]
  have h2 : ∀ nm, (rdN ln bf p nm).1 ≤ 2 := fun nm => by
    unfold rdN
    split
    · exact Nat.zero_le _
    · split <;> omega
  unfold rdS
  split
  · exact h _
  · split
    · exact h _
    · split
      · exact h2 _
      · split
        · exact h _
        · show (if _ then 1 else 0) ≤ 2
          split <;> omega
theorem lsD_cons {l : List Nat} {i : Nat} (h : i < l.length) : l.drop i = l.getD i 0 :: l.drop (i + 1) := by
  rw [List.drop_eq_getElem_cons h]
  congr 1
  simp [List.getD, h]
theorem frm_len : ∀ i, i < 10 → (frm i).length ≤ 11 := by decide
theorem frm_128 : ∀ i, i < 10 → ∀ j, (frm i).getD j 0 < 128 := by
  intro i hi j
  have h1 : ∀ i, i < 10 → ∀ x ∈ frm i, x < 128 := by decide
  by_cases q : j < (frm i).length
  · have : (frm i).getD j 0 = (frm i)[j] := by simp [List.getD, q]
    rw [this]
    exact h1 i hi _ (List.getElem_mem q)
  · have : (frm i).getD j 0 = 0 := by simp [List.getD, List.getElem?_eq_none (Nat.le_of_not_lt q)]
    rw [this]
    decide
theorem hTf {E : gE} {kk : Nat → Nat} (hzv : gHv E kk) {i : Nat} (hi : i < 10) : ∀ (U : State) (H : Heap), E.2.2.2 U H → gStr (fun q => E.2.2.1 ≤ q) (kk (10 + i)) (kk (40 + i)) (frm i) U H := fun U H h => ((hzv U H h).1 i hi).2
theorem evA_mv {E : gE} {ad ad' : Nat → Nat} {N : Nat} {w : Nat → va_E} {lo : Nat} {g : Option Nat} {kk : Nat → Nat} {n : Nat} {pl : Nat → Nat} {C : Nat → Cm} (h : lsR E ad N w lo g kk n pl C) (ha : ∀ p, p < N → ad' p = ad p) : evA ad' kk g = evA ad kk g := by
  cases g with
  | none => rfl
  | some a => exact ha a (h.2.2.1 a rfl).2.1
set_option maxHeartbeats 4000000 in
set_option maxRecDepth 100000 in
/-- a form that does not fit -/
theorem mX9_readForm_no (l : Launch) {E : gE} {ad : Nat → Nat} {N : Nat} {w : Nat → va_E} (kk : Nat → Nat) (hzv : gHv E kk) (b : Nat) (bf : Nat → Nat) (ln fa : Nat) (rw cl nm : Option Nat) (vb x0 x : Nat) (hb_t : bkP N w b 2 (TPC E ad b bf ln fa rw cl nm)) (hln : ln ≤ 60) (hbf : ∀ k, k < 60 → bf k < 65536) (hvb : vb < 10) (hx0 : x0 ≤ 1000) (hfa : fa < 2 ^ 31) (hF : rdF ln bf (frm vb) x0 (none, none, none) = (x, none)) : gMi l yX9_readForm (lw_ws yX9_readForm cX9_readForm 6 (some .int)) ({ frames := 4, cells := 0, slots := 0, locals := 85 } : Room) E ad N w [.ref (ad (b)), .ref (kk vb), .int (nI (x0))] (fun r w' => r = -1 ∧ (∃ r1 c1 n1, bkP N w' b 2 (TPC E ad b bf ln (max fa x) r1 c1 n1)) ∧ gFr (gIn b 2) w w') 0 0 := by
  refine Met.ofW (cc := cX9_readForm) (maxL := 6) (ret := (some .int)) (by decide) rfl ?_
  intro p e s m args below meth cd s₁ B hml hv
  obtain ⟨rfl, hI, hP⟩ := hv
  obtain ⟨S, hr, hlocks⟩ := gPre (ws := []) B hml (C := RX9) rfl
  have hx := S.1
  have hb := S.2.1
  have hzk := hzv s s.heap hI.2.2.2.2
  have hS : va_S (gA E) s.heap s.heap [] := va_S.rf
  have hfr : gFr (gIn b 2) w w := gFr.rf
  have hl := lv_entry ([.ref (ad (b)), .ref (kk vb), .int (nI (x0))]) (n := 6) (Nat.le_of_ble_eq_true rfl)
  rw [lg_entry_eq]
  generalize (lg_sl ([.ref (ad (b)), .ref (kk vb), .int (nI (x0))]) ++ List.replicate (6 - (lg_sl ([.ref (ad (b)), .ref (kk vb), .int (nI (x0))])).length) Slot.unset).toArray = ls at hl ⊢
  have hl : lv_has ls 6 [(0, .ref (ad (b))), (1, .ref (kk vb)), (2, .int (nI (x0)))] := hl
  have hvc := (hzk.1 vb hvb).1
  have hst := hTf hzv hvb s s.heap hI.2.2.2.2
  have hfl := frm_len vb hvb
  refine lv_iload_n hx hb dX9_readForm_0 rfl (lv_at hl 2 rfl) ?_
  refine lv_istore_n (lv' := [(3, .int (nI (x0))), (0, .ref (ad (b))), (1, .ref (kk vb)), (2, .int (nI (x0)))]) hx hb dX9_readForm_1 rfl hl (by decide) rfl (fun ls hl => ?_)
  refine lv_aload_n hx hb dX9_readForm_2 rfl (lv_at hl 1 rfl) ?_
  refine lv_iconst (v := -1) hx hb dX9_readForm_3 (by decide +kernel) ?_
  refine g_put S hI hP hS uX9 rfl tyX9 tyX9_ok nmX9 (fs := _) (hb_t.lt 0 (by decide)) (hb_t.2 0 (by decide)) 4 (by decide) q351 rfl rfl (v := .int (-1)) rfl rfl (Nat.le_of_ble_eq_true rfl) dX9_readForm_4 (fun H locs hP hS => ?_)
  have hP : gP E ad N (va_up _ (b) (TPC E ad b bf ln fa none cl nm 0)) H := hP
  have hb1 : bkP N (va_up _ (b) (TPC E ad b bf ln fa none cl nm 0)) b 2 (TPC E ad b bf ln fa none cl nm) := TP_setO hb_t _ _ _ _ _
  have hfr := hfr.up (p := b) (e := TPC E ad b bf ln fa none cl nm 0) (by show _ ∧ _; omega)
  refine lv_aload_n hx hb dX9_readForm_7 rfl (lv_at hl 1 rfl) ?_
  refine lv_iconst (v := -1) hx hb dX9_readForm_8 (by decide +kernel) ?_
  refine g_put S hI hP hS uX9 rfl tyX9 tyX9_ok nmX9 (fs := _) (hb1.lt 0 (by decide)) (hb1.2 0 (by decide)) 5 (by decide) q352 rfl rfl (v := .int (-1)) rfl rfl (Nat.le_of_ble_eq_true rfl) dX9_readForm_9 (fun H locs hP hS => ?_)
  have hP : gP E ad N (va_up _ (b) (TPC E ad b bf ln fa none none nm 0)) H := hP
  have hb2 : bkP N (va_up _ (b) (TPC E ad b bf ln fa none none nm 0)) b 2 (TPC E ad b bf ln fa none none nm) := TP_setO hb1 _ _ _ _ _
  have hfr := hfr.up (p := b) (e := TPC E ad b bf ln fa none none nm 0) (by show _ ∧ _; omega)
  refine lv_aload_n hx hb dX9_readForm_12 rfl (lv_at hl 1 rfl) ?_
  refine lv_iconst (v := -1) hx hb dX9_readForm_13 (by decide +kernel) ?_
  refine g_put S hI hP hS uX9 rfl tyX9 tyX9_ok nmX9 (fs := _) (hb2.lt 0 (by decide)) (hb2.2 0 (by decide)) 6 (by decide) q353 rfl rfl (v := .int (-1)) rfl rfl (Nat.le_of_ble_eq_true rfl) dX9_readForm_14 (fun H locs hP hS => ?_)
  have hP : gP E ad N (va_up _ (b) (TPC E ad b bf ln fa none none none 0)) H := hP
  have hb3 : bkP N (va_up _ (b) (TPC E ad b bf ln fa none none none 0)) b 2 (TPC E ad b bf ln fa none none none) := TP_setO hb2 _ _ _ _ _
  have hfr := hfr.up (p := b) (e := TPC E ad b bf ln fa none none none 0) (by show _ ∧ _; omega)
  refine g_iconst S 0 dX9_readForm_17 (by decide +kernel) ?_
  refine lv_istore (lv' := [(4, .int (nI (0))), (3, .int (nI (x0))), (0, .ref (ad (b))), (1, .ref (kk vb)), (2, .int (nI (x0)))]) hx hb dX9_readForm_18 hl (by decide) rfl (fun ls hl => ?_)
  have floop : ∀ (fz : Nat) (i : Nat) (y : Nat) (r1 : Option Nat) (c1 : Option Nat) (n1 : Option Nat), (frm vb).length - i < fz → (i ≤ (frm vb).length) → (y ≤ x0 + 2 * i) → (rdF ln bf (frm vb) x0 (none, none, none) = rdF ln bf ((frm vb).drop i) y (r1, c1, n1)) → ∀ (w1 : Nat → va_E) (H : Heap) (locs : List Loc), gP E ad N w1 H → va_S (gA E) s.heap H locs → bkP N w1 b 2 (TPC E ad b bf ln fa r1 c1 n1) → gFr (gIn b 2) w w1 → ∀ (ls : Array Slot), lv_has ls 6 [(4, .int (nI (i))), (3, .int (nI (y))), (0, .ref (ad (b))), (1, .ref (kk vb)), (2, .int (nI (x0)))] → W p l e (headSpec (lw_ws yX9_readForm cX9_readForm 6 (some .int)) ({ frames := 4, cells := 0, slots := 0, locals := 85 } : Room)).room s m ([.ref (ad (b)), .ref (kk vb), .int (nI (x0))] : List Value).toArray below meth cd H locs 0 0 (MQ below (va_Qi (fun r w' => r = -1 ∧ (∃ r1 c1 n1, bkP N w' b 2 (TPC E ad b bf ln (max fa x) r1 c1 n1)) ∧ gFr (gIn b 2) w w') (gB E ad N) (gA E)) ([.ref (ad (b)), .ref (kk vb), .int (nI (x0))] : List Value).toArray s 0 0 (gA E)) (F0 m 20 ls []) := by
    intro fz
    induction fz with
    | zero => intro i y r1 c1 n1 hmeas; omega
    | succ fz ih_floop =>
      intro i y r1 c1 n1 hmeas hi hy hR w1 H locs hP hS hb4 hfr ls hl
      refine lv_iload hx hb dX9_readForm_20 (lv_at hl 0 rfl) ?_
      refine lv_aload_n hx hb dX9_readForm_22 rfl (lv_at hl 3 rfl) ?_
      refine g_getcN S hI hS (v := .ref (kk (10 + vb))) hvc.2.2.2 q2304 dX9_readForm_23 ?_
      refine g_roi (g_runC S hI hP hS (k := 0) (q := kk (10 + vb)) (As := []) (rest := [.int (nI (i))]) hst.1 (mJ0_length_8abf5 l kk hzv (kk (10 + vb)) (kk (40 + vb)) (frm vb) (hTf hzv hvb) (by omega) (frm_128 vb hvb)) q1286 q1287 q1288 q98 q1289 rfl rfl (by decide +kernel) ⟨(Nat.le_of_ble_eq_true rfl), (Nat.le_of_ble_eq_true rfl)⟩ rfl hl.1 rfl (Nat.le_of_ble_eq_true rfl) ⟨(Nat.le_of_ble_eq_true rfl), (Nat.le_of_ble_eq_true rfl)⟩ dX9_readForm_26) hS (fun H locs hP hS => ?_)
      refine g_ge S (a := i) (b := (frm vb).length) (by omega) (by omega) (tgt := 78) dX9_readForm_29 (by decide) (fun hc => ?_) (fun hc => ?_)
      · have hdr : (frm vb).drop i = [] := List.drop_eq_nil_of_le hc
        have hE : rdF ln bf (frm vb) x0 (none, none, none) = (y, some (r1, c1, n1)) := by rw [hR, hdr]; rfl
        rw [hE] at hF; cases hF
      · have hdr := lsD_cons hc
        have hch := frm_128 vb hvb i
        have hw2 := rdS_le (ln := ln) (bf := bf) (c := (frm vb).getD i 0) (p := y) (t := (r1, c1, n1))
        refine lv_aload_n hx hb dX9_readForm_32 rfl (lv_at hl 2 rfl) ?_
        refine lv_aload_n hx hb dX9_readForm_33 rfl (lv_at hl 3 rfl) ?_
        refine g_getcN S hI hS (v := .ref (kk (10 + vb))) hvc.2.2.2 q2304 dX9_readForm_34 ?_
        refine lv_iload hx hb dX9_readForm_37 (lv_at hl 0 rfl) ?_
        refine g_roi (g_runC S hI hP hS (k := 1) (q := kk (10 + vb)) (As := [.int (nI (i))]) (rest := [.ref (ad (b))]) hst.1 (mJ0_charAt_5068e l kk hzv (kk (10 + vb)) (kk (40 + vb)) (frm vb) i (hTf hzv hvb) (by omega) (frm_128 vb hvb) hc) q1295 q1296 q1297 q98 q1298 rfl rfl (by decide +kernel) ⟨(Nat.le_of_ble_eq_true rfl), (Nat.le_of_ble_eq_true rfl)⟩ rfl hl.1 rfl (Nat.le_of_ble_eq_true rfl) ⟨(Nat.le_of_ble_eq_true rfl), (Nat.le_of_ble_eq_true rfl)⟩ dX9_readForm_39) hS (fun H locs hP hS => ?_)
        refine lv_iload_n hx hb dX9_readForm_42 rfl (lv_at hl 1 rfl) ?_
        refine g_afi (g_runV S hI hP hS (k := 2) (As := [.int (nI ((frm vb).getD i 0)), .int (nI (y))]) (rest := []) (mX9_readSign l b bf ln fa r1 c1 n1 ((frm vb).getD i 0) y hb4 hln hbf (by omega) (by omega)) q1333 q1335 q39 q92 q1336 rfl rfl (by decide +kernel) ⟨Nat.le_of_ble_eq_true rfl, Nat.le_of_ble_eq_true rfl⟩ rfl (hb4.lt 0 (by decide)) (hb4.2 0 (by decide)) rfl hl.1 rfl (Nat.le_of_ble_eq_true rfl) ⟨(Nat.le_of_ble_eq_true rfl), (Nat.le_of_ble_eq_true rfl)⟩ dX9_readForm_43) hS (fun rz w1 H locs hq hP hS => ?_)
        obtain ⟨hr7, hb5, hf6⟩ := hq
        rw [hr7]
        have hfr := hfr.trans hf6 (fun q hq => by (try simp only [gIn] at hq ⊢); (try dsimp only at hq ⊢); omega)
        refine lv_istore (lv' := [(5, .int (nI ((rdS ln bf ((frm vb).getD i 0) y (r1, c1, n1)).1))), (4, .int (nI (i))), (3, .int (nI (y))), (0, .ref (ad (b))), (1, .ref (kk vb)), (2, .int (nI (x0)))]) hx hb dX9_readForm_46 hl (by decide) rfl (fun ls hl => ?_)
        refine lv_iload hx hb dX9_readForm_48 (lv_at hl 0 rfl) ?_
        refine g_ifne S (a := (rdS ln bf ((frm vb).getD i 0) y (r1, c1, n1)).1) (by omega) (tgt := 67) dX9_readForm_50 (by decide) (fun hw0 => ?_) (fun hw0 => ?_)
        · refine lv_iload_n hx hb dX9_readForm_67 rfl (lv_at hl 2 rfl) ?_
          refine lv_iload hx hb dX9_readForm_68 (lv_at hl 0 rfl) ?_
          refine g_iadd S dX9_readForm_70 ?_
          refine lv_istore_n (lv' := [(3, .int (nI (y + ((rdS ln bf ((frm vb).getD i 0) y (r1, c1, n1)).1)))), (5, .int (nI ((rdS ln bf ((frm vb).getD i 0) y (r1, c1, n1)).1))), (4, .int (nI (i))), (0, .ref (ad (b))), (1, .ref (kk vb)), (2, .int (nI (x0)))]) hx hb dX9_readForm_71 rfl hl (by decide) rfl (fun ls hl => ?_)
          refine lv_iinc (v := nI (i + 1)) (lv' := [(4, .int (nI (i + 1))), (3, .int (nI (y + ((rdS ln bf ((frm vb).getD i 0) y (r1, c1, n1)).1)))), (5, .int (nI ((rdS ln bf ((frm vb).getD i 0) y (r1, c1, n1)).1))), (0, .ref (ad (b))), (1, .ref (kk vb)), (2, .int (nI (x0)))]) hx hb dX9_readForm_72 hl (k := 2) rfl (g_inc _ 1 (by decide +kernel)) (by decide) rfl (fun ls hl => ?_)
          refine lv_goto (tgt := 20) hx hb dX9_readForm_75 (by decide) ?_
          exact ih_floop (i + 1) (y + (rdS ln bf ((frm vb).getD i 0) y (r1, c1, n1)).1) ((rdS ln bf ((frm vb).getD i 0) y (r1, c1, n1)).2.1) ((rdS ln bf ((frm vb).getD i 0) y (r1, c1, n1)).2.2.1) ((rdS ln bf ((frm vb).getD i 0) y (r1, c1, n1)).2.2.2) (by omega) (by omega) (by omega) (by rw [hR, hdr]; show (if _ then _ else _) = _; rw [if_neg (by omega)]) _ _ _ hP hS hb5 hfr ls (lv_sub hl [0, 1, 3, 4, 5] rfl)
        · have hE : rdF ln bf (frm vb) x0 (none, none, none) = (y, none) := by rw [hR, hdr]; show (if _ then _ else _) = _; rw [if_pos hw0]
          rw [hE] at hF
          have hF1 := (Prod.mk.inj hF).1
          subst hF1
          refine lv_aload_n hx hb dX9_readForm_53 rfl (lv_at hl 3 rfl) ?_
          refine lv_aload_n hx hb dX9_readForm_54 rfl (lv_at hl 3 rfl) ?_
          refine g_get S hI hP uX9 rfl (fs := _) (hb5.lt 0 (by decide)) (hb5.2 0 (by decide)) 3 (by decide) q350 rfl (v := .int (nI (fa))) rfl dX9_readForm_55 ?_
          refine lv_iload_n hx hb dX9_readForm_58 rfl (lv_at hl 2 rfl) ?_
          refine g_max S hl.1 (a := fa) (b := y) (by omega) (by omega) q1345 q777 q112 q778 (Nat.le_of_ble_eq_true rfl) (Nat.le_of_ble_eq_true rfl) (Nat.le_of_ble_eq_true rfl) (Nat.le_of_ble_eq_true rfl) dX9_readForm_59 ?_
          refine g_put S hI hP hS uX9 rfl tyX9 tyX9_ok nmX9 (fs := _) (hb5.lt 0 (by decide)) (hb5.2 0 (by decide)) 3 (by decide) q350 rfl rfl (v := .int (nI (max fa y))) rfl rfl (Nat.le_of_ble_eq_true rfl) dX9_readForm_62 (fun H locs hP hS => ?_)
          have hP : gP E ad N (va_up _ (b) (TPC E ad b bf ln (max fa y) ((rdS ln bf ((frm vb).getD i 0) y (r1, c1, n1)).2.1) ((rdS ln bf ((frm vb).getD i 0) y (r1, c1, n1)).2.2.1) ((rdS ln bf ((frm vb).getD i 0) y (r1, c1, n1)).2.2.2) 0)) H := hP
          have hb8 : bkP N (va_up _ (b) (TPC E ad b bf ln (max fa y) ((rdS ln bf ((frm vb).getD i 0) y (r1, c1, n1)).2.1) ((rdS ln bf ((frm vb).getD i 0) y (r1, c1, n1)).2.2.1) ((rdS ln bf ((frm vb).getD i 0) y (r1, c1, n1)).2.2.2) 0)) b 2 (TPC E ad b bf ln (max fa y) ((rdS ln bf ((frm vb).getD i 0) y (r1, c1, n1)).2.1) ((rdS ln bf ((frm vb).getD i 0) y (r1, c1, n1)).2.2.1) ((rdS ln bf ((frm vb).getD i 0) y (r1, c1, n1)).2.2.2)) := TP_setO hb5 _ _ _ _ _
          have hfr := hfr.up (p := b) (e := TPC E ad b bf ln (max fa y) ((rdS ln bf ((frm vb).getD i 0) y (r1, c1, n1)).2.1) ((rdS ln bf ((frm vb).getD i 0) y (r1, c1, n1)).2.2.1) ((rdS ln bf ((frm vb).getD i 0) y (r1, c1, n1)).2.2.2) 0) (by show _ ∧ _; omega)
          refine lv_iconst (v := -1) hx hb dX9_readForm_65 (by decide +kernel) ?_
          exact g_iret S hr hlocks hP hS (⟨rfl, ⟨_, _, _, hb8⟩, hfr⟩) (fun _ _ => rfl) (Nat.le_of_ble_eq_true rfl) (Nat.le_of_ble_eq_true rfl) dX9_readForm_66
  exact floop ((frm vb).length - (0) + 1) (0) (x0) (none) (none) (none) (Nat.lt_succ_self _) (Nat.zero_le _) (by omega) (rfl) _ _ _ hP hS hb3 hfr ls (lv_sub hl [0, 1, 2, 3, 4] rfl)
set_option maxHeartbeats 4000000 in
set_option maxRecDepth 100000 in
/-- a form that fits -/
theorem mX9_readForm_yes (l : Launch) {E : gE} {ad : Nat → Nat} {N : Nat} {w : Nat → va_E} (kk : Nat → Nat) (hzv : gHv E kk) (b : Nat) (bf : Nat → Nat) (ln fa : Nat) (rw cl nm : Option Nat) (lo : Nat) (md : Int32) (g : Option Nat) (n : Nat) (pl : Nat → Nat) (C : Nat → Cm) (vb x0 x : Nat) (t : Tp) (hb_t : bkP N w b 2 (TPC E ad b bf ln fa rw cl nm)) (hb_a : bkP N w (b + 2) 1 (ALC E ad (b + 2) md (evA ad kk g) n)) (hln : ln ≤ 60) (hbf : ∀ k, k < 60 → bf k < 65536) (hblo : b + 3 ≤ lo) (hloN : lo ≤ N) (hL : lsR E ad N w lo g kk n pl C) (hn : n < 10) (hvb : vb < 10) (hx0 : x0 ≤ 1000) (hF : rdF ln bf (frm vb) x0 (none, none, none) = (x, some t)) : gUi l yX9_readForm (lw_ws yX9_readForm cX9_readForm 6 (some .int)) ({ frames := 5, cells := 2, slots := 13, locals := 108 } : Room) E ad N w [.ref (ad (b)), .ref (kk vb), .int (nI (x0))] (fun r ad' N' w' => r = nI x ∧ N ≤ N' ∧ (∀ p, p < N → ad' p = ad p) ∧ (∀ p, p < lo → ¬ (b ≤ p ∧ p < b + 3) → w' p = w p) ∧ bkP N' w' b 2 (TPC E ad' b bf ln fa t.1 t.2.1 t.2.2) ∧ ∃ md' g' pl', bkP N' w' (b + 2) 1 (ALC E ad' (b + 2) md' (evA ad' kk g') (n + 1)) ∧ lsR E ad' N' w' lo g' kk (n + 1) pl' (va_up C n (vb, cellV (oI t.1) (oI t.2.1), oI t.2.2))) 2 13 := by
  refine Met.ofW (cc := cX9_readForm) (maxL := 6) (ret := (some .int)) (by decide) rfl ?_
  intro p e s m args below meth cd s₁ B hml hv
  obtain ⟨rfl, hI, hP⟩ := hv
  obtain ⟨S, hr, hlocks⟩ := gPre (ws := []) B hml (C := RX9) rfl
  have hx := S.1
  have hb := S.2.1
  have hzk := hzv s s.heap hI.2.2.2.2
  have hS : va_S (gA E) s.heap s.heap [] := va_S.rf
  have hfr : gFr (gIn b 2) w w := gFr.rf
  have hl := lv_entry ([.ref (ad (b)), .ref (kk vb), .int (nI (x0))]) (n := 6) (Nat.le_of_ble_eq_true rfl)
  rw [lg_entry_eq]
  generalize (lg_sl ([.ref (ad (b)), .ref (kk vb), .int (nI (x0))]) ++ List.replicate (6 - (lg_sl ([.ref (ad (b)), .ref (kk vb), .int (nI (x0))])).length) Slot.unset).toArray = ls at hl ⊢
  have hl : lv_has ls 6 [(0, .ref (ad (b))), (1, .ref (kk vb)), (2, .int (nI (x0)))] := hl
  have hvc := (hzk.1 vb hvb).1
  have hst := hTf hzv hvb s s.heap hI.2.2.2.2
  have hfl := frm_len vb hvb
  refine lv_iload_n hx hb dX9_readForm_0 rfl (lv_at hl 2 rfl) ?_
  refine lv_istore_n (lv' := [(3, .int (nI (x0))), (0, .ref (ad (b))), (1, .ref (kk vb)), (2, .int (nI (x0)))]) hx hb dX9_readForm_1 rfl hl (by decide) rfl (fun ls hl => ?_)
  refine lv_aload_n hx hb dX9_readForm_2 rfl (lv_at hl 1 rfl) ?_
  refine lv_iconst (v := -1) hx hb dX9_readForm_3 (by decide +kernel) ?_
  refine g_put S hI hP hS uX9 rfl tyX9 tyX9_ok nmX9 (fs := _) (hb_t.lt 0 (by decide)) (hb_t.2 0 (by decide)) 4 (by decide) q351 rfl rfl (v := .int (-1)) rfl rfl (Nat.le_of_ble_eq_true rfl) dX9_readForm_4 (fun H locs hP hS => ?_)
  have hP : gP E ad N (va_up _ (b) (TPC E ad b bf ln fa none cl nm 0)) H := hP
  have hb1 : bkP N (va_up _ (b) (TPC E ad b bf ln fa none cl nm 0)) b 2 (TPC E ad b bf ln fa none cl nm) := TP_setO hb_t _ _ _ _ _
  have hb2 := hb_a.keep (p := b) (e := TPC E ad b bf ln fa none cl nm 0) (by omega)
  have hfr := hfr.up (p := b) (e := TPC E ad b bf ln fa none cl nm 0) (by show _ ∧ _; omega)
  refine lv_aload_n hx hb dX9_readForm_7 rfl (lv_at hl 1 rfl) ?_
  refine lv_iconst (v := -1) hx hb dX9_readForm_8 (by decide +kernel) ?_
  refine g_put S hI hP hS uX9 rfl tyX9 tyX9_ok nmX9 (fs := _) (hb1.lt 0 (by decide)) (hb1.2 0 (by decide)) 5 (by decide) q352 rfl rfl (v := .int (-1)) rfl rfl (Nat.le_of_ble_eq_true rfl) dX9_readForm_9 (fun H locs hP hS => ?_)
  have hP : gP E ad N (va_up _ (b) (TPC E ad b bf ln fa none none nm 0)) H := hP
  have hb3 : bkP N (va_up _ (b) (TPC E ad b bf ln fa none none nm 0)) b 2 (TPC E ad b bf ln fa none none nm) := TP_setO hb1 _ _ _ _ _
  have hb4 := hb2.keep (p := b) (e := TPC E ad b bf ln fa none none nm 0) (by omega)
  have hfr := hfr.up (p := b) (e := TPC E ad b bf ln fa none none nm 0) (by show _ ∧ _; omega)
  refine lv_aload_n hx hb dX9_readForm_12 rfl (lv_at hl 1 rfl) ?_
  refine lv_iconst (v := -1) hx hb dX9_readForm_13 (by decide +kernel) ?_
  refine g_put S hI hP hS uX9 rfl tyX9 tyX9_ok nmX9 (fs := _) (hb3.lt 0 (by decide)) (hb3.2 0 (by decide)) 6 (by decide) q353 rfl rfl (v := .int (-1)) rfl rfl (Nat.le_of_ble_eq_true rfl) dX9_readForm_14 (fun H locs hP hS => ?_)
  have hP : gP E ad N (va_up _ (b) (TPC E ad b bf ln fa none none none 0)) H := hP
  have hb5 : bkP N (va_up _ (b) (TPC E ad b bf ln fa none none none 0)) b 2 (TPC E ad b bf ln fa none none none) := TP_setO hb3 _ _ _ _ _
  have hb6 := hb4.keep (p := b) (e := TPC E ad b bf ln fa none none none 0) (by omega)
  have hfr := hfr.up (p := b) (e := TPC E ad b bf ln fa none none none 0) (by show _ ∧ _; omega)
  refine g_iconst S 0 dX9_readForm_17 (by decide +kernel) ?_
  refine lv_istore (lv' := [(4, .int (nI (0))), (3, .int (nI (x0))), (0, .ref (ad (b))), (1, .ref (kk vb)), (2, .int (nI (x0)))]) hx hb dX9_readForm_18 hl (by decide) rfl (fun ls hl => ?_)
  have floop : ∀ (fz : Nat) (i : Nat) (y : Nat) (r1 : Option Nat) (c1 : Option Nat) (n1 : Option Nat), (frm vb).length - i < fz → (i ≤ (frm vb).length) → (y ≤ x0 + 2 * i) → (rdF ln bf (frm vb) x0 (none, none, none) = rdF ln bf ((frm vb).drop i) y (r1, c1, n1)) → ∀ (w1 : Nat → va_E) (H : Heap) (locs : List Loc), gP E ad N w1 H → va_S (gA E) s.heap H locs → bkP N w1 b 2 (TPC E ad b bf ln fa r1 c1 n1) → bkP N w1 (b + 2) 1 (ALC E ad (b + 2) md (evA ad kk g) n) → gFr (gIn b 2) w w1 → ∀ (ls : Array Slot), lv_has ls 6 [(4, .int (nI (i))), (3, .int (nI (y))), (0, .ref (ad (b))), (1, .ref (kk vb)), (2, .int (nI (x0)))] → W p l e (headSpec (lw_ws yX9_readForm cX9_readForm 6 (some .int)) ({ frames := 5, cells := 2, slots := 13, locals := 108 } : Room)).room s m ([.ref (ad (b)), .ref (kk vb), .int (nI (x0))] : List Value).toArray below meth cd H locs 0 0 (MQ below (gQUi E (fun r ad' N' w' => r = nI x ∧ N ≤ N' ∧ (∀ p, p < N → ad' p = ad p) ∧ (∀ p, p < lo → ¬ (b ≤ p ∧ p < b + 3) → w' p = w p) ∧ bkP N' w' b 2 (TPC E ad' b bf ln fa t.1 t.2.1 t.2.2) ∧ ∃ md' g' pl', bkP N' w' (b + 2) 1 (ALC E ad' (b + 2) md' (evA ad' kk g') (n + 1)) ∧ lsR E ad' N' w' lo g' kk (n + 1) pl' (va_up C n (vb, cellV (oI t.1) (oI t.2.1), oI t.2.2)))) ([.ref (ad (b)), .ref (kk vb), .int (nI (x0))] : List Value).toArray s 2 13 (gA E)) (F0 m 20 ls []) := by
    intro fz
    induction fz with
    | zero => intro i y r1 c1 n1 hmeas; omega
    | succ fz ih_floop =>
      intro i y r1 c1 n1 hmeas hi hy hR w1 H locs hP hS hb7 hb8 hfr ls hl
      refine lv_iload hx hb dX9_readForm_20 (lv_at hl 0 rfl) ?_
      refine lv_aload_n hx hb dX9_readForm_22 rfl (lv_at hl 3 rfl) ?_
      refine g_getcN S hI hS (v := .ref (kk (10 + vb))) hvc.2.2.2 q2304 dX9_readForm_23 ?_
      refine g_roi (g_runC S hI hP hS (k := 0) (q := kk (10 + vb)) (As := []) (rest := [.int (nI (i))]) hst.1 (mJ0_length_8abf5 l kk hzv (kk (10 + vb)) (kk (40 + vb)) (frm vb) (hTf hzv hvb) (by omega) (frm_128 vb hvb)) q1286 q1287 q1288 q98 q1289 rfl rfl (by decide +kernel) ⟨(Nat.le_of_ble_eq_true rfl), (Nat.le_of_ble_eq_true rfl)⟩ rfl hl.1 rfl (Nat.le_of_ble_eq_true rfl) ⟨(Nat.le_of_ble_eq_true rfl), (Nat.le_of_ble_eq_true rfl)⟩ dX9_readForm_26) hS (fun H locs hP hS => ?_)
      refine g_ge S (a := i) (b := (frm vb).length) (by omega) (by omega) (tgt := 78) dX9_readForm_29 (by decide) (fun hc => ?_) (fun hc => ?_)
      · have hdr : (frm vb).drop i = [] := List.drop_eq_nil_of_le hc
        have hE : rdF ln bf (frm vb) x0 (none, none, none) = (y, some (r1, c1, n1)) := by rw [hR, hdr]; rfl
        rw [hE] at hF
        obtain ⟨hF1, hF2⟩ := Prod.mk.inj hF
        have hF2 := Option.some.inj hF2
        subst hF1
        subst hF2
        have hL1 := hL.fr hfr (fun p hp => by simp only [gIn] at hp; omega)
        refine lv_aload_n hx hb dX9_readForm_78 rfl (lv_at hl 2 rfl) ?_
        refine g_get S hI hP uX9 rfl (fs := _) (hb7.lt 0 (by decide)) (hb7.2 0 (by decide)) 1 (by decide) q346 rfl (v := .ref (ad (b + 2))) rfl dX9_readForm_79 ?_
        refine g_newM S hI hP hS (ci := 6) uX2 rfl tyX2 tyX2_ok q1346 q453 q101 (fs := [.null, .int 0, .int 0]) (fun j hj => by match j, hj with | 0, _ => rfl | 1, _ => rfl | 2, _ => rfl) (Nat.le_of_ble_eq_true rfl) (Nat.le_of_ble_eq_true rfl) dX9_readForm_82 (fun ad1 wn1 H hP hS hadL1 hwL1 hwN1 => ?_)
        rw [show ([.ref (ad1 (N)), .ref (ad (b + 2))] : List Value) = [.ref (ad1 (N)), .ref (ad1 (b + 2))] by rw [hadL1 (b + 2) (by omega)]]
        have hl : lv_has ls 6 [(4, .int (nI (i))), (3, .int (nI (y))), (0, .ref (ad1 (b))), (1, .ref (kk vb)), (2, .int (nI (x0)))] := by rw [hadL1 (b) (by omega)]; exact hl
        have hb9 := TP_mv hb7 (w' := wn1) (M := N) (by omega) (Nat.le_succ _) (fun p hp => (hadL1 p hp).symm) (fun p h1 h2 => hwL1 p (by omega))
        have hb10 := AL_mv hb8 (w' := wn1) (M := N) (by omega) (Nat.le_succ _) (fun p hp => (hadL1 p hp).symm) (fun p h1 h2 => hwL1 p (by omega))
        have hev := evA_mv hL1 hadL1
        refine lv_dup hx hb dX9_readForm_85 rfl ?_
        refine lv_aload_n hx hb dX9_readForm_86 rfl (lv_at hl 3 rfl) ?_
        refine lv_aload_n hx hb dX9_readForm_87 rfl (lv_at hl 2 rfl) ?_
        refine g_get S hI hP uX9 rfl (fs := _) (hb9.lt 0 (by decide)) (hb9.2 0 (by decide)) 4 (by decide) q351 rfl (v := .int (oI (r1))) rfl dX9_readForm_88 ?_
        refine lv_aload_n hx hb dX9_readForm_91 rfl (lv_at hl 2 rfl) ?_
        refine g_get S hI hP uX9 rfl (fs := _) (hb9.lt 0 (by decide)) (hb9.2 0 (by decide)) 5 (by decide) q352 rfl (v := .int (oI (c1))) rfl dX9_readForm_92 ?_
        refine g_roi (g_runSN S hI hP hS (k := 2) (As := [.int (oI (r1)), .int (oI (c1))]) (rest := [.ref (kk vb), .ref (ad1 (N)), .ref (ad1 (N)), .ref (ad1 (b + 2))]) (mX12_cellOf l (oI r1) (oI c1)) q1347 q678 q82 q679 rfl rfl (by decide +kernel) ⟨Nat.le_of_ble_eq_true rfl, Nat.le_of_ble_eq_true rfl⟩ rfl hl.1 rfl (Nat.le_of_ble_eq_true rfl) ⟨(Nat.le_of_ble_eq_true rfl), (Nat.le_of_ble_eq_true rfl)⟩ dX9_readForm_95) hS (fun H locs hP hS => ?_)
        refine lv_aload_n hx hb dX9_readForm_98 rfl (lv_at hl 2 rfl) ?_
        refine g_get S hI hP uX9 rfl (fs := _) (hb9.lt 0 (by decide)) (hb9.2 0 (by decide)) 6 (by decide) q353 rfl (v := .int (oI (n1))) rfl dX9_readForm_99 ?_
        refine g_afv (g_runI S hI hP hS (k := 3) (b := N) (As := [.ref (kk vb), .int (oI (cellV (oI r1) (oI c1))), .int (oI (n1))]) (rest := [.ref (ad1 (N)), .ref (ad1 (b + 2))]) (mX2_init l kk N vb (cellV (oI r1) (oI c1)) (oI n1) (Nat.lt_succ_self _) hwN1) q1348 q457 q101 q458 rfl rfl rfl (by decide +kernel) ⟨(Nat.le_of_ble_eq_true rfl), (Nat.le_of_ble_eq_true rfl)⟩ rfl hl.1 rfl (Nat.le_of_ble_eq_true rfl) ⟨(Nat.le_of_ble_eq_true rfl), (Nat.le_of_ble_eq_true rfl)⟩ dX9_readForm_102) hS (fun w5 H locs hq hP hS => ?_)
        obtain ⟨hbc, hf1⟩ := hq
        have hx_t := hb9.fr hf1 (fun k hk => by show ¬ _; simp only [gIn]; omega)
        have hx_a := hb10.fr hf1 (fun k hk => by show ¬ _; simp only [gIn]; omega)
        rw [← hev] at hx_a
        have hL2 : lsR E ad1 (N + 1) w5 lo g kk n pl C := hL1.mv (Nat.le_succ _) hadL1 (fun p h1 h2 => (hf1 p (fun z => by simp only [gIn] at z; omega)).trans (hwL1 p h2))
        have hgN : ∀ a, g = some a → N ≠ a := fun a e => by have := (hL1.2.2.1 a e).2.1; omega
        refine g_uafi (g_runV S hI hP hS (k := 1) (As := [.ref (ad1 (N))]) (rest := []) (mJx4a65c_add_9ea2d l kk hzv (b + 2) lo md g n pl C N vb (cellV (oI r1) (oI c1)) (oI n1) hx_a (by omega) hL2 hn hloN hgN (Nat.lt_succ_self N) (hbc.2 0 (by decide))) q1349 q1350 q1351 q95 q1352 rfl rfl (by decide +kernel) ⟨(Nat.le_of_ble_eq_true rfl), (Nat.le_of_ble_eq_true rfl)⟩ rfl (hx_a.lt 0 (by decide)) (hx_a.2 0 (by decide)) rfl hl.1 rfl (Nat.le_of_ble_eq_true rfl) ⟨(Nat.le_of_ble_eq_true rfl), (Nat.le_of_ble_eq_true rfl)⟩ dX9_readForm_105) hS (fun rz ad2 N2 w2 H locs hq hP hS => ?_)
        obtain ⟨hrz, hN2, hadL2, hwL2, md2, g2, hba, hL3⟩ := hq
        rw [hrz]
        have hbt := TP_mv hx_t (w' := w2) (M := N + 1) (by omega) hN2 (fun p hp => (hadL2 p hp).symm) (fun p h1 h2 => hwL2 p (by omega) (by omega))
        have hl : lv_has ls 6 [(4, .int (nI (i))), (3, .int (nI (y))), (0, .ref (ad2 (b))), (1, .ref (kk vb)), (2, .int (nI (x0)))] := by rw [hadL2 (b) (by omega)]; exact hl
        refine lv_pop hx hb dX9_readForm_108 rfl ?_
        refine lv_iload_n hx hb dX9_readForm_109 rfl (lv_at hl 1 rfl) ?_
        exact g_uiret S hr hlocks hP hS (⟨rfl, by omega, fun p hp => (hadL2 p (by omega)).trans (hadL1 p hp), fun p h1 h2 => by rw [hwL2 p h1 (by omega), hf1 p (fun z => by simp only [gIn] at z; omega), hwL1 p (by omega)]; exact hfr p (fun z => by simp only [gIn] at z; omega), hbt, md2, g2, _, hba, hL3⟩) (Nat.le_of_ble_eq_true rfl) (Nat.le_of_ble_eq_true rfl) dX9_readForm_110
      · have hdr := lsD_cons hc
        have hch := frm_128 vb hvb i
        have hw2 := rdS_le (ln := ln) (bf := bf) (c := (frm vb).getD i 0) (p := y) (t := (r1, c1, n1))
        refine lv_aload_n hx hb dX9_readForm_32 rfl (lv_at hl 2 rfl) ?_
        refine lv_aload_n hx hb dX9_readForm_33 rfl (lv_at hl 3 rfl) ?_
        refine g_getcN S hI hS (v := .ref (kk (10 + vb))) hvc.2.2.2 q2304 dX9_readForm_34 ?_
        refine lv_iload hx hb dX9_readForm_37 (lv_at hl 0 rfl) ?_
        refine g_roi (g_runC S hI hP hS (k := 1) (q := kk (10 + vb)) (As := [.int (nI (i))]) (rest := [.ref (ad (b))]) hst.1 (mJ0_charAt_5068e l kk hzv (kk (10 + vb)) (kk (40 + vb)) (frm vb) i (hTf hzv hvb) (by omega) (frm_128 vb hvb) hc) q1295 q1296 q1297 q98 q1298 rfl rfl (by decide +kernel) ⟨(Nat.le_of_ble_eq_true rfl), (Nat.le_of_ble_eq_true rfl)⟩ rfl hl.1 rfl (Nat.le_of_ble_eq_true rfl) ⟨(Nat.le_of_ble_eq_true rfl), (Nat.le_of_ble_eq_true rfl)⟩ dX9_readForm_39) hS (fun H locs hP hS => ?_)
        refine lv_iload_n hx hb dX9_readForm_42 rfl (lv_at hl 1 rfl) ?_
        refine g_afi (g_runV S hI hP hS (k := 2) (As := [.int (nI ((frm vb).getD i 0)), .int (nI (y))]) (rest := []) (mX9_readSign l b bf ln fa r1 c1 n1 ((frm vb).getD i 0) y hb7 hln hbf (by omega) (by omega)) q1333 q1335 q39 q92 q1336 rfl rfl (by decide +kernel) ⟨Nat.le_of_ble_eq_true rfl, Nat.le_of_ble_eq_true rfl⟩ rfl (hb7.lt 0 (by decide)) (hb7.2 0 (by decide)) rfl hl.1 rfl (Nat.le_of_ble_eq_true rfl) ⟨(Nat.le_of_ble_eq_true rfl), (Nat.le_of_ble_eq_true rfl)⟩ dX9_readForm_43) hS (fun rz w1 H locs hq hP hS => ?_)
        obtain ⟨hr13, hb11, hf12⟩ := hq
        rw [hr13]
        have hb14 := hb8.fr hf12 (fun k hk => by show ¬ _; (try simp only [gIn]); (try dsimp only); omega)
        have hfr := hfr.trans hf12 (fun q hq => by (try simp only [gIn] at hq ⊢); (try dsimp only at hq ⊢); omega)
        refine lv_istore (lv' := [(5, .int (nI ((rdS ln bf ((frm vb).getD i 0) y (r1, c1, n1)).1))), (4, .int (nI (i))), (3, .int (nI (y))), (0, .ref (ad (b))), (1, .ref (kk vb)), (2, .int (nI (x0)))]) hx hb dX9_readForm_46 hl (by decide) rfl (fun ls hl => ?_)
        refine lv_iload hx hb dX9_readForm_48 (lv_at hl 0 rfl) ?_
        refine g_ifne S (a := (rdS ln bf ((frm vb).getD i 0) y (r1, c1, n1)).1) (by omega) (tgt := 67) dX9_readForm_50 (by decide) (fun hw0 => ?_) (fun hw0 => ?_)
        · refine lv_iload_n hx hb dX9_readForm_67 rfl (lv_at hl 2 rfl) ?_
          refine lv_iload hx hb dX9_readForm_68 (lv_at hl 0 rfl) ?_
          refine g_iadd S dX9_readForm_70 ?_
          refine lv_istore_n (lv' := [(3, .int (nI (y + ((rdS ln bf ((frm vb).getD i 0) y (r1, c1, n1)).1)))), (5, .int (nI ((rdS ln bf ((frm vb).getD i 0) y (r1, c1, n1)).1))), (4, .int (nI (i))), (0, .ref (ad (b))), (1, .ref (kk vb)), (2, .int (nI (x0)))]) hx hb dX9_readForm_71 rfl hl (by decide) rfl (fun ls hl => ?_)
          refine lv_iinc (v := nI (i + 1)) (lv' := [(4, .int (nI (i + 1))), (3, .int (nI (y + ((rdS ln bf ((frm vb).getD i 0) y (r1, c1, n1)).1)))), (5, .int (nI ((rdS ln bf ((frm vb).getD i 0) y (r1, c1, n1)).1))), (0, .ref (ad (b))), (1, .ref (kk vb)), (2, .int (nI (x0)))]) hx hb dX9_readForm_72 hl (k := 2) rfl (g_inc _ 1 (by decide +kernel)) (by decide) rfl (fun ls hl => ?_)
          refine lv_goto (tgt := 20) hx hb dX9_readForm_75 (by decide) ?_
          exact ih_floop (i + 1) (y + (rdS ln bf ((frm vb).getD i 0) y (r1, c1, n1)).1) ((rdS ln bf ((frm vb).getD i 0) y (r1, c1, n1)).2.1) ((rdS ln bf ((frm vb).getD i 0) y (r1, c1, n1)).2.2.1) ((rdS ln bf ((frm vb).getD i 0) y (r1, c1, n1)).2.2.2) (by omega) (by omega) (by omega) (by rw [hR, hdr]; show (if _ then _ else _) = _; rw [if_neg (by omega)]) _ _ _ hP hS hb11 hb14 hfr ls (lv_sub hl [0, 1, 3, 4, 5] rfl)
        · have hE : rdF ln bf (frm vb) x0 (none, none, none) = (y, none) := by rw [hR, hdr]; show (if _ then _ else _) = _; rw [if_pos hw0]
          rw [hE] at hF; cases hF
  exact floop ((frm vb).length - (0) + 1) (0) (x0) (none) (none) (none) (Nat.lt_succ_self _) (Nat.zero_le _) (by omega) (rfl) _ _ _ hP hS hb5 hb6 hfr ls (lv_sub hl [0, 1, 2, 3, 4] rfl)
