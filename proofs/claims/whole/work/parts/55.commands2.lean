theorem rdS_adv {ln : Nat} {bf : Nat → Nat} {c p : Nat} {t : Tp} (h : (rdS ln bf c p t).1 ≠ 0) : p + (rdS ln bf c p t).1 ≤ ln := by
  have h1 : wdO (dgt ln bf p) ≠ 0 → p + wdO (dgt ln bf p) ≤ ln := fun q => by
    cases e : dgt ln bf p with
    | none => rw [e] at q; exact absurd rfl q
    | some a => have := (dgt_lt e).2; show p + 1 ≤ ln; omega
  have h2 : ∀ nm, (rdN ln bf p nm).1 ≠ 0 → p + (rdN ln bf p nm).1 ≤ ln := fun nm q => by
    unfold rdN at q ⊢
    cases e : dgt ln bf p with
    | none => rw [e] at q; exact absurd rfl q
    | some a =>
      have h3 := (dgt_lt e).2
      cases e2 : dgt ln bf (p + 1) with
      | none => show p + 1 ≤ ln; omega
      | some b => have := (dgt_lt e2).2; show p + 2 ≤ ln; omega
  unfold rdS at h ⊢
  split
  · rename_i q; rw [if_pos q] at h; exact h1 h
  · rename_i q; rw [if_neg q] at h
    split
    · rename_i q; rw [if_pos q] at h; exact h1 h
    · rename_i q; rw [if_neg q] at h
      split
      · rename_i q; rw [if_pos q] at h; exact h2 _ h
      · rename_i q; rw [if_neg q] at h
        split
        · rename_i q; rw [if_pos q] at h; exact h1 h
        · rename_i q; rw [if_neg q] at h
          by_cases z : p < ln ∧ bf p = c
          · show p + (if p < ln ∧ bf p = c then 1 else 0) ≤ ln
            rw [if_pos z]; omega
          · exact absurd (if_neg z) h
theorem rdF_some {ln : Nat} {bf : Nat → Nat} : ∀ (l : List Nat) (x : Nat) (t : Tp) (y : Nat) (t' : Tp), rdF ln bf l x t = (y, some t') → x + l.length ≤ y ∧ (l ≠ [] → y ≤ ln)
  | [], x, t, y, t', h => by
    have h1 := (Prod.mk.inj h).1
    exact ⟨by simp [h1], fun q => absurd rfl q⟩
  | c :: l, x, t, y, t', h => by
    unfold rdF at h
    by_cases q : (rdS ln bf c x t).1 = 0
    · rw [if_pos q] at h; cases (Prod.mk.inj h).2
    · rw [if_neg q] at h
      have ih := rdF_some l _ _ y t' h
      have ha := rdS_adv q
      refine ⟨by simp only [List.length_cons]; omega, fun _ => ?_⟩
      by_cases z : l = []
      · subst z
        have h1 := (Prod.mk.inj h).1
        omega
      · exact ih.2 z
theorem rdF_le {ln : Nat} {bf : Nat → Nat} : ∀ (l : List Nat) (x : Nat) (t : Tp), (rdF ln bf l x t).1 ≤ x + 2 * l.length
  | [], x, t => by simp [rdF]
  | c :: l, x, t => by
    unfold rdF
    have h2 := rdS_le (ln := ln) (bf := bf) (c := c) (p := x) (t := t)
    by_cases q : (rdS ln bf c x t).1 = 0
    · rw [if_pos q]; simp
    · rw [if_neg q]
      have ih := rdF_le (ln := ln) (bf := bf) l (x + (rdS ln bf c x t).1) (rdS ln bf c x t).2
      simp only [List.length_cons]; omega
abbrev F0t : Tp := (none, none, none)
/-- the first form that fits, the fault as it grows -/
def rdC (ln : Nat) (bf : Nat → Nat) (x0 : Nat) : List Nat → Nat → Nat × Option (Nat × Nat × Tp)
  | [], fa => (fa, none)
  | v :: l, fa => match rdF ln bf (frm v) x0 (none, none, none) with
    | (x, none) => rdC ln bf x0 l (max fa x)
    | (x, some t) => (fa, some (v, x, t))
theorem rdC_no {ln : Nat} {bf : Nat → Nat} {x0 v x fa : Nat} {l : List Nat} (h : rdF ln bf (frm v) x0 (none, none, none) = (x, none)) : rdC ln bf x0 (v :: l) fa = rdC ln bf x0 l (max fa x) := by
  show (match rdF ln bf (frm v) x0 (none, none, none) with | (x, none) => rdC ln bf x0 l (max fa x) | (x, some t) => (fa, some (v, x, t))) = _
  rw [h]
theorem rdC_yes {ln : Nat} {bf : Nat → Nat} {x0 v x fa : Nat} {l : List Nat} {t : Tp} (h : rdF ln bf (frm v) x0 (none, none, none) = (x, some t)) : rdC ln bf x0 (v :: l) fa = (fa, some (v, x, t)) := by
  show (match rdF ln bf (frm v) x0 (none, none, none) with | (x, none) => rdC ln bf x0 l (max fa x) | (x, some t) => (fa, some (v, x, t))) = _
  rw [h]
theorem rng_drop : ∀ i, i < 10 → (List.range 10).drop i = i :: (List.range 10).drop (i + 1) := by decide
theorem frm_5 : ∀ i, i < 10 → 5 ≤ (frm i).length := by decide
theorem rdC_some {ln : Nat} {bf : Nat → Nat} {x0 : Nat} : ∀ (l : List Nat) (fa fa' v x : Nat) (t : Tp), (∀ i ∈ l, i < 10) → rdC ln bf x0 l fa = (fa', some (v, x, t)) → v < 10 ∧ x0 + 5 ≤ x ∧ x ≤ ln
  | [], fa, fa', v, x, t, hl, h => by cases (Prod.mk.inj h).2
  | i :: l, fa, fa', v, x, t, hl, h => by
    have hi := hl i List.mem_cons_self
    rcases e : rdF ln bf (frm i) x0 (none, none, none) with ⟨y, _ | t'⟩
    · rw [rdC_no e] at h
      exact rdC_some l _ fa' v x t (fun j hj => hl j (List.mem_cons_of_mem _ hj)) h
    · rw [rdC_yes e] at h
      have h2 := Option.some.inj (Prod.mk.inj h).2
      have h3 := (Prod.mk.inj h2).1
      have h4 := (Prod.mk.inj (Prod.mk.inj h2).2).1
      subst h3; subst h4
      have hs := rdF_some _ _ _ _ _ e
      have h5 := frm_5 i hi
      exact ⟨hi, by omega, hs.2 (fun z => by rw [z] at h5; simp at h5)⟩
theorem rdC_le {ln : Nat} {bf : Nat → Nat} {x0 : Nat} : ∀ (l : List Nat) (fa : Nat), (∀ i ∈ l, i < 10) → (rdC ln bf x0 l fa).1 ≤ max fa (x0 + 22)
  | [], fa, hl => Nat.le_max_left _ _
  | i :: l, fa, hl => by
    have hi := hl i List.mem_cons_self
    have hle := rdF_le (ln := ln) (bf := bf) (frm i) x0 (none, none, none)
    have hfl := frm_len i hi
    rcases e : rdF ln bf (frm i) x0 (none, none, none) with ⟨y, _ | t'⟩
    · rw [e] at hle
      rw [rdC_no e]
      have ih := rdC_le (ln := ln) (bf := bf) (x0 := x0) l (max fa y) (fun j hj => hl j (List.mem_cons_of_mem _ hj))
      have hle2 : y ≤ x0 + 2 * (frm i).length := hle
      omega
    · rw [rdC_yes e]; exact Nat.le_max_left _ _
theorem rng_10 : ∀ i ∈ List.range 10, i < 10 := fun i h => List.mem_range.mp h
/-- the commands of a text, and where it fails, if it does -/
def cmO (v : Nat) (t : Tp) : Cm := (v, cellV (oI t.1) (oI t.2.1), oI t.2.2)
def rdP (ln : Nat) (bf : Nat → Nat) : Nat → Nat → Nat → Option Nat × List Cm
  | 0, _, fa => (some fa, [])
  | k + 1, x0, fa => match rdC ln bf x0 (List.range 10) fa with
    | (fa', none) => (some fa', [])
    | (fa', some (v, x, t)) => if ln ≤ x then (none, [cmO v t]) else if bf x = 59 then ((rdP ln bf k (x + 1) fa').1, cmO v t :: (rdP ln bf k (x + 1) fa').2) else (some x, [cmO v t])
theorem rdP_no {ln : Nat} {bf : Nat → Nat} {k x0 fa fa' : Nat} (h : rdC ln bf x0 (List.range 10) fa = (fa', none)) : rdP ln bf (k + 1) x0 fa = (some fa', []) := by
  unfold rdP; rw [h]
theorem rdP_yes {ln : Nat} {bf : Nat → Nat} {k x0 fa fa' v x : Nat} {t : Tp} (h : rdC ln bf x0 (List.range 10) fa = (fa', some (v, x, t))) : rdP ln bf (k + 1) x0 fa = if ln ≤ x then (none, [cmO v t]) else if bf x = 59 then ((rdP ln bf k (x + 1) fa').1, cmO v t :: (rdP ln bf k (x + 1) fa').2) else (some x, [cmO v t]) := by
  conv => lhs; unfold rdP
  rw [h]
set_option maxHeartbeats 4000000 in
set_option maxRecDepth 100000 in
/-- no command -/
theorem mX9_readCommand_no (l : Launch) {E : gE} {ad : Nat → Nat} {N : Nat} {w : Nat → va_E} (kk : Nat → Nat) (hzv : gHv E kk) (b : Nat) (bf : Nat → Nat) (ln fa : Nat) (rw cl nm : Option Nat) (x0 fb : Nat) (hb_t : bkP N w b 2 (TPC E ad b bf ln fa rw cl nm)) (hln : ln ≤ 60) (hbf : ∀ k, k < 60 → bf k < 65536) (hx0 : x0 ≤ 1000) (hfa : fa ≤ 1100) (hC : rdC ln bf x0 (List.range 10) fa = (fb, none)) : gMi l yX9_readCommand (lw_ws yX9_readCommand cX9_readCommand 4 (some .int)) ({ frames := 5, cells := 0, slots := 0, locals := 110 } : Room) E ad N w [.ref (ad (b)), .int (nI (x0))] (fun r w' => r = -1 ∧ (∃ r1 c1 n1, bkP N w' b 2 (TPC E ad b bf ln fb r1 c1 n1)) ∧ gFr (gIn b 2) w w') 0 0 := by
  refine Met.ofW (cc := cX9_readCommand) (maxL := 4) (ret := (some .int)) (by decide) rfl ?_
  intro p e s m args below meth cd s₁ B hml hv
  obtain ⟨rfl, hI, hP⟩ := hv
  obtain ⟨S, hr, hlocks⟩ := gPre (ws := []) B hml (C := RX9) rfl
  have hx := S.1
  have hb := S.2.1
  have hzk := hzv s s.heap hI.2.2.2.2
  have hS : va_S (gA E) s.heap s.heap [] := va_S.rf
  have hfr : gFr (gIn b 2) w w := gFr.rf
  have hl := lv_entry ([.ref (ad (b)), .int (nI (x0))]) (n := 4) (Nat.le_of_ble_eq_true rfl)
  rw [lg_entry_eq]
  generalize (lg_sl ([.ref (ad (b)), .int (nI (x0))]) ++ List.replicate (4 - (lg_sl ([.ref (ad (b)), .int (nI (x0))])).length) Slot.unset).toArray = ls at hl ⊢
  have hl : lv_has ls 4 [(0, .ref (ad (b))), (1, .int (nI (x0)))] := hl
  refine g_iconst S 0 dX9_readCommand_0 (by decide +kernel) ?_
  refine lv_istore_n (lv' := [(2, .int (nI (0))), (0, .ref (ad (b))), (1, .int (nI (x0)))]) hx hb dX9_readCommand_1 rfl hl (by decide) rfl (fun ls hl => ?_)
  have cloop : ∀ (fz : Nat) (i : Nat) (f1 : Nat) (r1 : Option Nat) (c1 : Option Nat) (n1 : Option Nat), 10 - i < fz → (i ≤ 10) → (f1 ≤ 1100) → (rdC ln bf x0 (List.range 10) fa = rdC ln bf x0 ((List.range 10).drop i) f1) → ∀ (w1 : Nat → va_E) (H : Heap) (locs : List Loc), gP E ad N w1 H → va_S (gA E) s.heap H locs → bkP N w1 b 2 (TPC E ad b bf ln f1 r1 c1 n1) → gFr (gIn b 2) w w1 → ∀ (ls : Array Slot), lv_has ls 4 [(2, .int (nI (i))), (0, .ref (ad (b))), (1, .int (nI (x0)))] → W p l e (headSpec (lw_ws yX9_readCommand cX9_readCommand 4 (some .int)) ({ frames := 5, cells := 0, slots := 0, locals := 110 } : Room)).room s m ([.ref (ad (b)), .int (nI (x0))] : List Value).toArray below meth cd H locs 0 0 (MQ below (va_Qi (fun r w' => r = -1 ∧ (∃ r1 c1 n1, bkP N w' b 2 (TPC E ad b bf ln fb r1 c1 n1)) ∧ gFr (gIn b 2) w w') (gB E ad N) (gA E)) ([.ref (ad (b)), .int (nI (x0))] : List Value).toArray s 0 0 (gA E)) (F0 m 2 ls []) := by
    intro fz
    induction fz with
    | zero => intro i f1 r1 c1 n1 hmeas; omega
    | succ fz ih_cloop =>
      intro i f1 r1 c1 n1 hmeas hi hf1 hR w1 H locs hP hS hb1 hfr ls hl
      refine lv_iload_n hx hb dX9_readCommand_2 rfl (lv_at hl 0 rfl) ?_
      refine g_getsN S hI hS hzk.2.2.1.1 q1280 dX9_readCommand_3 ?_
      refine g_stl S hS hzk.2.2.1.2 dX9_readCommand_6 ?_
      refine g_ge S (a := i) (b := 10) (by omega) (by omega) (tgt := 34) dX9_readCommand_7 (by decide) (fun hc => ?_) (fun hc => ?_)
      · have hdr : (List.range 10).drop i = [] := List.drop_eq_nil_of_le (by simpa using hc)
        have hE : rdC ln bf x0 (List.range 10) fa = (f1, none) := by rw [hR, hdr]; rfl
        rw [hE] at hC
        have hC1 := (Prod.mk.inj hC).1
        subst hC1
        refine lv_iconst (v := -1) hx hb dX9_readCommand_34 (by decide +kernel) ?_
        exact g_iret S hr hlocks hP hS (⟨rfl, ⟨_, _, _, hb1⟩, hfr⟩) (fun _ _ => rfl) (Nat.le_of_ble_eq_true rfl) (Nat.le_of_ble_eq_true rfl) dX9_readCommand_35
      · have hdr := rng_drop i hc
        refine lv_aload_n hx hb dX9_readCommand_10 rfl (lv_at hl 1 rfl) ?_
        refine g_getsN S hI hS hzk.2.2.1.1 q1280 dX9_readCommand_11 ?_
        refine lv_iload_n hx hb dX9_readCommand_14 rfl (lv_at hl 0 rfl) ?_
        refine g_sta S hS hzk.2.2.1.2 i hc (by decide) dX9_readCommand_15 ?_
        refine lv_iload_n hx hb dX9_readCommand_16 rfl (lv_at hl 2 rfl) ?_
        have hle := rdF_le (ln := ln) (bf := bf) (frm i) x0 (none, none, none)
        have hfl := frm_len i hc
        rcases hf : rdF ln bf (frm i) x0 (none, none, none) with ⟨x1, _ | t1⟩
        · rw [hf] at hle
          have hle : x1 ≤ x0 + 2 * (frm i).length := hle
          rw [hdr, rdC_no hf] at hR
          refine g_afi (g_runV S hI hP hS (k := 2) (As := [.ref (kk i), .int (nI (x0))]) (rest := []) (mX9_readForm_no l kk hzv b bf ln f1 r1 c1 n1 i x0 x1 hb1 hln hbf hc hx0 (by omega) hf) q1282 q1284 q38 q92 q1285 rfl rfl (by decide +kernel) ⟨(Nat.le_of_ble_eq_true rfl), (Nat.le_of_ble_eq_true rfl)⟩ rfl (hb1.lt 0 (by decide)) (hb1.2 0 (by decide)) rfl hl.1 rfl (Nat.le_of_ble_eq_true rfl) ⟨(Nat.le_of_ble_eq_true rfl), (Nat.le_of_ble_eq_true rfl)⟩ dX9_readCommand_17) hS (fun rz w2 H locs hq hP hS => ?_)
          obtain ⟨hrz, ⟨r2, c2, n2, hbt⟩, hf2⟩ := hq
          rw [hrz]
          have hfr := hfr.trans hf2 (fun q hq => hq)
          refine lv_istore_n (lv' := [(3, .int ((-1))), (2, .int (nI (i))), (0, .ref (ad (b))), (1, .int (nI (x0)))]) hx hb dX9_readCommand_20 rfl hl (by decide) rfl (fun ls hl => ?_)
          refine lv_iload_n hx hb dX9_readCommand_21 rfl (lv_at hl 0 rfl) ?_
          refine lv_iconst (v := -1) hx hb dX9_readCommand_22 (by decide +kernel) ?_
          refine lv_icmp_eq (tgt := 28) hx hb dX9_readCommand_23 (by decide) (fun hc2 => ?_) (fun hc2 => ?_)
          · refine lv_iinc (v := nI (i + 1)) (lv' := [(2, .int (nI (i + 1))), (3, .int ((-1))), (0, .ref (ad (b))), (1, .int (nI (x0)))]) hx hb dX9_readCommand_28 hl (k := 1) rfl (g_inc _ 1 (by decide +kernel)) (by decide) rfl (fun ls hl => ?_)
            refine lv_goto (tgt := 2) hx hb dX9_readCommand_31 (by decide) ?_
            exact ih_cloop (i + 1) (max f1 x1) (r2) (c2) (n2) (by omega) (by omega) (by omega) (hR) _ _ _ hP hS hbt hfr ls (lv_sub hl [0, 2, 3] rfl)
          · exact absurd rfl hc2
        · rw [hdr, rdC_yes hf] at hR
          rw [hR] at hC
          cases (Prod.mk.inj hC).2
  exact cloop (10 - (0) + 1) (0) (fa) (rw) (cl) (nm) (Nat.lt_succ_self _) (Nat.zero_le _) (hfa) (rfl) _ _ _ hP hS hb_t hfr ls (lv_sub hl [0, 1, 2] rfl)
set_option maxHeartbeats 4000000 in
set_option maxRecDepth 100000 in
/-- a command -/
theorem mX9_readCommand_yes (l : Launch) {E : gE} {ad : Nat → Nat} {N : Nat} {w : Nat → va_E} (kk : Nat → Nat) (hzv : gHv E kk) (b : Nat) (bf : Nat → Nat) (ln fa : Nat) (rw cl nm : Option Nat) (lo : Nat) (md : Int32) (g : Option Nat) (n : Nat) (pl : Nat → Nat) (C : Nat → Cm) (x0 x fb vb : Nat) (t : Tp) (hb_t : bkP N w b 2 (TPC E ad b bf ln fa rw cl nm)) (hb_a : bkP N w (b + 2) 1 (ALC E ad (b + 2) md (evA ad kk g) n)) (hln : ln ≤ 60) (hbf : ∀ k, k < 60 → bf k < 65536) (hblo : b + 3 ≤ lo) (hloN : lo ≤ N) (hL : lsR E ad N w lo g kk n pl C) (hn : n < 10) (hx0 : x0 ≤ 1000) (hfa : fa ≤ 1100) (hC : rdC ln bf x0 (List.range 10) fa = (fb, some (vb, x, t))) : gUi l yX9_readCommand (lw_ws yX9_readCommand cX9_readCommand 4 (some .int)) ({ frames := 6, cells := 2, slots := 13, locals := 133 } : Room) E ad N w [.ref (ad (b)), .int (nI (x0))] (fun r ad' N' w' => r = nI x ∧ N ≤ N' ∧ (∀ p, p < N → ad' p = ad p) ∧ (∀ p, p < lo → ¬ (b ≤ p ∧ p < b + 3) → w' p = w p) ∧ (∃ r1 c1 n1, bkP N' w' b 2 (TPC E ad' b bf ln fb r1 c1 n1)) ∧ ∃ md' g' pl', bkP N' w' (b + 2) 1 (ALC E ad' (b + 2) md' (evA ad' kk g') (n + 1)) ∧ lsR E ad' N' w' lo g' kk (n + 1) pl' (va_up C n (cmO vb t))) 2 13 := by
  refine Met.ofW (cc := cX9_readCommand) (maxL := 4) (ret := (some .int)) (by decide) rfl ?_
  intro p e s m args below meth cd s₁ B hml hv
  obtain ⟨rfl, hI, hP⟩ := hv
  obtain ⟨S, hr, hlocks⟩ := gPre (ws := []) B hml (C := RX9) rfl
  have hx := S.1
  have hb := S.2.1
  have hzk := hzv s s.heap hI.2.2.2.2
  have hS : va_S (gA E) s.heap s.heap [] := va_S.rf
  have hfr : gFr (gIn b 2) w w := gFr.rf
  have hl := lv_entry ([.ref (ad (b)), .int (nI (x0))]) (n := 4) (Nat.le_of_ble_eq_true rfl)
  rw [lg_entry_eq]
  generalize (lg_sl ([.ref (ad (b)), .int (nI (x0))]) ++ List.replicate (4 - (lg_sl ([.ref (ad (b)), .int (nI (x0))])).length) Slot.unset).toArray = ls at hl ⊢
  have hl : lv_has ls 4 [(0, .ref (ad (b))), (1, .int (nI (x0)))] := hl
  refine g_iconst S 0 dX9_readCommand_0 (by decide +kernel) ?_
  refine lv_istore_n (lv' := [(2, .int (nI (0))), (0, .ref (ad (b))), (1, .int (nI (x0)))]) hx hb dX9_readCommand_1 rfl hl (by decide) rfl (fun ls hl => ?_)
  have cloop : ∀ (fz : Nat) (i : Nat) (f1 : Nat) (r1 : Option Nat) (c1 : Option Nat) (n1 : Option Nat), 10 - i < fz → (i ≤ 10) → (f1 ≤ 1100) → (rdC ln bf x0 (List.range 10) fa = rdC ln bf x0 ((List.range 10).drop i) f1) → ∀ (w1 : Nat → va_E) (H : Heap) (locs : List Loc), gP E ad N w1 H → va_S (gA E) s.heap H locs → bkP N w1 b 2 (TPC E ad b bf ln f1 r1 c1 n1) → bkP N w1 (b + 2) 1 (ALC E ad (b + 2) md (evA ad kk g) n) → gFr (gIn b 2) w w1 → ∀ (ls : Array Slot), lv_has ls 4 [(2, .int (nI (i))), (0, .ref (ad (b))), (1, .int (nI (x0)))] → W p l e (headSpec (lw_ws yX9_readCommand cX9_readCommand 4 (some .int)) ({ frames := 6, cells := 2, slots := 13, locals := 133 } : Room)).room s m ([.ref (ad (b)), .int (nI (x0))] : List Value).toArray below meth cd H locs 0 0 (MQ below (gQUi E (fun r ad' N' w' => r = nI x ∧ N ≤ N' ∧ (∀ p, p < N → ad' p = ad p) ∧ (∀ p, p < lo → ¬ (b ≤ p ∧ p < b + 3) → w' p = w p) ∧ (∃ r1 c1 n1, bkP N' w' b 2 (TPC E ad' b bf ln fb r1 c1 n1)) ∧ ∃ md' g' pl', bkP N' w' (b + 2) 1 (ALC E ad' (b + 2) md' (evA ad' kk g') (n + 1)) ∧ lsR E ad' N' w' lo g' kk (n + 1) pl' (va_up C n (cmO vb t)))) ([.ref (ad (b)), .int (nI (x0))] : List Value).toArray s 2 13 (gA E)) (F0 m 2 ls []) := by
    intro fz
    induction fz with
    | zero => intro i f1 r1 c1 n1 hmeas; omega
    | succ fz ih_cloop =>
      intro i f1 r1 c1 n1 hmeas hi hf1 hR w1 H locs hP hS hb1 hb2 hfr ls hl
      refine lv_iload_n hx hb dX9_readCommand_2 rfl (lv_at hl 0 rfl) ?_
      refine g_getsN S hI hS hzk.2.2.1.1 q1280 dX9_readCommand_3 ?_
      refine g_stl S hS hzk.2.2.1.2 dX9_readCommand_6 ?_
      refine g_ge S (a := i) (b := 10) (by omega) (by omega) (tgt := 34) dX9_readCommand_7 (by decide) (fun hc => ?_) (fun hc => ?_)
      · have hdr : (List.range 10).drop i = [] := List.drop_eq_nil_of_le (by simpa using hc)
        have hE : rdC ln bf x0 (List.range 10) fa = (f1, none) := by rw [hR, hdr]; rfl
        rw [hE] at hC
        cases (Prod.mk.inj hC).2
      · have hdr := rng_drop i hc
        refine lv_aload_n hx hb dX9_readCommand_10 rfl (lv_at hl 1 rfl) ?_
        refine g_getsN S hI hS hzk.2.2.1.1 q1280 dX9_readCommand_11 ?_
        refine lv_iload_n hx hb dX9_readCommand_14 rfl (lv_at hl 0 rfl) ?_
        refine g_sta S hS hzk.2.2.1.2 i hc (by decide) dX9_readCommand_15 ?_
        refine lv_iload_n hx hb dX9_readCommand_16 rfl (lv_at hl 2 rfl) ?_
        have hle := rdF_le (ln := ln) (bf := bf) (frm i) x0 (none, none, none)
        have hfl := frm_len i hc
        rcases hf : rdF ln bf (frm i) x0 (none, none, none) with ⟨x1, _ | t1⟩
        · rw [hf] at hle
          have hle : x1 ≤ x0 + 2 * (frm i).length := hle
          rw [hdr, rdC_no hf] at hR
          refine g_afi (g_runV S hI hP hS (k := 2) (As := [.ref (kk i), .int (nI (x0))]) (rest := []) (mX9_readForm_no l kk hzv b bf ln f1 r1 c1 n1 i x0 x1 hb1 hln hbf hc hx0 (by omega) hf) q1282 q1284 q38 q92 q1285 rfl rfl (by decide +kernel) ⟨(Nat.le_of_ble_eq_true rfl), (Nat.le_of_ble_eq_true rfl)⟩ rfl (hb1.lt 0 (by decide)) (hb1.2 0 (by decide)) rfl hl.1 rfl (Nat.le_of_ble_eq_true rfl) ⟨(Nat.le_of_ble_eq_true rfl), (Nat.le_of_ble_eq_true rfl)⟩ dX9_readCommand_17) hS (fun rz w2 H locs hq hP hS => ?_)
          obtain ⟨hrz, ⟨r2, c2, n2, hbt⟩, hf2⟩ := hq
          rw [hrz]
          have hx_a := hb2.fr hf2 (fun k hk => by show ¬ _; simp only [gIn]; omega)
          have hfr := hfr.trans hf2 (fun q hq => hq)
          refine lv_istore_n (lv' := [(3, .int ((-1))), (2, .int (nI (i))), (0, .ref (ad (b))), (1, .int (nI (x0)))]) hx hb dX9_readCommand_20 rfl hl (by decide) rfl (fun ls hl => ?_)
          refine lv_iload_n hx hb dX9_readCommand_21 rfl (lv_at hl 0 rfl) ?_
          refine lv_iconst (v := -1) hx hb dX9_readCommand_22 (by decide +kernel) ?_
          refine lv_icmp_eq (tgt := 28) hx hb dX9_readCommand_23 (by decide) (fun hc2 => ?_) (fun hc2 => ?_)
          · refine lv_iinc (v := nI (i + 1)) (lv' := [(2, .int (nI (i + 1))), (3, .int ((-1))), (0, .ref (ad (b))), (1, .int (nI (x0)))]) hx hb dX9_readCommand_28 hl (k := 1) rfl (g_inc _ 1 (by decide +kernel)) (by decide) rfl (fun ls hl => ?_)
            refine lv_goto (tgt := 2) hx hb dX9_readCommand_31 (by decide) ?_
            exact ih_cloop (i + 1) (max f1 x1) (r2) (c2) (n2) (by omega) (by omega) (by omega) (hR) _ _ _ hP hS hbt hx_a hfr ls (lv_sub hl [0, 2, 3] rfl)
          · exact absurd rfl hc2
        · rw [hdr, rdC_yes hf] at hR
          rw [hR] at hC
          obtain ⟨hC1, hC2⟩ := Prod.mk.inj hC
          obtain ⟨hC3, hC4⟩ := Prod.mk.inj (Option.some.inj hC2)
          obtain ⟨hC5, hC6⟩ := Prod.mk.inj hC4
          subst hC1
          subst hC3
          subst hC5
          subst hC6
          have hL1 := hL.fr hfr (fun p hp => by simp only [gIn] at hp; omega)
          rw [hf] at hle
          have hle : x1 ≤ x0 + 2 * (frm i).length := hle
          refine g_uafi (g_runV S hI hP hS (k := 2) (As := [.ref (kk i), .int (nI (x0))]) (rest := []) (mX9_readForm_yes l kk hzv b bf ln f1 r1 c1 n1 lo md g n pl C i x0 x1 t1 hb1 hb2 hln hbf hblo hloN hL1 hn hc hx0 hf) q1282 q1284 q38 q92 q1285 rfl rfl (by decide +kernel) ⟨(Nat.le_of_ble_eq_true rfl), (Nat.le_of_ble_eq_true rfl)⟩ rfl (hb1.lt 0 (by decide)) (hb1.2 0 (by decide)) rfl hl.1 rfl (Nat.le_of_ble_eq_true rfl) ⟨(Nat.le_of_ble_eq_true rfl), (Nat.le_of_ble_eq_true rfl)⟩ dX9_readCommand_17) hS (fun rz ad1 N1 w2 H locs hq hP hS => ?_)
          obtain ⟨hrz, hN1, hadL1, hwL1, hbt, md2, g2, pl2, hba, hL2⟩ := hq
          rw [hrz]
          have hl : lv_has ls 4 [(2, .int (nI (i))), (0, .ref (ad1 (b))), (1, .int (nI (x0)))] := by rw [hadL1 (b) (by omega)]; exact hl
          refine lv_istore_n (lv' := [(3, .int (nI (x1))), (2, .int (nI (i))), (0, .ref (ad1 (b))), (1, .int (nI (x0)))]) hx hb dX9_readCommand_20 rfl hl (by decide) rfl (fun ls hl => ?_)
          refine lv_iload_n hx hb dX9_readCommand_21 rfl (lv_at hl 0 rfl) ?_
          refine lv_iconst (v := -1) hx hb dX9_readCommand_22 (by decide +kernel) ?_
          refine lv_icmp_eq (tgt := 28) hx hb dX9_readCommand_23 (by decide) (fun hc2 => ?_) (fun hc2 => ?_)
          · exact absurd hc2 (nI_m1 (by omega))
          · refine lv_iload_n hx hb dX9_readCommand_26 rfl (lv_at hl 0 rfl) ?_
            exact g_uiret S hr hlocks hP hS (⟨rfl, hN1, hadL1, fun p h1 h2 => by rw [hwL1 p h1 h2]; exact hfr p (fun z => by simp only [gIn] at z; omega), ⟨_, _, _, hbt⟩, md2, g2, pl2, hba, hL2⟩) (Nat.le_of_ble_eq_true rfl) (Nat.le_of_ble_eq_true rfl) dX9_readCommand_27
  exact cloop (10 - (0) + 1) (0) (fa) (rw) (cl) (nm) (Nat.lt_succ_self _) (Nat.zero_le _) (hfa) (rfl) _ _ _ hP hS hb_t hb_a hfr ls (lv_sub hl [0, 1, 2] rfl)
