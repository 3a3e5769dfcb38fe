/-! CONSTANT TEXTS, ARRAY LISTS -/
abbrev Cm : Type := Nat × Option Nat × Int32
abbrev evA (ad kk : Nat → Nat) (g : Option Nat) : Nat := match g with
  | none => kk 32
  | some a => ad a
/-- a list's row and its commands: the row at a place g, if it was made; all at lo or behind -/
def lsR (E : gE) (ad : Nat → Nat) (N : Nat) (w : Nat → va_E) (lo : Nat) (g : Option Nat) (kk : Nat → Nat) (n : Nat) (pl : Nat → Nat) (C : Nat → Cm) : Prop :=
  n ≤ 10 ∧ (g = none → n = 0) ∧ (∀ a, g = some a → lo ≤ a ∧ a < N ∧ w a = rwA (E.2.1 5) 10 (fun j => if j < n then some (ad (pl j)) else none)) ∧ ∀ j, j < n → lo ≤ pl j ∧ pl j < N ∧ (∀ a, g = some a → pl j ≠ a) ∧ w (pl j) = CMC E ad (pl j) kk (C j).1 (C j).2.1 (C j).2.2 0
theorem lsR.mv {E : gE} {ad ad' : Nat → Nat} {N N' : Nat} {w w' : Nat → va_E} {lo : Nat} {g : Option Nat} {kk : Nat → Nat} {n : Nat} {pl : Nat → Nat} {C : Nat → Cm} (h : lsR E ad N w lo g kk n pl C) (hN : N ≤ N') (ha : ∀ p, p < N → ad' p = ad p) (hw : ∀ p, lo ≤ p → p < N → w' p = w p) : lsR E ad' N' w' lo g kk n pl C := by
  obtain ⟨h1, h2, h3, h4⟩ := h
  refine ⟨h1, h2, fun a e => ?_, fun j hj => ?_⟩
  · obtain ⟨b1, b2, b3⟩ := h3 a e
    refine ⟨b1, by omega, ?_⟩
    rw [hw a b1 b2, b3]
    have e1 : (fun j => if j < n then some (ad (pl j)) else none) = (fun j => if j < n then some (ad' (pl j)) else none) := by
      funext j
      by_cases q : j < n
      · rw [if_pos q, if_pos q, ha _ (h4 j q).2.1]
      · rw [if_neg q, if_neg q]
    rw [e1]
  · obtain ⟨b1, b2, b3, b4⟩ := h4 j hj
    exact ⟨b1, by omega, b3, by rw [hw _ b1 b2, b4]; rfl⟩
theorem lsR.fr {E : gE} {ad : Nat → Nat} {N : Nat} {w w' : Nat → va_E} {lo : Nat} {g : Option Nat} {kk : Nat → Nat} {n : Nat} {pl : Nat → Nat} {C : Nat → Cm} {P : Nat → Prop} (h : lsR E ad N w lo g kk n pl C) (hf : gFr P w w') (hP : ∀ p, P p → p < lo) : lsR E ad N w' lo g kk n pl C :=
  h.mv (Nat.le_refl _) (fun _ _ => rfl) (fun p h1 _ => hf p (fun q => by have := hP p q; omega))
section GROW9
variable {p : Program} {l : Launch} {e : Env} {R : Room} {s : State} {m : MethodId} {args : Array Value} {below : List Frame} {meth : Method} {c : Code} {H : Heap} {locs : List Loc} {cells slots : Nat} {Q : State → Prop}
variable {cc : ByteArray} {pc nL : Nat} {ls : Array Slot} {rest st0 : List Value} {own : String} {E : gE} {ad : Nat → Nat} {N : Nat} {w : Nat → va_E}
theorem g_alenR (S : gFix p m c cc nL s args own) (hI : gI E s s.heap) (hP : gP E ad N w H) {q0 n t0 : Nat} {cA : ClassId} {f : Nat → Option Nat} {ty : FieldType} (hq : q0 < N) (he : w q0 = rwA cA n f) (ht : (gT E)[t0]? = some (cA, ty)) (hdg : decode cc pc = .ok (.arraylength, 1))
    (kk : W p l e R s m args below meth c H locs cells slots Q (F0 m (pc + 1) ls (.int (nI n) :: rest))) : W p l e R s m args below meth c H locs cells slots Q (F0 m pc ls (.ref (ad q0) :: rest)) :=
  va_alen (D := E.1) (cl := vwCl) (tys := gT E) (ws := gl ad N w) (x := (n, .inr (.inr (.inr (.inr f))))) S.1 S.2.1 hI.1 hP.1 q0 t0 (by rw [gl_get hq, he]) ht rfl hdg kk
theorem g_acmpT (S : gFix p m c cc nL s args own) {x : Nat} {off : Int} {tgt : Nat} (hdg : decode cc pc = .ok (.if_acmp .eq off, 3)) (ht : (pc : Int) + off = (tgt : Int)) (kk : W p l e R s m args below meth c H locs cells slots Q (F0 m tgt ls rest)) : W p l e R s m args below meth c H locs cells slots Q (F0 m pc ls (.ref x :: .ref x :: rest)) :=
  lv_acmp_eq (rx := some x) (ry := some x) S.1 S.2.1 hdg ht (fun _ => kk) (fun h => absurd rfl h)
theorem g_castC (S : gFix p m c cc nL s args own) (hI : gI E s s.heap) (hP : gP E ad N w H) {C : String} {T : u_T} {n ci q0 index : Nat} {fs : List Value} (hc : vwCl[ci]? = some (C, T, n)) (q1 : Cond.classLink own index C ∈ lw_all) (hq : q0 < N) (he : w q0 = .inr (ci, fs)) (hdg : decode cc pc = .ok (.checkcast index, 3))
    (kk : W p l e R s m args below meth c H locs cells slots Q (F0 m (pc + 3) ls (.ref (ad q0) :: rest))) : W p l e R s m args below meth c H locs cells slots Q (F0 m pc ls (.ref (ad q0) :: rest)) :=
  va_castS S.1 S.2.1 S.2.2.2.1 (S.2.2.2.2 _ q1) (hI.1.1 ci _ hc).2 (va_recv hI.1 hP.1 (ci := ci) (q0 := q0) hc (by rw [gl_get hq, he])) hdg kk
end GROW9
def ALC (E : gE) (ad : Nat → Nat) (b : Nat) (md : Int32) (ev : Nat) (sz : Nat) : Nat → va_E
  | _ => .inr (4, [.int md, .ref ev, .int (nI sz)])
theorem AL_setO {E : gE} {ad : Nat → Nat} {N b : Nat} {md : Int32} {ev : Nat} {sz : Nat} {w : Nat → va_E} (h : bkP N w b 1 (ALC E ad b md ev sz)) (md' : Int32) (ev' : Nat) (sz' : Nat) : bkP N (va_up w (b) (ALC E ad b  md' ev' sz' 0)) b 1 (ALC E ad b  md' ev' sz') := (h.set 0 (by decide) _).to (fun k hk => by match k, hk with | 0, _ => rfl)
theorem AL_eq {E : gE} {ad ad' : Nat → Nat} {b : Nat} {md : Int32} {ev : Nat} {sz : Nat} {M : Nat} (hM : b + 1 ≤ M) (ha : ∀ p, p < M → ad p = ad' p) : ∀ k, k < 1 → ALC E ad b md ev sz k = ALC E ad' b md ev sz k := fun k hk => match k, hk with
  | 0, _ => rfl
theorem AL_mv {E : gE} {ad ad' : Nat → Nat} {N N' b : Nat} {md : Int32} {ev : Nat} {sz : Nat} {w w' : Nat → va_E} (h : bkP N w b 1 (ALC E ad b md ev sz)) {M : Nat} (hM : b + 1 ≤ M) (hN : M ≤ N') (ha : ∀ p, p < M → ad p = ad' p) (hw : ∀ p, b ≤ p → p < b + 1 → w' p = w p) : bkP N' w' b 1 (ALC E ad' b md ev sz) :=
  ⟨by omega, fun k hk => by rw [hw _ (by omega) (by omega), h.2 k hk]; exact AL_eq hM ha k hk⟩
set_option maxHeartbeats 4000000 in
set_option maxRecDepth 100000 in
/-- a text's coder -/
theorem mJ0_coder_7d493 (l : Launch) {E : gE} {ad : Nat → Nat} {N : Nat} {w : Nat → va_E} (kk : Nat → Nat) (hzv : gHv E kk) (a v : Nat) (tx : List Nat) (hT : ∀ (U : State) (H : Heap), E.2.2.2 U H → gStr (fun q => E.2.2.1 ≤ q) a v tx U H) (htl : tx.length < 2 ^ 31) (htc : ∀ j, tx.getD j 0 < 128) : gMi l yJ0_coder_7d493 (lw_ws yJ0_coder_7d493 cJ0_coder_7d493 1 (some .byte)) ({ frames := 0, cells := 0, slots := 0, locals := 0 } : Room) E ad N w [.ref (a)] (fun r w' => r = nI 0 ∧ w' = w) 0 0 := by
  refine Met.ofW (cc := cJ0_coder_7d493) (maxL := 1) (ret := (some .byte)) (by decide) rfl ?_
  intro p e s m args below meth cd s₁ B hml hv
  obtain ⟨rfl, hI, hP⟩ := hv
  obtain ⟨S, hr, hlocks⟩ := gPre (ws := []) B hml (C := RJ0) rfl
  have hx := S.1
  have hb := S.2.1
  have hzk := hzv s s.heap hI.2.2.2.2
  have hS : va_S (gA E) s.heap s.heap [] := va_S.rf
  have hl := lv_entry ([.ref (a)]) (n := 1) (Nat.le_of_ble_eq_true rfl)
  rw [lg_entry_eq]
  generalize (lg_sl ([.ref (a)]) ++ List.replicate (1 - (lg_sl ([.ref (a)])).length) Slot.unset).toArray = ls at hl ⊢
  have hl : lv_has ls 1 [(0, .ref (a))] := hl
  have hs := hT s s.heap hI.2.2.2.2
  refine g_gets S hS (v := .int (nI (1))) hzk.2.2.2.2.1 q1294 dJ0_coder_7d493_0 ?_
  refine g_ifeq S (a := 1) (by omega) (tgt := 13) dJ0_coder_7d493_3 (by decide) (fun hc => ?_) (fun hc => ?_)
  · omega
  · refine lv_aload_n hx hb dJ0_coder_7d493_6 rfl (lv_at hl 0 rfl) ?_
    refine g_getc S hS (v := .int (nI (0))) hs.2.1 q1635 rfl dJ0_coder_7d493_7 ?_
    refine lv_goto (tgt := 14) hx hb dJ0_coder_7d493_10 (by decide) ?_
    exact g_bret S hr hlocks (by decide +kernel) hP hS (⟨rfl, rfl⟩) (fun _ _ => rfl) (Nat.le_of_ble_eq_true rfl) (Nat.le_of_ble_eq_true rfl) dJ0_coder_7d493_14
set_option maxHeartbeats 4000000 in
set_option maxRecDepth 100000 in
/-- a text of bytes -/
theorem mJ0_isLatin1_aae02 (l : Launch) {E : gE} {ad : Nat → Nat} {N : Nat} {w : Nat → va_E} (kk : Nat → Nat) (hzv : gHv E kk) (a v : Nat) (tx : List Nat) (hT : ∀ (U : State) (H : Heap), E.2.2.2 U H → gStr (fun q => E.2.2.1 ≤ q) a v tx U H) (htl : tx.length < 2 ^ 31) (htc : ∀ j, tx.getD j 0 < 128) : gMi l yJ0_isLatin1_aae02 (lw_ws yJ0_isLatin1_aae02 cJ0_isLatin1_aae02 1 (some .boolean)) ({ frames := 0, cells := 0, slots := 0, locals := 0 } : Room) E ad N w [.ref (a)] (fun r w' => r = nI 1 ∧ w' = w) 0 0 := by
  refine Met.ofW (cc := cJ0_isLatin1_aae02) (maxL := 1) (ret := (some .boolean)) (by decide) rfl ?_
  intro p e s m args below meth cd s₁ B hml hv
  obtain ⟨rfl, hI, hP⟩ := hv
  obtain ⟨S, hr, hlocks⟩ := gPre (ws := []) B hml (C := RJ0) rfl
  have hx := S.1
  have hb := S.2.1
  have hzk := hzv s s.heap hI.2.2.2.2
  have hS : va_S (gA E) s.heap s.heap [] := va_S.rf
  have hl := lv_entry ([.ref (a)]) (n := 1) (Nat.le_of_ble_eq_true rfl)
  rw [lg_entry_eq]
  generalize (lg_sl ([.ref (a)]) ++ List.replicate (1 - (lg_sl ([.ref (a)])).length) Slot.unset).toArray = ls at hl ⊢
  have hl : lv_has ls 1 [(0, .ref (a))] := hl
  have hs := hT s s.heap hI.2.2.2.2
  refine g_gets S hS (v := .int (nI (1))) hzk.2.2.2.2.1 q1294 dJ0_isLatin1_aae02_0 ?_
  refine g_ifeq S (a := 1) (by omega) (tgt := 17) dJ0_isLatin1_aae02_3 (by decide) (fun hc => ?_) (fun hc => ?_)
  · omega
  · refine lv_aload_n hx hb dJ0_isLatin1_aae02_6 rfl (lv_at hl 0 rfl) ?_
    refine g_getc S hS (v := .int (nI (0))) hs.2.1 q1635 rfl dJ0_isLatin1_aae02_7 ?_
    refine g_ifne S (a := 0) (by omega) (tgt := 17) dJ0_isLatin1_aae02_10 (by decide) (fun hc2 => ?_) (fun hc2 => ?_)
    · omega
    · refine g_iconst S 1 dJ0_isLatin1_aae02_13 (by decide +kernel) ?_
      refine lv_goto (tgt := 18) hx hb dJ0_isLatin1_aae02_14 (by decide) ?_
      exact g_zret S hr hlocks (Or.inr (by decide +kernel)) hP hS (⟨rfl, rfl⟩) (fun _ _ => rfl) (Nat.le_of_ble_eq_true rfl) (Nat.le_of_ble_eq_true rfl) dJ0_isLatin1_aae02_18
set_option maxHeartbeats 4000000 in
set_option maxRecDepth 100000 in
/-- a text's length -/
theorem mJ0_length_8abf5 (l : Launch) {E : gE} {ad : Nat → Nat} {N : Nat} {w : Nat → va_E} (kk : Nat → Nat) (hzv : gHv E kk) (a v : Nat) (tx : List Nat) (hT : ∀ (U : State) (H : Heap), E.2.2.2 U H → gStr (fun q => E.2.2.1 ≤ q) a v tx U H) (htl : tx.length < 2 ^ 31) (htc : ∀ j, tx.getD j 0 < 128) : gMi l yJ0_length_8abf5 (lw_ws yJ0_length_8abf5 cJ0_length_8abf5 1 (some .int)) ({ frames := 1, cells := 0, slots := 0, locals := 20 } : Room) E ad N w [.ref (a)] (fun r w' => r = nI tx.length ∧ w' = w) 0 0 := by
  refine Met.ofW (cc := cJ0_length_8abf5) (maxL := 1) (ret := (some .int)) (by decide) rfl ?_
  intro p e s m args below meth cd s₁ B hml hv
  obtain ⟨rfl, hI, hP⟩ := hv
  obtain ⟨S, hr, hlocks⟩ := gPre (ws := []) B hml (C := RJ0) rfl
  have hx := S.1
  have hb := S.2.1
  have hzk := hzv s s.heap hI.2.2.2.2
  have hS : va_S (gA E) s.heap s.heap [] := va_S.rf
  have hl := lv_entry ([.ref (a)]) (n := 1) (Nat.le_of_ble_eq_true rfl)
  rw [lg_entry_eq]
  generalize (lg_sl ([.ref (a)]) ++ List.replicate (1 - (lg_sl ([.ref (a)])).length) Slot.unset).toArray = ls at hl ⊢
  have hl : lv_has ls 1 [(0, .ref (a))] := hl
  have hs := hT s s.heap hI.2.2.2.2
  refine lv_aload_n hx hb dJ0_length_8abf5_0 rfl (lv_at hl 0 rfl) ?_
  refine g_getc S hS (v := .ref (v)) hs.2.2.1 q1634 rfl dJ0_length_8abf5_1 ?_
  refine g_stl S hS hs.2.2.2 dJ0_length_8abf5_4 ?_
  refine lv_aload_n hx hb dJ0_length_8abf5_5 rfl (lv_at hl 0 rfl) ?_
  refine g_roi (g_runC S hI hP hS (k := 0) (q := a) (As := []) (rest := [.int (nI (tx.length))]) hs.1 (mJ0_coder_7d493 l kk hzv a v tx hT htl htc) q1290 q1291 q1292 q98 q1293 rfl rfl (by decide +kernel) ⟨(Nat.le_of_ble_eq_true rfl), (Nat.le_of_ble_eq_true rfl)⟩ rfl hl.1 rfl (Nat.le_of_ble_eq_true rfl) ⟨(Nat.le_of_ble_eq_true rfl), (Nat.le_of_ble_eq_true rfl)⟩ dJ0_length_8abf5_6) hS (fun H locs hP hS => ?_)
  refine lv_ishr hx hb dJ0_length_8abf5_9 ?_
  rw [nI_shr0]
  exact g_iret S hr hlocks hP hS (⟨rfl, rfl⟩) (fun _ _ => rfl) (Nat.le_of_ble_eq_true rfl) (Nat.le_of_ble_eq_true rfl) dJ0_length_8abf5_10
set_option maxHeartbeats 4000000 in
set_option maxRecDepth 100000 in
/-- an index within its range -/
theorem mJ3_checkIndexN (l : Launch) {E : gE} {ad : Nat → Nat} {N : Nat} {w : Nat → va_E} (i n : Nat) (hin : i < n) (hn : n < 2 ^ 31) : gMi l yJ3_checkIndex_8e157 (lw_ws yJ3_checkIndex_8e157 cJ3_checkIndex_8e157 3 (some .int)) ({ frames := 0, cells := 0, slots := 0, locals := 0 } : Room) E ad N w [.int (nI (i)), .int (nI (n)), .null] (fun r w' => r = nI i ∧ w' = w) 0 0 := by
  refine Met.ofW (cc := cJ3_checkIndex_8e157) (maxL := 3) (ret := (some .int)) (by decide) rfl ?_
  intro p e s m args below meth cd s₁ B hml hv
  obtain ⟨rfl, hI, hP⟩ := hv
  obtain ⟨S, hr, hlocks⟩ := gPre (ws := []) B hml (C := RJ3) rfl
  have hx := S.1
  have hb := S.2.1
  have hS : va_S (gA E) s.heap s.heap [] := va_S.rf
  have hl := lv_entry ([.int (nI (i)), .int (nI (n)), .null]) (n := 3) (Nat.le_of_ble_eq_true rfl)
  rw [lg_entry_eq]
  generalize (lg_sl ([.int (nI (i)), .int (nI (n)), .null]) ++ List.replicate (3 - (lg_sl ([.int (nI (i)), .int (nI (n)), .null])).length) Slot.unset).toArray = ls at hl ⊢
  have hl : lv_has ls 3 [(0, .int (nI (i))), (1, .int (nI (n))), (2, .null)] := hl
  refine lv_iload_n hx hb dJ3_checkIndex_8e157_0 rfl (lv_at hl 0 rfl) ?_
  refine g_iflt S (a := i) (by omega) (tgt := 9) dJ3_checkIndex_8e157_1 (by decide) ?_
  refine lv_iload_n hx hb dJ3_checkIndex_8e157_4 rfl (lv_at hl 0 rfl) ?_
  refine lv_iload_n hx hb dJ3_checkIndex_8e157_5 rfl (lv_at hl 1 rfl) ?_
  refine g_lt S (a := i) (b := n) (by omega) (by omega) (tgt := 16) dJ3_checkIndex_8e157_6 (by decide) (fun hc => ?_) (fun hc => ?_)
  · refine lv_iload_n hx hb dJ3_checkIndex_8e157_16 rfl (lv_at hl 0 rfl) ?_
    exact g_iret S hr hlocks hP hS (⟨rfl, rfl⟩) (fun _ _ => rfl) (Nat.le_of_ble_eq_true rfl) (Nat.le_of_ble_eq_true rfl) dJ3_checkIndex_8e157_17
  · omega
set_option maxHeartbeats 4000000 in
set_option maxRecDepth 100000 in
/-- an index within its range -/
theorem mJ3_checkIndexR (l : Launch) {E : gE} {ad : Nat → Nat} {N : Nat} {w : Nat → va_E} (i n : Nat) (o : Nat) (hin : i < n) (hn : n < 2 ^ 31) : gMi l yJ3_checkIndex_8e157 (lw_ws yJ3_checkIndex_8e157 cJ3_checkIndex_8e157 3 (some .int)) ({ frames := 0, cells := 0, slots := 0, locals := 0 } : Room) E ad N w [.int (nI (i)), .int (nI (n)), .ref (o)] (fun r w' => r = nI i ∧ w' = w) 0 0 := by
  refine Met.ofW (cc := cJ3_checkIndex_8e157) (maxL := 3) (ret := (some .int)) (by decide) rfl ?_
  intro p e s m args below meth cd s₁ B hml hv
  obtain ⟨rfl, hI, hP⟩ := hv
  obtain ⟨S, hr, hlocks⟩ := gPre (ws := []) B hml (C := RJ3) rfl
  have hx := S.1
  have hb := S.2.1
  have hS : va_S (gA E) s.heap s.heap [] := va_S.rf
  have hl := lv_entry ([.int (nI (i)), .int (nI (n)), .ref (o)]) (n := 3) (Nat.le_of_ble_eq_true rfl)
  rw [lg_entry_eq]
  generalize (lg_sl ([.int (nI (i)), .int (nI (n)), .ref (o)]) ++ List.replicate (3 - (lg_sl ([.int (nI (i)), .int (nI (n)), .ref (o)])).length) Slot.unset).toArray = ls at hl ⊢
  have hl : lv_has ls 3 [(0, .int (nI (i))), (1, .int (nI (n))), (2, .ref (o))] := hl
  refine lv_iload_n hx hb dJ3_checkIndex_8e157_0 rfl (lv_at hl 0 rfl) ?_
  refine g_iflt S (a := i) (by omega) (tgt := 9) dJ3_checkIndex_8e157_1 (by decide) ?_
  refine lv_iload_n hx hb dJ3_checkIndex_8e157_4 rfl (lv_at hl 0 rfl) ?_
  refine lv_iload_n hx hb dJ3_checkIndex_8e157_5 rfl (lv_at hl 1 rfl) ?_
  refine g_lt S (a := i) (b := n) (by omega) (by omega) (tgt := 16) dJ3_checkIndex_8e157_6 (by decide) (fun hc => ?_) (fun hc => ?_)
  · refine lv_iload_n hx hb dJ3_checkIndex_8e157_16 rfl (lv_at hl 0 rfl) ?_
    exact g_iret S hr hlocks hP hS (⟨rfl, rfl⟩) (fun _ _ => rfl) (Nat.le_of_ble_eq_true rfl) (Nat.le_of_ble_eq_true rfl) dJ3_checkIndex_8e157_17
  · omega
set_option maxHeartbeats 4000000 in
set_option maxRecDepth 100000 in
/-- an index within its range -/
theorem mJ15_checkIndex_7cf53 (l : Launch) {E : gE} {ad : Nat → Nat} {N : Nat} {w : Nat → va_E} (i n : Nat) (hin : i < n) (hn : n < 2 ^ 31) : gMi l yJ15_checkIndex_7cf53 (lw_ws yJ15_checkIndex_7cf53 cJ15_checkIndex_7cf53 2 (some .int)) ({ frames := 1, cells := 0, slots := 0, locals := 22 } : Room) E ad N w [.int (nI (i)), .int (nI (n))] (fun r w' => r = nI i ∧ w' = w) 0 0 := by
  refine Met.ofW (cc := cJ15_checkIndex_7cf53) (maxL := 2) (ret := (some .int)) (by decide) rfl ?_
  intro p e s m args below meth cd s₁ B hml hv
  obtain ⟨rfl, hI, hP⟩ := hv
  obtain ⟨S, hr, hlocks⟩ := gPre (ws := []) B hml (C := RJ15) rfl
  have hx := S.1
  have hb := S.2.1
  have hS : va_S (gA E) s.heap s.heap [] := va_S.rf
  have hl := lv_entry ([.int (nI (i)), .int (nI (n))]) (n := 2) (Nat.le_of_ble_eq_true rfl)
  rw [lg_entry_eq]
  generalize (lg_sl ([.int (nI (i)), .int (nI (n))]) ++ List.replicate (2 - (lg_sl ([.int (nI (i)), .int (nI (n))])).length) Slot.unset).toArray = ls at hl ⊢
  have hl : lv_has ls 2 [(0, .int (nI (i))), (1, .int (nI (n)))] := hl
  refine lv_iload_n hx hb dJ15_checkIndex_7cf53_0 rfl (lv_at hl 0 rfl) ?_
  refine lv_iload_n hx hb dJ15_checkIndex_7cf53_1 rfl (lv_at hl 1 rfl) ?_
  refine lv_null hx hb dJ15_checkIndex_7cf53_2 ?_
  refine g_roi (g_runSX S hI hP hS (k := 3) (As := [.int (nI (i)), .int (nI (n)), .null]) (rest := []) (mJ3_checkIndexN l i n hin hn) q1433 q1312 q116 q1313 rfl rfl (by decide +kernel) ⟨Nat.le_of_ble_eq_true rfl, Nat.le_of_ble_eq_true rfl⟩ rfl hl.1 rfl (Nat.le_of_ble_eq_true rfl) ⟨(Nat.le_of_ble_eq_true rfl), (Nat.le_of_ble_eq_true rfl)⟩ dJ15_checkIndex_7cf53_3) hS (fun H locs hP hS => ?_)
  exact g_iret S hr hlocks hP hS (⟨rfl, rfl⟩) (fun _ _ => rfl) (Nat.le_of_ble_eq_true rfl) (Nat.le_of_ble_eq_true rfl) dJ15_checkIndex_7cf53_6
set_option maxHeartbeats 4000000 in
set_option maxRecDepth 100000 in
/-- an index within its range -/
theorem mJ0_checkIndex_df160 (l : Launch) {E : gE} {ad : Nat → Nat} {N : Nat} {w : Nat → va_E} (kk : Nat → Nat) (hzv : gHv E kk) (i n : Nat) (hin : i < n) (hn : n < 2 ^ 31) : gMv l yJ0_checkIndex_df160 (lw_ws yJ0_checkIndex_df160 cJ0_checkIndex_df160 2 none) ({ frames := 1, cells := 0, slots := 0, locals := 22 } : Room) E ad N w [.int (nI (i)), .int (nI (n))] (fun w' => w' = w) 0 0 := by
  refine Met.ofW (cc := cJ0_checkIndex_df160) (maxL := 2) (ret := none) (by decide) rfl ?_
  intro p e s m args below meth cd s₁ B hml hv
  obtain ⟨rfl, hI, hP⟩ := hv
  obtain ⟨S, hr, hlocks⟩ := gPre (ws := []) B hml (C := RJ0) rfl
  have hx := S.1
  have hb := S.2.1
  have hzk := hzv s s.heap hI.2.2.2.2
  have hS : va_S (gA E) s.heap s.heap [] := va_S.rf
  have hl := lv_entry ([.int (nI (i)), .int (nI (n))]) (n := 2) (Nat.le_of_ble_eq_true rfl)
  rw [lg_entry_eq]
  generalize (lg_sl ([.int (nI (i)), .int (nI (n))]) ++ List.replicate (2 - (lg_sl ([.int (nI (i)), .int (nI (n))])).length) Slot.unset).toArray = ls at hl ⊢
  have hl : lv_has ls 2 [(0, .int (nI (i))), (1, .int (nI (n)))] := hl
  refine lv_iload_n hx hb dJ0_checkIndex_df160_0 rfl (lv_at hl 0 rfl) ?_
  refine lv_iload_n hx hb dJ0_checkIndex_df160_1 rfl (lv_at hl 1 rfl) ?_
  rcases hzk.2.2.2.2.2.2.2.2.1 with h9 | ⟨o, h9⟩
  · refine g_gets S hS (v := .null) h9 q1309 dJ0_checkIndex_df160_2 ?_
    refine g_roi (g_runSX S hI hP hS (k := 3) (As := [.int (nI (i)), .int (nI (n)), .null]) (rest := []) (mJ3_checkIndexN l i n hin hn) q1311 q1312 q116 q1313 rfl rfl (by decide +kernel) ⟨Nat.le_of_ble_eq_true rfl, Nat.le_of_ble_eq_true rfl⟩ rfl hl.1 rfl (Nat.le_of_ble_eq_true rfl) ⟨(Nat.le_of_ble_eq_true rfl), (Nat.le_of_ble_eq_true rfl)⟩ dJ0_checkIndex_df160_5) hS (fun H locs hP hS => ?_)
    refine lv_pop hx hb dJ0_checkIndex_df160_8 rfl ?_
    exact g_vret S hr hlocks hP hS (by exact rfl) (fun _ _ => rfl) (Nat.le_of_ble_eq_true rfl) (Nat.le_of_ble_eq_true rfl) dJ0_checkIndex_df160_9
  · refine g_gets S hS (v := .ref (o)) h9 q1309 dJ0_checkIndex_df160_2 ?_
    refine g_roi (g_runSX S hI hP hS (k := 3) (As := [.int (nI (i)), .int (nI (n)), .ref (o)]) (rest := []) (mJ3_checkIndexR l i n o hin hn) q1311 q1312 q116 q1313 rfl rfl (by decide +kernel) ⟨Nat.le_of_ble_eq_true rfl, Nat.le_of_ble_eq_true rfl⟩ rfl hl.1 rfl (Nat.le_of_ble_eq_true rfl) ⟨(Nat.le_of_ble_eq_true rfl), (Nat.le_of_ble_eq_true rfl)⟩ dJ0_checkIndex_df160_5) hS (fun H locs hP hS => ?_)
    refine lv_pop hx hb dJ0_checkIndex_df160_8 rfl ?_
    exact g_vret S hr hlocks hP hS (by exact rfl) (fun _ _ => rfl) (Nat.le_of_ble_eq_true rfl) (Nat.le_of_ble_eq_true rfl) dJ0_checkIndex_df160_9
set_option maxHeartbeats 4000000 in
set_option maxRecDepth 100000 in
/-- a byte's sign -/
theorem mJ1_charAt_3b067 (l : Launch) {E : gE} {ad : Nat → Nat} {N : Nat} {w : Nat → va_E} (kk : Nat → Nat) (hzv : gHv E kk) (a v : Nat) (tx : List Nat) (i : Nat) (hT : ∀ (U : State) (H : Heap), E.2.2.2 U H → gStr (fun q => E.2.2.1 ≤ q) a v tx U H) (htl : tx.length < 2 ^ 31) (htc : ∀ j, tx.getD j 0 < 128) (hi : i < tx.length) : gMi l yJ1_charAt_3b067 (lw_ws yJ1_charAt_3b067 cJ1_charAt_3b067 2 (some .char)) ({ frames := 2, cells := 0, slots := 0, locals := 43 } : Room) E ad N w [.ref (v), .int (nI (i))] (fun r w' => r = nI (tx.getD i 0) ∧ w' = w) 0 0 := by
  refine Met.ofW (cc := cJ1_charAt_3b067) (maxL := 2) (ret := (some .char)) (by decide) rfl ?_
  intro p e s m args below meth cd s₁ B hml hv
  obtain ⟨rfl, hI, hP⟩ := hv
  obtain ⟨S, hr, hlocks⟩ := gPre (ws := []) B hml (C := RJ1) rfl
  have hx := S.1
  have hb := S.2.1
  have hzk := hzv s s.heap hI.2.2.2.2
  have hS : va_S (gA E) s.heap s.heap [] := va_S.rf
  have hl := lv_entry ([.ref (v), .int (nI (i))]) (n := 2) (Nat.le_of_ble_eq_true rfl)
  rw [lg_entry_eq]
  generalize (lg_sl ([.ref (v), .int (nI (i))]) ++ List.replicate (2 - (lg_sl ([.ref (v), .int (nI (i))])).length) Slot.unset).toArray = ls at hl ⊢
  have hl : lv_has ls 2 [(0, .ref (v)), (1, .int (nI (i)))] := hl
  have hs := hT s s.heap hI.2.2.2.2
  refine lv_iload_n hx hb dJ1_charAt_3b067_0 rfl (lv_at hl 1 rfl) ?_
  refine lv_aload_n hx hb dJ1_charAt_3b067_1 rfl (lv_at hl 0 rfl) ?_
  refine g_stl S hS hs.2.2.2 dJ1_charAt_3b067_2 ?_
  refine g_afv (g_runSX S hI hP hS (k := 2) (As := [.int (nI (i)), .int (nI (tx.length))]) (rest := []) (mJ0_checkIndex_df160 l kk hzv i tx.length hi htl) q1306 q1307 q98 q1308 rfl rfl (by decide +kernel) ⟨Nat.le_of_ble_eq_true rfl, Nat.le_of_ble_eq_true rfl⟩ rfl hl.1 rfl (Nat.le_of_ble_eq_true rfl) ⟨(Nat.le_of_ble_eq_true rfl), (Nat.le_of_ble_eq_true rfl)⟩ dJ1_charAt_3b067_3) hS (fun w1 H locs hq hP hS => ?_)
  obtain hq := hq
  rw [hq] at hP
  refine lv_aload_n hx hb dJ1_charAt_3b067_6 rfl (lv_at hl 0 rfl) ?_
  refine lv_iload_n hx hb dJ1_charAt_3b067_7 rfl (lv_at hl 1 rfl) ?_
  refine g_stb S hS hs.2.2.2 i hi htl dJ1_charAt_3b067_8 ?_
  have hb_i := htc i
  refine g_sipush S 255 dJ1_charAt_3b067_9 (by decide +kernel) ?_
  refine lv_iand hx hb dJ1_charAt_3b067_12 ?_
  rw [nI_and255 _ (by omega)]
  refine lv_i2c hx hb dJ1_charAt_3b067_13 (nI_i2c (by omega)) ?_
  exact g_cret S hr hlocks (⟨_, by omega, rfl⟩) hP hS (⟨rfl, rfl⟩) (fun _ _ => rfl) (Nat.le_of_ble_eq_true rfl) (Nat.le_of_ble_eq_true rfl) dJ1_charAt_3b067_14
set_option maxHeartbeats 4000000 in
set_option maxRecDepth 100000 in
/-- a text's sign -/
theorem mJ0_charAt_5068e (l : Launch) {E : gE} {ad : Nat → Nat} {N : Nat} {w : Nat → va_E} (kk : Nat → Nat) (hzv : gHv E kk) (a v : Nat) (tx : List Nat) (i : Nat) (hT : ∀ (U : State) (H : Heap), E.2.2.2 U H → gStr (fun q => E.2.2.1 ≤ q) a v tx U H) (htl : tx.length < 2 ^ 31) (htc : ∀ j, tx.getD j 0 < 128) (hi : i < tx.length) : gMi l yJ0_charAt_5068e (lw_ws yJ0_charAt_5068e cJ0_charAt_5068e 2 (some .char)) ({ frames := 3, cells := 0, slots := 0, locals := 64 } : Room) E ad N w [.ref (a), .int (nI (i))] (fun r w' => r = nI (tx.getD i 0) ∧ w' = w) 0 0 := by
  refine Met.ofW (cc := cJ0_charAt_5068e) (maxL := 2) (ret := (some .char)) (by decide) rfl ?_
  intro p e s m args below meth cd s₁ B hml hv
  obtain ⟨rfl, hI, hP⟩ := hv
  obtain ⟨S, hr, hlocks⟩ := gPre (ws := []) B hml (C := RJ0) rfl
  have hx := S.1
  have hb := S.2.1
  have hzk := hzv s s.heap hI.2.2.2.2
  have hS : va_S (gA E) s.heap s.heap [] := va_S.rf
  have hl := lv_entry ([.ref (a), .int (nI (i))]) (n := 2) (Nat.le_of_ble_eq_true rfl)
  rw [lg_entry_eq]
  generalize (lg_sl ([.ref (a), .int (nI (i))]) ++ List.replicate (2 - (lg_sl ([.ref (a), .int (nI (i))])).length) Slot.unset).toArray = ls at hl ⊢
  have hl : lv_has ls 2 [(0, .ref (a)), (1, .int (nI (i)))] := hl
  have hs := hT s s.heap hI.2.2.2.2
  refine lv_aload_n hx hb dJ0_charAt_5068e_0 rfl (lv_at hl 0 rfl) ?_
  refine g_roi (g_runC S hI hP hS (k := 0) (q := a) (As := []) (rest := []) hs.1 (mJ0_isLatin1_aae02 l kk hzv a v tx hT htl htc) q1299 q1300 q1301 q98 q1302 rfl rfl (by decide +kernel) ⟨(Nat.le_of_ble_eq_true rfl), (Nat.le_of_ble_eq_true rfl)⟩ rfl hl.1 rfl (Nat.le_of_ble_eq_true rfl) ⟨(Nat.le_of_ble_eq_true rfl), (Nat.le_of_ble_eq_true rfl)⟩ dJ0_charAt_5068e_1) hS (fun H locs hP hS => ?_)
  refine g_ifeq S (a := 1) (by omega) (tgt := 16) dJ0_charAt_5068e_4 (by decide) (fun hc => ?_) (fun hc => ?_)
  · omega
  · refine lv_aload_n hx hb dJ0_charAt_5068e_7 rfl (lv_at hl 0 rfl) ?_
    refine g_getc S hS (v := .ref (v)) hs.2.2.1 q1634 rfl dJ0_charAt_5068e_8 ?_
    refine lv_iload_n hx hb dJ0_charAt_5068e_11 rfl (lv_at hl 1 rfl) ?_
    refine g_roi (g_runSX S hI hP hS (k := 2) (As := [.ref (v), .int (nI (i))]) (rest := []) (mJ1_charAt_3b067 l kk hzv a v tx i hT htl htc hi) q1303 q1304 q115 q1305 rfl rfl (by decide +kernel) ⟨Nat.le_of_ble_eq_true rfl, Nat.le_of_ble_eq_true rfl⟩ rfl hl.1 rfl (Nat.le_of_ble_eq_true rfl) ⟨(Nat.le_of_ble_eq_true rfl), (Nat.le_of_ble_eq_true rfl)⟩ dJ0_charAt_5068e_12) hS (fun H locs hP hS => ?_)
    have hb_i := htc i
    exact g_cret S hr hlocks (⟨_, by omega, rfl⟩) hP hS (⟨rfl, rfl⟩) (fun _ _ => rfl) (Nat.le_of_ble_eq_true rfl) (Nat.le_of_ble_eq_true rfl) dJ0_charAt_5068e_15
