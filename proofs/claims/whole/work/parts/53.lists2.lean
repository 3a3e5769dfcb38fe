section GROW10
variable {p : Program} {l : Launch} {e : Env} {R : Room} {s : State} {m : MethodId} {args : Array Value} {below : List Frame} {meth : Method} {c : Code} {H : Heap} {locs : List Loc} {cells slots : Nat} {Q : State → Prop}
variable {cc : ByteArray} {pc nL : Nat} {ls : Array Slot} {rest st0 : List Value} {own : String} {E : gE} {ad : Nat → Nat} {N : Nat} {w : Nat → va_E}
theorem g_getS (S : gFix p m c cc nL s args own) (hI : gI E s s.heap) (hP : gP E ad N w H) {ref C : String} {T : u_T} {n ci index q0 : Nat} (hin : ∀ w ∈ u_ws C T n, w ∈ lw_all) (hc : vwCl[ci]? = some (C, T, n)) {fs : List Value} (hq : q0 < N) (he : w q0 = .inr (ci, fs)) (k : Nat) (hk : k < n) (hlink : Cond.fieldLink own index ref (T k).2.1 (T k).2.2.1 ∈ lw_all) (hsf : Cond.sameField ref (T k).1 (T k).2.1 (T k).2.2.1 ∈ lw_all) {v : Value} (hv : fs[k]? = some v) (hdg : decode cc pc = .ok (.getfield index, 3))
    (kk : W p l e R s m args below meth c H locs cells slots Q (F0 m (pc + 3) ls (v :: rest))) : W p l e R s m args below meth c H locs cells slots Q (F0 m pc ls (.ref (ad q0) :: rest)) := by
  refine va_get (D := E.1) (cl := vwCl) (tys := gT E) (ws := gl ad N w) S.1 S.2.1 S.2.2.2.2 hin S.2.2.2.1 hI.1 hP.1 q0 (by rw [gl_get hq, he]) hc k hk (S.2.2.2.2 _ hlink) (fun x h => u_same (S.2.2.2.2 _ hsf) x h) hv hdg kk
theorem g_putS (S : gFix p m c cc nL s args own) (hI : gI E s s.heap) (hP : gP E ad N w H) (hS : va_S (gA E) s.heap H locs) {ref C : String} {T : u_T} {n ci index q0 : Nat} (hin : ∀ w ∈ u_ws C T n, w ∈ lw_all) (hc : vwCl[ci]? = some (C, T, n)) (ty0 : Nat → FieldType) (hty : ∀ k, k < n → parseFieldDescriptor (T k).2.2.1 = some (ty0 k)) (hnm : ∀ a, a < n → ∀ b, b < n → a ≠ b → (T a).2.1 ≠ (T b).2.1) {fs : List Value} (hq : q0 < N) (he : w q0 = .inr (ci, fs)) (k : Nat) (hk : k < n) (hlink : Cond.fieldLink own index ref (T k).2.1 (T k).2.2.1 ∈ lw_all) (hsf : Cond.sameField ref (T k).1 (T k).2.1 (T k).2.2.1 ∈ lw_all) (hfin : (T k).2.2.2 = false) {v : Value} (hn : narrow (ty0 k) v = v) (hfit : fits (ty0 k) v = true) (hl : k < fs.length)
    (hdg : decode cc pc = .ok (.putfield index, 3)) (kk : ∀ (H1 : Heap) (locs1 : List Loc), gP E ad N (va_up w q0 (.inr (ci, fs.set k v))) H1 → va_S (gA E) s.heap H1 locs1 → W p l e R s m args below meth c H1 locs1 cells slots Q (F0 m (pc + 3) ls rest)) : W p l e R s m args below meth c H locs cells slots Q (F0 m pc ls (v :: .ref (ad q0) :: rest)) := by
  refine va_put (D := E.1) (cl := vwCl) (tys := gT E) (ws := gl ad N w) (A := gA E) S.1 S.2.1 S.2.2.2.2 hin ty0 hty hnm S.2.2.2.1 hI.1 hP.1 hP.2 hS q0 (by rw [gl_get hq, he]) hc k hk (S.2.2.2.2 _ hlink) (fun x h => u_same (S.2.2.2.2 _ hsf) x h) hfin (hty k hk) hn hfit hl hdg (fun H1 locs1 a b c => ?_)
  rw [gl_set hq] at a b
  exact kk H1 locs1 ⟨a, b⟩ c
end GROW10
theorem lsR.push {E : gE} {ad ad' : Nat → Nat} {N N' : Nat} {w w' : Nat → va_E} {lo : Nat} {g : Option Nat} {kk : Nat → Nat} {n : Nat} {pl : Nat → Nat} {C : Nat → Cm} {c a vb : Nat} {o : Option Nat} {v : Int32} (h : lsR E ad N w lo g kk n pl C) (hn : n < 10) (hlc : lo ≤ c) (hcN : c < N') (hN : N ≤ N') (ha : ∀ p, p < N → ad' p = ad p) (hga : g = some a ∨ (g = none ∧ N ≤ a)) (hla : lo ≤ a) (haN : a < N') (hca : c ≠ a) (hrow : w' a = rwA (E.2.1 5) 10 (fun j => if j < n + 1 then some (ad' (va_up pl n c j)) else none)) (hcw : w' c = CMC E ad' c kk vb o v 0) (hw : ∀ p, lo ≤ p → p < N → p ≠ a → w' p = w p) : lsR E ad' N' w' lo (some a) kk (n + 1) (va_up pl n c) (va_up C n (vb, o, v)) := by
  obtain ⟨h1, h2, h3, h4⟩ := h
  refine ⟨by omega, fun q => (by cases q), fun b e => ?_, fun j hj => ?_⟩
  · cases e
    exact ⟨hla, haN, hrow⟩
  · by_cases q : j = n
    · subst q
      rw [va_up_self, va_up_self]
      exact ⟨hlc, hcN, fun b e => by cases e; exact hca, hcw⟩
    · rw [va_up_ne _ _ q, va_up_ne _ _ q]
      obtain ⟨b1, b2, b3, b4⟩ := h4 j (by omega)
      have hpa : pl j ≠ a := by
        rcases hga with e | ⟨-, e⟩
        · exact b3 a e
        · omega
      exact ⟨b1, by omega, fun b e => by cases e; exact hpa, by rw [hw _ b1 b2 hpa, b4]; rfl⟩
theorem lsF_push {ad pl : Nat → Nat} {n c : Nat} : va_up (fun j => if j < n then some (ad (pl j)) else none) n (some (ad c)) = fun j => if j < n + 1 then some (ad (va_up pl n c j)) else none := by
  funext j
  by_cases h : j = n
  · subst h
    rw [va_up_self, if_pos (Nat.lt_succ_self _), va_up_self]
  · rw [va_up_ne _ _ h, va_up_ne _ _ h]
    by_cases q : j < n
    · rw [if_pos q, if_pos (by omega)]
    · rw [if_neg q, if_neg (by omega)]
theorem lsF_one {ad pl : Nat → Nat} {c : Nat} : va_up (fun _ => none) 0 (some (ad c)) = fun j => if j < 0 + 1 then some (ad (va_up pl 0 c j)) else none := by
  rw [← lsF_push]
  funext j
  by_cases h : j = 0
  · subst h; rw [va_up_self, va_up_self]
  · rw [va_up_ne _ _ h, va_up_ne _ _ h, if_neg (Nat.not_lt_zero _)]
theorem lsF_cut {ad pl : Nat → Nat} {i n : Nat} : va_up (fun j => if i ≤ j ∧ j < n then some (ad (pl j)) else none) i none = fun j => if i + 1 ≤ j ∧ j < n then some (ad (pl j)) else none := by
  funext j
  by_cases h : j = i
  · subst h
    rw [va_up_self, if_neg (by omega)]
  · rw [va_up_ne _ _ h]
    by_cases q : i ≤ j ∧ j < n
    · rw [if_pos q, if_pos (by omega)]
    · rw [if_neg q, if_neg (by omega)]
theorem lsF_end {ad pl : Nat → Nat} {i n : Nat} (h : n ≤ i) : (fun j => if i ≤ j ∧ j < n then some (ad (pl j)) else none) = fun j => if j < 0 then some (ad (pl j)) else none := by
  funext j
  rw [if_neg (by omega), if_neg (by omega)]
theorem lsF_beg {ad pl : Nat → Nat} {n : Nat} : (fun j => if j < n then some (ad (pl j)) else none) = fun j => if 0 ≤ j ∧ j < n then some (ad (pl j)) else none := by
  funext j
  by_cases q : j < n
  · rw [if_pos q, if_pos ⟨Nat.zero_le _, q⟩]
  · rw [if_neg q, if_neg (fun z => q z.2)]
set_option maxHeartbeats 4000000 in
set_option maxRecDepth 100000 in
/-- one more -/
theorem mJx4a65c_add_9ea2d (l : Launch) {E : gE} {ad : Nat → Nat} {N : Nat} {w : Nat → va_E} (kk : Nat → Nat) (hzv : gHv E kk) (q lo : Nat) (md : Int32) (g : Option Nat) (n : Nat) (pl : Nat → Nat) (C : Nat → Cm) (c vb : Nat) (o : Option Nat) (v : Int32) (hb_a : bkP N w q 1 (ALC E ad q md (evA ad kk g) n)) (hqlo : q < lo) (hL : lsR E ad N w lo g kk n pl C) (hn : n < 10) (hlc : lo ≤ c) (hcg : ∀ a, g = some a → c ≠ a) (hcN : c < N) (hcw : w c = CMC E ad c kk vb o v 0) : gUi l yJx4a65c_add_9ea2d (lw_ws yJx4a65c_add_9ea2d cJx4a65c_add_9ea2d 2 (some .boolean)) ({ frames := 4, cells := 1, slots := 10, locals := 87 } : Room) E ad N w [.ref (ad (q)), .ref (ad (c))] (fun r ad' N' w' => r = nI 1 ∧ N ≤ N' ∧ (∀ p, p < N → ad' p = ad p) ∧ (∀ p, p < lo → p ≠ q → w' p = w p) ∧ ∃ md' g', bkP N' w' q 1 (ALC E ad' q md' (evA ad' kk g') (n + 1)) ∧ lsR E ad' N' w' lo g' kk (n + 1) (va_up pl n c) (va_up C n (vb, o, v))) 1 10 := by
  refine Met.ofW (cc := cJx4a65c_add_9ea2d) (maxL := 2) (ret := (some .boolean)) (by decide) rfl ?_
  intro p e s m args below meth cd s₁ B hml hv
  obtain ⟨rfl, hI, hP⟩ := hv
  obtain ⟨S, hr, hlocks⟩ := gPre (ws := []) B hml (C := RJx4a65c) rfl
  have hx := S.1
  have hb := S.2.1
  have hzk := hzv s s.heap hI.2.2.2.2
  have hS : va_S (gA E) s.heap s.heap [] := va_S.rf
  have hl := lv_entry ([.ref (ad (q)), .ref (ad (c))]) (n := 2) (Nat.le_of_ble_eq_true rfl)
  rw [lg_entry_eq]
  generalize (lg_sl ([.ref (ad (q)), .ref (ad (c))]) ++ List.replicate (2 - (lg_sl ([.ref (ad (q)), .ref (ad (c))])).length) Slot.unset).toArray = ls at hl ⊢
  have hl : lv_has ls 2 [(0, .ref (ad (q))), (1, .ref (ad (c)))] := hl
  rcases g with _ | a
  · have hn0 := hL.2.1 rfl
    subst hn0
    have hb_a : bkP N w q 1 (ALC E ad q md (kk 32) 0) := hb_a
    refine lv_aload_n hx hb dJx4a65c_add_9ea2d_0 rfl (lv_at hl 0 rfl) ?_
    refine lv_dup hx hb dJx4a65c_add_9ea2d_1 rfl ?_
    refine g_getS S hI hP uJx4a65c rfl (fs := _) (hb_a.lt 0 (by decide)) (hb_a.2 0 (by decide)) 0 (by decide) q335 q336 (v := .int (md)) rfl dJx4a65c_add_9ea2d_2 ?_
    refine g_iconst S 1 dJx4a65c_add_9ea2d_5 (by decide +kernel) ?_
    refine lv_iadd hx hb dJx4a65c_add_9ea2d_6 ?_
    refine g_putS S hI hP hS uJx4a65c rfl tyJx4a65c tyJx4a65c_ok nmJx4a65c (fs := _) (hb_a.lt 0 (by decide)) (hb_a.2 0 (by decide)) 0 (by decide) q335 q336 rfl (v := .int (md + nI (1))) rfl rfl (Nat.le_of_ble_eq_true rfl) dJx4a65c_add_9ea2d_7 (fun H locs hP hS => ?_)
    have hP : gP E ad N (va_up _ (q) (ALC E ad q (md + nI (1)) (kk 32) 0 0)) H := hP
    have hb1 : bkP N (va_up _ (q) (ALC E ad q (md + nI (1)) (kk 32) 0 0)) q 1 (ALC E ad q (md + nI (1)) (kk 32) 0) := AL_setO hb_a _ _ _
    have hcw1 := (va_up_ne w (ALC E ad q (md + nI (1)) (kk 32) 0 0) (show c ≠ q by omega)).trans hcw
    refine lv_aload_n hx hb dJx4a65c_add_9ea2d_10 rfl (lv_at hl 0 rfl) ?_
    refine lv_aload_n hx hb dJx4a65c_add_9ea2d_11 rfl (lv_at hl 1 rfl) ?_
    refine lv_aload_n hx hb dJx4a65c_add_9ea2d_12 rfl (lv_at hl 0 rfl) ?_
    refine g_get S hI hP uJx4a65c rfl (fs := _) (hb1.lt 0 (by decide)) (hb1.2 0 (by decide)) 1 (by decide) q332 rfl (v := .ref ((kk 32))) rfl dJx4a65c_add_9ea2d_13 ?_
    refine lv_aload_n hx hb dJx4a65c_add_9ea2d_16 rfl (lv_at hl 0 rfl) ?_
    refine g_get S hI hP uJx4a65c rfl (fs := _) (hb1.lt 0 (by decide)) (hb1.2 0 (by decide)) 2 (by decide) q333 rfl (v := .int (nI (0))) rfl dJx4a65c_add_9ea2d_17 ?_
    refine g_uafv (g_runV S hI hP hS (k := 3) (As := [.ref (ad (c)), .ref ((kk 32)), .int (nI (0))]) (rest := []) (mJx4a65c_add3n l kk hzv q (md + nI (1)) c vb o v hb1 (by omega) hcN hcw1) q1353 q1355 q42 q95 q1356 rfl rfl (by decide +kernel) ⟨(Nat.le_of_ble_eq_true rfl), (Nat.le_of_ble_eq_true rfl)⟩ rfl (hb1.lt 0 (by decide)) (hb1.2 0 (by decide)) rfl hl.1 rfl (Nat.le_of_ble_eq_true rfl) ⟨(Nat.le_of_ble_eq_true rfl), (Nat.le_of_ble_eq_true rfl)⟩ dJx4a65c_add_9ea2d_20) hS (fun ad1 N1 w1 H locs hq hP hS => ?_)
    obtain ⟨hN1, hadL1, ⟨hwN1, hb1⟩, hwL1⟩ := hq
    subst hN1
    have hl : lv_has ls 2 [(0, .ref (ad1 (q))), (1, .ref (ad1 (c)))] := by rw [hadL1 (q) (by omega), hadL1 (c) (by omega)]; exact hl
    refine g_iconst S 1 dJx4a65c_add_9ea2d_23 (by decide +kernel) ?_
    exact g_uzret S hr hlocks (Or.inr (by decide +kernel)) hP hS (⟨rfl, Nat.le_succ _, hadL1, fun p h1 h2 => by rw [hwL1 p (by omega) h2, va_up_ne _ _ h2], _, some N, hb1, hL.push hn hlc (by omega) (Nat.le_succ _) hadL1 (Or.inr ⟨rfl, Nat.le_refl _⟩) (by omega) (by omega) (by omega) (by rw [hwN1, lsF_one]) (by rw [hwL1 c hcN (by omega)]; exact hcw1) (fun p h1 h2 h3 => by rw [hwL1 p h2 (by omega), va_up_ne _ _ (by omega)])⟩) (Nat.le_of_ble_eq_true rfl) (Nat.le_of_ble_eq_true rfl) dJx4a65c_add_9ea2d_24
  · obtain ⟨hla, haN, hrw⟩ := hL.2.2.1 a rfl
    have hca := hcg a rfl
    have hb_a : bkP N w q 1 (ALC E ad q md (ad a) n) := hb_a
    refine lv_aload_n hx hb dJx4a65c_add_9ea2d_0 rfl (lv_at hl 0 rfl) ?_
    refine lv_dup hx hb dJx4a65c_add_9ea2d_1 rfl ?_
    refine g_getS S hI hP uJx4a65c rfl (fs := _) (hb_a.lt 0 (by decide)) (hb_a.2 0 (by decide)) 0 (by decide) q335 q336 (v := .int (md)) rfl dJx4a65c_add_9ea2d_2 ?_
    refine g_iconst S 1 dJx4a65c_add_9ea2d_5 (by decide +kernel) ?_
    refine lv_iadd hx hb dJx4a65c_add_9ea2d_6 ?_
    refine g_putS S hI hP hS uJx4a65c rfl tyJx4a65c tyJx4a65c_ok nmJx4a65c (fs := _) (hb_a.lt 0 (by decide)) (hb_a.2 0 (by decide)) 0 (by decide) q335 q336 rfl (v := .int (md + nI (1))) rfl rfl (Nat.le_of_ble_eq_true rfl) dJx4a65c_add_9ea2d_7 (fun H locs hP hS => ?_)
    have hP : gP E ad N (va_up _ (q) (ALC E ad q (md + nI (1)) (ad a) n 0)) H := hP
    have hb2 : bkP N (va_up _ (q) (ALC E ad q (md + nI (1)) (ad a) n 0)) q 1 (ALC E ad q (md + nI (1)) (ad a) n) := AL_setO hb_a _ _ _
    have hcw1 := (va_up_ne w (ALC E ad q (md + nI (1)) (ad a) n 0) (show c ≠ q by omega)).trans hcw
    have hrw1 := (va_up_ne w (ALC E ad q (md + nI (1)) (ad a) n 0) (show a ≠ q by omega)).trans hrw
    refine lv_aload_n hx hb dJx4a65c_add_9ea2d_10 rfl (lv_at hl 0 rfl) ?_
    refine lv_aload_n hx hb dJx4a65c_add_9ea2d_11 rfl (lv_at hl 1 rfl) ?_
    refine lv_aload_n hx hb dJx4a65c_add_9ea2d_12 rfl (lv_at hl 0 rfl) ?_
    refine g_get S hI hP uJx4a65c rfl (fs := _) (hb2.lt 0 (by decide)) (hb2.2 0 (by decide)) 1 (by decide) q332 rfl (v := .ref ((ad a))) rfl dJx4a65c_add_9ea2d_13 ?_
    refine lv_aload_n hx hb dJx4a65c_add_9ea2d_16 rfl (lv_at hl 0 rfl) ?_
    refine g_get S hI hP uJx4a65c rfl (fs := _) (hb2.lt 0 (by decide)) (hb2.2 0 (by decide)) 2 (by decide) q333 rfl (v := .int (nI (n))) rfl dJx4a65c_add_9ea2d_17 ?_
    refine g_afv (g_runV S hI hP hS (k := 3) (As := [.ref (ad (c)), .ref ((ad a)), .int (nI (n))]) (rest := []) (mJx4a65c_add3a l kk hzv q (md + nI (1)) n a _ c vb o v hb2 haN hrw1 hn (by omega) hcN hcw1) q1353 q1355 q42 q95 q1356 rfl rfl (by decide +kernel) ⟨(Nat.le_of_ble_eq_true rfl), (Nat.le_of_ble_eq_true rfl)⟩ rfl (hb2.lt 0 (by decide)) (hb2.2 0 (by decide)) rfl hl.1 rfl (Nat.le_of_ble_eq_true rfl) ⟨(Nat.le_of_ble_eq_true rfl), (Nat.le_of_ble_eq_true rfl)⟩ dJx4a65c_add_9ea2d_20) hS (fun w1 H locs hq hP hS => ?_)
    obtain ⟨hb1, hwa, hf1⟩ := hq
    refine g_iconst S 1 dJx4a65c_add_9ea2d_23 (by decide +kernel) ?_
    exact g_uzret S hr hlocks (Or.inr (by decide +kernel)) hP hS (⟨rfl, Nat.le_refl _, fun _ _ => rfl, fun p h1 h2 => by rw [hf1 p (by omega), va_up_ne _ _ h2], _, some a, hb1, hL.push hn hlc hcN (Nat.le_refl _) (fun _ _ => rfl) (Or.inl rfl) hla haN hca (by rw [hwa, lsF_push]) (by rw [hf1 c (by omega)]; exact hcw1) (fun p h1 h2 h3 => by rw [hf1 p (by omega), va_up_ne _ _ (by omega)])⟩) (Nat.le_of_ble_eq_true rfl) (Nat.le_of_ble_eq_true rfl) dJx4a65c_add_9ea2d_24
set_option maxHeartbeats 4000000 in
set_option maxRecDepth 100000 in
/-- emptied -/
theorem mJx4a65c_clear_da8c8 (l : Launch) {E : gE} {ad : Nat → Nat} {N : Nat} {w : Nat → va_E} (kk : Nat → Nat) (q lo : Nat) (md : Int32) (g : Option Nat) (sz : Nat) (pl : Nat → Nat) (C : Nat → Cm) (hb_a : bkP N w q 1 (ALC E ad q md (evA ad kk g) sz)) (hqlo : q < lo) (hL : lsR E ad N w lo g kk sz pl C) : gMv l yJx4a65c_clear_da8c8 (lw_ws yJx4a65c_clear_da8c8 cJx4a65c_clear_da8c8 4 none) ({ frames := 0, cells := 0, slots := 0, locals := 0 } : Room) E ad N w [.ref (ad (q))] (fun w' => (∃ md', bkP N w' q 1 (ALC E ad q md' (evA ad kk g) 0)) ∧ lsR E ad N w' lo g kk 0 pl C ∧ ∀ p, p < lo → p ≠ q → w' p = w p) 0 0 := by
  refine Met.ofW (cc := cJx4a65c_clear_da8c8) (maxL := 4) (ret := none) (by decide) rfl ?_
  intro p e s m args below meth cd s₁ B hml hv
  obtain ⟨rfl, hI, hP⟩ := hv
  obtain ⟨S, hr, hlocks⟩ := gPre (ws := []) B hml (C := RJx4a65c) rfl
  have hx := S.1
  have hb := S.2.1
  have hS : va_S (gA E) s.heap s.heap [] := va_S.rf
  have hl := lv_entry ([.ref (ad (q))]) (n := 4) (Nat.le_of_ble_eq_true rfl)
  rw [lg_entry_eq]
  generalize (lg_sl ([.ref (ad (q))]) ++ List.replicate (4 - (lg_sl ([.ref (ad (q))])).length) Slot.unset).toArray = ls at hl ⊢
  have hl : lv_has ls 4 [(0, .ref (ad (q)))] := hl
  have hn10 := hL.1
  rcases g with _ | a
  · have hn0 := hL.2.1 rfl
    subst hn0
    have hb_a : bkP N w q 1 (ALC E ad q md (kk 32) 0) := hb_a
    refine lv_aload_n hx hb dJx4a65c_clear_da8c8_0 rfl (lv_at hl 0 rfl) ?_
    refine lv_dup hx hb dJx4a65c_clear_da8c8_1 rfl ?_
    refine g_getS S hI hP uJx4a65c rfl (fs := _) (hb_a.lt 0 (by decide)) (hb_a.2 0 (by decide)) 0 (by decide) q335 q336 (v := .int (md)) rfl dJx4a65c_clear_da8c8_2 ?_
    refine g_iconst S 1 dJx4a65c_clear_da8c8_5 (by decide +kernel) ?_
    refine lv_iadd hx hb dJx4a65c_clear_da8c8_6 ?_
    refine g_putS S hI hP hS uJx4a65c rfl tyJx4a65c tyJx4a65c_ok nmJx4a65c (fs := _) (hb_a.lt 0 (by decide)) (hb_a.2 0 (by decide)) 0 (by decide) q335 q336 rfl (v := .int (md + nI (1))) rfl rfl (Nat.le_of_ble_eq_true rfl) dJx4a65c_clear_da8c8_7 (fun H locs hP hS => ?_)
    have hP : gP E ad N (va_up _ (q) (ALC E ad q (md + nI (1)) (kk 32) 0 0)) H := hP
    have hb1 : bkP N (va_up _ (q) (ALC E ad q (md + nI (1)) (kk 32) 0 0)) q 1 (ALC E ad q (md + nI (1)) (kk 32) 0) := AL_setO hb_a _ _ _
    refine lv_aload_n hx hb dJx4a65c_clear_da8c8_10 rfl (lv_at hl 0 rfl) ?_
    refine g_get S hI hP uJx4a65c rfl (fs := _) (hb1.lt 0 (by decide)) (hb1.2 0 (by decide)) 1 (by decide) q332 rfl (v := .ref ((kk 32))) rfl dJx4a65c_clear_da8c8_11 ?_
    refine lv_astore_n (lv' := [(1, .ref ((kk 32))), (0, .ref (ad (q)))]) hx hb dJx4a65c_clear_da8c8_14 rfl hl (by decide) rfl (fun ls hl => ?_)
    refine lv_aload_n hx hb dJx4a65c_clear_da8c8_15 rfl (lv_at hl 1 rfl) ?_
    refine g_get S hI hP uJx4a65c rfl (fs := _) (hb1.lt 0 (by decide)) (hb1.2 0 (by decide)) 2 (by decide) q333 rfl (v := .int (nI (0))) rfl dJx4a65c_clear_da8c8_16 ?_
    refine lv_istore_n (lv' := [(2, .int (nI (0))), (1, .ref ((kk 32))), (0, .ref (ad (q)))]) hx hb dJx4a65c_clear_da8c8_19 rfl hl (by decide) rfl (fun ls hl => ?_)
    refine lv_aload_n hx hb dJx4a65c_clear_da8c8_20 rfl (lv_at hl 2 rfl) ?_
    refine g_iconst S 0 dJx4a65c_clear_da8c8_21 (by decide +kernel) ?_
    refine lv_dup_x1 hx hb dJx4a65c_clear_da8c8_22 rfl rfl ?_
    refine g_put S hI hP hS uJx4a65c rfl tyJx4a65c tyJx4a65c_ok nmJx4a65c (fs := _) (hb1.lt 0 (by decide)) (hb1.2 0 (by decide)) 2 (by decide) q333 rfl rfl (v := .int (nI (0))) rfl rfl (Nat.le_of_ble_eq_true rfl) dJx4a65c_clear_da8c8_23 (fun H locs hP hS => ?_)
    have hP : gP E ad N (va_up _ (q) (ALC E ad q (md + nI (1)) (kk 32) 0 0)) H := hP
    have hb2 : bkP N (va_up _ (q) (ALC E ad q (md + nI (1)) (kk 32) 0 0)) q 1 (ALC E ad q (md + nI (1)) (kk 32) 0) := AL_setO hb1 _ _ _
    refine lv_istore_n (lv' := [(3, .int (nI (0))), (2, .int (nI (0))), (1, .ref ((kk 32))), (0, .ref (ad (q)))]) hx hb dJx4a65c_clear_da8c8_26 rfl hl (by decide) rfl (fun ls hl => ?_)
    refine lv_iload_n hx hb dJx4a65c_clear_da8c8_27 rfl (lv_at hl 0 rfl) ?_
    refine lv_iload_n hx hb dJx4a65c_clear_da8c8_28 rfl (lv_at hl 1 rfl) ?_
    refine g_ge S (a := 0) (b := 0) (by omega) (by omega) (tgt := 42) dJx4a65c_clear_da8c8_29 (by decide) (fun hc => ?_) (fun hc => ?_)
    · exact g_vret S hr hlocks hP hS (⟨⟨_, hb2⟩, ⟨by omega, fun _ => rfl, fun a e => (by cases e), fun j hj => absurd hj (Nat.not_lt_zero j)⟩, fun p h1 h2 => by rw [va_up_ne _ _ h2, va_up_ne _ _ h2]⟩) (fun _ _ => rfl) (Nat.le_of_ble_eq_true rfl) (Nat.le_of_ble_eq_true rfl) dJx4a65c_clear_da8c8_42
    · omega
  · obtain ⟨hla, haN, hrw⟩ := hL.2.2.1 a rfl
    have hb_a : bkP N w q 1 (ALC E ad q md (ad a) sz) := hb_a
    have hfr : gFr (fun p => p = q ∨ p = a) w w := gFr.rf
    refine lv_aload_n hx hb dJx4a65c_clear_da8c8_0 rfl (lv_at hl 0 rfl) ?_
    refine lv_dup hx hb dJx4a65c_clear_da8c8_1 rfl ?_
    refine g_getS S hI hP uJx4a65c rfl (fs := _) (hb_a.lt 0 (by decide)) (hb_a.2 0 (by decide)) 0 (by decide) q335 q336 (v := .int (md)) rfl dJx4a65c_clear_da8c8_2 ?_
    refine g_iconst S 1 dJx4a65c_clear_da8c8_5 (by decide +kernel) ?_
    refine lv_iadd hx hb dJx4a65c_clear_da8c8_6 ?_
    refine g_putS S hI hP hS uJx4a65c rfl tyJx4a65c tyJx4a65c_ok nmJx4a65c (fs := _) (hb_a.lt 0 (by decide)) (hb_a.2 0 (by decide)) 0 (by decide) q335 q336 rfl (v := .int (md + nI (1))) rfl rfl (Nat.le_of_ble_eq_true rfl) dJx4a65c_clear_da8c8_7 (fun H locs hP hS => ?_)
    have hP : gP E ad N (va_up _ (q) (ALC E ad q (md + nI (1)) (ad a) sz 0)) H := hP
    have hb3 : bkP N (va_up _ (q) (ALC E ad q (md + nI (1)) (ad a) sz 0)) q 1 (ALC E ad q (md + nI (1)) (ad a) sz) := AL_setO hb_a _ _ _
    have hfr := hfr.up (p := q) (e := ALC E ad q (md + nI (1)) (ad a) sz 0) (by show _ ∨ _; omega)
    refine lv_aload_n hx hb dJx4a65c_clear_da8c8_10 rfl (lv_at hl 0 rfl) ?_
    refine g_get S hI hP uJx4a65c rfl (fs := _) (hb3.lt 0 (by decide)) (hb3.2 0 (by decide)) 1 (by decide) q332 rfl (v := .ref ((ad a))) rfl dJx4a65c_clear_da8c8_11 ?_
    refine lv_astore_n (lv' := [(1, .ref ((ad a))), (0, .ref (ad (q)))]) hx hb dJx4a65c_clear_da8c8_14 rfl hl (by decide) rfl (fun ls hl => ?_)
    refine lv_aload_n hx hb dJx4a65c_clear_da8c8_15 rfl (lv_at hl 1 rfl) ?_
    refine g_get S hI hP uJx4a65c rfl (fs := _) (hb3.lt 0 (by decide)) (hb3.2 0 (by decide)) 2 (by decide) q333 rfl (v := .int (nI (sz))) rfl dJx4a65c_clear_da8c8_16 ?_
    refine lv_istore_n (lv' := [(2, .int (nI (sz))), (1, .ref ((ad a))), (0, .ref (ad (q)))]) hx hb dJx4a65c_clear_da8c8_19 rfl hl (by decide) rfl (fun ls hl => ?_)
    refine lv_aload_n hx hb dJx4a65c_clear_da8c8_20 rfl (lv_at hl 2 rfl) ?_
    refine g_iconst S 0 dJx4a65c_clear_da8c8_21 (by decide +kernel) ?_
    refine lv_dup_x1 hx hb dJx4a65c_clear_da8c8_22 rfl rfl ?_
    refine g_put S hI hP hS uJx4a65c rfl tyJx4a65c tyJx4a65c_ok nmJx4a65c (fs := _) (hb3.lt 0 (by decide)) (hb3.2 0 (by decide)) 2 (by decide) q333 rfl rfl (v := .int (nI (0))) rfl rfl (Nat.le_of_ble_eq_true rfl) dJx4a65c_clear_da8c8_23 (fun H locs hP hS => ?_)
    have hP : gP E ad N (va_up _ (q) (ALC E ad q (md + nI (1)) (ad a) 0 0)) H := hP
    have hb4 : bkP N (va_up _ (q) (ALC E ad q (md + nI (1)) (ad a) 0 0)) q 1 (ALC E ad q (md + nI (1)) (ad a) 0) := AL_setO hb3 _ _ _
    have hfr := hfr.up (p := q) (e := ALC E ad q (md + nI (1)) (ad a) 0 0) (by show _ ∨ _; omega)
    refine lv_istore_n (lv' := [(3, .int (nI (0))), (2, .int (nI (sz))), (1, .ref ((ad a))), (0, .ref (ad (q)))]) hx hb dJx4a65c_clear_da8c8_26 rfl hl (by decide) rfl (fun ls hl => ?_)
    have hl : lv_has ls 4 [(3, .int (nI (0))), (2, .int (nI (sz))), (1, .ref (ad (a))), (0, .ref (ad (q)))] := hl
    have loop5 : ∀ (n : Nat) (i : Nat), sz - i < n → (i ≤ sz) → ∀ (w1 : Nat → va_E) (H : Heap) (locs : List Loc), gP E ad N w1 H → va_S (gA E) s.heap H locs → bkP N w1 q 1 (ALC E ad q (md + nI (1)) (ad a) 0) → gFr (fun p => p = q ∨ p = a) w w1 → (w1 a = rwA (E.2.1 5) 10 (fun j => if i ≤ j ∧ j < sz then some (ad (pl j)) else none)) → ∀ (ls : Array Slot), lv_has ls 4 [(3, .int (nI (i))), (2, .int (nI (sz))), (1, .ref (ad (a))), (0, .ref (ad (q)))] → W p l e (headSpec (lw_ws yJx4a65c_clear_da8c8 cJx4a65c_clear_da8c8 4 none) ({ frames := 0, cells := 0, slots := 0, locals := 0 } : Room)).room s m ([.ref (ad (q))] : List Value).toArray below meth cd H locs 0 0 (MQ below (va_Qv (fun w' => (∃ md', bkP N w' q 1 (ALC E ad q md' (evA ad kk (some a)) 0)) ∧ lsR E ad N w' lo (some a) kk 0 pl C ∧ ∀ p, p < lo → p ≠ q → w' p = w p) (gB E ad N) (gA E)) ([.ref (ad (q))] : List Value).toArray s 0 0 (gA E)) (F0 m 27 ls []) := by
      intro n
      induction n with
      | zero => intro i hmeas; omega
      | succ n ih_loop5 =>
        intro i hmeas hi w1 H locs hP hS hb6 hfr hrw1 ls hl
        refine lv_iload_n hx hb dJx4a65c_clear_da8c8_27 rfl (lv_at hl 0 rfl) ?_
        refine lv_iload_n hx hb dJx4a65c_clear_da8c8_28 rfl (lv_at hl 1 rfl) ?_
        refine g_ge S (a := i) (b := sz) (by omega) (by omega) (tgt := 42) dJx4a65c_clear_da8c8_29 (by decide) (fun hc => ?_) (fun hc => ?_)
        · exact g_vret S hr hlocks hP hS (⟨⟨_, hb6⟩, ⟨by omega, fun h => (by cases h), fun b e => (by cases e; exact ⟨hla, haN, by rw [hrw1, lsF_end hc]⟩), fun j hj => absurd hj (Nat.not_lt_zero j)⟩, fun p h1 h2 => hfr p (by omega)⟩) (fun _ _ => rfl) (Nat.le_of_ble_eq_true rfl) (Nat.le_of_ble_eq_true rfl) dJx4a65c_clear_da8c8_42
        · refine lv_aload_n hx hb dJx4a65c_clear_da8c8_32 rfl (lv_at hl 2 rfl) ?_
          refine lv_iload_n hx hb dJx4a65c_clear_da8c8_33 rfl (lv_at hl 0 rfl) ?_
          refine lv_null hx hb dJx4a65c_clear_da8c8_34 ?_
          refine g_astN S hI hP hS (q0 := a) haN hrw1 (t := 5) rfl i (by omega) (by decide) dJx4a65c_clear_da8c8_35 (fun H locs hP hS => ?_)
          rw [lsF_cut] at hP
          have hb9 := hb6.keep (p := a) (e := (rwA (E.2.1 5) 10 (fun j => if i + 1 ≤ j ∧ j < sz then some (ad (pl j)) else none) : va_E)) (by omega)
          have hfr := hfr.up (p := a) (e := (rwA (E.2.1 5) 10 (fun j => if i + 1 ≤ j ∧ j < sz then some (ad (pl j)) else none) : va_E)) (Or.inr rfl)
          refine lv_iinc (v := nI (i + 1)) (lv' := [(3, .int (nI (i + 1))), (2, .int (nI (sz))), (1, .ref (ad (a))), (0, .ref (ad (q)))]) hx hb dJx4a65c_clear_da8c8_36 hl (k := 0) rfl (g_inc _ 1 (by decide +kernel)) (by decide) rfl (fun ls hl => ?_)
          refine lv_goto (tgt := 27) hx hb dJx4a65c_clear_da8c8_39 (by decide) ?_
          exact ih_loop5 (i + 1) (by omega) (by omega) _ _ _ hP hS hb9 hfr (va_up_self _ _ _) ls (lv_sub hl [0, 1, 2, 3] rfl)
    exact loop5 (sz - (0) + 1) (0) (Nat.lt_succ_self _) (Nat.zero_le _) _ _ _ hP hS hb4 hfr (by rw [va_up_ne _ _ (by omega), va_up_ne _ _ (by omega), hrw, lsF_beg]) ls (lv_sub hl [0, 1, 2, 3] rfl)
