set_option maxHeartbeats 4000000 in
set_option maxRecDepth 100000 in
/-- the law's call of setHeight -/
theorem mL_setHeight (l : Launch) {E : gE} {ad : Nat → Nat} {N : Nat} {w : Nat → va_E} (d o : Nat) (x0 : Int32) (x1 : Int32) (x2 : Int32)  (hz : gHx E) (hn : gHn E) {fs : List Value} {post : Int32 → (Nat → va_E) → Prop} {px : String → (Nat → va_E) → Prop} (hdN : d < N) (hwd : w d = .inr (15, fs)) (hM : gXi l yX12_setHeight (lw_ws yX12_setHeight cX12_setHeight 4 (some .int)) ({ frames := 8, cells := 2, slots := 9, locals := 181 } : Room) E ad N w [.ref (ad (d)), .int (x0), .int (x1), .int (x2)] post px 2 9) (hoN : o < N) (ho : ∀ r w', post r w' → ∃ f, w' o = loE E f) (hx9 : ∀ xc w', px xc w' → xc = xIO ∨ xc = xIA ∨ xc = xUO) : gMi l yL_setHeight (lwH yL_setHeight cL_setHeight 6 (some .int) [(0, 12, 15, 13), (0, 12, 19, 15), (0, 12, 23, 17)]) ({ frames := 9, cells := 2, slots := 9, locals := 204 } : Room) E ad N w [.ref (ad (d)), .int (x0), .int (x1), .int (x2), .ref (ad (o))] (fun r w' => (∃ (v : Int32) (g : Nat → Int64) (w1 : Nat → va_E), r = nI 0 ∧ g 0 = v.toInt64 ∧ w' = va_up w1 o (loE E g) ∧ post v w1) ∨ (r = nI 1 ∧ px xIO w') ∨ (r = nI 2 ∧ px xIA w') ∨ (r = nI 3 ∧ px xUO w')) 2 9 := by
  refine ofWH (hh := [(0, 12, 15, 13), (0, 12, 19, 15), (0, 12, 23, 17)]) (cc := cL_setHeight) (maxL := 6) (ret := (some .int)) (by decide) rfl ?_
  intro p e s m args below meth cd s₁ B hml hv
  obtain ⟨rfl, hI, hP⟩ := hv
  obtain ⟨S, hr, hlocks, htab⟩ := gPreH (hh := [(0, 12, 15, 13), (0, 12, 19, 15), (0, 12, 23, 17)]) B hml (C := RL) rfl
  have hx := S.1
  have hb := S.2.1
  have hS : va_S (gA E) s.heap s.heap [] := va_S.rf
  have hl := lv_entry ([.ref (ad (d)), .int (x0), .int (x1), .int (x2), .ref (ad (o))]) (n := 6) (Nat.le_of_ble_eq_true rfl)
  rw [lg_entry_eq]
  generalize (lg_sl ([.ref (ad (d)), .int (x0), .int (x1), .int (x2), .ref (ad (o))]) ++ List.replicate (6 - (lg_sl ([.ref (ad (d)), .int (x0), .int (x1), .int (x2), .ref (ad (o))])).length) Slot.unset).toArray = ls at hl ⊢
  have hl : lv_has ls 6 [(0, .ref (ad (d))), (1, .int (x0)), (2, .int (x1)), (3, .int (x2)), (4, .ref (ad (o)))] := hl
  refine lv_aload hx hb dL_setHeight_0 (lv_at hl 4 rfl) ?_
  refine g_iconst S 0 dL_setHeight_2 (by decide +kernel) ?_
  refine lv_aload_n hx hb dL_setHeight_3 rfl (lv_at hl 0 rfl) ?_
  refine lv_iload_n hx hb dL_setHeight_4 rfl (lv_at hl 1 rfl) ?_
  refine lv_iload_n hx hb dL_setHeight_5 rfl (lv_at hl 2 rfl) ?_
  refine lv_iload_n hx hb dL_setHeight_6 rfl (lv_at hl 3 rfl) ?_
  refine g_xafi (g_xrunV S hI hP hS (k := 3) (As := [.int (x0), .int (x1), .int (x2)]) (rest := [.int (nI (0)), .ref (ad (o))]) hM q838 q839 q840 q82 q841 rfl rfl (by decide +kernel) ⟨(Nat.le_of_ble_eq_true rfl), (Nat.le_of_ble_eq_true rfl)⟩ rfl hdN hwd rfl hl.1 rfl (Nat.le_of_ble_eq_true rfl) ⟨(Nat.le_of_ble_eq_true rfl), (Nat.le_of_ble_eq_true rfl)⟩ dL_setHeight_7) hS (fun xc w1 xq ce H locs hpx hP hS hcell hcv hcl => ?_) (fun rz w1 H locs hq hP hS => ?_)
  · rcases hx9 xc w1 hpx with rfl | rfl | rfl
    · refine g_catch S hI hz htab ([] : List ((Nat × Nat × Nat × Nat) × String)) (0, 12, 15, 13) [(0, 12, 19, 15), (0, 12, 23, 17)] rfl (fun t ht => absurd ht List.not_mem_nil) (by decide) ⟨by decide, by decide⟩ q835 o523 hcell hcv hcl ?_
      show W p l e _ s m _ below meth cd H locs _ _ _ (F0 m 15 ls [.ref xq])
      refine lv_astore (lv' := [(5, .ref (xq)), (0, .ref (ad (d))), (1, .int (x0)), (2, .int (x1)), (3, .int (x2)), (4, .ref (ad (o)))]) hx hb dL_setHeight_15 hl (by decide) rfl (fun ls hl => ?_)
      refine g_iconst S 1 dL_setHeight_17 (by decide +kernel) ?_
      exact g_iret S hr hlocks hP hS (Or.inr (Or.inl ⟨rfl, hpx⟩)) (fun _ _ => rfl) (Nat.le_of_ble_eq_true rfl) (Nat.le_of_ble_eq_true rfl) dL_setHeight_18
    · refine g_catch S hI hz htab ([((0, 12, 15, 13), "java/lang/IndexOutOfBoundsException")] : List ((Nat × Nat × Nat × Nat) × String)) (0, 12, 19, 15) [(0, 12, 23, 17)] rfl (fun t ht => by simp only [List.mem_cons, List.not_mem_nil, or_false] at ht; rcases ht with rfl; exact ⟨by decide, q835, hn s s.heap hI.2.2.2.2 ("java/lang/IllegalArgumentException", "java/lang/IndexOutOfBoundsException") (by simp [gNl])⟩) (by decide) ⟨by decide, by decide⟩ q836 o594 hcell hcv hcl ?_
      show W p l e _ s m _ below meth cd H locs _ _ _ (F0 m 19 ls [.ref xq])
      refine lv_astore (lv' := [(5, .ref (xq)), (0, .ref (ad (d))), (1, .int (x0)), (2, .int (x1)), (3, .int (x2)), (4, .ref (ad (o)))]) hx hb dL_setHeight_19 hl (by decide) rfl (fun ls hl => ?_)
      refine g_iconst S 2 dL_setHeight_21 (by decide +kernel) ?_
      exact g_iret S hr hlocks hP hS (Or.inr (Or.inr (Or.inl ⟨rfl, hpx⟩))) (fun _ _ => rfl) (Nat.le_of_ble_eq_true rfl) (Nat.le_of_ble_eq_true rfl) dL_setHeight_22
    · refine g_catch S hI hz htab ([((0, 12, 15, 13), "java/lang/IndexOutOfBoundsException"), ((0, 12, 19, 15), "java/lang/IllegalArgumentException")] : List ((Nat × Nat × Nat × Nat) × String)) (0, 12, 23, 17) [] rfl (fun t ht => by simp only [List.mem_cons, List.not_mem_nil, or_false] at ht; rcases ht with rfl | rfl; exact ⟨by decide, q835, hn s s.heap hI.2.2.2.2 ("java/lang/UnsupportedOperationException", "java/lang/IndexOutOfBoundsException") (by simp [gNl])⟩; exact ⟨by decide, q836, hn s s.heap hI.2.2.2.2 ("java/lang/UnsupportedOperationException", "java/lang/IllegalArgumentException") (by simp [gNl])⟩) (by decide) ⟨by decide, by decide⟩ q837 o626 hcell hcv hcl ?_
      show W p l e _ s m _ below meth cd H locs _ _ _ (F0 m 23 ls [.ref xq])
      refine lv_astore (lv' := [(5, .ref (xq)), (0, .ref (ad (d))), (1, .int (x0)), (2, .int (x1)), (3, .int (x2)), (4, .ref (ad (o)))]) hx hb dL_setHeight_23 hl (by decide) rfl (fun ls hl => ?_)
      refine g_iconst S 3 dL_setHeight_25 (by decide +kernel) ?_
      exact g_iret S hr hlocks hP hS (Or.inr (Or.inr (Or.inr (⟨rfl, hpx⟩)))) (fun _ _ => rfl) (Nat.le_of_ble_eq_true rfl) (Nat.le_of_ble_eq_true rfl) dL_setHeight_26
  · skip
    obtain ⟨f0, hf0⟩ := ho rz w1 hq
    refine lv_i2l hx hb dL_setHeight_10 rfl ?_
    refine g_last S hI hP hS hoN hf0 dL_setHeight_11 (fun g H locs hg0 hP hS => ?_)
    refine lv_goto (tgt := 27) hx hb dL_setHeight_12 (by decide) ?_
    refine g_iconst S 0 dL_setHeight_27 (by decide +kernel) ?_
    exact g_iret S hr hlocks hP hS (Or.inl ⟨rz, g, w1, rfl, hg0, rfl, hq⟩) (fun _ _ => rfl) (Nat.le_of_ble_eq_true rfl) (Nat.le_of_ble_eq_true rfl) dL_setHeight_28
set_option maxHeartbeats 4000000 in
set_option maxRecDepth 100000 in
/-- the law's call of peg -/
theorem mL_peg (l : Launch) {E : gE} {ad : Nat → Nat} {N : Nat} {w : Nat → va_E} (d o : Nat) (x0 : Int32) (x1 : Int32)  (hz : gHx E) (hn : gHn E) {fs : List Value} {post : Int32 → (Nat → va_E) → Prop} {px : String → (Nat → va_E) → Prop} (hdN : d < N) (hwd : w d = .inr (15, fs)) (hM : gXi l yX12_peg (lw_ws yX12_peg cX12_peg 3 (some .int)) ({ frames := 8, cells := 2, slots := 9, locals := 181 } : Room) E ad N w [.ref (ad (d)), .int (x0), .int (x1)] post px 2 9) (hoN : o < N) (ho : ∀ r w', post r w' → ∃ f, w' o = loE E f) (hx9 : ∀ xc w', px xc w' → xc = xIO ∨ xc = xUO) : gMi l yL_peg (lwH yL_peg cL_peg 5 (some .int) [(0, 10, 13, 13), (0, 10, 17, 17)]) ({ frames := 9, cells := 2, slots := 9, locals := 203 } : Room) E ad N w [.ref (ad (d)), .int (x0), .int (x1), .ref (ad (o))] (fun r w' => (∃ (v : Int32) (g : Nat → Int64) (w1 : Nat → va_E), r = nI 0 ∧ g 0 = v.toInt64 ∧ w' = va_up w1 o (loE E g) ∧ post v w1) ∨ (r = nI 1 ∧ px xIO w') ∨ (r = nI 2 ∧ px xUO w')) 2 9 := by
  refine ofWH (hh := [(0, 10, 13, 13), (0, 10, 17, 17)]) (cc := cL_peg) (maxL := 5) (ret := (some .int)) (by decide) rfl ?_
  intro p e s m args below meth cd s₁ B hml hv
  obtain ⟨rfl, hI, hP⟩ := hv
  obtain ⟨S, hr, hlocks, htab⟩ := gPreH (hh := [(0, 10, 13, 13), (0, 10, 17, 17)]) B hml (C := RL) rfl
  have hx := S.1
  have hb := S.2.1
  have hS : va_S (gA E) s.heap s.heap [] := va_S.rf
  have hl := lv_entry ([.ref (ad (d)), .int (x0), .int (x1), .ref (ad (o))]) (n := 5) (Nat.le_of_ble_eq_true rfl)
  rw [lg_entry_eq]
  generalize (lg_sl ([.ref (ad (d)), .int (x0), .int (x1), .ref (ad (o))]) ++ List.replicate (5 - (lg_sl ([.ref (ad (d)), .int (x0), .int (x1), .ref (ad (o))])).length) Slot.unset).toArray = ls at hl ⊢
  have hl : lv_has ls 5 [(0, .ref (ad (d))), (1, .int (x0)), (2, .int (x1)), (3, .ref (ad (o)))] := hl
  refine lv_aload_n hx hb dL_peg_0 rfl (lv_at hl 3 rfl) ?_
  refine g_iconst S 0 dL_peg_1 (by decide +kernel) ?_
  refine lv_aload_n hx hb dL_peg_2 rfl (lv_at hl 0 rfl) ?_
  refine lv_iload_n hx hb dL_peg_3 rfl (lv_at hl 1 rfl) ?_
  refine lv_iload_n hx hb dL_peg_4 rfl (lv_at hl 2 rfl) ?_
  refine g_xafi (g_xrunV S hI hP hS (k := 2) (As := [.int (x0), .int (x1)]) (rest := [.int (nI (0)), .ref (ad (o))]) hM q847 q848 q849 q82 q850 rfl rfl (by decide +kernel) ⟨(Nat.le_of_ble_eq_true rfl), (Nat.le_of_ble_eq_true rfl)⟩ rfl hdN hwd rfl hl.1 rfl (Nat.le_of_ble_eq_true rfl) ⟨(Nat.le_of_ble_eq_true rfl), (Nat.le_of_ble_eq_true rfl)⟩ dL_peg_5) hS (fun xc w1 xq ce H locs hpx hP hS hcell hcv hcl => ?_) (fun rz w1 H locs hq hP hS => ?_)
  · rcases hx9 xc w1 hpx with rfl | rfl
    · refine g_catch S hI hz htab ([] : List ((Nat × Nat × Nat × Nat) × String)) (0, 10, 13, 13) [(0, 10, 17, 17)] rfl (fun t ht => absurd ht List.not_mem_nil) (by decide) ⟨by decide, by decide⟩ q835 o523 hcell hcv hcl ?_
      show W p l e _ s m _ below meth cd H locs _ _ _ (F0 m 13 ls [.ref xq])
      refine lv_astore (lv' := [(4, .ref (xq)), (0, .ref (ad (d))), (1, .int (x0)), (2, .int (x1)), (3, .ref (ad (o)))]) hx hb dL_peg_13 hl (by decide) rfl (fun ls hl => ?_)
      refine g_iconst S 1 dL_peg_15 (by decide +kernel) ?_
      exact g_iret S hr hlocks hP hS (Or.inr (Or.inl ⟨rfl, hpx⟩)) (fun _ _ => rfl) (Nat.le_of_ble_eq_true rfl) (Nat.le_of_ble_eq_true rfl) dL_peg_16
    · refine g_catch S hI hz htab ([((0, 10, 13, 13), "java/lang/IndexOutOfBoundsException")] : List ((Nat × Nat × Nat × Nat) × String)) (0, 10, 17, 17) [] rfl (fun t ht => by simp only [List.mem_cons, List.not_mem_nil, or_false] at ht; rcases ht with rfl; exact ⟨by decide, q835, hn s s.heap hI.2.2.2.2 ("java/lang/UnsupportedOperationException", "java/lang/IndexOutOfBoundsException") (by simp [gNl])⟩) (by decide) ⟨by decide, by decide⟩ q837 o626 hcell hcv hcl ?_
      show W p l e _ s m _ below meth cd H locs _ _ _ (F0 m 17 ls [.ref xq])
      refine lv_astore (lv' := [(4, .ref (xq)), (0, .ref (ad (d))), (1, .int (x0)), (2, .int (x1)), (3, .ref (ad (o)))]) hx hb dL_peg_17 hl (by decide) rfl (fun ls hl => ?_)
      refine g_iconst S 2 dL_peg_19 (by decide +kernel) ?_
      exact g_iret S hr hlocks hP hS (Or.inr (Or.inr (⟨rfl, hpx⟩))) (fun _ _ => rfl) (Nat.le_of_ble_eq_true rfl) (Nat.le_of_ble_eq_true rfl) dL_peg_20
  · skip
    obtain ⟨f0, hf0⟩ := ho rz w1 hq
    refine lv_i2l hx hb dL_peg_8 rfl ?_
    refine g_last S hI hP hS hoN hf0 dL_peg_9 (fun g H locs hg0 hP hS => ?_)
    refine lv_goto (tgt := 21) hx hb dL_peg_10 (by decide) ?_
    refine g_iconst S 0 dL_peg_21 (by decide +kernel) ?_
    exact g_iret S hr hlocks hP hS (Or.inl ⟨rz, g, w1, rfl, hg0, rfl, hq⟩) (fun _ _ => rfl) (Nat.le_of_ble_eq_true rfl) (Nat.le_of_ble_eq_true rfl) dL_peg_22
set_option maxHeartbeats 4000000 in
set_option maxRecDepth 100000 in
/-- the law's call of unpeg -/
theorem mL_unpeg (l : Launch) {E : gE} {ad : Nat → Nat} {N : Nat} {w : Nat → va_E} (d o : Nat) (x0 : Int32) (x1 : Int32)  (hz : gHx E) (hn : gHn E) {fs : List Value} {post : Int32 → (Nat → va_E) → Prop} {px : String → (Nat → va_E) → Prop} (hdN : d < N) (hwd : w d = .inr (15, fs)) (hM : gXi l yX12_unpeg (lw_ws yX12_unpeg cX12_unpeg 3 (some .int)) ({ frames := 8, cells := 2, slots := 9, locals := 181 } : Room) E ad N w [.ref (ad (d)), .int (x0), .int (x1)] post px 2 9) (hoN : o < N) (ho : ∀ r w', post r w' → ∃ f, w' o = loE E f) (hx9 : ∀ xc w', px xc w' → xc = xIO ∨ xc = xUO) : gMi l yL_unpeg (lwH yL_unpeg cL_unpeg 5 (some .int) [(0, 10, 13, 13), (0, 10, 17, 17)]) ({ frames := 9, cells := 2, slots := 9, locals := 203 } : Room) E ad N w [.ref (ad (d)), .int (x0), .int (x1), .ref (ad (o))] (fun r w' => (∃ (v : Int32) (g : Nat → Int64) (w1 : Nat → va_E), r = nI 0 ∧ g 0 = v.toInt64 ∧ w' = va_up w1 o (loE E g) ∧ post v w1) ∨ (r = nI 1 ∧ px xIO w') ∨ (r = nI 2 ∧ px xUO w')) 2 9 := by
  refine ofWH (hh := [(0, 10, 13, 13), (0, 10, 17, 17)]) (cc := cL_unpeg) (maxL := 5) (ret := (some .int)) (by decide) rfl ?_
  intro p e s m args below meth cd s₁ B hml hv
  obtain ⟨rfl, hI, hP⟩ := hv
  obtain ⟨S, hr, hlocks, htab⟩ := gPreH (hh := [(0, 10, 13, 13), (0, 10, 17, 17)]) B hml (C := RL) rfl
  have hx := S.1
  have hb := S.2.1
  have hS : va_S (gA E) s.heap s.heap [] := va_S.rf
  have hl := lv_entry ([.ref (ad (d)), .int (x0), .int (x1), .ref (ad (o))]) (n := 5) (Nat.le_of_ble_eq_true rfl)
  rw [lg_entry_eq]
  generalize (lg_sl ([.ref (ad (d)), .int (x0), .int (x1), .ref (ad (o))]) ++ List.replicate (5 - (lg_sl ([.ref (ad (d)), .int (x0), .int (x1), .ref (ad (o))])).length) Slot.unset).toArray = ls at hl ⊢
  have hl : lv_has ls 5 [(0, .ref (ad (d))), (1, .int (x0)), (2, .int (x1)), (3, .ref (ad (o)))] := hl
  refine lv_aload_n hx hb dL_unpeg_0 rfl (lv_at hl 3 rfl) ?_
  refine g_iconst S 0 dL_unpeg_1 (by decide +kernel) ?_
  refine lv_aload_n hx hb dL_unpeg_2 rfl (lv_at hl 0 rfl) ?_
  refine lv_iload_n hx hb dL_unpeg_3 rfl (lv_at hl 1 rfl) ?_
  refine lv_iload_n hx hb dL_unpeg_4 rfl (lv_at hl 2 rfl) ?_
  refine g_xafi (g_xrunV S hI hP hS (k := 2) (As := [.int (x0), .int (x1)]) (rest := [.int (nI (0)), .ref (ad (o))]) hM q856 q857 q858 q82 q859 rfl rfl (by decide +kernel) ⟨(Nat.le_of_ble_eq_true rfl), (Nat.le_of_ble_eq_true rfl)⟩ rfl hdN hwd rfl hl.1 rfl (Nat.le_of_ble_eq_true rfl) ⟨(Nat.le_of_ble_eq_true rfl), (Nat.le_of_ble_eq_true rfl)⟩ dL_unpeg_5) hS (fun xc w1 xq ce H locs hpx hP hS hcell hcv hcl => ?_) (fun rz w1 H locs hq hP hS => ?_)
  · rcases hx9 xc w1 hpx with rfl | rfl
    · refine g_catch S hI hz htab ([] : List ((Nat × Nat × Nat × Nat) × String)) (0, 10, 13, 13) [(0, 10, 17, 17)] rfl (fun t ht => absurd ht List.not_mem_nil) (by decide) ⟨by decide, by decide⟩ q835 o523 hcell hcv hcl ?_
      show W p l e _ s m _ below meth cd H locs _ _ _ (F0 m 13 ls [.ref xq])
      refine lv_astore (lv' := [(4, .ref (xq)), (0, .ref (ad (d))), (1, .int (x0)), (2, .int (x1)), (3, .ref (ad (o)))]) hx hb dL_unpeg_13 hl (by decide) rfl (fun ls hl => ?_)
      refine g_iconst S 1 dL_unpeg_15 (by decide +kernel) ?_
      exact g_iret S hr hlocks hP hS (Or.inr (Or.inl ⟨rfl, hpx⟩)) (fun _ _ => rfl) (Nat.le_of_ble_eq_true rfl) (Nat.le_of_ble_eq_true rfl) dL_unpeg_16
    · refine g_catch S hI hz htab ([((0, 10, 13, 13), "java/lang/IndexOutOfBoundsException")] : List ((Nat × Nat × Nat × Nat) × String)) (0, 10, 17, 17) [] rfl (fun t ht => by simp only [List.mem_cons, List.not_mem_nil, or_false] at ht; rcases ht with rfl; exact ⟨by decide, q835, hn s s.heap hI.2.2.2.2 ("java/lang/UnsupportedOperationException", "java/lang/IndexOutOfBoundsException") (by simp [gNl])⟩) (by decide) ⟨by decide, by decide⟩ q837 o626 hcell hcv hcl ?_
      show W p l e _ s m _ below meth cd H locs _ _ _ (F0 m 17 ls [.ref xq])
      refine lv_astore (lv' := [(4, .ref (xq)), (0, .ref (ad (d))), (1, .int (x0)), (2, .int (x1)), (3, .ref (ad (o)))]) hx hb dL_unpeg_17 hl (by decide) rfl (fun ls hl => ?_)
      refine g_iconst S 2 dL_unpeg_19 (by decide +kernel) ?_
      exact g_iret S hr hlocks hP hS (Or.inr (Or.inr (⟨rfl, hpx⟩))) (fun _ _ => rfl) (Nat.le_of_ble_eq_true rfl) (Nat.le_of_ble_eq_true rfl) dL_unpeg_20
  · skip
    obtain ⟨f0, hf0⟩ := ho rz w1 hq
    refine lv_i2l hx hb dL_unpeg_8 rfl ?_
    refine g_last S hI hP hS hoN hf0 dL_unpeg_9 (fun g H locs hg0 hP hS => ?_)
    refine lv_goto (tgt := 21) hx hb dL_unpeg_10 (by decide) ?_
    refine g_iconst S 0 dL_unpeg_21 (by decide +kernel) ?_
    exact g_iret S hr hlocks hP hS (Or.inl ⟨rz, g, w1, rfl, hg0, rfl, hq⟩) (fun _ _ => rfl) (Nat.le_of_ble_eq_true rfl) (Nat.le_of_ble_eq_true rfl) dL_unpeg_22
set_option maxHeartbeats 4000000 in
set_option maxRecDepth 100000 in
/-- the law's call of height -/
theorem mL_height (l : Launch) {E : gE} {ad : Nat → Nat} {N : Nat} {w : Nat → va_E} (d o : Nat) (x0 : Int32) (x1 : Int32)  (hz : gHx E) (hn : gHn E) {fs : List Value} {post : Int32 → (Nat → va_E) → Prop} {px : String → (Nat → va_E) → Prop} (hdN : d < N) (hwd : w d = .inr (15, fs)) (hM : gXi l yX12_height (lw_ws yX12_height cX12_height 3 (some .int)) ({ frames := 7, cells := 1, slots := 6, locals := 112 } : Room) E ad N w [.ref (ad (d)), .int (x0), .int (x1)] post px 1 6) (hoN : o < N) (ho : ∀ r w', post r w' → ∃ f, w' o = loE E f) (hx9 : ∀ xc w', px xc w' → xc = xIO) : gMi l yL_height (lwH yL_height cL_height 5 (some .int) [(0, 10, 13, 13)]) ({ frames := 8, cells := 1, slots := 6, locals := 134 } : Room) E ad N w [.ref (ad (d)), .int (x0), .int (x1), .ref (ad (o))] (fun r w' => (∃ (v : Int32) (g : Nat → Int64) (w1 : Nat → va_E), r = nI 0 ∧ g 0 = v.toInt64 ∧ w' = va_up w1 o (loE E g) ∧ post v w1) ∨ (r = nI 1 ∧ px xIO w')) 1 6 := by
  refine ofWH (hh := [(0, 10, 13, 13)]) (cc := cL_height) (maxL := 5) (ret := (some .int)) (by decide) rfl ?_
  intro p e s m args below meth cd s₁ B hml hv
  obtain ⟨rfl, hI, hP⟩ := hv
  obtain ⟨S, hr, hlocks, htab⟩ := gPreH (hh := [(0, 10, 13, 13)]) B hml (C := RL) rfl
  have hx := S.1
  have hb := S.2.1
  have hS : va_S (gA E) s.heap s.heap [] := va_S.rf
  have hl := lv_entry ([.ref (ad (d)), .int (x0), .int (x1), .ref (ad (o))]) (n := 5) (Nat.le_of_ble_eq_true rfl)
  rw [lg_entry_eq]
  generalize (lg_sl ([.ref (ad (d)), .int (x0), .int (x1), .ref (ad (o))]) ++ List.replicate (5 - (lg_sl ([.ref (ad (d)), .int (x0), .int (x1), .ref (ad (o))])).length) Slot.unset).toArray = ls at hl ⊢
  have hl : lv_has ls 5 [(0, .ref (ad (d))), (1, .int (x0)), (2, .int (x1)), (3, .ref (ad (o)))] := hl
  refine lv_aload_n hx hb dL_height_0 rfl (lv_at hl 3 rfl) ?_
  refine g_iconst S 0 dL_height_1 (by decide +kernel) ?_
  refine lv_aload_n hx hb dL_height_2 rfl (lv_at hl 0 rfl) ?_
  refine lv_iload_n hx hb dL_height_3 rfl (lv_at hl 1 rfl) ?_
  refine lv_iload_n hx hb dL_height_4 rfl (lv_at hl 2 rfl) ?_
  refine g_xafi (g_xrunV S hI hP hS (k := 2) (As := [.int (x0), .int (x1)]) (rest := [.int (nI (0)), .ref (ad (o))]) hM q865 q866 q867 q82 q868 rfl rfl (by decide +kernel) ⟨(Nat.le_of_ble_eq_true rfl), (Nat.le_of_ble_eq_true rfl)⟩ rfl hdN hwd rfl hl.1 rfl (Nat.le_of_ble_eq_true rfl) ⟨(Nat.le_of_ble_eq_true rfl), (Nat.le_of_ble_eq_true rfl)⟩ dL_height_5) hS (fun xc w1 xq ce H locs hpx hP hS hcell hcv hcl => ?_) (fun rz w1 H locs hq hP hS => ?_)
  · rcases hx9 xc w1 hpx with rfl
    · refine g_catch S hI hz htab ([] : List ((Nat × Nat × Nat × Nat) × String)) (0, 10, 13, 13) [] rfl (fun t ht => absurd ht List.not_mem_nil) (by decide) ⟨by decide, by decide⟩ q835 o523 hcell hcv hcl ?_
      show W p l e _ s m _ below meth cd H locs _ _ _ (F0 m 13 ls [.ref xq])
      refine lv_astore (lv' := [(4, .ref (xq)), (0, .ref (ad (d))), (1, .int (x0)), (2, .int (x1)), (3, .ref (ad (o)))]) hx hb dL_height_13 hl (by decide) rfl (fun ls hl => ?_)
      refine g_iconst S 1 dL_height_15 (by decide +kernel) ?_
      exact g_iret S hr hlocks hP hS (Or.inr (⟨rfl, hpx⟩)) (fun _ _ => rfl) (Nat.le_of_ble_eq_true rfl) (Nat.le_of_ble_eq_true rfl) dL_height_16
  · skip
    obtain ⟨f0, hf0⟩ := ho rz w1 hq
    refine lv_i2l hx hb dL_height_8 rfl ?_
    refine g_last S hI hP hS hoN hf0 dL_height_9 (fun g H locs hg0 hP hS => ?_)
    refine lv_goto (tgt := 17) hx hb dL_height_10 (by decide) ?_
    refine g_iconst S 0 dL_height_17 (by decide +kernel) ?_
    exact g_iret S hr hlocks hP hS (Or.inl ⟨rz, g, w1, rfl, hg0, rfl, hq⟩) (fun _ _ => rfl) (Nat.le_of_ble_eq_true rfl) (Nat.le_of_ble_eq_true rfl) dL_height_18
set_option maxHeartbeats 4000000 in
set_option maxRecDepth 100000 in
/-- the law's call of isPegged -/
theorem mL_isPegged (l : Launch) {E : gE} {ad : Nat → Nat} {N : Nat} {w : Nat → va_E} (d o : Nat) (x0 : Int32) (x1 : Int32)  (hz : gHx E) (hn : gHn E) {fs : List Value} {post : Int32 → (Nat → va_E) → Prop} {px : String → (Nat → va_E) → Prop} (hdN : d < N) (hwd : w d = .inr (15, fs)) (hM : gXi l yX12_isPegged (lw_ws yX12_isPegged cX12_isPegged 3 (some .boolean)) ({ frames := 7, cells := 1, slots := 6, locals := 112 } : Room) E ad N w [.ref (ad (d)), .int (x0), .int (x1)] post px 1 6) (hoN : o < N) (ho : ∀ r w', post r w' → ∃ f, w' o = loE E f ∧ (r = nI 0 ∨ r = nI 1)) (hx9 : ∀ xc w', px xc w' → xc = xIO) : gMi l yL_isPegged (lwH yL_isPegged cL_isPegged 5 (some .int) [(0, 17, 20, 13)]) ({ frames := 8, cells := 1, slots := 6, locals := 134 } : Room) E ad N w [.ref (ad (d)), .int (x0), .int (x1), .ref (ad (o))] (fun r w' => (∃ (v : Int32) (g : Nat → Int64) (w1 : Nat → va_E), r = nI 0 ∧ g 0 = v.toInt64 ∧ w' = va_up w1 o (loE E g) ∧ post v w1) ∨ (r = nI 1 ∧ px xIO w')) 1 6 := by
  refine ofWH (hh := [(0, 17, 20, 13)]) (cc := cL_isPegged) (maxL := 5) (ret := (some .int)) (by decide) rfl ?_
  intro p e s m args below meth cd s₁ B hml hv
  obtain ⟨rfl, hI, hP⟩ := hv
  obtain ⟨S, hr, hlocks, htab⟩ := gPreH (hh := [(0, 17, 20, 13)]) B hml (C := RL) rfl
  have hx := S.1
  have hb := S.2.1
  have hS : va_S (gA E) s.heap s.heap [] := va_S.rf
  have hl := lv_entry ([.ref (ad (d)), .int (x0), .int (x1), .ref (ad (o))]) (n := 5) (Nat.le_of_ble_eq_true rfl)
  rw [lg_entry_eq]
  generalize (lg_sl ([.ref (ad (d)), .int (x0), .int (x1), .ref (ad (o))]) ++ List.replicate (5 - (lg_sl ([.ref (ad (d)), .int (x0), .int (x1), .ref (ad (o))])).length) Slot.unset).toArray = ls at hl ⊢
  have hl : lv_has ls 5 [(0, .ref (ad (d))), (1, .int (x0)), (2, .int (x1)), (3, .ref (ad (o)))] := hl
  refine lv_aload_n hx hb dL_isPegged_0 rfl (lv_at hl 3 rfl) ?_
  refine g_iconst S 0 dL_isPegged_1 (by decide +kernel) ?_
  refine lv_aload_n hx hb dL_isPegged_2 rfl (lv_at hl 0 rfl) ?_
  refine lv_iload_n hx hb dL_isPegged_3 rfl (lv_at hl 1 rfl) ?_
  refine lv_iload_n hx hb dL_isPegged_4 rfl (lv_at hl 2 rfl) ?_
  refine g_xafi (g_xrunV S hI hP hS (k := 2) (As := [.int (x0), .int (x1)]) (rest := [.int (nI (0)), .ref (ad (o))]) hM q876 q877 q878 q82 q879 rfl rfl (by decide +kernel) ⟨(Nat.le_of_ble_eq_true rfl), (Nat.le_of_ble_eq_true rfl)⟩ rfl hdN hwd rfl hl.1 rfl (Nat.le_of_ble_eq_true rfl) ⟨(Nat.le_of_ble_eq_true rfl), (Nat.le_of_ble_eq_true rfl)⟩ dL_isPegged_5) hS (fun xc w1 xq ce H locs hpx hP hS hcell hcv hcl => ?_) (fun rz w1 H locs hq hP hS => ?_)
  · rcases hx9 xc w1 hpx with rfl
    · refine g_catch S hI hz htab ([] : List ((Nat × Nat × Nat × Nat) × String)) (0, 17, 20, 13) [] rfl (fun t ht => absurd ht List.not_mem_nil) (by decide) ⟨by decide, by decide⟩ q835 o523 hcell hcv hcl ?_
      show W p l e _ s m _ below meth cd H locs _ _ _ (F0 m 20 ls [.ref xq])
      refine lv_astore (lv' := [(4, .ref (xq)), (0, .ref (ad (d))), (1, .int (x0)), (2, .int (x1)), (3, .ref (ad (o)))]) hx hb dL_isPegged_20 hl (by decide) rfl (fun ls hl => ?_)
      refine g_iconst S 1 dL_isPegged_22 (by decide +kernel) ?_
      exact g_iret S hr hlocks hP hS (Or.inr (⟨rfl, hpx⟩)) (fun _ _ => rfl) (Nat.le_of_ble_eq_true rfl) (Nat.le_of_ble_eq_true rfl) dL_isPegged_23
  · skip
    obtain ⟨f0, hf0, hbz⟩ := ho rz w1 hq
    rcases hbz with rfl | rfl
    · skip
      refine g_ifeq S (a := 0) (by omega) (tgt := 15) dL_isPegged_8 (by decide) (fun hbb0 => ?_) (fun hbb0 => ?_)
      · refine lv_lconst (v := 0) hx hb dL_isPegged_15 rfl ?_
        have hq := hq
        refine g_last S hI hP hS hoN hf0 dL_isPegged_16 (fun g H locs hg0 hP hS => ?_)
        refine lv_goto (tgt := 24) hx hb dL_isPegged_17 (by decide) ?_
        refine g_iconst S 0 dL_isPegged_24 (by decide +kernel) ?_
        exact g_iret S hr hlocks hP hS (Or.inl ⟨nI 0, g, w1, rfl, by rw [hg0]; decide +kernel, rfl, hq⟩) (fun _ _ => rfl) (Nat.le_of_ble_eq_true rfl) (Nat.le_of_ble_eq_true rfl) dL_isPegged_25
      · omega
    · skip
      refine g_ifeq S (a := 1) (by omega) (tgt := 15) dL_isPegged_8 (by decide) (fun hbb1 => ?_) (fun hbb1 => ?_)
      · omega
      · refine lv_lconst (v := 1) hx hb dL_isPegged_11 rfl ?_
        refine lv_goto (tgt := 16) hx hb dL_isPegged_12 (by decide) ?_
        refine g_last S hI hP hS hoN hf0 dL_isPegged_16 (fun g H locs hg0 hP hS => ?_)
        refine lv_goto (tgt := 24) hx hb dL_isPegged_17 (by decide) ?_
        refine g_iconst S 0 dL_isPegged_24 (by decide +kernel) ?_
        exact g_iret S hr hlocks hP hS (Or.inl ⟨nI 1, g, w1, rfl, by rw [hg0]; decide +kernel, rfl, hq⟩) (fun _ _ => rfl) (Nat.le_of_ble_eq_true rfl) (Nat.le_of_ble_eq_true rfl) dL_isPegged_25
set_option maxHeartbeats 4000000 in
set_option maxRecDepth 100000 in
/-- the law's call of rowByHeight -/
theorem mL_rowByHeight (l : Launch) {E : gE} {ad : Nat → Nat} {N : Nat} {w : Nat → va_E} (d o : Nat) (x0 : Int32)  (hz : gHx E) (hn : gHn E) {fs : List Value} {post : Int32 → (Nat → va_E) → Prop} {px : String → (Nat → va_E) → Prop} (hdN : d < N) (hwd : w d = .inr (15, fs)) (hM : gXi l yX12_rowByHeight (lw_ws yX12_rowByHeight cX12_rowByHeight 2 (some .int)) ({ frames := 7, cells := 1, slots := 6, locals := 111 } : Room) E ad N w [.ref (ad (d)), .int (x0)] post px 1 6) (hoN : o < N) (ho : ∀ r w', post r w' → ∃ f, w' o = loE E f) (hx9 : ∀ xc w', px xc w' → xc = xNS) : gMi l yL_rowByHeight (lwH yL_rowByHeight cL_rowByHeight 4 (some .int) [(0, 9, 12, 37)]) ({ frames := 8, cells := 1, slots := 6, locals := 132 } : Room) E ad N w [.ref (ad (d)), .int (x0), .ref (ad (o))] (fun r w' => (∃ (v : Int32) (g : Nat → Int64) (w1 : Nat → va_E), r = nI 0 ∧ g 0 = v.toInt64 ∧ w' = va_up w1 o (loE E g) ∧ post v w1) ∨ (r = nI 1 ∧ px xNS w')) 1 6 := by
  refine ofWH (hh := [(0, 9, 12, 37)]) (cc := cL_rowByHeight) (maxL := 4) (ret := (some .int)) (by decide) rfl ?_
  intro p e s m args below meth cd s₁ B hml hv
  obtain ⟨rfl, hI, hP⟩ := hv
  obtain ⟨S, hr, hlocks, htab⟩ := gPreH (hh := [(0, 9, 12, 37)]) B hml (C := RL) rfl
  have hx := S.1
  have hb := S.2.1
  have hS : va_S (gA E) s.heap s.heap [] := va_S.rf
  have hl := lv_entry ([.ref (ad (d)), .int (x0), .ref (ad (o))]) (n := 4) (Nat.le_of_ble_eq_true rfl)
  rw [lg_entry_eq]
  generalize (lg_sl ([.ref (ad (d)), .int (x0), .ref (ad (o))]) ++ List.replicate (4 - (lg_sl ([.ref (ad (d)), .int (x0), .ref (ad (o))])).length) Slot.unset).toArray = ls at hl ⊢
  have hl : lv_has ls 4 [(0, .ref (ad (d))), (1, .int (x0)), (2, .ref (ad (o)))] := hl
  refine lv_aload_n hx hb dL_rowByHeight_0 rfl (lv_at hl 2 rfl) ?_
  refine g_iconst S 0 dL_rowByHeight_1 (by decide +kernel) ?_
  refine lv_aload_n hx hb dL_rowByHeight_2 rfl (lv_at hl 0 rfl) ?_
  refine lv_iload_n hx hb dL_rowByHeight_3 rfl (lv_at hl 1 rfl) ?_
  refine g_xafi (g_xrunV S hI hP hS (k := 1) (As := [.int (x0)]) (rest := [.int (nI (0)), .ref (ad (o))]) hM q884 q885 q886 q82 q887 rfl rfl (by decide +kernel) ⟨(Nat.le_of_ble_eq_true rfl), (Nat.le_of_ble_eq_true rfl)⟩ rfl hdN hwd rfl hl.1 rfl (Nat.le_of_ble_eq_true rfl) ⟨(Nat.le_of_ble_eq_true rfl), (Nat.le_of_ble_eq_true rfl)⟩ dL_rowByHeight_4) hS (fun xc w1 xq ce H locs hpx hP hS hcell hcv hcl => ?_) (fun rz w1 H locs hq hP hS => ?_)
  · rcases hx9 xc w1 hpx with rfl
    · refine g_catch S hI hz htab ([] : List ((Nat × Nat × Nat × Nat) × String)) (0, 9, 12, 37) [] rfl (fun t ht => absurd ht List.not_mem_nil) (by decide) ⟨by decide, by decide⟩ q883 o894 hcell hcv hcl ?_
      show W p l e _ s m _ below meth cd H locs _ _ _ (F0 m 12 ls [.ref xq])
      refine lv_astore_n (lv' := [(3, .ref (xq)), (0, .ref (ad (d))), (1, .int (x0)), (2, .ref (ad (o)))]) hx hb dL_rowByHeight_12 rfl hl (by decide) rfl (fun ls hl => ?_)
      refine g_iconst S 1 dL_rowByHeight_13 (by decide +kernel) ?_
      exact g_iret S hr hlocks hP hS (Or.inr (⟨rfl, hpx⟩)) (fun _ _ => rfl) (Nat.le_of_ble_eq_true rfl) (Nat.le_of_ble_eq_true rfl) dL_rowByHeight_14
  · skip
    obtain ⟨f0, hf0⟩ := ho rz w1 hq
    refine lv_i2l hx hb dL_rowByHeight_7 rfl ?_
    refine g_last S hI hP hS hoN hf0 dL_rowByHeight_8 (fun g H locs hg0 hP hS => ?_)
    refine lv_goto (tgt := 15) hx hb dL_rowByHeight_9 (by decide) ?_
    refine g_iconst S 0 dL_rowByHeight_15 (by decide +kernel) ?_
    exact g_iret S hr hlocks hP hS (Or.inl ⟨rz, g, w1, rfl, hg0, rfl, hq⟩) (fun _ _ => rfl) (Nat.le_of_ble_eq_true rfl) (Nat.le_of_ble_eq_true rfl) dL_rowByHeight_16
set_option maxHeartbeats 4000000 in
set_option maxRecDepth 100000 in
/-- the law's call of columnByHeight -/
theorem mL_columnByHeight (l : Launch) {E : gE} {ad : Nat → Nat} {N : Nat} {w : Nat → va_E} (d o : Nat) (x0 : Int32)  (hz : gHx E) (hn : gHn E) {fs : List Value} {post : Int32 → (Nat → va_E) → Prop} {px : String → (Nat → va_E) → Prop} (hdN : d < N) (hwd : w d = .inr (15, fs)) (hM : gXi l yX12_columnByHeight (lw_ws yX12_columnByHeight cX12_columnByHeight 2 (some .int)) ({ frames := 7, cells := 1, slots := 6, locals := 111 } : Room) E ad N w [.ref (ad (d)), .int (x0)] post px 1 6) (hoN : o < N) (ho : ∀ r w', post r w' → ∃ f, w' o = loE E f) (hx9 : ∀ xc w', px xc w' → xc = xNS) : gMi l yL_columnByHeight (lwH yL_columnByHeight cL_columnByHeight 4 (some .int) [(0, 9, 12, 37)]) ({ frames := 8, cells := 1, slots := 6, locals := 132 } : Room) E ad N w [.ref (ad (d)), .int (x0), .ref (ad (o))] (fun r w' => (∃ (v : Int32) (g : Nat → Int64) (w1 : Nat → va_E), r = nI 0 ∧ g 0 = v.toInt64 ∧ w' = va_up w1 o (loE E g) ∧ post v w1) ∨ (r = nI 1 ∧ px xNS w')) 1 6 := by
  refine ofWH (hh := [(0, 9, 12, 37)]) (cc := cL_columnByHeight) (maxL := 4) (ret := (some .int)) (by decide) rfl ?_
  intro p e s m args below meth cd s₁ B hml hv
  obtain ⟨rfl, hI, hP⟩ := hv
  obtain ⟨S, hr, hlocks, htab⟩ := gPreH (hh := [(0, 9, 12, 37)]) B hml (C := RL) rfl
  have hx := S.1
  have hb := S.2.1
  have hS : va_S (gA E) s.heap s.heap [] := va_S.rf
  have hl := lv_entry ([.ref (ad (d)), .int (x0), .ref (ad (o))]) (n := 4) (Nat.le_of_ble_eq_true rfl)
  rw [lg_entry_eq]
  generalize (lg_sl ([.ref (ad (d)), .int (x0), .ref (ad (o))]) ++ List.replicate (4 - (lg_sl ([.ref (ad (d)), .int (x0), .ref (ad (o))])).length) Slot.unset).toArray = ls at hl ⊢
  have hl : lv_has ls 4 [(0, .ref (ad (d))), (1, .int (x0)), (2, .ref (ad (o)))] := hl
  refine lv_aload_n hx hb dL_columnByHeight_0 rfl (lv_at hl 2 rfl) ?_
  refine g_iconst S 0 dL_columnByHeight_1 (by decide +kernel) ?_
  refine lv_aload_n hx hb dL_columnByHeight_2 rfl (lv_at hl 0 rfl) ?_
  refine lv_iload_n hx hb dL_columnByHeight_3 rfl (lv_at hl 1 rfl) ?_
  refine g_xafi (g_xrunV S hI hP hS (k := 1) (As := [.int (x0)]) (rest := [.int (nI (0)), .ref (ad (o))]) hM q919 q920 q921 q82 q922 rfl rfl (by decide +kernel) ⟨(Nat.le_of_ble_eq_true rfl), (Nat.le_of_ble_eq_true rfl)⟩ rfl hdN hwd rfl hl.1 rfl (Nat.le_of_ble_eq_true rfl) ⟨(Nat.le_of_ble_eq_true rfl), (Nat.le_of_ble_eq_true rfl)⟩ dL_columnByHeight_4) hS (fun xc w1 xq ce H locs hpx hP hS hcell hcv hcl => ?_) (fun rz w1 H locs hq hP hS => ?_)
  · rcases hx9 xc w1 hpx with rfl
    · refine g_catch S hI hz htab ([] : List ((Nat × Nat × Nat × Nat) × String)) (0, 9, 12, 37) [] rfl (fun t ht => absurd ht List.not_mem_nil) (by decide) ⟨by decide, by decide⟩ q883 o894 hcell hcv hcl ?_
      show W p l e _ s m _ below meth cd H locs _ _ _ (F0 m 12 ls [.ref xq])
      refine lv_astore_n (lv' := [(3, .ref (xq)), (0, .ref (ad (d))), (1, .int (x0)), (2, .ref (ad (o)))]) hx hb dL_columnByHeight_12 rfl hl (by decide) rfl (fun ls hl => ?_)
      refine g_iconst S 1 dL_columnByHeight_13 (by decide +kernel) ?_
      exact g_iret S hr hlocks hP hS (Or.inr (⟨rfl, hpx⟩)) (fun _ _ => rfl) (Nat.le_of_ble_eq_true rfl) (Nat.le_of_ble_eq_true rfl) dL_columnByHeight_14
  · skip
    obtain ⟨f0, hf0⟩ := ho rz w1 hq
    refine lv_i2l hx hb dL_columnByHeight_7 rfl ?_
    refine g_last S hI hP hS hoN hf0 dL_columnByHeight_8 (fun g H locs hg0 hP hS => ?_)
    refine lv_goto (tgt := 15) hx hb dL_columnByHeight_9 (by decide) ?_
    refine g_iconst S 0 dL_columnByHeight_15 (by decide +kernel) ?_
    exact g_iret S hr hlocks hP hS (Or.inl ⟨rz, g, w1, rfl, hg0, rfl, hq⟩) (fun _ _ => rfl) (Nat.le_of_ble_eq_true rfl) (Nat.le_of_ble_eq_true rfl) dL_columnByHeight_16
set_option maxHeartbeats 4000000 in
set_option maxRecDepth 100000 in
/-- the law's call of islands -/
theorem mL_islands (l : Launch) {E : gE} {ad : Nat → Nat} {N : Nat} {w : Nat → va_E} (d o : Nat) (x0 : Int32)  (hz : gHx E) (hn : gHn E) {fs : List Value} {post : Int32 → (Nat → va_E) → Prop} {px : String → (Nat → va_E) → Prop} (hdN : d < N) (hwd : w d = .inr (15, fs)) (hM : gXi l yX12_islands (lw_ws yX12_islands cX12_islands 2 (some .int)) ({ frames := 7, cells := 1, slots := 6, locals := 110 } : Room) E ad N w [.ref (ad (d)), .int (x0)] post px 1 6) (hoN : o < N) (ho : ∀ r w', post r w' → ∃ f, w' o = loE E f) (hx9 : ∀ xc w', px xc w' → xc = xIA) : gMi l yL_islands (lwH yL_islands cL_islands 4 (some .int) [(0, 9, 12, 15)]) ({ frames := 8, cells := 1, slots := 6, locals := 131 } : Room) E ad N w [.ref (ad (d)), .int (x0), .ref (ad (o))] (fun r w' => (∃ (v : Int32) (g : Nat → Int64) (w1 : Nat → va_E), r = nI 0 ∧ g 0 = v.toInt64 ∧ w' = va_up w1 o (loE E g) ∧ post v w1) ∨ (r = nI 1 ∧ px xIA w')) 1 6 := by
  refine ofWH (hh := [(0, 9, 12, 15)]) (cc := cL_islands) (maxL := 4) (ret := (some .int)) (by decide) rfl ?_
  intro p e s m args below meth cd s₁ B hml hv
  obtain ⟨rfl, hI, hP⟩ := hv
  obtain ⟨S, hr, hlocks, htab⟩ := gPreH (hh := [(0, 9, 12, 15)]) B hml (C := RL) rfl
  have hx := S.1
  have hb := S.2.1
  have hS : va_S (gA E) s.heap s.heap [] := va_S.rf
  have hl := lv_entry ([.ref (ad (d)), .int (x0), .ref (ad (o))]) (n := 4) (Nat.le_of_ble_eq_true rfl)
  rw [lg_entry_eq]
  generalize (lg_sl ([.ref (ad (d)), .int (x0), .ref (ad (o))]) ++ List.replicate (4 - (lg_sl ([.ref (ad (d)), .int (x0), .ref (ad (o))])).length) Slot.unset).toArray = ls at hl ⊢
  have hl : lv_has ls 4 [(0, .ref (ad (d))), (1, .int (x0)), (2, .ref (ad (o)))] := hl
  refine lv_aload_n hx hb dL_islands_0 rfl (lv_at hl 2 rfl) ?_
  refine g_iconst S 0 dL_islands_1 (by decide +kernel) ?_
  refine lv_aload_n hx hb dL_islands_2 rfl (lv_at hl 0 rfl) ?_
  refine lv_iload_n hx hb dL_islands_3 rfl (lv_at hl 1 rfl) ?_
  refine g_xafi (g_xrunV S hI hP hS (k := 1) (As := [.int (x0)]) (rest := [.int (nI (0)), .ref (ad (o))]) hM q926 q927 q928 q82 q929 rfl rfl (by decide +kernel) ⟨(Nat.le_of_ble_eq_true rfl), (Nat.le_of_ble_eq_true rfl)⟩ rfl hdN hwd rfl hl.1 rfl (Nat.le_of_ble_eq_true rfl) ⟨(Nat.le_of_ble_eq_true rfl), (Nat.le_of_ble_eq_true rfl)⟩ dL_islands_4) hS (fun xc w1 xq ce H locs hpx hP hS hcell hcv hcl => ?_) (fun rz w1 H locs hq hP hS => ?_)
  · rcases hx9 xc w1 hpx with rfl
    · refine g_catch S hI hz htab ([] : List ((Nat × Nat × Nat × Nat) × String)) (0, 9, 12, 15) [] rfl (fun t ht => absurd ht List.not_mem_nil) (by decide) ⟨by decide, by decide⟩ q836 o594 hcell hcv hcl ?_
      show W p l e _ s m _ below meth cd H locs _ _ _ (F0 m 12 ls [.ref xq])
      refine lv_astore_n (lv' := [(3, .ref (xq)), (0, .ref (ad (d))), (1, .int (x0)), (2, .ref (ad (o)))]) hx hb dL_islands_12 rfl hl (by decide) rfl (fun ls hl => ?_)
      refine g_iconst S 1 dL_islands_13 (by decide +kernel) ?_
      exact g_iret S hr hlocks hP hS (Or.inr (⟨rfl, hpx⟩)) (fun _ _ => rfl) (Nat.le_of_ble_eq_true rfl) (Nat.le_of_ble_eq_true rfl) dL_islands_14
  · skip
    obtain ⟨f0, hf0⟩ := ho rz w1 hq
    refine lv_i2l hx hb dL_islands_7 rfl ?_
    refine g_last S hI hP hS hoN hf0 dL_islands_8 (fun g H locs hg0 hP hS => ?_)
    refine lv_goto (tgt := 15) hx hb dL_islands_9 (by decide) ?_
    refine g_iconst S 0 dL_islands_15 (by decide +kernel) ?_
    exact g_iret S hr hlocks hP hS (Or.inl ⟨rz, g, w1, rfl, hg0, rfl, hq⟩) (fun _ _ => rfl) (Nat.le_of_ble_eq_true rfl) (Nat.le_of_ble_eq_true rfl) dL_islands_16
set_option maxHeartbeats 4000000 in
set_option maxRecDepth 100000 in
/-- the law's call of islandsByUnions -/
theorem mL_islandsByUnions (l : Launch) {E : gE} {ad : Nat → Nat} {N : Nat} {w : Nat → va_E} (d o : Nat) (x0 : Int32)  (hz : gHx E) (hn : gHn E) {fs : List Value} {post : Int32 → (Nat → va_E) → Prop} {px : String → (Nat → va_E) → Prop} (hdN : d < N) (hwd : w d = .inr (15, fs)) (hM : gXi l yX12_islandsByUnions (lw_ws yX12_islandsByUnions cX12_islandsByUnions 2 (some .int)) ({ frames := 7, cells := 1, slots := 6, locals := 110 } : Room) E ad N w [.ref (ad (d)), .int (x0)] post px 1 6) (hoN : o < N) (ho : ∀ r w', post r w' → ∃ f, w' o = loE E f) (hx9 : ∀ xc w', px xc w' → xc = xIA) : gMi l yL_islandsByUnions (lwH yL_islandsByUnions cL_islandsByUnions 4 (some .int) [(0, 9, 12, 15)]) ({ frames := 8, cells := 1, slots := 6, locals := 131 } : Room) E ad N w [.ref (ad (d)), .int (x0), .ref (ad (o))] (fun r w' => (∃ (v : Int32) (g : Nat → Int64) (w1 : Nat → va_E), r = nI 0 ∧ g 0 = v.toInt64 ∧ w' = va_up w1 o (loE E g) ∧ post v w1) ∨ (r = nI 1 ∧ px xIA w')) 1 6 := by
  refine ofWH (hh := [(0, 9, 12, 15)]) (cc := cL_islandsByUnions) (maxL := 4) (ret := (some .int)) (by decide) rfl ?_
  intro p e s m args below meth cd s₁ B hml hv
  obtain ⟨rfl, hI, hP⟩ := hv
  obtain ⟨S, hr, hlocks, htab⟩ := gPreH (hh := [(0, 9, 12, 15)]) B hml (C := RL) rfl
  have hx := S.1
  have hb := S.2.1
  have hS : va_S (gA E) s.heap s.heap [] := va_S.rf
  have hl := lv_entry ([.ref (ad (d)), .int (x0), .ref (ad (o))]) (n := 4) (Nat.le_of_ble_eq_true rfl)
  rw [lg_entry_eq]
  generalize (lg_sl ([.ref (ad (d)), .int (x0), .ref (ad (o))]) ++ List.replicate (4 - (lg_sl ([.ref (ad (d)), .int (x0), .ref (ad (o))])).length) Slot.unset).toArray = ls at hl ⊢
  have hl : lv_has ls 4 [(0, .ref (ad (d))), (1, .int (x0)), (2, .ref (ad (o)))] := hl
  refine lv_aload_n hx hb dL_islandsByUnions_0 rfl (lv_at hl 2 rfl) ?_
  refine g_iconst S 0 dL_islandsByUnions_1 (by decide +kernel) ?_
  refine lv_aload_n hx hb dL_islandsByUnions_2 rfl (lv_at hl 0 rfl) ?_
  refine lv_iload_n hx hb dL_islandsByUnions_3 rfl (lv_at hl 1 rfl) ?_
  refine g_xafi (g_xrunV S hI hP hS (k := 1) (As := [.int (x0)]) (rest := [.int (nI (0)), .ref (ad (o))]) hM q958 q959 q960 q82 q961 rfl rfl (by decide +kernel) ⟨(Nat.le_of_ble_eq_true rfl), (Nat.le_of_ble_eq_true rfl)⟩ rfl hdN hwd rfl hl.1 rfl (Nat.le_of_ble_eq_true rfl) ⟨(Nat.le_of_ble_eq_true rfl), (Nat.le_of_ble_eq_true rfl)⟩ dL_islandsByUnions_4) hS (fun xc w1 xq ce H locs hpx hP hS hcell hcv hcl => ?_) (fun rz w1 H locs hq hP hS => ?_)
  · rcases hx9 xc w1 hpx with rfl
    · refine g_catch S hI hz htab ([] : List ((Nat × Nat × Nat × Nat) × String)) (0, 9, 12, 15) [] rfl (fun t ht => absurd ht List.not_mem_nil) (by decide) ⟨by decide, by decide⟩ q836 o594 hcell hcv hcl ?_
      show W p l e _ s m _ below meth cd H locs _ _ _ (F0 m 12 ls [.ref xq])
      refine lv_astore_n (lv' := [(3, .ref (xq)), (0, .ref (ad (d))), (1, .int (x0)), (2, .ref (ad (o)))]) hx hb dL_islandsByUnions_12 rfl hl (by decide) rfl (fun ls hl => ?_)
      refine g_iconst S 1 dL_islandsByUnions_13 (by decide +kernel) ?_
      exact g_iret S hr hlocks hP hS (Or.inr (⟨rfl, hpx⟩)) (fun _ _ => rfl) (Nat.le_of_ble_eq_true rfl) (Nat.le_of_ble_eq_true rfl) dL_islandsByUnions_14
  · skip
    obtain ⟨f0, hf0⟩ := ho rz w1 hq
    refine lv_i2l hx hb dL_islandsByUnions_7 rfl ?_
    refine g_last S hI hP hS hoN hf0 dL_islandsByUnions_8 (fun g H locs hg0 hP hS => ?_)
    refine lv_goto (tgt := 15) hx hb dL_islandsByUnions_9 (by decide) ?_
    refine g_iconst S 0 dL_islandsByUnions_15 (by decide +kernel) ?_
    exact g_iret S hr hlocks hP hS (Or.inl ⟨rz, g, w1, rfl, hg0, rfl, hq⟩) (fun _ _ => rfl) (Nat.le_of_ble_eq_true rfl) (Nat.le_of_ble_eq_true rfl) dL_islandsByUnions_16
set_option maxHeartbeats 4000000 in
set_option maxRecDepth 100000 in
/-- the law's call of pour -/
theorem mL_pour (l : Launch) {E : gE} {ad : Nat → Nat} {N : Nat} {w : Nat → va_E} (d o : Nat) (x0 : Int32) (x1 : Int32) (x2 : Int32)  (hz : gHx E) (hn : gHn E) {fs : List Value} {post : Int32 → (Nat → va_E) → Prop} {px : String → (Nat → va_E) → Prop} (hdN : d < N) (hwd : w d = .inr (15, fs)) (hM : gXi l yX12_pour (lw_ws yX12_pour cX12_pour 4 (some .int)) ({ frames := 8, cells := 2, slots := 9, locals := 181 } : Room) E ad N w [.ref (ad (d)), .int (x0), .int (x1), .int (x2)] post px 2 9) (hoN : o < N) (ho : ∀ r w', post r w' → ∃ f, w' o = loE E f) (hx9 : ∀ xc w', px xc w' → xc = xIO ∨ xc = xIA) : gMi l yL_pour (lwH yL_pour cL_pour 6 (some .int) [(0, 12, 15, 13), (0, 12, 19, 15)]) ({ frames := 9, cells := 2, slots := 9, locals := 204 } : Room) E ad N w [.ref (ad (d)), .int (x0), .int (x1), .int (x2), .ref (ad (o))] (fun r w' => (∃ (v : Int32) (g : Nat → Int64) (w1 : Nat → va_E), r = nI 0 ∧ g 0 = v.toInt64 ∧ w' = va_up w1 o (loE E g) ∧ post v w1) ∨ (r = nI 1 ∧ px xIO w') ∨ (r = nI 2 ∧ px xIA w')) 2 9 := by
  refine ofWH (hh := [(0, 12, 15, 13), (0, 12, 19, 15)]) (cc := cL_pour) (maxL := 6) (ret := (some .int)) (by decide) rfl ?_
  intro p e s m args below meth cd s₁ B hml hv
  obtain ⟨rfl, hI, hP⟩ := hv
  obtain ⟨S, hr, hlocks, htab⟩ := gPreH (hh := [(0, 12, 15, 13), (0, 12, 19, 15)]) B hml (C := RL) rfl
  have hx := S.1
  have hb := S.2.1
  have hS : va_S (gA E) s.heap s.heap [] := va_S.rf
  have hl := lv_entry ([.ref (ad (d)), .int (x0), .int (x1), .int (x2), .ref (ad (o))]) (n := 6) (Nat.le_of_ble_eq_true rfl)
  rw [lg_entry_eq]
  generalize (lg_sl ([.ref (ad (d)), .int (x0), .int (x1), .int (x2), .ref (ad (o))]) ++ List.replicate (6 - (lg_sl ([.ref (ad (d)), .int (x0), .int (x1), .int (x2), .ref (ad (o))])).length) Slot.unset).toArray = ls at hl ⊢
  have hl : lv_has ls 6 [(0, .ref (ad (d))), (1, .int (x0)), (2, .int (x1)), (3, .int (x2)), (4, .ref (ad (o)))] := hl
  refine lv_aload hx hb dL_pour_0 (lv_at hl 4 rfl) ?_
  refine g_iconst S 0 dL_pour_2 (by decide +kernel) ?_
  refine lv_aload_n hx hb dL_pour_3 rfl (lv_at hl 0 rfl) ?_
  refine lv_iload_n hx hb dL_pour_4 rfl (lv_at hl 1 rfl) ?_
  refine lv_iload_n hx hb dL_pour_5 rfl (lv_at hl 2 rfl) ?_
  refine lv_iload_n hx hb dL_pour_6 rfl (lv_at hl 3 rfl) ?_
  refine g_xafi (g_xrunV S hI hP hS (k := 3) (As := [.int (x0), .int (x1), .int (x2)]) (rest := [.int (nI (0)), .ref (ad (o))]) hM q985 q986 q987 q82 q988 rfl rfl (by decide +kernel) ⟨(Nat.le_of_ble_eq_true rfl), (Nat.le_of_ble_eq_true rfl)⟩ rfl hdN hwd rfl hl.1 rfl (Nat.le_of_ble_eq_true rfl) ⟨(Nat.le_of_ble_eq_true rfl), (Nat.le_of_ble_eq_true rfl)⟩ dL_pour_7) hS (fun xc w1 xq ce H locs hpx hP hS hcell hcv hcl => ?_) (fun rz w1 H locs hq hP hS => ?_)
  · rcases hx9 xc w1 hpx with rfl | rfl
    · refine g_catch S hI hz htab ([] : List ((Nat × Nat × Nat × Nat) × String)) (0, 12, 15, 13) [(0, 12, 19, 15)] rfl (fun t ht => absurd ht List.not_mem_nil) (by decide) ⟨by decide, by decide⟩ q835 o523 hcell hcv hcl ?_
      show W p l e _ s m _ below meth cd H locs _ _ _ (F0 m 15 ls [.ref xq])
      refine lv_astore (lv' := [(5, .ref (xq)), (0, .ref (ad (d))), (1, .int (x0)), (2, .int (x1)), (3, .int (x2)), (4, .ref (ad (o)))]) hx hb dL_pour_15 hl (by decide) rfl (fun ls hl => ?_)
      refine g_iconst S 1 dL_pour_17 (by decide +kernel) ?_
      exact g_iret S hr hlocks hP hS (Or.inr (Or.inl ⟨rfl, hpx⟩)) (fun _ _ => rfl) (Nat.le_of_ble_eq_true rfl) (Nat.le_of_ble_eq_true rfl) dL_pour_18
    · refine g_catch S hI hz htab ([((0, 12, 15, 13), "java/lang/IndexOutOfBoundsException")] : List ((Nat × Nat × Nat × Nat) × String)) (0, 12, 19, 15) [] rfl (fun t ht => by simp only [List.mem_cons, List.not_mem_nil, or_false] at ht; rcases ht with rfl; exact ⟨by decide, q835, hn s s.heap hI.2.2.2.2 ("java/lang/IllegalArgumentException", "java/lang/IndexOutOfBoundsException") (by simp [gNl])⟩) (by decide) ⟨by decide, by decide⟩ q836 o594 hcell hcv hcl ?_
      show W p l e _ s m _ below meth cd H locs _ _ _ (F0 m 19 ls [.ref xq])
      refine lv_astore (lv' := [(5, .ref (xq)), (0, .ref (ad (d))), (1, .int (x0)), (2, .int (x1)), (3, .int (x2)), (4, .ref (ad (o)))]) hx hb dL_pour_19 hl (by decide) rfl (fun ls hl => ?_)
      refine g_iconst S 2 dL_pour_21 (by decide +kernel) ?_
      exact g_iret S hr hlocks hP hS (Or.inr (Or.inr (⟨rfl, hpx⟩))) (fun _ _ => rfl) (Nat.le_of_ble_eq_true rfl) (Nat.le_of_ble_eq_true rfl) dL_pour_22
  · skip
    obtain ⟨f0, hf0⟩ := ho rz w1 hq
    refine lv_i2l hx hb dL_pour_10 rfl ?_
    refine g_last S hI hP hS hoN hf0 dL_pour_11 (fun g H locs hg0 hP hS => ?_)
    refine lv_goto (tgt := 23) hx hb dL_pour_12 (by decide) ?_
    refine g_iconst S 0 dL_pour_23 (by decide +kernel) ?_
    exact g_iret S hr hlocks hP hS (Or.inl ⟨rz, g, w1, rfl, hg0, rfl, hq⟩) (fun _ _ => rfl) (Nat.le_of_ble_eq_true rfl) (Nat.le_of_ble_eq_true rfl) dL_pour_24
set_option maxHeartbeats 4000000 in
set_option maxRecDepth 100000 in
/-- the law's call of water -/
theorem mL_water (l : Launch) {E : gE} {ad : Nat → Nat} {N : Nat} {w : Nat → va_E} (d o : Nat) (x0 : Int32) (x1 : Int32)  (hz : gHx E) (hn : gHn E) {fs : List Value} {post : Int32 → (Nat → va_E) → Prop} {px : String → (Nat → va_E) → Prop} (hdN : d < N) (hwd : w d = .inr (15, fs)) (hM : gXi l yX12_water (lw_ws yX12_water cX12_water 3 (some .int)) ({ frames := 7, cells := 1, slots := 6, locals := 112 } : Room) E ad N w [.ref (ad (d)), .int (x0), .int (x1)] post px 1 6) (hoN : o < N) (ho : ∀ r w', post r w' → ∃ f, w' o = loE E f) (hx9 : ∀ xc w', px xc w' → xc = xIO) : gMi l yL_water (lwH yL_water cL_water 5 (some .int) [(0, 10, 13, 13)]) ({ frames := 8, cells := 1, slots := 6, locals := 134 } : Room) E ad N w [.ref (ad (d)), .int (x0), .int (x1), .ref (ad (o))] (fun r w' => (∃ (v : Int32) (g : Nat → Int64) (w1 : Nat → va_E), r = nI 0 ∧ g 0 = v.toInt64 ∧ w' = va_up w1 o (loE E g) ∧ post v w1) ∨ (r = nI 1 ∧ px xIO w')) 1 6 := by
  refine ofWH (hh := [(0, 10, 13, 13)]) (cc := cL_water) (maxL := 5) (ret := (some .int)) (by decide) rfl ?_
  intro p e s m args below meth cd s₁ B hml hv
  obtain ⟨rfl, hI, hP⟩ := hv
  obtain ⟨S, hr, hlocks, htab⟩ := gPreH (hh := [(0, 10, 13, 13)]) B hml (C := RL) rfl
  have hx := S.1
  have hb := S.2.1
  have hS : va_S (gA E) s.heap s.heap [] := va_S.rf
  have hl := lv_entry ([.ref (ad (d)), .int (x0), .int (x1), .ref (ad (o))]) (n := 5) (Nat.le_of_ble_eq_true rfl)
  rw [lg_entry_eq]
  generalize (lg_sl ([.ref (ad (d)), .int (x0), .int (x1), .ref (ad (o))]) ++ List.replicate (5 - (lg_sl ([.ref (ad (d)), .int (x0), .int (x1), .ref (ad (o))])).length) Slot.unset).toArray = ls at hl ⊢
  have hl : lv_has ls 5 [(0, .ref (ad (d))), (1, .int (x0)), (2, .int (x1)), (3, .ref (ad (o)))] := hl
  refine lv_aload_n hx hb dL_water_0 rfl (lv_at hl 3 rfl) ?_
  refine g_iconst S 0 dL_water_1 (by decide +kernel) ?_
  refine lv_aload_n hx hb dL_water_2 rfl (lv_at hl 0 rfl) ?_
  refine lv_iload_n hx hb dL_water_3 rfl (lv_at hl 1 rfl) ?_
  refine lv_iload_n hx hb dL_water_4 rfl (lv_at hl 2 rfl) ?_
  refine g_xafi (g_xrunV S hI hP hS (k := 2) (As := [.int (x0), .int (x1)]) (rest := [.int (nI (0)), .ref (ad (o))]) hM q994 q995 q996 q82 q997 rfl rfl (by decide +kernel) ⟨(Nat.le_of_ble_eq_true rfl), (Nat.le_of_ble_eq_true rfl)⟩ rfl hdN hwd rfl hl.1 rfl (Nat.le_of_ble_eq_true rfl) ⟨(Nat.le_of_ble_eq_true rfl), (Nat.le_of_ble_eq_true rfl)⟩ dL_water_5) hS (fun xc w1 xq ce H locs hpx hP hS hcell hcv hcl => ?_) (fun rz w1 H locs hq hP hS => ?_)
  · rcases hx9 xc w1 hpx with rfl
    · refine g_catch S hI hz htab ([] : List ((Nat × Nat × Nat × Nat) × String)) (0, 10, 13, 13) [] rfl (fun t ht => absurd ht List.not_mem_nil) (by decide) ⟨by decide, by decide⟩ q835 o523 hcell hcv hcl ?_
      show W p l e _ s m _ below meth cd H locs _ _ _ (F0 m 13 ls [.ref xq])
      refine lv_astore (lv' := [(4, .ref (xq)), (0, .ref (ad (d))), (1, .int (x0)), (2, .int (x1)), (3, .ref (ad (o)))]) hx hb dL_water_13 hl (by decide) rfl (fun ls hl => ?_)
      refine g_iconst S 1 dL_water_15 (by decide +kernel) ?_
      exact g_iret S hr hlocks hP hS (Or.inr (⟨rfl, hpx⟩)) (fun _ _ => rfl) (Nat.le_of_ble_eq_true rfl) (Nat.le_of_ble_eq_true rfl) dL_water_16
  · skip
    obtain ⟨f0, hf0⟩ := ho rz w1 hq
    refine lv_i2l hx hb dL_water_8 rfl ?_
    refine g_last S hI hP hS hoN hf0 dL_water_9 (fun g H locs hg0 hP hS => ?_)
    refine lv_goto (tgt := 17) hx hb dL_water_10 (by decide) ?_
    refine g_iconst S 0 dL_water_17 (by decide +kernel) ?_
    exact g_iret S hr hlocks hP hS (Or.inl ⟨rz, g, w1, rfl, hg0, rfl, hq⟩) (fun _ _ => rfl) (Nat.le_of_ble_eq_true rfl) (Nat.le_of_ble_eq_true rfl) dL_water_18
set_option maxHeartbeats 4000000 in
set_option maxRecDepth 100000 in
/-- the law's call of endRow -/
theorem mL_endRow (l : Launch) {E : gE} {ad : Nat → Nat} {N : Nat} {w : Nat → va_E} (d o : Nat) (x0 : Int32) (x1 : Int32)  (hz : gHx E) (hn : gHn E) {fs : List Value} {post : Int32 → (Nat → va_E) → Prop} {px : String → (Nat → va_E) → Prop} (hdN : d < N) (hwd : w d = .inr (15, fs)) (hM : gXi l yX12_endRow (lw_ws yX12_endRow cX12_endRow 3 (some .int)) ({ frames := 7, cells := 1, slots := 6, locals := 112 } : Room) E ad N w [.ref (ad (d)), .int (x0), .int (x1)] post px 1 6) (hoN : o < N) (ho : ∀ r w', post r w' → ∃ f, w' o = loE E f) (hx9 : ∀ xc w', px xc w' → xc = xIO) : gMi l yL_endRow (lwH yL_endRow cL_endRow 5 (some .int) [(0, 10, 13, 13)]) ({ frames := 8, cells := 1, slots := 6, locals := 134 } : Room) E ad N w [.ref (ad (d)), .int (x0), .int (x1), .ref (ad (o))] (fun r w' => (∃ (v : Int32) (g : Nat → Int64) (w1 : Nat → va_E), r = nI 0 ∧ g 0 = v.toInt64 ∧ w' = va_up w1 o (loE E g) ∧ post v w1) ∨ (r = nI 1 ∧ px xIO w')) 1 6 := by
  refine ofWH (hh := [(0, 10, 13, 13)]) (cc := cL_endRow) (maxL := 5) (ret := (some .int)) (by decide) rfl ?_
  intro p e s m args below meth cd s₁ B hml hv
  obtain ⟨rfl, hI, hP⟩ := hv
  obtain ⟨S, hr, hlocks, htab⟩ := gPreH (hh := [(0, 10, 13, 13)]) B hml (C := RL) rfl
  have hx := S.1
  have hb := S.2.1
  have hS : va_S (gA E) s.heap s.heap [] := va_S.rf
  have hl := lv_entry ([.ref (ad (d)), .int (x0), .int (x1), .ref (ad (o))]) (n := 5) (Nat.le_of_ble_eq_true rfl)
  rw [lg_entry_eq]
  generalize (lg_sl ([.ref (ad (d)), .int (x0), .int (x1), .ref (ad (o))]) ++ List.replicate (5 - (lg_sl ([.ref (ad (d)), .int (x0), .int (x1), .ref (ad (o))])).length) Slot.unset).toArray = ls at hl ⊢
  have hl : lv_has ls 5 [(0, .ref (ad (d))), (1, .int (x0)), (2, .int (x1)), (3, .ref (ad (o)))] := hl
  refine lv_aload_n hx hb dL_endRow_0 rfl (lv_at hl 3 rfl) ?_
  refine g_iconst S 0 dL_endRow_1 (by decide +kernel) ?_
  refine lv_aload_n hx hb dL_endRow_2 rfl (lv_at hl 0 rfl) ?_
  refine lv_iload_n hx hb dL_endRow_3 rfl (lv_at hl 1 rfl) ?_
  refine lv_iload_n hx hb dL_endRow_4 rfl (lv_at hl 2 rfl) ?_
  refine g_xafi (g_xrunV S hI hP hS (k := 2) (As := [.int (x0), .int (x1)]) (rest := [.int (nI (0)), .ref (ad (o))]) hM q1001 q1002 q1003 q82 q1004 rfl rfl (by decide +kernel) ⟨(Nat.le_of_ble_eq_true rfl), (Nat.le_of_ble_eq_true rfl)⟩ rfl hdN hwd rfl hl.1 rfl (Nat.le_of_ble_eq_true rfl) ⟨(Nat.le_of_ble_eq_true rfl), (Nat.le_of_ble_eq_true rfl)⟩ dL_endRow_5) hS (fun xc w1 xq ce H locs hpx hP hS hcell hcv hcl => ?_) (fun rz w1 H locs hq hP hS => ?_)
  · rcases hx9 xc w1 hpx with rfl
    · refine g_catch S hI hz htab ([] : List ((Nat × Nat × Nat × Nat) × String)) (0, 10, 13, 13) [] rfl (fun t ht => absurd ht List.not_mem_nil) (by decide) ⟨by decide, by decide⟩ q835 o523 hcell hcv hcl ?_
      show W p l e _ s m _ below meth cd H locs _ _ _ (F0 m 13 ls [.ref xq])
      refine lv_astore (lv' := [(4, .ref (xq)), (0, .ref (ad (d))), (1, .int (x0)), (2, .int (x1)), (3, .ref (ad (o)))]) hx hb dL_endRow_13 hl (by decide) rfl (fun ls hl => ?_)
      refine g_iconst S 1 dL_endRow_15 (by decide +kernel) ?_
      exact g_iret S hr hlocks hP hS (Or.inr (⟨rfl, hpx⟩)) (fun _ _ => rfl) (Nat.le_of_ble_eq_true rfl) (Nat.le_of_ble_eq_true rfl) dL_endRow_16
  · skip
    obtain ⟨f0, hf0⟩ := ho rz w1 hq
    refine lv_i2l hx hb dL_endRow_8 rfl ?_
    refine g_last S hI hP hS hoN hf0 dL_endRow_9 (fun g H locs hg0 hP hS => ?_)
    refine lv_goto (tgt := 17) hx hb dL_endRow_10 (by decide) ?_
    refine g_iconst S 0 dL_endRow_17 (by decide +kernel) ?_
    exact g_iret S hr hlocks hP hS (Or.inl ⟨rz, g, w1, rfl, hg0, rfl, hq⟩) (fun _ _ => rfl) (Nat.le_of_ble_eq_true rfl) (Nat.le_of_ble_eq_true rfl) dL_endRow_18
set_option maxHeartbeats 4000000 in
set_option maxRecDepth 100000 in
/-- the law's call of endColumn -/
theorem mL_endColumn (l : Launch) {E : gE} {ad : Nat → Nat} {N : Nat} {w : Nat → va_E} (d o : Nat) (x0 : Int32) (x1 : Int32)  (hz : gHx E) (hn : gHn E) {fs : List Value} {post : Int32 → (Nat → va_E) → Prop} {px : String → (Nat → va_E) → Prop} (hdN : d < N) (hwd : w d = .inr (15, fs)) (hM : gXi l yX12_endColumn (lw_ws yX12_endColumn cX12_endColumn 3 (some .int)) ({ frames := 7, cells := 1, slots := 6, locals := 112 } : Room) E ad N w [.ref (ad (d)), .int (x0), .int (x1)] post px 1 6) (hoN : o < N) (ho : ∀ r w', post r w' → ∃ f, w' o = loE E f) (hx9 : ∀ xc w', px xc w' → xc = xIO) : gMi l yL_endColumn (lwH yL_endColumn cL_endColumn 5 (some .int) [(0, 10, 13, 13)]) ({ frames := 8, cells := 1, slots := 6, locals := 134 } : Room) E ad N w [.ref (ad (d)), .int (x0), .int (x1), .ref (ad (o))] (fun r w' => (∃ (v : Int32) (g : Nat → Int64) (w1 : Nat → va_E), r = nI 0 ∧ g 0 = v.toInt64 ∧ w' = va_up w1 o (loE E g) ∧ post v w1) ∨ (r = nI 1 ∧ px xIO w')) 1 6 := by
  refine ofWH (hh := [(0, 10, 13, 13)]) (cc := cL_endColumn) (maxL := 5) (ret := (some .int)) (by decide) rfl ?_
  intro p e s m args below meth cd s₁ B hml hv
  obtain ⟨rfl, hI, hP⟩ := hv
  obtain ⟨S, hr, hlocks, htab⟩ := gPreH (hh := [(0, 10, 13, 13)]) B hml (C := RL) rfl
  have hx := S.1
  have hb := S.2.1
  have hS : va_S (gA E) s.heap s.heap [] := va_S.rf
  have hl := lv_entry ([.ref (ad (d)), .int (x0), .int (x1), .ref (ad (o))]) (n := 5) (Nat.le_of_ble_eq_true rfl)
  rw [lg_entry_eq]
  generalize (lg_sl ([.ref (ad (d)), .int (x0), .int (x1), .ref (ad (o))]) ++ List.replicate (5 - (lg_sl ([.ref (ad (d)), .int (x0), .int (x1), .ref (ad (o))])).length) Slot.unset).toArray = ls at hl ⊢
  have hl : lv_has ls 5 [(0, .ref (ad (d))), (1, .int (x0)), (2, .int (x1)), (3, .ref (ad (o)))] := hl
  refine lv_aload_n hx hb dL_endColumn_0 rfl (lv_at hl 3 rfl) ?_
  refine g_iconst S 0 dL_endColumn_1 (by decide +kernel) ?_
  refine lv_aload_n hx hb dL_endColumn_2 rfl (lv_at hl 0 rfl) ?_
  refine lv_iload_n hx hb dL_endColumn_3 rfl (lv_at hl 1 rfl) ?_
  refine lv_iload_n hx hb dL_endColumn_4 rfl (lv_at hl 2 rfl) ?_
  refine g_xafi (g_xrunV S hI hP hS (k := 2) (As := [.int (x0), .int (x1)]) (rest := [.int (nI (0)), .ref (ad (o))]) hM q1009 q1010 q1011 q82 q1012 rfl rfl (by decide +kernel) ⟨(Nat.le_of_ble_eq_true rfl), (Nat.le_of_ble_eq_true rfl)⟩ rfl hdN hwd rfl hl.1 rfl (Nat.le_of_ble_eq_true rfl) ⟨(Nat.le_of_ble_eq_true rfl), (Nat.le_of_ble_eq_true rfl)⟩ dL_endColumn_5) hS (fun xc w1 xq ce H locs hpx hP hS hcell hcv hcl => ?_) (fun rz w1 H locs hq hP hS => ?_)
  · rcases hx9 xc w1 hpx with rfl
    · refine g_catch S hI hz htab ([] : List ((Nat × Nat × Nat × Nat) × String)) (0, 10, 13, 13) [] rfl (fun t ht => absurd ht List.not_mem_nil) (by decide) ⟨by decide, by decide⟩ q835 o523 hcell hcv hcl ?_
      show W p l e _ s m _ below meth cd H locs _ _ _ (F0 m 13 ls [.ref xq])
      refine lv_astore (lv' := [(4, .ref (xq)), (0, .ref (ad (d))), (1, .int (x0)), (2, .int (x1)), (3, .ref (ad (o)))]) hx hb dL_endColumn_13 hl (by decide) rfl (fun ls hl => ?_)
      refine g_iconst S 1 dL_endColumn_15 (by decide +kernel) ?_
      exact g_iret S hr hlocks hP hS (Or.inr (⟨rfl, hpx⟩)) (fun _ _ => rfl) (Nat.le_of_ble_eq_true rfl) (Nat.le_of_ble_eq_true rfl) dL_endColumn_16
  · skip
    obtain ⟨f0, hf0⟩ := ho rz w1 hq
    refine lv_i2l hx hb dL_endColumn_8 rfl ?_
    refine g_last S hI hP hS hoN hf0 dL_endColumn_9 (fun g H locs hg0 hP hS => ?_)
    refine lv_goto (tgt := 17) hx hb dL_endColumn_10 (by decide) ?_
    refine g_iconst S 0 dL_endColumn_17 (by decide +kernel) ?_
    exact g_iret S hr hlocks hP hS (Or.inl ⟨rz, g, w1, rfl, hg0, rfl, hq⟩) (fun _ _ => rfl) (Nat.le_of_ble_eq_true rfl) (Nat.le_of_ble_eq_true rfl) dL_endColumn_18
set_option maxHeartbeats 4000000 in
set_option maxRecDepth 100000 in
/-- the law's call of basinSize -/
theorem mL_basinSize (l : Launch) {E : gE} {ad : Nat → Nat} {N : Nat} {w : Nat → va_E} (d o : Nat) (x0 : Int32) (x1 : Int32)  (hz : gHx E) (hn : gHn E) {fs : List Value} {post : Int32 → (Nat → va_E) → Prop} {px : String → (Nat → va_E) → Prop} (hdN : d < N) (hwd : w d = .inr (15, fs)) (hM : gXi l yX12_basinSize (lw_ws yX12_basinSize cX12_basinSize 3 (some .int)) ({ frames := 7, cells := 1, slots := 6, locals := 117 } : Room) E ad N w [.ref (ad (d)), .int (x0), .int (x1)] post px 1 6) (hoN : o < N) (ho : ∀ r w', post r w' → ∃ f, w' o = loE E f) (hx9 : ∀ xc w', px xc w' → xc = xIO) : gMi l yL_basinSize (lwH yL_basinSize cL_basinSize 5 (some .int) [(0, 10, 13, 13)]) ({ frames := 8, cells := 1, slots := 6, locals := 139 } : Room) E ad N w [.ref (ad (d)), .int (x0), .int (x1), .ref (ad (o))] (fun r w' => (∃ (v : Int32) (g : Nat → Int64) (w1 : Nat → va_E), r = nI 0 ∧ g 0 = v.toInt64 ∧ w' = va_up w1 o (loE E g) ∧ post v w1) ∨ (r = nI 1 ∧ px xIO w')) 1 6 := by
  refine ofWH (hh := [(0, 10, 13, 13)]) (cc := cL_basinSize) (maxL := 5) (ret := (some .int)) (by decide) rfl ?_
  intro p e s m args below meth cd s₁ B hml hv
  obtain ⟨rfl, hI, hP⟩ := hv
  obtain ⟨S, hr, hlocks, htab⟩ := gPreH (hh := [(0, 10, 13, 13)]) B hml (C := RL) rfl
  have hx := S.1
  have hb := S.2.1
  have hS : va_S (gA E) s.heap s.heap [] := va_S.rf
  have hl := lv_entry ([.ref (ad (d)), .int (x0), .int (x1), .ref (ad (o))]) (n := 5) (Nat.le_of_ble_eq_true rfl)
  rw [lg_entry_eq]
  generalize (lg_sl ([.ref (ad (d)), .int (x0), .int (x1), .ref (ad (o))]) ++ List.replicate (5 - (lg_sl ([.ref (ad (d)), .int (x0), .int (x1), .ref (ad (o))])).length) Slot.unset).toArray = ls at hl ⊢
  have hl : lv_has ls 5 [(0, .ref (ad (d))), (1, .int (x0)), (2, .int (x1)), (3, .ref (ad (o)))] := hl
  refine lv_aload_n hx hb dL_basinSize_0 rfl (lv_at hl 3 rfl) ?_
  refine g_iconst S 0 dL_basinSize_1 (by decide +kernel) ?_
  refine lv_aload_n hx hb dL_basinSize_2 rfl (lv_at hl 0 rfl) ?_
  refine lv_iload_n hx hb dL_basinSize_3 rfl (lv_at hl 1 rfl) ?_
  refine lv_iload_n hx hb dL_basinSize_4 rfl (lv_at hl 2 rfl) ?_
  refine g_xafi (g_xrunV S hI hP hS (k := 2) (As := [.int (x0), .int (x1)]) (rest := [.int (nI (0)), .ref (ad (o))]) hM q1016 q1017 q1018 q82 q1019 rfl rfl (by decide +kernel) ⟨(Nat.le_of_ble_eq_true rfl), (Nat.le_of_ble_eq_true rfl)⟩ rfl hdN hwd rfl hl.1 rfl (Nat.le_of_ble_eq_true rfl) ⟨(Nat.le_of_ble_eq_true rfl), (Nat.le_of_ble_eq_true rfl)⟩ dL_basinSize_5) hS (fun xc w1 xq ce H locs hpx hP hS hcell hcv hcl => ?_) (fun rz w1 H locs hq hP hS => ?_)
  · rcases hx9 xc w1 hpx with rfl
    · refine g_catch S hI hz htab ([] : List ((Nat × Nat × Nat × Nat) × String)) (0, 10, 13, 13) [] rfl (fun t ht => absurd ht List.not_mem_nil) (by decide) ⟨by decide, by decide⟩ q835 o523 hcell hcv hcl ?_
      show W p l e _ s m _ below meth cd H locs _ _ _ (F0 m 13 ls [.ref xq])
      refine lv_astore (lv' := [(4, .ref (xq)), (0, .ref (ad (d))), (1, .int (x0)), (2, .int (x1)), (3, .ref (ad (o)))]) hx hb dL_basinSize_13 hl (by decide) rfl (fun ls hl => ?_)
      refine g_iconst S 1 dL_basinSize_15 (by decide +kernel) ?_
      exact g_iret S hr hlocks hP hS (Or.inr (⟨rfl, hpx⟩)) (fun _ _ => rfl) (Nat.le_of_ble_eq_true rfl) (Nat.le_of_ble_eq_true rfl) dL_basinSize_16
  · skip
    obtain ⟨f0, hf0⟩ := ho rz w1 hq
    refine lv_i2l hx hb dL_basinSize_8 rfl ?_
    refine g_last S hI hP hS hoN hf0 dL_basinSize_9 (fun g H locs hg0 hP hS => ?_)
    refine lv_goto (tgt := 17) hx hb dL_basinSize_10 (by decide) ?_
    refine g_iconst S 0 dL_basinSize_17 (by decide +kernel) ?_
    exact g_iret S hr hlocks hP hS (Or.inl ⟨rz, g, w1, rfl, hg0, rfl, hq⟩) (fun _ _ => rfl) (Nat.le_of_ble_eq_true rfl) (Nat.le_of_ble_eq_true rfl) dL_basinSize_18
set_option maxHeartbeats 4000000 in
set_option maxRecDepth 100000 in
/-- the law's call of basinSizeUpwards -/
theorem mL_basinSizeUpwards (l : Launch) {E : gE} {ad : Nat → Nat} {N : Nat} {w : Nat → va_E} (d o : Nat) (x0 : Int32) (x1 : Int32)  (hz : gHx E) (hn : gHn E) {fs : List Value} {post : Int32 → (Nat → va_E) → Prop} {px : String → (Nat → va_E) → Prop} (hdN : d < N) (hwd : w d = .inr (15, fs)) (hM : gXi l yX12_basinSizeUpwards (lw_ws yX12_basinSizeUpwards cX12_basinSizeUpwards 3 (some .int)) ({ frames := 7, cells := 1, slots := 6, locals := 118 } : Room) E ad N w [.ref (ad (d)), .int (x0), .int (x1)] post px 1 6) (hoN : o < N) (ho : ∀ r w', post r w' → ∃ f, w' o = loE E f) (hx9 : ∀ xc w', px xc w' → xc = xIO) : gMi l yL_basinSizeUpwards (lwH yL_basinSizeUpwards cL_basinSizeUpwards 5 (some .int) [(0, 10, 13, 13)]) ({ frames := 8, cells := 1, slots := 6, locals := 140 } : Room) E ad N w [.ref (ad (d)), .int (x0), .int (x1), .ref (ad (o))] (fun r w' => (∃ (v : Int32) (g : Nat → Int64) (w1 : Nat → va_E), r = nI 0 ∧ g 0 = v.toInt64 ∧ w' = va_up w1 o (loE E g) ∧ post v w1) ∨ (r = nI 1 ∧ px xIO w')) 1 6 := by
  refine ofWH (hh := [(0, 10, 13, 13)]) (cc := cL_basinSizeUpwards) (maxL := 5) (ret := (some .int)) (by decide) rfl ?_
  intro p e s m args below meth cd s₁ B hml hv
  obtain ⟨rfl, hI, hP⟩ := hv
  obtain ⟨S, hr, hlocks, htab⟩ := gPreH (hh := [(0, 10, 13, 13)]) B hml (C := RL) rfl
  have hx := S.1
  have hb := S.2.1
  have hS : va_S (gA E) s.heap s.heap [] := va_S.rf
  have hl := lv_entry ([.ref (ad (d)), .int (x0), .int (x1), .ref (ad (o))]) (n := 5) (Nat.le_of_ble_eq_true rfl)
  rw [lg_entry_eq]
  generalize (lg_sl ([.ref (ad (d)), .int (x0), .int (x1), .ref (ad (o))]) ++ List.replicate (5 - (lg_sl ([.ref (ad (d)), .int (x0), .int (x1), .ref (ad (o))])).length) Slot.unset).toArray = ls at hl ⊢
  have hl : lv_has ls 5 [(0, .ref (ad (d))), (1, .int (x0)), (2, .int (x1)), (3, .ref (ad (o)))] := hl
  refine lv_aload_n hx hb dL_basinSizeUpwards_0 rfl (lv_at hl 3 rfl) ?_
  refine g_iconst S 0 dL_basinSizeUpwards_1 (by decide +kernel) ?_
  refine lv_aload_n hx hb dL_basinSizeUpwards_2 rfl (lv_at hl 0 rfl) ?_
  refine lv_iload_n hx hb dL_basinSizeUpwards_3 rfl (lv_at hl 1 rfl) ?_
  refine lv_iload_n hx hb dL_basinSizeUpwards_4 rfl (lv_at hl 2 rfl) ?_
  refine g_xafi (g_xrunV S hI hP hS (k := 2) (As := [.int (x0), .int (x1)]) (rest := [.int (nI (0)), .ref (ad (o))]) hM q1028 q1029 q1030 q82 q1031 rfl rfl (by decide +kernel) ⟨(Nat.le_of_ble_eq_true rfl), (Nat.le_of_ble_eq_true rfl)⟩ rfl hdN hwd rfl hl.1 rfl (Nat.le_of_ble_eq_true rfl) ⟨(Nat.le_of_ble_eq_true rfl), (Nat.le_of_ble_eq_true rfl)⟩ dL_basinSizeUpwards_5) hS (fun xc w1 xq ce H locs hpx hP hS hcell hcv hcl => ?_) (fun rz w1 H locs hq hP hS => ?_)
  · rcases hx9 xc w1 hpx with rfl
    · refine g_catch S hI hz htab ([] : List ((Nat × Nat × Nat × Nat) × String)) (0, 10, 13, 13) [] rfl (fun t ht => absurd ht List.not_mem_nil) (by decide) ⟨by decide, by decide⟩ q835 o523 hcell hcv hcl ?_
      show W p l e _ s m _ below meth cd H locs _ _ _ (F0 m 13 ls [.ref xq])
      refine lv_astore (lv' := [(4, .ref (xq)), (0, .ref (ad (d))), (1, .int (x0)), (2, .int (x1)), (3, .ref (ad (o)))]) hx hb dL_basinSizeUpwards_13 hl (by decide) rfl (fun ls hl => ?_)
      refine g_iconst S 1 dL_basinSizeUpwards_15 (by decide +kernel) ?_
      exact g_iret S hr hlocks hP hS (Or.inr (⟨rfl, hpx⟩)) (fun _ _ => rfl) (Nat.le_of_ble_eq_true rfl) (Nat.le_of_ble_eq_true rfl) dL_basinSizeUpwards_16
  · skip
    obtain ⟨f0, hf0⟩ := ho rz w1 hq
    refine lv_i2l hx hb dL_basinSizeUpwards_8 rfl ?_
    refine g_last S hI hP hS hoN hf0 dL_basinSizeUpwards_9 (fun g H locs hg0 hP hS => ?_)
    refine lv_goto (tgt := 17) hx hb dL_basinSizeUpwards_10 (by decide) ?_
    refine g_iconst S 0 dL_basinSizeUpwards_17 (by decide +kernel) ?_
    exact g_iret S hr hlocks hP hS (Or.inl ⟨rz, g, w1, rfl, hg0, rfl, hq⟩) (fun _ _ => rfl) (Nat.le_of_ble_eq_true rfl) (Nat.le_of_ble_eq_true rfl) dL_basinSizeUpwards_18
set_option maxHeartbeats 4000000 in
set_option maxRecDepth 100000 in
/-- the law's call of spillLevel -/
theorem mL_spillLevel (l : Launch) {E : gE} {ad : Nat → Nat} {N : Nat} {w : Nat → va_E} (d o : Nat) (x0 : Int32) (x1 : Int32)  (hz : gHx E) (hn : gHn E) {fs : List Value} {post : Int32 → (Nat → va_E) → Prop} {px : String → (Nat → va_E) → Prop} (hdN : d < N) (hwd : w d = .inr (15, fs)) (hM : gXi l yX12_spillLevel (lw_ws yX12_spillLevel cX12_spillLevel 3 (some .int)) ({ frames := 7, cells := 1, slots := 6, locals := 114 } : Room) E ad N w [.ref (ad (d)), .int (x0), .int (x1)] post px 1 6) (hoN : o < N) (ho : ∀ r w', post r w' → ∃ f, w' o = loE E f) (hx9 : ∀ xc w', px xc w' → xc = xIO) : gMi l yL_spillLevel (lwH yL_spillLevel cL_spillLevel 5 (some .int) [(0, 10, 13, 13)]) ({ frames := 8, cells := 1, slots := 6, locals := 136 } : Room) E ad N w [.ref (ad (d)), .int (x0), .int (x1), .ref (ad (o))] (fun r w' => (∃ (v : Int32) (g : Nat → Int64) (w1 : Nat → va_E), r = nI 0 ∧ g 0 = v.toInt64 ∧ w' = va_up w1 o (loE E g) ∧ post v w1) ∨ (r = nI 1 ∧ px xIO w')) 1 6 := by
  refine ofWH (hh := [(0, 10, 13, 13)]) (cc := cL_spillLevel) (maxL := 5) (ret := (some .int)) (by decide) rfl ?_
  intro p e s m args below meth cd s₁ B hml hv
  obtain ⟨rfl, hI, hP⟩ := hv
  obtain ⟨S, hr, hlocks, htab⟩ := gPreH (hh := [(0, 10, 13, 13)]) B hml (C := RL) rfl
  have hx := S.1
  have hb := S.2.1
  have hS : va_S (gA E) s.heap s.heap [] := va_S.rf
  have hl := lv_entry ([.ref (ad (d)), .int (x0), .int (x1), .ref (ad (o))]) (n := 5) (Nat.le_of_ble_eq_true rfl)
  rw [lg_entry_eq]
  generalize (lg_sl ([.ref (ad (d)), .int (x0), .int (x1), .ref (ad (o))]) ++ List.replicate (5 - (lg_sl ([.ref (ad (d)), .int (x0), .int (x1), .ref (ad (o))])).length) Slot.unset).toArray = ls at hl ⊢
  have hl : lv_has ls 5 [(0, .ref (ad (d))), (1, .int (x0)), (2, .int (x1)), (3, .ref (ad (o)))] := hl
  refine lv_aload_n hx hb dL_spillLevel_0 rfl (lv_at hl 3 rfl) ?_
  refine g_iconst S 0 dL_spillLevel_1 (by decide +kernel) ?_
  refine lv_aload_n hx hb dL_spillLevel_2 rfl (lv_at hl 0 rfl) ?_
  refine lv_iload_n hx hb dL_spillLevel_3 rfl (lv_at hl 1 rfl) ?_
  refine lv_iload_n hx hb dL_spillLevel_4 rfl (lv_at hl 2 rfl) ?_
  refine g_xafi (g_xrunV S hI hP hS (k := 2) (As := [.int (x0), .int (x1)]) (rest := [.int (nI (0)), .ref (ad (o))]) hM q1039 q1040 q1041 q82 q1042 rfl rfl (by decide +kernel) ⟨(Nat.le_of_ble_eq_true rfl), (Nat.le_of_ble_eq_true rfl)⟩ rfl hdN hwd rfl hl.1 rfl (Nat.le_of_ble_eq_true rfl) ⟨(Nat.le_of_ble_eq_true rfl), (Nat.le_of_ble_eq_true rfl)⟩ dL_spillLevel_5) hS (fun xc w1 xq ce H locs hpx hP hS hcell hcv hcl => ?_) (fun rz w1 H locs hq hP hS => ?_)
  · rcases hx9 xc w1 hpx with rfl
    · refine g_catch S hI hz htab ([] : List ((Nat × Nat × Nat × Nat) × String)) (0, 10, 13, 13) [] rfl (fun t ht => absurd ht List.not_mem_nil) (by decide) ⟨by decide, by decide⟩ q835 o523 hcell hcv hcl ?_
      show W p l e _ s m _ below meth cd H locs _ _ _ (F0 m 13 ls [.ref xq])
      refine lv_astore (lv' := [(4, .ref (xq)), (0, .ref (ad (d))), (1, .int (x0)), (2, .int (x1)), (3, .ref (ad (o)))]) hx hb dL_spillLevel_13 hl (by decide) rfl (fun ls hl => ?_)
      refine g_iconst S 1 dL_spillLevel_15 (by decide +kernel) ?_
      exact g_iret S hr hlocks hP hS (Or.inr (⟨rfl, hpx⟩)) (fun _ _ => rfl) (Nat.le_of_ble_eq_true rfl) (Nat.le_of_ble_eq_true rfl) dL_spillLevel_16
  · skip
    obtain ⟨f0, hf0⟩ := ho rz w1 hq
    refine lv_i2l hx hb dL_spillLevel_8 rfl ?_
    refine g_last S hI hP hS hoN hf0 dL_spillLevel_9 (fun g H locs hg0 hP hS => ?_)
    refine lv_goto (tgt := 17) hx hb dL_spillLevel_10 (by decide) ?_
    refine g_iconst S 0 dL_spillLevel_17 (by decide +kernel) ?_
    exact g_iret S hr hlocks hP hS (Or.inl ⟨rz, g, w1, rfl, hg0, rfl, hq⟩) (fun _ _ => rfl) (Nat.le_of_ble_eq_true rfl) (Nat.le_of_ble_eq_true rfl) dL_spillLevel_18
set_option maxHeartbeats 4000000 in
set_option maxRecDepth 100000 in
/-- the law's call of spillLevelByRounds -/
theorem mL_spillLevelByRounds (l : Launch) {E : gE} {ad : Nat → Nat} {N : Nat} {w : Nat → va_E} (d o : Nat) (x0 : Int32) (x1 : Int32)  (hz : gHx E) (hn : gHn E) {fs : List Value} {post : Int32 → (Nat → va_E) → Prop} {px : String → (Nat → va_E) → Prop} (hdN : d < N) (hwd : w d = .inr (15, fs)) (hM : gXi l yX12_spillLevelByRounds (lw_ws yX12_spillLevelByRounds cX12_spillLevelByRounds 3 (some .int)) ({ frames := 7, cells := 1, slots := 6, locals := 112 } : Room) E ad N w [.ref (ad (d)), .int (x0), .int (x1)] post px 1 6) (hoN : o < N) (ho : ∀ r w', post r w' → ∃ f, w' o = loE E f) (hx9 : ∀ xc w', px xc w' → xc = xIO) : gMi l yL_spillLevelByRounds (lwH yL_spillLevelByRounds cL_spillLevelByRounds 5 (some .int) [(0, 10, 13, 13)]) ({ frames := 8, cells := 1, slots := 6, locals := 134 } : Room) E ad N w [.ref (ad (d)), .int (x0), .int (x1), .ref (ad (o))] (fun r w' => (∃ (v : Int32) (g : Nat → Int64) (w1 : Nat → va_E), r = nI 0 ∧ g 0 = v.toInt64 ∧ w' = va_up w1 o (loE E g) ∧ post v w1) ∨ (r = nI 1 ∧ px xIO w')) 1 6 := by
  refine ofWH (hh := [(0, 10, 13, 13)]) (cc := cL_spillLevelByRounds) (maxL := 5) (ret := (some .int)) (by decide) rfl ?_
  intro p e s m args below meth cd s₁ B hml hv
  obtain ⟨rfl, hI, hP⟩ := hv
  obtain ⟨S, hr, hlocks, htab⟩ := gPreH (hh := [(0, 10, 13, 13)]) B hml (C := RL) rfl
  have hx := S.1
  have hb := S.2.1
  have hS : va_S (gA E) s.heap s.heap [] := va_S.rf
  have hl := lv_entry ([.ref (ad (d)), .int (x0), .int (x1), .ref (ad (o))]) (n := 5) (Nat.le_of_ble_eq_true rfl)
  rw [lg_entry_eq]
  generalize (lg_sl ([.ref (ad (d)), .int (x0), .int (x1), .ref (ad (o))]) ++ List.replicate (5 - (lg_sl ([.ref (ad (d)), .int (x0), .int (x1), .ref (ad (o))])).length) Slot.unset).toArray = ls at hl ⊢
  have hl : lv_has ls 5 [(0, .ref (ad (d))), (1, .int (x0)), (2, .int (x1)), (3, .ref (ad (o)))] := hl
  refine lv_aload_n hx hb dL_spillLevelByRounds_0 rfl (lv_at hl 3 rfl) ?_
  refine g_iconst S 0 dL_spillLevelByRounds_1 (by decide +kernel) ?_
  refine lv_aload_n hx hb dL_spillLevelByRounds_2 rfl (lv_at hl 0 rfl) ?_
  refine lv_iload_n hx hb dL_spillLevelByRounds_3 rfl (lv_at hl 1 rfl) ?_
  refine lv_iload_n hx hb dL_spillLevelByRounds_4 rfl (lv_at hl 2 rfl) ?_
  refine g_xafi (g_xrunV S hI hP hS (k := 2) (As := [.int (x0), .int (x1)]) (rest := [.int (nI (0)), .ref (ad (o))]) hM q1050 q1051 q1052 q82 q1053 rfl rfl (by decide +kernel) ⟨(Nat.le_of_ble_eq_true rfl), (Nat.le_of_ble_eq_true rfl)⟩ rfl hdN hwd rfl hl.1 rfl (Nat.le_of_ble_eq_true rfl) ⟨(Nat.le_of_ble_eq_true rfl), (Nat.le_of_ble_eq_true rfl)⟩ dL_spillLevelByRounds_5) hS (fun xc w1 xq ce H locs hpx hP hS hcell hcv hcl => ?_) (fun rz w1 H locs hq hP hS => ?_)
  · rcases hx9 xc w1 hpx with rfl
    · refine g_catch S hI hz htab ([] : List ((Nat × Nat × Nat × Nat) × String)) (0, 10, 13, 13) [] rfl (fun t ht => absurd ht List.not_mem_nil) (by decide) ⟨by decide, by decide⟩ q835 o523 hcell hcv hcl ?_
      show W p l e _ s m _ below meth cd H locs _ _ _ (F0 m 13 ls [.ref xq])
      refine lv_astore (lv' := [(4, .ref (xq)), (0, .ref (ad (d))), (1, .int (x0)), (2, .int (x1)), (3, .ref (ad (o)))]) hx hb dL_spillLevelByRounds_13 hl (by decide) rfl (fun ls hl => ?_)
      refine g_iconst S 1 dL_spillLevelByRounds_15 (by decide +kernel) ?_
      exact g_iret S hr hlocks hP hS (Or.inr (⟨rfl, hpx⟩)) (fun _ _ => rfl) (Nat.le_of_ble_eq_true rfl) (Nat.le_of_ble_eq_true rfl) dL_spillLevelByRounds_16
  · skip
    obtain ⟨f0, hf0⟩ := ho rz w1 hq
    refine lv_i2l hx hb dL_spillLevelByRounds_8 rfl ?_
    refine g_last S hI hP hS hoN hf0 dL_spillLevelByRounds_9 (fun g H locs hg0 hP hS => ?_)
    refine lv_goto (tgt := 17) hx hb dL_spillLevelByRounds_10 (by decide) ?_
    refine g_iconst S 0 dL_spillLevelByRounds_17 (by decide +kernel) ?_
    exact g_iret S hr hlocks hP hS (Or.inl ⟨rz, g, w1, rfl, hg0, rfl, hq⟩) (fun _ _ => rfl) (Nat.le_of_ble_eq_true rfl) (Nat.le_of_ble_eq_true rfl) dL_spillLevelByRounds_18
set_option maxHeartbeats 4000000 in
set_option maxRecDepth 100000 in
/-- the law's call of routeCost -/
theorem mL_routeCost (l : Launch) {E : gE} {ad : Nat → Nat} {N : Nat} {w : Nat → va_E} (d o : Nat) (x0 : Int32) (x1 : Int32) (x2 : Int32) (x3 : Int32)  (hz : gHx E) (hn : gHn E) {fs : List Value} {post : Int32 → (Nat → va_E) → Prop} {px : String → (Nat → va_E) → Prop} (hdN : d < N) (hwd : w d = .inr (15, fs)) (hM : gXi l yX12_routeCost (lw_ws yX12_routeCost cX12_routeCost 7 (some .int)) ({ frames := 7, cells := 3, slots := 18, locals := 116 } : Room) E ad N w [.ref (ad (d)), .int (x0), .int (x1), .int (x2), .int (x3)] post px 3 18) (hoN : o < N) (ho : ∀ r w', post r w' → ∃ f, w' o = loE E f) (hx9 : ∀ xc w', px xc w' → xc = xIO ∨ xc = xNS) : gMi l yL_routeCost (lwH yL_routeCost cL_routeCost 7 (some .int) [(0, 14, 17, 13), (0, 14, 21, 37)]) ({ frames := 8, cells := 3, slots := 18, locals := 142 } : Room) E ad N w [.ref (ad (d)), .int (x0), .int (x1), .int (x2), .int (x3), .ref (ad (o))] (fun r w' => (∃ (v : Int32) (g : Nat → Int64) (w1 : Nat → va_E), r = nI 0 ∧ g 0 = v.toInt64 ∧ w' = va_up w1 o (loE E g) ∧ post v w1) ∨ (r = nI 1 ∧ px xIO w') ∨ (r = nI 2 ∧ px xNS w')) 3 18 := by
  refine ofWH (hh := [(0, 14, 17, 13), (0, 14, 21, 37)]) (cc := cL_routeCost) (maxL := 7) (ret := (some .int)) (by decide) rfl ?_
  intro p e s m args below meth cd s₁ B hml hv
  obtain ⟨rfl, hI, hP⟩ := hv
  obtain ⟨S, hr, hlocks, htab⟩ := gPreH (hh := [(0, 14, 17, 13), (0, 14, 21, 37)]) B hml (C := RL) rfl
  have hx := S.1
  have hb := S.2.1
  have hS : va_S (gA E) s.heap s.heap [] := va_S.rf
  have hl := lv_entry ([.ref (ad (d)), .int (x0), .int (x1), .int (x2), .int (x3), .ref (ad (o))]) (n := 7) (Nat.le_of_ble_eq_true rfl)
  rw [lg_entry_eq]
  generalize (lg_sl ([.ref (ad (d)), .int (x0), .int (x1), .int (x2), .int (x3), .ref (ad (o))]) ++ List.replicate (7 - (lg_sl ([.ref (ad (d)), .int (x0), .int (x1), .int (x2), .int (x3), .ref (ad (o))])).length) Slot.unset).toArray = ls at hl ⊢
  have hl : lv_has ls 7 [(0, .ref (ad (d))), (1, .int (x0)), (2, .int (x1)), (3, .int (x2)), (4, .int (x3)), (5, .ref (ad (o)))] := hl
  refine lv_aload hx hb dL_routeCost_0 (lv_at hl 5 rfl) ?_
  refine g_iconst S 0 dL_routeCost_2 (by decide +kernel) ?_
  refine lv_aload_n hx hb dL_routeCost_3 rfl (lv_at hl 0 rfl) ?_
  refine lv_iload_n hx hb dL_routeCost_4 rfl (lv_at hl 1 rfl) ?_
  refine lv_iload_n hx hb dL_routeCost_5 rfl (lv_at hl 2 rfl) ?_
  refine lv_iload_n hx hb dL_routeCost_6 rfl (lv_at hl 3 rfl) ?_
  refine lv_iload hx hb dL_routeCost_7 (lv_at hl 4 rfl) ?_
  refine g_xafi (g_xrunV S hI hP hS (k := 4) (As := [.int (x0), .int (x1), .int (x2), .int (x3)]) (rest := [.int (nI (0)), .ref (ad (o))]) hM q1065 q1066 q1067 q82 q1068 rfl rfl (by decide +kernel) ⟨(Nat.le_of_ble_eq_true rfl), (Nat.le_of_ble_eq_true rfl)⟩ rfl hdN hwd rfl hl.1 rfl (Nat.le_of_ble_eq_true rfl) ⟨(Nat.le_of_ble_eq_true rfl), (Nat.le_of_ble_eq_true rfl)⟩ dL_routeCost_9) hS (fun xc w1 xq ce H locs hpx hP hS hcell hcv hcl => ?_) (fun rz w1 H locs hq hP hS => ?_)
  · rcases hx9 xc w1 hpx with rfl | rfl
    · refine g_catch S hI hz htab ([] : List ((Nat × Nat × Nat × Nat) × String)) (0, 14, 17, 13) [(0, 14, 21, 37)] rfl (fun t ht => absurd ht List.not_mem_nil) (by decide) ⟨by decide, by decide⟩ q835 o523 hcell hcv hcl ?_
      show W p l e _ s m _ below meth cd H locs _ _ _ (F0 m 17 ls [.ref xq])
      refine lv_astore (lv' := [(6, .ref (xq)), (0, .ref (ad (d))), (1, .int (x0)), (2, .int (x1)), (3, .int (x2)), (4, .int (x3)), (5, .ref (ad (o)))]) hx hb dL_routeCost_17 hl (by decide) rfl (fun ls hl => ?_)
      refine g_iconst S 1 dL_routeCost_19 (by decide +kernel) ?_
      exact g_iret S hr hlocks hP hS (Or.inr (Or.inl ⟨rfl, hpx⟩)) (fun _ _ => rfl) (Nat.le_of_ble_eq_true rfl) (Nat.le_of_ble_eq_true rfl) dL_routeCost_20
    · refine g_catch S hI hz htab ([((0, 14, 17, 13), "java/lang/IndexOutOfBoundsException")] : List ((Nat × Nat × Nat × Nat) × String)) (0, 14, 21, 37) [] rfl (fun t ht => by simp only [List.mem_cons, List.not_mem_nil, or_false] at ht; rcases ht with rfl; exact ⟨by decide, q835, hn s s.heap hI.2.2.2.2 ("java/util/NoSuchElementException", "java/lang/IndexOutOfBoundsException") (by simp [gNl])⟩) (by decide) ⟨by decide, by decide⟩ q883 o894 hcell hcv hcl ?_
      show W p l e _ s m _ below meth cd H locs _ _ _ (F0 m 21 ls [.ref xq])
      refine lv_astore (lv' := [(6, .ref (xq)), (0, .ref (ad (d))), (1, .int (x0)), (2, .int (x1)), (3, .int (x2)), (4, .int (x3)), (5, .ref (ad (o)))]) hx hb dL_routeCost_21 hl (by decide) rfl (fun ls hl => ?_)
      refine g_iconst S 2 dL_routeCost_23 (by decide +kernel) ?_
      exact g_iret S hr hlocks hP hS (Or.inr (Or.inr (⟨rfl, hpx⟩))) (fun _ _ => rfl) (Nat.le_of_ble_eq_true rfl) (Nat.le_of_ble_eq_true rfl) dL_routeCost_24
  · skip
    obtain ⟨f0, hf0⟩ := ho rz w1 hq
    refine lv_i2l hx hb dL_routeCost_12 rfl ?_
    refine g_last S hI hP hS hoN hf0 dL_routeCost_13 (fun g H locs hg0 hP hS => ?_)
    refine lv_goto (tgt := 25) hx hb dL_routeCost_14 (by decide) ?_
    refine g_iconst S 0 dL_routeCost_25 (by decide +kernel) ?_
    exact g_iret S hr hlocks hP hS (Or.inl ⟨rz, g, w1, rfl, hg0, rfl, hq⟩) (fun _ _ => rfl) (Nat.le_of_ble_eq_true rfl) (Nat.le_of_ble_eq_true rfl) dL_routeCost_26
set_option maxHeartbeats 4000000 in
set_option maxRecDepth 100000 in
/-- the law's call of routeCostByRounds -/
theorem mL_routeCostByRounds (l : Launch) {E : gE} {ad : Nat → Nat} {N : Nat} {w : Nat → va_E} (d o : Nat) (x0 : Int32) (x1 : Int32) (x2 : Int32) (x3 : Int32)  (hz : gHx E) (hn : gHn E) {fs : List Value} {post : Int32 → (Nat → va_E) → Prop} {px : String → (Nat → va_E) → Prop} (hdN : d < N) (hwd : w d = .inr (15, fs)) (hM : gXi l yX12_routeCostByRounds (lw_ws yX12_routeCostByRounds cX12_routeCostByRounds 7 (some .int)) ({ frames := 7, cells := 3, slots := 18, locals := 117 } : Room) E ad N w [.ref (ad (d)), .int (x0), .int (x1), .int (x2), .int (x3)] post px 3 18) (hoN : o < N) (ho : ∀ r w', post r w' → ∃ f, w' o = loE E f) (hx9 : ∀ xc w', px xc w' → xc = xIO ∨ xc = xNS) : gMi l yL_routeCostByRounds (lwH yL_routeCostByRounds cL_routeCostByRounds 7 (some .int) [(0, 14, 17, 13), (0, 14, 21, 37)]) ({ frames := 8, cells := 3, slots := 18, locals := 143 } : Room) E ad N w [.ref (ad (d)), .int (x0), .int (x1), .int (x2), .int (x3), .ref (ad (o))] (fun r w' => (∃ (v : Int32) (g : Nat → Int64) (w1 : Nat → va_E), r = nI 0 ∧ g 0 = v.toInt64 ∧ w' = va_up w1 o (loE E g) ∧ post v w1) ∨ (r = nI 1 ∧ px xIO w') ∨ (r = nI 2 ∧ px xNS w')) 3 18 := by
  refine ofWH (hh := [(0, 14, 17, 13), (0, 14, 21, 37)]) (cc := cL_routeCostByRounds) (maxL := 7) (ret := (some .int)) (by decide) rfl ?_
  intro p e s m args below meth cd s₁ B hml hv
  obtain ⟨rfl, hI, hP⟩ := hv
  obtain ⟨S, hr, hlocks, htab⟩ := gPreH (hh := [(0, 14, 17, 13), (0, 14, 21, 37)]) B hml (C := RL) rfl
  have hx := S.1
  have hb := S.2.1
  have hS : va_S (gA E) s.heap s.heap [] := va_S.rf
  have hl := lv_entry ([.ref (ad (d)), .int (x0), .int (x1), .int (x2), .int (x3), .ref (ad (o))]) (n := 7) (Nat.le_of_ble_eq_true rfl)
  rw [lg_entry_eq]
  generalize (lg_sl ([.ref (ad (d)), .int (x0), .int (x1), .int (x2), .int (x3), .ref (ad (o))]) ++ List.replicate (7 - (lg_sl ([.ref (ad (d)), .int (x0), .int (x1), .int (x2), .int (x3), .ref (ad (o))])).length) Slot.unset).toArray = ls at hl ⊢
  have hl : lv_has ls 7 [(0, .ref (ad (d))), (1, .int (x0)), (2, .int (x1)), (3, .int (x2)), (4, .int (x3)), (5, .ref (ad (o)))] := hl
  refine lv_aload hx hb dL_routeCostByRounds_0 (lv_at hl 5 rfl) ?_
  refine g_iconst S 0 dL_routeCostByRounds_2 (by decide +kernel) ?_
  refine lv_aload_n hx hb dL_routeCostByRounds_3 rfl (lv_at hl 0 rfl) ?_
  refine lv_iload_n hx hb dL_routeCostByRounds_4 rfl (lv_at hl 1 rfl) ?_
  refine lv_iload_n hx hb dL_routeCostByRounds_5 rfl (lv_at hl 2 rfl) ?_
  refine lv_iload_n hx hb dL_routeCostByRounds_6 rfl (lv_at hl 3 rfl) ?_
  refine lv_iload hx hb dL_routeCostByRounds_7 (lv_at hl 4 rfl) ?_
  refine g_xafi (g_xrunV S hI hP hS (k := 4) (As := [.int (x0), .int (x1), .int (x2), .int (x3)]) (rest := [.int (nI (0)), .ref (ad (o))]) hM q1105 q1106 q1107 q82 q1108 rfl rfl (by decide +kernel) ⟨(Nat.le_of_ble_eq_true rfl), (Nat.le_of_ble_eq_true rfl)⟩ rfl hdN hwd rfl hl.1 rfl (Nat.le_of_ble_eq_true rfl) ⟨(Nat.le_of_ble_eq_true rfl), (Nat.le_of_ble_eq_true rfl)⟩ dL_routeCostByRounds_9) hS (fun xc w1 xq ce H locs hpx hP hS hcell hcv hcl => ?_) (fun rz w1 H locs hq hP hS => ?_)
  · rcases hx9 xc w1 hpx with rfl | rfl
    · refine g_catch S hI hz htab ([] : List ((Nat × Nat × Nat × Nat) × String)) (0, 14, 17, 13) [(0, 14, 21, 37)] rfl (fun t ht => absurd ht List.not_mem_nil) (by decide) ⟨by decide, by decide⟩ q835 o523 hcell hcv hcl ?_
      show W p l e _ s m _ below meth cd H locs _ _ _ (F0 m 17 ls [.ref xq])
      refine lv_astore (lv' := [(6, .ref (xq)), (0, .ref (ad (d))), (1, .int (x0)), (2, .int (x1)), (3, .int (x2)), (4, .int (x3)), (5, .ref (ad (o)))]) hx hb dL_routeCostByRounds_17 hl (by decide) rfl (fun ls hl => ?_)
      refine g_iconst S 1 dL_routeCostByRounds_19 (by decide +kernel) ?_
      exact g_iret S hr hlocks hP hS (Or.inr (Or.inl ⟨rfl, hpx⟩)) (fun _ _ => rfl) (Nat.le_of_ble_eq_true rfl) (Nat.le_of_ble_eq_true rfl) dL_routeCostByRounds_20
    · refine g_catch S hI hz htab ([((0, 14, 17, 13), "java/lang/IndexOutOfBoundsException")] : List ((Nat × Nat × Nat × Nat) × String)) (0, 14, 21, 37) [] rfl (fun t ht => by simp only [List.mem_cons, List.not_mem_nil, or_false] at ht; rcases ht with rfl; exact ⟨by decide, q835, hn s s.heap hI.2.2.2.2 ("java/util/NoSuchElementException", "java/lang/IndexOutOfBoundsException") (by simp [gNl])⟩) (by decide) ⟨by decide, by decide⟩ q883 o894 hcell hcv hcl ?_
      show W p l e _ s m _ below meth cd H locs _ _ _ (F0 m 21 ls [.ref xq])
      refine lv_astore (lv' := [(6, .ref (xq)), (0, .ref (ad (d))), (1, .int (x0)), (2, .int (x1)), (3, .int (x2)), (4, .int (x3)), (5, .ref (ad (o)))]) hx hb dL_routeCostByRounds_21 hl (by decide) rfl (fun ls hl => ?_)
      refine g_iconst S 2 dL_routeCostByRounds_23 (by decide +kernel) ?_
      exact g_iret S hr hlocks hP hS (Or.inr (Or.inr (⟨rfl, hpx⟩))) (fun _ _ => rfl) (Nat.le_of_ble_eq_true rfl) (Nat.le_of_ble_eq_true rfl) dL_routeCostByRounds_24
  · skip
    obtain ⟨f0, hf0⟩ := ho rz w1 hq
    refine lv_i2l hx hb dL_routeCostByRounds_12 rfl ?_
    refine g_last S hI hP hS hoN hf0 dL_routeCostByRounds_13 (fun g H locs hg0 hP hS => ?_)
    refine lv_goto (tgt := 25) hx hb dL_routeCostByRounds_14 (by decide) ?_
    refine g_iconst S 0 dL_routeCostByRounds_25 (by decide +kernel) ?_
    exact g_iret S hr hlocks hP hS (Or.inl ⟨rz, g, w1, rfl, hg0, rfl, hq⟩) (fun _ _ => rfl) (Nat.le_of_ble_eq_true rfl) (Nat.le_of_ble_eq_true rfl) dL_routeCostByRounds_26
set_option maxHeartbeats 4000000 in
set_option maxRecDepth 100000 in
/-- the law's call of steepestStep -/
theorem mL_steepestStep (l : Launch) {E : gE} {ad : Nat → Nat} {N : Nat} {w : Nat → va_E} (d o : Nat) (x0 : Int32) (x1 : Int32) (x2 : Int32) (x3 : Int32)  (hz : gHx E) (hn : gHn E) {fs : List Value} {post : Int32 → (Nat → va_E) → Prop} {px : String → (Nat → va_E) → Prop} (hdN : d < N) (hwd : w d = .inr (15, fs)) (hM : gXi l yX12_steepestStep (lw_ws yX12_steepestStep cX12_steepestStep 7 (some .int)) ({ frames := 7, cells := 3, slots := 18, locals := 118 } : Room) E ad N w [.ref (ad (d)), .int (x0), .int (x1), .int (x2), .int (x3)] post px 3 18) (hoN : o < N) (ho : ∀ r w', post r w' → ∃ f, w' o = loE E f) (hx9 : ∀ xc w', px xc w' → xc = xIO ∨ xc = xNS) : gMi l yL_steepestStep (lwH yL_steepestStep cL_steepestStep 7 (some .int) [(0, 14, 17, 13), (0, 14, 21, 37)]) ({ frames := 8, cells := 3, slots := 18, locals := 144 } : Room) E ad N w [.ref (ad (d)), .int (x0), .int (x1), .int (x2), .int (x3), .ref (ad (o))] (fun r w' => (∃ (v : Int32) (g : Nat → Int64) (w1 : Nat → va_E), r = nI 0 ∧ g 0 = v.toInt64 ∧ w' = va_up w1 o (loE E g) ∧ post v w1) ∨ (r = nI 1 ∧ px xIO w') ∨ (r = nI 2 ∧ px xNS w')) 3 18 := by
  refine ofWH (hh := [(0, 14, 17, 13), (0, 14, 21, 37)]) (cc := cL_steepestStep) (maxL := 7) (ret := (some .int)) (by decide) rfl ?_
  intro p e s m args below meth cd s₁ B hml hv
  obtain ⟨rfl, hI, hP⟩ := hv
  obtain ⟨S, hr, hlocks, htab⟩ := gPreH (hh := [(0, 14, 17, 13), (0, 14, 21, 37)]) B hml (C := RL) rfl
  have hx := S.1
  have hb := S.2.1
  have hS : va_S (gA E) s.heap s.heap [] := va_S.rf
  have hl := lv_entry ([.ref (ad (d)), .int (x0), .int (x1), .int (x2), .int (x3), .ref (ad (o))]) (n := 7) (Nat.le_of_ble_eq_true rfl)
  rw [lg_entry_eq]
  generalize (lg_sl ([.ref (ad (d)), .int (x0), .int (x1), .int (x2), .int (x3), .ref (ad (o))]) ++ List.replicate (7 - (lg_sl ([.ref (ad (d)), .int (x0), .int (x1), .int (x2), .int (x3), .ref (ad (o))])).length) Slot.unset).toArray = ls at hl ⊢
  have hl : lv_has ls 7 [(0, .ref (ad (d))), (1, .int (x0)), (2, .int (x1)), (3, .int (x2)), (4, .int (x3)), (5, .ref (ad (o)))] := hl
  refine lv_aload hx hb dL_steepestStep_0 (lv_at hl 5 rfl) ?_
  refine g_iconst S 0 dL_steepestStep_2 (by decide +kernel) ?_
  refine lv_aload_n hx hb dL_steepestStep_3 rfl (lv_at hl 0 rfl) ?_
  refine lv_iload_n hx hb dL_steepestStep_4 rfl (lv_at hl 1 rfl) ?_
  refine lv_iload_n hx hb dL_steepestStep_5 rfl (lv_at hl 2 rfl) ?_
  refine lv_iload_n hx hb dL_steepestStep_6 rfl (lv_at hl 3 rfl) ?_
  refine lv_iload hx hb dL_steepestStep_7 (lv_at hl 4 rfl) ?_
  refine g_xafi (g_xrunV S hI hP hS (k := 4) (As := [.int (x0), .int (x1), .int (x2), .int (x3)]) (rest := [.int (nI (0)), .ref (ad (o))]) hM q1120 q1121 q1122 q82 q1123 rfl rfl (by decide +kernel) ⟨(Nat.le_of_ble_eq_true rfl), (Nat.le_of_ble_eq_true rfl)⟩ rfl hdN hwd rfl hl.1 rfl (Nat.le_of_ble_eq_true rfl) ⟨(Nat.le_of_ble_eq_true rfl), (Nat.le_of_ble_eq_true rfl)⟩ dL_steepestStep_9) hS (fun xc w1 xq ce H locs hpx hP hS hcell hcv hcl => ?_) (fun rz w1 H locs hq hP hS => ?_)
  · rcases hx9 xc w1 hpx with rfl | rfl
    · refine g_catch S hI hz htab ([] : List ((Nat × Nat × Nat × Nat) × String)) (0, 14, 17, 13) [(0, 14, 21, 37)] rfl (fun t ht => absurd ht List.not_mem_nil) (by decide) ⟨by decide, by decide⟩ q835 o523 hcell hcv hcl ?_
      show W p l e _ s m _ below meth cd H locs _ _ _ (F0 m 17 ls [.ref xq])
      refine lv_astore (lv' := [(6, .ref (xq)), (0, .ref (ad (d))), (1, .int (x0)), (2, .int (x1)), (3, .int (x2)), (4, .int (x3)), (5, .ref (ad (o)))]) hx hb dL_steepestStep_17 hl (by decide) rfl (fun ls hl => ?_)
      refine g_iconst S 1 dL_steepestStep_19 (by decide +kernel) ?_
      exact g_iret S hr hlocks hP hS (Or.inr (Or.inl ⟨rfl, hpx⟩)) (fun _ _ => rfl) (Nat.le_of_ble_eq_true rfl) (Nat.le_of_ble_eq_true rfl) dL_steepestStep_20
    · refine g_catch S hI hz htab ([((0, 14, 17, 13), "java/lang/IndexOutOfBoundsException")] : List ((Nat × Nat × Nat × Nat) × String)) (0, 14, 21, 37) [] rfl (fun t ht => by simp only [List.mem_cons, List.not_mem_nil, or_false] at ht; rcases ht with rfl; exact ⟨by decide, q835, hn s s.heap hI.2.2.2.2 ("java/util/NoSuchElementException", "java/lang/IndexOutOfBoundsException") (by simp [gNl])⟩) (by decide) ⟨by decide, by decide⟩ q883 o894 hcell hcv hcl ?_
      show W p l e _ s m _ below meth cd H locs _ _ _ (F0 m 21 ls [.ref xq])
      refine lv_astore (lv' := [(6, .ref (xq)), (0, .ref (ad (d))), (1, .int (x0)), (2, .int (x1)), (3, .int (x2)), (4, .int (x3)), (5, .ref (ad (o)))]) hx hb dL_steepestStep_21 hl (by decide) rfl (fun ls hl => ?_)
      refine g_iconst S 2 dL_steepestStep_23 (by decide +kernel) ?_
      exact g_iret S hr hlocks hP hS (Or.inr (Or.inr (⟨rfl, hpx⟩))) (fun _ _ => rfl) (Nat.le_of_ble_eq_true rfl) (Nat.le_of_ble_eq_true rfl) dL_steepestStep_24
  · skip
    obtain ⟨f0, hf0⟩ := ho rz w1 hq
    refine lv_i2l hx hb dL_steepestStep_12 rfl ?_
    refine g_last S hI hP hS hoN hf0 dL_steepestStep_13 (fun g H locs hg0 hP hS => ?_)
    refine lv_goto (tgt := 25) hx hb dL_steepestStep_14 (by decide) ?_
    refine g_iconst S 0 dL_steepestStep_25 (by decide +kernel) ?_
    exact g_iret S hr hlocks hP hS (Or.inl ⟨rz, g, w1, rfl, hg0, rfl, hq⟩) (fun _ _ => rfl) (Nat.le_of_ble_eq_true rfl) (Nat.le_of_ble_eq_true rfl) dL_steepestStep_26
set_option maxHeartbeats 4000000 in
set_option maxRecDepth 100000 in
/-- the law's call of steepestStepByHalving -/
theorem mL_steepestStepByHalving (l : Launch) {E : gE} {ad : Nat → Nat} {N : Nat} {w : Nat → va_E} (d o : Nat) (x0 : Int32) (x1 : Int32) (x2 : Int32) (x3 : Int32)  (hz : gHx E) (hn : gHn E) {fs : List Value} {post : Int32 → (Nat → va_E) → Prop} {px : String → (Nat → va_E) → Prop} (hdN : d < N) (hwd : w d = .inr (15, fs)) (hM : gXi l yX12_steepestStepByHalving (lw_ws yX12_steepestStepByHalving cX12_steepestStepByHalving 7 (some .int)) ({ frames := 7, cells := 3, slots := 18, locals := 112 } : Room) E ad N w [.ref (ad (d)), .int (x0), .int (x1), .int (x2), .int (x3)] post px 3 18) (hoN : o < N) (ho : ∀ r w', post r w' → ∃ f, w' o = loE E f) (hx9 : ∀ xc w', px xc w' → xc = xIO ∨ xc = xNS) : gMi l yL_steepestStepByHalving (lwH yL_steepestStepByHalving cL_steepestStepByHalving 7 (some .int) [(0, 14, 17, 13), (0, 14, 21, 37)]) ({ frames := 8, cells := 3, slots := 18, locals := 138 } : Room) E ad N w [.ref (ad (d)), .int (x0), .int (x1), .int (x2), .int (x3), .ref (ad (o))] (fun r w' => (∃ (v : Int32) (g : Nat → Int64) (w1 : Nat → va_E), r = nI 0 ∧ g 0 = v.toInt64 ∧ w' = va_up w1 o (loE E g) ∧ post v w1) ∨ (r = nI 1 ∧ px xIO w') ∨ (r = nI 2 ∧ px xNS w')) 3 18 := by
  refine ofWH (hh := [(0, 14, 17, 13), (0, 14, 21, 37)]) (cc := cL_steepestStepByHalving) (maxL := 7) (ret := (some .int)) (by decide) rfl ?_
  intro p e s m args below meth cd s₁ B hml hv
  obtain ⟨rfl, hI, hP⟩ := hv
  obtain ⟨S, hr, hlocks, htab⟩ := gPreH (hh := [(0, 14, 17, 13), (0, 14, 21, 37)]) B hml (C := RL) rfl
  have hx := S.1
  have hb := S.2.1
  have hS : va_S (gA E) s.heap s.heap [] := va_S.rf
  have hl := lv_entry ([.ref (ad (d)), .int (x0), .int (x1), .int (x2), .int (x3), .ref (ad (o))]) (n := 7) (Nat.le_of_ble_eq_true rfl)
  rw [lg_entry_eq]
  generalize (lg_sl ([.ref (ad (d)), .int (x0), .int (x1), .int (x2), .int (x3), .ref (ad (o))]) ++ List.replicate (7 - (lg_sl ([.ref (ad (d)), .int (x0), .int (x1), .int (x2), .int (x3), .ref (ad (o))])).length) Slot.unset).toArray = ls at hl ⊢
  have hl : lv_has ls 7 [(0, .ref (ad (d))), (1, .int (x0)), (2, .int (x1)), (3, .int (x2)), (4, .int (x3)), (5, .ref (ad (o)))] := hl
  refine lv_aload hx hb dL_steepestStepByHalving_0 (lv_at hl 5 rfl) ?_
  refine g_iconst S 0 dL_steepestStepByHalving_2 (by decide +kernel) ?_
  refine lv_aload_n hx hb dL_steepestStepByHalving_3 rfl (lv_at hl 0 rfl) ?_
  refine lv_iload_n hx hb dL_steepestStepByHalving_4 rfl (lv_at hl 1 rfl) ?_
  refine lv_iload_n hx hb dL_steepestStepByHalving_5 rfl (lv_at hl 2 rfl) ?_
  refine lv_iload_n hx hb dL_steepestStepByHalving_6 rfl (lv_at hl 3 rfl) ?_
  refine lv_iload hx hb dL_steepestStepByHalving_7 (lv_at hl 4 rfl) ?_
  refine g_xafi (g_xrunV S hI hP hS (k := 4) (As := [.int (x0), .int (x1), .int (x2), .int (x3)]) (rest := [.int (nI (0)), .ref (ad (o))]) hM q1142 q1143 q1144 q82 q1145 rfl rfl (by decide +kernel) ⟨(Nat.le_of_ble_eq_true rfl), (Nat.le_of_ble_eq_true rfl)⟩ rfl hdN hwd rfl hl.1 rfl (Nat.le_of_ble_eq_true rfl) ⟨(Nat.le_of_ble_eq_true rfl), (Nat.le_of_ble_eq_true rfl)⟩ dL_steepestStepByHalving_9) hS (fun xc w1 xq ce H locs hpx hP hS hcell hcv hcl => ?_) (fun rz w1 H locs hq hP hS => ?_)
  · rcases hx9 xc w1 hpx with rfl | rfl
    · refine g_catch S hI hz htab ([] : List ((Nat × Nat × Nat × Nat) × String)) (0, 14, 17, 13) [(0, 14, 21, 37)] rfl (fun t ht => absurd ht List.not_mem_nil) (by decide) ⟨by decide, by decide⟩ q835 o523 hcell hcv hcl ?_
      show W p l e _ s m _ below meth cd H locs _ _ _ (F0 m 17 ls [.ref xq])
      refine lv_astore (lv' := [(6, .ref (xq)), (0, .ref (ad (d))), (1, .int (x0)), (2, .int (x1)), (3, .int (x2)), (4, .int (x3)), (5, .ref (ad (o)))]) hx hb dL_steepestStepByHalving_17 hl (by decide) rfl (fun ls hl => ?_)
      refine g_iconst S 1 dL_steepestStepByHalving_19 (by decide +kernel) ?_
      exact g_iret S hr hlocks hP hS (Or.inr (Or.inl ⟨rfl, hpx⟩)) (fun _ _ => rfl) (Nat.le_of_ble_eq_true rfl) (Nat.le_of_ble_eq_true rfl) dL_steepestStepByHalving_20
    · refine g_catch S hI hz htab ([((0, 14, 17, 13), "java/lang/IndexOutOfBoundsException")] : List ((Nat × Nat × Nat × Nat) × String)) (0, 14, 21, 37) [] rfl (fun t ht => by simp only [List.mem_cons, List.not_mem_nil, or_false] at ht; rcases ht with rfl; exact ⟨by decide, q835, hn s s.heap hI.2.2.2.2 ("java/util/NoSuchElementException", "java/lang/IndexOutOfBoundsException") (by simp [gNl])⟩) (by decide) ⟨by decide, by decide⟩ q883 o894 hcell hcv hcl ?_
      show W p l e _ s m _ below meth cd H locs _ _ _ (F0 m 21 ls [.ref xq])
      refine lv_astore (lv' := [(6, .ref (xq)), (0, .ref (ad (d))), (1, .int (x0)), (2, .int (x1)), (3, .int (x2)), (4, .int (x3)), (5, .ref (ad (o)))]) hx hb dL_steepestStepByHalving_21 hl (by decide) rfl (fun ls hl => ?_)
      refine g_iconst S 2 dL_steepestStepByHalving_23 (by decide +kernel) ?_
      exact g_iret S hr hlocks hP hS (Or.inr (Or.inr (⟨rfl, hpx⟩))) (fun _ _ => rfl) (Nat.le_of_ble_eq_true rfl) (Nat.le_of_ble_eq_true rfl) dL_steepestStepByHalving_24
  · skip
    obtain ⟨f0, hf0⟩ := ho rz w1 hq
    refine lv_i2l hx hb dL_steepestStepByHalving_12 rfl ?_
    refine g_last S hI hP hS hoN hf0 dL_steepestStepByHalving_13 (fun g H locs hg0 hP hS => ?_)
    refine lv_goto (tgt := 25) hx hb dL_steepestStepByHalving_14 (by decide) ?_
    refine g_iconst S 0 dL_steepestStepByHalving_25 (by decide +kernel) ?_
    exact g_iret S hr hlocks hP hS (Or.inl ⟨rz, g, w1, rfl, hg0, rfl, hq⟩) (fun _ _ => rfl) (Nat.le_of_ble_eq_true rfl) (Nat.le_of_ble_eq_true rfl) dL_steepestStepByHalving_26
set_option maxHeartbeats 4000000 in
set_option maxRecDepth 100000 in
/-- the law's call of addMoth -/
theorem mL_addMoth (l : Launch) {E : gE} {ad : Nat → Nat} {N : Nat} {w : Nat → va_E} (d o : Nat) (x0 : Int32) (x1 : Int32)  (hz : gHx E) (hn : gHn E) {fs : List Value} {post : Int32 → (Nat → va_E) → Prop} {px : String → (Nat → va_E) → Prop} (hdN : d < N) (hwd : w d = .inr (15, fs)) (hM : gXi l yX12_addMoth (lw_ws yX12_addMoth cX12_addMoth 3 (some .int)) ({ frames := 8, cells := 2, slots := 9, locals := 181 } : Room) E ad N w [.ref (ad (d)), .int (x0), .int (x1)] post px 2 9) (hoN : o < N) (ho : ∀ r w', post r w' → ∃ f, w' o = loE E f) (hx9 : ∀ xc w', px xc w' → xc = xIO ∨ xc = xUO) : gMi l yL_addMoth (lwH yL_addMoth cL_addMoth 5 (some .int) [(0, 10, 13, 13), (0, 10, 17, 17)]) ({ frames := 9, cells := 2, slots := 9, locals := 203 } : Room) E ad N w [.ref (ad (d)), .int (x0), .int (x1), .ref (ad (o))] (fun r w' => (∃ (v : Int32) (g : Nat → Int64) (w1 : Nat → va_E), r = nI 0 ∧ g 0 = v.toInt64 ∧ w' = va_up w1 o (loE E g) ∧ post v w1) ∨ (r = nI 1 ∧ px xIO w') ∨ (r = nI 2 ∧ px xUO w')) 2 9 := by
  refine ofWH (hh := [(0, 10, 13, 13), (0, 10, 17, 17)]) (cc := cL_addMoth) (maxL := 5) (ret := (some .int)) (by decide) rfl ?_
  intro p e s m args below meth cd s₁ B hml hv
  obtain ⟨rfl, hI, hP⟩ := hv
  obtain ⟨S, hr, hlocks, htab⟩ := gPreH (hh := [(0, 10, 13, 13), (0, 10, 17, 17)]) B hml (C := RL) rfl
  have hx := S.1
  have hb := S.2.1
  have hS : va_S (gA E) s.heap s.heap [] := va_S.rf
  have hl := lv_entry ([.ref (ad (d)), .int (x0), .int (x1), .ref (ad (o))]) (n := 5) (Nat.le_of_ble_eq_true rfl)
  rw [lg_entry_eq]
  generalize (lg_sl ([.ref (ad (d)), .int (x0), .int (x1), .ref (ad (o))]) ++ List.replicate (5 - (lg_sl ([.ref (ad (d)), .int (x0), .int (x1), .ref (ad (o))])).length) Slot.unset).toArray = ls at hl ⊢
  have hl : lv_has ls 5 [(0, .ref (ad (d))), (1, .int (x0)), (2, .int (x1)), (3, .ref (ad (o)))] := hl
  refine lv_aload_n hx hb dL_addMoth_0 rfl (lv_at hl 3 rfl) ?_
  refine g_iconst S 0 dL_addMoth_1 (by decide +kernel) ?_
  refine lv_aload_n hx hb dL_addMoth_2 rfl (lv_at hl 0 rfl) ?_
  refine lv_iload_n hx hb dL_addMoth_3 rfl (lv_at hl 1 rfl) ?_
  refine lv_iload_n hx hb dL_addMoth_4 rfl (lv_at hl 2 rfl) ?_
  refine g_xafi (g_xrunV S hI hP hS (k := 2) (As := [.int (x0), .int (x1)]) (rest := [.int (nI (0)), .ref (ad (o))]) hM q1160 q1161 q1162 q82 q1163 rfl rfl (by decide +kernel) ⟨(Nat.le_of_ble_eq_true rfl), (Nat.le_of_ble_eq_true rfl)⟩ rfl hdN hwd rfl hl.1 rfl (Nat.le_of_ble_eq_true rfl) ⟨(Nat.le_of_ble_eq_true rfl), (Nat.le_of_ble_eq_true rfl)⟩ dL_addMoth_5) hS (fun xc w1 xq ce H locs hpx hP hS hcell hcv hcl => ?_) (fun rz w1 H locs hq hP hS => ?_)
  · rcases hx9 xc w1 hpx with rfl | rfl
    · refine g_catch S hI hz htab ([] : List ((Nat × Nat × Nat × Nat) × String)) (0, 10, 13, 13) [(0, 10, 17, 17)] rfl (fun t ht => absurd ht List.not_mem_nil) (by decide) ⟨by decide, by decide⟩ q835 o523 hcell hcv hcl ?_
      show W p l e _ s m _ below meth cd H locs _ _ _ (F0 m 13 ls [.ref xq])
      refine lv_astore (lv' := [(4, .ref (xq)), (0, .ref (ad (d))), (1, .int (x0)), (2, .int (x1)), (3, .ref (ad (o)))]) hx hb dL_addMoth_13 hl (by decide) rfl (fun ls hl => ?_)
      refine g_iconst S 1 dL_addMoth_15 (by decide +kernel) ?_
      exact g_iret S hr hlocks hP hS (Or.inr (Or.inl ⟨rfl, hpx⟩)) (fun _ _ => rfl) (Nat.le_of_ble_eq_true rfl) (Nat.le_of_ble_eq_true rfl) dL_addMoth_16
    · refine g_catch S hI hz htab ([((0, 10, 13, 13), "java/lang/IndexOutOfBoundsException")] : List ((Nat × Nat × Nat × Nat) × String)) (0, 10, 17, 17) [] rfl (fun t ht => by simp only [List.mem_cons, List.not_mem_nil, or_false] at ht; rcases ht with rfl; exact ⟨by decide, q835, hn s s.heap hI.2.2.2.2 ("java/lang/UnsupportedOperationException", "java/lang/IndexOutOfBoundsException") (by simp [gNl])⟩) (by decide) ⟨by decide, by decide⟩ q837 o626 hcell hcv hcl ?_
      show W p l e _ s m _ below meth cd H locs _ _ _ (F0 m 17 ls [.ref xq])
      refine lv_astore (lv' := [(4, .ref (xq)), (0, .ref (ad (d))), (1, .int (x0)), (2, .int (x1)), (3, .ref (ad (o)))]) hx hb dL_addMoth_17 hl (by decide) rfl (fun ls hl => ?_)
      refine g_iconst S 2 dL_addMoth_19 (by decide +kernel) ?_
      exact g_iret S hr hlocks hP hS (Or.inr (Or.inr (⟨rfl, hpx⟩))) (fun _ _ => rfl) (Nat.le_of_ble_eq_true rfl) (Nat.le_of_ble_eq_true rfl) dL_addMoth_20
  · skip
    obtain ⟨f0, hf0⟩ := ho rz w1 hq
    refine lv_i2l hx hb dL_addMoth_8 rfl ?_
    refine g_last S hI hP hS hoN hf0 dL_addMoth_9 (fun g H locs hg0 hP hS => ?_)
    refine lv_goto (tgt := 21) hx hb dL_addMoth_10 (by decide) ?_
    refine g_iconst S 0 dL_addMoth_21 (by decide +kernel) ?_
    exact g_iret S hr hlocks hP hS (Or.inl ⟨rz, g, w1, rfl, hg0, rfl, hq⟩) (fun _ _ => rfl) (Nat.le_of_ble_eq_true rfl) (Nat.le_of_ble_eq_true rfl) dL_addMoth_22
set_option maxHeartbeats 4000000 in
set_option maxRecDepth 100000 in
/-- the law's call of removeMoth -/
theorem mL_removeMoth (l : Launch) {E : gE} {ad : Nat → Nat} {N : Nat} {w : Nat → va_E} (d o : Nat) (x0 : Int32)  (hz : gHx E) (hn : gHn E) {fs : List Value} {post : Int32 → (Nat → va_E) → Prop} {px : String → (Nat → va_E) → Prop} (hdN : d < N) (hwd : w d = .inr (15, fs)) (hM : gXi l yX12_removeMoth (lw_ws yX12_removeMoth cX12_removeMoth 2 (some .int)) ({ frames := 8, cells := 2, slots := 9, locals := 181 } : Room) E ad N w [.ref (ad (d)), .int (x0)] post px 2 9) (hoN : o < N) (ho : ∀ r w', post r w' → ∃ f, w' o = loE E f) (hx9 : ∀ xc w', px xc w' → xc = xIO) : gMi l yL_removeMoth (lwH yL_removeMoth cL_removeMoth 4 (some .int) [(0, 9, 12, 13)]) ({ frames := 9, cells := 2, slots := 9, locals := 202 } : Room) E ad N w [.ref (ad (d)), .int (x0), .ref (ad (o))] (fun r w' => (∃ (v : Int32) (g : Nat → Int64) (w1 : Nat → va_E), r = nI 0 ∧ g 0 = v.toInt64 ∧ w' = va_up w1 o (loE E g) ∧ post v w1) ∨ (r = nI 1 ∧ px xIO w')) 2 9 := by
  refine ofWH (hh := [(0, 9, 12, 13)]) (cc := cL_removeMoth) (maxL := 4) (ret := (some .int)) (by decide) rfl ?_
  intro p e s m args below meth cd s₁ B hml hv
  obtain ⟨rfl, hI, hP⟩ := hv
  obtain ⟨S, hr, hlocks, htab⟩ := gPreH (hh := [(0, 9, 12, 13)]) B hml (C := RL) rfl
  have hx := S.1
  have hb := S.2.1
  have hS : va_S (gA E) s.heap s.heap [] := va_S.rf
  have hl := lv_entry ([.ref (ad (d)), .int (x0), .ref (ad (o))]) (n := 4) (Nat.le_of_ble_eq_true rfl)
  rw [lg_entry_eq]
  generalize (lg_sl ([.ref (ad (d)), .int (x0), .ref (ad (o))]) ++ List.replicate (4 - (lg_sl ([.ref (ad (d)), .int (x0), .ref (ad (o))])).length) Slot.unset).toArray = ls at hl ⊢
  have hl : lv_has ls 4 [(0, .ref (ad (d))), (1, .int (x0)), (2, .ref (ad (o)))] := hl
  refine lv_aload_n hx hb dL_removeMoth_0 rfl (lv_at hl 2 rfl) ?_
  refine g_iconst S 0 dL_removeMoth_1 (by decide +kernel) ?_
  refine lv_aload_n hx hb dL_removeMoth_2 rfl (lv_at hl 0 rfl) ?_
  refine lv_iload_n hx hb dL_removeMoth_3 rfl (lv_at hl 1 rfl) ?_
  refine g_xafi (g_xrunV S hI hP hS (k := 1) (As := [.int (x0)]) (rest := [.int (nI (0)), .ref (ad (o))]) hM q1169 q1170 q1171 q82 q1172 rfl rfl (by decide +kernel) ⟨(Nat.le_of_ble_eq_true rfl), (Nat.le_of_ble_eq_true rfl)⟩ rfl hdN hwd rfl hl.1 rfl (Nat.le_of_ble_eq_true rfl) ⟨(Nat.le_of_ble_eq_true rfl), (Nat.le_of_ble_eq_true rfl)⟩ dL_removeMoth_4) hS (fun xc w1 xq ce H locs hpx hP hS hcell hcv hcl => ?_) (fun rz w1 H locs hq hP hS => ?_)
  · rcases hx9 xc w1 hpx with rfl
    · refine g_catch S hI hz htab ([] : List ((Nat × Nat × Nat × Nat) × String)) (0, 9, 12, 13) [] rfl (fun t ht => absurd ht List.not_mem_nil) (by decide) ⟨by decide, by decide⟩ q835 o523 hcell hcv hcl ?_
      show W p l e _ s m _ below meth cd H locs _ _ _ (F0 m 12 ls [.ref xq])
      refine lv_astore_n (lv' := [(3, .ref (xq)), (0, .ref (ad (d))), (1, .int (x0)), (2, .ref (ad (o)))]) hx hb dL_removeMoth_12 rfl hl (by decide) rfl (fun ls hl => ?_)
      refine g_iconst S 1 dL_removeMoth_13 (by decide +kernel) ?_
      exact g_iret S hr hlocks hP hS (Or.inr (⟨rfl, hpx⟩)) (fun _ _ => rfl) (Nat.le_of_ble_eq_true rfl) (Nat.le_of_ble_eq_true rfl) dL_removeMoth_14
  · skip
    obtain ⟨f0, hf0⟩ := ho rz w1 hq
    refine lv_i2l hx hb dL_removeMoth_7 rfl ?_
    refine g_last S hI hP hS hoN hf0 dL_removeMoth_8 (fun g H locs hg0 hP hS => ?_)
    refine lv_goto (tgt := 15) hx hb dL_removeMoth_9 (by decide) ?_
    refine g_iconst S 0 dL_removeMoth_15 (by decide +kernel) ?_
    exact g_iret S hr hlocks hP hS (Or.inl ⟨rz, g, w1, rfl, hg0, rfl, hq⟩) (fun _ _ => rfl) (Nat.le_of_ble_eq_true rfl) (Nat.le_of_ble_eq_true rfl) dL_removeMoth_16
set_option maxHeartbeats 4000000 in
set_option maxRecDepth 100000 in
/-- the law's call of patch -/
theorem mL_patch (l : Launch) {E : gE} {ad : Nat → Nat} {N : Nat} {w : Nat → va_E} (d o : Nat) (x0 : Int32) (x1 : Int32)  (hz : gHx E) (hn : gHn E) {fs : List Value} {post : Int32 → (Nat → va_E) → Prop} {px : String → (Nat → va_E) → Prop} (hdN : d < N) (hwd : w d = .inr (15, fs)) (hM : gXi l yX12_patch (lw_ws yX12_patch cX12_patch 3 (some .int)) ({ frames := 8, cells := 2, slots := 9, locals := 181 } : Room) E ad N w [.ref (ad (d)), .int (x0), .int (x1)] post px 2 9) (hoN : o < N) (ho : ∀ r w', post r w' → ∃ f, w' o = loE E f) (hx9 : ∀ xc w', px xc w' → xc = xIO ∨ xc = xUO) : gMi l yL_patch (lwH yL_patch cL_patch 5 (some .int) [(0, 10, 13, 13), (0, 10, 17, 17)]) ({ frames := 9, cells := 2, slots := 9, locals := 203 } : Room) E ad N w [.ref (ad (d)), .int (x0), .int (x1), .ref (ad (o))] (fun r w' => (∃ (v : Int32) (g : Nat → Int64) (w1 : Nat → va_E), r = nI 0 ∧ g 0 = v.toInt64 ∧ w' = va_up w1 o (loE E g) ∧ post v w1) ∨ (r = nI 1 ∧ px xIO w') ∨ (r = nI 2 ∧ px xUO w')) 2 9 := by
  refine ofWH (hh := [(0, 10, 13, 13), (0, 10, 17, 17)]) (cc := cL_patch) (maxL := 5) (ret := (some .int)) (by decide) rfl ?_
  intro p e s m args below meth cd s₁ B hml hv
  obtain ⟨rfl, hI, hP⟩ := hv
  obtain ⟨S, hr, hlocks, htab⟩ := gPreH (hh := [(0, 10, 13, 13), (0, 10, 17, 17)]) B hml (C := RL) rfl
  have hx := S.1
  have hb := S.2.1
  have hS : va_S (gA E) s.heap s.heap [] := va_S.rf
  have hl := lv_entry ([.ref (ad (d)), .int (x0), .int (x1), .ref (ad (o))]) (n := 5) (Nat.le_of_ble_eq_true rfl)
  rw [lg_entry_eq]
  generalize (lg_sl ([.ref (ad (d)), .int (x0), .int (x1), .ref (ad (o))]) ++ List.replicate (5 - (lg_sl ([.ref (ad (d)), .int (x0), .int (x1), .ref (ad (o))])).length) Slot.unset).toArray = ls at hl ⊢
  have hl : lv_has ls 5 [(0, .ref (ad (d))), (1, .int (x0)), (2, .int (x1)), (3, .ref (ad (o)))] := hl
  refine lv_aload_n hx hb dL_patch_0 rfl (lv_at hl 3 rfl) ?_
  refine g_iconst S 0 dL_patch_1 (by decide +kernel) ?_
  refine lv_aload_n hx hb dL_patch_2 rfl (lv_at hl 0 rfl) ?_
  refine lv_iload_n hx hb dL_patch_3 rfl (lv_at hl 1 rfl) ?_
  refine lv_iload_n hx hb dL_patch_4 rfl (lv_at hl 2 rfl) ?_
  refine g_xafi (g_xrunV S hI hP hS (k := 2) (As := [.int (x0), .int (x1)]) (rest := [.int (nI (0)), .ref (ad (o))]) hM q1178 q1179 q1180 q82 q1181 rfl rfl (by decide +kernel) ⟨(Nat.le_of_ble_eq_true rfl), (Nat.le_of_ble_eq_true rfl)⟩ rfl hdN hwd rfl hl.1 rfl (Nat.le_of_ble_eq_true rfl) ⟨(Nat.le_of_ble_eq_true rfl), (Nat.le_of_ble_eq_true rfl)⟩ dL_patch_5) hS (fun xc w1 xq ce H locs hpx hP hS hcell hcv hcl => ?_) (fun rz w1 H locs hq hP hS => ?_)
  · rcases hx9 xc w1 hpx with rfl | rfl
    · refine g_catch S hI hz htab ([] : List ((Nat × Nat × Nat × Nat) × String)) (0, 10, 13, 13) [(0, 10, 17, 17)] rfl (fun t ht => absurd ht List.not_mem_nil) (by decide) ⟨by decide, by decide⟩ q835 o523 hcell hcv hcl ?_
      show W p l e _ s m _ below meth cd H locs _ _ _ (F0 m 13 ls [.ref xq])
      refine lv_astore (lv' := [(4, .ref (xq)), (0, .ref (ad (d))), (1, .int (x0)), (2, .int (x1)), (3, .ref (ad (o)))]) hx hb dL_patch_13 hl (by decide) rfl (fun ls hl => ?_)
      refine g_iconst S 1 dL_patch_15 (by decide +kernel) ?_
      exact g_iret S hr hlocks hP hS (Or.inr (Or.inl ⟨rfl, hpx⟩)) (fun _ _ => rfl) (Nat.le_of_ble_eq_true rfl) (Nat.le_of_ble_eq_true rfl) dL_patch_16
    · refine g_catch S hI hz htab ([((0, 10, 13, 13), "java/lang/IndexOutOfBoundsException")] : List ((Nat × Nat × Nat × Nat) × String)) (0, 10, 17, 17) [] rfl (fun t ht => by simp only [List.mem_cons, List.not_mem_nil, or_false] at ht; rcases ht with rfl; exact ⟨by decide, q835, hn s s.heap hI.2.2.2.2 ("java/lang/UnsupportedOperationException", "java/lang/IndexOutOfBoundsException") (by simp [gNl])⟩) (by decide) ⟨by decide, by decide⟩ q837 o626 hcell hcv hcl ?_
      show W p l e _ s m _ below meth cd H locs _ _ _ (F0 m 17 ls [.ref xq])
      refine lv_astore (lv' := [(4, .ref (xq)), (0, .ref (ad (d))), (1, .int (x0)), (2, .int (x1)), (3, .ref (ad (o)))]) hx hb dL_patch_17 hl (by decide) rfl (fun ls hl => ?_)
      refine g_iconst S 2 dL_patch_19 (by decide +kernel) ?_
      exact g_iret S hr hlocks hP hS (Or.inr (Or.inr (⟨rfl, hpx⟩))) (fun _ _ => rfl) (Nat.le_of_ble_eq_true rfl) (Nat.le_of_ble_eq_true rfl) dL_patch_20
  · skip
    obtain ⟨f0, hf0⟩ := ho rz w1 hq
    refine lv_i2l hx hb dL_patch_8 rfl ?_
    refine g_last S hI hP hS hoN hf0 dL_patch_9 (fun g H locs hg0 hP hS => ?_)
    refine lv_goto (tgt := 21) hx hb dL_patch_10 (by decide) ?_
    refine g_iconst S 0 dL_patch_21 (by decide +kernel) ?_
    exact g_iret S hr hlocks hP hS (Or.inl ⟨rz, g, w1, rfl, hg0, rfl, hq⟩) (fun _ _ => rfl) (Nat.le_of_ble_eq_true rfl) (Nat.le_of_ble_eq_true rfl) dL_patch_22
set_option maxHeartbeats 4000000 in
set_option maxRecDepth 100000 in
/-- the law's call of mothRow -/
theorem mL_mothRow (l : Launch) {E : gE} {ad : Nat → Nat} {N : Nat} {w : Nat → va_E} (d o : Nat) (x0 : Int32)  (hz : gHx E) (hn : gHn E) {fs : List Value} {post : Int32 → (Nat → va_E) → Prop} {px : String → (Nat → va_E) → Prop} (hdN : d < N) (hwd : w d = .inr (15, fs)) (hM : gXi l yX12_mothRow (lw_ws yX12_mothRow cX12_mothRow 2 (some .int)) ({ frames := 7, cells := 1, slots := 6, locals := 111 } : Room) E ad N w [.ref (ad (d)), .int (x0)] post px 1 6) (hoN : o < N) (ho : ∀ r w', post r w' → ∃ f, w' o = loE E f) (hx9 : ∀ xc w', px xc w' → xc = xIO) : gMi l yL_mothRow (lwH yL_mothRow cL_mothRow 4 (some .int) [(0, 9, 12, 13)]) ({ frames := 8, cells := 1, slots := 6, locals := 132 } : Room) E ad N w [.ref (ad (d)), .int (x0), .ref (ad (o))] (fun r w' => (∃ (v : Int32) (g : Nat → Int64) (w1 : Nat → va_E), r = nI 0 ∧ g 0 = v.toInt64 ∧ w' = va_up w1 o (loE E g) ∧ post v w1) ∨ (r = nI 1 ∧ px xIO w')) 1 6 := by
  refine ofWH (hh := [(0, 9, 12, 13)]) (cc := cL_mothRow) (maxL := 4) (ret := (some .int)) (by decide) rfl ?_
  intro p e s m args below meth cd s₁ B hml hv
  obtain ⟨rfl, hI, hP⟩ := hv
  obtain ⟨S, hr, hlocks, htab⟩ := gPreH (hh := [(0, 9, 12, 13)]) B hml (C := RL) rfl
  have hx := S.1
  have hb := S.2.1
  have hS : va_S (gA E) s.heap s.heap [] := va_S.rf
  have hl := lv_entry ([.ref (ad (d)), .int (x0), .ref (ad (o))]) (n := 4) (Nat.le_of_ble_eq_true rfl)
  rw [lg_entry_eq]
  generalize (lg_sl ([.ref (ad (d)), .int (x0), .ref (ad (o))]) ++ List.replicate (4 - (lg_sl ([.ref (ad (d)), .int (x0), .ref (ad (o))])).length) Slot.unset).toArray = ls at hl ⊢
  have hl : lv_has ls 4 [(0, .ref (ad (d))), (1, .int (x0)), (2, .ref (ad (o)))] := hl
  refine lv_aload_n hx hb dL_mothRow_0 rfl (lv_at hl 2 rfl) ?_
  refine g_iconst S 0 dL_mothRow_1 (by decide +kernel) ?_
  refine lv_aload_n hx hb dL_mothRow_2 rfl (lv_at hl 0 rfl) ?_
  refine lv_iload_n hx hb dL_mothRow_3 rfl (lv_at hl 1 rfl) ?_
  refine g_xafi (g_xrunV S hI hP hS (k := 1) (As := [.int (x0)]) (rest := [.int (nI (0)), .ref (ad (o))]) hM q1187 q1188 q1189 q82 q1190 rfl rfl (by decide +kernel) ⟨(Nat.le_of_ble_eq_true rfl), (Nat.le_of_ble_eq_true rfl)⟩ rfl hdN hwd rfl hl.1 rfl (Nat.le_of_ble_eq_true rfl) ⟨(Nat.le_of_ble_eq_true rfl), (Nat.le_of_ble_eq_true rfl)⟩ dL_mothRow_4) hS (fun xc w1 xq ce H locs hpx hP hS hcell hcv hcl => ?_) (fun rz w1 H locs hq hP hS => ?_)
  · rcases hx9 xc w1 hpx with rfl
    · refine g_catch S hI hz htab ([] : List ((Nat × Nat × Nat × Nat) × String)) (0, 9, 12, 13) [] rfl (fun t ht => absurd ht List.not_mem_nil) (by decide) ⟨by decide, by decide⟩ q835 o523 hcell hcv hcl ?_
      show W p l e _ s m _ below meth cd H locs _ _ _ (F0 m 12 ls [.ref xq])
      refine lv_astore_n (lv' := [(3, .ref (xq)), (0, .ref (ad (d))), (1, .int (x0)), (2, .ref (ad (o)))]) hx hb dL_mothRow_12 rfl hl (by decide) rfl (fun ls hl => ?_)
      refine g_iconst S 1 dL_mothRow_13 (by decide +kernel) ?_
      exact g_iret S hr hlocks hP hS (Or.inr (⟨rfl, hpx⟩)) (fun _ _ => rfl) (Nat.le_of_ble_eq_true rfl) (Nat.le_of_ble_eq_true rfl) dL_mothRow_14
  · skip
    obtain ⟨f0, hf0⟩ := ho rz w1 hq
    refine lv_i2l hx hb dL_mothRow_7 rfl ?_
    refine g_last S hI hP hS hoN hf0 dL_mothRow_8 (fun g H locs hg0 hP hS => ?_)
    refine lv_goto (tgt := 15) hx hb dL_mothRow_9 (by decide) ?_
    refine g_iconst S 0 dL_mothRow_15 (by decide +kernel) ?_
    exact g_iret S hr hlocks hP hS (Or.inl ⟨rz, g, w1, rfl, hg0, rfl, hq⟩) (fun _ _ => rfl) (Nat.le_of_ble_eq_true rfl) (Nat.le_of_ble_eq_true rfl) dL_mothRow_16
set_option maxHeartbeats 4000000 in
set_option maxRecDepth 100000 in
/-- the law's call of mothColumn -/
theorem mL_mothColumn (l : Launch) {E : gE} {ad : Nat → Nat} {N : Nat} {w : Nat → va_E} (d o : Nat) (x0 : Int32)  (hz : gHx E) (hn : gHn E) {fs : List Value} {post : Int32 → (Nat → va_E) → Prop} {px : String → (Nat → va_E) → Prop} (hdN : d < N) (hwd : w d = .inr (15, fs)) (hM : gXi l yX12_mothColumn (lw_ws yX12_mothColumn cX12_mothColumn 2 (some .int)) ({ frames := 7, cells := 1, slots := 6, locals := 111 } : Room) E ad N w [.ref (ad (d)), .int (x0)] post px 1 6) (hoN : o < N) (ho : ∀ r w', post r w' → ∃ f, w' o = loE E f) (hx9 : ∀ xc w', px xc w' → xc = xIO) : gMi l yL_mothColumn (lwH yL_mothColumn cL_mothColumn 4 (some .int) [(0, 9, 12, 13)]) ({ frames := 8, cells := 1, slots := 6, locals := 132 } : Room) E ad N w [.ref (ad (d)), .int (x0), .ref (ad (o))] (fun r w' => (∃ (v : Int32) (g : Nat → Int64) (w1 : Nat → va_E), r = nI 0 ∧ g 0 = v.toInt64 ∧ w' = va_up w1 o (loE E g) ∧ post v w1) ∨ (r = nI 1 ∧ px xIO w')) 1 6 := by
  refine ofWH (hh := [(0, 9, 12, 13)]) (cc := cL_mothColumn) (maxL := 4) (ret := (some .int)) (by decide) rfl ?_
  intro p e s m args below meth cd s₁ B hml hv
  obtain ⟨rfl, hI, hP⟩ := hv
  obtain ⟨S, hr, hlocks, htab⟩ := gPreH (hh := [(0, 9, 12, 13)]) B hml (C := RL) rfl
  have hx := S.1
  have hb := S.2.1
  have hS : va_S (gA E) s.heap s.heap [] := va_S.rf
  have hl := lv_entry ([.ref (ad (d)), .int (x0), .ref (ad (o))]) (n := 4) (Nat.le_of_ble_eq_true rfl)
  rw [lg_entry_eq]
  generalize (lg_sl ([.ref (ad (d)), .int (x0), .ref (ad (o))]) ++ List.replicate (4 - (lg_sl ([.ref (ad (d)), .int (x0), .ref (ad (o))])).length) Slot.unset).toArray = ls at hl ⊢
  have hl : lv_has ls 4 [(0, .ref (ad (d))), (1, .int (x0)), (2, .ref (ad (o)))] := hl
  refine lv_aload_n hx hb dL_mothColumn_0 rfl (lv_at hl 2 rfl) ?_
  refine g_iconst S 0 dL_mothColumn_1 (by decide +kernel) ?_
  refine lv_aload_n hx hb dL_mothColumn_2 rfl (lv_at hl 0 rfl) ?_
  refine lv_iload_n hx hb dL_mothColumn_3 rfl (lv_at hl 1 rfl) ?_
  refine g_xafi (g_xrunV S hI hP hS (k := 1) (As := [.int (x0)]) (rest := [.int (nI (0)), .ref (ad (o))]) hM q1200 q1201 q1202 q82 q1203 rfl rfl (by decide +kernel) ⟨(Nat.le_of_ble_eq_true rfl), (Nat.le_of_ble_eq_true rfl)⟩ rfl hdN hwd rfl hl.1 rfl (Nat.le_of_ble_eq_true rfl) ⟨(Nat.le_of_ble_eq_true rfl), (Nat.le_of_ble_eq_true rfl)⟩ dL_mothColumn_4) hS (fun xc w1 xq ce H locs hpx hP hS hcell hcv hcl => ?_) (fun rz w1 H locs hq hP hS => ?_)
  · rcases hx9 xc w1 hpx with rfl
    · refine g_catch S hI hz htab ([] : List ((Nat × Nat × Nat × Nat) × String)) (0, 9, 12, 13) [] rfl (fun t ht => absurd ht List.not_mem_nil) (by decide) ⟨by decide, by decide⟩ q835 o523 hcell hcv hcl ?_
      show W p l e _ s m _ below meth cd H locs _ _ _ (F0 m 12 ls [.ref xq])
      refine lv_astore_n (lv' := [(3, .ref (xq)), (0, .ref (ad (d))), (1, .int (x0)), (2, .ref (ad (o)))]) hx hb dL_mothColumn_12 rfl hl (by decide) rfl (fun ls hl => ?_)
      refine g_iconst S 1 dL_mothColumn_13 (by decide +kernel) ?_
      exact g_iret S hr hlocks hP hS (Or.inr (⟨rfl, hpx⟩)) (fun _ _ => rfl) (Nat.le_of_ble_eq_true rfl) (Nat.le_of_ble_eq_true rfl) dL_mothColumn_14
  · skip
    obtain ⟨f0, hf0⟩ := ho rz w1 hq
    refine lv_i2l hx hb dL_mothColumn_7 rfl ?_
    refine g_last S hI hP hS hoN hf0 dL_mothColumn_8 (fun g H locs hg0 hP hS => ?_)
    refine lv_goto (tgt := 15) hx hb dL_mothColumn_9 (by decide) ?_
    refine g_iconst S 0 dL_mothColumn_15 (by decide +kernel) ?_
    exact g_iret S hr hlocks hP hS (Or.inl ⟨rz, g, w1, rfl, hg0, rfl, hq⟩) (fun _ _ => rfl) (Nat.le_of_ble_eq_true rfl) (Nat.le_of_ble_eq_true rfl) dL_mothColumn_16
set_option maxHeartbeats 4000000 in
set_option maxRecDepth 100000 in
/-- the law's call of wear -/
theorem mL_wear (l : Launch) {E : gE} {ad : Nat → Nat} {N : Nat} {w : Nat → va_E} (d o : Nat) (x0 : Int32) (x1 : Int32)  (hz : gHx E) (hn : gHn E) {fs : List Value} {post : Int32 → (Nat → va_E) → Prop} {px : String → (Nat → va_E) → Prop} (hdN : d < N) (hwd : w d = .inr (15, fs)) (hM : gXi l yX12_wear (lw_ws yX12_wear cX12_wear 3 (some .int)) ({ frames := 7, cells := 1, slots := 6, locals := 112 } : Room) E ad N w [.ref (ad (d)), .int (x0), .int (x1)] post px 1 6) (hoN : o < N) (ho : ∀ r w', post r w' → ∃ f, w' o = loE E f) (hx9 : ∀ xc w', px xc w' → xc = xIO) : gMi l yL_wear (lwH yL_wear cL_wear 5 (some .int) [(0, 10, 13, 13)]) ({ frames := 8, cells := 1, slots := 6, locals := 134 } : Room) E ad N w [.ref (ad (d)), .int (x0), .int (x1), .ref (ad (o))] (fun r w' => (∃ (v : Int32) (g : Nat → Int64) (w1 : Nat → va_E), r = nI 0 ∧ g 0 = v.toInt64 ∧ w' = va_up w1 o (loE E g) ∧ post v w1) ∨ (r = nI 1 ∧ px xIO w')) 1 6 := by
  refine ofWH (hh := [(0, 10, 13, 13)]) (cc := cL_wear) (maxL := 5) (ret := (some .int)) (by decide) rfl ?_
  intro p e s m args below meth cd s₁ B hml hv
  obtain ⟨rfl, hI, hP⟩ := hv
  obtain ⟨S, hr, hlocks, htab⟩ := gPreH (hh := [(0, 10, 13, 13)]) B hml (C := RL) rfl
  have hx := S.1
  have hb := S.2.1
  have hS : va_S (gA E) s.heap s.heap [] := va_S.rf
  have hl := lv_entry ([.ref (ad (d)), .int (x0), .int (x1), .ref (ad (o))]) (n := 5) (Nat.le_of_ble_eq_true rfl)
  rw [lg_entry_eq]
  generalize (lg_sl ([.ref (ad (d)), .int (x0), .int (x1), .ref (ad (o))]) ++ List.replicate (5 - (lg_sl ([.ref (ad (d)), .int (x0), .int (x1), .ref (ad (o))])).length) Slot.unset).toArray = ls at hl ⊢
  have hl : lv_has ls 5 [(0, .ref (ad (d))), (1, .int (x0)), (2, .int (x1)), (3, .ref (ad (o)))] := hl
  refine lv_aload_n hx hb dL_wear_0 rfl (lv_at hl 3 rfl) ?_
  refine g_iconst S 0 dL_wear_1 (by decide +kernel) ?_
  refine lv_aload_n hx hb dL_wear_2 rfl (lv_at hl 0 rfl) ?_
  refine lv_iload_n hx hb dL_wear_3 rfl (lv_at hl 1 rfl) ?_
  refine lv_iload_n hx hb dL_wear_4 rfl (lv_at hl 2 rfl) ?_
  refine g_xafi (g_xrunV S hI hP hS (k := 2) (As := [.int (x0), .int (x1)]) (rest := [.int (nI (0)), .ref (ad (o))]) hM q1207 q1208 q1209 q82 q1210 rfl rfl (by decide +kernel) ⟨(Nat.le_of_ble_eq_true rfl), (Nat.le_of_ble_eq_true rfl)⟩ rfl hdN hwd rfl hl.1 rfl (Nat.le_of_ble_eq_true rfl) ⟨(Nat.le_of_ble_eq_true rfl), (Nat.le_of_ble_eq_true rfl)⟩ dL_wear_5) hS (fun xc w1 xq ce H locs hpx hP hS hcell hcv hcl => ?_) (fun rz w1 H locs hq hP hS => ?_)
  · rcases hx9 xc w1 hpx with rfl
    · refine g_catch S hI hz htab ([] : List ((Nat × Nat × Nat × Nat) × String)) (0, 10, 13, 13) [] rfl (fun t ht => absurd ht List.not_mem_nil) (by decide) ⟨by decide, by decide⟩ q835 o523 hcell hcv hcl ?_
      show W p l e _ s m _ below meth cd H locs _ _ _ (F0 m 13 ls [.ref xq])
      refine lv_astore (lv' := [(4, .ref (xq)), (0, .ref (ad (d))), (1, .int (x0)), (2, .int (x1)), (3, .ref (ad (o)))]) hx hb dL_wear_13 hl (by decide) rfl (fun ls hl => ?_)
      refine g_iconst S 1 dL_wear_15 (by decide +kernel) ?_
      exact g_iret S hr hlocks hP hS (Or.inr (⟨rfl, hpx⟩)) (fun _ _ => rfl) (Nat.le_of_ble_eq_true rfl) (Nat.le_of_ble_eq_true rfl) dL_wear_16
  · skip
    obtain ⟨f0, hf0⟩ := ho rz w1 hq
    refine lv_i2l hx hb dL_wear_8 rfl ?_
    refine g_last S hI hP hS hoN hf0 dL_wear_9 (fun g H locs hg0 hP hS => ?_)
    refine lv_goto (tgt := 17) hx hb dL_wear_10 (by decide) ?_
    refine g_iconst S 0 dL_wear_17 (by decide +kernel) ?_
    exact g_iret S hr hlocks hP hS (Or.inl ⟨rz, g, w1, rfl, hg0, rfl, hq⟩) (fun _ _ => rfl) (Nat.le_of_ble_eq_true rfl) (Nat.le_of_ble_eq_true rfl) dL_wear_18
set_option maxHeartbeats 4000000 in
set_option maxRecDepth 100000 in
/-- the law's call of nightsUntilHole -/
theorem mL_nightsUntilHole (l : Launch) {E : gE} {ad : Nat → Nat} {N : Nat} {w : Nat → va_E} (d o : Nat) (x0 : Int32) (x1 : Int32)  (hz : gHx E) (hn : gHn E) {fs : List Value} {post : Int32 → (Nat → va_E) → Prop} {px : String → (Nat → va_E) → Prop} (hdN : d < N) (hwd : w d = .inr (15, fs)) (hM : gXi l yX12_nightsUntilHole (lw_ws yX12_nightsUntilHole cX12_nightsUntilHole 5 (some .int)) ({ frames := 7, cells := 2, slots := 12, locals := 112 } : Room) E ad N w [.ref (ad (d)), .int (x0), .int (x1)] post px 2 12) (hoN : o < N) (ho : ∀ r w', post r w' → ∃ f, w' o = loE E f) (hx9 : ∀ xc w', px xc w' → xc = xIO ∨ xc = xNS) : gMi l yL_nightsUntilHole (lwH yL_nightsUntilHole cL_nightsUntilHole 5 (some .int) [(0, 10, 13, 13), (0, 10, 17, 37)]) ({ frames := 8, cells := 2, slots := 12, locals := 136 } : Room) E ad N w [.ref (ad (d)), .int (x0), .int (x1), .ref (ad (o))] (fun r w' => (∃ (v : Int32) (g : Nat → Int64) (w1 : Nat → va_E), r = nI 0 ∧ g 0 = v.toInt64 ∧ w' = va_up w1 o (loE E g) ∧ post v w1) ∨ (r = nI 1 ∧ px xIO w') ∨ (r = nI 2 ∧ px xNS w')) 2 12 := by
  refine ofWH (hh := [(0, 10, 13, 13), (0, 10, 17, 37)]) (cc := cL_nightsUntilHole) (maxL := 5) (ret := (some .int)) (by decide) rfl ?_
  intro p e s m args below meth cd s₁ B hml hv
  obtain ⟨rfl, hI, hP⟩ := hv
  obtain ⟨S, hr, hlocks, htab⟩ := gPreH (hh := [(0, 10, 13, 13), (0, 10, 17, 37)]) B hml (C := RL) rfl
  have hx := S.1
  have hb := S.2.1
  have hS : va_S (gA E) s.heap s.heap [] := va_S.rf
  have hl := lv_entry ([.ref (ad (d)), .int (x0), .int (x1), .ref (ad (o))]) (n := 5) (Nat.le_of_ble_eq_true rfl)
  rw [lg_entry_eq]
  generalize (lg_sl ([.ref (ad (d)), .int (x0), .int (x1), .ref (ad (o))]) ++ List.replicate (5 - (lg_sl ([.ref (ad (d)), .int (x0), .int (x1), .ref (ad (o))])).length) Slot.unset).toArray = ls at hl ⊢
  have hl : lv_has ls 5 [(0, .ref (ad (d))), (1, .int (x0)), (2, .int (x1)), (3, .ref (ad (o)))] := hl
  refine lv_aload_n hx hb dL_nightsUntilHole_0 rfl (lv_at hl 3 rfl) ?_
  refine g_iconst S 0 dL_nightsUntilHole_1 (by decide +kernel) ?_
  refine lv_aload_n hx hb dL_nightsUntilHole_2 rfl (lv_at hl 0 rfl) ?_
  refine lv_iload_n hx hb dL_nightsUntilHole_3 rfl (lv_at hl 1 rfl) ?_
  refine lv_iload_n hx hb dL_nightsUntilHole_4 rfl (lv_at hl 2 rfl) ?_
  refine g_xafi (g_xrunV S hI hP hS (k := 2) (As := [.int (x0), .int (x1)]) (rest := [.int (nI (0)), .ref (ad (o))]) hM q1214 q1215 q1216 q82 q1217 rfl rfl (by decide +kernel) ⟨(Nat.le_of_ble_eq_true rfl), (Nat.le_of_ble_eq_true rfl)⟩ rfl hdN hwd rfl hl.1 rfl (Nat.le_of_ble_eq_true rfl) ⟨(Nat.le_of_ble_eq_true rfl), (Nat.le_of_ble_eq_true rfl)⟩ dL_nightsUntilHole_5) hS (fun xc w1 xq ce H locs hpx hP hS hcell hcv hcl => ?_) (fun rz w1 H locs hq hP hS => ?_)
  · rcases hx9 xc w1 hpx with rfl | rfl
    · refine g_catch S hI hz htab ([] : List ((Nat × Nat × Nat × Nat) × String)) (0, 10, 13, 13) [(0, 10, 17, 37)] rfl (fun t ht => absurd ht List.not_mem_nil) (by decide) ⟨by decide, by decide⟩ q835 o523 hcell hcv hcl ?_
      show W p l e _ s m _ below meth cd H locs _ _ _ (F0 m 13 ls [.ref xq])
      refine lv_astore (lv' := [(4, .ref (xq)), (0, .ref (ad (d))), (1, .int (x0)), (2, .int (x1)), (3, .ref (ad (o)))]) hx hb dL_nightsUntilHole_13 hl (by decide) rfl (fun ls hl => ?_)
      refine g_iconst S 1 dL_nightsUntilHole_15 (by decide +kernel) ?_
      exact g_iret S hr hlocks hP hS (Or.inr (Or.inl ⟨rfl, hpx⟩)) (fun _ _ => rfl) (Nat.le_of_ble_eq_true rfl) (Nat.le_of_ble_eq_true rfl) dL_nightsUntilHole_16
    · refine g_catch S hI hz htab ([((0, 10, 13, 13), "java/lang/IndexOutOfBoundsException")] : List ((Nat × Nat × Nat × Nat) × String)) (0, 10, 17, 37) [] rfl (fun t ht => by simp only [List.mem_cons, List.not_mem_nil, or_false] at ht; rcases ht with rfl; exact ⟨by decide, q835, hn s s.heap hI.2.2.2.2 ("java/util/NoSuchElementException", "java/lang/IndexOutOfBoundsException") (by simp [gNl])⟩) (by decide) ⟨by decide, by decide⟩ q883 o894 hcell hcv hcl ?_
      show W p l e _ s m _ below meth cd H locs _ _ _ (F0 m 17 ls [.ref xq])
      refine lv_astore (lv' := [(4, .ref (xq)), (0, .ref (ad (d))), (1, .int (x0)), (2, .int (x1)), (3, .ref (ad (o)))]) hx hb dL_nightsUntilHole_17 hl (by decide) rfl (fun ls hl => ?_)
      refine g_iconst S 2 dL_nightsUntilHole_19 (by decide +kernel) ?_
      exact g_iret S hr hlocks hP hS (Or.inr (Or.inr (⟨rfl, hpx⟩))) (fun _ _ => rfl) (Nat.le_of_ble_eq_true rfl) (Nat.le_of_ble_eq_true rfl) dL_nightsUntilHole_20
  · skip
    obtain ⟨f0, hf0⟩ := ho rz w1 hq
    refine lv_i2l hx hb dL_nightsUntilHole_8 rfl ?_
    refine g_last S hI hP hS hoN hf0 dL_nightsUntilHole_9 (fun g H locs hg0 hP hS => ?_)
    refine lv_goto (tgt := 21) hx hb dL_nightsUntilHole_10 (by decide) ?_
    refine g_iconst S 0 dL_nightsUntilHole_21 (by decide +kernel) ?_
    exact g_iret S hr hlocks hP hS (Or.inl ⟨rz, g, w1, rfl, hg0, rfl, hq⟩) (fun _ _ => rfl) (Nat.le_of_ble_eq_true rfl) (Nat.le_of_ble_eq_true rfl) dL_nightsUntilHole_22
set_option maxHeartbeats 4000000 in
set_option maxRecDepth 100000 in
/-- the law's call of slope -/
theorem mL_slope (l : Launch) {E : gE} {ad : Nat → Nat} {N : Nat} {w : Nat → va_E} (d o : Nat) (x0 : Int32) (x1 : Int32)  (hz : gHx E) (hn : gHn E) {fs : List Value} {post : UInt32 → (Nat → va_E) → Prop} {px : String → (Nat → va_E) → Prop} (hdN : d < N) (hwd : w d = .inr (15, fs)) (hM : gXf l yX12_slope (lw_ws yX12_slope cX12_slope 3 (some .float)) ({ frames := 7, cells := 1, slots := 6, locals := 112 } : Room) E ad N w [.ref (ad (d)), .int (x0), .int (x1)] post px 1 6) (hoN : o < N) (ho : ∀ r w', post r w' → ∃ f, w' o = doE E f ∧ vf_n64 (FP.f2d r)) (hx9 : ∀ xc w', px xc w' → xc = xIO) : gMi l yL_slope (lwH yL_slope cL_slope 5 (some .int) [(0, 10, 13, 13)]) ({ frames := 8, cells := 1, slots := 6, locals := 134 } : Room) E ad N w [.ref (ad (d)), .int (x0), .int (x1), .ref (ad (o))] (fun r w' => (∃ (v : UInt32) (g : Nat → UInt64) (w1 : Nat → va_E), r = nI 0 ∧ g 0 = FP.f2d v ∧ w' = va_up w1 o (doE E g) ∧ post v w1) ∨ (r = nI 1 ∧ px xIO w')) 1 6 := by
  refine ofWH (hh := [(0, 10, 13, 13)]) (cc := cL_slope) (maxL := 5) (ret := (some .int)) (by decide) rfl ?_
  intro p e s m args below meth cd s₁ B hml hv
  obtain ⟨rfl, hI, hP⟩ := hv
  obtain ⟨S, hr, hlocks, htab⟩ := gPreH (hh := [(0, 10, 13, 13)]) B hml (C := RL) rfl
  have hx := S.1
  have hb := S.2.1
  have hS : va_S (gA E) s.heap s.heap [] := va_S.rf
  have hl := lv_entry ([.ref (ad (d)), .int (x0), .int (x1), .ref (ad (o))]) (n := 5) (Nat.le_of_ble_eq_true rfl)
  rw [lg_entry_eq]
  generalize (lg_sl ([.ref (ad (d)), .int (x0), .int (x1), .ref (ad (o))]) ++ List.replicate (5 - (lg_sl ([.ref (ad (d)), .int (x0), .int (x1), .ref (ad (o))])).length) Slot.unset).toArray = ls at hl ⊢
  have hl : lv_has ls 5 [(0, .ref (ad (d))), (1, .int (x0)), (2, .int (x1)), (3, .ref (ad (o)))] := hl
  refine lv_aload_n hx hb dL_slope_0 rfl (lv_at hl 3 rfl) ?_
  refine g_iconst S 0 dL_slope_1 (by decide +kernel) ?_
  refine lv_aload_n hx hb dL_slope_2 rfl (lv_at hl 0 rfl) ?_
  refine lv_iload_n hx hb dL_slope_3 rfl (lv_at hl 1 rfl) ?_
  refine lv_iload_n hx hb dL_slope_4 rfl (lv_at hl 2 rfl) ?_
  refine g_xaff (g_xrunV S hI hP hS (k := 2) (As := [.int (x0), .int (x1)]) (rest := [.int (nI (0)), .ref (ad (o))]) hM q1224 q1225 q1226 q82 q1227 rfl rfl (by decide +kernel) ⟨(Nat.le_of_ble_eq_true rfl), (Nat.le_of_ble_eq_true rfl)⟩ rfl hdN hwd rfl hl.1 rfl (Nat.le_of_ble_eq_true rfl) ⟨(Nat.le_of_ble_eq_true rfl), (Nat.le_of_ble_eq_true rfl)⟩ dL_slope_5) hS (fun xc w1 xq ce H locs hpx hP hS hcell hcv hcl => ?_) (fun rz w1 H locs hq hP hS => ?_)
  · rcases hx9 xc w1 hpx with rfl
    · refine g_catch S hI hz htab ([] : List ((Nat × Nat × Nat × Nat) × String)) (0, 10, 13, 13) [] rfl (fun t ht => absurd ht List.not_mem_nil) (by decide) ⟨by decide, by decide⟩ q835 o523 hcell hcv hcl ?_
      show W p l e _ s m _ below meth cd H locs _ _ _ (F0 m 13 ls [.ref xq])
      refine lv_astore (lv' := [(4, .ref (xq)), (0, .ref (ad (d))), (1, .int (x0)), (2, .int (x1)), (3, .ref (ad (o)))]) hx hb dL_slope_13 hl (by decide) rfl (fun ls hl => ?_)
      refine g_iconst S 1 dL_slope_15 (by decide +kernel) ?_
      exact g_iret S hr hlocks hP hS (Or.inr (⟨rfl, hpx⟩)) (fun _ _ => rfl) (Nat.le_of_ble_eq_true rfl) (Nat.le_of_ble_eq_true rfl) dL_slope_16
  · skip
    obtain ⟨f0, hf0, hnn⟩ := ho rz w1 hq
    refine lv_f2d hx hb dL_slope_8 hnn ?_
    refine g_dast S hI hP hS hoN hf0 dL_slope_9 (fun g H locs hg0 hP hS => ?_)
    refine lv_goto (tgt := 17) hx hb dL_slope_10 (by decide) ?_
    refine g_iconst S 0 dL_slope_17 (by decide +kernel) ?_
    exact g_iret S hr hlocks hP hS (Or.inl ⟨rz, g, w1, rfl, hg0, rfl, hq⟩) (fun _ _ => rfl) (Nat.le_of_ble_eq_true rfl) (Nat.le_of_ble_eq_true rfl) dL_slope_18
set_option maxHeartbeats 4000000 in
set_option maxRecDepth 100000 in
/-- the law's call of feed -/
theorem mL_feed (l : Launch) {E : gE} {ad : Nat → Nat} {N : Nat} {w : Nat → va_E} (d o : Nat) (ch : Nat)  (hz : gHx E) (hn : gHn E) {fs : List Value} {post : Int32 → (Nat → va_E) → Prop} {px : String → (Nat → va_E) → Prop} (hdN : d < N) (hwd : w d = .inr (15, fs)) (hM : gXi l yX12_feed (lw_ws yX12_feed cX12_feed 2 (some .int)) ({ frames := 6, cells := 1, slots := 6, locals := 90 } : Room) E ad N w [.ref (ad (d)), .int (nI (ch))] post px 1 6) (hoN : o < N) (ho : ∀ r w', post r w' → ∃ f, w' o = loE E f) (hx9 : ∀ xc w', px xc w' → xc = xIS) : gMi l yL_feed (lwH yL_feed cL_feed 4 (some .int) [(0, 9, 12, 114)]) ({ frames := 7, cells := 1, slots := 6, locals := 111 } : Room) E ad N w [.ref (ad (d)), .int (nI (ch)), .ref (ad (o))] (fun r w' => (∃ (v : Int32) (g : Nat → Int64) (w1 : Nat → va_E), r = nI 0 ∧ g 0 = v.toInt64 ∧ w' = va_up w1 o (loE E g) ∧ post v w1) ∨ (r = nI 1 ∧ px xIS w')) 1 6 := by
  refine ofWH (hh := [(0, 9, 12, 114)]) (cc := cL_feed) (maxL := 4) (ret := (some .int)) (by decide) rfl ?_
  intro p e s m args below meth cd s₁ B hml hv
  obtain ⟨rfl, hI, hP⟩ := hv
  obtain ⟨S, hr, hlocks, htab⟩ := gPreH (hh := [(0, 9, 12, 114)]) B hml (C := RL) rfl
  have hx := S.1
  have hb := S.2.1
  have hS : va_S (gA E) s.heap s.heap [] := va_S.rf
  have hl := lv_entry ([.ref (ad (d)), .int (nI (ch)), .ref (ad (o))]) (n := 4) (Nat.le_of_ble_eq_true rfl)
  rw [lg_entry_eq]
  generalize (lg_sl ([.ref (ad (d)), .int (nI (ch)), .ref (ad (o))]) ++ List.replicate (4 - (lg_sl ([.ref (ad (d)), .int (nI (ch)), .ref (ad (o))])).length) Slot.unset).toArray = ls at hl ⊢
  have hl : lv_has ls 4 [(0, .ref (ad (d))), (1, .int (nI (ch))), (2, .ref (ad (o)))] := hl
  refine lv_aload_n hx hb dL_feed_0 rfl (lv_at hl 2 rfl) ?_
  refine g_iconst S 0 dL_feed_1 (by decide +kernel) ?_
  refine lv_aload_n hx hb dL_feed_2 rfl (lv_at hl 0 rfl) ?_
  refine lv_iload_n hx hb dL_feed_3 rfl (lv_at hl 1 rfl) ?_
  refine g_xafi (g_xrunV S hI hP hS (k := 1) (As := [.int (nI (ch))]) (rest := [.int (nI (0)), .ref (ad (o))]) hM q1237 q1238 q1239 q82 q1240 rfl rfl (by decide +kernel) ⟨(Nat.le_of_ble_eq_true rfl), (Nat.le_of_ble_eq_true rfl)⟩ rfl hdN hwd rfl hl.1 rfl (Nat.le_of_ble_eq_true rfl) ⟨(Nat.le_of_ble_eq_true rfl), (Nat.le_of_ble_eq_true rfl)⟩ dL_feed_4) hS (fun xc w1 xq ce H locs hpx hP hS hcell hcv hcl => ?_) (fun rz w1 H locs hq hP hS => ?_)
  · rcases hx9 xc w1 hpx with rfl
    · refine g_catch S hI hz htab ([] : List ((Nat × Nat × Nat × Nat) × String)) (0, 9, 12, 114) [] rfl (fun t ht => absurd ht List.not_mem_nil) (by decide) ⟨by decide, by decide⟩ q1236 o1247 hcell hcv hcl ?_
      show W p l e _ s m _ below meth cd H locs _ _ _ (F0 m 12 ls [.ref xq])
      refine lv_astore_n (lv' := [(3, .ref (xq)), (0, .ref (ad (d))), (1, .int (nI (ch))), (2, .ref (ad (o)))]) hx hb dL_feed_12 rfl hl (by decide) rfl (fun ls hl => ?_)
      refine g_iconst S 1 dL_feed_13 (by decide +kernel) ?_
      exact g_iret S hr hlocks hP hS (Or.inr (⟨rfl, hpx⟩)) (fun _ _ => rfl) (Nat.le_of_ble_eq_true rfl) (Nat.le_of_ble_eq_true rfl) dL_feed_14
  · skip
    obtain ⟨f0, hf0⟩ := ho rz w1 hq
    refine lv_i2l hx hb dL_feed_7 rfl ?_
    refine g_last S hI hP hS hoN hf0 dL_feed_8 (fun g H locs hg0 hP hS => ?_)
    refine lv_goto (tgt := 15) hx hb dL_feed_9 (by decide) ?_
    refine g_iconst S 0 dL_feed_15 (by decide +kernel) ?_
    exact g_iret S hr hlocks hP hS (Or.inl ⟨rz, g, w1, rfl, hg0, rfl, hq⟩) (fun _ _ => rfl) (Nat.le_of_ble_eq_true rfl) (Nat.le_of_ble_eq_true rfl) dL_feed_16
set_option maxHeartbeats 4000000 in
set_option maxRecDepth 100000 in
/-- the law's call of execute -/
theorem mL_execute (l : Launch) {E : gE} {ad : Nat → Nat} {N : Nat} {w : Nat → va_E} (d o : Nat)  (hz : gHx E) (hn : gHn E) {fs : List Value} {post : Int32 → (Nat → Nat) → Nat → (Nat → va_E) → Prop} {px : String → (Nat → Nat) → Nat → (Nat → va_E) → Prop} (hdN : d < N) (hwd : w d = .inr (15, fs)) (hM : gUXi l yX12_execute (lw_ws yX12_execute cX12_execute 2 (some .int)) ({ frames := 8, cells := 21, slots := 136, locals := 183 } : Room) E ad N w [.ref (ad (d))] post px 21 136) (hoN : o < N) (ho : ∀ r ad' N' w', post r ad' N' w' → ∃ f, w' o = loE E f ∧ o < N' ∧ ad' o = ad o) (hx9 : ∀ xc ad' N' w', px xc ad' N' w' → xc = xIA ∨ xc = xUO) : gUi l yL_execute (lwH yL_execute cL_execute 3 (some .int) [(0, 8, 11, 15), (0, 8, 14, 17)]) ({ frames := 9, cells := 21, slots := 136, locals := 204 } : Room) E ad N w [.ref (ad (d)), .ref (ad (o))] (fun r ad' N' w' => (∃ (v : Int32) (g : Nat → Int64) (w1 : Nat → va_E), r = nI 0 ∧ g 0 = v.toInt64 ∧ w' = va_up w1 o (loE E g) ∧ post v ad' N' w1) ∨ (r = nI 1 ∧ px xIA ad' N' w') ∨ (r = nI 2 ∧ px xUO ad' N' w')) 21 136 := by
  refine ofWH (hh := [(0, 8, 11, 15), (0, 8, 14, 17)]) (cc := cL_execute) (maxL := 3) (ret := (some .int)) (by decide) rfl ?_
  intro p e s m args below meth cd s₁ B hml hv
  obtain ⟨rfl, hI, hP⟩ := hv
  obtain ⟨S, hr, hlocks, htab⟩ := gPreH (hh := [(0, 8, 11, 15), (0, 8, 14, 17)]) B hml (C := RL) rfl
  have hx := S.1
  have hb := S.2.1
  have hS : va_S (gA E) s.heap s.heap [] := va_S.rf
  have hl := lv_entry ([.ref (ad (d)), .ref (ad (o))]) (n := 3) (Nat.le_of_ble_eq_true rfl)
  rw [lg_entry_eq]
  generalize (lg_sl ([.ref (ad (d)), .ref (ad (o))]) ++ List.replicate (3 - (lg_sl ([.ref (ad (d)), .ref (ad (o))])).length) Slot.unset).toArray = ls at hl ⊢
  have hl : lv_has ls 3 [(0, .ref (ad (d))), (1, .ref (ad (o)))] := hl
  refine lv_aload_n hx hb dL_execute_0 rfl (lv_at hl 1 rfl) ?_
  refine g_iconst S 0 dL_execute_1 (by decide +kernel) ?_
  refine lv_aload_n hx hb dL_execute_2 rfl (lv_at hl 0 rfl) ?_
  refine g_uxafi (g_xrunV S hI hP hS (k := 0) (As := []) (rest := [.int (nI (0)), .ref (ad (o))]) hM q1264 q1265 q1266 q82 q1267 rfl rfl (by decide +kernel) ⟨(Nat.le_of_ble_eq_true rfl), (Nat.le_of_ble_eq_true rfl)⟩ rfl hdN hwd rfl hl.1 rfl (Nat.le_of_ble_eq_true rfl) ⟨(Nat.le_of_ble_eq_true rfl), (Nat.le_of_ble_eq_true rfl)⟩ dL_execute_3) hS (fun xc ad1 N1 w1 xq ce H locs hpx hP hS hcell hcv hcl => ?_) (fun rz ad1 N1 w1 H locs hq hP hS => ?_)
  · rcases hx9 xc ad1 N1 w1 hpx with rfl | rfl
    · refine g_catch S hI hz htab ([] : List ((Nat × Nat × Nat × Nat) × String)) (0, 8, 11, 15) [(0, 8, 14, 17)] rfl (fun t ht => absurd ht List.not_mem_nil) (by decide) ⟨by decide, by decide⟩ q836 o594 hcell hcv hcl ?_
      show W p l e _ s m _ below meth cd H locs _ _ _ (F0 m 11 ls [.ref xq])
      refine lv_astore_n (lv' := [(2, .ref (xq)), (0, .ref (ad (d))), (1, .ref (ad (o)))]) hx hb dL_execute_11 rfl hl (by decide) rfl (fun ls hl => ?_)
      refine g_iconst S 1 dL_execute_12 (by decide +kernel) ?_
      exact g_uiret S hr hlocks hP hS (Or.inr (Or.inl ⟨rfl, hpx⟩)) (Nat.le_of_ble_eq_true rfl) (Nat.le_of_ble_eq_true rfl) dL_execute_13
    · refine g_catch S hI hz htab ([((0, 8, 11, 15), "java/lang/IllegalArgumentException")] : List ((Nat × Nat × Nat × Nat) × String)) (0, 8, 14, 17) [] rfl (fun t ht => by simp only [List.mem_cons, List.not_mem_nil, or_false] at ht; rcases ht with rfl; exact ⟨by decide, q836, hn s s.heap hI.2.2.2.2 ("java/lang/UnsupportedOperationException", "java/lang/IllegalArgumentException") (by simp [gNl])⟩) (by decide) ⟨by decide, by decide⟩ q837 o626 hcell hcv hcl ?_
      show W p l e _ s m _ below meth cd H locs _ _ _ (F0 m 14 ls [.ref xq])
      refine lv_astore_n (lv' := [(2, .ref (xq)), (0, .ref (ad (d))), (1, .ref (ad (o)))]) hx hb dL_execute_14 rfl hl (by decide) rfl (fun ls hl => ?_)
      refine g_iconst S 2 dL_execute_15 (by decide +kernel) ?_
      exact g_uiret S hr hlocks hP hS (Or.inr (Or.inr (⟨rfl, hpx⟩))) (Nat.le_of_ble_eq_true rfl) (Nat.le_of_ble_eq_true rfl) dL_execute_16
  · skip
    obtain ⟨f0, hf0, hoN1, hado⟩ := ho rz ad1 N1 w1 hq
    rw [show ([.int rz, .int (nI (0)), .ref (ad o)] : List Value) = [.int rz, .int (nI (0)), .ref (ad1 o)] by rw [hado]]
    refine lv_i2l hx hb dL_execute_6 rfl ?_
    refine g_last S hI hP hS hoN1 hf0 dL_execute_7 (fun g H locs hg0 hP hS => ?_)
    refine lv_goto (tgt := 17) hx hb dL_execute_8 (by decide) ?_
    refine g_iconst S 0 dL_execute_17 (by decide +kernel) ?_
    exact g_uiret S hr hlocks hP hS (Or.inl ⟨rz, g, w1, rfl, hg0, rfl, hq⟩) (Nat.le_of_ble_eq_true rfl) (Nat.le_of_ble_eq_true rfl) dL_execute_18
set_option maxHeartbeats 4000000 in
set_option maxRecDepth 100000 in
/-- the law's call of faultPosition -/
theorem mL_faultPosition (l : Launch) {E : gE} {ad : Nat → Nat} {N : Nat} {w : Nat → va_E} (d o : Nat)  (hz : gHx E) (hn : gHn E) {fs : List Value} {post : Int32 → (Nat → va_E) → Prop} {px : String → (Nat → va_E) → Prop} (hdN : d < N) (hwd : w d = .inr (15, fs)) (hM : gXi l yX12_faultPosition (lw_ws yX12_faultPosition cX12_faultPosition 1 (some .int)) ({ frames := 6, cells := 1, slots := 6, locals := 90 } : Room) E ad N w [.ref (ad (d))] post px 1 6) (hoN : o < N) (ho : ∀ r w', post r w' → ∃ f, w' o = loE E f) (hx9 : ∀ xc w', px xc w' → xc = xNS) : gMi l yL_faultPosition (lwH yL_faultPosition cL_faultPosition 3 (some .int) [(0, 8, 11, 37)]) ({ frames := 7, cells := 1, slots := 6, locals := 110 } : Room) E ad N w [.ref (ad (d)), .ref (ad (o))] (fun r w' => (∃ (v : Int32) (g : Nat → Int64) (w1 : Nat → va_E), r = nI 0 ∧ g 0 = v.toInt64 ∧ w' = va_up w1 o (loE E g) ∧ post v w1) ∨ (r = nI 1 ∧ px xNS w')) 1 6 := by
  refine ofWH (hh := [(0, 8, 11, 37)]) (cc := cL_faultPosition) (maxL := 3) (ret := (some .int)) (by decide) rfl ?_
  intro p e s m args below meth cd s₁ B hml hv
  obtain ⟨rfl, hI, hP⟩ := hv
  obtain ⟨S, hr, hlocks, htab⟩ := gPreH (hh := [(0, 8, 11, 37)]) B hml (C := RL) rfl
  have hx := S.1
  have hb := S.2.1
  have hS : va_S (gA E) s.heap s.heap [] := va_S.rf
  have hl := lv_entry ([.ref (ad (d)), .ref (ad (o))]) (n := 3) (Nat.le_of_ble_eq_true rfl)
  rw [lg_entry_eq]
  generalize (lg_sl ([.ref (ad (d)), .ref (ad (o))]) ++ List.replicate (3 - (lg_sl ([.ref (ad (d)), .ref (ad (o))])).length) Slot.unset).toArray = ls at hl ⊢
  have hl : lv_has ls 3 [(0, .ref (ad (d))), (1, .ref (ad (o)))] := hl
  refine lv_aload_n hx hb dL_faultPosition_0 rfl (lv_at hl 1 rfl) ?_
  refine g_iconst S 0 dL_faultPosition_1 (by decide +kernel) ?_
  refine lv_aload_n hx hb dL_faultPosition_2 rfl (lv_at hl 0 rfl) ?_
  refine g_xafi (g_xrunV S hI hP hS (k := 0) (As := []) (rest := [.int (nI (0)), .ref (ad (o))]) hM q1442 q1443 q1444 q82 q1445 rfl rfl (by decide +kernel) ⟨(Nat.le_of_ble_eq_true rfl), (Nat.le_of_ble_eq_true rfl)⟩ rfl hdN hwd rfl hl.1 rfl (Nat.le_of_ble_eq_true rfl) ⟨(Nat.le_of_ble_eq_true rfl), (Nat.le_of_ble_eq_true rfl)⟩ dL_faultPosition_3) hS (fun xc w1 xq ce H locs hpx hP hS hcell hcv hcl => ?_) (fun rz w1 H locs hq hP hS => ?_)
  · rcases hx9 xc w1 hpx with rfl
    · refine g_catch S hI hz htab ([] : List ((Nat × Nat × Nat × Nat) × String)) (0, 8, 11, 37) [] rfl (fun t ht => absurd ht List.not_mem_nil) (by decide) ⟨by decide, by decide⟩ q883 o894 hcell hcv hcl ?_
      show W p l e _ s m _ below meth cd H locs _ _ _ (F0 m 11 ls [.ref xq])
      refine lv_astore_n (lv' := [(2, .ref (xq)), (0, .ref (ad (d))), (1, .ref (ad (o)))]) hx hb dL_faultPosition_11 rfl hl (by decide) rfl (fun ls hl => ?_)
      refine g_iconst S 1 dL_faultPosition_12 (by decide +kernel) ?_
      exact g_iret S hr hlocks hP hS (Or.inr (⟨rfl, hpx⟩)) (fun _ _ => rfl) (Nat.le_of_ble_eq_true rfl) (Nat.le_of_ble_eq_true rfl) dL_faultPosition_13
  · skip
    obtain ⟨f0, hf0⟩ := ho rz w1 hq
    refine lv_i2l hx hb dL_faultPosition_6 rfl ?_
    refine g_last S hI hP hS hoN hf0 dL_faultPosition_7 (fun g H locs hg0 hP hS => ?_)
    refine lv_goto (tgt := 14) hx hb dL_faultPosition_8 (by decide) ?_
    refine g_iconst S 0 dL_faultPosition_14 (by decide +kernel) ?_
    exact g_iret S hr hlocks hP hS (Or.inl ⟨rz, g, w1, rfl, hg0, rfl, hq⟩) (fun _ _ => rfl) (Nat.le_of_ble_eq_true rfl) (Nat.le_of_ble_eq_true rfl) dL_faultPosition_15
set_option maxHeartbeats 4000000 in
set_option maxRecDepth 100000 in
/-- the law's call of writeRow -/
theorem mL_writeRow (l : Launch) {E : gE} {ad : Nat → Nat} {N : Nat} {w : Nat → va_E} (d o : Nat) (x0 : Int32)  (hz : gHx E) (hn : gHn E) {fs : List Value} {post : Int32 → (Nat → Nat) → Nat → (Nat → va_E) → Prop} {px : String → (Nat → Nat) → Nat → (Nat → va_E) → Prop} (hdN : d < N) (hwd : w d = .inr (15, fs)) (hM : gUXi l yX12_writeRow (lw_ws yX12_writeRow cX12_writeRow 4 (some .int)) ({ frames := 7, cells := 40, slots := 2600, locals := 156 } : Room) E ad N w [.ref (ad (d)), .int (x0)] post px 40 2600) (hoN : o < N) (ho : ∀ r ad' N' w', post r ad' N' w' → ∃ f, w' o = loE E f ∧ o < N' ∧ ad' o = ad o) (hx9 : ∀ xc ad' N' w', px xc ad' N' w' → xc = xIO) : gUi l yL_writeRow (lwH yL_writeRow cL_writeRow 4 (some .int) [(0, 9, 12, 13)]) ({ frames := 8, cells := 40, slots := 2600, locals := 179 } : Room) E ad N w [.ref (ad (d)), .int (x0), .ref (ad (o))] (fun r ad' N' w' => (∃ (v : Int32) (g : Nat → Int64) (w1 : Nat → va_E), r = nI 0 ∧ g 0 = v.toInt64 ∧ w' = va_up w1 o (loE E g) ∧ post v ad' N' w1) ∨ (r = nI 1 ∧ px xIO ad' N' w')) 40 2600 := by
  refine ofWH (hh := [(0, 9, 12, 13)]) (cc := cL_writeRow) (maxL := 4) (ret := (some .int)) (by decide) rfl ?_
  intro p e s m args below meth cd s₁ B hml hv
  obtain ⟨rfl, hI, hP⟩ := hv
  obtain ⟨S, hr, hlocks, htab⟩ := gPreH (hh := [(0, 9, 12, 13)]) B hml (C := RL) rfl
  have hx := S.1
  have hb := S.2.1
  have hS : va_S (gA E) s.heap s.heap [] := va_S.rf
  have hl := lv_entry ([.ref (ad (d)), .int (x0), .ref (ad (o))]) (n := 4) (Nat.le_of_ble_eq_true rfl)
  rw [lg_entry_eq]
  generalize (lg_sl ([.ref (ad (d)), .int (x0), .ref (ad (o))]) ++ List.replicate (4 - (lg_sl ([.ref (ad (d)), .int (x0), .ref (ad (o))])).length) Slot.unset).toArray = ls at hl ⊢
  have hl : lv_has ls 4 [(0, .ref (ad (d))), (1, .int (x0)), (2, .ref (ad (o)))] := hl
  refine lv_aload_n hx hb dL_writeRow_0 rfl (lv_at hl 2 rfl) ?_
  refine g_iconst S 0 dL_writeRow_1 (by decide +kernel) ?_
  refine lv_aload_n hx hb dL_writeRow_2 rfl (lv_at hl 0 rfl) ?_
  refine lv_iload_n hx hb dL_writeRow_3 rfl (lv_at hl 1 rfl) ?_
  refine g_uxafi (g_xrunV S hI hP hS (k := 1) (As := [.int (x0)]) (rest := [.int (nI (0)), .ref (ad (o))]) hM q1450 q1451 q1452 q82 q1453 rfl rfl (by decide +kernel) ⟨(Nat.le_of_ble_eq_true rfl), (Nat.le_of_ble_eq_true rfl)⟩ rfl hdN hwd rfl hl.1 rfl (Nat.le_of_ble_eq_true rfl) ⟨(Nat.le_of_ble_eq_true rfl), (Nat.le_of_ble_eq_true rfl)⟩ dL_writeRow_4) hS (fun xc ad1 N1 w1 xq ce H locs hpx hP hS hcell hcv hcl => ?_) (fun rz ad1 N1 w1 H locs hq hP hS => ?_)
  · rcases hx9 xc ad1 N1 w1 hpx with rfl
    · refine g_catch S hI hz htab ([] : List ((Nat × Nat × Nat × Nat) × String)) (0, 9, 12, 13) [] rfl (fun t ht => absurd ht List.not_mem_nil) (by decide) ⟨by decide, by decide⟩ q835 o523 hcell hcv hcl ?_
      show W p l e _ s m _ below meth cd H locs _ _ _ (F0 m 12 ls [.ref xq])
      refine lv_astore_n (lv' := [(3, .ref (xq)), (0, .ref (ad (d))), (1, .int (x0)), (2, .ref (ad (o)))]) hx hb dL_writeRow_12 rfl hl (by decide) rfl (fun ls hl => ?_)
      refine g_iconst S 1 dL_writeRow_13 (by decide +kernel) ?_
      exact g_uiret S hr hlocks hP hS (Or.inr (⟨rfl, hpx⟩)) (Nat.le_of_ble_eq_true rfl) (Nat.le_of_ble_eq_true rfl) dL_writeRow_14
  · skip
    obtain ⟨f0, hf0, hoN1, hado⟩ := ho rz ad1 N1 w1 hq
    rw [show ([.int rz, .int (nI (0)), .ref (ad o)] : List Value) = [.int rz, .int (nI (0)), .ref (ad1 o)] by rw [hado]]
    refine lv_i2l hx hb dL_writeRow_7 rfl ?_
    refine g_last S hI hP hS hoN1 hf0 dL_writeRow_8 (fun g H locs hg0 hP hS => ?_)
    refine lv_goto (tgt := 15) hx hb dL_writeRow_9 (by decide) ?_
    refine g_iconst S 0 dL_writeRow_15 (by decide +kernel) ?_
    exact g_uiret S hr hlocks hP hS (Or.inl ⟨rz, g, w1, rfl, hg0, rfl, hq⟩) (Nat.le_of_ble_eq_true rfl) (Nat.le_of_ble_eq_true rfl) dL_writeRow_16
set_option maxHeartbeats 4000000 in
set_option maxRecDepth 100000 in
/-- the law's call of lineCharacter -/
theorem mL_lineCharacter (l : Launch) {E : gE} {ad : Nat → Nat} {N : Nat} {w : Nat → va_E} (d o : Nat) (x0 : Int32)  (hz : gHx E) (hn : gHn E) {fs : List Value} {post : Int32 → (Nat → va_E) → Prop} {px : String → (Nat → va_E) → Prop} (hdN : d < N) (hwd : w d = .inr (15, fs)) (hM : gXi l yX12_lineCharacter (lw_ws yX12_lineCharacter cX12_lineCharacter 2 (some .char)) ({ frames := 6, cells := 1, slots := 6, locals := 90 } : Room) E ad N w [.ref (ad (d)), .int (x0)] post px 1 6) (hoN : o < N) (ho : ∀ r w', post r w' → ∃ f, w' o = loE E f) (hx9 : ∀ xc w', px xc w' → xc = xIO) : gMi l yL_lineCharacter (lwH yL_lineCharacter cL_lineCharacter 4 (some .int) [(0, 9, 12, 13)]) ({ frames := 7, cells := 1, slots := 6, locals := 111 } : Room) E ad N w [.ref (ad (d)), .int (x0), .ref (ad (o))] (fun r w' => (∃ (v : Int32) (g : Nat → Int64) (w1 : Nat → va_E), r = nI 0 ∧ g 0 = v.toInt64 ∧ w' = va_up w1 o (loE E g) ∧ post v w1) ∨ (r = nI 1 ∧ px xIO w')) 1 6 := by
  refine ofWH (hh := [(0, 9, 12, 13)]) (cc := cL_lineCharacter) (maxL := 4) (ret := (some .int)) (by decide) rfl ?_
  intro p e s m args below meth cd s₁ B hml hv
  obtain ⟨rfl, hI, hP⟩ := hv
  obtain ⟨S, hr, hlocks, htab⟩ := gPreH (hh := [(0, 9, 12, 13)]) B hml (C := RL) rfl
  have hx := S.1
  have hb := S.2.1
  have hS : va_S (gA E) s.heap s.heap [] := va_S.rf
  have hl := lv_entry ([.ref (ad (d)), .int (x0), .ref (ad (o))]) (n := 4) (Nat.le_of_ble_eq_true rfl)
  rw [lg_entry_eq]
  generalize (lg_sl ([.ref (ad (d)), .int (x0), .ref (ad (o))]) ++ List.replicate (4 - (lg_sl ([.ref (ad (d)), .int (x0), .ref (ad (o))])).length) Slot.unset).toArray = ls at hl ⊢
  have hl : lv_has ls 4 [(0, .ref (ad (d))), (1, .int (x0)), (2, .ref (ad (o)))] := hl
  refine lv_aload_n hx hb dL_lineCharacter_0 rfl (lv_at hl 2 rfl) ?_
  refine g_iconst S 0 dL_lineCharacter_1 (by decide +kernel) ?_
  refine lv_aload_n hx hb dL_lineCharacter_2 rfl (lv_at hl 0 rfl) ?_
  refine lv_iload_n hx hb dL_lineCharacter_3 rfl (lv_at hl 1 rfl) ?_
  refine g_xafi (g_xrunV S hI hP hS (k := 1) (As := [.int (x0)]) (rest := [.int (nI (0)), .ref (ad (o))]) hM q1715 q1716 q1717 q82 q1718 rfl rfl (by decide +kernel) ⟨(Nat.le_of_ble_eq_true rfl), (Nat.le_of_ble_eq_true rfl)⟩ rfl hdN hwd rfl hl.1 rfl (Nat.le_of_ble_eq_true rfl) ⟨(Nat.le_of_ble_eq_true rfl), (Nat.le_of_ble_eq_true rfl)⟩ dL_lineCharacter_4) hS (fun xc w1 xq ce H locs hpx hP hS hcell hcv hcl => ?_) (fun rz w1 H locs hq hP hS => ?_)
  · rcases hx9 xc w1 hpx with rfl
    · refine g_catch S hI hz htab ([] : List ((Nat × Nat × Nat × Nat) × String)) (0, 9, 12, 13) [] rfl (fun t ht => absurd ht List.not_mem_nil) (by decide) ⟨by decide, by decide⟩ q835 o523 hcell hcv hcl ?_
      show W p l e _ s m _ below meth cd H locs _ _ _ (F0 m 12 ls [.ref xq])
      refine lv_astore_n (lv' := [(3, .ref (xq)), (0, .ref (ad (d))), (1, .int (x0)), (2, .ref (ad (o)))]) hx hb dL_lineCharacter_12 rfl hl (by decide) rfl (fun ls hl => ?_)
      refine g_iconst S 1 dL_lineCharacter_13 (by decide +kernel) ?_
      exact g_iret S hr hlocks hP hS (Or.inr (⟨rfl, hpx⟩)) (fun _ _ => rfl) (Nat.le_of_ble_eq_true rfl) (Nat.le_of_ble_eq_true rfl) dL_lineCharacter_14
  · skip
    obtain ⟨f0, hf0⟩ := ho rz w1 hq
    refine lv_i2l hx hb dL_lineCharacter_7 rfl ?_
    refine g_last S hI hP hS hoN hf0 dL_lineCharacter_8 (fun g H locs hg0 hP hS => ?_)
    refine lv_goto (tgt := 15) hx hb dL_lineCharacter_9 (by decide) ?_
    refine g_iconst S 0 dL_lineCharacter_15 (by decide +kernel) ?_
    exact g_iret S hr hlocks hP hS (Or.inl ⟨rz, g, w1, rfl, hg0, rfl, hq⟩) (fun _ _ => rfl) (Nat.le_of_ble_eq_true rfl) (Nat.le_of_ble_eq_true rfl) dL_lineCharacter_16
set_option maxHeartbeats 4000000 in
set_option maxRecDepth 100000 in
/-- the law's call of denial -/
theorem mL_denial (l : Launch) {E : gE} {ad : Nat → Nat} {N : Nat} {w : Nat → va_E} (d o : Nat)  (hz : gHx E) (hn : gHn E) {fs : List Value} {post : Int32 → (Nat → va_E) → Prop} {px : String → (Nat → va_E) → Prop} (hdN : d < N) (hwd : w d = .inr (15, fs)) (hM : gXi l yX12_denial (lw_ws yX12_denial cX12_denial 1 (some .int)) ({ frames := 7, cells := 1, slots := 6, locals := 110 } : Room) E ad N w [.ref (ad (d))] post px 1 6) (hoN : o < N) (ho : ∀ r w', post r w' → ∃ f, w' o = loE E f) (hx9 : ∀ xc w', px xc w' → xc = xNS) : gMi l yL_denial (lwH yL_denial cL_denial 3 (some .int) [(0, 8, 11, 37)]) ({ frames := 8, cells := 1, slots := 6, locals := 130 } : Room) E ad N w [.ref (ad (d)), .ref (ad (o))] (fun r w' => (∃ (v : Int32) (g : Nat → Int64) (w1 : Nat → va_E), r = nI 0 ∧ g 0 = v.toInt64 ∧ w' = va_up w1 o (loE E g) ∧ post v w1) ∨ (r = nI 1 ∧ px xNS w')) 1 6 := by
  refine ofWH (hh := [(0, 8, 11, 37)]) (cc := cL_denial) (maxL := 3) (ret := (some .int)) (by decide) rfl ?_
  intro p e s m args below meth cd s₁ B hml hv
  obtain ⟨rfl, hI, hP⟩ := hv
  obtain ⟨S, hr, hlocks, htab⟩ := gPreH (hh := [(0, 8, 11, 37)]) B hml (C := RL) rfl
  have hx := S.1
  have hb := S.2.1
  have hS : va_S (gA E) s.heap s.heap [] := va_S.rf
  have hl := lv_entry ([.ref (ad (d)), .ref (ad (o))]) (n := 3) (Nat.le_of_ble_eq_true rfl)
  rw [lg_entry_eq]
  generalize (lg_sl ([.ref (ad (d)), .ref (ad (o))]) ++ List.replicate (3 - (lg_sl ([.ref (ad (d)), .ref (ad (o))])).length) Slot.unset).toArray = ls at hl ⊢
  have hl : lv_has ls 3 [(0, .ref (ad (d))), (1, .ref (ad (o)))] := hl
  refine lv_aload_n hx hb dL_denial_0 rfl (lv_at hl 1 rfl) ?_
  refine g_iconst S 0 dL_denial_1 (by decide +kernel) ?_
  refine lv_aload_n hx hb dL_denial_2 rfl (lv_at hl 0 rfl) ?_
  refine g_xafi (g_xrunV S hI hP hS (k := 0) (As := []) (rest := [.int (nI (0)), .ref (ad (o))]) hM q1733 q1734 q1735 q82 q1736 rfl rfl (by decide +kernel) ⟨(Nat.le_of_ble_eq_true rfl), (Nat.le_of_ble_eq_true rfl)⟩ rfl hdN hwd rfl hl.1 rfl (Nat.le_of_ble_eq_true rfl) ⟨(Nat.le_of_ble_eq_true rfl), (Nat.le_of_ble_eq_true rfl)⟩ dL_denial_3) hS (fun xc w1 xq ce H locs hpx hP hS hcell hcv hcl => ?_) (fun rz w1 H locs hq hP hS => ?_)
  · rcases hx9 xc w1 hpx with rfl
    · refine g_catch S hI hz htab ([] : List ((Nat × Nat × Nat × Nat) × String)) (0, 8, 11, 37) [] rfl (fun t ht => absurd ht List.not_mem_nil) (by decide) ⟨by decide, by decide⟩ q883 o894 hcell hcv hcl ?_
      show W p l e _ s m _ below meth cd H locs _ _ _ (F0 m 11 ls [.ref xq])
      refine lv_astore_n (lv' := [(2, .ref (xq)), (0, .ref (ad (d))), (1, .ref (ad (o)))]) hx hb dL_denial_11 rfl hl (by decide) rfl (fun ls hl => ?_)
      refine g_iconst S 1 dL_denial_12 (by decide +kernel) ?_
      exact g_iret S hr hlocks hP hS (Or.inr (⟨rfl, hpx⟩)) (fun _ _ => rfl) (Nat.le_of_ble_eq_true rfl) (Nat.le_of_ble_eq_true rfl) dL_denial_13
  · skip
    obtain ⟨f0, hf0⟩ := ho rz w1 hq
    refine lv_i2l hx hb dL_denial_6 rfl ?_
    refine g_last S hI hP hS hoN hf0 dL_denial_7 (fun g H locs hg0 hP hS => ?_)
    refine lv_goto (tgt := 14) hx hb dL_denial_8 (by decide) ?_
    refine g_iconst S 0 dL_denial_14 (by decide +kernel) ?_
    exact g_iret S hr hlocks hP hS (Or.inl ⟨rz, g, w1, rfl, hg0, rfl, hq⟩) (fun _ _ => rfl) (Nat.le_of_ble_eq_true rfl) (Nat.le_of_ble_eq_true rfl) dL_denial_15
set_option maxHeartbeats 4000000 in
set_option maxRecDepth 100000 in
/-- the law's call of denialDetail -/
theorem mL_denialDetail (l : Launch) {E : gE} {ad : Nat → Nat} {N : Nat} {w : Nat → va_E} (d o : Nat)  (hz : gHx E) (hn : gHn E) {fs : List Value} {post : Int32 → (Nat → va_E) → Prop} {px : String → (Nat → va_E) → Prop} (hdN : d < N) (hwd : w d = .inr (15, fs)) (hM : gXi l yX12_denialDetail (lw_ws yX12_denialDetail cX12_denialDetail 1 (some .int)) ({ frames := 7, cells := 1, slots := 6, locals := 110 } : Room) E ad N w [.ref (ad (d))] post px 1 6) (hoN : o < N) (ho : ∀ r w', post r w' → ∃ f, w' o = loE E f) (hx9 : ∀ xc w', px xc w' → xc = xNS) : gMi l yL_denialDetail (lwH yL_denialDetail cL_denialDetail 3 (some .int) [(0, 8, 11, 37)]) ({ frames := 8, cells := 1, slots := 6, locals := 130 } : Room) E ad N w [.ref (ad (d)), .ref (ad (o))] (fun r w' => (∃ (v : Int32) (g : Nat → Int64) (w1 : Nat → va_E), r = nI 0 ∧ g 0 = v.toInt64 ∧ w' = va_up w1 o (loE E g) ∧ post v w1) ∨ (r = nI 1 ∧ px xNS w')) 1 6 := by
  refine ofWH (hh := [(0, 8, 11, 37)]) (cc := cL_denialDetail) (maxL := 3) (ret := (some .int)) (by decide) rfl ?_
  intro p e s m args below meth cd s₁ B hml hv
  obtain ⟨rfl, hI, hP⟩ := hv
  obtain ⟨S, hr, hlocks, htab⟩ := gPreH (hh := [(0, 8, 11, 37)]) B hml (C := RL) rfl
  have hx := S.1
  have hb := S.2.1
  have hS : va_S (gA E) s.heap s.heap [] := va_S.rf
  have hl := lv_entry ([.ref (ad (d)), .ref (ad (o))]) (n := 3) (Nat.le_of_ble_eq_true rfl)
  rw [lg_entry_eq]
  generalize (lg_sl ([.ref (ad (d)), .ref (ad (o))]) ++ List.replicate (3 - (lg_sl ([.ref (ad (d)), .ref (ad (o))])).length) Slot.unset).toArray = ls at hl ⊢
  have hl : lv_has ls 3 [(0, .ref (ad (d))), (1, .ref (ad (o)))] := hl
  refine lv_aload_n hx hb dL_denialDetail_0 rfl (lv_at hl 1 rfl) ?_
  refine g_iconst S 0 dL_denialDetail_1 (by decide +kernel) ?_
  refine lv_aload_n hx hb dL_denialDetail_2 rfl (lv_at hl 0 rfl) ?_
  refine g_xafi (g_xrunV S hI hP hS (k := 0) (As := []) (rest := [.int (nI (0)), .ref (ad (o))]) hM q1745 q1746 q1747 q82 q1748 rfl rfl (by decide +kernel) ⟨(Nat.le_of_ble_eq_true rfl), (Nat.le_of_ble_eq_true rfl)⟩ rfl hdN hwd rfl hl.1 rfl (Nat.le_of_ble_eq_true rfl) ⟨(Nat.le_of_ble_eq_true rfl), (Nat.le_of_ble_eq_true rfl)⟩ dL_denialDetail_3) hS (fun xc w1 xq ce H locs hpx hP hS hcell hcv hcl => ?_) (fun rz w1 H locs hq hP hS => ?_)
  · rcases hx9 xc w1 hpx with rfl
    · refine g_catch S hI hz htab ([] : List ((Nat × Nat × Nat × Nat) × String)) (0, 8, 11, 37) [] rfl (fun t ht => absurd ht List.not_mem_nil) (by decide) ⟨by decide, by decide⟩ q883 o894 hcell hcv hcl ?_
      show W p l e _ s m _ below meth cd H locs _ _ _ (F0 m 11 ls [.ref xq])
      refine lv_astore_n (lv' := [(2, .ref (xq)), (0, .ref (ad (d))), (1, .ref (ad (o)))]) hx hb dL_denialDetail_11 rfl hl (by decide) rfl (fun ls hl => ?_)
      refine g_iconst S 1 dL_denialDetail_12 (by decide +kernel) ?_
      exact g_iret S hr hlocks hP hS (Or.inr (⟨rfl, hpx⟩)) (fun _ _ => rfl) (Nat.le_of_ble_eq_true rfl) (Nat.le_of_ble_eq_true rfl) dL_denialDetail_13
  · skip
    obtain ⟨f0, hf0⟩ := ho rz w1 hq
    refine lv_i2l hx hb dL_denialDetail_6 rfl ?_
    refine g_last S hI hP hS hoN hf0 dL_denialDetail_7 (fun g H locs hg0 hP hS => ?_)
    refine lv_goto (tgt := 14) hx hb dL_denialDetail_8 (by decide) ?_
    refine g_iconst S 0 dL_denialDetail_14 (by decide +kernel) ?_
    exact g_iret S hr hlocks hP hS (Or.inl ⟨rz, g, w1, rfl, hg0, rfl, hq⟩) (fun _ _ => rfl) (Nat.le_of_ble_eq_true rfl) (Nat.le_of_ble_eq_true rfl) dL_denialDetail_15
set_option maxHeartbeats 4000000 in
set_option maxRecDepth 100000 in
/-- the law's call of denialCause -/
theorem mL_denialCause (l : Launch) {E : gE} {ad : Nat → Nat} {N : Nat} {w : Nat → va_E} (d o : Nat)  (hz : gHx E) (hn : gHn E) {fs : List Value} {post : Int32 → (Nat → va_E) → Prop} {px : String → (Nat → va_E) → Prop} (hdN : d < N) (hwd : w d = .inr (15, fs)) (hM : gXi l yX12_denialCause (lw_ws yX12_denialCause cX12_denialCause 1 (some .int)) ({ frames := 6, cells := 1, slots := 6, locals := 90 } : Room) E ad N w [.ref (ad (d))] post px 1 6) (hoN : o < N) (ho : ∀ r w', post r w' → ∃ f, w' o = loE E f) (hx9 : ∀ xc w', px xc w' → xc = xNS) : gMi l yL_denialCause (lwH yL_denialCause cL_denialCause 3 (some .int) [(0, 8, 11, 37)]) ({ frames := 7, cells := 1, slots := 6, locals := 110 } : Room) E ad N w [.ref (ad (d)), .ref (ad (o))] (fun r w' => (∃ (v : Int32) (g : Nat → Int64) (w1 : Nat → va_E), r = nI 0 ∧ g 0 = v.toInt64 ∧ w' = va_up w1 o (loE E g) ∧ post v w1) ∨ (r = nI 1 ∧ px xNS w')) 1 6 := by
  refine ofWH (hh := [(0, 8, 11, 37)]) (cc := cL_denialCause) (maxL := 3) (ret := (some .int)) (by decide) rfl ?_
  intro p e s m args below meth cd s₁ B hml hv
  obtain ⟨rfl, hI, hP⟩ := hv
  obtain ⟨S, hr, hlocks, htab⟩ := gPreH (hh := [(0, 8, 11, 37)]) B hml (C := RL) rfl
  have hx := S.1
  have hb := S.2.1
  have hS : va_S (gA E) s.heap s.heap [] := va_S.rf
  have hl := lv_entry ([.ref (ad (d)), .ref (ad (o))]) (n := 3) (Nat.le_of_ble_eq_true rfl)
  rw [lg_entry_eq]
  generalize (lg_sl ([.ref (ad (d)), .ref (ad (o))]) ++ List.replicate (3 - (lg_sl ([.ref (ad (d)), .ref (ad (o))])).length) Slot.unset).toArray = ls at hl ⊢
  have hl : lv_has ls 3 [(0, .ref (ad (d))), (1, .ref (ad (o)))] := hl
  refine lv_aload_n hx hb dL_denialCause_0 rfl (lv_at hl 1 rfl) ?_
  refine g_iconst S 0 dL_denialCause_1 (by decide +kernel) ?_
  refine lv_aload_n hx hb dL_denialCause_2 rfl (lv_at hl 0 rfl) ?_
  refine g_xafi (g_xrunV S hI hP hS (k := 0) (As := []) (rest := [.int (nI (0)), .ref (ad (o))]) hM q1752 q1753 q1754 q82 q1755 rfl rfl (by decide +kernel) ⟨(Nat.le_of_ble_eq_true rfl), (Nat.le_of_ble_eq_true rfl)⟩ rfl hdN hwd rfl hl.1 rfl (Nat.le_of_ble_eq_true rfl) ⟨(Nat.le_of_ble_eq_true rfl), (Nat.le_of_ble_eq_true rfl)⟩ dL_denialCause_3) hS (fun xc w1 xq ce H locs hpx hP hS hcell hcv hcl => ?_) (fun rz w1 H locs hq hP hS => ?_)
  · rcases hx9 xc w1 hpx with rfl
    · refine g_catch S hI hz htab ([] : List ((Nat × Nat × Nat × Nat) × String)) (0, 8, 11, 37) [] rfl (fun t ht => absurd ht List.not_mem_nil) (by decide) ⟨by decide, by decide⟩ q883 o894 hcell hcv hcl ?_
      show W p l e _ s m _ below meth cd H locs _ _ _ (F0 m 11 ls [.ref xq])
      refine lv_astore_n (lv' := [(2, .ref (xq)), (0, .ref (ad (d))), (1, .ref (ad (o)))]) hx hb dL_denialCause_11 rfl hl (by decide) rfl (fun ls hl => ?_)
      refine g_iconst S 1 dL_denialCause_12 (by decide +kernel) ?_
      exact g_iret S hr hlocks hP hS (Or.inr (⟨rfl, hpx⟩)) (fun _ _ => rfl) (Nat.le_of_ble_eq_true rfl) (Nat.le_of_ble_eq_true rfl) dL_denialCause_13
  · skip
    obtain ⟨f0, hf0⟩ := ho rz w1 hq
    refine lv_i2l hx hb dL_denialCause_6 rfl ?_
    refine g_last S hI hP hS hoN hf0 dL_denialCause_7 (fun g H locs hg0 hP hS => ?_)
    refine lv_goto (tgt := 14) hx hb dL_denialCause_8 (by decide) ?_
    refine g_iconst S 0 dL_denialCause_14 (by decide +kernel) ?_
    exact g_iret S hr hlocks hP hS (Or.inl ⟨rz, g, w1, rfl, hg0, rfl, hq⟩) (fun _ _ => rfl) (Nat.le_of_ble_eq_true rfl) (Nat.le_of_ble_eq_true rfl) dL_denialCause_15
set_option maxHeartbeats 4000000 in
set_option maxRecDepth 100000 in
/-- the law's call of undo -/
theorem mL_undo (l : Launch) {E : gE} {ad : Nat → Nat} {N : Nat} {w : Nat → va_E} (d o : Nat)  (hz : gHx E) (hn : gHn E) {fs : List Value} {post : Int32 → (Nat → va_E) → Prop} {px : String → (Nat → va_E) → Prop} (hdN : d < N) (hwd : w d = .inr (15, fs)) (hM : gXi l yX12_undo (lw_ws yX12_undo cX12_undo 1 (some .int)) ({ frames := 6, cells := 1, slots := 6, locals := 90 } : Room) E ad N w [.ref (ad (d))] post px 1 6) (hoN : o < N) (ho : ∀ r w', post r w' → ∃ f, w' o = loE E f) (hx9 : ∀ xc w', px xc w' → xc = xIS) : gMi l yL_undo (lwH yL_undo cL_undo 3 (some .int) [(0, 8, 11, 114)]) ({ frames := 7, cells := 1, slots := 6, locals := 110 } : Room) E ad N w [.ref (ad (d)), .ref (ad (o))] (fun r w' => (∃ (v : Int32) (g : Nat → Int64) (w1 : Nat → va_E), r = nI 0 ∧ g 0 = v.toInt64 ∧ w' = va_up w1 o (loE E g) ∧ post v w1) ∨ (r = nI 1 ∧ px xIS w')) 1 6 := by
  refine ofWH (hh := [(0, 8, 11, 114)]) (cc := cL_undo) (maxL := 3) (ret := (some .int)) (by decide) rfl ?_
  intro p e s m args below meth cd s₁ B hml hv
  obtain ⟨rfl, hI, hP⟩ := hv
  obtain ⟨S, hr, hlocks, htab⟩ := gPreH (hh := [(0, 8, 11, 114)]) B hml (C := RL) rfl
  have hx := S.1
  have hb := S.2.1
  have hS : va_S (gA E) s.heap s.heap [] := va_S.rf
  have hl := lv_entry ([.ref (ad (d)), .ref (ad (o))]) (n := 3) (Nat.le_of_ble_eq_true rfl)
  rw [lg_entry_eq]
  generalize (lg_sl ([.ref (ad (d)), .ref (ad (o))]) ++ List.replicate (3 - (lg_sl ([.ref (ad (d)), .ref (ad (o))])).length) Slot.unset).toArray = ls at hl ⊢
  have hl : lv_has ls 3 [(0, .ref (ad (d))), (1, .ref (ad (o)))] := hl
  refine lv_aload_n hx hb dL_undo_0 rfl (lv_at hl 1 rfl) ?_
  refine g_iconst S 0 dL_undo_1 (by decide +kernel) ?_
  refine lv_aload_n hx hb dL_undo_2 rfl (lv_at hl 0 rfl) ?_
  refine g_xafi (g_xrunV S hI hP hS (k := 0) (As := []) (rest := [.int (nI (0)), .ref (ad (o))]) hM q1760 q1761 q1762 q82 q1763 rfl rfl (by decide +kernel) ⟨(Nat.le_of_ble_eq_true rfl), (Nat.le_of_ble_eq_true rfl)⟩ rfl hdN hwd rfl hl.1 rfl (Nat.le_of_ble_eq_true rfl) ⟨(Nat.le_of_ble_eq_true rfl), (Nat.le_of_ble_eq_true rfl)⟩ dL_undo_3) hS (fun xc w1 xq ce H locs hpx hP hS hcell hcv hcl => ?_) (fun rz w1 H locs hq hP hS => ?_)
  · rcases hx9 xc w1 hpx with rfl
    · refine g_catch S hI hz htab ([] : List ((Nat × Nat × Nat × Nat) × String)) (0, 8, 11, 114) [] rfl (fun t ht => absurd ht List.not_mem_nil) (by decide) ⟨by decide, by decide⟩ q1236 o1247 hcell hcv hcl ?_
      show W p l e _ s m _ below meth cd H locs _ _ _ (F0 m 11 ls [.ref xq])
      refine lv_astore_n (lv' := [(2, .ref (xq)), (0, .ref (ad (d))), (1, .ref (ad (o)))]) hx hb dL_undo_11 rfl hl (by decide) rfl (fun ls hl => ?_)
      refine g_iconst S 1 dL_undo_12 (by decide +kernel) ?_
      exact g_iret S hr hlocks hP hS (Or.inr (⟨rfl, hpx⟩)) (fun _ _ => rfl) (Nat.le_of_ble_eq_true rfl) (Nat.le_of_ble_eq_true rfl) dL_undo_13
  · skip
    obtain ⟨f0, hf0⟩ := ho rz w1 hq
    refine lv_i2l hx hb dL_undo_6 rfl ?_
    refine g_last S hI hP hS hoN hf0 dL_undo_7 (fun g H locs hg0 hP hS => ?_)
    refine lv_goto (tgt := 14) hx hb dL_undo_8 (by decide) ?_
    refine g_iconst S 0 dL_undo_14 (by decide +kernel) ?_
    exact g_iret S hr hlocks hP hS (Or.inl ⟨rz, g, w1, rfl, hg0, rfl, hq⟩) (fun _ _ => rfl) (Nat.le_of_ble_eq_true rfl) (Nat.le_of_ble_eq_true rfl) dL_undo_15
set_option maxHeartbeats 4000000 in
set_option maxRecDepth 100000 in
/-- the law's call of restoreSnapshot -/
theorem mL_restoreSnapshot (l : Launch) {E : gE} {ad : Nat → Nat} {N : Nat} {w : Nat → va_E} (d o : Nat)  (hz : gHx E) (hn : gHn E) {fs : List Value} {post : Int32 → (Nat → va_E) → Prop} {px : String → (Nat → va_E) → Prop} (hdN : d < N) (hwd : w d = .inr (15, fs)) (hM : gXi l yX12_restoreSnapshot (lw_ws yX12_restoreSnapshot cX12_restoreSnapshot 1 (some .int)) ({ frames := 6, cells := 1, slots := 6, locals := 90 } : Room) E ad N w [.ref (ad (d))] post px 1 6) (hoN : o < N) (ho : ∀ r w', post r w' → ∃ f, w' o = loE E f) (hx9 : ∀ xc w', px xc w' → xc = xIS) : gMi l yL_restoreSnapshot (lwH yL_restoreSnapshot cL_restoreSnapshot 3 (some .int) [(0, 8, 11, 114)]) ({ frames := 7, cells := 1, slots := 6, locals := 110 } : Room) E ad N w [.ref (ad (d)), .ref (ad (o))] (fun r w' => (∃ (v : Int32) (g : Nat → Int64) (w1 : Nat → va_E), r = nI 0 ∧ g 0 = v.toInt64 ∧ w' = va_up w1 o (loE E g) ∧ post v w1) ∨ (r = nI 1 ∧ px xIS w')) 1 6 := by
  refine ofWH (hh := [(0, 8, 11, 114)]) (cc := cL_restoreSnapshot) (maxL := 3) (ret := (some .int)) (by decide) rfl ?_
  intro p e s m args below meth cd s₁ B hml hv
  obtain ⟨rfl, hI, hP⟩ := hv
  obtain ⟨S, hr, hlocks, htab⟩ := gPreH (hh := [(0, 8, 11, 114)]) B hml (C := RL) rfl
  have hx := S.1
  have hb := S.2.1
  have hS : va_S (gA E) s.heap s.heap [] := va_S.rf
  have hl := lv_entry ([.ref (ad (d)), .ref (ad (o))]) (n := 3) (Nat.le_of_ble_eq_true rfl)
  rw [lg_entry_eq]
  generalize (lg_sl ([.ref (ad (d)), .ref (ad (o))]) ++ List.replicate (3 - (lg_sl ([.ref (ad (d)), .ref (ad (o))])).length) Slot.unset).toArray = ls at hl ⊢
  have hl : lv_has ls 3 [(0, .ref (ad (d))), (1, .ref (ad (o)))] := hl
  refine lv_aload_n hx hb dL_restoreSnapshot_0 rfl (lv_at hl 1 rfl) ?_
  refine g_iconst S 0 dL_restoreSnapshot_1 (by decide +kernel) ?_
  refine lv_aload_n hx hb dL_restoreSnapshot_2 rfl (lv_at hl 0 rfl) ?_
  refine g_xafi (g_xrunV S hI hP hS (k := 0) (As := []) (rest := [.int (nI (0)), .ref (ad (o))]) hM q1772 q1773 q1774 q82 q1775 rfl rfl (by decide +kernel) ⟨(Nat.le_of_ble_eq_true rfl), (Nat.le_of_ble_eq_true rfl)⟩ rfl hdN hwd rfl hl.1 rfl (Nat.le_of_ble_eq_true rfl) ⟨(Nat.le_of_ble_eq_true rfl), (Nat.le_of_ble_eq_true rfl)⟩ dL_restoreSnapshot_3) hS (fun xc w1 xq ce H locs hpx hP hS hcell hcv hcl => ?_) (fun rz w1 H locs hq hP hS => ?_)
  · rcases hx9 xc w1 hpx with rfl
    · refine g_catch S hI hz htab ([] : List ((Nat × Nat × Nat × Nat) × String)) (0, 8, 11, 114) [] rfl (fun t ht => absurd ht List.not_mem_nil) (by decide) ⟨by decide, by decide⟩ q1236 o1247 hcell hcv hcl ?_
      show W p l e _ s m _ below meth cd H locs _ _ _ (F0 m 11 ls [.ref xq])
      refine lv_astore_n (lv' := [(2, .ref (xq)), (0, .ref (ad (d))), (1, .ref (ad (o)))]) hx hb dL_restoreSnapshot_11 rfl hl (by decide) rfl (fun ls hl => ?_)
      refine g_iconst S 1 dL_restoreSnapshot_12 (by decide +kernel) ?_
      exact g_iret S hr hlocks hP hS (Or.inr (⟨rfl, hpx⟩)) (fun _ _ => rfl) (Nat.le_of_ble_eq_true rfl) (Nat.le_of_ble_eq_true rfl) dL_restoreSnapshot_13
  · skip
    obtain ⟨f0, hf0⟩ := ho rz w1 hq
    refine lv_i2l hx hb dL_restoreSnapshot_6 rfl ?_
    refine g_last S hI hP hS hoN hf0 dL_restoreSnapshot_7 (fun g H locs hg0 hP hS => ?_)
    refine lv_goto (tgt := 14) hx hb dL_restoreSnapshot_8 (by decide) ?_
    refine g_iconst S 0 dL_restoreSnapshot_14 (by decide +kernel) ?_
    exact g_iret S hr hlocks hP hS (Or.inl ⟨rz, g, w1, rfl, hg0, rfl, hq⟩) (fun _ _ => rfl) (Nat.le_of_ble_eq_true rfl) (Nat.le_of_ble_eq_true rfl) dL_restoreSnapshot_15
