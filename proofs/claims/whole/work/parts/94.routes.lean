/-! ROUTES AND STEPS: the class's four ways are the Model's -/
theorem rtM_le (wr : Nat → Nat) (a k : Nat) : rtM wr a k ≤ 1000000 := by unfold rtM; split <;> omega
theorem kcI_none {x : Nat} (hx : x ≤ 1000000) : kcI x = -1 ↔ x = 1000000 := by
  unfold kcI
  by_cases q : x = 1000000
  · rw [if_pos q]; exact ⟨fun _ => q, fun _ => rfl⟩
  · rw [if_neg q]; exact ⟨fun h => absurd h (nI_m1 (by omega)), fun h => absurd h q⟩
theorem grt_hole {wr : Nat → Nat} {f : Nat → Nat → Nat → Nat} {a b : Nat} {D : Nat → Nat} (hf1 : ∀ k o x y, x ≤ y → f k o x ≤ f k o y) (hf2 : ∀ k o x, x ≤ f k o x) (hb : b < 36) (hh : 3 ≤ wr a ∨ 3 ≤ wr b) (h : grt (hlW wr) f (rtM wr a) D) : D b = 1000000 := by
  have h0 := h.1 b hb
  have hle := rtM_le wr a b
  rcases hh with ha | hbw
  · have := h.2.2 (fun _ => 1000000) (fun k hk => by unfold rtM; rw [if_neg (fun z => z.2 (by rw [z.1]; exact ha))]; exact Nat.le_refl _) (fun k d o _ _ _ _ => hf2 k o 1000000) b hb
    have this' : 1000000 ≤ D b := this
    omega
  · have := h.2.2 (fun k => if k = b then 1000000 else D k) (fun k hk => ?_) (fun k d o hk hd ho hlk => ?_) b hb
    · have this' : (if b = b then 1000000 else D b) ≤ D b := this
      rw [if_pos rfl] at this'; omega
    · show (if k = b then 1000000 else D k) ≤ rtM wr a k
      by_cases q : k = b
      · rw [if_pos q, q]; unfold rtM; rw [if_neg (fun z => z.2 hbw)]; exact Nat.le_refl _
      · rw [if_neg q]; exact h.1 k hk
    · show (if k = b then 1000000 else D k) ≤ f k o (if o = b then 1000000 else D o)
      have hkb : k ≠ b := fun q => by rw [q] at hlk; exact absurd hbw (of_decide_eq_false hlk)
      rw [if_neg hkb]
      have g := h.2.1 k d o hk hd ho hlk
      refine Nat.le_trans g (hf1 k o _ _ ?_)
      by_cases q : o = b
      · rw [if_pos q]
        have := h.1 o (nb_lt hk ho)
        have := rtM_le wr a o
        omega
      · rw [if_neg q]; exact Nat.le_refl _
theorem grt_le {wr D : Nat → Nat} {hl : Nat → Bool} {f : Nat → Nat → Nat → Nat} {a b : Nat} (hb : b < 36) (h : grt hl f (rtM wr a) D) : D b ≤ 1000000 := Nat.le_trans (h.1 b hb) (rtM_le wr a b)
theorem if2_kc {wr : Nat → Nat} {a b x : Nat} {r : Int32} (h : 3 ≤ wr a ∨ 3 ≤ wr b → x = 1000000) (h2 : ¬ 3 ≤ wr a → ¬ 3 ≤ wr b → r = kcI x) : (if 3 ≤ wr a then -1 else if 3 ≤ wr b then -1 else r) = kcI x := by
  by_cases q : 3 ≤ wr a
  · rw [if_pos q, h (Or.inl q)]; rfl
  · rw [if_neg q]
    by_cases q2 : 3 ≤ wr b
    · rw [if_pos q2, h (Or.inr q2)]; rfl
    · rw [if_neg q2]; exact h2 q q2
theorem fR_mono (ht : Nat → Nat) : ∀ k o x y, x ≤ y → fR ht k o x ≤ fR ht k o y := fun k o x y h => by show x + 1 + dif (ht k) (ht o) ≤ y + 1 + dif (ht k) (ht o); omega
theorem fR_up (ht : Nat → Nat) : ∀ k o x, x ≤ fR ht k o x := fun k o x => by show x ≤ x + 1 + dif (ht k) (ht o); omega
theorem fT_mono (ht : Nat → Nat) : ∀ k o x y, x ≤ y → fT ht k o x ≤ fT ht k o y := fun k o x y h => by show max x (dif (ht o) (ht k)) ≤ max y (dif (ht o) (ht k)); omega
theorem fT_up (ht : Nat → Nat) : ∀ k o x, x ≤ fT ht k o x := fun k o x => Nat.le_max_left _ _
theorem rt_cost {ht wr lv wa ke D : Nat → Nat} {a b : Nat} (ha : a < 36) (hb : b < 36) (hw : ∀ k, k < 36 → wa k = 0) (h : grt (hlW wr) (fR ht) (rtM wr a) D) : (if 3 ≤ wr a then -1 else if 3 ≤ wr b then -1 else kcI ((qG (cdR ht wr) 36 ((va_up (fil 36 (fun _ => 1000000) lv) a 0), va_up wa a 1, va_up ke a 0)).1 b)) = kcI (D b) :=
  if2_kc (fun z => grt_hole (fR_mono ht) (fR_up ht) hb z h) (fun z _ => by rw [route_eq ha z hw h b hb])
theorem rt_rounds {ht wr lv D : Nat → Nat} {a b : Nat} (hb : b < 36) (h : grt (hlW wr) (fR ht) (rtM wr a) D) : (if 3 ≤ wr a then -1 else if 3 ≤ wr b then -1 else kcI ((rdG (cdR ht wr) 36 ((va_up (fil 36 (fun _ => 1000000) lv) a 0), true)).1 b)) = kcI (D b) :=
  if2_kc (fun z => grt_hole (fR_mono ht) (fR_up ht) hb z h) (fun z _ => by rw [route_rd z h b hb])
theorem rt_pairs {ht wr pq pa D : Nat → Nat} {a b : Nat} (ha : a < 36) (hb : b < 36) (hht : ∀ k, k < 36 → ht k ≤ 99) (h : grt (hlW wr) (fT ht) (rtM wr a) D) : (if 3 ≤ wr a then -1 else if 3 ≤ wr b then -1 else if a = b then nI 0 else (suG (prN ht wr pq 36).1 (prN ht wr pq 36).2 a b 60 0 (fil 36 (fun j => j) pa)).2) = kcI (D b) :=
  if2_kc (fun z => grt_hole (fT_mono ht) (fT_up ht) hb z h) (fun z _ => by
    by_cases q : a = b
    · rw [if_pos q]
      have h0 := h.1 a ha
      have e : rtM wr a a = 0 := if_pos ⟨rfl, z⟩
      rw [← q, show D a = 0 by omega]; rfl
    · rw [if_neg q]; exact su_eq ha hb q z hht h)
theorem rt_half {ht wr D : Nat → Nat} {a b : Nat} (ha : a < 36) (hb : b < 36) (hht : ∀ k, k < 36 → ht k ≤ 99) (h : grt (hlW wr) (fT ht) (rtM wr a) D) : (if 3 ≤ wr a then -1 else if 3 ≤ wr b then -1 else if ldB (ldOk ht wr 99) a b = true then nI (hvG ht wr a b 7 0 99) else -1) = kcI (D b) :=
  if2_kc (fun z => grt_hole (fT_mono ht) (fT_up ht) hb z h) (fun z _ => by
    by_cases q : ldB (ldOk ht wr 99) a b = true
    · obtain ⟨h1, h2⟩ := step_half ha hb z hht h q
      rw [if_pos q, h1]; unfold kcI; rw [if_neg (by omega)]
    · rw [if_neg q, step_none ha hb hht z h (fun r => q ((ldB_iff ha hb).mpr r))]; rfl)
