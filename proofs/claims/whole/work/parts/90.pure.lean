/-! THE CLASS AND THE MODEL: basins from below, spill levels, routes, steps -/
theorem lowN_fact {ht : Nat → Nat} {c : Nat} (hc : c < 36) : ∀ d, d ≤ 4 → lowN ht c d = c ∨ (ht (lowN ht c d) < ht c ∧ ∃ e, e < 4 ∧ nb c e = some (lowN ht c d))
  | 0, _ => Or.inl rfl
  | d + 1, hd => by
    have ih := lowN_fact (ht := ht) hc d (by omega)
    cases hn : nb c d with
    | none =>
      have e : lowN ht c (d + 1) = lowN ht c d := by simp only [lowN, hn]
      rw [e]; exact ih
    | some k =>
      have e : lowN ht c (d + 1) = if ht k < ht (lowN ht c d) then k else lowN ht c d := by simp only [lowN, hn]
      rw [e]
      by_cases q : ht k < ht (lowN ht c d)
      · rw [if_pos q]
        refine Or.inr ⟨?_, d, by omega, hn⟩
        rcases ih with e | e
        · rw [e] at q; exact q
        · omega
      · rw [if_neg q]; exact ih
theorem flow_fact {ht wr : Nat → Nat} {c k : Nat} (hc : c < 36) (h : flow ht wr c = some k) : ht k < ht c ∧ ∃ e, e < 4 ∧ nb c e = some k := by
  unfold flow at h
  split at h
  · cases h
  · split at h
    · cases h
    · rename_i hne
      cases h
      rcases lowN_fact (ht := ht) hc 4 (Nat.le_refl _) with e | e
      · exact absurd e hne
      · exact e
/-- how many cells are lower -/
def lwN (ht : Nat → Nat) (c : Nat) : Nat := cnt (fun j => decide (ht j < ht c)) 36
theorem lwN_lt {ht : Nat → Nat} {c : Nat} (hc : c < 36) : lwN ht c < 36 := cnt_lt hc (by simp)
theorem lwN_flow {ht wr : Nat → Nat} {c k : Nat} (hc : c < 36) (h : flow ht wr c = some k) : lwN ht k + 1 ≤ lwN ht c := by
  have h1 := (flow_fact hc h).1
  exact cnt_more (fun j _ hj => decide_eq_true (Nat.lt_trans (of_decide_eq_true hj) h1)) (flow_lt hc h) (by simp) (decide_eq_true h1)
theorem endN_fix {ht wr : Nat → Nat} : ∀ {n m c : Nat}, c < 36 → lwN ht c ≤ n → lwN ht c ≤ m → endN ht wr n c = endN ht wr m c ∧ flow ht wr (endN ht wr n c) = none
  | 0, m, c, hc, h1, h2 => by
    have hf : flow ht wr c = none := by
      cases q : flow ht wr c with
      | none => rfl
      | some k => have := lwN_flow hc q; omega
    refine ⟨?_, hf⟩
    cases m with
    | zero => rfl
    | succ m => simp only [endN]; rw [hf]
  | n + 1, m, c, hc, h1, h2 => by
    cases q : flow ht wr c with
    | none =>
      have e : endN ht wr (n + 1) c = c := by simp only [endN]; rw [q]
      rw [e]
      refine ⟨?_, q⟩
      cases m with
      | zero => rfl
      | succ m => simp only [endN]; rw [q]
    | some k =>
      have a := lwN_flow hc q
      have e : endN ht wr (n + 1) c = endN ht wr n k := by simp only [endN]; rw [q]
      cases m with
      | zero => omega
      | succ m =>
        have e2 : endN ht wr (m + 1) c = endN ht wr m k := by simp only [endN]; rw [q]
        rw [e, e2]
        exact endN_fix (flow_lt hc q) (by omega) (by omega)
theorem endN_flow {ht wr : Nat → Nat} {c k : Nat} (hc : c < 36) (h : flow ht wr c = some k) : endN ht wr 36 c = endN ht wr 36 k := by
  have e : endN ht wr 36 c = endN ht wr 35 k := by show endN ht wr (35 + 1) c = _; simp only [endN]; rw [h]
  rw [e]
  have h1 := lwN_flow hc h
  have h2 := lwN_lt (ht := ht) hc
  exact (endN_fix (flow_lt hc h) (by omega) (by omega)).1
theorem endN_root {ht wr : Nat → Nat} {n c : Nat} (h : flow ht wr c = none) : endN ht wr (n + 1) c = c := by simp only [endN]; rw [h]
abbrev upOk (ht wr : Nat → Nat) : Nat → Nat → Bool := fun a j => decide (flow ht wr j = some a)
theorem endN_rch {ht wr : Nat → Nat} : ∀ {n b : Nat}, b < 36 → Rch (upOk ht wr) (endN ht wr n b) b
  | 0, b, _ => Rch.rf b
  | n + 1, b, hb => by
    simp only [endN]
    cases q : flow ht wr b with
    | none => exact Rch.rf b
    | some k =>
      obtain ⟨h1, e, he, hn⟩ := flow_fact hb q
      obtain ⟨d2, hd2, hn2⟩ := nb_sym hb he hn
      exact (endN_rch (n := n) (flow_lt hb q)).tr (Rch.st (flow_lt hb q) hd2 hn2 (decide_eq_true q))
/-- a basin from below holds as many as one counted by the ends -/
theorem basin_up {ht wr re ce : Nat → Nat} {k : Nat} (hk : k < 36) : (flF (upOk ht wr) re ce (endN ht wr 36 k)).1.2.2 = cnt (fun j => endN ht wr 36 j == endN ht wr 36 k) 36 := by
  have he := endN_lt (ht := ht) (wr := wr) (n := 36) hk
  obtain ⟨h1, h2, h3⟩ := flF_fiv (ok := upOk ht wr) (re := re) (ce := ce) he
  have h4 := h1.2.2.2.1
  rw [show cnt (on1 fun _ => 0) 36 = 0 from cnt_0 36, Nat.add_zero] at h4
  rw [← h4]
  refine cnt_cong (fun j hj => ?_)
  have hroot := (endN_fix (ht := ht) (wr := wr) (n := 36) (m := 36) hk (by have := lwN_lt (ht := ht) hk; omega) (by have := lwN_lt (ht := ht) hk; omega)).2
  have hee : endN ht wr 36 (endN ht wr 36 k) = endN ht wr 36 k := endN_root hroot
  have hiff : (flF (upOk ht wr) re ce (endN ht wr 36 k)).1.1 j = 1 ↔ endN ht wr 36 j = endN ht wr 36 k := by
    rw [h3 j hj]
    constructor
    · intro hr
      refine hr (fun x => endN ht wr 36 x = endN ht wr 36 k) (fun c d x hc hd hS hn ho => ?_) hee
      show endN ht wr 36 x = endN ht wr 36 k
      rw [endN_flow (nb_lt hc hn) (of_decide_eq_true ho)]; exact hS
    · intro e
      rw [← e]; exact endN_rch hj
  by_cases q : endN ht wr 36 j = endN ht wr 36 k
  · rw [show on1 (flF (upOk ht wr) re ce (endN ht wr 36 k)).1.1 j = true from decide_eq_true (hiff.mpr q), beq_iff_eq.mpr q]
  · rw [show on1 (flF (upOk ht wr) re ce (endN ht wr 36 k)).1.1 j = false from decide_eq_false (fun z => q (hiff.mp z)), beq_eq_false_iff_ne.mpr q]
/-! spill levels -/
abbrev fS (ht : Nat → Nat) : Nat → Nat → Nat → Nat := fun k _ x => max (ht k) x
abbrev hl0 : Nat → Bool := fun _ => false
theorem nb_up {k : Nat} (hk : k < 36) (h6 : 6 ≤ k) : nb k 0 = some (k - 6) := by
  have h : ∀ k, k < 36 → 6 ≤ k → nb k 0 = some (k - 6) := by decide +kernel
  exact h k hk h6
theorem spill_99 {ht wr D : Nat → Nat} (hht : ∀ k, k < 36 → ht k ≤ 99) (h : grt hl0 (fS ht) (exM ht wr) D) : ∀ n k, k < 6 * n → k < 36 → D k ≤ 99
  | 0, k, h1, _ => by omega
  | n + 1, k, h1, hk => by
    by_cases q : 6 ≤ k
    · have a := h.2.1 k 0 (k - 6) hk (by decide) (nb_up hk q) rfl
      have b := spill_99 hht h n (k - 6) (by omega) (by omega)
      have c := hht k hk
      have a' : D k ≤ max (ht k) (D (k - 6)) := a
      omega
    · have a := h.1 k hk
      have c := hht k hk
      have e : exM ht wr k = ht k := if_pos (Or.inl (Or.inl (by omega)))
      omega
theorem spill_L {ht wr D lv : Nat → Nat} (hht : ∀ k, k < 36 → ht k ≤ 99) (h : grt hl0 (fS ht) (exM ht wr) D) : grt hl0 (fS ht) (fil 36 (exL ht wr) lv) D := by
  have h99 : ∀ k, k < 36 → D k ≤ 99 := fun k hk => spill_99 hht h 6 k (by omega) hk
  have hLM : ∀ k, k < 36 → fil 36 (exL ht wr) lv k ≤ exM ht wr k := fun k hk => by rw [fil_in hk]; unfold exL exM; split <;> omega
  refine ⟨fun k hk => ?_, h.2.1, fun u hu hcu => h.2.2 u (fun k hk => Nat.le_trans (hu k hk) (hLM k hk)) hcu⟩
  have a := h.1 k hk
  have b := h99 k hk
  rw [fil_in hk]
  unfold exL; unfold exM at a
  split
  · rename_i q; rw [if_pos q] at a; exact a
  · omega
theorem exQ_at {lv wa ke : Nat → Nat} : ∀ {n k : Nat}, (exQ lv wa ke n).1 k = (if k < n ∧ ¬ lv k = 100 then 1 else wa k) ∧ (exQ lv wa ke n).2 k = (if k < n ∧ ¬ lv k = 100 then lv k else ke k)
  | 0, k => by rw [if_neg (by omega), if_neg (by omega)]; exact ⟨rfl, rfl⟩
  | n + 1, k => by
    obtain ⟨i1, i2⟩ := exQ_at (lv := lv) (wa := wa) (ke := ke) (n := n) (k := k)
    simp only [exQ]
    by_cases q : lv n = 100
    · rw [if_pos q, i1, i2]
      by_cases e : k = n
      · subst e; rw [if_neg (by omega), if_neg (by omega), if_neg (by omega), if_neg (by omega)]; exact ⟨rfl, rfl⟩
      · have hiff : (k < n ∧ ¬ lv k = 100) ↔ (k < n + 1 ∧ ¬ lv k = 100) := ⟨fun z => ⟨by omega, z.2⟩, fun z => ⟨by omega, z.2⟩⟩
        simp only [hiff]; exact ⟨trivial, trivial⟩
    · rw [if_neg q]
      show va_up _ n 1 k = _ ∧ va_up _ n _ k = _
      by_cases e : k = n
      · subst e; rw [va_up_self, va_up_self, if_pos ⟨by omega, q⟩, if_pos ⟨by omega, q⟩]; exact ⟨rfl, rfl⟩
      · rw [va_up_ne _ _ e, va_up_ne _ _ e, i1, i2]
        have hiff : (k < n ∧ ¬ lv k = 100) ↔ (k < n + 1 ∧ ¬ lv k = 100) := ⟨fun z => ⟨by omega, z.2⟩, fun z => ⟨by omega, z.2⟩⟩
        simp only [hiff]; exact ⟨trivial, trivial⟩
theorem spill_q {ht wr lv wa ke : Nat → Nat} (hht : ∀ k, k < 36 → ht k ≤ 99) (hw : ∀ k, k < 36 → wa k = 0) : grt hl0 (fS ht) (fil 36 (exL ht wr) lv) (qG (cdS ht) 36 (fil 36 (exL ht wr) lv, exQ (fil 36 (exL ht wr) lv) wa ke 36)).1 ∧ ∀ k, k < 36 → (qG (cdS ht) 36 (fil 36 (exL ht wr) lv, exQ (fil 36 (exL ht wr) lv) wa ke 36)).2.1 k = 0 := by
  refine qG_fin (cdS_is ht) (B := 100) (tk := fun _ => false) (cu := 0) (n := 36) ⟨fun k hk hne => ?_, fun c d k _ _ h => (by cases h), fun k hk _ h0 => ?_, fun k hk h => (by cases h), fun k hk => ?_, rlx_rf, fun k _ => Nat.le_refl _⟩ (by omega)
  · obtain ⟨e1, e2⟩ := exQ_at (lv := fil 36 (exL ht wr) lv) (wa := wa) (ke := ke) (n := 36) (k := k)
    have hne' : ¬ (exQ (fil 36 (exL ht wr) lv) wa ke 36).1 k = 0 := hne
    rw [e1] at hne'
    by_cases q : k < 36 ∧ ¬ fil 36 (exL ht wr) lv k = 100
    · rw [if_pos q] at e2; exact ⟨e2, rfl, Nat.zero_le _⟩
    · rw [if_neg q] at hne'; exact absurd (hw k hk) hne'
  · obtain ⟨e1, e2⟩ := exQ_at (lv := fil 36 (exL ht wr) lv) (wa := wa) (ke := ke) (n := 36) (k := k)
    have h0' : (exQ (fil 36 (exL ht wr) lv) wa ke 36).1 k = 0 := h0
    rw [e1] at h0'
    by_cases q : fil 36 (exL ht wr) lv k = 100
    · exact q
    · rw [if_pos ⟨hk, q⟩] at h0'; cases h0'
  · show fil 36 (exL ht wr) lv k ≤ 100
    rw [fil_in hk]; exact exL_le hht k hk
/-- the class's levels are the Model's -/
theorem spill_eq {ht wr lv wa ke D : Nat → Nat} (hht : ∀ k, k < 36 → ht k ≤ 99) (hw : ∀ k, k < 36 → wa k = 0) (h : grt hl0 (fS ht) (exM ht wr) D) : ∀ k, k < 36 → (qG (cdS ht) 36 (fil 36 (exL ht wr) lv, exQ (fil 36 (exL ht wr) lv) wa ke 36)).1 k = D k :=
  grt_one (spill_q hht hw).1 (spill_L hht h)
theorem spill_rd {ht wr lv D : Nat → Nat} (hht : ∀ k, k < 36 → ht k ≤ 99) (h : grt hl0 (fS ht) (exM ht wr) D) : ∀ k, k < 36 → (rdG (cdS ht) 36 (fil 36 (exL ht wr) lv, true)).1 k = D k :=
  rdG_36 (cdS_is ht) (spill_L hht h)
theorem volI_cong {f g ht : Nat → Nat} : ∀ {n : Nat}, (∀ k, k < n → f k = g k) → volI f ht n = volI g ht n
  | 0, _ => rfl
  | n + 1, h => by simp only [volI]; rw [volI_cong (n := n) (fun k hk => h k (by omega)), h n (by omega)]
/-! routes -/
abbrev hlW (wr : Nat → Nat) : Nat → Bool := fun k => decide (3 ≤ wr k)
abbrev fR (ht : Nat → Nat) : Nat → Nat → Nat → Nat := fun k o x => x + 1 + dif (ht k) (ht o)
abbrev fT (ht : Nat → Nat) : Nat → Nat → Nat → Nat := fun k o x => max x (dif (ht o) (ht k))
abbrev l0C (lv : Nat → Nat) (a : Nat) : Nat → Nat := va_up (fil 36 (fun _ => 1000000) lv) a 0
theorem l0C_at {wr lv : Nat → Nat} {a k : Nat} (ha : ¬ 3 ≤ wr a) (hk : k < 36) : l0C lv a k = rtM wr a k := by
  unfold rtM
  show va_up (fil 36 (fun _ => 1000000) lv) a 0 k = _
  by_cases q : k = a
  · subst q; rw [va_up_self, if_pos ⟨rfl, ha⟩]
  · rw [va_up_ne _ _ q, fil_in hk, if_neg (fun z => q z.1)]
theorem grt_l0 {hl : Nat → Bool} {f : Nat → Nat → Nat → Nat} {l0 l1 D : Nat → Nat} (h : grt hl f l0 D) (he : ∀ k, k < 36 → l1 k = l0 k) : grt hl f l1 D :=
  ⟨fun k hk => by rw [he k hk]; exact h.1 k hk, h.2.1, fun u hu hcu => h.2.2 u (fun k hk => by rw [← he k hk]; exact hu k hk) hcu⟩
theorem route_q {ht wr lv wa ke : Nat → Nat} {a : Nat} (ha : a < 36) (hw : ∀ k, k < 36 → wa k = 0) : grt (hlW wr) (fR ht) (l0C lv a) (qG (cdR ht wr) 36 (l0C lv a, va_up wa a 1, va_up ke a 0)).1 ∧ ∀ k, k < 36 → (qG (cdR ht wr) 36 (l0C lv a, va_up wa a 1, va_up ke a 0)).2.1 k = 0 := by
  refine qG_fin (cdR_is ht wr) (B := 1000000) (tk := fun _ => false) (cu := 0) (n := 36) ⟨fun k hk hne => ?_, fun c d k _ _ h => (by cases h), fun k hk _ h0 => ?_, fun k hk h => (by cases h), fun k hk => ?_, rlx_rf, fun k _ => Nat.le_refl _⟩ (by omega)
  · have hne' : ¬ va_up wa a 1 k = 0 := hne
    by_cases q : k = a
    · subst q
      refine ⟨?_, rfl, Nat.zero_le _⟩
      show va_up ke k 0 k = va_up _ k 0 k
      rw [va_up_self, va_up_self]
    · rw [va_up_ne _ _ q] at hne'; exact absurd (hw k hk) hne'
  · have h0' : va_up wa a 1 k = 0 := h0
    by_cases q : k = a
    · rw [q, va_up_self] at h0'; cases h0'
    · show va_up _ a 0 k = 1000000
      rw [va_up_ne _ _ q, fil_in hk]
  · show va_up _ a 0 k ≤ 1000000
    by_cases q : k = a
    · rw [q, va_up_self]; exact Nat.zero_le _
    · rw [va_up_ne _ _ q, fil_in hk]; exact Nat.le_refl _
theorem route_eq {ht wr lv wa ke D : Nat → Nat} {a : Nat} (ha : a < 36) (hwa : ¬ 3 ≤ wr a) (hw : ∀ k, k < 36 → wa k = 0) (h : grt (hlW wr) (fR ht) (rtM wr a) D) : ∀ k, k < 36 → (qG (cdR ht wr) 36 (l0C lv a, va_up wa a 1, va_up ke a 0)).1 k = D k :=
  grt_one (route_q ha hw).1 (grt_l0 h (fun k hk => l0C_at hwa hk))
theorem route_rd {ht wr lv D : Nat → Nat} {a : Nat} (hwa : ¬ 3 ≤ wr a) (h : grt (hlW wr) (fR ht) (rtM wr a) D) : ∀ k, k < 36 → (rdG (cdR ht wr) 36 (l0C lv a, true)).1 k = D k :=
  rdG_36 (cdR_is ht wr) (grt_l0 h (fun k hk => l0C_at hwa hk))
/-! steps -/
theorem dif_sym (a b : Nat) : dif a b = dif b a := by unfold dif; split <;> split <;> omega
theorem step_iff {ht wr D : Nat → Nat} {a b s : Nat} (ha : a < 36) (hb : b < 36) (hwa : ¬ 3 ≤ wr a) (hs : s < 1000000) (h : grt (hlW wr) (fT ht) (rtM wr a) D) : D b ≤ s ↔ Rch (ldOk ht wr s) a b := by
  constructor
  · intro hD
    refine Classical.byContradiction (fun hn => ?_)
    have hu := h.2.2 (fun k => @ite _ (Rch (ldOk ht wr s) a k) (Classical.propDecidable _) 0 (s + 1)) (fun k hk => ?_) (fun k d o hk hd ho hlk => ?_) b hb
    · have hu' : @ite _ (Rch (ldOk ht wr s) a b) (Classical.propDecidable _) 0 (s + 1) ≤ D b := hu
      rw [if_neg hn] at hu'; omega
    · show @ite _ _ (Classical.propDecidable _) 0 (s + 1) ≤ rtM wr a k
      by_cases q : Rch (ldOk ht wr s) a k
      · rw [if_pos q]; exact Nat.zero_le _
      · rw [if_neg q]
        have hne : k ≠ a := fun e => q (by rw [e]; exact Rch.rf a)
        unfold rtM; rw [if_neg (fun z => hne z.1)]; omega
    · show @ite _ _ (Classical.propDecidable _) 0 (s + 1) ≤ max (@ite _ _ (Classical.propDecidable _) 0 (s + 1)) (dif (ht o) (ht k))
      by_cases q : Rch (ldOk ht wr s) a k
      · rw [if_pos q]; exact Nat.zero_le _
      · rw [if_neg q]
        by_cases r : Rch (ldOk ht wr s) a o
        · obtain ⟨d2, hd2, hn2⟩ := nb_sym hk hd ho
          have : ¬ dif (ht o) (ht k) ≤ s := fun z => q (r.tr (Rch.st (nb_lt hk ho) hd2 hn2 (decide_eq_true ⟨of_decide_eq_false hlk, z⟩)))
          omega
        · rw [if_neg r]; omega
  · intro hr
    refine hr (fun k => D k ≤ s) (fun c d k hc hd hS hn ho => ?_) ?_
    · obtain ⟨o1, o2⟩ := of_decide_eq_true ho
      obtain ⟨d2, hd2, hn2⟩ := nb_sym hc hd hn
      have a := h.2.1 k d2 c (nb_lt hc hn) hd2 hn2 (decide_eq_false o1)
      have a' : D k ≤ max (D c) (dif (ht c) (ht k)) := a
      have hS' : D c ≤ s := hS
      show D k ≤ s
      omega
    · have h0 := h.1 a ha
      have e : rtM wr a a = 0 := if_pos ⟨rfl, hwa⟩
      show D a ≤ s
      omega
theorem ldOk_99 {ht wr : Nat → Nat} {a b s : Nat} (hht : ∀ k, k < 36 → ht k ≤ 99) (hs : 99 ≤ s) (h : Rch (ldOk ht wr s) a b) : Rch (ldOk ht wr 99) a b := fun S hS hSa =>
  h S (fun c d k hc hd hSc hn ho => hS c d k hc hd hSc hn (decide_eq_true ⟨(of_decide_eq_true ho).1, dif_le (hht c hc) (hht k (nb_lt hc hn))⟩)) hSa
/-- a step's answer: none where the last is never reached -/
theorem step_none {ht wr D : Nat → Nat} {a b : Nat} (ha : a < 36) (hb : b < 36) (hht : ∀ k, k < 36 → ht k ≤ 99) (hwa : ¬ 3 ≤ wr a) (h : grt (hlW wr) (fT ht) (rtM wr a) D) (hn : ¬ Rch (ldOk ht wr 99) a b) : D b = 1000000 := by
  have h1 : ¬ D b ≤ 999999 := fun z => hn (ldOk_99 hht (by decide) ((step_iff ha hb hwa (by decide) h).mp z))
  have h2 := h.1 b hb
  have h3 : rtM wr a b ≤ 1000000 := by unfold rtM; split <;> omega
  omega
theorem hvG_fin {ht wr : Nat → Nat} {a b : Nat} {P : Nat → Prop} (hP : ∀ s, s ≤ 99 → (ldB (ldOk ht wr s) a b = true ↔ P s)) {m : Nat} (hm : ∀ s, P s ↔ m ≤ s) : ∀ {n mn mx : Nat}, mn ≤ m → m ≤ mx → mx ≤ 99 → mx < mn + 2 ^ n → hvG ht wr a b n mn mx = m
  | 0, mn, mx, h1, h2, _, h4 => by rw [hvG_z]; omega
  | n + 1, mn, mx, h1, h2, h3, h4 => by
    rw [hvG_s]
    have hp : 2 ^ (n + 1) = 2 * 2 ^ n := by rw [Nat.pow_succ, Nat.mul_comm]
    by_cases q : mn < mx
    · rw [if_pos q]
      by_cases r : ldB (ldOk ht wr ((mn + mx) / 2)) a b = true
      · rw [if_pos r]
        have z := (hm _).mp ((hP _ (by omega)).mp r)
        exact hvG_fin hP hm h1 z (by omega) (by omega)
      · rw [if_neg r]
        have z : ¬ m ≤ (mn + mx) / 2 := fun z => r ((hP _ (by omega)).mpr ((hm _).mpr z))
        exact hvG_fin hP hm (by omega) h2 h3 (by omega)
    · rw [if_neg q]; omega
theorem step_half {ht wr D : Nat → Nat} {a b : Nat} (ha : a < 36) (hb : b < 36) (hwa : ¬ 3 ≤ wr a) (hht : ∀ k, k < 36 → ht k ≤ 99) (h : grt (hlW wr) (fT ht) (rtM wr a) D) (hl : ldB (ldOk ht wr 99) a b = true) : hvG ht wr a b 7 0 99 = D b ∧ D b ≤ 99 := by
  have h99 := (step_iff ha hb hwa (by decide) h).mpr ((ldB_iff ha hb).mp hl)
  exact ⟨hvG_fin (P := fun s => D b ≤ s) (fun s hs => (ldB_iff ha hb).trans (step_iff ha hb hwa (by omega) h).symm) (m := D b) (fun s => Iff.rfl) (Nat.zero_le _) h99 (Nat.le_refl _) (by decide), h99⟩
