/-! floods, queues, sets of cells, the order by heights: as the class does them -/
abbrev T3 : Type := (Nat → Nat) × (Nat → Nat) × Nat
def flR (s : T3) (c : Nat) : T3 := (if s.1 c = 0 ∧ s.2.2 < 36 then va_up s.1 c 1 else s.1, if s.1 c = 0 ∧ s.2.2 < 36 then va_up s.2.1 s.2.2 c else s.2.1, if s.1 c = 0 ∧ s.2.2 < 36 then s.2.2 + 1 else s.2.2)
def flOk (s : T3) : Prop := (∀ j, j < s.2.2 → s.2.1 j < 36) ∧ s.2.2 ≤ 36 ∧ ∀ k, k < 36 → s.1 k ≤ 1
theorem flR_ok {s : T3} {c : Nat} (h : flOk s) (hc : c < 36) : flOk (flR s c) := by
  obtain ⟨h1, h2, h3⟩ := h
  unfold flR
  by_cases q : s.1 c = 0 ∧ s.2.2 < 36
  · simp only [if_pos q]
    refine ⟨fun j hj => ?_, by show s.2.2 + 1 ≤ 36; omega, fun k hk => ?_⟩
    · by_cases r : j = s.2.2
      · show va_up s.2.1 s.2.2 c j < 36
        rw [r, va_up_self]; exact hc
      · show va_up s.2.1 s.2.2 c j < 36
        rw [va_up_ne _ _ r]; exact h1 j (by have : j < s.2.2 + 1 := hj; omega)
    · show va_up s.1 c 1 k ≤ 1
      by_cases r : k = c
      · rw [r, va_up_self]; exact Nat.le_refl _
      · rw [va_up_ne _ _ r]; exact h3 k hk
  · simp only [if_neg q]; exact ⟨h1, h2, h3⟩
def flD (ok : Nat → Nat → Bool) (c : Nat) : Nat → T3 → T3
  | 0, s => s
  | d + 1, s => match nb c d with
    | some k => if ok c k = true then flR (flD ok c d s) k else flD ok c d s
    | none => flD ok c d s
theorem flD_ok {ok : Nat → Nat → Bool} {c : Nat} {s : T3} (h : flOk s) (hc : c < 36) : ∀ d, flOk (flD ok c d s)
  | 0 => h
  | d + 1 => by
    have ih := flD_ok (ok := ok) h hc d
    simp only [flD]
    split
    · rename_i k hk
      split
      · exact flR_ok ih (nb_lt hc hk)
      · exact ih
    · exact ih
def bfsG (ok : Nat → Nat → Bool) : Nat → T3 × Nat → T3 × Nat
  | 0, s => s
  | n + 1, s => if s.2 < s.1.2.2 then bfsG ok n (flD ok (s.1.2.1 s.2) 4 s.1, s.2 + 1) else s
theorem bfsG_ok {ok : Nat → Nat → Bool} : ∀ {n : Nat} {s : T3 × Nat}, flOk s.1 → flOk (bfsG ok n s).1
  | 0, _, h => h
  | n + 1, s, h => by
    simp only [bfsG]
    split
    · rename_i q
      exact bfsG_ok (flD_ok h (h.1 _ q) 4)
    · exact h
/-- the queue: the first waiting cell of least key among those below n -/
def qmin (wa ke : Nat → Nat) : Nat → Option Nat
  | 0 => none
  | n + 1 => if wa n = 0 then qmin wa ke n else match qmin wa ke n with
    | none => some n
    | some f => if ke n < ke f then some n else some f
theorem qmin_lt {wa ke : Nat → Nat} : ∀ {n k : Nat}, qmin wa ke n = some k → k < n
  | 0, _, h => by simp [qmin] at h
  | n + 1, k, h => by
    have ih := fun x => qmin_lt (wa := wa) (ke := ke) (n := n) (k := x)
    simp only [qmin] at h
    split at h
    · have := ih k h; omega
    · split at h
      · cases h; omega
      · rename_i f hf
        split at h
        · cases h; omega
        · cases h; have := ih _ hf; omega
/-- the root of a cell within n steps -/
def rtN (pa : Nat → Nat) : Nat → Nat → Nat
  | 0, c => c
  | n + 1, c => if pa c = c then c else rtN pa n (pa c)
theorem rtN_lt {pa : Nat → Nat} (h : ∀ k, k < 36 → pa k < 36) : ∀ {n c : Nat}, c < 36 → rtN pa n c < 36
  | 0, _, hc => hc
  | n + 1, c, hc => by
    simp only [rtN]
    split
    · exact hc
    · exact rtN_lt h (h c hc)
def unU (pa : Nat → Nat) (a b : Nat) : Nat → Nat := va_up pa (rtN pa 36 b) (rtN pa 36 a)
theorem unU_lt {pa : Nat → Nat} {a b : Nat} (h : ∀ k, k < 36 → pa k < 36) (ha : a < 36) : ∀ k, k < 36 → unU pa a b k < 36 := fun k hk => by
  unfold unU
  by_cases q : k = rtN pa 36 b
  · rw [q, va_up_self]; exact rtN_lt h ha
  · rw [va_up_ne _ _ q]; exact h k hk
/-- a cell is put into its place among the first -/
def insN (ht : Nat → Nat) (c : Nat) : Nat → (Nat → Nat) → Nat → Nat
  | 0, rk => va_up rk 0 c
  | p + 1, rk => if ht (rk p) < ht c then insN ht c p (va_up rk (p + 1) (rk p)) else va_up rk (p + 1) c
def rankN (ht rk : Nat → Nat) : Nat → Nat → Nat
  | 0 => rk
  | n + 1 => insN ht n n (rankN ht rk n)
theorem insN_lt {ht : Nat → Nat} {c m : Nat} (hc : c < 36) : ∀ {p : Nat} {rk : Nat → Nat}, p ≤ m → (∀ j, j < m + 1 → j ≠ p → rk j < 36) → ∀ j, j < m + 1 → insN ht c p rk j < 36
  | 0, rk, _, h, j, hj => by
    simp only [insN]
    by_cases q : j = 0
    · rw [q, va_up_self]; exact hc
    · rw [va_up_ne _ _ q]; exact h j hj q
  | p + 1, rk, hp, h, j, hj => by
    simp only [insN]
    split
    · refine insN_lt hc (by omega) (fun i hi hip => ?_) j hj
      by_cases q : i = p + 1
      · rw [q, va_up_self]; exact h p (by omega) (by omega)
      · rw [va_up_ne _ _ q]; exact h i hi q
    · by_cases q : j = p + 1
      · rw [q, va_up_self]; exact hc
      · rw [va_up_ne _ _ q]; exact h j hj q
theorem rankN_lt {ht rk : Nat → Nat} : ∀ {n : Nat}, n ≤ 36 → ∀ j, j < n → rankN ht rk n j < 36
  | 0, _, j, hj => by omega
  | n + 1, hn, j, hj => by
    simp only [rankN]
    exact insN_lt (by omega) (Nat.le_refl n) (fun i hi hin => rankN_lt (by omega) i (by omega)) j hj
/-- a cell is raised: the sets of the raised neighbours in the directions below d are united with it; how many were others -/
def rsD (ra : Nat → Nat) (c : Nat) (pa : Nat → Nat) : Nat → (Nat → Nat) × Nat
  | 0 => (pa, 0)
  | d + 1 => match nb c d with
    | none => rsD ra c pa d
    | some k => if ra k = 0 then rsD ra c pa d else (unU (rsD ra c pa d).1 c k, if rtN (rsD ra c pa d).1 36 c = rtN (rsD ra c pa d).1 36 k then (rsD ra c pa d).2 else (rsD ra c pa d).2 + 1)
theorem rsD_ok {ra pa : Nat → Nat} {c : Nat} (hc : c < 36) (h : ∀ k, k < 36 → pa k < 36) : ∀ d, (∀ k, k < 36 → (rsD ra c pa d).1 k < 36) ∧ (rsD ra c pa d).2 ≤ d
  | 0 => ⟨h, Nat.le_refl _⟩
  | d + 1 => by
    obtain ⟨h1, h2⟩ := rsD_ok (ra := ra) hc h d
    simp only [rsD]
    split
    · exact ⟨h1, by omega⟩
    · rename_i k hk
      split
      · exact ⟨h1, by omega⟩
      · refine ⟨unU_lt h1 hc, Nat.le_trans (m := (rsD ra c pa d).2 + 1) ?_ (by omega)⟩
        show ite _ _ _ ≤ _
        split
        · exact Nat.le_succ _
        · exact Nat.le_refl _
/-- cells in descending order are raised from a rank on -/
def iuG (ht rk : Nat → Nat) (lv : Nat) : Nat → Nat → (Nat → Nat) × (Nat → Nat) × Int32 → (Nat → Nat) × (Nat → Nat) × Int32
  | 0, _, s => s
  | n + 1, q, s => if ht (rk q) < lv then s else iuG ht rk lv n (q + 1) (va_up s.1 (rk q) 1, (rsD (va_up s.1 (rk q) 1) (rk q) s.2.1 4).1, s.2.2 + (nI 1 - nI (rsD (va_up s.1 (rk q) 1) (rk q) s.2.1 4).2))
/-- islands by floods: the cells below n are looked at -/
def ifN (ht : Nat → Nat) (lv : Nat) (s : T3 × Nat) : Nat → (T3 × Nat) × Nat
  | 0 => (s, 0)
  | n + 1 => if ht n < lv then ifN ht lv s n else if (ifN ht lv s n).1.1.1 n = 0 then (bfsG (fun _ k => decide (lv ≤ ht k)) 36 (flR (ifN ht lv s n).1.1 n, (ifN ht lv s n).1.2), (ifN ht lv s n).2 + 1) else ifN ht lv s n
theorem ifN_ok {ht : Nat → Nat} {lv : Nat} {s : T3 × Nat} (h : flOk s.1) : ∀ {n : Nat}, n ≤ 36 → flOk (ifN ht lv s n).1.1 ∧ (ifN ht lv s n).2 ≤ n
  | 0, _ => ⟨h, Nat.le_refl _⟩
  | n + 1, hn => by
    obtain ⟨h1, h2⟩ := ifN_ok (ht := ht) (lv := lv) h (n := n) (by omega)
    simp only [ifN]
    split
    · exact ⟨h1, by omega⟩
    · split
      · exact ⟨bfsG_ok (flR_ok h1 (by omega)), by show _ + 1 ≤ _; omega⟩
      · exact ⟨h1, by omega⟩
