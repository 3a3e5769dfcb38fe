/-! UNIONS: roots, what they stand for, how many there are -/
/-- rows of parents: no way goes round, and m unions were made -/
def ufI (pa : Nat → Nat) (m : Nat) : Prop := (∀ k, k < 36 → pa k < 36) ∧ (∃ d : Nat → Nat, (∀ k, k < 36 → pa k ≠ k → d (pa k) < d k) ∧ ∀ k, k < 36 → d k ≤ m) ∧ cnt (fun k => decide (pa k = k)) 36 + m = 36
theorem rtN_fix {pa d : Nat → Nat} (hp : ∀ k, k < 36 → pa k < 36) (hd : ∀ k, k < 36 → pa k ≠ k → d (pa k) < d k) : ∀ {n m c : Nat}, c < 36 → d c ≤ n → d c ≤ m → rtN pa n c = rtN pa m c ∧ pa (rtN pa n c) = rtN pa n c
  | 0, m, c, hc, h1, h2 => by
    have e : pa c = c := Classical.byContradiction (fun q => by have := hd c hc q; omega)
    refine ⟨?_, e⟩
    cases m with
    | zero => rfl
    | succ m => simp only [rtN]; rw [if_pos e]
  | n + 1, m, c, hc, h1, h2 => by
    by_cases q : pa c = c
    · have e : rtN pa (n + 1) c = c := by simp only [rtN]; rw [if_pos q]
      rw [e]
      refine ⟨?_, q⟩
      cases m with
      | zero => rfl
      | succ m => simp only [rtN]; rw [if_pos q]
    · have a := hd c hc q
      have e : rtN pa (n + 1) c = rtN pa n (pa c) := by simp only [rtN]; rw [if_neg q]
      cases m with
      | zero => omega
      | succ m =>
        have e2 : rtN pa (m + 1) c = rtN pa m (pa c) := by simp only [rtN]; rw [if_neg q]
        rw [e, e2]
        exact rtN_fix hp hd (hp c hc) (by omega) (by omega)
theorem ufI.le {pa : Nat → Nat} {m : Nat} (h : ufI pa m) : m ≤ 36 := by have := h.2.2; omega
theorem ufI.root {pa : Nat → Nat} {m k : Nat} (h : ufI pa m) (hk : k < 36) : pa (rtN pa 36 k) = rtN pa 36 k := by
  obtain ⟨h1, ⟨d, h2, h3⟩, h4⟩ := h
  exact (rtN_fix h1 h2 (n := 36) (m := 36) hk (by have := h3 k hk; omega) (by have := h3 k hk; omega)).2
theorem ufI.up {pa : Nat → Nat} {m k : Nat} (h : ufI pa m) (hk : k < 36) : rtN pa 36 (pa k) = rtN pa 36 k := by
  obtain ⟨h1, ⟨d, h2, h3⟩, h4⟩ := h
  by_cases q : pa k = k
  · rw [q]
  · have a := h2 k hk q
    have b := h3 k hk
    have e : rtN pa 36 k = rtN pa 35 (pa k) := by show rtN pa (35 + 1) k = _; simp only [rtN]; rw [if_neg q]
    rw [e]
    exact (rtN_fix h1 h2 (h1 k hk) (by omega) (by omega)).1
theorem rtN_self {pa : Nat → Nat} {n k : Nat} (h : pa k = k) : rtN pa n k = k := by
  cases n with
  | zero => rfl
  | succ n => simp only [rtN]; rw [if_pos h]
theorem ufI.rr {pa : Nat → Nat} {m k : Nat} (h : ufI pa m) (hk : k < 36) : rtN pa 36 (rtN pa 36 k) = rtN pa 36 k := rtN_self (h.root hk)
theorem unU_same {pa : Nat → Nat} {m a b : Nat} (h : ufI pa m) (hb : b < 36) (e : rtN pa 36 a = rtN pa 36 b) : unU pa a b = pa := by
  have := h.root hb
  unfold unU
  rw [e]
  have z := va_up_id pa (rtN pa 36 b)
  rw [this] at z
  exact z
/-- two sets become one -/
theorem unU_ne {pa : Nat → Nat} {m a b : Nat} (h : ufI pa m) (ha : a < 36) (hb : b < 36) (hne : rtN pa 36 a ≠ rtN pa 36 b) : ufI (unU pa a b) (m + 1) ∧ ∀ k, k < 36 → rtN (unU pa a b) 36 k = if rtN pa 36 k = rtN pa 36 b then rtN pa 36 a else rtN pa 36 k := by
  have hra := h.root ha
  have hrb := h.root hb
  have hup := fun k (hk : k < 36) => h.up hk
  obtain ⟨h1, ⟨d, h2, h3⟩, h4⟩ := id h
  have lra := rtN_lt h1 (n := 36) ha
  have lrb := rtN_lt h1 (n := 36) hb
  generalize hA : rtN pa 36 a = A at *
  generalize hB : rtN pa 36 b = B at *
  have hu : unU pa a b = va_up pa B A := by unfold unU; rw [hA, hB]
  rw [hu]
  have eB : va_up pa B A B = A := va_up_self _ _ _
  have eN : ∀ k, k ≠ B → va_up pa B A k = pa k := fun k hk => va_up_ne _ _ hk
  have rA : rtN pa 36 A = A := rtN_self hra
  have rB : rtN pa 36 B = B := rtN_self hrb
  have hm : m < 36 := by
    have := cnt_more (p := fun _ => false) (q := fun k => decide (pa k = k)) (n := 36) (k := A) (fun _ _ h => (by cases h)) lra rfl (decide_eq_true hra)
    omega
  have hcnt : cnt (fun k => decide (va_up pa B A k = k)) 36 + 1 = cnt (fun k => decide (pa k = k)) 36 := by
    refine (cnt_one (p := fun k => decide (va_up pa B A k = k)) (q := fun k => decide (pa k = k)) lrb (decide_eq_false (by rw [eB]; exact hne)) (decide_eq_true hrb) (fun j _ hj => ?_)).symm
    show decide (pa j = j) = decide (va_up pa B A j = j)
    rw [eN j hj]
  obtain ⟨d', hd'⟩ : ∃ d' : Nat → Nat, ∀ k, d' k = if k = A then 0 else if rtN pa 36 k = B then d k + 1 else d k := ⟨_, fun _ => rfl⟩
  have hp' : ∀ k, k < 36 → va_up pa B A k < 36 := fun k hk => by
    by_cases q : k = B
    · rw [q, eB]; exact lra
    · rw [eN k q]; exact h1 k hk
  have hdd : ∀ k, k < 36 → va_up pa B A k ≠ k → d' (va_up pa B A k) < d' k := fun k hk hne2 => by
    by_cases q : k = B
    · rw [q, eB, hd' A, if_pos rfl, hd' B, if_neg (Ne.symm hne), if_pos rB]; omega
    · rw [eN k q] at hne2 ⊢
      have a := h2 k hk hne2
      have hkA : k ≠ A := fun e => hne2 (by rw [e]; exact hra)
      rw [hd' k, if_neg hkA, hd' (pa k)]
      by_cases q2 : pa k = A
      · rw [if_pos q2]; split <;> omega
      · rw [if_neg q2, hup k hk]
        split <;> omega
  have hdl : ∀ k, k < 36 → d' k ≤ m + 1 := fun k hk => by
    have a := h3 k hk
    rw [hd' k]; split
    · omega
    · split <;> omega
  refine ⟨⟨hp', ⟨d', hdd, hdl⟩, by omega⟩, ?_⟩
  have main : ∀ n k, k < 36 → d' k ≤ n → rtN (va_up pa B A) n k = if rtN pa 36 k = B then A else rtN pa 36 k := by
    intro n
    induction n with
    | zero =>
      intro k hk hn
      have e : va_up pa B A k = k := Classical.byContradiction (fun q => by have := hdd k hk q; omega)
      have hkB : k ≠ B := fun q => by rw [q, eB] at e; exact hne e
      have e2 : pa k = k := by rw [← eN k hkB]; exact e
      have e3 : rtN pa 36 k = k := rtN_self e2
      rw [e3, if_neg hkB]; rfl
    | succ n ih =>
      intro k hk hn
      by_cases q : va_up pa B A k = k
      · have hkB : k ≠ B := fun r => by rw [r, eB] at q; exact hne q
        have e2 : pa k = k := by rw [← eN k hkB]; exact q
        rw [rtN_self q, rtN_self (pa := pa) e2, if_neg hkB]
      · have e : rtN (va_up pa B A) (n + 1) k = rtN (va_up pa B A) n (va_up pa B A k) := by simp only [rtN]; rw [if_neg q]
        have a := hdd k hk q
        rw [e, ih _ (hp' k hk) (by omega)]
        by_cases r : k = B
        · rw [r, eB, rA, rB, if_neg hne, if_pos rfl]
        · rw [eN k r, hup k hk]
  intro k hk
  exact main 36 k hk (by have := hdl k hk; omega)
theorem ufI_0 {pa : Nat → Nat} : ufI (fil 36 (fun j => j) pa) 0 := by
  have e : ∀ k, k < 36 → fil 36 (fun j => j) pa k = k := fun k hk => fil_in hk
  refine ⟨fun k hk => by rw [e k hk]; exact hk, ⟨fun _ => 0, fun k hk h => absurd (e k hk) h, fun _ _ => Nat.zero_le _⟩, ?_⟩
  rw [cnt_cong (q := fun _ => true) (fun k hk => decide_eq_true (e k hk))]
  decide
/-- a union, of two sets or of one -/
theorem unU_fact {pa : Nat → Nat} {m a b : Nat} (h : ufI pa m) (ha : a < 36) (hb : b < 36) : ufI (unU pa a b) (if rtN pa 36 a = rtN pa 36 b then m else m + 1) ∧ ∀ k, k < 36 → rtN (unU pa a b) 36 k = if rtN pa 36 k = rtN pa 36 b then rtN pa 36 a else rtN pa 36 k := by
  by_cases q : rtN pa 36 a = rtN pa 36 b
  · rw [if_pos q, unU_same h hb q]
    refine ⟨h, fun k hk => ?_⟩
    by_cases r : rtN pa 36 k = rtN pa 36 b
    · rw [if_pos r, r, q]
    · rw [if_neg r]
  · rw [if_neg q]; exact unU_ne h ha hb q
/-- the classes of a union: those before, and the two made one -/
theorem unU_cls {pa : Nat → Nat} {m a b : Nat} (h : ufI pa m) (ha : a < 36) (hb : b < 36) : rtN (unU pa a b) 36 a = rtN (unU pa a b) 36 b ∧ (∀ x y, x < 36 → y < 36 → rtN pa 36 x = rtN pa 36 y → rtN (unU pa a b) 36 x = rtN (unU pa a b) 36 y) ∧ ∀ f : Nat → Prop, (∀ k, k < 36 → (f (rtN pa 36 k) ↔ f k)) → (f a ↔ f b) → ∀ k, k < 36 → (f (rtN (unU pa a b) 36 k) ↔ f k) := by
  obtain ⟨-, hr⟩ := unU_fact h ha hb
  refine ⟨?_, fun x y hx hy e => by rw [hr x hx, hr y hy, e], fun f hf hab k hk => ?_⟩
  · rw [hr a ha, hr b hb, if_pos rfl]
    split
    · rfl
    · rfl
  · rw [hr k hk]
    split
    · rename_i q
      rw [hf a ha, hab, ← hf b hb, ← q, hf k hk]
    · exact hf k hk
