/-! ISLANDS BY UNIONS are islands -/
theorem cnt_split {p q : Nat → Bool} : ∀ {n : Nat}, cnt p n = cnt (fun k => p k && q k) n + cnt (fun k => p k && !q k) n
  | 0 => rfl
  | n + 1 => by
    have ih := cnt_split (p := p) (q := q) (n := n)
    by_cases hp : p n = true
    · by_cases hq : q n = true
      · rw [cnt_y hp, cnt_y (p := fun k => p k && q k) (by simp [hp, hq]), cnt_n (p := fun k => p k && !q k) (by simp [hp, hq])]; omega
      · have hq' : q n = false := Bool.eq_false_iff.mpr hq
        rw [cnt_y hp, cnt_n (p := fun k => p k && q k) (by simp [hp, hq']), cnt_y (p := fun k => p k && !q k) (by simp [hp, hq'])]; omega
    · have hp' : p n = false := Bool.eq_false_iff.mpr hp
      rw [cnt_n hp', cnt_n (p := fun k => p k && q k) (by simp [hp']), cnt_n (p := fun k => p k && !q k) (by simp [hp'])]; exact ih
/-- the values of f on the places of P, counted by the first place of each -/
theorem cnt_first {P : Nat → Bool} {f : Nat → Nat} (hf : ∀ k, k < 36 → f k < 36) : ∀ n, n ≤ 36 → cnt (fun k => P k && (fstN (fun j => P j && (f j == f k)) k).isNone) n = cnt (fun v => (fstN (fun k => P k && (f k == v)) n).isSome) 36
  | 0, _ => by
    rw [cnt_cong (p := fun v => (fstN (fun k => P k && (f k == v)) 0).isSome) (q := fun _ => false) (fun k _ => rfl), cnt_0]
    rfl
  | n + 1, hn => by
    have ih := cnt_first (P := P) hf n (by omega)
    have hs : ∀ v, fstN (fun k => P k && (f k == v)) (n + 1) = match fstN (fun k => P k && (f k == v)) n with
      | some i => some i
      | none => if (P n && (f n == v)) = true then some n else none := fun v => rfl
    by_cases hP : P n = true
    · by_cases hF : (fstN (fun j => P j && (f j == f n)) n).isNone = true
      · rw [cnt_y (by rw [hP, hF]; rfl), ih]
        refine (cnt_one (k := f n) (hf n (by omega)) ?_ ?_ (fun v hv hne => ?_)).symm
        · show (fstN (fun k => P k && (f k == f n)) n).isSome = false
          cases h : fstN (fun k => P k && (f k == f n)) n with
          | none => rfl
          | some i => rw [h] at hF; cases hF
        · show (fstN (fun k => P k && (f k == f n)) (n + 1)).isSome = true
          rw [hs]
          cases h : fstN (fun k => P k && (f k == f n)) n with
          | none => simp [hP]
          | some i => rfl
        · show (fstN (fun k => P k && (f k == v)) (n + 1)).isSome = (fstN (fun k => P k && (f k == v)) n).isSome
          rw [hs]
          cases h : fstN (fun k => P k && (f k == v)) n with
          | none =>
            have : ¬ f n = v := fun e => hne e.symm
            simp [this]
          | some i => rfl
      · rw [cnt_n (by rw [hP, Bool.eq_false_iff.mpr hF]; rfl), ih]
        refine cnt_cong (fun v hv => ?_)
        show (fstN (fun k => P k && (f k == v)) n).isSome = (fstN (fun k => P k && (f k == v)) (n + 1)).isSome
        rw [hs]
        cases h : fstN (fun k => P k && (f k == v)) n with
        | none =>
          by_cases e : f n = v
          · subst e; rw [h] at hF; exact absurd rfl hF
          · simp [e]
        | some i => rfl
    · have hP' : P n = false := Bool.eq_false_iff.mpr hP
      rw [cnt_n (by rw [hP']; rfl), ih]
      refine cnt_cong (fun v hv => ?_)
      show (fstN (fun k => P k && (f k == v)) n).isSome = (fstN (fun k => P k && (f k == v)) (n + 1)).isSome
      rw [hs]
      cases h : fstN (fun k => P k && (f k == v)) n with
      | none => simp [hP']
      | some i => rfl
theorem rsD_fact {ra pa : Nat → Nat} {c m : Nat} (hc : c < 36) (h : ufI pa m) : ∀ d, d ≤ 4 → ufI (rsD ra c pa d).1 (m + (rsD ra c pa d).2) ∧ (∀ e k, e < d → nb c e = some k → ra k ≠ 0 → rtN (rsD ra c pa d).1 36 c = rtN (rsD ra c pa d).1 36 k) ∧ (∀ x y, x < 36 → y < 36 → rtN pa 36 x = rtN pa 36 y → rtN (rsD ra c pa d).1 36 x = rtN (rsD ra c pa d).1 36 y) ∧ ∀ f : Nat → Prop, (∀ k, k < 36 → (f (rtN pa 36 k) ↔ f k)) → (∀ e k, e < d → nb c e = some k → ra k ≠ 0 → (f c ↔ f k)) → ∀ k, k < 36 → (f (rtN (rsD ra c pa d).1 36 k) ↔ f k)
  | 0, _ => ⟨h, fun e k he => absurd he (Nat.not_lt_zero _), fun x y _ _ e => e, fun f hf _ => hf⟩
  | d + 1, hd => by
    obtain ⟨i1, i2, i3, i4⟩ := rsD_fact (ra := ra) hc h d (by omega)
    have stay : rsD ra c pa (d + 1) = rsD ra c pa d → (∀ k, nb c d = some k → ra k = 0) → _ := fun e hk => by
      show ufI (rsD ra c pa (d + 1)).1 (m + (rsD ra c pa (d + 1)).2) ∧ (∀ e k, e < d + 1 → nb c e = some k → ra k ≠ 0 → rtN (rsD ra c pa (d + 1)).1 36 c = rtN (rsD ra c pa (d + 1)).1 36 k) ∧ (∀ x y, x < 36 → y < 36 → rtN pa 36 x = rtN pa 36 y → rtN (rsD ra c pa (d + 1)).1 36 x = rtN (rsD ra c pa (d + 1)).1 36 y) ∧ ∀ f : Nat → Prop, (∀ k, k < 36 → (f (rtN pa 36 k) ↔ f k)) → (∀ e k, e < d + 1 → nb c e = some k → ra k ≠ 0 → (f c ↔ f k)) → ∀ k, k < 36 → (f (rtN (rsD ra c pa (d + 1)).1 36 k) ↔ f k)
      rw [e]
      refine ⟨i1, fun e2 k he2 hn hr => ?_, i3, fun f hf hp => i4 f hf (fun e2 k he2 hn hr => hp e2 k (by omega) hn hr)⟩
      by_cases q : e2 = d
      · subst q; exact absurd (hk k hn) hr
      · exact i2 e2 k (by omega) hn hr
    cases hn : nb c d with
    | none => exact stay (by simp only [rsD, hn]) (fun k hk => by rw [hn] at hk; cases hk)
    | some k =>
      have hk36 := nb_lt hc hn
      by_cases hr : ra k = 0
      · exact stay (by simp only [rsD, hn]; rw [if_pos hr]) (fun j hj => by rw [hn] at hj; cases hj; exact hr)
      · have e1 : (rsD ra c pa (d + 1)).1 = unU (rsD ra c pa d).1 c k := by simp only [rsD, hn]; rw [if_neg hr]
        have e2 : (rsD ra c pa (d + 1)).2 = if rtN (rsD ra c pa d).1 36 c = rtN (rsD ra c pa d).1 36 k then (rsD ra c pa d).2 else (rsD ra c pa d).2 + 1 := by simp only [rsD, hn]; rw [if_neg hr]
        obtain ⟨u1, -⟩ := unU_fact i1 hc hk36
        obtain ⟨c1, c2, c3⟩ := unU_cls i1 hc hk36
        rw [e1, e2]
        refine ⟨?_, fun e3 j he3 hj hrj => ?_, fun x y hx hy e => c2 x y hx hy (i3 x y hx hy e), fun f hf hp => c3 f (i4 f hf (fun e3 j he3 hj hrj => hp e3 j (by omega) hj hrj)) (hp d k (by omega) hn hr)⟩
        · by_cases q : rtN (rsD ra c pa d).1 36 c = rtN (rsD ra c pa d).1 36 k
          · rw [if_pos q] at u1 ⊢; exact u1
          · rw [if_neg q] at u1 ⊢; rw [← Nat.add_assoc]; exact u1
        · by_cases q : e3 = d
          · subst q; rw [hn] at hj; cases hj; exact c1
          · exact c2 c j hc (nb_lt hc hj) (i2 e3 j (by omega) hj hrj)
/-- the first q in descending order are raised -/
def iuI (ht : Nat → Nat) (q : Nat) (ra pa : Nat → Nat) (m : Nat) : Prop :=
  ufI pa m ∧ (∀ k, k < 36 → (ra k ≠ 0 ↔ rkC ht 36 k < q)) ∧ (∀ c d k, c < 36 → d < 4 → nb c d = some k → ra c ≠ 0 → ra k ≠ 0 → rtN pa 36 c = rtN pa 36 k) ∧ ∀ f : Nat → Prop, (∀ c d k, c < 36 → d < 4 → nb c d = some k → ra c ≠ 0 → ra k ≠ 0 → (f c ↔ f k)) → ∀ k, k < 36 → (f (rtN pa 36 k) ↔ f k)
theorem iuI_step {ht ra pa : Nat → Nat} {q m c : Nat} (hc : c < 36) (hrk : rkC ht 36 c = q) (h : iuI ht q ra pa m) : iuI ht (q + 1) (va_up ra c 1) (rsD (va_up ra c 1) c pa 4).1 (m + (rsD (va_up ra c 1) c pa 4).2) := by
  obtain ⟨h1, h2, h3, h4⟩ := h
  obtain ⟨r1, r2, r3, r4⟩ := rsD_fact (ra := va_up ra c 1) hc h1 4 (Nat.le_refl _)
  have hra : ∀ k, k ≠ c → va_up ra c 1 k = ra k := fun k hk => va_up_ne _ _ hk
  have hin : ∀ k, k < 36 → ra k ≠ 0 → va_up ra c 1 k ≠ 0 := fun k hk hr => by
    by_cases e : k = c
    · rw [e, va_up_self]; decide
    · rw [hra k e]; exact hr
  refine ⟨r1, fun k hk => ?_, fun a d k ha hd hn hra' hrk' => ?_, fun f hf => ?_⟩
  · by_cases e : k = c
    · subst e; rw [va_up_self]; exact ⟨fun _ => by omega, fun _ => by decide⟩
    · rw [hra k e, h2 k hk]
      have : rkC ht 36 k ≠ q := fun z => e (rkC_inj hk hc (z.trans hrk.symm))
      constructor <;> intro z <;> omega
  · have hk := nb_lt ha hn
    by_cases e : a = c
    · subst e; exact r2 d k hd hn hrk'
    · by_cases e2 : k = c
      · subst e2
        obtain ⟨d2, hd2, hn2⟩ := nb_sym ha hd hn
        exact (r2 d2 a hd2 hn2 hra').symm
      · exact r3 a k ha hk (h3 a d k ha hd hn (by rw [← hra a e]; exact hra') (by rw [← hra k e2]; exact hrk'))
  · refine r4 f (h4 f (fun a d k ha hd hn hra' hrk' => hf a d k ha hd hn (hin a ha hra') (hin k (nb_lt ha hn) hrk'))) (fun e k he hn hr => hf c e k hc he hn (by rw [va_up_self]; decide) hr)
theorem iuI_0 {ht ra pa : Nat → Nat} : iuI ht 0 (fil 36 (fun _ => 0) ra) (fil 36 (fun j => j) pa) 0 := by
  have e : ∀ k, k < 36 → fil 36 (fun _ => 0) ra k = 0 := fun k hk => fil_in hk
  refine ⟨ufI_0, fun k hk => ⟨fun z => absurd (e k hk) z, fun z => absurd z (Nat.not_lt_zero _)⟩, fun c d k hc hd hn hr => absurd (e c hc) hr, fun f _ k hk => ?_⟩
  rw [rtN_self (fil_in hk)]
theorem rankN_at {ht rk : Nat → Nat} {k : Nat} (hk : k < 36) : rankN ht rk 36 (rkC ht 36 k) = k := by
  have hl : rkC ht 36 k < 36 := cnt_lt hk bef_self
  obtain ⟨g1, g2⟩ := rankN_rk (ht := ht) (rk := rk) 36 _ hl
  exact rkC_inj g1 hk g2
theorem rkC_ht {ht : Nat → Nat} {o k : Nat} (ho : o < 36) (hk : k < 36) (h : rkC ht 36 o ≤ rkC ht 36 k) : ht k ≤ ht o := by
  by_cases z : bef ht k o = true
  · have := rkC_lt hk z; omega
  · have := bef_no.mp (Bool.eq_false_iff.mpr z); omega
theorem nI_sum {s : Int32} {m x q : Nat} (h : s + nI m = nI q) : s + (nI 1 - nI x) + nI (m + x) = nI (q + 1) := by
  rw [← nI_add, ← nI_add, ← h]
  rw [show s + (nI 1 - nI x) + (nI m + nI x) = s + nI m + (nI 1 - nI x + nI x) by rw [Int32.add_assoc s, ← Int32.add_assoc (nI 1 - nI x), Int32.add_comm (nI 1 - nI x) (nI m), Int32.add_assoc (nI m), ← Int32.add_assoc s]]
  rw [Int32.sub_add_cancel]
theorem iuG_fin {ht rk : Nat → Nat} {lv : Nat} : ∀ {n q m : Nat} {ra pa : Nat → Nat} {s : Int32}, q + n = 36 → iuI ht q ra pa m → s + nI m = nI q → (∀ k, k < 36 → rkC ht 36 k < q → lv ≤ ht k) → ∃ Q ra' pa' m', iuI ht Q ra' pa' m' ∧ (iuG ht (rankN ht rk 36) lv n q (ra, pa, s)).2.2 + nI m' = nI Q ∧ Q ≤ 36 ∧ ∀ k, k < 36 → (rkC ht 36 k < Q ↔ lv ≤ ht k)
  | 0, q, m, ra, pa, s, hq, h, hs, hl => by
    rw [iuG_z]
    refine ⟨q, ra, pa, m, h, hs, by omega, fun k hk => ⟨hl k hk, fun _ => ?_⟩⟩
    have : rkC ht 36 k < 36 := cnt_lt hk bef_self
    omega
  | n + 1, q, m, ra, pa, s, hq, h, hs, hl => by
    rw [iuG_s]
    obtain ⟨g1, g2⟩ := rankN_rk (ht := ht) (rk := rk) 36 q (by omega)
    generalize hc : rankN ht rk 36 q = c at *
    by_cases z : ht c < lv
    · rw [if_pos z]
      refine ⟨q, ra, pa, m, h, hs, by omega, fun k hk => ⟨hl k hk, fun hk2 => ?_⟩⟩
      refine Classical.byContradiction (fun hn => ?_)
      have := rkC_ht g1 hk (by rw [g2]; omega)
      omega
    · rw [if_neg z]
      have st := iuI_step g1 g2 h
      refine iuG_fin (by omega) st (nI_sum hs) (fun k hk hk2 => ?_)
      by_cases e : rkC ht 36 k = q
      · have : k = c := rkC_inj hk g1 (e.trans g2.symm)
        subst this; omega
      · exact hl k hk (by omega)
theorem iuI_cls {ht ra pa : Nat → Nat} {Q m lv : Nat} (h : iuI ht Q ra pa m) (hQ : ∀ k, k < 36 → (rkC ht 36 k < Q ↔ lv ≤ ht k)) {j k : Nat} (hj : j < 36) (hk : k < 36) (hjl : lv ≤ ht j) (hkl : lv ≤ ht k) : Rch (isOk ht lv) j k ↔ rtN pa 36 j = rtN pa 36 k := by
  obtain ⟨h1, h2, h3, h4⟩ := h
  have hr : ∀ x, x < 36 → (ra x ≠ 0 ↔ lv ≤ ht x) := fun x hx => (h2 x hx).trans (hQ x hx)
  constructor
  · intro h
    have := h (fun x => x < 36 ∧ lv ≤ ht x ∧ rtN pa 36 x = rtN pa 36 j) (fun c d x hc hd hS hn ho => ?_) ⟨hj, hjl, rfl⟩
    · exact this.2.2.symm
    · have hx := nb_lt hc hn
      have hxl : lv ≤ ht x := of_decide_eq_true ho
      exact ⟨hx, hxl, (h3 c d x hc hd hn ((hr c hc).mpr hS.2.1) ((hr x hx).mpr hxl)).symm.trans hS.2.2⟩
  · intro e
    have hf := h4 (fun x => Rch (isOk ht lv) j x) (fun c d x hc hd hn hrc hrx => ?_)
    · have a := (hf j hj).mpr (Rch.rf j)
      have a' : Rch (isOk ht lv) j (rtN pa 36 j) := a
      rw [e] at a'
      exact (hf k hk).mp a'
    · have hx := nb_lt hc hn
      obtain ⟨d2, hd2, hn2⟩ := nb_sym hc hd hn
      exact ⟨fun z => z.tr (Rch.st hc hd hn (decide_eq_true ((hr x hx).mp hrx))), fun z => z.tr (Rch.st hx hd2 hn2 (decide_eq_true ((hr c hc).mp hrc)))⟩
theorem fstN_cong {p q : Nat → Bool} : ∀ {n : Nat}, (∀ k, k < n → p k = q k) → fstN p n = fstN q n
  | 0, _ => rfl
  | n + 1, h => by simp only [fstN]; rw [fstN_cong (n := n) (fun k hk => h k (by omega)), h n (by omega)]
theorem iuI_cnt {ht ra pa : Nat → Nat} {Q m lv : Nat} (h : iuI ht Q ra pa m) (hQ : ∀ k, k < 36 → (rkC ht 36 k < Q ↔ lv ≤ ht k)) : cnt (repB ht lv) 36 + m = cnt (fun k => decide (lv ≤ ht k)) 36 := by
  have hcls := fun {j k : Nat} (hj : j < 36) (hk : k < 36) (a : lv ≤ ht j) (b : lv ≤ ht k) => iuI_cls h hQ hj hk a b
  obtain ⟨h1, h2, h3, h4⟩ := h
  have hr : ∀ x, x < 36 → (ra x ≠ 0 ↔ lv ≤ ht x) := fun x hx => (h2 x hx).trans (hQ x hx)
  have hlt : ∀ k, k < 36 → rtN pa 36 k < 36 := fun k hk => rtN_lt h1.1 hk
  have hraise : ∀ k, k < 36 → (lv ≤ ht (rtN pa 36 k) ↔ lv ≤ ht k) := h4 (fun x => lv ≤ ht x) (fun c d k hc hd hn a b => ⟨fun _ => (hr k (nb_lt hc hn)).mp b, fun _ => (hr c hc).mp a⟩)
  have hun : ∀ k, k < 36 → ¬ lv ≤ ht k → pa k = k := fun k hk hnl => by
    have := (h4 (fun x => x = k) (fun c d x hc hd hn a b => ⟨fun e => absurd ((hr c hc).mp a) (by rw [e]; exact hnl), fun e => absurd ((hr x (nb_lt hc hn)).mp b) (by rw [e]; exact hnl)⟩) k hk).mpr rfl
    have := h1.root hk
    simp_all
  have e1 : cnt (repB ht lv) 36 = cnt (fun v => decide (lv ≤ ht v) && decide (pa v = v)) 36 := by
    have f1 := cnt_first (P := fun k => decide (lv ≤ ht k)) (f := fun k => rtN pa 36 k) hlt 36 (Nat.le_refl _)
    rw [cnt_cong (p := repB ht lv) (q := fun k => decide (lv ≤ ht k) && (fstN (fun j => decide (lv ≤ ht j) && (rtN pa 36 j == rtN pa 36 k)) k).isNone) (fun k hk => ?_)]
    · refine f1.trans (cnt_cong (fun v hv => ?_))
      by_cases q : lv ≤ ht v ∧ pa v = v
      · rw [decide_eq_true q.1, decide_eq_true q.2]
        cases z : fstN (fun k => decide (lv ≤ ht k) && (rtN pa 36 k == v)) 36 with
        | some i => rfl
        | none =>
          have := fstN_none.mp z v hv
          rw [decide_eq_true q.1, rtN_self q.2] at this
          simp at this
      · have e : (decide (lv ≤ ht v) && decide (pa v = v)) = false := by
          rw [Bool.and_eq_false_iff]
          by_cases r : lv ≤ ht v
          · exact Or.inr (decide_eq_false (fun z => q ⟨r, z⟩))
          · exact Or.inl (decide_eq_false r)
        rw [e]
        cases z : fstN (fun k => decide (lv ≤ ht k) && (rtN pa 36 k == v)) 36 with
        | none => rfl
        | some i =>
          obtain ⟨a, b, -⟩ := fstN_some.mp z
          obtain ⟨b1, b2⟩ := Bool.and_eq_true_iff.mp b
          have b1' := of_decide_eq_true b1
          have b2' : rtN pa 36 i = v := by simpa using b2
          exact absurd ⟨by rw [← b2']; exact (hraise i a).mpr b1', by rw [← b2']; exact h1.root a⟩ q
    · unfold repB
      by_cases r : lv ≤ ht k
      · rw [decide_eq_true r]
        congr 2
        refine fstN_cong (fun j hj => ?_)
        by_cases r2 : lv ≤ ht j
        · rw [decide_eq_true r2]
          show ldB _ _ _ = (rtN pa 36 j == rtN pa 36 k)
          have i1 := (ldB_iff (ok := isOk ht lv) (a := j) (b := k) (by omega) hk).trans (hcls (by omega) hk r2 r)
          cases z : ldB (isOk ht lv) j k with
          | true => exact (beq_iff_eq.mpr (i1.mp z)).symm
          | false => exact (beq_eq_false_iff_ne.mpr (fun z2 => by rw [i1.mpr z2] at z; cases z)).symm
        · rw [decide_eq_false r2]; rfl
      · rw [decide_eq_false r]; rfl
  have e2 := cnt_split (p := fun k => decide (pa k = k)) (q := fun k => decide (lv ≤ ht k)) (n := 36)
  have e3 := cnt_split (p := fun _ => true) (q := fun k => decide (lv ≤ ht k)) (n := 36)
  have e4 : cnt (fun k => decide (pa k = k) && decide (lv ≤ ht k)) 36 = cnt (fun v => decide (lv ≤ ht v) && decide (pa v = v)) 36 := cnt_cong (fun k _ => Bool.and_comm _ _)
  have e5 : cnt (fun k => decide (pa k = k) && !decide (lv ≤ ht k)) 36 = cnt (fun k => true && !decide (lv ≤ ht k)) 36 := cnt_cong (fun k hk => by
    by_cases r : lv ≤ ht k
    · rw [decide_eq_true r]; simp
    · rw [decide_eq_true (hun k hk r)])
  have e6 : cnt (fun _ => true) 36 = 36 := by decide
  have e7 : cnt (fun k => true && decide (lv ≤ ht k)) 36 = cnt (fun k => decide (lv ≤ ht k)) 36 := cnt_cong (fun k _ => Bool.true_and _)
  have e8 := h1.2.2
  omega
theorem cnt_rk {ht rk : Nat → Nat} : ∀ Q, Q ≤ 36 → cnt (fun k => decide (rkC ht 36 k < Q)) 36 = Q
  | 0, _ => by rw [cnt_cong (q := fun _ => false) (fun k _ => decide_eq_false (Nat.not_lt_zero _)), cnt_0]
  | Q + 1, hQ => by
    have ih := cnt_rk (ht := ht) (rk := rk) Q (by omega)
    obtain ⟨g1, g2⟩ := rankN_rk (ht := ht) (rk := rk) 36 Q (by omega)
    rw [cnt_one (p := fun k => decide (rkC ht 36 k < Q)) g1 (decide_eq_false (by rw [g2]; omega)) (decide_eq_true (by rw [g2]; omega)) (fun j hj hne => ?_), ih]
    have : rkC ht 36 j ≠ Q := fun z => hne (rkC_inj hj g1 (z.trans g2.symm))
    by_cases z : rkC ht 36 j < Q
    · rw [decide_eq_true z, decide_eq_true (by omega)]
    · rw [decide_eq_false z, decide_eq_false (by omega)]
theorem iu_eq {ht rk ra pa : Nat → Nat} {lv : Nat} : (iuG ht (rankN ht rk 36) lv 36 0 (fil 36 (fun _ => 0) ra, fil 36 (fun j => j) pa, nI 0)).2.2 = nI (cnt (repB ht lv) 36) := by
  obtain ⟨Q, ra', pa', m', h1, h2, hQ, h3⟩ := iuG_fin (ht := ht) (rk := rk) (lv := lv) (n := 36) (q := 0) (m := 0) (ra := fil 36 (fun _ => 0) ra) (pa := fil 36 (fun j => j) pa) (s := nI 0) rfl iuI_0 rfl (fun k _ h => absurd h (Nat.not_lt_zero _))
  have h4 := iuI_cnt h1 h3
  rw [← cnt_cong (p := fun k => decide (rkC ht 36 k < Q)) (q := fun k => decide (lv ≤ ht k)) (fun k hk => by by_cases z : rkC ht 36 k < Q; rw [decide_eq_true z, decide_eq_true ((h3 k hk).mp z)]; rw [decide_eq_false z, decide_eq_false (fun y => z ((h3 k hk).mpr y))]), cnt_rk (rk := rk) Q hQ] at h4
  rw [← h4, ← nI_add] at h2
  have h5 := congrArg (fun z => z - nI m') h2
  simp only [Int32.add_sub_cancel] at h5
  exact h5
