/-! STEPS BY PAIRS AND UNIONS -/
theorem insP_fact {v : Nat} : ∀ {p : Nat} {f : Nat → Nat}, (∀ i j, i < j → j < p → f i ≤ f j) → (∀ j, p < j → insP v p f j = f j) ∧ (∀ i j, i < j → j < p + 1 → insP v p f i ≤ insP v p f j) ∧ ∀ x, (∃ j, j < p + 1 ∧ insP v p f j = x) ↔ x = v ∨ ∃ j, j < p ∧ f j = x
  | 0, f, h => by
    refine ⟨fun j hj => va_up_ne _ _ (by omega), fun i j hi hj => by omega, fun x => ⟨fun ⟨j, hj, e⟩ => ?_, fun hx => ?_⟩⟩
    · have : j = 0 := by omega
      subst this
      have e' : va_up f 0 v 0 = x := e
      rw [va_up_self] at e'; exact Or.inl e'.symm
    · rcases hx with hx | ⟨j, hj, _⟩
      · exact ⟨0, by omega, by show va_up f 0 v 0 = x; rw [va_up_self, hx]⟩
      · exact absurd hj (Nat.not_lt_zero _)
  | p + 1, f, h => by
    by_cases q : v < f p
    · have e : insP v (p + 1) f = insP v p (va_up f (p + 1) (f p)) := by simp only [insP]; rw [if_pos q]
      have hlow : ∀ j, j < p → va_up f (p + 1) (f p) j = f j := fun j hj => va_up_ne _ _ (by omega)
      obtain ⟨i1, i2, i3⟩ := insP_fact (v := v) (p := p) (f := va_up f (p + 1) (f p)) (fun i j hi hj => by rw [hlow i (by omega), hlow j hj]; exact h i j hi (by omega))
      rw [e]
      have htop : insP v p (va_up f (p + 1) (f p)) (p + 1) = f p := by rw [i1 (p + 1) (by omega), va_up_self]
      have hval : ∀ j, j < p + 1 → insP v p (va_up f (p + 1) (f p)) j = v ∨ ∃ i, i < p ∧ f i = insP v p (va_up f (p + 1) (f p)) j := fun j hj => by
        rcases (i3 (insP v p (va_up f (p + 1) (f p)) j)).mp ⟨j, hj, rfl⟩ with z | ⟨i, hi, z⟩
        · exact Or.inl z
        · exact Or.inr ⟨i, hi, by rw [← hlow i hi]; exact z⟩
      refine ⟨fun j hj => by rw [i1 j (by omega), va_up_ne _ _ (by omega)], fun i j hi hj => ?_, fun x => ⟨fun ⟨j, hj, z⟩ => ?_, fun hx => ?_⟩⟩
      · by_cases r : j = p + 1
        · subst r; rw [htop]
          rcases hval i hi with z | ⟨a, ha, z⟩
          · omega
          · rw [← z]; exact h a p ha (by omega)
        · exact i2 i j hi (by omega)
      · by_cases r : j = p + 1
        · subst r; rw [htop] at z; exact Or.inr ⟨p, by omega, z⟩
        · rcases hval j (by omega) with y | ⟨a, ha, y⟩
          · exact Or.inl (z.symm.trans y)
          · exact Or.inr ⟨a, by omega, y.trans z⟩
      · rcases hx with hx | ⟨j, hj, z⟩
        · obtain ⟨j, hj, y⟩ := (i3 x).mpr (Or.inl hx)
          exact ⟨j, by omega, y⟩
        · by_cases r : j = p
          · subst r; exact ⟨j + 1, by omega, by rw [htop]; exact z⟩
          · obtain ⟨i, hi, y⟩ := (i3 x).mpr (Or.inr ⟨j, by omega, by rw [hlow j (by omega)]; exact z⟩)
            exact ⟨i, by omega, y⟩
    · have e : insP v (p + 1) f = va_up f (p + 1) v := by simp only [insP]; rw [if_neg q]
      rw [e]
      refine ⟨fun j hj => va_up_ne _ _ (by omega), fun i j hi hj => ?_, fun x => ⟨fun ⟨j, hj, z⟩ => ?_, fun hx => ?_⟩⟩
      · rw [va_up_ne _ _ (show i ≠ p + 1 by omega)]
        by_cases r : j = p + 1
        · subst r; rw [va_up_self]
          by_cases r2 : i = p
          · subst r2; omega
          · have := h i p (by omega) (by omega); omega
        · rw [va_up_ne _ _ r]; exact h i j hi (by omega)
      · by_cases r : j = p + 1
        · subst r; rw [va_up_self] at z; exact Or.inl z.symm
        · rw [va_up_ne _ _ r] at z; exact Or.inr ⟨j, by omega, z⟩
      · rcases hx with hx | ⟨j, hj, z⟩
        · exact ⟨p + 1, by omega, by rw [va_up_self, hx]⟩
        · exact ⟨j, by omega, by rw [va_up_ne _ _ (by omega)]; exact z⟩
/-- a sorted row of the pairs that D names -/
def prS (ht wr : Nat → Nat) (D : Nat → Nat → Prop) (s : (Nat → Nat) × Nat) : Prop := (∀ i j, i < j → j < s.2 → s.1 i ≤ s.1 j) ∧ ∀ x, (∃ j, j < s.2 ∧ s.1 j = x) ↔ ∃ c d k, D c d ∧ nb c d = some k ∧ ¬ 3 ≤ wr c ∧ ¬ 3 ≤ wr k ∧ x = prV ht c k d
theorem prP_S {ht wr : Nat → Nat} {D : Nat → Nat → Prop} {c d : Nat} {s : (Nat → Nat) × Nat} (h : prS ht wr D s) (hroom : ∀ k, nb c d = some k → s.2 < 60) : prS ht wr (fun a e => D a e ∨ (a = c ∧ e = d)) (prP ht wr c d s) ∧ (prP ht wr c d s).2 ≤ s.2 + (if (nb c d).isSome = true then 1 else 0) := by
  obtain ⟨h1, h2⟩ := h
  have stay : (∀ k, nb c d = some k → ¬ 3 ≤ wr c → ¬ 3 ≤ wr k → False) → prS ht wr (fun a e => D a e ∨ (a = c ∧ e = d)) s := fun hno => by
    refine ⟨h1, fun x => (h2 x).trans ⟨fun ⟨a, e, k, g⟩ => ⟨a, e, k, Or.inl g.1, g.2⟩, fun ⟨a, e, k, g1, g2, g3, g4, g5⟩ => ?_⟩⟩
    rcases g1 with g1 | ⟨e1, e2⟩
    · exact ⟨a, e, k, g1, g2, g3, g4, g5⟩
    · subst e1; subst e2; exact (hno k g2 g3 g4).elim
  cases hn : nb c d with
  | none =>
    have e : prP ht wr c d s = s := by unfold prP; rw [hn]
    rw [e]
    exact ⟨stay (fun k hk => by rw [hn] at hk; cases hk), by simp⟩
  | some k =>
    have hr := hroom k hn
    by_cases q1 : 3 ≤ wr c
    · have e : prP ht wr c d s = s := by unfold prP; rw [hn]; exact if_pos q1
      rw [e]; exact ⟨stay (fun _ _ z _ => z q1), by simp⟩
    · by_cases q2 : 3 ≤ wr k
      · have e : prP ht wr c d s = s := by unfold prP; rw [hn]; exact (if_neg q1).trans (if_pos q2)
        rw [e]; exact ⟨stay (fun j hj _ z => z (by rw [hn] at hj; cases hj; exact q2)), by simp⟩
      · have e : prP ht wr c d s = (insP (prV ht c k d) s.2 s.1, s.2 + 1) := by unfold prP; rw [hn]; exact (if_neg q1).trans ((if_neg q2).trans (if_neg (by omega)))
        rw [e]
        obtain ⟨i1, i2, i3⟩ := insP_fact (v := prV ht c k d) h1
        refine ⟨⟨i2, fun x => (i3 x).trans ⟨fun hx => ?_, fun ⟨a, e, j, g1, g2, g3, g4, g5⟩ => ?_⟩⟩, by simp⟩
        · rcases hx with hx | hx
          · exact ⟨c, d, k, Or.inr ⟨rfl, rfl⟩, hn, q1, q2, hx⟩
          · obtain ⟨a, e, j, g⟩ := (h2 x).mp hx
            exact ⟨a, e, j, Or.inl g.1, g.2⟩
        · rcases g1 with g1 | ⟨e1, e2⟩
          · exact Or.inr ((h2 x).mpr ⟨a, e, j, g1, g2, g3, g4, g5⟩)
          · subst e1; subst e2; rw [hn] at g2; cases g2; exact Or.inl g5
/-- the pairs of the cells below n -/
def edN (n : Nat) : Nat := cnt (fun c => (nb c 1).isSome) n + cnt (fun c => (nb c 2).isSome) n
theorem edN_room : ∀ n, n < 36 → ((nb n 1).isSome = true → edN n < 60) ∧ ((nb n 2).isSome = true → edN n + (if (nb n 1).isSome = true then 1 else 0) < 60) := by decide +kernel
theorem edN_s (n : Nat) : edN (n + 1) = edN n + (if (nb n 1).isSome = true then 1 else 0) + (if (nb n 2).isSome = true then 1 else 0) := by
  unfold edN; simp only [cnt]; omega
theorem prN_S {ht wr pq : Nat → Nat} : ∀ n, n ≤ 36 → prS ht wr (fun a e => a < n ∧ (e = 1 ∨ e = 2)) (prN ht wr pq n) ∧ (prN ht wr pq n).2 ≤ edN n
  | 0, _ => ⟨⟨fun i j _ hj => absurd hj (Nat.not_lt_zero _), fun x => ⟨fun ⟨j, hj, _⟩ => absurd hj (Nat.not_lt_zero _), fun ⟨c, d, k, g, _⟩ => absurd g.1 (Nat.not_lt_zero _)⟩⟩, Nat.zero_le _⟩
  | n + 1, hn => by
    obtain ⟨i1, i2⟩ := prN_S (ht := ht) (wr := wr) (pq := pq) n (by omega)
    obtain ⟨r1, r2⟩ := edN_room n (by omega)
    obtain ⟨a1, a2⟩ := prP_S (c := n) (d := 1) i1 (fun k hk => by have := r1 (by rw [hk]; rfl); omega)
    obtain ⟨b1, b2⟩ := prP_S (c := n) (d := 2) a1 (fun k hk => by have := r2 (by rw [hk]; rfl); omega)
    have e : prN ht wr pq (n + 1) = prP ht wr n 2 (prP ht wr n 1 (prN ht wr pq n)) := rfl
    rw [e, edN_s]
    refine ⟨⟨b1.1, fun x => (b1.2 x).trans ⟨fun ⟨c, d, k, g1, g2⟩ => ⟨c, d, k, ?_, g2⟩, fun ⟨c, d, k, g1, g2⟩ => ⟨c, d, k, ?_, g2⟩⟩⟩, by omega⟩
    · rcases g1 with (g1 | g1) | g1
      · exact ⟨by omega, g1.2⟩
      · exact ⟨by omega, Or.inl g1.2⟩
      · exact ⟨by omega, Or.inr g1.2⟩
    · by_cases q : c = n
      · rcases g1.2 with z | z
        · exact Or.inl (Or.inr ⟨q, z⟩)
        · exact Or.inr ⟨q, z⟩
      · exact Or.inl (Or.inl ⟨by omega, g1.2⟩)
/-- the first q pairs are united -/
def suI (pq : Nat → Nat) (q : Nat) (pa : Nat → Nat) : Prop := (∃ m, ufI pa m) ∧ (∀ j k, j < q → nb (pq j % 144 / 4) (pq j % 4) = some k → rtN pa 36 (pq j % 144 / 4) = rtN pa 36 k) ∧ ∀ f : Nat → Prop, (∀ j k, j < q → nb (pq j % 144 / 4) (pq j % 4) = some k → (f (pq j % 144 / 4) ↔ f k)) → ∀ x, x < 36 → (f (rtN pa 36 x) ↔ f x)
theorem suI_0 {pq pa : Nat → Nat} : suI pq 0 (fil 36 (fun j => j) pa) := ⟨⟨0, ufI_0⟩, fun j k hj => absurd hj (Nat.not_lt_zero _), fun f _ x hx => by rw [rtN_self (fil_in hx)]⟩
theorem suI_step {pq pa : Nat → Nat} {q : Nat} (h : suI pq q pa) : suI pq (q + 1) (suP pa (pq q)) := by
  obtain ⟨⟨m, h1⟩, h2, h3⟩ := h
  have hc : pq q % 144 / 4 < 36 := by omega
  cases hn : nb (pq q % 144 / 4) (pq q % 4) with
  | none =>
    have e : suP pa (pq q) = pa := by unfold suP; rw [hn]
    rw [e]
    refine ⟨⟨m, h1⟩, fun j k hj hk => ?_, fun f hf => h3 f (fun j k hj hk => hf j k (by omega) hk)⟩
    by_cases r : j = q
    · subst r; rw [hn] at hk; cases hk
    · exact h2 j k (by omega) hk
  | some k =>
    have hk36 := nb_lt hc hn
    have e : suP pa (pq q) = unU pa (pq q % 144 / 4) k := by unfold suP; rw [hn]
    rw [e]
    obtain ⟨u1, -⟩ := unU_fact h1 hc hk36
    obtain ⟨c1, c2, c3⟩ := unU_cls h1 hc hk36
    refine ⟨⟨_, u1⟩, fun j x hj hx => ?_, fun f hf => c3 f (h3 f (fun j x hj hx => hf j x (by omega) hx)) (hf q k (by omega) hn)⟩
    by_cases r : j = q
    · subst r; rw [hn] at hx; cases hx; exact c1
    · exact c2 _ x (by omega) (nb_lt (by omega) hx) (h2 j x (by omega) hx)
theorem nb_half {c d k : Nat} (hc : c < 36) (hd : d < 4) (h : nb c d = some k) : (d = 1 ∨ d = 2) ∨ ∃ d2, (d2 = 1 ∨ d2 = 2) ∧ nb k d2 = some c := by
  have h1 := nb_opp c hc d hd
  rw [h] at h1
  have h2 : nb k ((d + 2) % 4) = some c := by simpa using h1
  by_cases q : d = 1 ∨ d = 2
  · exact Or.inl q
  · exact Or.inr ⟨(d + 2) % 4, by omega, h2⟩
theorem prV_at {ht : Nat → Nat} {c k d : Nat} (hc : c < 36) (hd : d < 4) : prV ht c k d % 144 / 4 = c ∧ prV ht c k d % 4 = d ∧ prV ht c k d / 144 = dif (ht c) (ht k) := by
  unfold prV; omega
theorem su_clo {ht wr pq0 pa : Nat → Nat} {q t a b : Nat} (ha : a < 36) (hwa : ¬ 3 ≤ wr a) (h : suI (prN ht wr pq0 36).1 q pa) (hall : ∀ j, j < (prN ht wr pq0 36).2 → (prN ht wr pq0 36).1 j / 144 ≤ t → j < q) (hr : Rch (ldOk ht wr t) a b) : rtN pa 36 a = rtN pa 36 b := by
  obtain ⟨h1, h2, h3⟩ := h
  obtain ⟨⟨s1, s2⟩, -⟩ := prN_S (ht := ht) (wr := wr) (pq := pq0) 36 (Nat.le_refl _)
  have key : ∀ c d k, c < 36 → d < 4 → (d = 1 ∨ d = 2) → nb c d = some k → ¬ 3 ≤ wr c → ¬ 3 ≤ wr k → dif (ht c) (ht k) ≤ t → rtN pa 36 c = rtN pa 36 k := fun c d k hc hd hd2 hn hwc hwk ht' => by
    obtain ⟨j, hj, e⟩ := (s2 (prV ht c k d)).mpr ⟨c, d, k, ⟨hc, hd2⟩, hn, hwc, hwk, rfl⟩
    obtain ⟨v1, v2, v3⟩ := prV_at (ht := ht) (k := k) hc hd
    have := h2 j k (hall j hj (by rw [e, v3]; exact ht')) (by rw [e, v1, v2]; exact hn)
    rw [e, v1] at this; exact this
  have := hr (fun x => x < 36 ∧ ¬ 3 ≤ wr x ∧ rtN pa 36 a = rtN pa 36 x) (fun c d k hc hd hS hn ho => ?_) ⟨ha, hwa, rfl⟩
  · exact this.2.2
  · obtain ⟨o1, o2⟩ := of_decide_eq_true ho
    have hk := nb_lt hc hn
    refine ⟨hk, o1, hS.2.2.trans ?_⟩
    rcases nb_half hc hd hn with z | ⟨d2, z, hn2⟩
    · exact key c d k hc hd z hn hS.2.1 o1 o2
    · exact (key k d2 c hk (by omega) z hn2 o1 hS.2.1 (by rw [dif_sym]; exact o2)).symm
theorem su_fin {ht wr pq0 D : Nat → Nat} {a b : Nat} (ha : a < 36) (hb : b < 36) (hwa : ¬ 3 ≤ wr a) (hht : ∀ k, k < 36 → ht k ≤ 99) (hD : grt (hlW wr) (fT ht) (rtM wr a) D) : ∀ {n q : Nat} {pa : Nat → Nat}, q + n = 60 → suI (prN ht wr pq0 36).1 q pa → rtN pa 36 a ≠ rtN pa 36 b → (suG (prN ht wr pq0 36).1 (prN ht wr pq0 36).2 a b n q pa).2 = kcI (D b) := by
  obtain ⟨⟨s1, s2⟩, -⟩ := prN_S (ht := ht) (wr := wr) (pq := pq0) 36 (Nat.le_refl _)
  obtain ⟨o1, o2⟩ := prN_ok (ht := ht) (wr := wr) (pq := pq0) hht (Nat.le_refl 36)
  have last : ∀ {q : Nat} {pa : Nat → Nat}, (prN ht wr pq0 36).2 ≤ q → suI (prN ht wr pq0 36).1 q pa → rtN pa 36 a ≠ rtN pa 36 b → (-1 : Int32) = kcI (D b) := fun {q pa} hq h hne => by
    have : D b = 1000000 := step_none ha hb hht hwa hD (fun hr => hne (su_clo ha hwa h (fun j hj _ => by omega) hr))
    rw [this]; rfl
  intro n
  induction n with
  | zero => intro q pa hq h hne; rw [suG_z]; exact last (by omega) h hne
  | succ n ih =>
    intro q pa hq h hne
    rw [suG_s]
    by_cases z : q < (prN ht wr pq0 36).2
    · rw [if_pos z]
      have st := suI_step h
      by_cases y : rtN (suP pa ((prN ht wr pq0 36).1 q)) 36 a = rtN (suP pa ((prN ht wr pq0 36).1 q)) 36 b
      · rw [if_pos y]
        have hle := o2 q z
        obtain ⟨sv, hsv⟩ : ∃ sv, sv = (prN ht wr pq0 36).1 q / 144 := ⟨_, rfl⟩
        have hsort : ∀ j, j < q + 1 → (prN ht wr pq0 36).1 j ≤ (prN ht wr pq0 36).1 q := fun j hj => by
          by_cases r : j = q
          · rw [r]; exact Nat.le_refl _
          · exact s1 j q (by omega) z
        have hup : Rch (ldOk ht wr sv) a b := by
          have hf := st.2.2 (fun x => Rch (ldOk ht wr sv) a x) (fun j k hj hk => ?_)
          · have e1 := (hf a ha).mpr (Rch.rf a)
            have e1' : Rch (ldOk ht wr sv) a (rtN (suP pa ((prN ht wr pq0 36).1 q)) 36 a) := e1
            rw [y] at e1'
            exact (hf b hb).mp e1'
          · obtain ⟨c, d, k2, g1, g2, g3, g4, g5⟩ := (s2 ((prN ht wr pq0 36).1 j)).mp ⟨j, by omega, rfl⟩
            obtain ⟨v1, v2, v3⟩ := prV_at (ht := ht) (c := c) (k := k2) (d := d) g1.1 (by omega)
            have hs := hsort j hj
            rw [g5, v1, v2, g2] at hk
            have hkk := Option.some.inj hk
            subst hkk
            rw [g5, v1]
            have hdif : dif (ht c) (ht k2) ≤ sv := by rw [← v3, ← g5, hsv]; exact Nat.div_le_div_right hs
            have hk36 := nb_lt g1.1 g2
            obtain ⟨d2, hd2, hn2⟩ := nb_sym g1.1 (by omega) g2
            exact ⟨fun w => w.tr (Rch.st g1.1 (by omega) g2 (decide_eq_true ⟨g4, hdif⟩)), fun w => w.tr (Rch.st hk36 hd2 hn2 (decide_eq_true ⟨g3, by rw [dif_sym]; exact hdif⟩))⟩
        have h1 := (step_iff ha hb hwa (by omega) hD).mpr hup
        have h2 : ¬ D b < sv := fun w => by
          have hr := (step_iff (s := sv - 1) ha hb hwa (by omega) hD).mp (by omega)
          refine hne (su_clo ha hwa h (fun j hj hjt => ?_) hr)
          refine Classical.byContradiction (fun hjq => ?_)
          have hjs : (prN ht wr pq0 36).1 q ≤ (prN ht wr pq0 36).1 j := by
            by_cases r : j = q
            · rw [r]; exact Nat.le_refl _
            · exact s1 q j (by omega) hj
          have := Nat.div_le_div_right (c := 144) hjs
          omega
        have e : D b = sv := by omega
        show nI ((prN ht wr pq0 36).1 q / 144) = kcI (D b)
        rw [e, ← hsv]
        unfold kcI
        rw [if_neg (by omega)]
      · rw [if_neg y]; exact ih (by omega) st y
    · rw [if_neg z]; exact last (by omega) h hne
/-- steps by pairs -/
theorem su_eq {ht wr pq0 pa D : Nat → Nat} {a b : Nat} (ha : a < 36) (hb : b < 36) (hab : a ≠ b) (hwa : ¬ 3 ≤ wr a) (hht : ∀ k, k < 36 → ht k ≤ 99) (hD : grt (hlW wr) (fT ht) (rtM wr a) D) : (suG (prN ht wr pq0 36).1 (prN ht wr pq0 36).2 a b 60 0 (fil 36 (fun j => j) pa)).2 = kcI (D b) :=
  su_fin ha hb hwa hht hD rfl suI_0 (by rw [rtN_self (fil_in ha), rtN_self (fil_in hb)]; exact hab)
