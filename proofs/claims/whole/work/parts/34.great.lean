/-! WHAT IS IMPROVED TILL NOTHING IMPROVES: the greatest function that is closed; rounds and the queue come to it -/
theorem nb_opp : ∀ c, c < 36 → ∀ d, d < 4 → ((nb c d).all fun k => nb k ((d + 2) % 4) == some c) = true := by decide +kernel
theorem nb_sym {c d k : Nat} (hc : c < 36) (hd : d < 4) (h : nb c d = some k) : ∃ d2, d2 < 4 ∧ nb k d2 = some c := by
  have h1 := nb_opp c hc d hd
  rw [h] at h1
  exact ⟨(d + 2) % 4, Nat.mod_lt _ (by decide), by simpa using h1⟩
theorem nb_ne' : ∀ c, c < 36 → ∀ d, d < 4 → ((nb c d).all fun k => decide (¬ k = c)) = true := by decide +kernel
theorem nb_ne {c d k : Nat} (hc : c < 36) (hd : d < 4) (h : nb c d = some k) : k ≠ c := by
  have h1 := nb_ne' c hc d hd
  rw [h] at h1
  simpa using h1
theorem least_in {P : Nat → Prop} {g : Nat → Nat} : ∀ {n : Nat}, (∃ k, k < n ∧ P k) → ∃ k, k < n ∧ P k ∧ ∀ j, j < n → P j → g k ≤ g j
  | 0, h => by obtain ⟨k, hk, _⟩ := h; omega
  | n + 1, h => by
    by_cases q : ∃ k, k < n ∧ P k
    · obtain ⟨k, hk, hP, hm⟩ := least_in (P := P) (g := g) q
      by_cases r : P n ∧ g n < g k
      · refine ⟨n, Nat.lt_succ_self _, r.1, fun j hj hPj => ?_⟩
        by_cases e : j = n
        · rw [e]; exact Nat.le_refl _
        · have := hm j (by omega) hPj; have := r.2; omega
      · refine ⟨k, Nat.lt_succ_of_lt hk, hP, fun j hj hPj => ?_⟩
        by_cases e : j = n
        · subst e
          exact Nat.le_of_not_lt (fun x => r ⟨hPj, x⟩)
        · exact hm j (by omega) hPj
    · obtain ⟨k, hk, hP⟩ := h
      have e : k = n := by
        by_cases e : k = n
        · exact e
        · exact absurd ⟨k, by omega, hP⟩ q
      subst e
      refine ⟨k, Nat.lt_succ_self _, hP, fun j hj hPj => ?_⟩
      by_cases e : j = k
      · rw [e]; exact Nat.le_refl _
      · exact absurd ⟨j, by omega, hPj⟩ q
/-- a kind of improvement: which cells are shut, what a cell's value may be over a neighbour's -/
def cdIs (cd : cdT) (hl : Nat → Bool) (f : Nat → Nat → Nat → Nat) : Prop := (∀ lv k o, cd lv k o = if hl k = true then none else some (f k o (lv o))) ∧ (∀ k o x y, x ≤ y → f k o x ≤ f k o y) ∧ ∀ k o x, x ≤ f k o x
def cle (hl : Nat → Bool) (f : Nat → Nat → Nat → Nat) (u : Nat → Nat) : Prop := ∀ k d o, k < 36 → d < 4 → nb k d = some o → hl k = false → u k ≤ f k o (u o)
def leq (u v : Nat → Nat) : Prop := ∀ k, k < 36 → u k ≤ v k
def rlx (hl : Nat → Bool) (f : Nat → Nat → Nat → Nat) (l0 lv : Nat → Nat) : Prop := ∀ u, leq u l0 → cle hl f u → leq u lv
def grt (hl : Nat → Bool) (f : Nat → Nat → Nat → Nat) (l0 D : Nat → Nat) : Prop := leq D l0 ∧ cle hl f D ∧ rlx hl f l0 D
theorem grt_one {hl : Nat → Bool} {f : Nat → Nat → Nat → Nat} {l0 D E : Nat → Nat} (h : grt hl f l0 D) (h1 : grt hl f l0 E) : ∀ k, k < 36 → D k = E k := fun k hk =>
  Nat.le_antisymm (h1.2.2 D h.1 h.2.1 k hk) (h.2.2 E h1.1 h1.2.1 k hk)
theorem imL_le {cd : cdT} {lv : Nat → Nat} {k o : Nat} (j : Nat) : imL cd lv k o j ≤ lv j := by
  cases hcd : cd lv k o with
  | none => rw [(imB_0 hcd).2]; exact Nat.le_refl _
  | some v =>
    by_cases hv : v < lv k
    · rw [(imB_y hcd hv).2]
      by_cases q : j = k
      · rw [q, va_up_self]; omega
      · rw [va_up_ne _ _ q]; exact Nat.le_refl _
    · rw [(imB_n hcd hv).2]; exact Nat.le_refl _
theorem imL_ne {cd : cdT} {lv : Nat → Nat} {k o j : Nat} (h : j ≠ k) : imL cd lv k o j = lv j := by
  cases hcd : cd lv k o with
  | none => rw [(imB_0 hcd).2]
  | some v =>
    by_cases hv : v < lv k
    · rw [(imB_y hcd hv).2, va_up_ne _ _ h]
    · rw [(imB_n hcd hv).2]
section
variable {cd : cdT} {hl : Nat → Bool} {f : Nat → Nat → Nat → Nat} {l0 D : Nat → Nat}
theorem imL_got (hc : cdIs cd hl f) {lv : Nat → Nat} {k o : Nat} (hk : hl k = false) : imL cd lv k o k ≤ f k o (lv o) := by
  have e : cd lv k o = some (f k o (lv o)) := by rw [hc.1, hk]; rfl
  by_cases hv : f k o (lv o) < lv k
  · rw [(imB_y e hv).2, va_up_self]; exact Nat.le_refl _
  · rw [(imB_n e hv).2]; omega
theorem imL_rlx (hc : cdIs cd hl f) {lv : Nat → Nat} {k o d : Nat} (hk : k < 36) (hd : d < 4) (hn : nb k d = some o) (h : rlx hl f l0 lv) : rlx hl f l0 (imL cd lv k o) := fun u hu hcu j hj => by
  by_cases q : j = k
  · subst q
    have hcd := hc.1 lv j o
    by_cases hlk : hl j = true
    · rw [if_pos hlk] at hcd
      rw [(imB_0 hcd).2]; exact h u hu hcu j hj
    · rw [if_neg hlk] at hcd
      have hlk' : hl j = false := by cases r : hl j; rfl; exact absurd r hlk
      by_cases hv : f j o (lv o) < lv j
      · rw [(imB_y hcd hv).2, va_up_self]
        exact Nat.le_trans (hcu j d o hj hd hn hlk') (hc.2.1 _ _ _ _ (h u hu hcu o (nb_lt hj hn)))
      · rw [(imB_n hcd hv).2]; exact h u hu hcu j hj
  · rw [imL_ne q]; exact h u hu hcu j hj
/-- a round -/
theorem iaD_fact (hc : cdIs cd hl f) {c : Nat} {s : (Nat → Nat) × Bool} (hc36 : c < 36) : ∀ d, d ≤ 4 → leq (iaD cd c s d).1 s.1 ∧ (rlx hl f l0 s.1 → rlx hl f l0 (iaD cd c s d).1) ∧ (∀ j, j ≠ c → (iaD cd c s d).1 j = s.1 j) ∧ (∀ e o, e < d → nb c e = some o → hl c = false → (iaD cd c s d).1 c ≤ f c o (s.1 o)) ∧ ((iaD cd c s d).2 = false → s.2 = false ∧ (iaD cd c s d).1 = s.1)
  | 0, _ => ⟨fun _ _ => Nat.le_refl _, fun h => h, fun _ _ => rfl, fun e o he => absurd he (Nat.not_lt_zero _), fun h => ⟨h, rfl⟩⟩
  | d + 1, hd4 => by
    obtain ⟨h1, h2, h3, h4, h5⟩ := iaD_fact hc (s := s) hc36 d (by omega)
    cases hn : nb c d with
    | none =>
      have e : iaD cd c s (d + 1) = iaD cd c s d := by simp only [iaD, hn]
      rw [e]
      refine ⟨h1, h2, h3, fun e' o he ho => ?_, h5⟩
      by_cases q : e' = d
      · rw [q, hn] at ho; cases ho
      · exact h4 e' o (by omega) ho
    | some k =>
      have e : iaD cd c s (d + 1) = (imL cd (iaD cd c s d).1 c k, imB cd (iaD cd c s d).1 c k || (iaD cd c s d).2) := by simp only [iaD, hn]
      rw [e]
      refine ⟨fun j hj => Nat.le_trans (imL_le j) (h1 j hj), fun h => imL_rlx hc hc36 (by omega) hn (h2 h), fun j hj => (imL_ne hj).trans (h3 j hj), fun e' o he ho hlc => ?_, fun hb => ?_⟩
      · by_cases q : e' = d
        · rw [q, hn] at ho; cases ho
          refine Nat.le_trans (imL_got hc hlc) (hc.2.1 _ _ _ _ ?_)
          rw [h3 k (nb_ne hc36 (by omega) hn)]; exact Nat.le_refl _
        · exact Nat.le_trans (imL_le c) (h4 e' o (by omega) ho hlc)
      · have hb' := (Bool.or_eq_false_iff.mp hb)
        obtain ⟨g1, g2⟩ := h5 hb'.2
        exact ⟨g1, (imL_n hb'.1).trans g2⟩
theorem iaN_fact (hc : cdIs cd hl f) {lv : Nat → Nat} : ∀ n, n ≤ 36 → leq (iaN cd lv n).1 lv ∧ (rlx hl f l0 lv → rlx hl f l0 (iaN cd lv n).1) ∧ (∀ j, n ≤ j → (iaN cd lv n).1 j = lv j) ∧ (∀ c e o, c < n → e < 4 → nb c e = some o → hl c = false → (iaN cd lv n).1 c ≤ f c o (lv o)) ∧ ((iaN cd lv n).2 = false → (iaN cd lv n).1 = lv)
  | 0, _ => ⟨fun _ _ => Nat.le_refl _, fun h => h, fun _ _ => rfl, fun c e o h => absurd h (Nat.not_lt_zero _), fun _ => rfl⟩
  | n + 1, hn => by
    obtain ⟨h1, h2, h3, h4, h5⟩ := iaN_fact hc (lv := lv) n (by omega)
    obtain ⟨g1, g2, g3, g4, g5⟩ := iaD_fact (l0 := l0) hc (c := n) (s := iaN cd lv n) (by omega) 4 (Nat.le_refl _)
    refine ⟨fun j hj => Nat.le_trans (g1 j hj) (h1 j hj), fun h => g2 (h2 h), fun j hj => (g3 j (by omega)).trans (h3 j (by omega)), fun c e o hcn he ho hlc => ?_, fun hb => ?_⟩
    · by_cases q : c = n
      · subst q
        exact Nat.le_trans (g4 e o he ho hlc) (hc.2.1 _ _ _ _ (h1 o (nb_lt (by omega) ho)))
      · rw [show iaN cd lv (n + 1) = iaD cd n (iaN cd lv n) 4 from rfl, g3 c q]
        exact h4 c e o (by omega) he ho hlc
    · obtain ⟨k1, k2⟩ := g5 hb
      exact k2.trans (h5 k1)
/-- a round that improves nothing: closed -/
theorem iaN_stop (hc : cdIs cd hl f) {lv : Nat → Nat} (h : (iaN cd lv 36).2 = false) : cle hl f lv := fun k d o hk hd ho hlk => by
  obtain ⟨h1, h2, h3, h4, h5⟩ := iaN_fact (l0 := lv) hc (lv := lv) 36 (Nat.le_refl _)
  have h6 := h4 k d o hk hd ho hlk
  rw [h5 h] at h6
  exact h6
theorem grt_next (hc : cdIs cd hl f) (hD : grt hl f l0 D) {lv : Nat → Nat} (hl0 : leq lv l0) (hDl : leq D lv) (hne : ∃ k, k < 36 ∧ ¬ lv k = D k) : ∃ k d o, k < 36 ∧ d < 4 ∧ nb k d = some o ∧ hl k = false ∧ ¬ lv k = D k ∧ lv o = D o ∧ f k o (D o) ≤ D k := by
  obtain ⟨k0, hk0, hP0, hmin⟩ := least_in (P := fun k => ¬ lv k = D k) (g := D) hne
  refine Classical.byContradiction (fun hno => ?_)
  have hall : ∀ k d o, k < 36 → d < 4 → nb k d = some o → hl k = false → ¬ lv k = D k → lv o = D o → D k < f k o (D o) := fun k d o h1 h2 h3 h4 h5 h6 => Nat.lt_of_not_le (fun h7 => hno ⟨k, d, o, h1, h2, h3, h4, h5, h6, h7⟩)
  have hu : ∀ k, D k ≤ (if ¬ lv k = D k ∧ D k ≤ D k0 then D k + 1 else D k) := fun k => by split <;> omega
  have hle : leq (fun k => if ¬ lv k = D k ∧ D k ≤ D k0 then D k + 1 else D k) l0 := fun k hk => by
    have a1 := hD.1 k hk
    have a2 := hDl k hk
    have a3 := hl0 k hk
    show (if _ then _ else _) ≤ _
    by_cases q : ¬ lv k = D k ∧ D k ≤ D k0
    · rw [if_pos q]; have := q.1; omega
    · rw [if_neg q]; exact a1
  have hcl : cle hl f (fun k => if ¬ lv k = D k ∧ D k ≤ D k0 then D k + 1 else D k) := fun k d o hk hd ho hlk => by
    have ho36 := nb_lt hk ho
    show (if _ then _ else _) ≤ f k o (if _ then _ else _)
    by_cases q : ¬ lv k = D k ∧ D k ≤ D k0
    · rw [if_pos q]
      have hkk : D k = D k0 := Nat.le_antisymm q.2 (hmin k hk q.1)
      by_cases r : lv o = D o
      · rw [if_neg (fun z => z.1 r)]
        exact hall k d o hk hd ho hlk q.1 r
      · have hoo := hmin o ho36 r
        by_cases t : D o ≤ D k0
        · rw [if_pos ⟨r, t⟩]
          exact Nat.le_trans (by omega) (hc.2.2 k o (D o + 1))
        · rw [if_neg (fun z => t z.2)]
          exact Nat.le_trans (by omega) (hc.2.2 k o (D o))
    · rw [if_neg q]
      exact Nat.le_trans (hD.2.1 k d o hk hd ho hlk) (hc.2.1 _ _ _ _ (hu o))
  have h9 := hD.2.2 _ hle hcl k0 hk0
  have h9' : (if ¬ lv k0 = D k0 ∧ D k0 ≤ D k0 then D k0 + 1 else D k0) ≤ D k0 := h9
  rw [if_pos ⟨hP0, Nat.le_refl _⟩] at h9'
  omega
theorem cnt_mono {p q : Nat → Bool} : ∀ {n : Nat}, (∀ k, k < n → p k = true → q k = true) → cnt p n ≤ cnt q n
  | 0, _ => Nat.le_refl _
  | n + 1, h => by
    have ih := cnt_mono (p := p) (q := q) (n := n) (fun k hk => h k (by omega))
    have hn := h n (by omega)
    simp only [cnt]
    cases e : p n with
    | true => rw [hn e]; simp; exact ih
    | false => simp; omega
theorem cnt_more {p q : Nat → Bool} {k : Nat} : ∀ {n : Nat}, (∀ j, j < n → p j = true → q j = true) → k < n → p k = false → q k = true → cnt p n + 1 ≤ cnt q n
  | 0, _, hk, _, _ => absurd hk (Nat.not_lt_zero _)
  | n + 1, h, hk, hp, hq => by
    by_cases e : k = n
    · subst e
      have h1 := cnt_mono (p := p) (q := q) (n := k) (fun j hj => h j (by omega))
      simp only [cnt]; rw [hp, hq]; simp; exact h1
    · have ih := cnt_more (p := p) (q := q) (n := n) (fun j hj => h j (by omega)) (by omega) hp hq
      have hn := h n (by omega)
      simp only [cnt]
      cases e2 : p n with
      | true => rw [hn e2]; simp; omega
      | false => simp; omega
theorem cnt_all {p : Nat → Bool} {n : Nat} (h : n ≤ cnt p n) : ∀ k, k < n → p k = true := fun k hk => by
  cases e : p k with
  | true => rfl
  | false => have := cnt_lt hk e; omega
abbrev finC (lv D : Nat → Nat) : Nat := cnt (fun k => decide (lv k = D k)) 36
theorem round_fin (hc : cdIs cd hl f) (hD : grt hl f l0 D) {lv : Nat → Nat} (hl0 : leq lv l0) (hr : rlx hl f l0 lv) : leq (iaN cd lv 36).1 l0 ∧ rlx hl f l0 (iaN cd lv 36).1 ∧ (finC lv D = 36 ∧ finC (iaN cd lv 36).1 D = 36 ∨ finC lv D + 1 ≤ finC (iaN cd lv 36).1 D) := by
  obtain ⟨h1, h2, h3, h4, h5⟩ := iaN_fact (l0 := l0) hc (lv := lv) 36 (Nat.le_refl _)
  have hDl := hr D hD.1 hD.2.1
  have hDl1 := h2 hr D hD.1 hD.2.1
  have hsub : ∀ k, k < 36 → decide (lv k = D k) = true → decide ((iaN cd lv 36).1 k = D k) = true := fun k hk h => by
    have e := of_decide_eq_true h
    have a := h1 k hk
    have b := hDl1 k hk
    exact decide_eq_true (by omega)
  refine ⟨fun k hk => Nat.le_trans (h1 k hk) (hl0 k hk), h2 hr, ?_⟩
  by_cases q : ∃ k, k < 36 ∧ ¬ lv k = D k
  · obtain ⟨k, d, o, hk, hd, ho, hlk, hne, hoo, hf⟩ := grt_next hc hD hl0 hDl q
    refine Or.inr (cnt_more hsub hk (decide_eq_false hne) (decide_eq_true ?_))
    have a := h4 k d o hk hd ho hlk
    rw [hoo] at a
    have b := hDl1 k hk
    omega
  · have hall : ∀ k, k < 36 → lv k = D k := fun k hk => Classical.byContradiction (fun h => q ⟨k, hk, h⟩)
    have e1 : finC lv D = 36 := by
      rw [finC, cnt_cong (q := fun _ => true) (fun k hk => decide_eq_true (hall k hk))]
      decide
    have e2 := cnt_mono hsub
    have e3 := cnt_le (fun k => decide ((iaN cd lv 36).1 k = D k)) 36
    exact Or.inl ⟨e1, Nat.le_antisymm e3 (Nat.le_trans (Nat.le_of_eq e1.symm) e2)⟩
theorem rdG_fin (hc : cdIs cd hl f) (hD : grt hl f l0 D) : ∀ {n : Nat} {s : (Nat → Nat) × Bool}, leq s.1 l0 → rlx hl f l0 s.1 → (s.2 = false → cle hl f s.1) → 36 ≤ n + finC s.1 D → ∀ k, k < 36 → (rdG cd n s).1 k = D k
  | 0, s, h1, h2, _, h4, k, hk => by
    rw [rdG_z]
    exact of_decide_eq_true (cnt_all (p := fun k => decide (s.1 k = D k)) (n := 36) (by have : finC s.1 D = cnt _ 36 := rfl; omega) k hk)
  | n + 1, s, h1, h2, h3, h4, k, hk => by
    rw [rdG_s]
    by_cases q : s.2 = true
    · rw [if_pos q]
      obtain ⟨g1, g2, g3⟩ := round_fin hc hD h1 h2
      refine rdG_fin hc hD g1 g2 (fun hf => ?_) (by rcases g3 with g | g <;> omega) k hk
      have a := iaN_stop hc hf
      obtain ⟨-, -, -, -, h5⟩ := iaN_fact (l0 := l0) hc (lv := s.1) 36 (Nat.le_refl _)
      rw [h5 hf]; exact a
    · rw [if_neg q]
      have q' : s.2 = false := by cases r : s.2; rfl; exact absurd r q
      exact grt_one ⟨h1, h3 q', h2⟩ hD k hk
theorem rlx_rf : rlx hl f l0 l0 := fun _ hu _ => hu
/-- rounds till nothing improves come to the greatest -/
theorem rdG_stop (hc : cdIs cd hl f) : ∀ {n : Nat} {s : (Nat → Nat) × Bool}, leq s.1 l0 → rlx hl f l0 s.1 → (s.2 = false → cle hl f s.1) → (rdG cd n s).2 = false → grt hl f l0 (rdG cd n s).1
  | 0, s, h1, h2, h3, h4 => by
    rw [rdG_z] at h4 ⊢
    exact ⟨h1, h3 h4, h2⟩
  | n + 1, s, h1, h2, h3, h4 => by
    rw [rdG_s] at h4 ⊢
    by_cases q : s.2 = true
    · rw [if_pos q] at h4 ⊢
      obtain ⟨k1, k2, k3, k4, k5⟩ := iaN_fact (l0 := l0) hc (lv := s.1) 36 (Nat.le_refl _)
      exact rdG_stop hc (fun k hk => Nat.le_trans (k1 k hk) (h1 k hk)) (k2 h2) (fun hf => by rw [k5 hf]; exact iaN_stop hc hf) h4
    · rw [if_neg q] at h4 ⊢
      exact ⟨h1, h3 h4, h2⟩
theorem rdG_36 (hc : cdIs cd hl f) (hD : grt hl f l0 D) : ∀ k, k < 36 → (rdG cd 36 (l0, true)).1 k = D k :=
  rdG_fin hc hD (fun _ _ => Nat.le_refl _) rlx_rf (fun h => by cases h) (Nat.le_add_right _ _)
/-! the queue -/
theorem qmin_none {wa ke : Nat → Nat} : ∀ {n : Nat}, qmin wa ke n = none → ∀ k, k < n → wa k = 0
  | 0, _, k, hk => absurd hk (Nat.not_lt_zero _)
  | n + 1, h, k, hk => by
    simp only [qmin] at h
    by_cases q : wa n = 0
    · rw [if_pos q] at h
      by_cases e : k = n
      · rw [e]; exact q
      · exact qmin_none h k (by omega)
    · rw [if_neg q] at h
      split at h
      · cases h
      · split at h <;> cases h
theorem qmin_some {wa ke : Nat → Nat} : ∀ {n c : Nat}, qmin wa ke n = some c → c < n ∧ ¬ wa c = 0 ∧ ∀ k, k < n → ¬ wa k = 0 → ke c ≤ ke k
  | 0, _, h => by simp [qmin] at h
  | n + 1, c, h => by
    simp only [qmin] at h
    by_cases q : wa n = 0
    · rw [if_pos q] at h
      obtain ⟨h1, h2, h3⟩ := qmin_some h
      refine ⟨by omega, h2, fun k hk hw => ?_⟩
      by_cases e : k = n
      · subst e; exact absurd q hw
      · exact h3 k (by omega) hw
    · rw [if_neg q] at h
      cases hq : qmin wa ke n with
      | none =>
        rw [hq] at h
        cases h
        refine ⟨Nat.lt_succ_self _, q, fun k hk hw => ?_⟩
        by_cases e : k = n
        · rw [e]; exact Nat.le_refl _
        · exact absurd (qmin_none hq k (by omega)) hw
      | some b =>
        rw [hq] at h
        obtain ⟨h1, h2, h3⟩ := qmin_some hq
        have h' : (if ke n < ke b then some n else some b) = some c := h
        by_cases r : ke n < ke b
        · rw [if_pos r] at h'; cases h'
          refine ⟨Nat.lt_succ_self _, q, fun k hk hw => ?_⟩
          by_cases e : k = n
          · rw [e]; exact Nat.le_refl _
          · have := h3 k (by omega) hw; omega
        · rw [if_neg r] at h'; cases h'
          refine ⟨by omega, h2, fun k hk hw => ?_⟩
          by_cases e : k = n
          · subst e; omega
          · exact h3 k (by omega) hw
/-- the queue's invariant: tk the cells that were taken, cu the last key, B above each value -/
def dqI (hl : Nat → Bool) (f : Nat → Nat → Nat → Nat) (l0 : Nat → Nat) (B : Nat) (tk : Nat → Bool) (cu : Nat) (s : T4) : Prop :=
  (∀ k, k < 36 → ¬ s.2.1 k = 0 → s.2.2 k = s.1 k ∧ tk k = false ∧ cu ≤ s.1 k) ∧ (∀ c d k, c < 36 → d < 4 → tk c = true → nb c d = some k → hl k = false → s.1 k ≤ f k c (s.1 c)) ∧ (∀ k, k < 36 → tk k = false → s.2.1 k = 0 → s.1 k = B) ∧ (∀ k, k < 36 → tk k = true → s.1 k ≤ cu) ∧ (∀ k, k < 36 → s.1 k ≤ B) ∧ rlx hl f l0 s.1 ∧ leq s.1 l0
/-- while the directions of c are looked at: c is taken, but its neighbours from d on are not done -/
def dqD (hl : Nat → Bool) (f : Nat → Nat → Nat → Nat) (l0 : Nat → Nat) (B : Nat) (tk : Nat → Bool) (c : Nat) (x : Nat) (d : Nat) (s : T4) : Prop :=
  s.1 c = x ∧ (∀ k, k < 36 → ¬ s.2.1 k = 0 → s.2.2 k = s.1 k ∧ tk k = false ∧ k ≠ c ∧ x ≤ s.1 k) ∧ (∀ b e k, b < 36 → e < 4 → tk b = true → nb b e = some k → hl k = false → s.1 k ≤ f k b (s.1 b)) ∧ (∀ e k, e < d → nb c e = some k → hl k = false → s.1 k ≤ f k c x) ∧ (∀ k, k < 36 → tk k = false → k ≠ c → s.2.1 k = 0 → s.1 k = B) ∧ (∀ k, k < 36 → tk k = true → s.1 k ≤ x) ∧ (∀ k, k < 36 → s.1 k ≤ B) ∧ rlx hl f l0 s.1 ∧ leq s.1 l0
theorem dqD_step (hc : cdIs cd hl f) {B c x : Nat} {tk : Nat → Bool} {s : T4} (hc36 : c < 36) (h : dqD hl f l0 B tk c x 0 s) : ∀ d, d ≤ 4 → dqD hl f l0 B tk c x d (spD cd c s d)
  | 0, _ => h
  | d + 1, hd => by
    have ih := dqD_step hc hc36 h d (by omega)
    obtain ⟨i1, i2, i3, i4, i5, i6, i7, i8, i9⟩ := ih
    have stay : spD cd c s (d + 1) = spD cd c s d → (∀ k, nb c d = some k → hl k = false → (spD cd c s d).1 k ≤ f k c x) → dqD hl f l0 B tk c x (d + 1) (spD cd c s (d + 1)) := fun e hk => by
      rw [e]
      refine ⟨i1, i2, i3, fun e' k he' hn hlk => ?_, i5, i6, i7, i8, i9⟩
      by_cases q : e' = d
      · subst q; exact hk k hn hlk
      · exact i4 e' k (by omega) hn hlk
    cases hn : nb c d with
    | none => exact stay (by simp only [spD, hn]) (fun k hk => by rw [hn] at hk; cases hk)
    | some k =>
      have hk36 := nb_lt hc36 hn
      have hkc := nb_ne hc36 (by omega) hn
      by_cases hib : imB cd (spD cd c s d).1 k c = true
      · have hcd := hc.1 (spD cd c s d).1 k c
        by_cases hlk : hl k = true
        · rw [if_pos hlk] at hcd
          rw [(imB_0 hcd).1] at hib; cases hib
        · rw [if_neg hlk] at hcd
          have hlk' : hl k = false := by cases r : hl k; rfl; exact absurd r hlk
          by_cases hv : f k c ((spD cd c s d).1 c) < (spD cd c s d).1 k
          · have e : spD cd c s (d + 1) = (va_up (spD cd c s d).1 k (f k c x), va_up (spD cd c s d).2.1 k 1, va_up (spD cd c s d).2.2 k (f k c x)) := by
              have e1 := (imB_y hcd hv).2
              rw [i1] at e1
              simp only [spD, hn]
              rw [if_pos hib, e1, va_up_self]
            rw [i1] at hv
            have hxf := hc.2.2 k c x
            have htk : tk k = false := by
              cases r : tk k with
              | false => rfl
              | true => have := i6 k hk36 r; omega
            have hrl := imL_rlx (l0 := l0) hc hk36 (nb_sym hc36 (by omega) hn).choose_spec.1 (nb_sym hc36 (by omega) hn).choose_spec.2 i8
            rw [(imB_y hcd (by rw [i1]; exact hv)).2, i1] at hrl
            rw [e]
            refine ⟨by show va_up _ k _ c = x; rw [va_up_ne _ _ (Ne.symm hkc)]; exact i1, fun j hj hw => ?_, fun b e2 j hb he2 htb hnb hlj => ?_, fun e2 j he2 hnb hlj => ?_, fun j hj htj hjc hw => ?_, fun j hj htj => ?_, fun j hj => ?_, hrl, fun j hj => ?_⟩
            · show va_up _ k _ j = va_up _ k _ j ∧ tk j = false ∧ j ≠ c ∧ x ≤ va_up _ k _ j
              by_cases q : j = k
              · subst q; rw [va_up_self, va_up_self]; exact ⟨rfl, htk, hkc, hxf⟩
              · have hw' : ¬ va_up (spD cd c s d).2.1 k 1 j = 0 := hw
                rw [va_up_ne _ _ q] at hw'
                rw [va_up_ne _ _ q, va_up_ne _ _ q]
                exact i2 j hj hw'
            · show va_up _ k _ j ≤ f j b (va_up _ k _ b)
              have hbk : b ≠ k := fun q => by rw [q, htk] at htb; cases htb
              rw [va_up_ne _ _ hbk]
              have a := i3 b e2 j hb he2 htb hnb hlj
              by_cases q : j = k
              · subst q; rw [va_up_self]; omega
              · rw [va_up_ne _ _ q]; exact a
            · show va_up _ k _ j ≤ f j c x
              by_cases q : j = k
              · subst q; rw [va_up_self]; exact Nat.le_refl _
              · rw [va_up_ne _ _ q]
                by_cases r : e2 = d
                · subst r; rw [hn] at hnb; cases hnb; exact absurd rfl q
                · exact i4 e2 j (by omega) hnb hlj
            · have hw' : va_up (spD cd c s d).2.1 k 1 j = 0 := hw
              show va_up _ k _ j = B
              by_cases q : j = k
              · rw [q, va_up_self] at hw'; cases hw'
              · rw [va_up_ne _ _ q] at hw' ⊢; exact i5 j hj htj hjc hw'
            · show va_up _ k _ j ≤ x
              have q : j ≠ k := fun q => by rw [q, htk] at htj; cases htj
              rw [va_up_ne _ _ q]; exact i6 j hj htj
            · show va_up _ k _ j ≤ B
              by_cases q : j = k
              · subst q; rw [va_up_self]; have := i7 j hj; omega
              · rw [va_up_ne _ _ q]; exact i7 j hj
            · show va_up _ k _ j ≤ _
              by_cases q : j = k
              · subst q; rw [va_up_self]; have := i9 j hj; omega
              · rw [va_up_ne _ _ q]; exact i9 j hj
          · rw [(imB_n hcd hv).1] at hib; cases hib
      · have hib' : imB cd (spD cd c s d).1 k c = false := by cases r : imB cd (spD cd c s d).1 k c; rfl; exact absurd r hib
        refine stay (by simp only [spD, hn]; rw [if_neg hib]) (fun j hj hlj => ?_)
        rw [hn] at hj; cases hj
        have hcd := hc.1 (spD cd c s d).1 k c
        rw [hlj] at hcd
        have hcd' : cd (spD cd c s d).1 k c = some (f k c ((spD cd c s d).1 c)) := hcd
        rw [i1] at hcd'
        by_cases hv : f k c x < (spD cd c s d).1 k
        · rw [(imB_y hcd' hv).1] at hib'; cases hib'
        · omega
theorem dq_take (hc : cdIs cd hl f) {B cu c : Nat} {tk : Nat → Bool} {s : T4} (h : dqI hl f l0 B tk cu s) (hq : qmin s.2.1 s.2.2 36 = some c) : dqI hl f l0 B (fun k => tk k || decide (k = c)) (s.1 c) (spD cd c (s.1, va_up s.2.1 c 0, s.2.2) 4) ∧ tk c = false := by
  obtain ⟨h1, h2, h3, h4, h5, h6, h7⟩ := h
  obtain ⟨hc36, hwc, hm⟩ := qmin_some hq
  obtain ⟨a1, a2, a3⟩ := h1 c hc36 hwc
  have h0 : dqD hl f l0 B tk c (s.1 c) 0 (s.1, va_up s.2.1 c 0, s.2.2) := by
    refine ⟨rfl, fun k hk hw => ?_, h2, fun e k he => absurd he (Nat.not_lt_zero _), fun k hk htk hkc hw => ?_, fun k hk htk => Nat.le_trans (h4 k hk htk) a3, h5, h6, h7⟩
    · have hw' : ¬ va_up s.2.1 c 0 k = 0 := hw
      have hkc : k ≠ c := fun q => hw' (by rw [q, va_up_self])
      rw [va_up_ne _ _ hkc] at hw'
      obtain ⟨b1, b2, b3⟩ := h1 k hk hw'
      have := hm k hk hw'
      exact ⟨b1, b2, hkc, by show s.1 c ≤ s.1 k; omega⟩
    · have hw' : va_up s.2.1 c 0 k = 0 := hw
      rw [va_up_ne _ _ hkc] at hw'
      exact h3 k hk htk hw'
  obtain ⟨i1, i2, i3, i4, i5, i6, i7, i8, i9⟩ := dqD_step hc hc36 h0 4 (Nat.le_refl _)
  refine ⟨⟨fun k hk hw => ?_, fun b d k hb hd htb hn hlk => ?_, fun k hk htk hw => ?_, fun k hk htk => ?_, i7, i8, i9⟩, a2⟩
  · obtain ⟨b1, b2, b3, b4⟩ := i2 k hk hw
    exact ⟨b1, by simp [b2, b3], b4⟩
  · by_cases q : b = c
    · subst q
      rw [i1]; exact i4 d k hd hn hlk
    · have htb' : tk b = true := by simpa [q] using htb
      exact i3 b d k hb hd htb' hn hlk
  · have htk' : tk k = false ∧ k ≠ c := by simpa using htk
    exact i5 k hk htk'.1 htk'.2 hw
  · by_cases q : k = c
    · rw [q, i1]; exact Nat.le_refl _
    · have htk' : tk k = true := by simpa [q] using htk
      exact i6 k hk htk'
theorem qG_fin (hc : cdIs cd hl f) {B : Nat} : ∀ {n : Nat} {s : T4} {tk : Nat → Bool} {cu : Nat}, dqI hl f l0 B tk cu s → 36 ≤ n + cnt tk 36 → grt hl f l0 (qG cd n s).1 ∧ ∀ k, k < 36 → (qG cd n s).2.1 k = 0
  | n, s, tk, cu, h, hn => by
    have fin : (∀ k, k < 36 → s.2.1 k = 0) → grt hl f l0 s.1 := fun hw => by
      obtain ⟨h1, h2, h3, h4, h5, h6, h7⟩ := h
      refine ⟨h7, fun k d o hk hd ho hlk => ?_, h6⟩
      have ho36 := nb_lt hk ho
      obtain ⟨d2, hd2, hn2⟩ := nb_sym hk hd ho
      cases ht : tk o with
      | true => exact h2 o d2 k ho36 hd2 ht hn2 hlk
      | false =>
        rw [h3 o ho36 ht (hw o ho36)]
        exact Nat.le_trans (h5 k hk) (hc.2.2 k o B)
    match n with
    | 0 =>
      rw [qG_z]
      have hall := cnt_all (p := tk) (n := 36) (by omega)
      have hw : ∀ k, k < 36 → s.2.1 k = 0 := fun k hk => Classical.byContradiction (fun q => by have := (h.1 k hk q).2.1; rw [hall k hk] at this; cases this)
      exact ⟨fin hw, hw⟩
    | n + 1 =>
      rw [qG_s]
      cases hq : qmin s.2.1 s.2.2 36 with
      | none => exact ⟨fin (qmin_none hq), qmin_none hq⟩
      | some c =>
        obtain ⟨i1, i2⟩ := dq_take hc h hq
        refine qG_fin hc (n := n) i1 ?_
        have hcnt := cnt_one (p := tk) (q := fun k => tk k || decide (k = c)) (qmin_lt hq) i2 (by simp) (fun j hj hne => by simp [hne])
        omega
end
