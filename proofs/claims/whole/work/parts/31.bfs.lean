/-! A FLOOD FROM A SET: what it reaches is the least closed set -/
theorem cnt_lt {p : Nat → Bool} {k : Nat} : ∀ {n : Nat}, k < n → p k = false → cnt p n < n
  | 0, h, _ => absurd h (Nat.not_lt_zero _)
  | n + 1, h, hp => by
    have h1 := cnt_le p n
    by_cases q : k = n
    · subst q; rw [cnt_n hp]; omega
    · have h2 := cnt_lt (p := p) (n := n) (by omega) hp
      simp only [cnt]; split <;> omega
theorem cnt_one {p q : Nat → Bool} {k : Nat} : ∀ {n : Nat}, k < n → p k = false → q k = true → (∀ j, j < n → j ≠ k → q j = p j) → cnt q n = cnt p n + 1
  | 0, h, _, _, _ => absurd h (Nat.not_lt_zero _)
  | n + 1, h, hp, hq, he => by
    by_cases r : k = n
    · subst r
      rw [cnt_n hp, cnt_y hq, cnt_cong (p := q) (q := p) (fun j hj => he j (by omega) (by omega))]
    · have h2 := cnt_one (n := n) (by omega) hp hq (fun j hj hne => he j (by omega) hne)
      simp only [cnt]; rw [h2, he n (by omega) (by omega)]; omega
theorem cnt_0 (n : Nat) : cnt (fun _ => false) n = 0 := by
  induction n with
  | zero => rfl
  | succ n ih => simp [cnt, ih]
def clo (ok : Nat → Nat → Bool) (S : Nat → Prop) : Prop := ∀ c d k, c < 36 → d < 4 → S c → nb c d = some k → ok c k = true → S k
abbrev on1 (f : Nat → Nat) : Nat → Bool := fun k => decide (f k = 1)
/-- the state of a flood: old cells, and its own in the order of the row; the first t are done -/
def fiv (ok : Nat → Nat → Bool) (old : Nat → Nat) (s : T3) (t : Nat) : Prop :=
  flOk s ∧ t ≤ s.2.2 ∧ (∀ j, j < s.2.2 → s.1 (s.2.1 j) = 1) ∧ cnt (on1 s.1) 36 = s.2.2 + cnt (on1 old) 36 ∧ (∀ k, k < 36 → s.1 k = 1 → old k = 1 ∨ ∃ j, j < s.2.2 ∧ s.2.1 j = k) ∧ (∀ j, j < t → ∀ d k, d < 4 → nb (s.2.1 j) d = some k → ok (s.2.1 j) k = true → s.1 k = 1) ∧ ∀ k, k < 36 → old k = 1 → s.1 k = 1
theorem flR_old {s : T3} {k : Nat} (h : s.1 k = 1) : flR s k = s := by
  unfold flR
  rw [if_neg (by omega), if_neg (by omega), if_neg (by omega)]
theorem flR_new {s : T3} {k : Nat} (h : s.1 k = 0) (hr : s.2.2 < 36) : flR s k = (va_up s.1 k 1, va_up s.2.1 s.2.2 k, s.2.2 + 1) := by
  unfold flR
  rw [if_pos ⟨h, hr⟩, if_pos ⟨h, hr⟩, if_pos ⟨h, hr⟩]
theorem fiv_room {ok : Nat → Nat → Bool} {old : Nat → Nat} {s : T3} {t k : Nat} (h : fiv ok old s t) (hk : k < 36) (h0 : s.1 k = 0) : s.2.2 < 36 := by
  have h1 := cnt_lt (p := on1 s.1) hk (by simp [h0])
  have h2 := h.2.2.2.1
  omega
/-- what a step of a flood leaves -/
def fst6 (s s' : T3) : Prop := (∀ x, s.1 x = 1 → s'.1 x = 1) ∧ (∀ j, j < s.2.2 → s'.2.1 j = s.2.1 j) ∧ s.2.2 ≤ s'.2.2
theorem fst6.rf (s : T3) : fst6 s s := ⟨fun _ h => h, fun _ _ => rfl, Nat.le_refl _⟩
theorem fst6.tr {s s1 s2 : T3} (h : fst6 s s1) (h1 : fst6 s1 s2) : fst6 s s2 := ⟨fun x q => h1.1 x (h.1 x q), fun j hj => (h1.2.1 j (Nat.lt_of_lt_of_le hj h.2.2)).trans (h.2.1 j hj), Nat.le_trans h.2.2 h1.2.2⟩
theorem flR_fiv {ok : Nat → Nat → Bool} {old : Nat → Nat} {s : T3} {t k : Nat} (h : fiv ok old s t) (hk : k < 36) : fiv ok old (flR s k) t ∧ fst6 s (flR s k) ∧ (flR s k).1 k = 1 ∧ ∀ x, (flR s k).1 x = 1 → s.1 x = 1 ∨ x = k := by
  obtain ⟨h1, h2, h3, h4, h5, h6, h7⟩ := h
  have hk1 := h1.2.2 k hk
  by_cases q : s.1 k = 1
  · rw [flR_old q]
    exact ⟨⟨h1, h2, h3, h4, h5, h6, h7⟩, fst6.rf s, q, fun x hx => Or.inl hx⟩
  · have q0 : s.1 k = 0 := by omega
    have hr := fiv_room ⟨h1, h2, h3, h4, h5, h6, h7⟩ hk q0
    have hok := flR_ok h1 hk
    rw [flR_new q0 hr] at hok ⊢
    have hmono : ∀ x, s.1 x = 1 → va_up s.1 k 1 x = 1 := fun x hx => by
      by_cases r : x = k
      · rw [r, va_up_self]
      · rw [va_up_ne _ _ r]; exact hx
    have hce : ∀ j, j < s.2.2 → va_up s.2.1 s.2.2 k j = s.2.1 j := fun j hj => va_up_ne _ _ (by omega)
    refine ⟨⟨hok, by show t ≤ s.2.2 + 1; omega, fun j hj => ?_, ?_, fun x hx hx1 => ?_, fun j hj d x hd hn ho => ?_, fun x hx ho => hmono x (h7 x hx ho)⟩, ⟨hmono, hce, Nat.le_succ _⟩, va_up_self _ _ _, fun x hx => ?_⟩
    · show va_up s.1 k 1 (va_up s.2.1 s.2.2 k j) = 1
      by_cases r : j = s.2.2
      · rw [r, va_up_self, va_up_self]
      · have hj' : j < s.2.2 := by have : j < s.2.2 + 1 := hj; omega
        rw [hce j hj']; exact hmono _ (h3 j hj')
    · show cnt (on1 (va_up s.1 k 1)) 36 = s.2.2 + 1 + _
      rw [cnt_one (p := on1 s.1) hk (by simp [q0]) (by simp [va_up_self]) (fun j hj hne => by simp only [on1]; rw [va_up_ne _ _ hne]), h4]
      omega
    · have hx1' : va_up s.1 k 1 x = 1 := hx1
      by_cases r : x = k
      · exact Or.inr ⟨s.2.2, Nat.lt_succ_self _, by show va_up s.2.1 s.2.2 k s.2.2 = x; rw [va_up_self, r]⟩
      · rw [va_up_ne _ _ r] at hx1'
        rcases h5 x hx hx1' with o | ⟨j, hj, e⟩
        · exact Or.inl o
        · exact Or.inr ⟨j, Nat.lt_succ_of_lt hj, by show va_up s.2.1 s.2.2 k j = x; rw [hce j hj, e]⟩
    · have hj' : j < s.2.2 := by omega
      have e := hce j hj'
      have hn' : nb (s.2.1 j) d = some x := by rw [← e]; exact hn
      have ho' : ok (s.2.1 j) x = true := by rw [← e]; exact ho
      exact hmono x (h6 j hj d x hd hn' ho')
    · have hx' : va_up s.1 k 1 x = 1 := hx
      by_cases r : x = k
      · exact Or.inr r
      · rw [va_up_ne _ _ r] at hx'; exact Or.inl hx'
theorem flD_fiv {ok : Nat → Nat → Bool} {old : Nat → Nat} {s : T3} {t c : Nat} (h : fiv ok old s t) (hc : c < 36) : ∀ d, fiv ok old (flD ok c d s) t ∧ fst6 s (flD ok c d s) ∧ (∀ e k, e < d → nb c e = some k → ok c k = true → (flD ok c d s).1 k = 1) ∧ ∀ x, (flD ok c d s).1 x = 1 → s.1 x = 1 ∨ ∃ e, e < d ∧ nb c e = some x ∧ ok c x = true
  | 0 => ⟨h, fst6.rf s, fun e k he => absurd he (Nat.not_lt_zero _), fun x hx => Or.inl hx⟩
  | d + 1 => by
    obtain ⟨i1, i2, i3, i4⟩ := flD_fiv h hc d
    cases hn : nb c d with
    | none =>
      have e : flD ok c (d + 1) s = flD ok c d s := by simp only [flD, hn]
      rw [e]
      refine ⟨i1, i2, fun f k hf hk ho => ?_, fun x hx => ?_⟩
      · by_cases r : f = d
        · rw [r, hn] at hk; cases hk
        · exact i3 f k (by omega) hk ho
      · rcases i4 x hx with o | ⟨f, hf, o⟩
        · exact Or.inl o
        · exact Or.inr ⟨f, by omega, o⟩
    | some k =>
      by_cases hok : ok c k = true
      · have e : flD ok c (d + 1) s = flR (flD ok c d s) k := by simp only [flD, hn]; rw [if_pos hok]
        rw [e]
        obtain ⟨j1, j2, j3, j4⟩ := flR_fiv i1 (nb_lt hc hn)
        refine ⟨j1, i2.tr j2, fun f x hf hk ho => ?_, fun x hx => ?_⟩
        · by_cases r : f = d
          · rw [r, hn] at hk; cases hk; exact j3
          · exact j2.1 x (i3 f x (by omega) hk ho)
        · rcases j4 x hx with o | o
          · rcases i4 x o with o | ⟨f, hf, o⟩
            · exact Or.inl o
            · exact Or.inr ⟨f, by omega, o⟩
          · exact Or.inr ⟨d, by omega, by rw [o]; exact hn, by rw [o]; exact hok⟩
      · have e : flD ok c (d + 1) s = flD ok c d s := by simp only [flD, hn]; rw [if_neg hok]
        rw [e]
        refine ⟨i1, i2, fun f x hf hk ho => ?_, fun x hx => ?_⟩
        · by_cases r : f = d
          · rw [r, hn] at hk; cases hk; exact absurd ho hok
          · exact i3 f x (by omega) hk ho
        · rcases i4 x hx with o | ⟨f, hf, o⟩
          · exact Or.inl o
          · exact Or.inr ⟨f, by omega, o⟩
theorem bfs_all {ok : Nat → Nat → Bool} {old : Nat → Nat} : ∀ {n : Nat} {s : T3 × Nat}, fiv ok old s.1 s.2 → 36 - s.2 ≤ n → fiv ok old (bfsG ok n s).1 (bfsG ok n s).2 ∧ (bfsG ok n s).2 = (bfsG ok n s).1.2.2 ∧ fst6 s.1 (bfsG ok n s).1 ∧ ∀ S : Nat → Prop, clo ok S → (∀ x, x < 36 → s.1.1 x = 1 → S x) → ∀ x, x < 36 → (bfsG ok n s).1.1 x = 1 → S x
  | 0, s, h, hn => by
    rw [bfsG_z]
    have h1 := h.1.2.1
    have h2 := h.2.1
    exact ⟨h, by omega, fst6.rf _, fun S _ hS => hS⟩
  | n + 1, s, h, hn => by
    rw [bfsG_s]
    have h1 := h.1.2.1
    have h2 := h.2.1
    by_cases q : s.2 < s.1.2.2
    · rw [if_pos q]
      have hc := h.1.1 s.2 q
      obtain ⟨i1, i2, i3, i4⟩ := flD_fiv h hc 4
      have hs : fiv ok old (flD ok (s.1.2.1 s.2) 4 s.1) (s.2 + 1) := by
        obtain ⟨g1, g2, g3, g4, g5, g6, g7⟩ := i1
        refine ⟨g1, Nat.lt_of_lt_of_le q i2.2.2, g3, g4, g5, fun j hj d x hd hx ho => ?_, g7⟩
        by_cases r : j = s.2
        · rw [r, i2.2.1 s.2 q] at hx ho
          exact i3 d x hd hx ho
        · exact g6 j (by omega) d x hd hx ho
      obtain ⟨k1, k2, k3, k4⟩ := bfs_all (n := n) (s := (flD ok (s.1.2.1 s.2) 4 s.1, s.2 + 1)) hs (by show 36 - (s.2 + 1) ≤ n; omega)
      refine ⟨k1, k2, i2.tr k3, fun S hS h0 => k4 S hS (fun x hx hx1 => ?_)⟩
      rcases i4 x hx1 with o | ⟨e, he, o1, o2⟩
      · exact h0 x hx o
      · exact hS _ e x hc he (h0 _ hc (h.2.2.1 s.2 q)) o1 o2
    · rw [if_neg q]
      exact ⟨h, by omega, fst6.rf _, fun S _ hS => hS⟩
/-- a whole flood: it is closed where the old cells were -/
theorem bfs_clo {ok : Nat → Nat → Bool} {old : Nat → Nat} {s : T3} {t : Nat} (h : fiv ok old s t) (ht : t = s.2.2) (ho : clo ok (fun x => old x = 1)) : clo ok (fun x => s.1 x = 1) := by
  intro c d k hc hd hs hn hok
  rcases h.2.2.2.2.1 c hc hs with o | ⟨j, hj, e⟩
  · exact h.2.2.2.2.2.2 k (nb_lt hc hn) (ho c d k hc hd o hn hok)
  · subst e
    exact h.2.2.2.2.2.1 j (by omega) d k hd hn hok
theorem fiv_0 {ok : Nat → Nat → Bool} {re ce : Nat → Nat} : fiv ok (fun _ => 0) (fil 36 (fun _ => 0) re, ce, 0) 0 := by
  have h0 : ∀ k, k < 36 → fil 36 (fun _ => 0) re k = 0 := fun k hk => fil_in hk
  refine ⟨⟨fun j hj => absurd hj (Nat.not_lt_zero _), Nat.zero_le _, fun k hk => ?_⟩, Nat.le_refl _, fun j hj => absurd hj (Nat.not_lt_zero _), ?_, fun k hk h1 => ?_, fun j hj => absurd hj (Nat.not_lt_zero _), fun k hk h1 => ?_⟩
  · show fil 36 (fun _ => 0) re k ≤ 1
    rw [h0 k hk]; exact Nat.zero_le _
  · show cnt (on1 (fil 36 (fun _ => 0) re)) 36 = 0 + cnt (on1 fun _ => 0) 36
    rw [cnt_cong (p := on1 (fil 36 (fun _ => 0) re)) (q := on1 fun _ => 0) (fun k hk => by simp only [on1]; rw [h0 k hk]), Nat.zero_add]
  · have h1' : fil 36 (fun _ => 0) re k = 1 := h1
    rw [h0 k hk] at h1'; cases h1'
  · have h1' : (0 : Nat) = 1 := h1
    cases h1'
/-- b is reached from a -/
def Rch (ok : Nat → Nat → Bool) (a b : Nat) : Prop := ∀ S : Nat → Prop, clo ok S → S a → S b
theorem Rch.rf {ok : Nat → Nat → Bool} (a : Nat) : Rch ok a a := fun _ _ h => h
theorem Rch.tr {ok : Nat → Nat → Bool} {a b c : Nat} (h : Rch ok a b) (h1 : Rch ok b c) : Rch ok a c := fun S hS ha => h1 S hS (h S hS ha)
theorem Rch.st {ok : Nat → Nat → Bool} {a d k : Nat} (ha : a < 36) (hd : d < 4) (hn : nb a d = some k) (ho : ok a k = true) : Rch ok a k := fun _ hS h => hS a d k ha hd h hn ho
abbrev flF (ok : Nat → Nat → Bool) (re ce : Nat → Nat) (a : Nat) : T3 × Nat := bfsG ok 36 (flR (fil 36 (fun _ => 0) re, ce, 0) a, 0)
theorem flF_fiv {ok : Nat → Nat → Bool} {re ce : Nat → Nat} {a : Nat} (ha : a < 36) : fiv ok (fun _ => 0) (flF ok re ce a).1 (flF ok re ce a).2 ∧ (flF ok re ce a).2 = (flF ok re ce a).1.2.2 ∧ ∀ b, b < 36 → ((flF ok re ce a).1.1 b = 1 ↔ Rch ok a b) := by
  obtain ⟨i1, i2, i3, i4⟩ := flR_fiv (fiv_0 (ok := ok) (re := re) (ce := ce)) ha
  obtain ⟨j1, j2, j3, j4⟩ := bfs_all (n := 36) (s := (flR (fil 36 (fun _ => 0) re, ce, 0) a, 0)) i1 (Nat.le_refl _)
  refine ⟨j1, j2, fun b hb => ⟨fun h S hS hSa => ?_, fun h => ?_⟩⟩
  · refine j4 S hS (fun x hx hx1 => ?_) b hb h
    rcases i4 x hx1 with o | o
    · have o' : fil 36 (fun _ => 0) re x = 1 := o
      rw [fil_in hx] at o'; cases o'
    · rw [o]; exact hSa
  · exact h _ (bfs_clo j1 j2 (fun c d k _ _ h0 _ _ => by cases h0)) (j3.1 a i3)
def ldB (ok : Nat → Nat → Bool) (a b : Nat) : Bool := decide ((flF ok (fun _ => 0) (fun _ => 0) a).1.1 b = 1)
theorem ldB_iff {ok : Nat → Nat → Bool} {a b : Nat} (ha : a < 36) (hb : b < 36) : ldB ok a b = true ↔ Rch ok a b := by
  unfold ldB
  rw [decide_eq_true_iff]
  exact (flF_fiv ha).2.2 b hb
theorem ldB_at {ok : Nat → Nat → Bool} {re ce : Nat → Nat} {a b : Nat} (ha : a < 36) (hb : b < 36) : nI ((flF ok re ce a).1.1 b) = bI (ldB ok a b) := by
  obtain ⟨h1, h2, h3⟩ := flF_fiv (ok := ok) (re := re) (ce := ce) ha
  have h4 := h1.1.2.2 b hb
  have h5 := ldB_iff (ok := ok) ha hb
  cases q : ldB ok a b with
  | true => rw [(h3 b hb).mpr (h5.mp q)]; rfl
  | false =>
    have h6 : ¬ (flF ok re ce a).1.1 b = 1 := fun e => by rw [h5.mpr ((h3 b hb).mp e)] at q; cases q
    rw [show (flF ok re ce a).1.1 b = 0 by omega]; rfl
