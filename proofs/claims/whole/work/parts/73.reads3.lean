/-! RANKS, ISLANDS, LEVELS AND ROUTES, AS THE MODEL HAS THEM -/
def bef (ht : Nat → Nat) (o k : Nat) : Bool := decide (ht k < ht o) || (decide (ht o = ht k) && decide (o < k))
theorem bef_iff {ht : Nat → Nat} {o k : Nat} : bef ht o k = true ↔ ht k < ht o ∨ (ht o = ht k ∧ o < k) := by
  unfold bef; simp
theorem bef_no {ht : Nat → Nat} {o k : Nat} : bef ht o k = false ↔ ¬ (ht k < ht o ∨ (ht o = ht k ∧ o < k)) := by
  rw [← bef_iff]; simp
theorem bef_self {ht : Nat → Nat} {k : Nat} : bef ht k k = false := bef_no.mpr (by omega)
theorem bef_tr {ht : Nat → Nat} {a c k : Nat} (h : bef ht a c = true) (g : bef ht c k = true) : bef ht a k = true := by
  rw [bef_iff] at h g ⊢; omega
abbrev rkC (ht : Nat → Nat) (n k : Nat) : Nat := cnt (fun o => bef ht o k) n
theorem rkC_lt {ht : Nat → Nat} {n o k : Nat} (ho : o < n) (h : bef ht o k = true) : rkC ht n o < rkC ht n k := by
  have : rkC ht n o + 1 ≤ rkC ht n k := cnt_more (p := fun x => bef ht x o) (q := fun x => bef ht x k) (k := o) (n := n) (fun j _ q => bef_tr q h) ho bef_self h
  omega
theorem rkC_inj {ht : Nat → Nat} {n o k : Nat} (ho : o < n) (hk : k < n) (h : rkC ht n o = rkC ht n k) : o = k := by
  by_cases q : o = k
  · exact q
  · by_cases z : bef ht o k = true
    · have := rkC_lt ho z; omega
    · have z2 : bef ht k o = true := by
        rw [bef_iff] at z ⊢; omega
      have := rkC_lt hk z2; omega
theorem insN_at {ht : Nat → Nat} {c P : Nat} : ∀ (p : Nat) (rk : Nat → Nat), P ≤ p → (∀ j, P ≤ j → j < p → ht (rk j) < ht c) → (∀ j, j < P → ¬ ht (rk j) < ht c) → ∀ j, insN ht c p rk j = if j < P then rk j else if j = P then c else if j ≤ p then rk (j - 1) else rk j
  | 0, rk, hP, h1, h2, j => by
    have e : P = 0 := by omega
    subst e
    simp only [insN]
    rw [if_neg (by omega)]
    by_cases q : j = 0
    · rw [if_pos q, q, va_up_self]
    · rw [if_neg q, if_neg (by omega), va_up_ne _ _ q]
  | p + 1, rk, hP, h1, h2, j => by
    simp only [insN]
    by_cases z : P = p + 1
    · subst z
      rw [if_neg (h2 p (by omega))]
      by_cases q : j = p + 1
      · rw [q, va_up_self, if_neg (by omega), if_pos rfl]
      · rw [va_up_ne _ _ q]
        by_cases y : j < p + 1
        · rw [if_pos y]
        · rw [if_neg y, if_neg q, if_neg (by omega)]
    · rw [if_pos (h1 p (by omega) (by omega))]
      have hne : ∀ i, i ≠ p + 1 → va_up rk (p + 1) (rk p) i = rk i := fun i hi => va_up_ne _ _ hi
      rw [insN_at (P := P) p (va_up rk (p + 1) (rk p)) (by omega) (fun i hi hip => by rw [hne i (by omega)]; exact h1 i hi (by omega)) (fun i hi => by rw [hne i (by omega)]; exact h2 i hi) j]
      by_cases y : j < P
      · rw [if_pos y, if_pos y, hne j (by omega)]
      · rw [if_neg y, if_neg y]
        by_cases q : j = P
        · rw [if_pos q, if_pos q]
        · rw [if_neg q, if_neg q]
          by_cases x : j ≤ p
          · rw [if_pos x, if_pos (by omega), hne _ (by omega)]
          · rw [if_neg x]
            by_cases v : j = p + 1
            · subst v; rw [if_pos (Nat.le_refl _), va_up_self]; rfl
            · rw [if_neg (by omega), hne j v]
theorem rankN_rk {ht rk : Nat → Nat} : ∀ (n i : Nat), i < n → rankN ht rk n i < n ∧ rkC ht n (rankN ht rk n i) = i
  | 0, i, h => absurd h (Nat.not_lt_zero _)
  | n + 1, i, h => by
    have ih := fun j hj => rankN_rk (ht := ht) (rk := rk) n j hj
    obtain ⟨R, hR⟩ : ∃ z, z = rankN ht rk n := ⟨_, rfl⟩
    rw [← hR] at ih
    obtain ⟨P, hPe⟩ : ∃ z, z = rkC ht n n := ⟨_, rfl⟩
    have hPn : P ≤ n := by rw [hPe]; exact cnt_le _ _
    have hlo : ∀ j, j < n → ¬ ht (R j) < ht n → j < P := fun j hj q => by
      have hb : bef ht (R j) n = true := bef_iff.mpr (by have := (ih j hj).1; omega)
      have := rkC_lt (ht := ht) (n := n) (ih j hj).1 hb
      rw [(ih j hj).2, ← hPe] at this; exact this
    have hhi : ∀ j, j < n → ht (R j) < ht n → P ≤ j := fun j hj q => by
      have := cnt_mono (p := fun o => bef ht o n) (q := fun o => bef ht o (R j)) (n := n) (fun o ho z => bef_iff.mpr (by have := bef_iff.mp z; omega))
      rw [show cnt (fun o => bef ht o (R j)) n = j from (ih j hj).2] at this
      rw [hPe]; exact this
    have hat := insN_at (ht := ht) (c := n) (P := P) n R hPn (fun j h1 h2 => by
      by_cases q : ht (R j) < ht n
      · exact q
      · have := hlo j h2 q; omega) (fun j hj q => by have := hhi j (by omega) q; omega) i
    have hs : rankN ht rk (n + 1) i = insN ht n n R i := by rw [hR]; rfl
    rw [hs, hat]
    by_cases q : i < P
    · rw [if_pos q]
      obtain ⟨a, b⟩ := ih i (by omega)
      refine ⟨by omega, ?_⟩
      have hb : bef ht n (R i) = false := bef_no.mpr (fun z => by
        have : ¬ ht (R i) < ht n := fun y => by have := hhi i (by omega) y; omega
        omega)
      show cnt _ (n + 1) = i
      rw [cnt_n (p := fun o => bef ht o (R i)) hb]; exact b
    · rw [if_neg q]
      by_cases q2 : i = P
      · rw [if_pos q2]
        refine ⟨by omega, ?_⟩
        show cnt _ (n + 1) = i
        rw [cnt_n (p := fun o => bef ht o n) bef_self, q2]; exact hPe.symm
      · rw [if_neg q2, if_pos (by omega)]
        obtain ⟨a, b⟩ := ih (i - 1) (by omega)
        refine ⟨by omega, ?_⟩
        have hh : ht (R (i - 1)) < ht n := by
          by_cases z : ht (R (i - 1)) < ht n
          · exact z
          · have := hlo (i - 1) (by omega) z; omega
        have hb : bef ht n (R (i - 1)) = true := bef_iff.mpr (Or.inl hh)
        show cnt _ (n + 1) = i
        rw [cnt_y (p := fun o => bef ht o (R (i - 1))) hb]
        show rkC ht n (R (i - 1)) + 1 = i
        rw [b]; omega
/-! islands -/
abbrev isOk (ht : Nat → Nat) (lv : Nat) : Nat → Nat → Bool := fun _ k => decide (lv ≤ ht k)
def repB (ht : Nat → Nat) (lv k : Nat) : Bool := decide (lv ≤ ht k) && (fstN (fun j => decide (lv ≤ ht j) && ldB (isOk ht lv) j k) k).isNone
def mI (ht : Nat → Nat) (lv : Nat) (mk : Nat → Nat) (n : Nat) : Prop := (∀ x, x < 36 → mk x ≤ 1) ∧ ∀ x, x < 36 → (mk x = 1 ↔ ∃ j, j < n ∧ lv ≤ ht j ∧ Rch (isOk ht lv) j x)
theorem repB_no {ht : Nat → Nat} {lv k : Nat} (hk : k < 36) (h : ht k < lv ∨ ∃ j, j < k ∧ lv ≤ ht j ∧ Rch (isOk ht lv) j k) : repB ht lv k = false := by
  unfold repB
  rcases h with h | ⟨j, h1, h2, h3⟩
  · rw [decide_eq_false (by omega)]; rfl
  · cases q : fstN (fun j => decide (lv ≤ ht j) && ldB (isOk ht lv) j k) k with
    | none =>
      have := fstN_none.mp q j h1
      rw [decide_eq_true h2, (ldB_iff (by omega) hk).mpr h3] at this
      cases this
    | some a => rw [Bool.and_comm]; rfl
theorem repB_yes {ht : Nat → Nat} {lv k : Nat} (hk : k < 36) (h : lv ≤ ht k) (h2 : ¬ ∃ j, j < k ∧ lv ≤ ht j ∧ Rch (isOk ht lv) j k) : repB ht lv k = true := by
  unfold repB
  rw [decide_eq_true h, fstN_none.mpr (fun j hj => by
    cases q : (decide (lv ≤ ht j) && ldB (isOk ht lv) j k) with
    | false => rfl
    | true =>
      obtain ⟨a, c⟩ := Bool.and_eq_true_iff.mp q
      exact absurd ⟨j, hj, of_decide_eq_true a, (ldB_iff (by omega) hk).mp c⟩ h2)]
  rfl
theorem mI_0 {ht : Nat → Nat} {lv : Nat} {mk : Nat → Nat} (h : ∀ x, x < 36 → mk x = 0) : mI ht lv mk 0 := ⟨fun x hx => by rw [h x hx]; exact Nat.zero_le _, fun x hx => by
  rw [h x hx]
  constructor
  · intro q; cases q
  · rintro ⟨j, hj, -⟩; exact absurd hj (Nat.not_lt_zero _)⟩
theorem mI_no {ht : Nat → Nat} {lv k : Nat} {mk : Nat → Nat} (h : mI ht lv mk k) (hk : k < 36) (hn : ht k < lv ∨ mk k = 1) : mI ht lv mk (k + 1) ∧ repB ht lv k = false := by
  refine ⟨⟨h.1, fun x hx => ?_⟩, repB_no hk ?_⟩
  · rw [h.2 x hx]
    constructor
    · rintro ⟨j, h1, h2, h3⟩; exact ⟨j, by omega, h2, h3⟩
    · rintro ⟨j, h1, h2, h3⟩
      by_cases q : j < k
      · exact ⟨j, q, h2, h3⟩
      · have e : j = k := by omega
        subst e
        rcases hn with hn | hn
        · omega
        · obtain ⟨i, g1, g2, g3⟩ := (h.2 j hk).mp hn
          exact ⟨i, g1, g2, g3.tr h3⟩
  · rcases hn with hn | hn
    · exact Or.inl hn
    · exact Or.inr ((h.2 k hk).mp hn)
theorem mI_clo {ht : Nat → Nat} {lv k : Nat} {mk : Nat → Nat} (h : mI ht lv mk k) : clo (isOk ht lv) (fun x => mk x = 1) := fun c d x hc hd hs hn ho => by
  obtain ⟨j, h1, h2, h3⟩ := (h.2 c hc).mp hs
  exact (h.2 x (nb_lt hc hn)).mpr ⟨j, h1, h2, h3.tr (Rch.st hc hd hn ho)⟩
/-- a flood from a cell that isn't marked -/
theorem fl_step {ok : Nat → Nat → Bool} {old : Nat → Nat} {s : T3} {t n : Nat} (h : fiv ok old s t) (ht : t = s.2.2) (ho : clo ok (fun x => old x = 1)) (hs : clo ok (fun x => s.1 x = 1)) (hn : n < 36) : fiv ok old (bfsG ok 36 (flR s n, t)).1 (bfsG ok 36 (flR s n, t)).2 ∧ (bfsG ok 36 (flR s n, t)).2 = (bfsG ok 36 (flR s n, t)).1.2.2 ∧ ∀ x, x < 36 → ((bfsG ok 36 (flR s n, t)).1.1 x = 1 ↔ s.1 x = 1 ∨ Rch ok n x) := by
  obtain ⟨i1, i2, i3, i4⟩ := flR_fiv h hn
  obtain ⟨j1, j2, j3, j4⟩ := bfs_all (n := 36) (s := (flR s n, t)) i1 (by show 36 - t ≤ 36; omega)
  refine ⟨j1, j2, fun x hx => ⟨fun q => ?_, fun q => ?_⟩⟩
  · refine j4 (fun y => s.1 y = 1 ∨ Rch ok n y) (fun c d k hc hd hsc hnb hok => ?_) (fun y hy q2 => ?_) x hx q
    · rcases hsc with hsc | hsc
      · exact Or.inl (hs c d k hc hd hsc hnb hok)
      · exact Or.inr (hsc.tr (Rch.st hc hd hnb hok))
    · rcases i4 y q2 with o | o
      · exact Or.inl o
      · rw [o]; exact Or.inr (Rch.rf n)
  · rcases q with q | q
    · exact j3.1 x (i2.1 x q)
    · exact q (fun y => (bfsG ok 36 (flR s n, t)).1.1 y = 1) (bfs_clo j1 j2 ho) (j3.1 n i3)
theorem mI_yes {ht : Nat → Nat} {lv k : Nat} {mk mk2 : Nat → Nat} (h : mI ht lv mk k) (hk : k < 36) (h1 : lv ≤ ht k) (h0 : mk k ≠ 1) (hle : ∀ x, x < 36 → mk2 x ≤ 1) (hm : ∀ x, x < 36 → (mk2 x = 1 ↔ mk x = 1 ∨ Rch (isOk ht lv) k x)) : mI ht lv mk2 (k + 1) ∧ repB ht lv k = true := by
  refine ⟨⟨hle, fun x hx => ?_⟩, repB_yes hk h1 (fun q => h0 ((h.2 k hk).mpr q))⟩
  rw [hm x hx, h.2 x hx]
  constructor
  · rintro (⟨j, g1, g2, g3⟩ | g)
    · exact ⟨j, by omega, g2, g3⟩
    · exact ⟨k, by omega, h1, g⟩
  · rintro ⟨j, g1, g2, g3⟩
    by_cases q : j < k
    · exact Or.inl ⟨j, q, g2, g3⟩
    · have e : j = k := by omega
      subst e; exact Or.inr g3
/-- the class's floods count the same -/
theorem ifN_rep {ht : Nat → Nat} {lv : Nat} {re ce : Nat → Nat} : ∀ n, n ≤ 36 → fiv (isOk ht lv) (fun _ => 0) (ifN ht lv ((fil 36 (fun _ => 0) re, ce, 0), 0) n).1.1 (ifN ht lv ((fil 36 (fun _ => 0) re, ce, 0), 0) n).1.2 ∧ (ifN ht lv ((fil 36 (fun _ => 0) re, ce, 0), 0) n).1.2 = (ifN ht lv ((fil 36 (fun _ => 0) re, ce, 0), 0) n).1.1.2.2 ∧ mI ht lv (ifN ht lv ((fil 36 (fun _ => 0) re, ce, 0), 0) n).1.1.1 n ∧ (ifN ht lv ((fil 36 (fun _ => 0) re, ce, 0), 0) n).2 = cnt (repB ht lv) n
  | 0, _ => ⟨fiv_0, rfl, mI_0 (fun x hx => show fil 36 (fun _ => 0) re x = 0 from fil_in hx), rfl⟩
  | n + 1, hn => by
    obtain ⟨h1, h2, h3, h4⟩ := ifN_rep (ht := ht) (lv := lv) (re := re) (ce := ce) n (by omega)
    obtain ⟨X, hX⟩ : ∃ z, z = ifN ht lv ((fil 36 (fun _ => 0) re, ce, 0), 0) n := ⟨_, rfl⟩
    have hs : ifN ht lv ((fil 36 (fun _ => 0) re, ce, 0), 0) (n + 1) = if ht n < lv then X else if X.1.1.1 n = 0 then (bfsG (isOk ht lv) 36 (flR X.1.1 n, X.1.2), X.2 + 1) else X := by rw [hX]; rfl
    rw [← hX] at h1 h2 h3 h4
    rw [hs]
    by_cases q : ht n < lv
    · rw [if_pos q]
      obtain ⟨a, c⟩ := mI_no h3 (by omega) (Or.inl q)
      exact ⟨h1, h2, a, by rw [h4, cnt_n c]⟩
    · rw [if_neg q]
      by_cases q2 : X.1.1.1 n = 0
      · rw [if_pos q2]
        obtain ⟨g1, g2, g3⟩ := fl_step h1 h2 (fun c d k _ _ h0 _ _ => by cases h0) (mI_clo h3) (show n < 36 by omega)
        obtain ⟨a, c⟩ := mI_yes h3 (by omega) (by omega) (by omega) g1.1.2.2 g3
        exact ⟨g1, g2, a, by show X.2 + 1 = _; rw [h4, cnt_y c]⟩
      · rw [if_neg q2]
        have := h3.1 n (by omega)
        obtain ⟨a, c⟩ := mI_no h3 (by omega) (Or.inr (by omega))
        exact ⟨h1, h2, a, by rw [h4, cnt_n c]⟩
theorem fiv_new {ok : Nat → Nat → Bool} {mk td : Nat → Nat} (h : ∀ x, x < 36 → mk x ≤ 1) : fiv ok mk (mk, td, 0) 0 := by
  refine ⟨⟨fun j hj => absurd hj (Nat.not_lt_zero _), Nat.zero_le _, h⟩, Nat.le_refl _, fun j hj => absurd hj (Nat.not_lt_zero _), ?_, fun k hk h1 => Or.inl h1, fun j hj => absurd hj (Nat.not_lt_zero _), fun k hk h1 => h1⟩
  show cnt (on1 mk) 36 = 0 + cnt (on1 mk) 36
  omega
theorem bfsG_end {ok : Nat → Nat → Bool} {n : Nat} {s : T3 × Nat} (h : s.1.2.2 ≤ s.2) : bfsG ok n s = s := by
  cases n with
  | zero => rfl
  | succ n => simp only [bfsG]; rw [if_neg (by omega)]
theorem bfsG_step {ok : Nat → Nat → Bool} {n t : Nat} {s : T3} (h : t < s.2.2) : bfsG ok (n + 1) (s, t) = bfsG ok n (flD ok (s.2.1 t) 4 s, t + 1) := by
  simp only [bfsG]
  rw [if_pos h]
/-! levels -/
def exM (ht wr : Nat → Nat) (k : Nat) : Nat := if (k / 6 = 0 ∨ k / 6 = 5 ∨ k % 6 = 0 ∨ k % 6 = 5) ∨ 3 ≤ wr k then ht k else 1000000
def cdT2 (ht wr : Nat → Nat) : cdT := fun lv k o => if 3 ≤ wr k then none else some (max (lv o) (dif (ht o) (ht k)))
def rtM (wr : Nat → Nat) (a k : Nat) : Nat := if k = a ∧ ¬ 3 ≤ wr k then 0 else 1000000
theorem smN_lt {f g : Nat → Nat} : ∀ {n : Nat}, (∀ k, k < n → f k ≤ g k) → (∃ k, k < n ∧ f k < g k) → smN f n < smN g n
  | 0, _, ⟨k, hk, _⟩ => absurd hk (Nat.not_lt_zero _)
  | n + 1, h, ⟨k, hk, hl⟩ => by
    simp only [smN]
    have hle : smN f n ≤ smN g n := by
      clear hl hk k
      revert h
      induction n with
      | zero => intro _; exact Nat.le_refl _
      | succ n ih => intro h; simp only [smN]; have h1 := ih (fun k hk => h k (by omega)); have h2 := h n (by omega); omega
    have hn := h n (by omega)
    by_cases q : k = n
    · subst q; omega
    · have := smN_lt (f := f) (g := g) (n := n) (fun j hj => h j (by omega)) ⟨k, by omega, hl⟩
      omega
theorem imL_less {cd : cdT} {lv : Nat → Nat} {k o : Nat} (h : imB cd lv k o = true) : imL cd lv k o k < lv k := by
  unfold imB at h
  unfold imL
  cases q : cd lv k o with
  | none => rw [q] at h; cases h
  | some v =>
    rw [q] at h
    have hv : v < lv k := of_decide_eq_true h
    show (if v < lv k then va_up lv k v else lv) k < lv k
    rw [if_pos hv, va_up_self]; exact hv
theorem iaD_leq {cd : cdT} {c : Nat} {s : (Nat → Nat) × Bool} : ∀ d j, (iaD cd c s d).1 j ≤ s.1 j
  | 0, j => Nat.le_refl _
  | d + 1, j => by
    simp only [iaD]
    split
    · exact iaD_leq d j
    · exact Nat.le_trans (imL_le j) (iaD_leq d j)
theorem iaD_less {cd : cdT} {c : Nat} {s : (Nat → Nat) × Bool} : ∀ d, (iaD cd c s d).2 = true → s.2 = true ∨ (iaD cd c s d).1 c < s.1 c
  | 0, h => Or.inl h
  | d + 1, h => by
    simp only [iaD] at h ⊢
    split at h
    · exact iaD_less d h
    · rename_i k hk
      rcases Bool.or_eq_true_iff.mp h with q | q
      · exact Or.inr (Nat.lt_of_lt_of_le (imL_less q) (iaD_leq d c))
      · rcases iaD_less d q with z | z
        · exact Or.inl z
        · exact Or.inr (Nat.lt_of_le_of_lt (imL_le c) z)
theorem iaN_leq {cd : cdT} {lv : Nat → Nat} : ∀ n j, (iaN cd lv n).1 j ≤ lv j
  | 0, j => Nat.le_refl _
  | n + 1, j => Nat.le_trans (iaD_leq 4 j) (iaN_leq n j)
theorem iaN_less {cd : cdT} {lv : Nat → Nat} : ∀ n, (iaN cd lv n).2 = true → ∃ k, k < n ∧ (iaN cd lv n).1 k < lv k
  | 0, h => by cases h
  | n + 1, h => by
    rcases iaD_less 4 h with q | q
    · obtain ⟨k, hk, hl⟩ := iaN_less n q
      exact ⟨k, by omega, Nat.lt_of_le_of_lt (iaD_leq 4 k) hl⟩
    · exact ⟨n, by omega, Nat.lt_of_lt_of_le q (iaN_leq n n)⟩
theorem iaN_sum {cd : cdT} {lv : Nat → Nat} (h : (iaN cd lv 36).2 = true) : smN (iaN cd lv 36).1 36 < smN lv 36 := smN_lt (fun k _ => iaN_leq 36 k) (iaN_less 36 h)
theorem iaD_hole {cd : cdT} {c : Nat} {s : (Nat → Nat) × Bool} (h : ∀ lv o, cd lv c o = none) : ∀ d, iaD cd c s d = s
  | 0 => rfl
  | d + 1 => by
    simp only [iaD]
    split
    · exact iaD_hole h d
    · rename_i k hk
      rw [iaD_hole h d]
      obtain ⟨a, b⟩ := imB_0 (cd := cd) (lv := s.1) (k := c) (o := k) (h _ _)
      rw [a, b]; rfl
theorem iaD_n {cd : cdT} {c d : Nat} {s : (Nat → Nat) × Bool} (h : nb c d = none) : iaD cd c s (d + 1) = iaD cd c s d := by simp only [iaD, h]
theorem iaD_k {cd : cdT} {c d k : Nat} {s : (Nat → Nat) × Bool} (h : nb c d = some k) : iaD cd c s (d + 1) = (imL cd (iaD cd c s d).1 c k, imB cd (iaD cd c s d).1 c k || (iaD cd c s d).2) := by simp only [iaD, h]
theorem cdS_is (ht : Nat → Nat) : cdIs (cdS ht) (fun _ => false) (fun k _ x => max (ht k) x) := ⟨fun _ _ _ => rfl, fun k o x y h => by (try dsimp only); omega, fun k o x => Nat.le_max_right _ _⟩
theorem cdR_is (ht wr : Nat → Nat) : cdIs (cdR ht wr) (fun k => decide (3 ≤ wr k)) (fun k o x => x + 1 + dif (ht k) (ht o)) := ⟨fun lv k o => by
  unfold cdR
  by_cases q : 3 ≤ wr k
  · rw [if_pos q, if_pos (decide_eq_true q)]
  · rw [if_neg q, if_neg (by simp [q])], fun k o x y h => by (try dsimp only); omega, fun k o x => by (try dsimp only); omega⟩
theorem cdT2_is (ht wr : Nat → Nat) : cdIs (cdT2 ht wr) (fun k => decide (3 ≤ wr k)) (fun k o x => max x (dif (ht o) (ht k))) := ⟨fun lv k o => by
  unfold cdT2
  by_cases q : 3 ≤ wr k
  · rw [if_pos q, if_pos (decide_eq_true q)]
  · rw [if_neg q, if_neg (by simp [q])], fun k o x y h => by (try dsimp only); omega, fun k o x => Nat.le_max_left _ _⟩
/-- the state of rounds that go on till nothing changes -/
def rnd (cd : cdT) (hl : Nat → Bool) (f : Nat → Nat → Nat → Nat) (l0 lv : Nat → Nat) (is : Bool) : Prop := leq lv l0 ∧ rlx hl f l0 lv ∧ (is = false → cle hl f lv)
theorem rnd_0 {cd : cdT} {hl : Nat → Bool} {f : Nat → Nat → Nat → Nat} {l0 : Nat → Nat} : rnd cd hl f l0 l0 true := ⟨fun _ _ => Nat.le_refl _, fun _ hu _ => hu, fun h => by cases h⟩
theorem rnd_s {cd : cdT} {hl : Nat → Bool} {f : Nat → Nat → Nat → Nat} {l0 lv : Nat → Nat} {is : Bool} (hc : cdIs cd hl f) (h : rnd cd hl f l0 lv is) : rnd cd hl f l0 (iaN cd lv 36).1 (iaN cd lv 36).2 := by
  obtain ⟨k1, k2, k3, k4, k5⟩ := iaN_fact (l0 := l0) hc (lv := lv) 36 (Nat.le_refl _)
  exact ⟨fun k hk => Nat.le_trans (k1 k hk) (h.1 k hk), k2 h.2.1, fun hf => by rw [k5 hf]; exact iaN_stop hc hf⟩
theorem rnd_e {cd : cdT} {hl : Nat → Bool} {f : Nat → Nat → Nat → Nat} {l0 lv : Nat → Nat} (h : rnd cd hl f l0 lv false) : grt hl f l0 lv := ⟨h.1, h.2.2 rfl, h.2.1⟩
theorem rnd_cg {cd : cdT} {hl : Nat → Bool} {f : Nat → Nat → Nat → Nat} {l0 l1 lv : Nat → Nat} {is : Bool} (e : ∀ k, k < 36 → l0 k = l1 k) (h : rnd cd hl f l0 lv is) : rnd cd hl f l1 lv is :=
  ⟨fun k hk => by rw [← e k hk]; exact h.1 k hk, fun u hu hcu => h.2.1 u (fun k hk => by rw [e k hk]; exact hu k hk) hcu, h.2.2⟩
theorem bfs_one {ok : Nat → Nat → Bool} {old : Nat → Nat} {s : T3} {t : Nat} (h : fiv ok old s t) (q : t < s.2.2) : fiv ok old (flD ok (s.2.1 t) 4 s) (t + 1) := by
  obtain ⟨i1, i2, i3, i4⟩ := flD_fiv h (h.1.1 t q) 4
  obtain ⟨g1, g2, g3, g4, g5, g6, g7⟩ := i1
  refine ⟨g1, Nat.lt_of_lt_of_le q i2.2.2, g3, g4, g5, fun j hj d x hd hx ho => ?_, g7⟩
  by_cases r : j = t
  · rw [r, i2.2.1 t q] at hx ho
    exact i3 d x hd hx ho
  · exact g6 j (by omega) d x hd hx ho
set_option maxHeartbeats 4000000 in
set_option maxRecDepth 100000 in
/-- the cell at a rank -/
theorem mX13_ranked (l : Launch) {E : gE} {ad : Nat → Nat} {N : Nat} {w : Nat → va_E} (b : Nat) (g kp sv bf sd ip sg mk td lv tl : Nat → Nat) (qs qc qw qd co wy : Nat) (de : Int32) (ca ln : Nat) (fa : Option Nat) (sm pa tm : Nat) (ht dr pg wt wr mo : Nat → Nat) (mc ni po dn : Nat) (rk : Nat → Nat) (v : Int32) (hb_m : bkP N w b 12 (MDC E ad b g kp sv bf sd ip sg mk td lv tl qs qc qw qd co wy de ca ln fa sm pa tm)) (hR : mRg g ht pg wt wr mo mc ni po dn) (hht : ∀ k, k < 36 → ht k ≤ 99) : gMi l yX13_ranked (lw_ws yX13_ranked cX13_ranked 5 (some .int)) ({ frames := 1, cells := 0, slots := 0, locals := 21 } : Room) E ad N w [.ref (ad (b)), .int (v)] (fun r w' => ((∃ i, inR v 36 = some i ∧ r = nI (rankN ht rk 36 i) ∧ bkP N w' b 12 (MDC E ad b g kp sv bf sd ip sg mk td lv tl qs qc qw qd 0 wy de ca ln fa sm pa tm)) ∨ (inR v 36 = none ∧ r = nI 0 ∧ bkP N w' b 12 (MDC E ad b g kp sv bf sd ip sg mk td lv tl qs qc qw qd 1 wy de ca ln fa sm pa tm))) ∧ gFr (gIn b 12) w w') 0 0 := by
  refine Met.ofW (cc := cX13_ranked) (maxL := 5) (ret := (some .int)) (by decide) rfl ?_
  intro p e s m args below meth cd s₁ B hml hv
  obtain ⟨rfl, hI, hP⟩ := hv
  obtain ⟨S, hr, hlocks⟩ := gPre (ws := []) B hml (C := RX13) rfl
  have hx := S.1
  have hb := S.2.1
  have hS : va_S (gA E) s.heap s.heap [] := va_S.rf
  have hfr : gFr (gIn b 12) w w := gFr.rf
  have hl := lv_entry ([.ref (ad (b)), .int (v)]) (n := 5) (Nat.le_of_ble_eq_true rfl)
  rw [lg_entry_eq]
  generalize (lg_sl ([.ref (ad (b)), .int (v)]) ++ List.replicate (5 - (lg_sl ([.ref (ad (b)), .int (v)])).length) Slot.unset).toArray = ls at hl ⊢
  have hl : lv_has ls 5 [(0, .ref (ad (b))), (1, .int (v))] := hl
  obtain ⟨hgh, hgw, hgp, hgt, hgm, hg3, hg0, hg1, hg2⟩ := id hR
  refine g_iconst S 0 dX13_ranked_0 (by decide +kernel) ?_
  refine lv_istore_n (lv' := [(2, .int (nI (0))), (0, .ref (ad (b))), (1, .int (v))]) hx hb dX13_ranked_1 rfl hl (by decide) rfl (fun ls hl => ?_)
  have lpa : ∀ (n : Nat) (k : Nat), 37 - k < n → (k ≤ 36) → (∀ j, j < k → nI (rkC ht 36 j) ≠ v) → ∀ (w1 : Nat → va_E) (H : Heap) (locs : List Loc), gP E ad N w1 H → va_S (gA E) s.heap H locs → bkP N w1 b 12 (MDC E ad b g kp sv bf sd ip sg mk td lv tl qs qc qw qd co wy de ca ln fa sm pa tm) → gFr (gIn b 12) w w1 → ∀ (ls : Array Slot), lv_has ls 5 [(2, .int (nI (k))), (1, .int (v)), (0, .ref (ad (b)))] → W p l e (headSpec (lw_ws yX13_ranked cX13_ranked 5 (some .int)) ({ frames := 1, cells := 0, slots := 0, locals := 21 } : Room)).room s m ([.ref (ad (b)), .int (v)] : List Value).toArray below meth cd H locs 0 0 (MQ below (va_Qi (fun r w' => ((∃ i, inR v 36 = some i ∧ r = nI (rankN ht rk 36 i) ∧ bkP N w' b 12 (MDC E ad b g kp sv bf sd ip sg mk td lv tl qs qc qw qd 0 wy de ca ln fa sm pa tm)) ∨ (inR v 36 = none ∧ r = nI 0 ∧ bkP N w' b 12 (MDC E ad b g kp sv bf sd ip sg mk td lv tl qs qc qw qd 1 wy de ca ln fa sm pa tm))) ∧ gFr (gIn b 12) w w') (gB E ad N) (gA E)) ([.ref (ad (b)), .int (v)] : List Value).toArray s 0 0 (gA E)) (F0 m 2 ls []) := by
    intro n
    induction n with
    | zero => intro k hmeas; omega
    | succ n ih_lpa =>
      intro k hmeas hk hno w1 H locs hP hS hb1 hfr ls hl
      refine lv_iload_n hx hb dX13_ranked_2 rfl (lv_at hl 0 rfl) ?_
      refine g_bipush S 36 dX13_ranked_3 (by decide +kernel) ?_
      refine g_ge S (a := k) (b := 36) (by omega) (by omega) (tgt := 89) dX13_ranked_5 (by decide) (fun h => ?_) (fun h => ?_)
      · have e36 : k = 36 := by omega
        subst e36
        refine lv_aload_n hx hb dX13_ranked_89 rfl (lv_at hl 2 rfl) ?_
        refine g_iconst S 1 dX13_ranked_90 (by decide +kernel) ?_
        refine g_put S hI hP hS uX13 rfl tyX13 tyX13_ok nmX13 (fs := _) (hb1.lt 0 (by decide)) (hb1.2 0 (by decide)) 9 (by decide) q1796 rfl rfl (v := .int (nI (1))) rfl rfl (Nat.le_of_ble_eq_true rfl) dX13_ranked_91 (fun H locs hP hS => ?_)
        have hP : gP E ad N (va_up _ (b) (MDC E ad b g kp sv bf sd ip sg mk td lv tl qs qc qw qd 1 wy de ca ln fa sm pa tm 0)) H := hP
        have hb2 : bkP N (va_up _ (b) (MDC E ad b g kp sv bf sd ip sg mk td lv tl qs qc qw qd 1 wy de ca ln fa sm pa tm 0)) b 12 (MDC E ad b g kp sv bf sd ip sg mk td lv tl qs qc qw qd 1 wy de ca ln fa sm pa tm) := MD_setO hb1 _ _ _ _ _ _ _ _ _ _ _ _ _
        have hfr := hfr.up (p := b) (e := MDC E ad b g kp sv bf sd ip sg mk td lv tl qs qc qw qd 1 wy de ca ln fa sm pa tm 0) (by show _ ∧ _; omega)
        refine g_iconst S 0 dX13_ranked_94 (by decide +kernel) ?_
        exact g_iret S hr hlocks hP hS (⟨Or.inr ⟨by cases q : inR v 36 with | none => rfl | some i => (obtain ⟨a, c⟩ := inR_some (by decide) q; obtain ⟨g1, g2⟩ := rankN_rk (ht := ht) (rk := rk) 36 i a; exact absurd (by rw [g2]; exact c.symm) (hno _ g1)), rfl, hb2⟩, hfr⟩) (fun _ _ => rfl) (Nat.le_of_ble_eq_true rfl) (Nat.le_of_ble_eq_true rfl) dX13_ranked_95
      · refine g_iconst S 0 dX13_ranked_8 (by decide +kernel) ?_
        refine lv_istore_n (lv' := [(3, .int (nI (0))), (2, .int (nI (k))), (1, .int (v)), (0, .ref (ad (b)))]) hx hb dX13_ranked_9 rfl hl (by decide) rfl (fun ls hl => ?_)
        refine g_iconst S 0 dX13_ranked_10 (by decide +kernel) ?_
        refine lv_istore (lv' := [(4, .int (nI (0))), (3, .int (nI (0))), (2, .int (nI (k))), (1, .int (v)), (0, .ref (ad (b)))]) hx hb dX13_ranked_11 hl (by decide) rfl (fun ls hl => ?_)
        have lpb : ∀ (n : Nat) (o : Nat), 37 - o < n → (o ≤ 36) → ∀ (w1 : Nat → va_E) (H : Heap) (locs : List Loc), gP E ad N w1 H → va_S (gA E) s.heap H locs → bkP N w1 b 12 (MDC E ad b g kp sv bf sd ip sg mk td lv tl qs qc qw qd co wy de ca ln fa sm pa tm) → gFr (gIn b 12) w w1 → ∀ (ls : Array Slot), lv_has ls 5 [(4, .int (nI (o))), (3, .int (nI (rkC ht o k))), (2, .int (nI (k))), (1, .int (v)), (0, .ref (ad (b)))] → W p l e (headSpec (lw_ws yX13_ranked cX13_ranked 5 (some .int)) ({ frames := 1, cells := 0, slots := 0, locals := 21 } : Room)).room s m ([.ref (ad (b)), .int (v)] : List Value).toArray below meth cd H locs 0 0 (MQ below (va_Qi (fun r w' => ((∃ i, inR v 36 = some i ∧ r = nI (rankN ht rk 36 i) ∧ bkP N w' b 12 (MDC E ad b g kp sv bf sd ip sg mk td lv tl qs qc qw qd 0 wy de ca ln fa sm pa tm)) ∨ (inR v 36 = none ∧ r = nI 0 ∧ bkP N w' b 12 (MDC E ad b g kp sv bf sd ip sg mk td lv tl qs qc qw qd 1 wy de ca ln fa sm pa tm))) ∧ gFr (gIn b 12) w w') (gB E ad N) (gA E)) ([.ref (ad (b)), .int (v)] : List Value).toArray s 0 0 (gA E)) (F0 m 13 ls []) := by
          intro n
          induction n with
          | zero => intro o hmeas; omega
          | succ n ih_lpb =>
            intro o hmeas ho w1 H locs hP hS hb3 hfr ls hl
            have hcl := cnt_le (fun x => bef ht x k) o
            have zk := hht k h
            refine lv_iload hx hb dX13_ranked_13 (lv_at hl 0 rfl) ?_
            refine g_bipush S 36 dX13_ranked_15 (by decide +kernel) ?_
            refine g_ge S (a := o) (b := 36) (by omega) (by omega) (tgt := 68) dX13_ranked_17 (by decide) (fun h2 => ?_) (fun h2 => ?_)
            · have e_o : o = 36 := by omega
              subst e_o
              refine lv_iload_n hx hb dX13_ranked_68 rfl (lv_at hl 1 rfl) ?_
              refine lv_iload_n hx hb dX13_ranked_69 rfl (lv_at hl 3 rfl) ?_
              refine lv_icmp_eq (tgt := 76) hx hb dX13_ranked_70 (by decide) (fun h3 => ?_) (fun h3 => ?_)
              · refine lv_aload_n hx hb dX13_ranked_76 rfl (lv_at hl 4 rfl) ?_
                refine g_iconst S 0 dX13_ranked_77 (by decide +kernel) ?_
                refine g_put S hI hP hS uX13 rfl tyX13 tyX13_ok nmX13 (fs := _) (hb3.lt 0 (by decide)) (hb3.2 0 (by decide)) 9 (by decide) q1796 rfl rfl (v := .int (nI (0))) rfl rfl (Nat.le_of_ble_eq_true rfl) dX13_ranked_78 (fun H locs hP hS => ?_)
                have hP : gP E ad N (va_up _ (b) (MDC E ad b g kp sv bf sd ip sg mk td lv tl qs qc qw qd 0 wy de ca ln fa sm pa tm 0)) H := hP
                have hb4 : bkP N (va_up _ (b) (MDC E ad b g kp sv bf sd ip sg mk td lv tl qs qc qw qd 0 wy de ca ln fa sm pa tm 0)) b 12 (MDC E ad b g kp sv bf sd ip sg mk td lv tl qs qc qw qd 0 wy de ca ln fa sm pa tm) := MD_setO hb3 _ _ _ _ _ _ _ _ _ _ _ _ _
                have hfr := hfr.up (p := b) (e := MDC E ad b g kp sv bf sd ip sg mk td lv tl qs qc qw qd 0 wy de ca ln fa sm pa tm 0) (by show _ ∧ _; omega)
                refine lv_iload_n hx hb dX13_ranked_81 rfl (lv_at hl 2 rfl) ?_
                exact g_iret S hr hlocks hP hS (⟨Or.inl ⟨rkC ht 36 k, by rw [← h3]; exact inR_nI (cnt_lt h bef_self) (by decide), by obtain ⟨g1, g2⟩ := rankN_rk (ht := ht) (rk := rk) 36 (rkC ht 36 k) (cnt_lt h bef_self); rw [rkC_inj (ht := ht) g1 h g2], hb4⟩, hfr⟩) (fun _ _ => rfl) (Nat.le_of_ble_eq_true rfl) (Nat.le_of_ble_eq_true rfl) dX13_ranked_82
              · refine lv_goto (tgt := 83) hx hb dX13_ranked_73 (by decide) ?_
                refine lv_iinc (v := nI (k + 1)) (lv' := [(2, .int (nI (k + 1))), (4, .int (nI (36))), (3, .int (nI (rkC ht 36 k))), (1, .int (v)), (0, .ref (ad (b)))]) hx hb dX13_ranked_83 hl (k := 2) rfl (g_inc _ 1 (by decide +kernel)) (by decide) rfl (fun ls hl => ?_)
                refine lv_goto (tgt := 2) hx hb dX13_ranked_86 (by decide) ?_
                exact ih_lpa (k + 1) (by omega) (by omega) (fun j hj => by by_cases q : j < k; exact hno j q; rw [show j = k by omega]; exact h3) _ _ _ hP hS hb3 hfr ls (lv_sub hl [0, 3, 4] rfl)
            · have zo := hht o h2
              refine lv_iload_n hx hb dX13_ranked_20 rfl (lv_at hl 1 rfl) ?_
              refine lv_aload_n hx hb dX13_ranked_21 rfl (lv_at hl 4 rfl) ?_
              refine lv_iload hx hb dX13_ranked_22 (lv_at hl 0 rfl) ?_
              refine g_roi (g_runV S hI hP hS (k := 1) (As := [.int (nI (o))]) (rest := [.int (nI (rkC ht o k))]) (mX13_high l b g kp sv bf sd ip sg mk td lv tl qs qc qw qd co wy de ca ln fa sm pa tm o (ht o) hb3 h2 (hgh o h2)) q1882 q1884 q50 q100 q1885 rfl rfl (by decide +kernel) ⟨Nat.le_of_ble_eq_true rfl, Nat.le_of_ble_eq_true rfl⟩ rfl (hb3.lt 0 (by decide)) (hb3.2 0 (by decide)) rfl hl.1 rfl (Nat.le_of_ble_eq_true rfl) ⟨(Nat.le_of_ble_eq_true rfl), (Nat.le_of_ble_eq_true rfl)⟩ dX13_ranked_24) hS (fun H locs hP hS => ?_)
              refine lv_aload_n hx hb dX13_ranked_27 rfl (lv_at hl 4 rfl) ?_
              refine lv_iload_n hx hb dX13_ranked_28 rfl (lv_at hl 2 rfl) ?_
              refine g_roi (g_runV S hI hP hS (k := 1) (As := [.int (nI (k))]) (rest := [.int (nI (ht o)), .int (nI (rkC ht o k))]) (mX13_high l b g kp sv bf sd ip sg mk td lv tl qs qc qw qd co wy de ca ln fa sm pa tm k (ht k) hb3 h (hgh k h)) q1882 q1884 q50 q100 q1885 rfl rfl (by decide +kernel) ⟨Nat.le_of_ble_eq_true rfl, Nat.le_of_ble_eq_true rfl⟩ rfl (hb3.lt 0 (by decide)) (hb3.2 0 (by decide)) rfl hl.1 rfl (Nat.le_of_ble_eq_true rfl) ⟨(Nat.le_of_ble_eq_true rfl), (Nat.le_of_ble_eq_true rfl)⟩ dX13_ranked_29) hS (fun H locs hP hS => ?_)
              refine g_gt S (a := ht o) (b := ht k) (by omega) (by omega) (tgt := 55) dX13_ranked_32 (by decide) (fun h3 => ?_) (fun h3 => ?_)
              · refine g_iconst S 1 dX13_ranked_55 (by decide +kernel) ?_
                refine lv_goto (tgt := 60) hx hb dX13_ranked_56 (by decide) ?_
                refine g_iadd S dX13_ranked_60 ?_
                refine lv_istore_n (lv' := [(3, .int (nI (rkC ht o k + 1))), (4, .int (nI (o))), (2, .int (nI (k))), (1, .int (v)), (0, .ref (ad (b)))]) hx hb dX13_ranked_61 rfl hl (by decide) rfl (fun ls hl => ?_)
                refine lv_iinc (v := nI (o + 1)) (lv' := [(4, .int (nI (o + 1))), (3, .int (nI (rkC ht o k + 1))), (2, .int (nI (k))), (1, .int (v)), (0, .ref (ad (b)))]) hx hb dX13_ranked_62 hl (k := 1) rfl (g_inc _ 1 (by decide +kernel)) (by decide) rfl (fun ls hl => ?_)
                refine lv_goto (tgt := 13) hx hb dX13_ranked_65 (by decide) ?_
                have hl : lv_has ls 5 [(4, .int (nI (o + 1))), (3, .int (nI (rkC ht (o + 1) k))), (2, .int (nI (k))), (1, .int (v)), (0, .ref (ad (b)))] := by rw [show rkC ht (o + 1) k = rkC ht o k + 1 from cnt_y (bef_iff.mpr (by omega))]; exact hl
                exact ih_lpb (o + 1) (by omega) (by omega) _ _ _ hP hS hb3 hfr ls (lv_sub hl [0, 1, 2, 3, 4] rfl)
              · refine lv_aload_n hx hb dX13_ranked_35 rfl (lv_at hl 4 rfl) ?_
                refine lv_iload hx hb dX13_ranked_36 (lv_at hl 0 rfl) ?_
                refine g_roi (g_runV S hI hP hS (k := 1) (As := [.int (nI (o))]) (rest := [.int (nI (rkC ht o k))]) (mX13_high l b g kp sv bf sd ip sg mk td lv tl qs qc qw qd co wy de ca ln fa sm pa tm o (ht o) hb3 h2 (hgh o h2)) q1882 q1884 q50 q100 q1885 rfl rfl (by decide +kernel) ⟨Nat.le_of_ble_eq_true rfl, Nat.le_of_ble_eq_true rfl⟩ rfl (hb3.lt 0 (by decide)) (hb3.2 0 (by decide)) rfl hl.1 rfl (Nat.le_of_ble_eq_true rfl) ⟨(Nat.le_of_ble_eq_true rfl), (Nat.le_of_ble_eq_true rfl)⟩ dX13_ranked_38) hS (fun H locs hP hS => ?_)
                refine lv_aload_n hx hb dX13_ranked_41 rfl (lv_at hl 4 rfl) ?_
                refine lv_iload_n hx hb dX13_ranked_42 rfl (lv_at hl 2 rfl) ?_
                refine g_roi (g_runV S hI hP hS (k := 1) (As := [.int (nI (k))]) (rest := [.int (nI (ht o)), .int (nI (rkC ht o k))]) (mX13_high l b g kp sv bf sd ip sg mk td lv tl qs qc qw qd co wy de ca ln fa sm pa tm k (ht k) hb3 h (hgh k h)) q1882 q1884 q50 q100 q1885 rfl rfl (by decide +kernel) ⟨Nat.le_of_ble_eq_true rfl, Nat.le_of_ble_eq_true rfl⟩ rfl (hb3.lt 0 (by decide)) (hb3.2 0 (by decide)) rfl hl.1 rfl (Nat.le_of_ble_eq_true rfl) ⟨(Nat.le_of_ble_eq_true rfl), (Nat.le_of_ble_eq_true rfl)⟩ dX13_ranked_43) hS (fun H locs hP hS => ?_)
                refine g_ne S (a := ht o) (b := ht k) (by omega) (by omega) (tgt := 59) dX13_ranked_46 (by decide) (fun h4 => ?_) (fun h4 => ?_)
                · refine g_iconst S 0 dX13_ranked_59 (by decide +kernel) ?_
                  refine g_iadd S dX13_ranked_60 ?_
                  refine lv_istore_n (lv' := [(3, .int (nI (rkC ht o k + 0))), (4, .int (nI (o))), (2, .int (nI (k))), (1, .int (v)), (0, .ref (ad (b)))]) hx hb dX13_ranked_61 rfl hl (by decide) rfl (fun ls hl => ?_)
                  refine lv_iinc (v := nI (o + 1)) (lv' := [(4, .int (nI (o + 1))), (3, .int (nI (rkC ht o k + 0))), (2, .int (nI (k))), (1, .int (v)), (0, .ref (ad (b)))]) hx hb dX13_ranked_62 hl (k := 1) rfl (g_inc _ 1 (by decide +kernel)) (by decide) rfl (fun ls hl => ?_)
                  refine lv_goto (tgt := 13) hx hb dX13_ranked_65 (by decide) ?_
                  have hl : lv_has ls 5 [(4, .int (nI (o + 1))), (3, .int (nI (rkC ht (o + 1) k))), (2, .int (nI (k))), (1, .int (v)), (0, .ref (ad (b)))] := by rw [show rkC ht (o + 1) k = rkC ht o k + 0 from cnt_n (bef_no.mpr (by omega))]; exact hl
                  exact ih_lpb (o + 1) (by omega) (by omega) _ _ _ hP hS hb3 hfr ls (lv_sub hl [0, 1, 2, 3, 4] rfl)
                · refine lv_iload hx hb dX13_ranked_49 (lv_at hl 0 rfl) ?_
                  refine lv_iload_n hx hb dX13_ranked_51 rfl (lv_at hl 2 rfl) ?_
                  refine g_ge S (a := o) (b := k) (by omega) (by omega) (tgt := 59) dX13_ranked_52 (by decide) (fun h5 => ?_) (fun h5 => ?_)
                  · refine g_iconst S 0 dX13_ranked_59 (by decide +kernel) ?_
                    refine g_iadd S dX13_ranked_60 ?_
                    refine lv_istore_n (lv' := [(3, .int (nI (rkC ht o k + 0))), (4, .int (nI (o))), (2, .int (nI (k))), (1, .int (v)), (0, .ref (ad (b)))]) hx hb dX13_ranked_61 rfl hl (by decide) rfl (fun ls hl => ?_)
                    refine lv_iinc (v := nI (o + 1)) (lv' := [(4, .int (nI (o + 1))), (3, .int (nI (rkC ht o k + 0))), (2, .int (nI (k))), (1, .int (v)), (0, .ref (ad (b)))]) hx hb dX13_ranked_62 hl (k := 1) rfl (g_inc _ 1 (by decide +kernel)) (by decide) rfl (fun ls hl => ?_)
                    refine lv_goto (tgt := 13) hx hb dX13_ranked_65 (by decide) ?_
                    have hl : lv_has ls 5 [(4, .int (nI (o + 1))), (3, .int (nI (rkC ht (o + 1) k))), (2, .int (nI (k))), (1, .int (v)), (0, .ref (ad (b)))] := by rw [show rkC ht (o + 1) k = rkC ht o k + 0 from cnt_n (bef_no.mpr (by omega))]; exact hl
                    exact ih_lpb (o + 1) (by omega) (by omega) _ _ _ hP hS hb3 hfr ls (lv_sub hl [0, 1, 2, 3, 4] rfl)
                  · refine g_iconst S 1 dX13_ranked_55 (by decide +kernel) ?_
                    refine lv_goto (tgt := 60) hx hb dX13_ranked_56 (by decide) ?_
                    refine g_iadd S dX13_ranked_60 ?_
                    refine lv_istore_n (lv' := [(3, .int (nI (rkC ht o k + 1))), (4, .int (nI (o))), (2, .int (nI (k))), (1, .int (v)), (0, .ref (ad (b)))]) hx hb dX13_ranked_61 rfl hl (by decide) rfl (fun ls hl => ?_)
                    refine lv_iinc (v := nI (o + 1)) (lv' := [(4, .int (nI (o + 1))), (3, .int (nI (rkC ht o k + 1))), (2, .int (nI (k))), (1, .int (v)), (0, .ref (ad (b)))]) hx hb dX13_ranked_62 hl (k := 1) rfl (g_inc _ 1 (by decide +kernel)) (by decide) rfl (fun ls hl => ?_)
                    refine lv_goto (tgt := 13) hx hb dX13_ranked_65 (by decide) ?_
                    have hl : lv_has ls 5 [(4, .int (nI (o + 1))), (3, .int (nI (rkC ht (o + 1) k))), (2, .int (nI (k))), (1, .int (v)), (0, .ref (ad (b)))] := by rw [show rkC ht (o + 1) k = rkC ht o k + 1 from cnt_y (bef_iff.mpr (by omega))]; exact hl
                    exact ih_lpb (o + 1) (by omega) (by omega) _ _ _ hP hS hb3 hfr ls (lv_sub hl [0, 1, 2, 3, 4] rfl)
        exact lpb (37 - (0) + 1) (0) (Nat.lt_succ_self _) (by omega) _ _ _ hP hS hb1 hfr ls (lv_sub hl [0, 1, 2, 3, 4] rfl)
  exact lpa (37 - (0) + 1) (0) (Nat.lt_succ_self _) (by omega) (fun j hj => absurd hj (Nat.not_lt_zero _)) _ _ _ hP hS hb_m hfr ls (lv_sub hl [0, 2, 1] rfl)
set_option maxHeartbeats 4000000 in
set_option maxRecDepth 100000 in
/-- rowByHeight -/
theorem mX13_rowByHeight (l : Launch) {E : gE} {ad : Nat → Nat} {N : Nat} {w : Nat → va_E} (b : Nat) (g kp sv bf sd ip sg mk td lv tl : Nat → Nat) (qs qc qw qd co wy : Nat) (de : Int32) (ca ln : Nat) (fa : Option Nat) (sm pa tm : Nat) (ht dr pg wt wr mo : Nat → Nat) (mc ni po dn : Nat) (rk : Nat → Nat) (v : Int32) (hb_m : bkP N w b 12 (MDC E ad b g kp sv bf sd ip sg mk td lv tl qs qc qw qd co wy de ca ln fa sm pa tm)) (hR : mRg g ht pg wt wr mo mc ni po dn) (hht : ∀ k, k < 36 → ht k ≤ 99) : gMi l yX13_rowByHeight (lw_ws yX13_rowByHeight cX13_rowByHeight 2 (some .int)) ({ frames := 2, cells := 0, slots := 0, locals := 45 } : Room) E ad N w [.ref (ad (b)), .int (v)] (fun r w' => ((∃ i, inR v 36 = some i ∧ r = nI (rankN ht rk 36 i / 6) ∧ bkP N w' b 12 (MDC E ad b g kp sv bf sd ip sg mk td lv tl qs qc qw qd 0 wy de ca ln fa sm pa tm)) ∨ (inR v 36 = none ∧ bkP N w' b 12 (MDC E ad b g kp sv bf sd ip sg mk td lv tl qs qc qw qd 1 wy de ca ln fa sm pa tm))) ∧ gFr (gIn b 12) w w') 0 0 := by
  refine Met.ofW (cc := cX13_rowByHeight) (maxL := 2) (ret := (some .int)) (by decide) rfl ?_
  intro p e s m args below meth cd s₁ B hml hv
  obtain ⟨rfl, hI, hP⟩ := hv
  obtain ⟨S, hr, hlocks⟩ := gPre (ws := []) B hml (C := RX13) rfl
  have hx := S.1
  have hb := S.2.1
  have hS : va_S (gA E) s.heap s.heap [] := va_S.rf
  have hfr : gFr (gIn b 12) w w := gFr.rf
  have hl := lv_entry ([.ref (ad (b)), .int (v)]) (n := 2) (Nat.le_of_ble_eq_true rfl)
  rw [lg_entry_eq]
  generalize (lg_sl ([.ref (ad (b)), .int (v)]) ++ List.replicate (2 - (lg_sl ([.ref (ad (b)), .int (v)])).length) Slot.unset).toArray = ls at hl ⊢
  have hl : lv_has ls 2 [(0, .ref (ad (b))), (1, .int (v))] := hl
  refine lv_aload_n hx hb dX13_rowByHeight_0 rfl (lv_at hl 0 rfl) ?_
  refine lv_iload_n hx hb dX13_rowByHeight_1 rfl (lv_at hl 1 rfl) ?_
  refine g_afi (g_runV S hI hP hS (k := 1) (As := [.int (v)]) (rest := []) (mX13_ranked l b g kp sv bf sd ip sg mk td lv tl qs qc qw qd co wy de ca ln fa sm pa tm ht dr pg wt wr mo mc ni po dn rk v hb_m hR hht) q1932 q1934 q55 q100 q1935 rfl rfl (by decide +kernel) ⟨Nat.le_of_ble_eq_true rfl, Nat.le_of_ble_eq_true rfl⟩ rfl (hb_m.lt 0 (by decide)) (hb_m.2 0 (by decide)) rfl hl.1 rfl (Nat.le_of_ble_eq_true rfl) ⟨(Nat.le_of_ble_eq_true rfl), (Nat.le_of_ble_eq_true rfl)⟩ dX13_rowByHeight_2) hS (fun rz w1 H locs hq hP hS => ?_)
  obtain ⟨hq1, hf9⟩ := hq
  rcases hq1 with ⟨i, hi, hr9, hb9⟩ | ⟨hi, hr9, hb9⟩
  · rw [hr9]
    have hrl := rankN_lt (ht := ht) (rk := rk) (n := 36) (Nat.le_refl _) i (inR_some (by decide) hi).1
    refine g_bipush S 6 dX13_rowByHeight_5 (by decide +kernel) ?_
    refine g_idiv S (by omega) (by omega) (by omega) dX13_rowByHeight_7 ?_
    exact g_iret S hr hlocks hP hS (⟨Or.inl ⟨i, hi, rfl, hb9⟩, hf9⟩) (fun _ _ => rfl) (Nat.le_of_ble_eq_true rfl) (Nat.le_of_ble_eq_true rfl) dX13_rowByHeight_8
  · rw [hr9]
    refine g_bipush S 6 dX13_rowByHeight_5 (by decide +kernel) ?_
    refine g_idiv S (by omega) (by omega) (by omega) dX13_rowByHeight_7 ?_
    exact g_iret S hr hlocks hP hS (⟨Or.inr ⟨hi, hb9⟩, hf9⟩) (fun _ _ => rfl) (Nat.le_of_ble_eq_true rfl) (Nat.le_of_ble_eq_true rfl) dX13_rowByHeight_8
set_option maxHeartbeats 4000000 in
set_option maxRecDepth 100000 in
/-- columnByHeight -/
theorem mX13_columnByHeight (l : Launch) {E : gE} {ad : Nat → Nat} {N : Nat} {w : Nat → va_E} (b : Nat) (g kp sv bf sd ip sg mk td lv tl : Nat → Nat) (qs qc qw qd co wy : Nat) (de : Int32) (ca ln : Nat) (fa : Option Nat) (sm pa tm : Nat) (ht dr pg wt wr mo : Nat → Nat) (mc ni po dn : Nat) (rk : Nat → Nat) (v : Int32) (hb_m : bkP N w b 12 (MDC E ad b g kp sv bf sd ip sg mk td lv tl qs qc qw qd co wy de ca ln fa sm pa tm)) (hR : mRg g ht pg wt wr mo mc ni po dn) (hht : ∀ k, k < 36 → ht k ≤ 99) : gMi l yX13_columnByHeight (lw_ws yX13_columnByHeight cX13_columnByHeight 2 (some .int)) ({ frames := 2, cells := 0, slots := 0, locals := 45 } : Room) E ad N w [.ref (ad (b)), .int (v)] (fun r w' => ((∃ i, inR v 36 = some i ∧ r = nI (rankN ht rk 36 i % 6) ∧ bkP N w' b 12 (MDC E ad b g kp sv bf sd ip sg mk td lv tl qs qc qw qd 0 wy de ca ln fa sm pa tm)) ∨ (inR v 36 = none ∧ bkP N w' b 12 (MDC E ad b g kp sv bf sd ip sg mk td lv tl qs qc qw qd 1 wy de ca ln fa sm pa tm))) ∧ gFr (gIn b 12) w w') 0 0 := by
  refine Met.ofW (cc := cX13_columnByHeight) (maxL := 2) (ret := (some .int)) (by decide) rfl ?_
  intro p e s m args below meth cd s₁ B hml hv
  obtain ⟨rfl, hI, hP⟩ := hv
  obtain ⟨S, hr, hlocks⟩ := gPre (ws := []) B hml (C := RX13) rfl
  have hx := S.1
  have hb := S.2.1
  have hS : va_S (gA E) s.heap s.heap [] := va_S.rf
  have hfr : gFr (gIn b 12) w w := gFr.rf
  have hl := lv_entry ([.ref (ad (b)), .int (v)]) (n := 2) (Nat.le_of_ble_eq_true rfl)
  rw [lg_entry_eq]
  generalize (lg_sl ([.ref (ad (b)), .int (v)]) ++ List.replicate (2 - (lg_sl ([.ref (ad (b)), .int (v)])).length) Slot.unset).toArray = ls at hl ⊢
  have hl : lv_has ls 2 [(0, .ref (ad (b))), (1, .int (v))] := hl
  refine lv_aload_n hx hb dX13_columnByHeight_0 rfl (lv_at hl 0 rfl) ?_
  refine lv_iload_n hx hb dX13_columnByHeight_1 rfl (lv_at hl 1 rfl) ?_
  refine g_afi (g_runV S hI hP hS (k := 1) (As := [.int (v)]) (rest := []) (mX13_ranked l b g kp sv bf sd ip sg mk td lv tl qs qc qw qd co wy de ca ln fa sm pa tm ht dr pg wt wr mo mc ni po dn rk v hb_m hR hht) q1932 q1934 q55 q100 q1935 rfl rfl (by decide +kernel) ⟨Nat.le_of_ble_eq_true rfl, Nat.le_of_ble_eq_true rfl⟩ rfl (hb_m.lt 0 (by decide)) (hb_m.2 0 (by decide)) rfl hl.1 rfl (Nat.le_of_ble_eq_true rfl) ⟨(Nat.le_of_ble_eq_true rfl), (Nat.le_of_ble_eq_true rfl)⟩ dX13_columnByHeight_2) hS (fun rz w1 H locs hq hP hS => ?_)
  obtain ⟨hq1, hf9⟩ := hq
  rcases hq1 with ⟨i, hi, hr9, hb9⟩ | ⟨hi, hr9, hb9⟩
  · rw [hr9]
    have hrl := rankN_lt (ht := ht) (rk := rk) (n := 36) (Nat.le_refl _) i (inR_some (by decide) hi).1
    refine g_bipush S 6 dX13_columnByHeight_5 (by decide +kernel) ?_
    refine g_irem S (by omega) (by omega) (by omega) dX13_columnByHeight_7 ?_
    exact g_iret S hr hlocks hP hS (⟨Or.inl ⟨i, hi, rfl, hb9⟩, hf9⟩) (fun _ _ => rfl) (Nat.le_of_ble_eq_true rfl) (Nat.le_of_ble_eq_true rfl) dX13_columnByHeight_8
  · rw [hr9]
    refine g_bipush S 6 dX13_columnByHeight_5 (by decide +kernel) ?_
    refine g_irem S (by omega) (by omega) (by omega) dX13_columnByHeight_7 ?_
    exact g_iret S hr hlocks hP hS (⟨Or.inr ⟨hi, hb9⟩, hf9⟩) (fun _ _ => rfl) (Nat.le_of_ble_eq_true rfl) (Nat.le_of_ble_eq_true rfl) dX13_columnByHeight_8
set_option maxHeartbeats 4000000 in
set_option maxRecDepth 100000 in
/-- islands -/
theorem mX13_lands (l : Launch) {E : gE} {ad : Nat → Nat} {N : Nat} {w : Nat → va_E} (b : Nat) (g kp sv bf sd ip sg mk td lv tl : Nat → Nat) (qs qc qw qd co wy : Nat) (de : Int32) (ca ln : Nat) (fa : Option Nat) (sm pa tm : Nat) (ht dr pg wt wr mo : Nat → Nat) (mc ni po dn : Nat) (v : Int32) (hb_m : bkP N w b 12 (MDC E ad b g kp sv bf sd ip sg mk td lv tl qs qc qw qd co wy de ca ln fa sm pa tm)) (hR : mRg g ht pg wt wr mo mc ni po dn) (hht : ∀ k, k < 36 → ht k ≤ 99) : gMi l yX13_lands (lw_ws yX13_lands cX13_lands 8 (some .int)) ({ frames := 3, cells := 0, slots := 0, locals := 66 } : Room) E ad N w [.ref (ad (b)), .int (v)] (fun r w' => (∃ mk' td' : Nat → Nat, (∃ lw, inR v 100 = some lw ∧ r = nI (cnt (repB ht lw) 36) ∧ bkP N w' b 12 (MDC E ad b g kp sv bf sd ip sg mk' td' lv tl qs qc qw 0 0 wy de ca ln fa sm pa tm)) ∨ (inR v 100 = none ∧ bkP N w' b 12 (MDC E ad b g kp sv bf sd ip sg mk' td' lv tl qs qc qw 0 1 wy de ca ln fa sm pa tm))) ∧ gFr (gIn b 12) w w') 0 0 := by
  refine Met.ofW (cc := cX13_lands) (maxL := 8) (ret := (some .int)) (by decide) rfl ?_
  intro p e s m args below meth cd s₁ B hml hv
  obtain ⟨rfl, hI, hP⟩ := hv
  obtain ⟨S, hr, hlocks⟩ := gPre (ws := []) B hml (C := RX13) rfl
  have hx := S.1
  have hb := S.2.1
  have hS : va_S (gA E) s.heap s.heap [] := va_S.rf
  have hfr : gFr (gIn b 12) w w := gFr.rf
  have hl := lv_entry ([.ref (ad (b)), .int (v)]) (n := 8) (Nat.le_of_ble_eq_true rfl)
  rw [lg_entry_eq]
  generalize (lg_sl ([.ref (ad (b)), .int (v)]) ++ List.replicate (8 - (lg_sl ([.ref (ad (b)), .int (v)])).length) Slot.unset).toArray = ls at hl ⊢
  have hl : lv_has ls 8 [(0, .ref (ad (b))), (1, .int (v))] := hl
  obtain ⟨hgh, hgw, hgp, hgt, hgm, hg3, hg0, hg1, hg2⟩ := id hR
  refine lv_aload_n hx hb dX13_lands_0 rfl (lv_at hl 0 rfl) ?_
  refine lv_iload_n hx hb dX13_lands_1 rfl (lv_at hl 1 rfl) ?_
  refine g_iconst S 0 dX13_lands_2 (by decide +kernel) ?_
  refine g_bipush S 99 dX13_lands_3 (by decide +kernel) ?_
  refine g_roi (g_runS S hI hP hS (k := 3) (As := [.int (v), .int (nI (0)), .int (nI (99))]) (rest := [.ref (ad (b))]) (mX13_in l v (nI (0)) (nI (99))) q1875 q1876 q100 q1877 rfl rfl (by decide +kernel) ⟨Nat.le_of_ble_eq_true rfl, Nat.le_of_ble_eq_true rfl⟩ rfl hl.1 rfl (Nat.le_of_ble_eq_true rfl) ⟨(Nat.le_of_ble_eq_true rfl), (Nat.le_of_ble_eq_true rfl)⟩ dX13_lands_5) hS (fun H locs hP hS => ?_)
  rw [in_inR (by decide)]
  refine g_beq S (b := (inR v 100).isSome) (tgt := 15) dX13_lands_8 (by decide) (fun h1 => ?_) (fun h1 => ?_)
  · refine g_iconst S 1 dX13_lands_15 (by decide +kernel) ?_
    refine g_afi (g_runV S hI hP hS (k := 1) (As := [.int (nI (1))]) (rest := []) (mX13_fails l b g kp sv bf sd ip sg mk td lv tl qs qc qw qd co wy de ca ln fa sm pa tm 1 hb_m (by decide)) q1878 q1880 q49 q100 q1881 rfl rfl (by decide +kernel) ⟨Nat.le_of_ble_eq_true rfl, Nat.le_of_ble_eq_true rfl⟩ rfl (hb_m.lt 0 (by decide)) (hb_m.2 0 (by decide)) rfl hl.1 rfl (Nat.le_of_ble_eq_true rfl) ⟨(Nat.le_of_ble_eq_true rfl), (Nat.le_of_ble_eq_true rfl)⟩ dX13_lands_16) hS (fun rz w1 H locs hq hP hS => ?_)
    obtain ⟨hr3, hb1, hf2⟩ := hq
    rw [hr3]
    have hfr := hfr.trans hf2 (fun q hq => by (try simp only [gIn] at hq ⊢); (try dsimp only at hq ⊢); omega)
    refine g_beq S (b := decide (0 < 1)) (tgt := 24) dX13_lands_19 (by decide) (fun hfk => ?_) (fun hfk => ?_)
    · exact absurd hfk (by decide)
    · refine g_iconst S 0 dX13_lands_22 (by decide +kernel) ?_
      exact g_iret S hr hlocks hP hS (⟨⟨mk, td, Or.inr ⟨Option.not_isSome_iff_eq_none.mp (by rw [h1]; decide), hb1⟩⟩, hfr⟩) (fun _ _ => rfl) (Nat.le_of_ble_eq_true rfl) (Nat.le_of_ble_eq_true rfl) dX13_lands_23
  · obtain ⟨lw, hlw⟩ := Option.isSome_iff_exists.mp h1
    obtain ⟨hl100, hvu⟩ := inR_some (by decide) hlw
    have hl : lv_has ls 8 [(0, .ref (ad (b))), (1, .int (nI (lw)))] := by rw [hvu] at hl; exact hl
    refine g_iconst S 0 dX13_lands_11 (by decide +kernel) ?_
    refine lv_goto (tgt := 16) hx hb dX13_lands_12 (by decide) ?_
    refine g_afi (g_runV S hI hP hS (k := 1) (As := [.int (nI (0))]) (rest := []) (mX13_fails l b g kp sv bf sd ip sg mk td lv tl qs qc qw qd co wy de ca ln fa sm pa tm 0 hb_m (by decide)) q1878 q1880 q49 q100 q1881 rfl rfl (by decide +kernel) ⟨Nat.le_of_ble_eq_true rfl, Nat.le_of_ble_eq_true rfl⟩ rfl (hb_m.lt 0 (by decide)) (hb_m.2 0 (by decide)) rfl hl.1 rfl (Nat.le_of_ble_eq_true rfl) ⟨(Nat.le_of_ble_eq_true rfl), (Nat.le_of_ble_eq_true rfl)⟩ dX13_lands_16) hS (fun rz w1 H locs hq hP hS => ?_)
    obtain ⟨hr6, hb4, hf5⟩ := hq
    rw [hr6]
    have hfr := hfr.trans hf5 (fun q hq => by (try simp only [gIn] at hq ⊢); (try dsimp only at hq ⊢); omega)
    refine g_beq S (b := decide (0 < 0)) (tgt := 24) dX13_lands_19 (by decide) (fun hfk => ?_) (fun hfk => ?_)
    · refine g_iconst S 0 dX13_lands_24 (by decide +kernel) ?_
      refine lv_istore_n (lv' := [(2, .int (nI (0))), (0, .ref (ad (b))), (1, .int (nI (lw)))]) hx hb dX13_lands_25 rfl hl (by decide) rfl (fun ls hl => ?_)
      refine g_iconst S 0 dX13_lands_26 (by decide +kernel) ?_
      refine lv_istore_n (lv' := [(3, .int (nI (0))), (2, .int (nI (0))), (0, .ref (ad (b))), (1, .int (nI (lw)))]) hx hb dX13_lands_27 rfl hl (by decide) rfl (fun ls hl => ?_)
      have lpa : ∀ (n : Nat) (i : Nat) (mk1 : Nat → Nat), 37 - i < n → (i ≤ 36) → (∀ j, j < i → mk1 j = 0) → ∀ (w1 : Nat → va_E) (H : Heap) (locs : List Loc), gP E ad N w1 H → va_S (gA E) s.heap H locs → bkP N w1 b 12 (MDC E ad b g kp sv bf sd ip sg mk1 td lv tl qs qc qw 0 0 wy de ca ln fa sm pa tm) → gFr (gIn b 12) w w1 → ∀ (ls : Array Slot), lv_has ls 8 [(3, .int (nI (i))), (2, .int (nI (0))), (1, .int (nI (lw))), (0, .ref (ad (b)))] → W p l e (headSpec (lw_ws yX13_lands cX13_lands 8 (some .int)) ({ frames := 3, cells := 0, slots := 0, locals := 66 } : Room)).room s m ([.ref (ad (b)), .int (v)] : List Value).toArray below meth cd H locs 0 0 (MQ below (va_Qi (fun r w' => (∃ mk' td' : Nat → Nat, (∃ lw, inR v 100 = some lw ∧ r = nI (cnt (repB ht lw) 36) ∧ bkP N w' b 12 (MDC E ad b g kp sv bf sd ip sg mk' td' lv tl qs qc qw 0 0 wy de ca ln fa sm pa tm)) ∨ (inR v 100 = none ∧ bkP N w' b 12 (MDC E ad b g kp sv bf sd ip sg mk' td' lv tl qs qc qw 0 1 wy de ca ln fa sm pa tm))) ∧ gFr (gIn b 12) w w') (gB E ad N) (gA E)) ([.ref (ad (b)), .int (v)] : List Value).toArray s 0 0 (gA E)) (F0 m 28 ls []) := by
        intro n
        induction n with
        | zero => intro i mk1 hmeas; omega
        | succ n ih_lpa =>
          intro i mk1 hmeas hi hz1 w1 H locs hP hS hb7 hfr ls hl
          refine lv_iload_n hx hb dX13_lands_28 rfl (lv_at hl 0 rfl) ?_
          refine g_bipush S 36 dX13_lands_29 (by decide +kernel) ?_
          refine g_ge S (a := i) (b := 36) (by omega) (by omega) (tgt := 47) dX13_lands_31 (by decide) (fun h => ?_) (fun h => ?_)
          · have e36 : i = 36 := by omega
            subst e36
            refine g_iconst S 0 dX13_lands_47 (by decide +kernel) ?_
            refine lv_istore_n (lv' := [(3, .int (nI (0))), (2, .int (nI (0))), (1, .int (nI (lw))), (0, .ref (ad (b)))]) hx hb dX13_lands_48 rfl hl (by decide) rfl (fun ls hl => ?_)
            have lpb : ∀ (n : Nat) (k : Nat) (mk2 : Nat → Nat) (td2 : Nat → Nat), 37 - k < n → (k ≤ 36) → (mI ht lw mk2 k) → ∀ (w1 : Nat → va_E) (H : Heap) (locs : List Loc), gP E ad N w1 H → va_S (gA E) s.heap H locs → bkP N w1 b 12 (MDC E ad b g kp sv bf sd ip sg mk2 td2 lv tl qs qc qw 0 0 wy de ca ln fa sm pa tm) → gFr (gIn b 12) w w1 → ∀ (ls : Array Slot), lv_has ls 8 [(3, .int (nI (k))), (2, .int (nI (cnt (repB ht lw) k))), (1, .int (nI (lw))), (0, .ref (ad (b)))] → W p l e (headSpec (lw_ws yX13_lands cX13_lands 8 (some .int)) ({ frames := 3, cells := 0, slots := 0, locals := 66 } : Room)).room s m ([.ref (ad (b)), .int (v)] : List Value).toArray below meth cd H locs 0 0 (MQ below (va_Qi (fun r w' => (∃ mk' td' : Nat → Nat, (∃ lw, inR v 100 = some lw ∧ r = nI (cnt (repB ht lw) 36) ∧ bkP N w' b 12 (MDC E ad b g kp sv bf sd ip sg mk' td' lv tl qs qc qw 0 0 wy de ca ln fa sm pa tm)) ∨ (inR v 100 = none ∧ bkP N w' b 12 (MDC E ad b g kp sv bf sd ip sg mk' td' lv tl qs qc qw 0 1 wy de ca ln fa sm pa tm))) ∧ gFr (gIn b 12) w w') (gB E ad N) (gA E)) ([.ref (ad (b)), .int (v)] : List Value).toArray s 0 0 (gA E)) (F0 m 49 ls []) := by
              intro n
              induction n with
              | zero => intro k mk2 td2 hmeas; omega
              | succ n ih_lpb =>
                intro k mk2 td2 hmeas hk hmI w1 H locs hP hS hb8 hfr ls hl
                have hcl := cnt_le (repB ht lw) k
                refine lv_iload_n hx hb dX13_lands_49 rfl (lv_at hl 0 rfl) ?_
                refine g_bipush S 36 dX13_lands_50 (by decide +kernel) ?_
                refine g_ge S (a := k) (b := 36) (by omega) (by omega) (tgt := 197) dX13_lands_52 (by decide) (fun h3 => ?_) (fun h3 => ?_)
                · have e36 : k = 36 := by omega
                  subst e36
                  refine lv_iload_n hx hb dX13_lands_197 rfl (lv_at hl 1 rfl) ?_
                  exact g_iret S hr hlocks hP hS (⟨⟨mk2, td2, Or.inl ⟨lw, hlw, rfl, hb8⟩⟩, hfr⟩) (fun _ _ => rfl) (Nat.le_of_ble_eq_true rfl) (Nat.le_of_ble_eq_true rfl) dX13_lands_198
                · have zk := hht k h3
                  have zm := hmI.1 k h3
                  refine lv_aload_n hx hb dX13_lands_55 rfl (lv_at hl 3 rfl) ?_
                  refine g_get S hI hP uX13 rfl (fs := _) (hb8.lt 0 (by decide)) (hb8.2 0 (by decide)) 18 (by decide) q1805 rfl (v := .ref (ad (b + 8))) rfl dX13_lands_56 ?_
                  refine lv_iload_n hx hb dX13_lands_59 rfl (lv_at hl 0 rfl) ?_
                  refine g_iald S hI hP (f := fun j => nI (mk2 j)) (hb8.lt 8 (by decide)) (hb8.2 8 (by decide)) (k) (h3) (by decide) dX13_lands_60 ?_
                  refine g_iconst S 1 dX13_lands_61 (by decide +kernel) ?_
                  refine g_eq S (a := mk2 k) (b := 1) (by omega) (by omega) (tgt := 191) dX13_lands_62 (by decide) (fun h4 => ?_) (fun h4 => ?_)
                  · obtain ⟨hn1, hn2⟩ := mI_no hmI h3 (Or.inr h4)
                    refine lv_iinc (v := nI (k + 1)) (lv' := [(3, .int (nI (k + 1))), (2, .int (nI (cnt (repB ht lw) k))), (1, .int (nI (lw))), (0, .ref (ad (b)))]) hx hb dX13_lands_191 hl (k := 0) rfl (g_inc _ 1 (by decide +kernel)) (by decide) rfl (fun ls hl => ?_)
                    refine lv_goto (tgt := 49) hx hb dX13_lands_194 (by decide) ?_
                    have hl : lv_has ls 8 [(3, .int (nI (k + 1))), (2, .int (nI (cnt (repB ht lw) (k + 1)))), (1, .int (nI (lw))), (0, .ref (ad (b)))] := by rw [show cnt (repB ht lw) (k + 1) = cnt (repB ht lw) k from cnt_n hn2]; exact hl
                    exact ih_lpb (k + 1) (mk2) (td2) (by omega) (by omega) (hn1) _ _ _ hP hS hb8 hfr ls (lv_sub hl [0, 1, 2, 3] rfl)
                  · refine lv_aload_n hx hb dX13_lands_65 rfl (lv_at hl 3 rfl) ?_
                    refine lv_iload_n hx hb dX13_lands_66 rfl (lv_at hl 0 rfl) ?_
                    refine g_roi (g_runV S hI hP hS (k := 1) (As := [.int (nI (k))]) (rest := []) (mX13_high l b g kp sv bf sd ip sg mk2 td2 lv tl qs qc qw 0 0 wy de ca ln fa sm pa tm k (ht k) hb8 h3 (hgh k h3)) q1882 q1884 q50 q100 q1885 rfl rfl (by decide +kernel) ⟨Nat.le_of_ble_eq_true rfl, Nat.le_of_ble_eq_true rfl⟩ rfl (hb8.lt 0 (by decide)) (hb8.2 0 (by decide)) rfl hl.1 rfl (Nat.le_of_ble_eq_true rfl) ⟨(Nat.le_of_ble_eq_true rfl), (Nat.le_of_ble_eq_true rfl)⟩ dX13_lands_67) hS (fun H locs hP hS => ?_)
                    refine lv_iload_n hx hb dX13_lands_70 rfl (lv_at hl 2 rfl) ?_
                    refine g_ge S (a := ht k) (b := lw) (by omega) (by omega) (tgt := 77) dX13_lands_71 (by decide) (fun h5 => ?_) (fun h5 => ?_)
                    · have hm0 : mk2 k = 0 := by omega
                      refine lv_iinc (v := nI (cnt (repB ht lw) k + 1)) (lv' := [(2, .int (nI (cnt (repB ht lw) k + 1))), (3, .int (nI (k))), (1, .int (nI (lw))), (0, .ref (ad (b)))]) hx hb dX13_lands_77 hl (k := 1) rfl (g_inc _ 1 (by decide +kernel)) (by decide) rfl (fun ls hl => ?_)
                      refine g_iconst S 1 dX13_lands_80 (by decide +kernel) ?_
                      refine lv_istore (lv' := [(4, .int (nI (1))), (2, .int (nI (cnt (repB ht lw) k + 1))), (3, .int (nI (k))), (1, .int (nI (lw))), (0, .ref (ad (b)))]) hx hb dX13_lands_81 hl (by decide) rfl (fun ls hl => ?_)
                      refine lv_aload_n hx hb dX13_lands_83 rfl (lv_at hl 4 rfl) ?_
                      refine g_get S hI hP uX13 rfl (fs := _) (hb8.lt 0 (by decide)) (hb8.2 0 (by decide)) 19 (by decide) q1806 rfl (v := .ref (ad (b + 9))) rfl dX13_lands_84 ?_
                      refine g_iconst S 0 dX13_lands_87 (by decide +kernel) ?_
                      refine lv_iload_n hx hb dX13_lands_88 rfl (lv_at hl 2 rfl) ?_
                      refine g_iastN S hI hP hS (f := td2) (x := k) (hb8.lt 9 (by decide)) (hb8.2 9 (by decide)) (0) (by decide) (by decide) dX13_lands_89 (fun H locs hP hS => ?_)
                      have hP : gP E ad N (va_up _ (b + 9) (MDC E ad b g kp sv bf sd ip sg mk2 (va_up td2 0 k) lv tl qs qc qw 0 0 wy de ca ln fa sm pa tm 9)) H := hP
                      have hb9 : bkP N (va_up _ (b + 9) (MDC E ad b g kp sv bf sd ip sg mk2 (va_up td2 0 k) lv tl qs qc qw 0 0 wy de ca ln fa sm pa tm 9)) b 12 (MDC E ad b g kp sv bf sd ip sg mk2 (va_up td2 0 k) lv tl qs qc qw 0 0 wy de ca ln fa sm pa tm) := MD_setA8 hb8 _
                      have hfr := hfr.up (p := b + 9) (e := MDC E ad b g kp sv bf sd ip sg mk2 (va_up td2 0 k) lv tl qs qc qw 0 0 wy de ca ln fa sm pa tm 9) (by show _ ∧ _; omega)
                      refine lv_aload_n hx hb dX13_lands_90 rfl (lv_at hl 4 rfl) ?_
                      refine g_get S hI hP uX13 rfl (fs := _) (hb9.lt 0 (by decide)) (hb9.2 0 (by decide)) 18 (by decide) q1805 rfl (v := .ref (ad (b + 8))) rfl dX13_lands_91 ?_
                      refine lv_iload_n hx hb dX13_lands_94 rfl (lv_at hl 2 rfl) ?_
                      refine g_iconst S 1 dX13_lands_95 (by decide +kernel) ?_
                      refine g_iastN S hI hP hS (f := mk2) (x := 1) (hb9.lt 8 (by decide)) (hb9.2 8 (by decide)) (k) (h3) (by decide) dX13_lands_96 (fun H locs hP hS => ?_)
                      have hP : gP E ad N (va_up _ (b + 8) (MDC E ad b g kp sv bf sd ip sg (va_up mk2 k 1) (va_up td2 0 k) lv tl qs qc qw 0 0 wy de ca ln fa sm pa tm 8)) H := hP
                      have hb10 : bkP N (va_up _ (b + 8) (MDC E ad b g kp sv bf sd ip sg (va_up mk2 k 1) (va_up td2 0 k) lv tl qs qc qw 0 0 wy de ca ln fa sm pa tm 8)) b 12 (MDC E ad b g kp sv bf sd ip sg (va_up mk2 k 1) (va_up td2 0 k) lv tl qs qc qw 0 0 wy de ca ln fa sm pa tm) := MD_setA7 hb9 _
                      have hfr := hfr.up (p := b + 8) (e := MDC E ad b g kp sv bf sd ip sg (va_up mk2 k 1) (va_up td2 0 k) lv tl qs qc qw 0 0 wy de ca ln fa sm pa tm 8) (by show _ ∧ _; omega)
                      refine g_iconst S 0 dX13_lands_97 (by decide +kernel) ?_
                      refine lv_istore (lv' := [(5, .int (nI (0))), (4, .int (nI (1))), (2, .int (nI (cnt (repB ht lw) k + 1))), (3, .int (nI (k))), (1, .int (nI (lw))), (0, .ref (ad (b)))]) hx hb dX13_lands_98 hl (by decide) rfl (fun ls hl => ?_)
                      have hfv := fiv_new (ok := isOk ht lw) (td := td2) hmI.1
                      obtain ⟨z0, hz0⟩ : ∃ z : T3, z = flR (mk2, td2, 0) k := ⟨_, rfl⟩
                      have hz0e : z0 = (va_up mk2 k 1, va_up td2 0 k, 1) := by rw [hz0]; exact flR_new hm0 (show 0 < 36 by decide)
                      have hfz := (flR_fiv hfv h3).1
                      rw [← hz0] at hfz
                      obtain ⟨hs1, hs2, hs3⟩ := fl_step hfv rfl (mI_clo hmI) (mI_clo hmI) h3
                      rw [← hz0] at hs1 hs2 hs3
                      have lpc : ∀ (n : Nat) (i : Nat) (z1 : T3), 37 - i < n → (fiv (isOk ht lw) mk2 z1 i) → (bfsG (isOk ht lw) (36 - i) (z1, i) = bfsG (isOk ht lw) 36 (z0, 0)) → ∀ (w1 : Nat → va_E) (H : Heap) (locs : List Loc), gP E ad N w1 H → va_S (gA E) s.heap H locs → bkP N w1 b 12 (MDC E ad b g kp sv bf sd ip sg z1.1 z1.2.1 lv tl qs qc qw 0 0 wy de ca ln fa sm pa tm) → gFr (gIn b 12) w w1 → ∀ (ls : Array Slot), lv_has ls 8 [(5, .int (nI (i))), (4, .int (nI (z1.2.2))), (3, .int (nI (k))), (2, .int (nI (cnt (repB ht lw) k + 1))), (1, .int (nI (lw))), (0, .ref (ad (b)))] → W p l e (headSpec (lw_ws yX13_lands cX13_lands 8 (some .int)) ({ frames := 3, cells := 0, slots := 0, locals := 66 } : Room)).room s m ([.ref (ad (b)), .int (v)] : List Value).toArray below meth cd H locs 0 0 (MQ below (va_Qi (fun r w' => (∃ mk' td' : Nat → Nat, (∃ lw, inR v 100 = some lw ∧ r = nI (cnt (repB ht lw) 36) ∧ bkP N w' b 12 (MDC E ad b g kp sv bf sd ip sg mk' td' lv tl qs qc qw 0 0 wy de ca ln fa sm pa tm)) ∨ (inR v 100 = none ∧ bkP N w' b 12 (MDC E ad b g kp sv bf sd ip sg mk' td' lv tl qs qc qw 0 1 wy de ca ln fa sm pa tm))) ∧ gFr (gIn b 12) w w') (gB E ad N) (gA E)) ([.ref (ad (b)), .int (v)] : List Value).toArray s 0 0 (gA E)) (F0 m 100 ls []) := by
                        intro n
                        induction n with
                        | zero => intro i z1 hmeas; omega
                        | succ n ih_lpc =>
                          intro i z1 hmeas hfi hbf w1 H locs hP hS hb11 hfr ls hl
                          have hzb := hfi.1.2.1
                          have hzt := hfi.2.1
                          refine lv_iload hx hb dX13_lands_100 (lv_at hl 0 rfl) ?_
                          refine lv_iload hx hb dX13_lands_102 (lv_at hl 1 rfl) ?_
                          refine g_ge S (a := i) (b := z1.2.2) (by omega) (by omega) (tgt := 191) dX13_lands_104 (by decide) (fun h6 => ?_) (fun h6 => ?_)
                          · rw [bfsG_end (s := (z1, i)) h6] at hbf
                            rw [← hbf] at hs1 hs2 hs3
                            obtain ⟨hn1, hn2⟩ := mI_yes hmI h3 h5 (by omega) hs1.1.2.2 hs3
                            refine lv_iinc (v := nI (k + 1)) (lv' := [(3, .int (nI (k + 1))), (5, .int (nI (i))), (4, .int (nI (z1.2.2))), (2, .int (nI (cnt (repB ht lw) k + 1))), (1, .int (nI (lw))), (0, .ref (ad (b)))]) hx hb dX13_lands_191 hl (k := 2) rfl (g_inc _ 1 (by decide +kernel)) (by decide) rfl (fun ls hl => ?_)
                            refine lv_goto (tgt := 49) hx hb dX13_lands_194 (by decide) ?_
                            have hl : lv_has ls 8 [(3, .int (nI (k + 1))), (5, .int (nI (i))), (4, .int (nI (z1.2.2))), (2, .int (nI (cnt (repB ht lw) (k + 1)))), (1, .int (nI (lw))), (0, .ref (ad (b)))] := by rw [show cnt (repB ht lw) (k + 1) = cnt (repB ht lw) k + 1 from cnt_y hn2]; exact hl
                            exact ih_lpb (k + 1) (z1.1) (z1.2.1) (by omega) (by omega) (hn1) _ _ _ hP hS hb11 hfr ls (lv_sub hl [0, 3, 4, 5] rfl)
                          · obtain ⟨c, hce⟩ : ∃ c, c = z1.2.1 i := ⟨_, rfl⟩
                            have hc : c < 36 := by rw [hce]; exact hfi.1.1 i h6
                            refine g_iconst S 0 dX13_lands_107 (by decide +kernel) ?_
                            refine lv_istore (lv' := [(6, .int (nI (0))), (5, .int (nI (i))), (4, .int (nI (z1.2.2))), (3, .int (nI (k))), (2, .int (nI (cnt (repB ht lw) k + 1))), (1, .int (nI (lw))), (0, .ref (ad (b)))]) hx hb dX13_lands_108 hl (by decide) rfl (fun ls hl => ?_)
                            have lpd : ∀ (n : Nat) (d : Nat), 5 - d < n → (d ≤ 4) → ∀ (w1 : Nat → va_E) (H : Heap) (locs : List Loc), gP E ad N w1 H → va_S (gA E) s.heap H locs → bkP N w1 b 12 (MDC E ad b g kp sv bf sd ip sg ((flD (isOk ht lw) c d z1).1) ((flD (isOk ht lw) c d z1).2.1) lv tl qs qc qw 0 0 wy de ca ln fa sm pa tm) → gFr (gIn b 12) w w1 → ∀ (ls : Array Slot), lv_has ls 8 [(6, .int (nI (d))), (5, .int (nI (i))), (4, .int (nI ((flD (isOk ht lw) c d z1).2.2))), (3, .int (nI (k))), (2, .int (nI (cnt (repB ht lw) k + 1))), (1, .int (nI (lw))), (0, .ref (ad (b)))] → W p l e (headSpec (lw_ws yX13_lands cX13_lands 8 (some .int)) ({ frames := 3, cells := 0, slots := 0, locals := 66 } : Room)).room s m ([.ref (ad (b)), .int (v)] : List Value).toArray below meth cd H locs 0 0 (MQ below (va_Qi (fun r w' => (∃ mk' td' : Nat → Nat, (∃ lw, inR v 100 = some lw ∧ r = nI (cnt (repB ht lw) 36) ∧ bkP N w' b 12 (MDC E ad b g kp sv bf sd ip sg mk' td' lv tl qs qc qw 0 0 wy de ca ln fa sm pa tm)) ∨ (inR v 100 = none ∧ bkP N w' b 12 (MDC E ad b g kp sv bf sd ip sg mk' td' lv tl qs qc qw 0 1 wy de ca ln fa sm pa tm))) ∧ gFr (gIn b 12) w w') (gB E ad N) (gA E)) ([.ref (ad (b)), .int (v)] : List Value).toArray s 0 0 (gA E)) (F0 m 110 ls []) := by
                              intro n
                              induction n with
                              | zero => intro d hmeas; omega
                              | succ n ih_lpd =>
                                intro d hmeas hd w1 H locs hP hS hb12 hfr ls hl
                                obtain ⟨hfd, hst, -, -⟩ := flD_fiv hfi hc d
                                have hdb := hfd.1.2.1
                                refine lv_iload hx hb dX13_lands_110 (lv_at hl 0 rfl) ?_
                                refine g_iconst S 4 dX13_lands_112 (by decide +kernel) ?_
                                refine g_ge S (a := d) (b := 4) (by omega) (by omega) (tgt := 185) dX13_lands_113 (by decide) (fun h7 => ?_) (fun h7 => ?_)
                                · have e_d : d = 4 := by omega
                                  subst e_d
                                  refine lv_iinc (v := nI (i + 1)) (lv' := [(5, .int (nI (i + 1))), (6, .int (nI (4))), (4, .int (nI ((flD (isOk ht lw) c 4 z1).2.2))), (3, .int (nI (k))), (2, .int (nI (cnt (repB ht lw) k + 1))), (1, .int (nI (lw))), (0, .ref (ad (b)))]) hx hb dX13_lands_185 hl (k := 1) rfl (g_inc _ 1 (by decide +kernel)) (by decide) rfl (fun ls hl => ?_)
                                  refine lv_goto (tgt := 100) hx hb dX13_lands_188 (by decide) ?_
                                  exact ih_lpc (i + 1) ((flD (isOk ht lw) c 4 z1)) (by omega) (by rw [hce]; exact bfs_one hfi h6) (by rw [← hbf, show 36 - i = (36 - (i + 1)) + 1 by omega, bfsG_step h6, hce]) _ _ _ hP hS hb12 hfr ls (lv_sub hl [0, 2, 3, 4, 5, 6] rfl)
                                · refine lv_aload_n hx hb dX13_lands_116 rfl (lv_at hl 6 rfl) ?_
                                  refine g_get S hI hP uX13 rfl (fs := _) (hb12.lt 0 (by decide)) (hb12.2 0 (by decide)) 19 (by decide) q1806 rfl (v := .ref (ad (b + 9))) rfl dX13_lands_117 ?_
                                  refine lv_iload hx hb dX13_lands_120 (lv_at hl 1 rfl) ?_
                                  refine g_iald S hI hP (f := fun j => nI (((flD (isOk ht lw) c d z1).2.1) j)) (hb12.lt 9 (by decide)) (hb12.2 9 (by decide)) (i) (by omega) (by decide) dX13_lands_122 ?_
                                  rw [show (flD (isOk ht lw) c d z1).2.1 i = c by rw [hst.2.1 i h6, hce]]
                                  refine lv_iload hx hb dX13_lands_123 (lv_at hl 0 rfl) ?_
                                  refine g_roi (g_runS S hI hP hS (k := 2) (As := [.int (nI (c)), .int (nI (d))]) (rest := []) (mX13_beside l c d hc h7) q1917 q1918 q100 q1919 rfl rfl (by decide +kernel) ⟨Nat.le_of_ble_eq_true rfl, Nat.le_of_ble_eq_true rfl⟩ rfl hl.1 rfl (Nat.le_of_ble_eq_true rfl) ⟨(Nat.le_of_ble_eq_true rfl), (Nat.le_of_ble_eq_true rfl)⟩ dX13_lands_125) hS (fun H locs hP hS => ?_)
                                  refine lv_istore (lv' := [(7, .int (oI (nb c d))), (6, .int (nI (d))), (5, .int (nI (i))), (4, .int (nI ((flD (isOk ht lw) c d z1).2.2))), (3, .int (nI (k))), (2, .int (nI (cnt (repB ht lw) k + 1))), (1, .int (nI (lw))), (0, .ref (ad (b)))]) hx hb dX13_lands_128 hl (by decide) rfl (fun ls hl => ?_)
                                  refine lv_iload hx hb dX13_lands_130 (lv_at hl 0 rfl) ?_
                                  refine g_oltZ S (o := nb c d) (fun j hj => Nat.lt_trans (nb_lt hc hj) (by decide)) (tgt := 179) dX13_lands_132 (by decide) (fun hn => ?_) (fun hn_k hn => ?_)
                                  · refine lv_iinc (v := nI (d + 1)) (lv' := [(6, .int (nI (d + 1))), (7, .int (oI (nb c d))), (5, .int (nI (i))), (4, .int (nI ((flD (isOk ht lw) c d z1).2.2))), (3, .int (nI (k))), (2, .int (nI (cnt (repB ht lw) k + 1))), (1, .int (nI (lw))), (0, .ref (ad (b)))]) hx hb dX13_lands_179 hl (k := 1) rfl (g_inc _ 1 (by decide +kernel)) (by decide) rfl (fun ls hl => ?_)
                                    refine lv_goto (tgt := 110) hx hb dX13_lands_182 (by decide) ?_
                                    have hnx : (flD (isOk ht lw) c (d + 1) z1) = (flD (isOk ht lw) c d z1) := by simp only [flD, hn]
                                    rw [← hnx] at hl
                                    rw [← hnx] at hb12
                                    (try rw [← hnx] at hP)
                                    (try rw [← hnx] at hfr)
                                    exact ih_lpd (d + 1) (by omega) (by omega) _ _ _ hP hS hb12 hfr ls (lv_sub hl [0, 2, 3, 4, 5, 6, 7] rfl)
                                  · have hk36 := nb_lt hc hn
                                    have zn := hht hn_k hk36
                                    have zq := hfd.1.2.2 hn_k hk36
                                    have hl : lv_has ls 8 [(7, .int (nI (hn_k))), (6, .int (nI (d))), (5, .int (nI (i))), (4, .int (nI ((flD (isOk ht lw) c d z1).2.2))), (3, .int (nI (k))), (2, .int (nI (cnt (repB ht lw) k + 1))), (1, .int (nI (lw))), (0, .ref (ad (b)))] := by rw [hn] at hl; exact hl
                                    refine lv_aload_n hx hb dX13_lands_135 rfl (lv_at hl 7 rfl) ?_
                                    refine g_get S hI hP uX13 rfl (fs := _) (hb12.lt 0 (by decide)) (hb12.2 0 (by decide)) 18 (by decide) q1805 rfl (v := .ref (ad (b + 8))) rfl dX13_lands_136 ?_
                                    refine lv_iload hx hb dX13_lands_139 (lv_at hl 0 rfl) ?_
                                    refine g_iald S hI hP (f := fun j => nI (((flD (isOk ht lw) c d z1).1) j)) (hb12.lt 8 (by decide)) (hb12.2 8 (by decide)) (hn_k) (hk36) (by decide) dX13_lands_141 ?_
                                    refine g_iconst S 1 dX13_lands_142 (by decide +kernel) ?_
                                    refine g_eq S (a := ((flD (isOk ht lw) c d z1).1) hn_k) (b := 1) (by omega) (by omega) (tgt := 179) dX13_lands_143 (by decide) (fun h9 => ?_) (fun h9 => ?_)
                                    · refine lv_iinc (v := nI (d + 1)) (lv' := [(6, .int (nI (d + 1))), (7, .int (nI (hn_k))), (5, .int (nI (i))), (4, .int (nI ((flD (isOk ht lw) c d z1).2.2))), (3, .int (nI (k))), (2, .int (nI (cnt (repB ht lw) k + 1))), (1, .int (nI (lw))), (0, .ref (ad (b)))]) hx hb dX13_lands_179 hl (k := 1) rfl (g_inc _ 1 (by decide +kernel)) (by decide) rfl (fun ls hl => ?_)
                                      refine lv_goto (tgt := 110) hx hb dX13_lands_182 (by decide) ?_
                                      have hnx : (flD (isOk ht lw) c (d + 1) z1) = (flD (isOk ht lw) c d z1) := by simp only [flD, hn]; split; exact flR_old h9; rfl
                                      rw [← hnx] at hl
                                      rw [← hnx] at hb12
                                      (try rw [← hnx] at hP)
                                      (try rw [← hnx] at hfr)
                                      exact ih_lpd (d + 1) (by omega) (by omega) _ _ _ hP hS hb12 hfr ls (lv_sub hl [0, 2, 3, 4, 5, 6, 7] rfl)
                                    · refine lv_aload_n hx hb dX13_lands_146 rfl (lv_at hl 7 rfl) ?_
                                      refine lv_iload hx hb dX13_lands_147 (lv_at hl 0 rfl) ?_
                                      refine g_roi (g_runV S hI hP hS (k := 1) (As := [.int (nI (hn_k))]) (rest := []) (mX13_high l b g kp sv bf sd ip sg ((flD (isOk ht lw) c d z1).1) ((flD (isOk ht lw) c d z1).2.1) lv tl qs qc qw 0 0 wy de ca ln fa sm pa tm hn_k (ht hn_k) hb12 hk36 (hgh hn_k hk36)) q1882 q1884 q50 q100 q1885 rfl rfl (by decide +kernel) ⟨Nat.le_of_ble_eq_true rfl, Nat.le_of_ble_eq_true rfl⟩ rfl (hb12.lt 0 (by decide)) (hb12.2 0 (by decide)) rfl hl.1 rfl (Nat.le_of_ble_eq_true rfl) ⟨(Nat.le_of_ble_eq_true rfl), (Nat.le_of_ble_eq_true rfl)⟩ dX13_lands_149) hS (fun H locs hP hS => ?_)
                                      refine lv_iload_n hx hb dX13_lands_152 rfl (lv_at hl 6 rfl) ?_
                                      refine g_ge S (a := ht hn_k) (b := lw) (by omega) (by omega) (tgt := 159) dX13_lands_153 (by decide) (fun ha => ?_) (fun ha => ?_)
                                      · have hq0 : (flD (isOk ht lw) c d z1).1 hn_k = 0 := by omega
                                        have hrm := fiv_room hfd hk36 hq0
                                        refine lv_aload_n hx hb dX13_lands_159 rfl (lv_at hl 7 rfl) ?_
                                        refine g_get S hI hP uX13 rfl (fs := _) (hb12.lt 0 (by decide)) (hb12.2 0 (by decide)) 18 (by decide) q1805 rfl (v := .ref (ad (b + 8))) rfl dX13_lands_160 ?_
                                        refine lv_iload hx hb dX13_lands_163 (lv_at hl 0 rfl) ?_
                                        refine g_iconst S 1 dX13_lands_165 (by decide +kernel) ?_
                                        refine g_iastN S hI hP hS (f := (flD (isOk ht lw) c d z1).1) (x := 1) (hb12.lt 8 (by decide)) (hb12.2 8 (by decide)) (hn_k) (hk36) (by decide) dX13_lands_166 (fun H locs hP hS => ?_)
                                        have hP : gP E ad N (va_up _ (b + 8) (MDC E ad b g kp sv bf sd ip sg (va_up ((flD (isOk ht lw) c d z1).1) hn_k 1) ((flD (isOk ht lw) c d z1).2.1) lv tl qs qc qw 0 0 wy de ca ln fa sm pa tm 8)) H := hP
                                        have hb13 : bkP N (va_up _ (b + 8) (MDC E ad b g kp sv bf sd ip sg (va_up ((flD (isOk ht lw) c d z1).1) hn_k 1) ((flD (isOk ht lw) c d z1).2.1) lv tl qs qc qw 0 0 wy de ca ln fa sm pa tm 8)) b 12 (MDC E ad b g kp sv bf sd ip sg (va_up ((flD (isOk ht lw) c d z1).1) hn_k 1) ((flD (isOk ht lw) c d z1).2.1) lv tl qs qc qw 0 0 wy de ca ln fa sm pa tm) := MD_setA7 hb12 _
                                        have hfr := hfr.up (p := b + 8) (e := MDC E ad b g kp sv bf sd ip sg (va_up ((flD (isOk ht lw) c d z1).1) hn_k 1) ((flD (isOk ht lw) c d z1).2.1) lv tl qs qc qw 0 0 wy de ca ln fa sm pa tm 8) (by show _ ∧ _; omega)
                                        refine lv_aload_n hx hb dX13_lands_167 rfl (lv_at hl 7 rfl) ?_
                                        refine g_get S hI hP uX13 rfl (fs := _) (hb13.lt 0 (by decide)) (hb13.2 0 (by decide)) 19 (by decide) q1806 rfl (v := .ref (ad (b + 9))) rfl dX13_lands_168 ?_
                                        refine lv_iload hx hb dX13_lands_171 (lv_at hl 3 rfl) ?_
                                        refine lv_iload hx hb dX13_lands_173 (lv_at hl 0 rfl) ?_
                                        refine g_iastN S hI hP hS (f := (flD (isOk ht lw) c d z1).2.1) (x := hn_k) (hb13.lt 9 (by decide)) (hb13.2 9 (by decide)) ((flD (isOk ht lw) c d z1).2.2) (hrm) (by decide) dX13_lands_175 (fun H locs hP hS => ?_)
                                        have hP : gP E ad N (va_up _ (b + 9) (MDC E ad b g kp sv bf sd ip sg (va_up ((flD (isOk ht lw) c d z1).1) hn_k 1) (va_up ((flD (isOk ht lw) c d z1).2.1) ((flD (isOk ht lw) c d z1).2.2) hn_k) lv tl qs qc qw 0 0 wy de ca ln fa sm pa tm 9)) H := hP
                                        have hb14 : bkP N (va_up _ (b + 9) (MDC E ad b g kp sv bf sd ip sg (va_up ((flD (isOk ht lw) c d z1).1) hn_k 1) (va_up ((flD (isOk ht lw) c d z1).2.1) ((flD (isOk ht lw) c d z1).2.2) hn_k) lv tl qs qc qw 0 0 wy de ca ln fa sm pa tm 9)) b 12 (MDC E ad b g kp sv bf sd ip sg (va_up ((flD (isOk ht lw) c d z1).1) hn_k 1) (va_up ((flD (isOk ht lw) c d z1).2.1) ((flD (isOk ht lw) c d z1).2.2) hn_k) lv tl qs qc qw 0 0 wy de ca ln fa sm pa tm) := MD_setA8 hb13 _
                                        have hfr := hfr.up (p := b + 9) (e := MDC E ad b g kp sv bf sd ip sg (va_up ((flD (isOk ht lw) c d z1).1) hn_k 1) (va_up ((flD (isOk ht lw) c d z1).2.1) ((flD (isOk ht lw) c d z1).2.2) hn_k) lv tl qs qc qw 0 0 wy de ca ln fa sm pa tm 9) (by show _ ∧ _; omega)
                                        refine lv_iinc (v := nI ((flD (isOk ht lw) c d z1).2.2 + 1)) (lv' := [(4, .int (nI ((flD (isOk ht lw) c d z1).2.2 + 1))), (7, .int (nI (hn_k))), (6, .int (nI (d))), (5, .int (nI (i))), (3, .int (nI (k))), (2, .int (nI (cnt (repB ht lw) k + 1))), (1, .int (nI (lw))), (0, .ref (ad (b)))]) hx hb dX13_lands_176 hl (k := 3) rfl (g_inc _ 1 (by decide +kernel)) (by decide) rfl (fun ls hl => ?_)
                                        refine lv_iinc (v := nI (d + 1)) (lv' := [(6, .int (nI (d + 1))), (4, .int (nI ((flD (isOk ht lw) c d z1).2.2 + 1))), (7, .int (nI (hn_k))), (5, .int (nI (i))), (3, .int (nI (k))), (2, .int (nI (cnt (repB ht lw) k + 1))), (1, .int (nI (lw))), (0, .ref (ad (b)))]) hx hb dX13_lands_179 hl (k := 2) rfl (g_inc _ 1 (by decide +kernel)) (by decide) rfl (fun ls hl => ?_)
                                        refine lv_goto (tgt := 110) hx hb dX13_lands_182 (by decide) ?_
                                        have hnx : (flD (isOk ht lw) c (d + 1) z1) = (va_up (flD (isOk ht lw) c d z1).1 hn_k 1, va_up (flD (isOk ht lw) c d z1).2.1 (flD (isOk ht lw) c d z1).2.2 hn_k, (flD (isOk ht lw) c d z1).2.2 + 1) := by rw [← flR_new hq0 hrm]; simp only [flD, hn]; rw [if_pos (decide_eq_true ha)]
                                        have hx1 : va_up (flD (isOk ht lw) c d z1).1 hn_k 1 = (flD (isOk ht lw) c (d + 1) z1).1 := by rw [hnx]
                                        have hx2 : va_up (flD (isOk ht lw) c d z1).2.1 (flD (isOk ht lw) c d z1).2.2 hn_k = (flD (isOk ht lw) c (d + 1) z1).2.1 := by rw [hnx]
                                        have hx3 : (flD (isOk ht lw) c d z1).2.2 + 1 = (flD (isOk ht lw) c (d + 1) z1).2.2 := by rw [hnx]
                                        rw [hx1, hx2] at hP hfr hb14
                                        rw [hx3] at hl
                                        exact ih_lpd (d + 1) (by omega) (by omega) _ _ _ hP hS hb14 hfr ls (lv_sub hl [0, 3, 1, 4, 5, 6, 7] rfl)
                                      · refine lv_goto (tgt := 179) hx hb dX13_lands_156 (by decide) ?_
                                        refine lv_iinc (v := nI (d + 1)) (lv' := [(6, .int (nI (d + 1))), (7, .int (nI (hn_k))), (5, .int (nI (i))), (4, .int (nI ((flD (isOk ht lw) c d z1).2.2))), (3, .int (nI (k))), (2, .int (nI (cnt (repB ht lw) k + 1))), (1, .int (nI (lw))), (0, .ref (ad (b)))]) hx hb dX13_lands_179 hl (k := 1) rfl (g_inc _ 1 (by decide +kernel)) (by decide) rfl (fun ls hl => ?_)
                                        refine lv_goto (tgt := 110) hx hb dX13_lands_182 (by decide) ?_
                                        have hnx : (flD (isOk ht lw) c (d + 1) z1) = (flD (isOk ht lw) c d z1) := by simp only [flD, hn]; rw [if_neg (by simp only [decide_eq_true_iff]; omega)]
                                        rw [← hnx] at hl
                                        rw [← hnx] at hb12
                                        (try rw [← hnx] at hP)
                                        (try rw [← hnx] at hfr)
                                        exact ih_lpd (d + 1) (by omega) (by omega) _ _ _ hP hS hb12 hfr ls (lv_sub hl [0, 2, 3, 4, 5, 6, 7] rfl)
                            exact lpd (5 - (0) + 1) (0) (Nat.lt_succ_self _) (by omega) _ _ _ hP hS hb11 hfr ls (lv_sub hl [0, 1, 2, 3, 4, 5, 6] rfl)
                      have hu1 : va_up mk2 k 1 = z0.1 := by rw [hz0e]
                      have hu2 : va_up td2 0 k = z0.2.1 := by rw [hz0e]
                      have hu3 : 1 = z0.2.2 := by rw [hz0e]
                      rw [hu1, hu2] at hP hfr hb10
                      have hl : lv_has ls 8 [(5, .int (nI (0))), (4, .int (nI (z0.2.2))), (2, .int (nI (cnt (repB ht lw) k + 1))), (3, .int (nI (k))), (1, .int (nI (lw))), (0, .ref (ad (b)))] := by rw [← hu3]; exact hl
                      exact lpc (37 - (0) + 1) (0) (z0) (Nat.lt_succ_self _) (hfz) (rfl) _ _ _ hP hS hb10 hfr ls (lv_sub hl [0, 1, 3, 2, 4, 5] rfl)
                    · obtain ⟨hn1, hn2⟩ := mI_no hmI h3 (Or.inl (by omega))
                      refine lv_goto (tgt := 191) hx hb dX13_lands_74 (by decide) ?_
                      refine lv_iinc (v := nI (k + 1)) (lv' := [(3, .int (nI (k + 1))), (2, .int (nI (cnt (repB ht lw) k))), (1, .int (nI (lw))), (0, .ref (ad (b)))]) hx hb dX13_lands_191 hl (k := 0) rfl (g_inc _ 1 (by decide +kernel)) (by decide) rfl (fun ls hl => ?_)
                      refine lv_goto (tgt := 49) hx hb dX13_lands_194 (by decide) ?_
                      have hl : lv_has ls 8 [(3, .int (nI (k + 1))), (2, .int (nI (cnt (repB ht lw) (k + 1)))), (1, .int (nI (lw))), (0, .ref (ad (b)))] := by rw [show cnt (repB ht lw) (k + 1) = cnt (repB ht lw) k from cnt_n hn2]; exact hl
                      exact ih_lpb (k + 1) (mk2) (td2) (by omega) (by omega) (hn1) _ _ _ hP hS hb8 hfr ls (lv_sub hl [0, 1, 2, 3] rfl)
            exact lpb (37 - (0) + 1) (0) (mk1) (td) (Nat.lt_succ_self _) (by omega) (mI_0 hz1) _ _ _ hP hS hb7 hfr ls (lv_sub hl [0, 1, 2, 3] rfl)
          · refine lv_aload_n hx hb dX13_lands_34 rfl (lv_at hl 3 rfl) ?_
            refine g_get S hI hP uX13 rfl (fs := _) (hb7.lt 0 (by decide)) (hb7.2 0 (by decide)) 18 (by decide) q1805 rfl (v := .ref (ad (b + 8))) rfl dX13_lands_35 ?_
            refine lv_iload_n hx hb dX13_lands_38 rfl (lv_at hl 0 rfl) ?_
            refine g_iconst S 0 dX13_lands_39 (by decide +kernel) ?_
            refine g_iastN S hI hP hS (f := mk1) (x := 0) (hb7.lt 8 (by decide)) (hb7.2 8 (by decide)) (i) (h) (by decide) dX13_lands_40 (fun H locs hP hS => ?_)
            have hP : gP E ad N (va_up _ (b + 8) (MDC E ad b g kp sv bf sd ip sg (va_up mk1 i 0) td lv tl qs qc qw 0 0 wy de ca ln fa sm pa tm 8)) H := hP
            have hb15 : bkP N (va_up _ (b + 8) (MDC E ad b g kp sv bf sd ip sg (va_up mk1 i 0) td lv tl qs qc qw 0 0 wy de ca ln fa sm pa tm 8)) b 12 (MDC E ad b g kp sv bf sd ip sg (va_up mk1 i 0) td lv tl qs qc qw 0 0 wy de ca ln fa sm pa tm) := MD_setA7 hb7 _
            have hfr := hfr.up (p := b + 8) (e := MDC E ad b g kp sv bf sd ip sg (va_up mk1 i 0) td lv tl qs qc qw 0 0 wy de ca ln fa sm pa tm 8) (by show _ ∧ _; omega)
            refine lv_iinc (v := nI (i + 1)) (lv' := [(3, .int (nI (i + 1))), (2, .int (nI (0))), (1, .int (nI (lw))), (0, .ref (ad (b)))]) hx hb dX13_lands_41 hl (k := 0) rfl (g_inc _ 1 (by decide +kernel)) (by decide) rfl (fun ls hl => ?_)
            refine lv_goto (tgt := 28) hx hb dX13_lands_44 (by decide) ?_
            exact ih_lpa (i + 1) (va_up mk1 i 0) (by omega) (by omega) (fun j hj => by by_cases q : j = i; rw [q, va_up_self]; rw [va_up_ne _ _ q]; exact hz1 j (by omega)) _ _ _ hP hS hb15 hfr ls (lv_sub hl [0, 1, 2, 3] rfl)
      exact lpa (37 - (0) + 1) (0) (mk) (Nat.lt_succ_self _) (by omega) (fun j hj => absurd hj (Nat.not_lt_zero _)) _ _ _ hP hS hb4 hfr ls (lv_sub hl [0, 1, 3, 2] rfl)
    · exact absurd hfk (by decide)
set_option maxHeartbeats 4000000 in
set_option maxRecDepth 100000 in
/-- islands -/
theorem mX13_islands (l : Launch) {E : gE} {ad : Nat → Nat} {N : Nat} {w : Nat → va_E} (b : Nat) (g kp sv bf sd ip sg mk td lv tl : Nat → Nat) (qs qc qw qd co wy : Nat) (de : Int32) (ca ln : Nat) (fa : Option Nat) (sm pa tm : Nat) (ht dr pg wt wr mo : Nat → Nat) (mc ni po dn : Nat) (v : Int32) (hb_m : bkP N w b 12 (MDC E ad b g kp sv bf sd ip sg mk td lv tl qs qc qw qd co wy de ca ln fa sm pa tm)) (hR : mRg g ht pg wt wr mo mc ni po dn) (hht : ∀ k, k < 36 → ht k ≤ 99) : gMi l yX13_islands (lw_ws yX13_islands cX13_islands 2 (some .int)) ({ frames := 4, cells := 0, slots := 0, locals := 93 } : Room) E ad N w [.ref (ad (b)), .int (v)] (fun r w' => (∃ mk' td' : Nat → Nat, (∃ lw, inR v 100 = some lw ∧ r = nI (cnt (repB ht lw) 36) ∧ bkP N w' b 12 (MDC E ad b g kp sv bf sd ip sg mk' td' lv tl qs qc qw 0 0 wy de ca ln fa sm pa tm)) ∨ (inR v 100 = none ∧ bkP N w' b 12 (MDC E ad b g kp sv bf sd ip sg mk' td' lv tl qs qc qw 0 1 wy de ca ln fa sm pa tm))) ∧ gFr (gIn b 12) w w') 0 0 := by
  refine Met.ofW (cc := cX13_islands) (maxL := 2) (ret := (some .int)) (by decide) rfl ?_
  intro p e s m args below meth cd s₁ B hml hv
  obtain ⟨rfl, hI, hP⟩ := hv
  obtain ⟨S, hr, hlocks⟩ := gPre (ws := []) B hml (C := RX13) rfl
  have hx := S.1
  have hb := S.2.1
  have hS : va_S (gA E) s.heap s.heap [] := va_S.rf
  have hfr : gFr (gIn b 12) w w := gFr.rf
  have hl := lv_entry ([.ref (ad (b)), .int (v)]) (n := 2) (Nat.le_of_ble_eq_true rfl)
  rw [lg_entry_eq]
  generalize (lg_sl ([.ref (ad (b)), .int (v)]) ++ List.replicate (2 - (lg_sl ([.ref (ad (b)), .int (v)])).length) Slot.unset).toArray = ls at hl ⊢
  have hl : lv_has ls 2 [(0, .ref (ad (b))), (1, .int (v))] := hl
  refine lv_aload_n hx hb dX13_islands_0 rfl (lv_at hl 0 rfl) ?_
  refine lv_iload_n hx hb dX13_islands_1 rfl (lv_at hl 1 rfl) ?_
  refine g_afi (g_runV S hI hP hS (k := 1) (As := [.int (v)]) (rest := []) (mX13_lands l b g kp sv bf sd ip sg mk td lv tl qs qc qw qd co wy de ca ln fa sm pa tm ht dr pg wt wr mo mc ni po dn v hb_m hR hht) q1944 q1946 q56 q100 q1947 rfl rfl (by decide +kernel) ⟨Nat.le_of_ble_eq_true rfl, Nat.le_of_ble_eq_true rfl⟩ rfl (hb_m.lt 0 (by decide)) (hb_m.2 0 (by decide)) rfl hl.1 rfl (Nat.le_of_ble_eq_true rfl) ⟨(Nat.le_of_ble_eq_true rfl), (Nat.le_of_ble_eq_true rfl)⟩ dX13_islands_2) hS (fun rz w1 H locs hq hP hS => ?_)
  obtain hq := hq
  exact g_iret S hr hlocks hP hS (hq) (fun _ _ => rfl) (Nat.le_of_ble_eq_true rfl) (Nat.le_of_ble_eq_true rfl) dX13_islands_5
set_option maxHeartbeats 4000000 in
set_option maxRecDepth 100000 in
/-- islandsByUnions -/
theorem mX13_islandsByUnions (l : Launch) {E : gE} {ad : Nat → Nat} {N : Nat} {w : Nat → va_E} (b : Nat) (g kp sv bf sd ip sg mk td lv tl : Nat → Nat) (qs qc qw qd co wy : Nat) (de : Int32) (ca ln : Nat) (fa : Option Nat) (sm pa tm : Nat) (ht dr pg wt wr mo : Nat → Nat) (mc ni po dn : Nat) (v : Int32) (hb_m : bkP N w b 12 (MDC E ad b g kp sv bf sd ip sg mk td lv tl qs qc qw qd co wy de ca ln fa sm pa tm)) (hR : mRg g ht pg wt wr mo mc ni po dn) (hht : ∀ k, k < 36 → ht k ≤ 99) : gMi l yX13_islandsByUnions (lw_ws yX13_islandsByUnions cX13_islandsByUnions 2 (some .int)) ({ frames := 4, cells := 0, slots := 0, locals := 93 } : Room) E ad N w [.ref (ad (b)), .int (v)] (fun r w' => (∃ mk' td' : Nat → Nat, (∃ lw, inR v 100 = some lw ∧ r = nI (cnt (repB ht lw) 36) ∧ bkP N w' b 12 (MDC E ad b g kp sv bf sd ip sg mk' td' lv tl qs qc qw 0 0 wy de ca ln fa sm pa tm)) ∨ (inR v 100 = none ∧ bkP N w' b 12 (MDC E ad b g kp sv bf sd ip sg mk' td' lv tl qs qc qw 0 1 wy de ca ln fa sm pa tm))) ∧ gFr (gIn b 12) w w') 0 0 := by
  refine Met.ofW (cc := cX13_islandsByUnions) (maxL := 2) (ret := (some .int)) (by decide) rfl ?_
  intro p e s m args below meth cd s₁ B hml hv
  obtain ⟨rfl, hI, hP⟩ := hv
  obtain ⟨S, hr, hlocks⟩ := gPre (ws := []) B hml (C := RX13) rfl
  have hx := S.1
  have hb := S.2.1
  have hS : va_S (gA E) s.heap s.heap [] := va_S.rf
  have hfr : gFr (gIn b 12) w w := gFr.rf
  have hl := lv_entry ([.ref (ad (b)), .int (v)]) (n := 2) (Nat.le_of_ble_eq_true rfl)
  rw [lg_entry_eq]
  generalize (lg_sl ([.ref (ad (b)), .int (v)]) ++ List.replicate (2 - (lg_sl ([.ref (ad (b)), .int (v)])).length) Slot.unset).toArray = ls at hl ⊢
  have hl : lv_has ls 2 [(0, .ref (ad (b))), (1, .int (v))] := hl
  refine lv_aload_n hx hb dX13_islandsByUnions_0 rfl (lv_at hl 0 rfl) ?_
  refine lv_iload_n hx hb dX13_islandsByUnions_1 rfl (lv_at hl 1 rfl) ?_
  refine g_afi (g_runV S hI hP hS (k := 1) (As := [.int (v)]) (rest := []) (mX13_lands l b g kp sv bf sd ip sg mk td lv tl qs qc qw qd co wy de ca ln fa sm pa tm ht dr pg wt wr mo mc ni po dn v hb_m hR hht) q1944 q1946 q56 q100 q1947 rfl rfl (by decide +kernel) ⟨Nat.le_of_ble_eq_true rfl, Nat.le_of_ble_eq_true rfl⟩ rfl (hb_m.lt 0 (by decide)) (hb_m.2 0 (by decide)) rfl hl.1 rfl (Nat.le_of_ble_eq_true rfl) ⟨(Nat.le_of_ble_eq_true rfl), (Nat.le_of_ble_eq_true rfl)⟩ dX13_islandsByUnions_2) hS (fun rz w1 H locs hq hP hS => ?_)
  obtain hq := hq
  exact g_iret S hr hlocks hP hS (hq) (fun _ _ => rfl) (Nat.le_of_ble_eq_true rfl) (Nat.le_of_ble_eq_true rfl) dX13_islandsByUnions_5
set_option maxHeartbeats 4000000 in
set_option maxRecDepth 100000 in
/-- the levels -/
theorem mX13_spills (l : Launch) {E : gE} {ad : Nat → Nat} {N : Nat} {w : Nat → va_E} (b : Nat) (g kp sv bf sd ip sg mk td lv tl : Nat → Nat) (qs qc qw qd co wy : Nat) (de : Int32) (ca ln : Nat) (fa : Option Nat) (sm pa tm : Nat) (ht dr pg wt wr mo : Nat → Nat) (mc ni po dn : Nat) (hb_m : bkP N w b 12 (MDC E ad b g kp sv bf sd ip sg mk td lv tl qs qc qw qd co wy de ca ln fa sm pa tm)) (hR : mRg g ht pg wt wr mo mc ni po dn) (hht : ∀ k, k < 36 → ht k ≤ 99) (hwr : ∀ k, k < 36 → wr k ≤ 3) : gMv l yX13_spills (lw_ws yX13_spills cX13_spills 5 none) ({ frames := 3, cells := 0, slots := 0, locals := 66 } : Room) E ad N w [.ref (ad (b))] (fun w' => ∃ lv' : Nat → Nat, grt (fun _ => false) (fun k _ x => max (ht k) x) (exM ht wr) lv' ∧ (∀ k, k < 36 → lv' k ≤ 1000000) ∧ bkP N w' b 12 (MDC E ad b g kp sv bf sd ip sg mk td lv' tl qs qc qw qd co wy de ca ln fa sm pa tm) ∧ gFr (gIn b 12) w w') 0 0 := by
  refine Met.ofW (cc := cX13_spills) (maxL := 5) (ret := none) (by decide) rfl ?_
  intro p e s m args below meth cd s₁ B hml hv
  obtain ⟨rfl, hI, hP⟩ := hv
  obtain ⟨S, hr, hlocks⟩ := gPre (ws := []) B hml (C := RX13) rfl
  have hx := S.1
  have hb := S.2.1
  have hS : va_S (gA E) s.heap s.heap [] := va_S.rf
  have hfr : gFr (gIn b 12) w w := gFr.rf
  have hl := lv_entry ([.ref (ad (b))]) (n := 5) (Nat.le_of_ble_eq_true rfl)
  rw [lg_entry_eq]
  generalize (lg_sl ([.ref (ad (b))]) ++ List.replicate (5 - (lg_sl ([.ref (ad (b))])).length) Slot.unset).toArray = ls at hl ⊢
  have hl : lv_has ls 5 [(0, .ref (ad (b)))] := hl
  obtain ⟨hgh, hgw, hgp, hgt, hgm, hg3, hg0, hg1, hg2⟩ := id hR
  refine g_iconst S 0 dX13_spills_0 (by decide +kernel) ?_
  refine lv_istore_n (lv' := [(1, .int (nI (0))), (0, .ref (ad (b)))]) hx hb dX13_spills_1 rfl hl (by decide) rfl (fun ls hl => ?_)
  have lpa : ∀ (n : Nat) (i : Nat) (lv1 : Nat → Nat), 37 - i < n → (i ≤ 36) → (∀ j, j < i → lv1 j = exM ht wr j) → ∀ (w1 : Nat → va_E) (H : Heap) (locs : List Loc), gP E ad N w1 H → va_S (gA E) s.heap H locs → bkP N w1 b 12 (MDC E ad b g kp sv bf sd ip sg mk td lv1 tl qs qc qw qd co wy de ca ln fa sm pa tm) → gFr (gIn b 12) w w1 → ∀ (ls : Array Slot), lv_has ls 5 [(1, .int (nI (i))), (0, .ref (ad (b)))] → W p l e (headSpec (lw_ws yX13_spills cX13_spills 5 none) ({ frames := 3, cells := 0, slots := 0, locals := 66 } : Room)).room s m ([.ref (ad (b))] : List Value).toArray below meth cd H locs 0 0 (MQ below (va_Qv (fun w' => ∃ lv' : Nat → Nat, grt (fun _ => false) (fun k _ x => max (ht k) x) (exM ht wr) lv' ∧ (∀ k, k < 36 → lv' k ≤ 1000000) ∧ bkP N w' b 12 (MDC E ad b g kp sv bf sd ip sg mk td lv' tl qs qc qw qd co wy de ca ln fa sm pa tm) ∧ gFr (gIn b 12) w w') (gB E ad N) (gA E)) ([.ref (ad (b))] : List Value).toArray s 0 0 (gA E)) (F0 m 2 ls []) := by
    intro n
    induction n with
    | zero => intro i lv1 hmeas; omega
    | succ n ih_lpa =>
      intro i lv1 hmeas hi hv1 w1 H locs hP hS hb1 hfr ls hl
      refine lv_iload_n hx hb dX13_spills_2 rfl (lv_at hl 0 rfl) ?_
      refine g_bipush S 36 dX13_spills_3 (by decide +kernel) ?_
      refine g_ge S (a := i) (b := 36) (by omega) (by omega) (tgt := 78) dX13_spills_5 (by decide) (fun h => ?_) (fun h => ?_)
      · have e36 : i = 36 := by omega
        subst e36
        refine g_iconst S 1 dX13_spills_78 (by decide +kernel) ?_
        refine lv_istore_n (lv' := [(1, .int (nI (1))), (0, .ref (ad (b)))]) hx hb dX13_spills_79 rfl hl (by decide) rfl (fun ls hl => ?_)
        have lpb : ∀ (n : Nat) (lv2 : Nat → Nat) (is : Bool), (if is = true then smN lv2 36 + 1 else 0) < n → (rnd (cdS ht) (fun _ => false) (fun k _ x => max (ht k) x) (exM ht wr) lv2 is) → (∀ k, k < 36 → lv2 k ≤ 1000000) → ∀ (w1 : Nat → va_E) (H : Heap) (locs : List Loc), gP E ad N w1 H → va_S (gA E) s.heap H locs → bkP N w1 b 12 (MDC E ad b g kp sv bf sd ip sg mk td lv2 tl qs qc qw qd co wy de ca ln fa sm pa tm) → gFr (gIn b 12) w w1 → ∀ (ls : Array Slot), lv_has ls 5 [(1, .int (bI (is))), (0, .ref (ad (b)))] → W p l e (headSpec (lw_ws yX13_spills cX13_spills 5 none) ({ frames := 3, cells := 0, slots := 0, locals := 66 } : Room)).room s m ([.ref (ad (b))] : List Value).toArray below meth cd H locs 0 0 (MQ below (va_Qv (fun w' => ∃ lv' : Nat → Nat, grt (fun _ => false) (fun k _ x => max (ht k) x) (exM ht wr) lv' ∧ (∀ k, k < 36 → lv' k ≤ 1000000) ∧ bkP N w' b 12 (MDC E ad b g kp sv bf sd ip sg mk td lv' tl qs qc qw qd co wy de ca ln fa sm pa tm) ∧ gFr (gIn b 12) w w') (gB E ad N) (gA E)) ([.ref (ad (b))] : List Value).toArray s 0 0 (gA E)) (F0 m 80 ls []) := by
          intro n
          induction n with
          | zero => intro lv2 is hmeas; omega
          | succ n ih_lpb =>
            intro lv2 is hmeas hrn hlb w1 H locs hP hS hb2 hfr ls hl
            refine lv_iload_n hx hb dX13_spills_80 rfl (lv_at hl 0 rfl) ?_
            refine g_beq S (b := is) (tgt := 178) dX13_spills_81 (by decide) (fun hisv => ?_) (fun hisv => ?_)
            · rw [hisv] at hrn
              exact g_vret S hr hlocks hP hS (⟨lv2, rnd_e hrn, hlb, hb2, hfr⟩) (fun _ _ => rfl) (Nat.le_of_ble_eq_true rfl) (Nat.le_of_ble_eq_true rfl) dX13_spills_178
            · rw [if_pos hisv] at hmeas
              refine g_iconst S 0 dX13_spills_84 (by decide +kernel) ?_
              refine lv_istore_n (lv' := [(1, .int (nI (0))), (0, .ref (ad (b)))]) hx hb dX13_spills_85 rfl hl (by decide) rfl (fun ls hl => ?_)
              refine g_iconst S 0 dX13_spills_86 (by decide +kernel) ?_
              refine lv_istore_n (lv' := [(2, .int (nI (0))), (1, .int (nI (0))), (0, .ref (ad (b)))]) hx hb dX13_spills_87 rfl hl (by decide) rfl (fun ls hl => ?_)
              have lpc : ∀ (n : Nat) (k : Nat), 37 - k < n → (k ≤ 36) → ∀ (w1 : Nat → va_E) (H : Heap) (locs : List Loc), gP E ad N w1 H → va_S (gA E) s.heap H locs → bkP N w1 b 12 (MDC E ad b g kp sv bf sd ip sg mk td ((iaN (cdS ht) lv2 k).1) tl qs qc qw qd co wy de ca ln fa sm pa tm) → gFr (gIn b 12) w w1 → ∀ (ls : Array Slot), lv_has ls 5 [(2, .int (nI (k))), (1, .int (bI ((iaN (cdS ht) lv2 k).2))), (0, .ref (ad (b)))] → W p l e (headSpec (lw_ws yX13_spills cX13_spills 5 none) ({ frames := 3, cells := 0, slots := 0, locals := 66 } : Room)).room s m ([.ref (ad (b))] : List Value).toArray below meth cd H locs 0 0 (MQ below (va_Qv (fun w' => ∃ lv' : Nat → Nat, grt (fun _ => false) (fun k _ x => max (ht k) x) (exM ht wr) lv' ∧ (∀ k, k < 36 → lv' k ≤ 1000000) ∧ bkP N w' b 12 (MDC E ad b g kp sv bf sd ip sg mk td lv' tl qs qc qw qd co wy de ca ln fa sm pa tm) ∧ gFr (gIn b 12) w w') (gB E ad N) (gA E)) ([.ref (ad (b))] : List Value).toArray s 0 0 (gA E)) (F0 m 88 ls []) := by
                intro n
                induction n with
                | zero => intro k hmeas; omega
                | succ n ih_lpc =>
                  intro k hmeas hk w1 H locs hP hS hb3 hfr ls hl
                  have hlb3 := iaN_ok (cd := (cdS ht)) hlb hk
                  refine lv_iload_n hx hb dX13_spills_88 rfl (lv_at hl 0 rfl) ?_
                  refine g_bipush S 36 dX13_spills_89 (by decide +kernel) ?_
                  refine g_ge S (a := k) (b := 36) (by omega) (by omega) (tgt := 175) dX13_spills_91 (by decide) (fun h3 => ?_) (fun h3 => ?_)
                  · have e36 : k = 36 := by omega
                    subst e36
                    refine lv_goto (tgt := 80) hx hb dX13_spills_175 (by decide) ?_
                    exact ih_lpb ((iaN (cdS ht) lv2 36).1) ((iaN (cdS ht) lv2 36).2) (by by_cases q : (iaN (cdS ht) lv2 36).2 = true; rw [if_pos q]; have := iaN_sum q; omega; rw [if_neg q]; omega) (rnd_s (cdS_is ht) hrn) (hlb3) _ _ _ hP hS hb3 hfr ls (lv_sub hl [1, 2] rfl)
                  · have zk := hht k h3
                    refine g_iconst S 0 dX13_spills_94 (by decide +kernel) ?_
                    refine lv_istore_n (lv' := [(3, .int (nI (0))), (2, .int (nI (k))), (1, .int (bI ((iaN (cdS ht) lv2 k).2))), (0, .ref (ad (b)))]) hx hb dX13_spills_95 rfl hl (by decide) rfl (fun ls hl => ?_)
                    have lpd : ∀ (n : Nat) (d : Nat), 5 - d < n → (d ≤ 4) → ∀ (w1 : Nat → va_E) (H : Heap) (locs : List Loc), gP E ad N w1 H → va_S (gA E) s.heap H locs → bkP N w1 b 12 (MDC E ad b g kp sv bf sd ip sg mk td ((iaD (cdS ht) k (iaN (cdS ht) lv2 k) d).1) tl qs qc qw qd co wy de ca ln fa sm pa tm) → gFr (gIn b 12) w w1 → ∀ (ls : Array Slot), lv_has ls 5 [(3, .int (nI (d))), (2, .int (nI (k))), (1, .int (bI ((iaD (cdS ht) k (iaN (cdS ht) lv2 k) d).2))), (0, .ref (ad (b)))] → W p l e (headSpec (lw_ws yX13_spills cX13_spills 5 none) ({ frames := 3, cells := 0, slots := 0, locals := 66 } : Room)).room s m ([.ref (ad (b))] : List Value).toArray below meth cd H locs 0 0 (MQ below (va_Qv (fun w' => ∃ lv' : Nat → Nat, grt (fun _ => false) (fun k _ x => max (ht k) x) (exM ht wr) lv' ∧ (∀ k, k < 36 → lv' k ≤ 1000000) ∧ bkP N w' b 12 (MDC E ad b g kp sv bf sd ip sg mk td lv' tl qs qc qw qd co wy de ca ln fa sm pa tm) ∧ gFr (gIn b 12) w w') (gB E ad N) (gA E)) ([.ref (ad (b))] : List Value).toArray s 0 0 (gA E)) (F0 m 96 ls []) := by
                      intro n
                      induction n with
                      | zero => intro d hmeas; omega
                      | succ n ih_lpd =>
                        intro d hmeas hd w1 H locs hP hS hb4 hfr ls hl
                        have hlb4 := iaD_ok (cd := (cdS ht)) (c := k) h3 hlb3 d
                        have zlk := hlb4 k h3
                        refine lv_iload_n hx hb dX13_spills_96 rfl (lv_at hl 0 rfl) ?_
                        refine g_iconst S 4 dX13_spills_97 (by decide +kernel) ?_
                        refine g_ge S (a := d) (b := 4) (by omega) (by omega) (tgt := 169) dX13_spills_98 (by decide) (fun h4 => ?_) (fun h4 => ?_)
                        · have e_d : d = 4 := by omega
                          subst e_d
                          refine lv_iinc (v := nI (k + 1)) (lv' := [(2, .int (nI (k + 1))), (3, .int (nI (4))), (1, .int (bI ((iaD (cdS ht) k (iaN (cdS ht) lv2 k) 4).2))), (0, .ref (ad (b)))]) hx hb dX13_spills_169 hl (k := 1) rfl (g_inc _ 1 (by decide +kernel)) (by decide) rfl (fun ls hl => ?_)
                          refine lv_goto (tgt := 88) hx hb dX13_spills_172 (by decide) ?_
                          exact ih_lpc (k + 1) (by omega) (by omega) _ _ _ hP hS hb4 hfr ls (lv_sub hl [0, 2, 3] rfl)
                        · refine lv_iload_n hx hb dX13_spills_101 rfl (lv_at hl 1 rfl) ?_
                          refine lv_iload_n hx hb dX13_spills_102 rfl (lv_at hl 0 rfl) ?_
                          refine g_roi (g_runS S hI hP hS (k := 2) (As := [.int (nI (k)), .int (nI (d))]) (rest := []) (mX13_beside l k d h3 h4) q1917 q1918 q100 q1919 rfl rfl (by decide +kernel) ⟨Nat.le_of_ble_eq_true rfl, Nat.le_of_ble_eq_true rfl⟩ rfl hl.1 rfl (Nat.le_of_ble_eq_true rfl) ⟨(Nat.le_of_ble_eq_true rfl), (Nat.le_of_ble_eq_true rfl)⟩ dX13_spills_103) hS (fun H locs hP hS => ?_)
                          refine lv_istore (lv' := [(4, .int (oI (nb k d))), (3, .int (nI (d))), (2, .int (nI (k))), (1, .int (bI ((iaD (cdS ht) k (iaN (cdS ht) lv2 k) d).2))), (0, .ref (ad (b)))]) hx hb dX13_spills_106 hl (by decide) rfl (fun ls hl => ?_)
                          refine lv_iload hx hb dX13_spills_108 (lv_at hl 0 rfl) ?_
                          refine g_oltZ S (o := nb k d) (fun j hj => Nat.lt_trans (nb_lt h3 hj) (by decide)) (tgt := 163) dX13_spills_110 (by decide) (fun hn => ?_) (fun hn_k hn => ?_)
                          · refine lv_iinc (v := nI (d + 1)) (lv' := [(3, .int (nI (d + 1))), (4, .int (oI (nb k d))), (2, .int (nI (k))), (1, .int (bI ((iaD (cdS ht) k (iaN (cdS ht) lv2 k) d).2))), (0, .ref (ad (b)))]) hx hb dX13_spills_163 hl (k := 1) rfl (g_inc _ 1 (by decide +kernel)) (by decide) rfl (fun ls hl => ?_)
                            refine lv_goto (tgt := 96) hx hb dX13_spills_166 (by decide) ?_
                            have hnx : (iaD (cdS ht) k (iaN (cdS ht) lv2 k) (d + 1)) = (iaD (cdS ht) k (iaN (cdS ht) lv2 k) d) := by exact iaD_n hn
                            rw [← hnx] at hl
                            rw [← hnx] at hb4
                            (try rw [← hnx] at hP)
                            (try rw [← hnx] at hfr)
                            exact ih_lpd (d + 1) (by omega) (by omega) _ _ _ hP hS hb4 hfr ls (lv_sub hl [0, 2, 3, 4] rfl)
                          · have ho36 := nb_lt h3 hn
                            have zlo := hlb4 hn_k ho36
                            have hl : lv_has ls 5 [(4, .int (nI (hn_k))), (3, .int (nI (d))), (2, .int (nI (k))), (1, .int (bI ((iaD (cdS ht) k (iaN (cdS ht) lv2 k) d).2))), (0, .ref (ad (b)))] := by rw [hn] at hl; exact hl
                            refine lv_aload_n hx hb dX13_spills_113 rfl (lv_at hl 4 rfl) ?_
                            refine g_get S hI hP uX13 rfl (fs := _) (hb4.lt 0 (by decide)) (hb4.2 0 (by decide)) 20 (by decide) q1807 rfl (v := .ref (ad (b + 10))) rfl dX13_spills_114 ?_
                            refine lv_iload hx hb dX13_spills_117 (lv_at hl 0 rfl) ?_
                            refine g_iald S hI hP (f := fun j => nI (((iaD (cdS ht) k (iaN (cdS ht) lv2 k) d).1) j)) (hb4.lt 10 (by decide)) (hb4.2 10 (by decide)) (hn_k) (ho36) (by decide) dX13_spills_119 ?_
                            refine lv_aload_n hx hb dX13_spills_120 rfl (lv_at hl 4 rfl) ?_
                            refine lv_iload_n hx hb dX13_spills_121 rfl (lv_at hl 2 rfl) ?_
                            refine g_roi (g_runV S hI hP hS (k := 1) (As := [.int (nI (k))]) (rest := [.int (nI (((iaD (cdS ht) k (iaN (cdS ht) lv2 k) d).1) hn_k))]) (mX13_high l b g kp sv bf sd ip sg mk td ((iaD (cdS ht) k (iaN (cdS ht) lv2 k) d).1) tl qs qc qw qd co wy de ca ln fa sm pa tm k (ht k) hb4 h3 (hgh k h3)) q1882 q1884 q50 q100 q1885 rfl rfl (by decide +kernel) ⟨Nat.le_of_ble_eq_true rfl, Nat.le_of_ble_eq_true rfl⟩ rfl (hb4.lt 0 (by decide)) (hb4.2 0 (by decide)) rfl hl.1 rfl (Nat.le_of_ble_eq_true rfl) ⟨(Nat.le_of_ble_eq_true rfl), (Nat.le_of_ble_eq_true rfl)⟩ dX13_spills_122) hS (fun H locs hP hS => ?_)
                            refine g_roi (g_runS S hI hP hS (k := 2) (As := [.int (nI (((iaD (cdS ht) k (iaN (cdS ht) lv2 k) d).1) hn_k)), .int (nI (ht k))]) (rest := []) (mX13_greater l ((iaD (cdS ht) k (iaN (cdS ht) lv2 k) d).1 hn_k) (ht k) (by omega) (by omega)) q2017 q2018 q100 q2019 rfl rfl (by decide +kernel) ⟨Nat.le_of_ble_eq_true rfl, Nat.le_of_ble_eq_true rfl⟩ rfl hl.1 rfl (Nat.le_of_ble_eq_true rfl) ⟨(Nat.le_of_ble_eq_true rfl), (Nat.le_of_ble_eq_true rfl)⟩ dX13_spills_125) hS (fun H locs hP hS => ?_)
                            refine lv_aload_n hx hb dX13_spills_128 rfl (lv_at hl 4 rfl) ?_
                            refine g_get S hI hP uX13 rfl (fs := _) (hb4.lt 0 (by decide)) (hb4.2 0 (by decide)) 20 (by decide) q1807 rfl (v := .ref (ad (b + 10))) rfl dX13_spills_129 ?_
                            refine lv_iload_n hx hb dX13_spills_132 rfl (lv_at hl 2 rfl) ?_
                            refine g_iald S hI hP (f := fun j => nI (((iaD (cdS ht) k (iaN (cdS ht) lv2 k) d).1) j)) (hb4.lt 10 (by decide)) (hb4.2 10 (by decide)) (k) (h3) (by decide) dX13_spills_133 ?_
                            refine g_lt S (a := max ((iaD (cdS ht) k (iaN (cdS ht) lv2 k) d).1 hn_k) (ht k)) (b := ((iaD (cdS ht) k (iaN (cdS ht) lv2 k) d).1) k) (by omega) (by omega) (tgt := 140) dX13_spills_134 (by decide) (fun h6 => ?_) (fun h6 => ?_)
                            · refine lv_aload_n hx hb dX13_spills_140 rfl (lv_at hl 4 rfl) ?_
                              refine g_get S hI hP uX13 rfl (fs := _) (hb4.lt 0 (by decide)) (hb4.2 0 (by decide)) 20 (by decide) q1807 rfl (v := .ref (ad (b + 10))) rfl dX13_spills_141 ?_
                              refine lv_iload_n hx hb dX13_spills_144 rfl (lv_at hl 2 rfl) ?_
                              refine lv_aload_n hx hb dX13_spills_145 rfl (lv_at hl 4 rfl) ?_
                              refine g_get S hI hP uX13 rfl (fs := _) (hb4.lt 0 (by decide)) (hb4.2 0 (by decide)) 20 (by decide) q1807 rfl (v := .ref (ad (b + 10))) rfl dX13_spills_146 ?_
                              refine lv_iload hx hb dX13_spills_149 (lv_at hl 0 rfl) ?_
                              refine g_iald S hI hP (f := fun j => nI (((iaD (cdS ht) k (iaN (cdS ht) lv2 k) d).1) j)) (hb4.lt 10 (by decide)) (hb4.2 10 (by decide)) (hn_k) (ho36) (by decide) dX13_spills_151 ?_
                              refine lv_aload_n hx hb dX13_spills_152 rfl (lv_at hl 4 rfl) ?_
                              refine lv_iload_n hx hb dX13_spills_153 rfl (lv_at hl 2 rfl) ?_
                              refine g_roi (g_runV S hI hP hS (k := 1) (As := [.int (nI (k))]) (rest := [.int (nI (((iaD (cdS ht) k (iaN (cdS ht) lv2 k) d).1) hn_k)), .int (nI (k)), .ref (ad (b + 10))]) (mX13_high l b g kp sv bf sd ip sg mk td ((iaD (cdS ht) k (iaN (cdS ht) lv2 k) d).1) tl qs qc qw qd co wy de ca ln fa sm pa tm k (ht k) hb4 h3 (hgh k h3)) q1882 q1884 q50 q100 q1885 rfl rfl (by decide +kernel) ⟨Nat.le_of_ble_eq_true rfl, Nat.le_of_ble_eq_true rfl⟩ rfl (hb4.lt 0 (by decide)) (hb4.2 0 (by decide)) rfl hl.1 rfl (Nat.le_of_ble_eq_true rfl) ⟨(Nat.le_of_ble_eq_true rfl), (Nat.le_of_ble_eq_true rfl)⟩ dX13_spills_154) hS (fun H locs hP hS => ?_)
                              refine g_roi (g_runS S hI hP hS (k := 2) (As := [.int (nI (((iaD (cdS ht) k (iaN (cdS ht) lv2 k) d).1) hn_k)), .int (nI (ht k))]) (rest := [.int (nI (k)), .ref (ad (b + 10))]) (mX13_greater l ((iaD (cdS ht) k (iaN (cdS ht) lv2 k) d).1 hn_k) (ht k) (by omega) (by omega)) q2017 q2018 q100 q2019 rfl rfl (by decide +kernel) ⟨Nat.le_of_ble_eq_true rfl, Nat.le_of_ble_eq_true rfl⟩ rfl hl.1 rfl (Nat.le_of_ble_eq_true rfl) ⟨(Nat.le_of_ble_eq_true rfl), (Nat.le_of_ble_eq_true rfl)⟩ dX13_spills_157) hS (fun H locs hP hS => ?_)
                              refine g_iastN S hI hP hS (f := (iaD (cdS ht) k (iaN (cdS ht) lv2 k) d).1) (x := max ((iaD (cdS ht) k (iaN (cdS ht) lv2 k) d).1 hn_k) (ht k)) (hb4.lt 10 (by decide)) (hb4.2 10 (by decide)) (k) (h3) (by decide) dX13_spills_160 (fun H locs hP hS => ?_)
                              have hP : gP E ad N (va_up _ (b + 10) (MDC E ad b g kp sv bf sd ip sg mk td (va_up ((iaD (cdS ht) k (iaN (cdS ht) lv2 k) d).1) k (max ((iaD (cdS ht) k (iaN (cdS ht) lv2 k) d).1 hn_k) (ht k))) tl qs qc qw qd co wy de ca ln fa sm pa tm 10)) H := hP
                              have hb5 : bkP N (va_up _ (b + 10) (MDC E ad b g kp sv bf sd ip sg mk td (va_up ((iaD (cdS ht) k (iaN (cdS ht) lv2 k) d).1) k (max ((iaD (cdS ht) k (iaN (cdS ht) lv2 k) d).1 hn_k) (ht k))) tl qs qc qw qd co wy de ca ln fa sm pa tm 10)) b 12 (MDC E ad b g kp sv bf sd ip sg mk td (va_up ((iaD (cdS ht) k (iaN (cdS ht) lv2 k) d).1) k (max ((iaD (cdS ht) k (iaN (cdS ht) lv2 k) d).1 hn_k) (ht k))) tl qs qc qw qd co wy de ca ln fa sm pa tm) := MD_setA9 hb4 _
                              have hfr := hfr.up (p := b + 10) (e := MDC E ad b g kp sv bf sd ip sg mk td (va_up ((iaD (cdS ht) k (iaN (cdS ht) lv2 k) d).1) k (max ((iaD (cdS ht) k (iaN (cdS ht) lv2 k) d).1 hn_k) (ht k))) tl qs qc qw qd co wy de ca ln fa sm pa tm 10) (by show _ ∧ _; omega)
                              refine g_iconst S 1 dX13_spills_161 (by decide +kernel) ?_
                              refine lv_istore_n (lv' := [(1, .int (nI (1))), (4, .int (nI (hn_k))), (3, .int (nI (d))), (2, .int (nI (k))), (0, .ref (ad (b)))]) hx hb dX13_spills_162 rfl hl (by decide) rfl (fun ls hl => ?_)
                              refine lv_iinc (v := nI (d + 1)) (lv' := [(3, .int (nI (d + 1))), (1, .int (nI (1))), (4, .int (nI (hn_k))), (2, .int (nI (k))), (0, .ref (ad (b)))]) hx hb dX13_spills_163 hl (k := 2) rfl (g_inc _ 1 (by decide +kernel)) (by decide) rfl (fun ls hl => ?_)
                              refine lv_goto (tgt := 96) hx hb dX13_spills_166 (by decide) ?_
                              have hnx : (iaD (cdS ht) k (iaN (cdS ht) lv2 k) (d + 1)) = (va_up (iaD (cdS ht) k (iaN (cdS ht) lv2 k) d).1 k (max ((iaD (cdS ht) k (iaN (cdS ht) lv2 k) d).1 hn_k) (ht k)), true) := by rw [iaD_k hn, (imB_y (cd := (cdS ht)) (show cdS ht (iaD (cdS ht) k (iaN (cdS ht) lv2 k) d).1 k hn_k = some (max ((iaD (cdS ht) k (iaN (cdS ht) lv2 k) d).1 hn_k) (ht k)) by unfold cdS; rw [Nat.max_comm]) h6).1, (imB_y (cd := (cdS ht)) (show cdS ht (iaD (cdS ht) k (iaN (cdS ht) lv2 k) d).1 k hn_k = some (max ((iaD (cdS ht) k (iaN (cdS ht) lv2 k) d).1 hn_k) (ht k)) by unfold cdS; rw [Nat.max_comm]) h6).2]; rfl
                              have hx1 : va_up (iaD (cdS ht) k (iaN (cdS ht) lv2 k) d).1 k (max ((iaD (cdS ht) k (iaN (cdS ht) lv2 k) d).1 hn_k) (ht k)) = (iaD (cdS ht) k (iaN (cdS ht) lv2 k) (d + 1)).1 := by rw [hnx]
                              have hx2 : (iaD (cdS ht) k (iaN (cdS ht) lv2 k) (d + 1)).2 = true := by rw [hnx]
                              rw [hx1] at hP hfr hb5
                              have hl : lv_has ls 5 [(3, .int (nI (d + 1))), (1, .int (bI ((iaD (cdS ht) k (iaN (cdS ht) lv2 k) (d + 1)).2))), (4, .int (nI (hn_k))), (2, .int (nI (k))), (0, .ref (ad (b)))] := by rw [hx2]; exact hl
                              exact ih_lpd (d + 1) (by omega) (by omega) _ _ _ hP hS hb5 hfr ls (lv_sub hl [0, 3, 1, 4] rfl)
                            · refine lv_goto (tgt := 163) hx hb dX13_spills_137 (by decide) ?_
                              refine lv_iinc (v := nI (d + 1)) (lv' := [(3, .int (nI (d + 1))), (4, .int (nI (hn_k))), (2, .int (nI (k))), (1, .int (bI ((iaD (cdS ht) k (iaN (cdS ht) lv2 k) d).2))), (0, .ref (ad (b)))]) hx hb dX13_spills_163 hl (k := 1) rfl (g_inc _ 1 (by decide +kernel)) (by decide) rfl (fun ls hl => ?_)
                              refine lv_goto (tgt := 96) hx hb dX13_spills_166 (by decide) ?_
                              have hnx : (iaD (cdS ht) k (iaN (cdS ht) lv2 k) (d + 1)) = (iaD (cdS ht) k (iaN (cdS ht) lv2 k) d) := by rw [iaD_k hn, (imB_n (cd := cdS ht) (show cdS ht (iaD (cdS ht) k (iaN (cdS ht) lv2 k) d).1 k hn_k = some (max ((iaD (cdS ht) k (iaN (cdS ht) lv2 k) d).1 hn_k) (ht k)) by unfold cdS; rw [Nat.max_comm]) (Nat.not_lt.mpr h6)).1, (imB_n (cd := cdS ht) (show cdS ht (iaD (cdS ht) k (iaN (cdS ht) lv2 k) d).1 k hn_k = some (max ((iaD (cdS ht) k (iaN (cdS ht) lv2 k) d).1 hn_k) (ht k)) by unfold cdS; rw [Nat.max_comm]) (Nat.not_lt.mpr h6)).2]; rfl
                              rw [← hnx] at hl
                              rw [← hnx] at hb4
                              (try rw [← hnx] at hP)
                              (try rw [← hnx] at hfr)
                              exact ih_lpd (d + 1) (by omega) (by omega) _ _ _ hP hS hb4 hfr ls (lv_sub hl [0, 2, 3, 4] rfl)
                    exact lpd (5 - (0) + 1) (0) (Nat.lt_succ_self _) (by omega) _ _ _ hP hS hb3 hfr ls (lv_sub hl [0, 1, 2, 3] rfl)
              exact lpc (37 - (0) + 1) (0) (Nat.lt_succ_self _) (by omega) _ _ _ hP hS hb2 hfr ls (lv_sub hl [0, 1, 2] rfl)
        exact lpb ((if (true) = true then smN (lv1) 36 + 1 else 0) + 1) (lv1) (true) (Nat.lt_succ_self _) (rnd_cg (fun k hk => (hv1 k hk)) rnd_0) (fun k hk => by rw [hv1 k hk]; unfold exM; have := hht k hk; split <;> omega) _ _ _ hP hS hb1 hfr ls (lv_sub hl [0, 1] rfl)
      · have zi := hht i h
        refine lv_iload_n hx hb dX13_spills_8 rfl (lv_at hl 0 rfl) ?_
        refine g_bipush S 6 dX13_spills_9 (by decide +kernel) ?_
        refine g_idiv S (by omega) (by omega) (by omega) dX13_spills_11 ?_
        refine g_ifeq S (a := i / 6) (by omega) (tgt := 46) dX13_spills_12 (by decide) (fun g1 => ?_) (fun g1 => ?_)
        · refine g_iconst S 1 dX13_spills_46 (by decide +kernel) ?_
          refine lv_goto (tgt := 51) hx hb dX13_spills_47 (by decide) ?_
          refine lv_istore_n (lv' := [(2, .int (nI (1))), (1, .int (nI (i))), (0, .ref (ad (b)))]) hx hb dX13_spills_51 rfl hl (by decide) rfl (fun ls hl => ?_)
          refine lv_aload_n hx hb dX13_spills_52 rfl (lv_at hl 2 rfl) ?_
          refine g_get S hI hP uX13 rfl (fs := _) (hb1.lt 0 (by decide)) (hb1.2 0 (by decide)) 20 (by decide) q1807 rfl (v := .ref (ad (b + 10))) rfl dX13_spills_53 ?_
          refine lv_iload_n hx hb dX13_spills_56 rfl (lv_at hl 1 rfl) ?_
          refine lv_iload_n hx hb dX13_spills_57 rfl (lv_at hl 0 rfl) ?_
          refine g_ifeq S (a := 1) (by omega) (tgt := 69) dX13_spills_58 (by decide) (fun hzz => ?_) (fun hzz => ?_)
          · omega
          · refine lv_aload_n hx hb dX13_spills_61 rfl (lv_at hl 2 rfl) ?_
            refine lv_iload_n hx hb dX13_spills_62 rfl (lv_at hl 1 rfl) ?_
            refine g_roi (g_runV S hI hP hS (k := 1) (As := [.int (nI (i))]) (rest := [.int (nI (i)), .ref (ad (b + 10))]) (mX13_high l b g kp sv bf sd ip sg mk td lv1 tl qs qc qw qd co wy de ca ln fa sm pa tm i (ht i) hb1 h (hgh i h)) q1882 q1884 q50 q100 q1885 rfl rfl (by decide +kernel) ⟨Nat.le_of_ble_eq_true rfl, Nat.le_of_ble_eq_true rfl⟩ rfl (hb1.lt 0 (by decide)) (hb1.2 0 (by decide)) rfl hl.1 rfl (Nat.le_of_ble_eq_true rfl) ⟨(Nat.le_of_ble_eq_true rfl), (Nat.le_of_ble_eq_true rfl)⟩ dX13_spills_63) hS (fun H locs hP hS => ?_)
            refine lv_goto (tgt := 71) hx hb dX13_spills_66 (by decide) ?_
            refine g_iastN S hI hP hS (f := lv1) (x := ht i) (hb1.lt 10 (by decide)) (hb1.2 10 (by decide)) (i) (h) (by decide) dX13_spills_71 (fun H locs hP hS => ?_)
            have hP : gP E ad N (va_up _ (b + 10) (MDC E ad b g kp sv bf sd ip sg mk td (va_up lv1 i (ht i)) tl qs qc qw qd co wy de ca ln fa sm pa tm 10)) H := hP
            have hb6 : bkP N (va_up _ (b + 10) (MDC E ad b g kp sv bf sd ip sg mk td (va_up lv1 i (ht i)) tl qs qc qw qd co wy de ca ln fa sm pa tm 10)) b 12 (MDC E ad b g kp sv bf sd ip sg mk td (va_up lv1 i (ht i)) tl qs qc qw qd co wy de ca ln fa sm pa tm) := MD_setA9 hb1 _
            have hfr := hfr.up (p := b + 10) (e := MDC E ad b g kp sv bf sd ip sg mk td (va_up lv1 i (ht i)) tl qs qc qw qd co wy de ca ln fa sm pa tm 10) (by show _ ∧ _; omega)
            refine lv_iinc (v := nI (i + 1)) (lv' := [(1, .int (nI (i + 1))), (2, .int (nI (1))), (0, .ref (ad (b)))]) hx hb dX13_spills_72 hl (k := 1) rfl (g_inc _ 1 (by decide +kernel)) (by decide) rfl (fun ls hl => ?_)
            refine lv_goto (tgt := 2) hx hb dX13_spills_75 (by decide) ?_
            exact ih_lpa (i + 1) (va_up lv1 i (ht i)) (by omega) (by omega) (fun j hj => by by_cases q : j = i; rw [q, va_up_self]; unfold exM; rw [if_pos (Or.inl (Or.inl g1))]; rw [va_up_ne _ _ q]; exact hv1 j (by omega)) _ _ _ hP hS hb6 hfr ls (lv_sub hl [0, 2] rfl)
        · refine lv_iload_n hx hb dX13_spills_15 rfl (lv_at hl 0 rfl) ?_
          refine g_bipush S 6 dX13_spills_16 (by decide +kernel) ?_
          refine g_idiv S (by omega) (by omega) (by omega) dX13_spills_18 ?_
          refine g_iconst S 5 dX13_spills_19 (by decide +kernel) ?_
          refine g_eq S (a := i / 6) (b := 5) (by omega) (by omega) (tgt := 46) dX13_spills_20 (by decide) (fun g2 => ?_) (fun g2 => ?_)
          · refine g_iconst S 1 dX13_spills_46 (by decide +kernel) ?_
            refine lv_goto (tgt := 51) hx hb dX13_spills_47 (by decide) ?_
            refine lv_istore_n (lv' := [(2, .int (nI (1))), (1, .int (nI (i))), (0, .ref (ad (b)))]) hx hb dX13_spills_51 rfl hl (by decide) rfl (fun ls hl => ?_)
            refine lv_aload_n hx hb dX13_spills_52 rfl (lv_at hl 2 rfl) ?_
            refine g_get S hI hP uX13 rfl (fs := _) (hb1.lt 0 (by decide)) (hb1.2 0 (by decide)) 20 (by decide) q1807 rfl (v := .ref (ad (b + 10))) rfl dX13_spills_53 ?_
            refine lv_iload_n hx hb dX13_spills_56 rfl (lv_at hl 1 rfl) ?_
            refine lv_iload_n hx hb dX13_spills_57 rfl (lv_at hl 0 rfl) ?_
            refine g_ifeq S (a := 1) (by omega) (tgt := 69) dX13_spills_58 (by decide) (fun hzz => ?_) (fun hzz => ?_)
            · omega
            · refine lv_aload_n hx hb dX13_spills_61 rfl (lv_at hl 2 rfl) ?_
              refine lv_iload_n hx hb dX13_spills_62 rfl (lv_at hl 1 rfl) ?_
              refine g_roi (g_runV S hI hP hS (k := 1) (As := [.int (nI (i))]) (rest := [.int (nI (i)), .ref (ad (b + 10))]) (mX13_high l b g kp sv bf sd ip sg mk td lv1 tl qs qc qw qd co wy de ca ln fa sm pa tm i (ht i) hb1 h (hgh i h)) q1882 q1884 q50 q100 q1885 rfl rfl (by decide +kernel) ⟨Nat.le_of_ble_eq_true rfl, Nat.le_of_ble_eq_true rfl⟩ rfl (hb1.lt 0 (by decide)) (hb1.2 0 (by decide)) rfl hl.1 rfl (Nat.le_of_ble_eq_true rfl) ⟨(Nat.le_of_ble_eq_true rfl), (Nat.le_of_ble_eq_true rfl)⟩ dX13_spills_63) hS (fun H locs hP hS => ?_)
              refine lv_goto (tgt := 71) hx hb dX13_spills_66 (by decide) ?_
              refine g_iastN S hI hP hS (f := lv1) (x := ht i) (hb1.lt 10 (by decide)) (hb1.2 10 (by decide)) (i) (h) (by decide) dX13_spills_71 (fun H locs hP hS => ?_)
              have hP : gP E ad N (va_up _ (b + 10) (MDC E ad b g kp sv bf sd ip sg mk td (va_up lv1 i (ht i)) tl qs qc qw qd co wy de ca ln fa sm pa tm 10)) H := hP
              have hb7 : bkP N (va_up _ (b + 10) (MDC E ad b g kp sv bf sd ip sg mk td (va_up lv1 i (ht i)) tl qs qc qw qd co wy de ca ln fa sm pa tm 10)) b 12 (MDC E ad b g kp sv bf sd ip sg mk td (va_up lv1 i (ht i)) tl qs qc qw qd co wy de ca ln fa sm pa tm) := MD_setA9 hb1 _
              have hfr := hfr.up (p := b + 10) (e := MDC E ad b g kp sv bf sd ip sg mk td (va_up lv1 i (ht i)) tl qs qc qw qd co wy de ca ln fa sm pa tm 10) (by show _ ∧ _; omega)
              refine lv_iinc (v := nI (i + 1)) (lv' := [(1, .int (nI (i + 1))), (2, .int (nI (1))), (0, .ref (ad (b)))]) hx hb dX13_spills_72 hl (k := 1) rfl (g_inc _ 1 (by decide +kernel)) (by decide) rfl (fun ls hl => ?_)
              refine lv_goto (tgt := 2) hx hb dX13_spills_75 (by decide) ?_
              exact ih_lpa (i + 1) (va_up lv1 i (ht i)) (by omega) (by omega) (fun j hj => by by_cases q : j = i; rw [q, va_up_self]; unfold exM; rw [if_pos (Or.inl (Or.inr (Or.inl g2)))]; rw [va_up_ne _ _ q]; exact hv1 j (by omega)) _ _ _ hP hS hb7 hfr ls (lv_sub hl [0, 2] rfl)
          · refine lv_iload_n hx hb dX13_spills_23 rfl (lv_at hl 0 rfl) ?_
            refine g_bipush S 6 dX13_spills_24 (by decide +kernel) ?_
            refine g_irem S (by omega) (by omega) (by omega) dX13_spills_26 ?_
            refine g_ifeq S (a := i % 6) (by omega) (tgt := 46) dX13_spills_27 (by decide) (fun g3 => ?_) (fun g3 => ?_)
            · refine g_iconst S 1 dX13_spills_46 (by decide +kernel) ?_
              refine lv_goto (tgt := 51) hx hb dX13_spills_47 (by decide) ?_
              refine lv_istore_n (lv' := [(2, .int (nI (1))), (1, .int (nI (i))), (0, .ref (ad (b)))]) hx hb dX13_spills_51 rfl hl (by decide) rfl (fun ls hl => ?_)
              refine lv_aload_n hx hb dX13_spills_52 rfl (lv_at hl 2 rfl) ?_
              refine g_get S hI hP uX13 rfl (fs := _) (hb1.lt 0 (by decide)) (hb1.2 0 (by decide)) 20 (by decide) q1807 rfl (v := .ref (ad (b + 10))) rfl dX13_spills_53 ?_
              refine lv_iload_n hx hb dX13_spills_56 rfl (lv_at hl 1 rfl) ?_
              refine lv_iload_n hx hb dX13_spills_57 rfl (lv_at hl 0 rfl) ?_
              refine g_ifeq S (a := 1) (by omega) (tgt := 69) dX13_spills_58 (by decide) (fun hzz => ?_) (fun hzz => ?_)
              · omega
              · refine lv_aload_n hx hb dX13_spills_61 rfl (lv_at hl 2 rfl) ?_
                refine lv_iload_n hx hb dX13_spills_62 rfl (lv_at hl 1 rfl) ?_
                refine g_roi (g_runV S hI hP hS (k := 1) (As := [.int (nI (i))]) (rest := [.int (nI (i)), .ref (ad (b + 10))]) (mX13_high l b g kp sv bf sd ip sg mk td lv1 tl qs qc qw qd co wy de ca ln fa sm pa tm i (ht i) hb1 h (hgh i h)) q1882 q1884 q50 q100 q1885 rfl rfl (by decide +kernel) ⟨Nat.le_of_ble_eq_true rfl, Nat.le_of_ble_eq_true rfl⟩ rfl (hb1.lt 0 (by decide)) (hb1.2 0 (by decide)) rfl hl.1 rfl (Nat.le_of_ble_eq_true rfl) ⟨(Nat.le_of_ble_eq_true rfl), (Nat.le_of_ble_eq_true rfl)⟩ dX13_spills_63) hS (fun H locs hP hS => ?_)
                refine lv_goto (tgt := 71) hx hb dX13_spills_66 (by decide) ?_
                refine g_iastN S hI hP hS (f := lv1) (x := ht i) (hb1.lt 10 (by decide)) (hb1.2 10 (by decide)) (i) (h) (by decide) dX13_spills_71 (fun H locs hP hS => ?_)
                have hP : gP E ad N (va_up _ (b + 10) (MDC E ad b g kp sv bf sd ip sg mk td (va_up lv1 i (ht i)) tl qs qc qw qd co wy de ca ln fa sm pa tm 10)) H := hP
                have hb8 : bkP N (va_up _ (b + 10) (MDC E ad b g kp sv bf sd ip sg mk td (va_up lv1 i (ht i)) tl qs qc qw qd co wy de ca ln fa sm pa tm 10)) b 12 (MDC E ad b g kp sv bf sd ip sg mk td (va_up lv1 i (ht i)) tl qs qc qw qd co wy de ca ln fa sm pa tm) := MD_setA9 hb1 _
                have hfr := hfr.up (p := b + 10) (e := MDC E ad b g kp sv bf sd ip sg mk td (va_up lv1 i (ht i)) tl qs qc qw qd co wy de ca ln fa sm pa tm 10) (by show _ ∧ _; omega)
                refine lv_iinc (v := nI (i + 1)) (lv' := [(1, .int (nI (i + 1))), (2, .int (nI (1))), (0, .ref (ad (b)))]) hx hb dX13_spills_72 hl (k := 1) rfl (g_inc _ 1 (by decide +kernel)) (by decide) rfl (fun ls hl => ?_)
                refine lv_goto (tgt := 2) hx hb dX13_spills_75 (by decide) ?_
                exact ih_lpa (i + 1) (va_up lv1 i (ht i)) (by omega) (by omega) (fun j hj => by by_cases q : j = i; rw [q, va_up_self]; unfold exM; rw [if_pos (Or.inl (Or.inr (Or.inr (Or.inl g3))))]; rw [va_up_ne _ _ q]; exact hv1 j (by omega)) _ _ _ hP hS hb8 hfr ls (lv_sub hl [0, 2] rfl)
            · refine lv_iload_n hx hb dX13_spills_30 rfl (lv_at hl 0 rfl) ?_
              refine g_bipush S 6 dX13_spills_31 (by decide +kernel) ?_
              refine g_irem S (by omega) (by omega) (by omega) dX13_spills_33 ?_
              refine g_iconst S 5 dX13_spills_34 (by decide +kernel) ?_
              refine g_eq S (a := i % 6) (b := 5) (by omega) (by omega) (tgt := 46) dX13_spills_35 (by decide) (fun g4 => ?_) (fun g4 => ?_)
              · refine g_iconst S 1 dX13_spills_46 (by decide +kernel) ?_
                refine lv_goto (tgt := 51) hx hb dX13_spills_47 (by decide) ?_
                refine lv_istore_n (lv' := [(2, .int (nI (1))), (1, .int (nI (i))), (0, .ref (ad (b)))]) hx hb dX13_spills_51 rfl hl (by decide) rfl (fun ls hl => ?_)
                refine lv_aload_n hx hb dX13_spills_52 rfl (lv_at hl 2 rfl) ?_
                refine g_get S hI hP uX13 rfl (fs := _) (hb1.lt 0 (by decide)) (hb1.2 0 (by decide)) 20 (by decide) q1807 rfl (v := .ref (ad (b + 10))) rfl dX13_spills_53 ?_
                refine lv_iload_n hx hb dX13_spills_56 rfl (lv_at hl 1 rfl) ?_
                refine lv_iload_n hx hb dX13_spills_57 rfl (lv_at hl 0 rfl) ?_
                refine g_ifeq S (a := 1) (by omega) (tgt := 69) dX13_spills_58 (by decide) (fun hzz => ?_) (fun hzz => ?_)
                · omega
                · refine lv_aload_n hx hb dX13_spills_61 rfl (lv_at hl 2 rfl) ?_
                  refine lv_iload_n hx hb dX13_spills_62 rfl (lv_at hl 1 rfl) ?_
                  refine g_roi (g_runV S hI hP hS (k := 1) (As := [.int (nI (i))]) (rest := [.int (nI (i)), .ref (ad (b + 10))]) (mX13_high l b g kp sv bf sd ip sg mk td lv1 tl qs qc qw qd co wy de ca ln fa sm pa tm i (ht i) hb1 h (hgh i h)) q1882 q1884 q50 q100 q1885 rfl rfl (by decide +kernel) ⟨Nat.le_of_ble_eq_true rfl, Nat.le_of_ble_eq_true rfl⟩ rfl (hb1.lt 0 (by decide)) (hb1.2 0 (by decide)) rfl hl.1 rfl (Nat.le_of_ble_eq_true rfl) ⟨(Nat.le_of_ble_eq_true rfl), (Nat.le_of_ble_eq_true rfl)⟩ dX13_spills_63) hS (fun H locs hP hS => ?_)
                  refine lv_goto (tgt := 71) hx hb dX13_spills_66 (by decide) ?_
                  refine g_iastN S hI hP hS (f := lv1) (x := ht i) (hb1.lt 10 (by decide)) (hb1.2 10 (by decide)) (i) (h) (by decide) dX13_spills_71 (fun H locs hP hS => ?_)
                  have hP : gP E ad N (va_up _ (b + 10) (MDC E ad b g kp sv bf sd ip sg mk td (va_up lv1 i (ht i)) tl qs qc qw qd co wy de ca ln fa sm pa tm 10)) H := hP
                  have hb9 : bkP N (va_up _ (b + 10) (MDC E ad b g kp sv bf sd ip sg mk td (va_up lv1 i (ht i)) tl qs qc qw qd co wy de ca ln fa sm pa tm 10)) b 12 (MDC E ad b g kp sv bf sd ip sg mk td (va_up lv1 i (ht i)) tl qs qc qw qd co wy de ca ln fa sm pa tm) := MD_setA9 hb1 _
                  have hfr := hfr.up (p := b + 10) (e := MDC E ad b g kp sv bf sd ip sg mk td (va_up lv1 i (ht i)) tl qs qc qw qd co wy de ca ln fa sm pa tm 10) (by show _ ∧ _; omega)
                  refine lv_iinc (v := nI (i + 1)) (lv' := [(1, .int (nI (i + 1))), (2, .int (nI (1))), (0, .ref (ad (b)))]) hx hb dX13_spills_72 hl (k := 1) rfl (g_inc _ 1 (by decide +kernel)) (by decide) rfl (fun ls hl => ?_)
                  refine lv_goto (tgt := 2) hx hb dX13_spills_75 (by decide) ?_
                  exact ih_lpa (i + 1) (va_up lv1 i (ht i)) (by omega) (by omega) (fun j hj => by by_cases q : j = i; rw [q, va_up_self]; unfold exM; rw [if_pos (Or.inl (Or.inr (Or.inr (Or.inr g4))))]; rw [va_up_ne _ _ q]; exact hv1 j (by omega)) _ _ _ hP hS hb9 hfr ls (lv_sub hl [0, 2] rfl)
              · refine lv_aload_n hx hb dX13_spills_38 rfl (lv_at hl 1 rfl) ?_
                refine lv_iload_n hx hb dX13_spills_39 rfl (lv_at hl 0 rfl) ?_
                refine g_roi (g_runV S hI hP hS (k := 1) (As := [.int (nI (i))]) (rest := []) (mX13_isHole l b g kp sv bf sd ip sg mk td lv1 tl qs qc qw qd co wy de ca ln fa sm pa tm i (wr i) hb1 h (hgw i h) (hwr i h)) q1968 q1970 q60 q100 q1971 rfl rfl (by decide +kernel) ⟨Nat.le_of_ble_eq_true rfl, Nat.le_of_ble_eq_true rfl⟩ rfl (hb1.lt 0 (by decide)) (hb1.2 0 (by decide)) rfl hl.1 rfl (Nat.le_of_ble_eq_true rfl) ⟨(Nat.le_of_ble_eq_true rfl), (Nat.le_of_ble_eq_true rfl)⟩ dX13_spills_40) hS (fun H locs hP hS => ?_)
                refine g_beq S (b := decide (3 ≤ wr i)) (tgt := 50) dX13_spills_43 (by decide) (fun g5 => ?_) (fun g5 => ?_)
                · have g5 := of_decide_eq_false g5
                  refine g_iconst S 0 dX13_spills_50 (by decide +kernel) ?_
                  refine lv_istore_n (lv' := [(2, .int (nI (0))), (1, .int (nI (i))), (0, .ref (ad (b)))]) hx hb dX13_spills_51 rfl hl (by decide) rfl (fun ls hl => ?_)
                  refine lv_aload_n hx hb dX13_spills_52 rfl (lv_at hl 2 rfl) ?_
                  refine g_get S hI hP uX13 rfl (fs := _) (hb1.lt 0 (by decide)) (hb1.2 0 (by decide)) 20 (by decide) q1807 rfl (v := .ref (ad (b + 10))) rfl dX13_spills_53 ?_
                  refine lv_iload_n hx hb dX13_spills_56 rfl (lv_at hl 1 rfl) ?_
                  refine lv_iload_n hx hb dX13_spills_57 rfl (lv_at hl 0 rfl) ?_
                  refine g_ifeq S (a := 0) (by omega) (tgt := 69) dX13_spills_58 (by decide) (fun hzz => ?_) (fun hzz => ?_)
                  · refine lv_ldc (v := nI 1000000) hx hb S.2.2.2.1 (S.2.2.2.2 _ q2016) dX13_spills_69 ?_
                    refine g_iastN S hI hP hS (f := lv1) (x := 1000000) (hb1.lt 10 (by decide)) (hb1.2 10 (by decide)) (i) (h) (by decide) dX13_spills_71 (fun H locs hP hS => ?_)
                    have hP : gP E ad N (va_up _ (b + 10) (MDC E ad b g kp sv bf sd ip sg mk td (va_up lv1 i 1000000) tl qs qc qw qd co wy de ca ln fa sm pa tm 10)) H := hP
                    have hb10 : bkP N (va_up _ (b + 10) (MDC E ad b g kp sv bf sd ip sg mk td (va_up lv1 i 1000000) tl qs qc qw qd co wy de ca ln fa sm pa tm 10)) b 12 (MDC E ad b g kp sv bf sd ip sg mk td (va_up lv1 i 1000000) tl qs qc qw qd co wy de ca ln fa sm pa tm) := MD_setA9 hb1 _
                    have hfr := hfr.up (p := b + 10) (e := MDC E ad b g kp sv bf sd ip sg mk td (va_up lv1 i 1000000) tl qs qc qw qd co wy de ca ln fa sm pa tm 10) (by show _ ∧ _; omega)
                    refine lv_iinc (v := nI (i + 1)) (lv' := [(1, .int (nI (i + 1))), (2, .int (nI (0))), (0, .ref (ad (b)))]) hx hb dX13_spills_72 hl (k := 1) rfl (g_inc _ 1 (by decide +kernel)) (by decide) rfl (fun ls hl => ?_)
                    refine lv_goto (tgt := 2) hx hb dX13_spills_75 (by decide) ?_
                    exact ih_lpa (i + 1) (va_up lv1 i (1000000)) (by omega) (by omega) (fun j hj => by by_cases q : j = i; rw [q, va_up_self]; unfold exM; rw [if_neg (by omega)]; rw [va_up_ne _ _ q]; exact hv1 j (by omega)) _ _ _ hP hS hb10 hfr ls (lv_sub hl [0, 2] rfl)
                  · omega
                · refine g_iconst S 1 dX13_spills_46 (by decide +kernel) ?_
                  refine lv_goto (tgt := 51) hx hb dX13_spills_47 (by decide) ?_
                  refine lv_istore_n (lv' := [(2, .int (nI (1))), (1, .int (nI (i))), (0, .ref (ad (b)))]) hx hb dX13_spills_51 rfl hl (by decide) rfl (fun ls hl => ?_)
                  refine lv_aload_n hx hb dX13_spills_52 rfl (lv_at hl 2 rfl) ?_
                  refine g_get S hI hP uX13 rfl (fs := _) (hb1.lt 0 (by decide)) (hb1.2 0 (by decide)) 20 (by decide) q1807 rfl (v := .ref (ad (b + 10))) rfl dX13_spills_53 ?_
                  refine lv_iload_n hx hb dX13_spills_56 rfl (lv_at hl 1 rfl) ?_
                  refine lv_iload_n hx hb dX13_spills_57 rfl (lv_at hl 0 rfl) ?_
                  refine g_ifeq S (a := 1) (by omega) (tgt := 69) dX13_spills_58 (by decide) (fun hzz => ?_) (fun hzz => ?_)
                  · omega
                  · refine lv_aload_n hx hb dX13_spills_61 rfl (lv_at hl 2 rfl) ?_
                    refine lv_iload_n hx hb dX13_spills_62 rfl (lv_at hl 1 rfl) ?_
                    refine g_roi (g_runV S hI hP hS (k := 1) (As := [.int (nI (i))]) (rest := [.int (nI (i)), .ref (ad (b + 10))]) (mX13_high l b g kp sv bf sd ip sg mk td lv1 tl qs qc qw qd co wy de ca ln fa sm pa tm i (ht i) hb1 h (hgh i h)) q1882 q1884 q50 q100 q1885 rfl rfl (by decide +kernel) ⟨Nat.le_of_ble_eq_true rfl, Nat.le_of_ble_eq_true rfl⟩ rfl (hb1.lt 0 (by decide)) (hb1.2 0 (by decide)) rfl hl.1 rfl (Nat.le_of_ble_eq_true rfl) ⟨(Nat.le_of_ble_eq_true rfl), (Nat.le_of_ble_eq_true rfl)⟩ dX13_spills_63) hS (fun H locs hP hS => ?_)
                    refine lv_goto (tgt := 71) hx hb dX13_spills_66 (by decide) ?_
                    refine g_iastN S hI hP hS (f := lv1) (x := ht i) (hb1.lt 10 (by decide)) (hb1.2 10 (by decide)) (i) (h) (by decide) dX13_spills_71 (fun H locs hP hS => ?_)
                    have hP : gP E ad N (va_up _ (b + 10) (MDC E ad b g kp sv bf sd ip sg mk td (va_up lv1 i (ht i)) tl qs qc qw qd co wy de ca ln fa sm pa tm 10)) H := hP
                    have hb11 : bkP N (va_up _ (b + 10) (MDC E ad b g kp sv bf sd ip sg mk td (va_up lv1 i (ht i)) tl qs qc qw qd co wy de ca ln fa sm pa tm 10)) b 12 (MDC E ad b g kp sv bf sd ip sg mk td (va_up lv1 i (ht i)) tl qs qc qw qd co wy de ca ln fa sm pa tm) := MD_setA9 hb1 _
                    have hfr := hfr.up (p := b + 10) (e := MDC E ad b g kp sv bf sd ip sg mk td (va_up lv1 i (ht i)) tl qs qc qw qd co wy de ca ln fa sm pa tm 10) (by show _ ∧ _; omega)
                    refine lv_iinc (v := nI (i + 1)) (lv' := [(1, .int (nI (i + 1))), (2, .int (nI (1))), (0, .ref (ad (b)))]) hx hb dX13_spills_72 hl (k := 1) rfl (g_inc _ 1 (by decide +kernel)) (by decide) rfl (fun ls hl => ?_)
                    refine lv_goto (tgt := 2) hx hb dX13_spills_75 (by decide) ?_
                    exact ih_lpa (i + 1) (va_up lv1 i (ht i)) (by omega) (by omega) (fun j hj => by by_cases q : j = i; rw [q, va_up_self]; unfold exM; rw [if_pos (Or.inr (of_decide_eq_true g5))]; rw [va_up_ne _ _ q]; exact hv1 j (by omega)) _ _ _ hP hS hb11 hfr ls (lv_sub hl [0, 2] rfl)
  exact lpa (37 - (0) + 1) (0) (lv) (Nat.lt_succ_self _) (by omega) (fun j hj => absurd hj (Nat.not_lt_zero _)) _ _ _ hP hS hb_m hfr ls (lv_sub hl [0, 1] rfl)
set_option maxHeartbeats 4000000 in
set_option maxRecDepth 100000 in
/-- spill -/
theorem mX13_spill (l : Launch) {E : gE} {ad : Nat → Nat} {N : Nat} {w : Nat → va_E} (b : Nat) (g kp sv bf sd ip sg mk td lv tl : Nat → Nat) (qs qc qw qd co wy : Nat) (de : Int32) (ca ln : Nat) (fa : Option Nat) (sm pa tm : Nat) (ht dr pg wt wr mo : Nat → Nat) (mc ni po dn : Nat) (x y : Int32) (hb_m : bkP N w b 12 (MDC E ad b g kp sv bf sd ip sg mk td lv tl qs qc qw qd co wy de ca ln fa sm pa tm)) (hR : mRg g ht pg wt wr mo mc ni po dn) (hht : ∀ k, k < 36 → ht k ≤ 99) (hwr : ∀ k, k < 36 → wr k ≤ 3) : gMi l yX13_spill (lw_ws yX13_spill cX13_spill 3 (some .int)) ({ frames := 4, cells := 0, slots := 0, locals := 90 } : Room) E ad N w [.ref (ad (b)), .int (x), .int (y)] (fun r w' => ((∃ (lv' : Nat → Nat) (k : Nat), grt (fun _ => false) (fun k _ x => max (ht k) x) (exM ht wr) lv' ∧ cellV x y = some k ∧ r = nI (lv' k) ∧ bkP N w' b 12 (MDC E ad b g kp sv bf sd ip sg mk td lv' tl qs qc qw 0 0 wy de ca ln fa sm pa tm)) ∨ (cellV x y = none ∧ bkP N w' b 12 (MDC E ad b g kp sv bf sd ip sg mk td lv tl qs qc qw 0 1 wy de ca ln fa sm pa tm))) ∧ gFr (gIn b 12) w w') 0 0 := by
  refine Met.ofW (cc := cX13_spill) (maxL := 3) (ret := (some .int)) (by decide) rfl ?_
  intro p e s m args below meth cd s₁ B hml hv
  obtain ⟨rfl, hI, hP⟩ := hv
  obtain ⟨S, hr, hlocks⟩ := gPre (ws := []) B hml (C := RX13) rfl
  have hx := S.1
  have hb := S.2.1
  have hS : va_S (gA E) s.heap s.heap [] := va_S.rf
  have hfr : gFr (gIn b 12) w w := gFr.rf
  have hl := lv_entry ([.ref (ad (b)), .int (x), .int (y)]) (n := 3) (Nat.le_of_ble_eq_true rfl)
  rw [lg_entry_eq]
  generalize (lg_sl ([.ref (ad (b)), .int (x), .int (y)]) ++ List.replicate (3 - (lg_sl ([.ref (ad (b)), .int (x), .int (y)])).length) Slot.unset).toArray = ls at hl ⊢
  have hl : lv_has ls 3 [(0, .ref (ad (b))), (1, .int (x)), (2, .int (y))] := hl
  obtain ⟨hgh, hgw, hgp, hgt, hgm, hg3, hg0, hg1, hg2⟩ := id hR
  refine lv_aload_n hx hb dX13_spill_0 rfl (lv_at hl 0 rfl) ?_
  refine lv_iload_n hx hb dX13_spill_1 rfl (lv_at hl 1 rfl) ?_
  refine lv_iload_n hx hb dX13_spill_2 rfl (lv_at hl 2 rfl) ?_
  refine g_afi (g_runV S hI hP hS (k := 2) (As := [.int (x), .int (y)]) (rest := []) (mX13_isNone l b g kp sv bf sd ip sg mk td lv tl qs qc qw qd co wy de ca ln fa sm pa tm x y hb_m ) q1868 q1870 q48 q100 q1871 rfl rfl (by decide +kernel) ⟨Nat.le_of_ble_eq_true rfl, Nat.le_of_ble_eq_true rfl⟩ rfl (hb_m.lt 0 (by decide)) (hb_m.2 0 (by decide)) rfl hl.1 rfl (Nat.le_of_ble_eq_true rfl) ⟨(Nat.le_of_ble_eq_true rfl), (Nat.le_of_ble_eq_true rfl)⟩ dX13_spill_3) hS (fun rz w1 H locs hq hP hS => ?_)
  obtain ⟨hr3, hb1, hf2⟩ := hq
  rw [hr3]
  have hfr := hfr.trans hf2 (fun q hq => by (try simp only [gIn] at hq ⊢); (try dsimp only at hq ⊢); omega)
  refine g_beq S (b := (cellV x y).isNone) (tgt := 11) dX13_spill_6 (by decide) (fun h1 => ?_) (fun h1 => ?_)
  · obtain ⟨k, hck⟩ : ∃ k, cellV x y = some k := by cases q : cellV x y with | none => (rw [q] at h1; cases h1) | some a => exact ⟨a, rfl⟩
    have hk36 := cellV_lt hck
    rw [if_pos (show (cellV x y).isSome = true by rw [hck]; rfl)] at hb1
    (try rw [if_pos (show (cellV x y).isSome = true by rw [hck]; rfl)] at hP)
    (try rw [if_pos (show (cellV x y).isSome = true by rw [hck]; rfl)] at hfr)
    refine lv_aload_n hx hb dX13_spill_11 rfl (lv_at hl 0 rfl) ?_
    refine g_afv (g_runV S hI hP hS (k := 0) (As := []) (rest := []) (mX13_spills l b g kp sv bf sd ip sg mk td lv tl qs qc qw 0 0 wy de ca ln fa sm pa tm ht dr pg wt wr mo mc ni po dn hb1 hR hht hwr) q2012 q2014 q63 q100 q2015 rfl rfl (by decide +kernel) ⟨Nat.le_of_ble_eq_true rfl, Nat.le_of_ble_eq_true rfl⟩ rfl (hb1.lt 0 (by decide)) (hb1.2 0 (by decide)) rfl hl.1 rfl (Nat.le_of_ble_eq_true rfl) ⟨(Nat.le_of_ble_eq_true rfl), (Nat.le_of_ble_eq_true rfl)⟩ dX13_spill_12) hS (fun w1 H locs hq hP hS => ?_)
    obtain ⟨lv9, hg9, hl9, hb9, hf9⟩ := hq
    have hfr := hfr.trans hf9 (fun q hq => hq)
    refine lv_aload_n hx hb dX13_spill_15 rfl (lv_at hl 0 rfl) ?_
    refine g_get S hI hP uX13 rfl (fs := _) (hb9.lt 0 (by decide)) (hb9.2 0 (by decide)) 20 (by decide) q1807 rfl (v := .ref (ad (b + 10))) rfl dX13_spill_16 ?_
    refine g_bipush S 6 dX13_spill_19 (by decide +kernel) ?_
    refine lv_iload_n hx hb dX13_spill_21 rfl (lv_at hl 1 rfl) ?_
    refine lv_imul hx hb dX13_spill_22 ?_
    refine lv_iload_n hx hb dX13_spill_23 rfl (lv_at hl 2 rfl) ?_
    refine lv_iadd hx hb dX13_spill_24 ?_
    rw [cell6 hck]
    refine g_iald S hI hP (f := fun j => nI (lv9 j)) (hb9.lt 10 (by decide)) (hb9.2 10 (by decide)) (k) (hk36) (by decide) dX13_spill_25 ?_
    exact g_iret S hr hlocks hP hS (⟨Or.inl ⟨lv9, k, hg9, hck, rfl, hb9⟩, hfr⟩) (fun _ _ => rfl) (Nat.le_of_ble_eq_true rfl) (Nat.le_of_ble_eq_true rfl) dX13_spill_26
  · have hcn := Option.isNone_iff_eq_none.mp h1
    rw [if_neg (show ¬ (cellV x y).isSome = true by rw [hcn]; decide)] at hb1
    (try rw [if_neg (show ¬ (cellV x y).isSome = true by rw [hcn]; decide)] at hP)
    (try rw [if_neg (show ¬ (cellV x y).isSome = true by rw [hcn]; decide)] at hfr)
    refine g_iconst S 0 dX13_spill_9 (by decide +kernel) ?_
    exact g_iret S hr hlocks hP hS (⟨Or.inr ⟨hcn, hb1⟩, hfr⟩) (fun _ _ => rfl) (Nat.le_of_ble_eq_true rfl) (Nat.le_of_ble_eq_true rfl) dX13_spill_10
set_option maxHeartbeats 4000000 in
set_option maxRecDepth 100000 in
/-- spillLevel -/
theorem mX13_spillLevel (l : Launch) {E : gE} {ad : Nat → Nat} {N : Nat} {w : Nat → va_E} (b : Nat) (g kp sv bf sd ip sg mk td lv tl : Nat → Nat) (qs qc qw qd co wy : Nat) (de : Int32) (ca ln : Nat) (fa : Option Nat) (sm pa tm : Nat) (ht dr pg wt wr mo : Nat → Nat) (mc ni po dn : Nat) (x y : Int32) (hb_m : bkP N w b 12 (MDC E ad b g kp sv bf sd ip sg mk td lv tl qs qc qw qd co wy de ca ln fa sm pa tm)) (hR : mRg g ht pg wt wr mo mc ni po dn) (hht : ∀ k, k < 36 → ht k ≤ 99) (hwr : ∀ k, k < 36 → wr k ≤ 3) : gMi l yX13_spillLevel (lw_ws yX13_spillLevel cX13_spillLevel 3 (some .int)) ({ frames := 5, cells := 0, slots := 0, locals := 112 } : Room) E ad N w [.ref (ad (b)), .int (x), .int (y)] (fun r w' => ((∃ (lv' : Nat → Nat) (k : Nat), grt (fun _ => false) (fun k _ x => max (ht k) x) (exM ht wr) lv' ∧ cellV x y = some k ∧ r = nI (lv' k) ∧ bkP N w' b 12 (MDC E ad b g kp sv bf sd ip sg mk td lv' tl qs qc qw 0 0 wy de ca ln fa sm pa tm)) ∨ (cellV x y = none ∧ bkP N w' b 12 (MDC E ad b g kp sv bf sd ip sg mk td lv tl qs qc qw 0 1 wy de ca ln fa sm pa tm))) ∧ gFr (gIn b 12) w w') 0 0 := by
  refine Met.ofW (cc := cX13_spillLevel) (maxL := 3) (ret := (some .int)) (by decide) rfl ?_
  intro p e s m args below meth cd s₁ B hml hv
  obtain ⟨rfl, hI, hP⟩ := hv
  obtain ⟨S, hr, hlocks⟩ := gPre (ws := []) B hml (C := RX13) rfl
  have hx := S.1
  have hb := S.2.1
  have hS : va_S (gA E) s.heap s.heap [] := va_S.rf
  have hfr : gFr (gIn b 12) w w := gFr.rf
  have hl := lv_entry ([.ref (ad (b)), .int (x), .int (y)]) (n := 3) (Nat.le_of_ble_eq_true rfl)
  rw [lg_entry_eq]
  generalize (lg_sl ([.ref (ad (b)), .int (x), .int (y)]) ++ List.replicate (3 - (lg_sl ([.ref (ad (b)), .int (x), .int (y)])).length) Slot.unset).toArray = ls at hl ⊢
  have hl : lv_has ls 3 [(0, .ref (ad (b))), (1, .int (x)), (2, .int (y))] := hl
  refine lv_aload_n hx hb dX13_spillLevel_0 rfl (lv_at hl 0 rfl) ?_
  refine lv_iload_n hx hb dX13_spillLevel_1 rfl (lv_at hl 1 rfl) ?_
  refine lv_iload_n hx hb dX13_spillLevel_2 rfl (lv_at hl 2 rfl) ?_
  refine g_afi (g_runV S hI hP hS (k := 2) (As := [.int (x), .int (y)]) (rest := []) (mX13_spill l b g kp sv bf sd ip sg mk td lv tl qs qc qw qd co wy de ca ln fa sm pa tm ht dr pg wt wr mo mc ni po dn x y hb_m hR hht hwr) q2008 q2010 q62 q100 q2011 rfl rfl (by decide +kernel) ⟨Nat.le_of_ble_eq_true rfl, Nat.le_of_ble_eq_true rfl⟩ rfl (hb_m.lt 0 (by decide)) (hb_m.2 0 (by decide)) rfl hl.1 rfl (Nat.le_of_ble_eq_true rfl) ⟨(Nat.le_of_ble_eq_true rfl), (Nat.le_of_ble_eq_true rfl)⟩ dX13_spillLevel_3) hS (fun rz w1 H locs hq hP hS => ?_)
  obtain hq := hq
  exact g_iret S hr hlocks hP hS (hq) (fun _ _ => rfl) (Nat.le_of_ble_eq_true rfl) (Nat.le_of_ble_eq_true rfl) dX13_spillLevel_6
set_option maxHeartbeats 4000000 in
set_option maxRecDepth 100000 in
/-- spillLevelByRounds -/
theorem mX13_spillLevelByRounds (l : Launch) {E : gE} {ad : Nat → Nat} {N : Nat} {w : Nat → va_E} (b : Nat) (g kp sv bf sd ip sg mk td lv tl : Nat → Nat) (qs qc qw qd co wy : Nat) (de : Int32) (ca ln : Nat) (fa : Option Nat) (sm pa tm : Nat) (ht dr pg wt wr mo : Nat → Nat) (mc ni po dn : Nat) (x y : Int32) (hb_m : bkP N w b 12 (MDC E ad b g kp sv bf sd ip sg mk td lv tl qs qc qw qd co wy de ca ln fa sm pa tm)) (hR : mRg g ht pg wt wr mo mc ni po dn) (hht : ∀ k, k < 36 → ht k ≤ 99) (hwr : ∀ k, k < 36 → wr k ≤ 3) : gMi l yX13_spillLevelByRounds (lw_ws yX13_spillLevelByRounds cX13_spillLevelByRounds 3 (some .int)) ({ frames := 5, cells := 0, slots := 0, locals := 112 } : Room) E ad N w [.ref (ad (b)), .int (x), .int (y)] (fun r w' => ((∃ (lv' : Nat → Nat) (k : Nat), grt (fun _ => false) (fun k _ x => max (ht k) x) (exM ht wr) lv' ∧ cellV x y = some k ∧ r = nI (lv' k) ∧ bkP N w' b 12 (MDC E ad b g kp sv bf sd ip sg mk td lv' tl qs qc qw 0 0 wy de ca ln fa sm pa tm)) ∨ (cellV x y = none ∧ bkP N w' b 12 (MDC E ad b g kp sv bf sd ip sg mk td lv tl qs qc qw 0 1 wy de ca ln fa sm pa tm))) ∧ gFr (gIn b 12) w w') 0 0 := by
  refine Met.ofW (cc := cX13_spillLevelByRounds) (maxL := 3) (ret := (some .int)) (by decide) rfl ?_
  intro p e s m args below meth cd s₁ B hml hv
  obtain ⟨rfl, hI, hP⟩ := hv
  obtain ⟨S, hr, hlocks⟩ := gPre (ws := []) B hml (C := RX13) rfl
  have hx := S.1
  have hb := S.2.1
  have hS : va_S (gA E) s.heap s.heap [] := va_S.rf
  have hfr : gFr (gIn b 12) w w := gFr.rf
  have hl := lv_entry ([.ref (ad (b)), .int (x), .int (y)]) (n := 3) (Nat.le_of_ble_eq_true rfl)
  rw [lg_entry_eq]
  generalize (lg_sl ([.ref (ad (b)), .int (x), .int (y)]) ++ List.replicate (3 - (lg_sl ([.ref (ad (b)), .int (x), .int (y)])).length) Slot.unset).toArray = ls at hl ⊢
  have hl : lv_has ls 3 [(0, .ref (ad (b))), (1, .int (x)), (2, .int (y))] := hl
  refine lv_aload_n hx hb dX13_spillLevelByRounds_0 rfl (lv_at hl 0 rfl) ?_
  refine lv_iload_n hx hb dX13_spillLevelByRounds_1 rfl (lv_at hl 1 rfl) ?_
  refine lv_iload_n hx hb dX13_spillLevelByRounds_2 rfl (lv_at hl 2 rfl) ?_
  refine g_afi (g_runV S hI hP hS (k := 2) (As := [.int (x), .int (y)]) (rest := []) (mX13_spill l b g kp sv bf sd ip sg mk td lv tl qs qc qw qd co wy de ca ln fa sm pa tm ht dr pg wt wr mo mc ni po dn x y hb_m hR hht hwr) q2008 q2010 q62 q100 q2011 rfl rfl (by decide +kernel) ⟨Nat.le_of_ble_eq_true rfl, Nat.le_of_ble_eq_true rfl⟩ rfl (hb_m.lt 0 (by decide)) (hb_m.2 0 (by decide)) rfl hl.1 rfl (Nat.le_of_ble_eq_true rfl) ⟨(Nat.le_of_ble_eq_true rfl), (Nat.le_of_ble_eq_true rfl)⟩ dX13_spillLevelByRounds_3) hS (fun rz w1 H locs hq hP hS => ?_)
  obtain hq := hq
  exact g_iret S hr hlocks hP hS (hq) (fun _ _ => rfl) (Nat.le_of_ble_eq_true rfl) (Nat.le_of_ble_eq_true rfl) dX13_spillLevelByRounds_6
set_option maxHeartbeats 4000000 in
set_option maxRecDepth 100000 in
/-- pondVolume -/
theorem mX13_pondVolume (l : Launch) {E : gE} {ad : Nat → Nat} {N : Nat} {w : Nat → va_E} (b : Nat) (g kp sv bf sd ip sg mk td lv tl : Nat → Nat) (qs qc qw qd co wy : Nat) (de : Int32) (ca ln : Nat) (fa : Option Nat) (sm pa tm : Nat) (ht dr pg wt wr mo : Nat → Nat) (mc ni po dn : Nat) (hb_m : bkP N w b 12 (MDC E ad b g kp sv bf sd ip sg mk td lv tl qs qc qw qd co wy de ca ln fa sm pa tm)) (hR : mRg g ht pg wt wr mo mc ni po dn) (hht : ∀ k, k < 36 → ht k ≤ 99) (hwr : ∀ k, k < 36 → wr k ≤ 3) : gMi l yX13_pondVolume (lw_ws yX13_pondVolume cX13_pondVolume 3 (some .int)) ({ frames := 4, cells := 0, slots := 0, locals := 90 } : Room) E ad N w [.ref (ad (b))] (fun r w' => ∃ lv' : Nat → Nat, grt (fun _ => false) (fun k _ x => max (ht k) x) (exM ht wr) lv' ∧ r = volI lv' ht 36 ∧ bkP N w' b 12 (MDC E ad b g kp sv bf sd ip sg mk td lv' tl qs qc qw qd 0 wy de ca ln fa sm pa tm) ∧ gFr (gIn b 12) w w') 0 0 := by
  refine Met.ofW (cc := cX13_pondVolume) (maxL := 3) (ret := (some .int)) (by decide) rfl ?_
  intro p e s m args below meth cd s₁ B hml hv
  obtain ⟨rfl, hI, hP⟩ := hv
  obtain ⟨S, hr, hlocks⟩ := gPre (ws := []) B hml (C := RX13) rfl
  have hx := S.1
  have hb := S.2.1
  have hS : va_S (gA E) s.heap s.heap [] := va_S.rf
  have hfr : gFr (gIn b 12) w w := gFr.rf
  have hl := lv_entry ([.ref (ad (b))]) (n := 3) (Nat.le_of_ble_eq_true rfl)
  rw [lg_entry_eq]
  generalize (lg_sl ([.ref (ad (b))]) ++ List.replicate (3 - (lg_sl ([.ref (ad (b))])).length) Slot.unset).toArray = ls at hl ⊢
  have hl : lv_has ls 3 [(0, .ref (ad (b)))] := hl
  obtain ⟨hgh, hgw, hgp, hgt, hgm, hg3, hg0, hg1, hg2⟩ := id hR
  refine lv_aload_n hx hb dX13_pondVolume_0 rfl (lv_at hl 0 rfl) ?_
  refine g_iconst S 0 dX13_pondVolume_1 (by decide +kernel) ?_
  refine g_put S hI hP hS uX13 rfl tyX13 tyX13_ok nmX13 (fs := _) (hb_m.lt 0 (by decide)) (hb_m.2 0 (by decide)) 9 (by decide) q1796 rfl rfl (v := .int (nI (0))) rfl rfl (Nat.le_of_ble_eq_true rfl) dX13_pondVolume_2 (fun H locs hP hS => ?_)
  have hP : gP E ad N (va_up _ (b) (MDC E ad b g kp sv bf sd ip sg mk td lv tl qs qc qw qd 0 wy de ca ln fa sm pa tm 0)) H := hP
  have hb1 : bkP N (va_up _ (b) (MDC E ad b g kp sv bf sd ip sg mk td lv tl qs qc qw qd 0 wy de ca ln fa sm pa tm 0)) b 12 (MDC E ad b g kp sv bf sd ip sg mk td lv tl qs qc qw qd 0 wy de ca ln fa sm pa tm) := MD_setO hb_m _ _ _ _ _ _ _ _ _ _ _ _ _
  have hfr := hfr.up (p := b) (e := MDC E ad b g kp sv bf sd ip sg mk td lv tl qs qc qw qd 0 wy de ca ln fa sm pa tm 0) (by show _ ∧ _; omega)
  refine lv_aload_n hx hb dX13_pondVolume_5 rfl (lv_at hl 0 rfl) ?_
  refine g_afv (g_runV S hI hP hS (k := 0) (As := []) (rest := []) (mX13_spills l b g kp sv bf sd ip sg mk td lv tl qs qc qw qd 0 wy de ca ln fa sm pa tm ht dr pg wt wr mo mc ni po dn hb1 hR hht hwr) q2012 q2014 q63 q100 q2015 rfl rfl (by decide +kernel) ⟨Nat.le_of_ble_eq_true rfl, Nat.le_of_ble_eq_true rfl⟩ rfl (hb1.lt 0 (by decide)) (hb1.2 0 (by decide)) rfl hl.1 rfl (Nat.le_of_ble_eq_true rfl) ⟨(Nat.le_of_ble_eq_true rfl), (Nat.le_of_ble_eq_true rfl)⟩ dX13_pondVolume_6) hS (fun w1 H locs hq hP hS => ?_)
  obtain ⟨lv9, hg9, hl9, hb9, hf9⟩ := hq
  have hfr := hfr.trans hf9 (fun q hq => hq)
  refine g_iconst S 0 dX13_pondVolume_9 (by decide +kernel) ?_
  refine lv_istore_n (lv' := [(1, .int (nI (0))), (0, .ref (ad (b)))]) hx hb dX13_pondVolume_10 rfl hl (by decide) rfl (fun ls hl => ?_)
  refine g_iconst S 0 dX13_pondVolume_11 (by decide +kernel) ?_
  refine lv_istore_n (lv' := [(2, .int (nI (0))), (1, .int (nI (0))), (0, .ref (ad (b)))]) hx hb dX13_pondVolume_12 rfl hl (by decide) rfl (fun ls hl => ?_)
  have loop2 : ∀ (n : Nat) (i : Nat), 36 - i < n → (i ≤ 36) → ∀ (w1 : Nat → va_E) (H : Heap) (locs : List Loc), gP E ad N w1 H → va_S (gA E) s.heap H locs → bkP N w1 b 12 (MDC E ad b g kp sv bf sd ip sg mk td lv9 tl qs qc qw qd 0 wy de ca ln fa sm pa tm) → gFr (gIn b 12) w w1 → ∀ (ls : Array Slot), lv_has ls 3 [(2, .int (nI (i))), (1, .int (volI lv9 ht i)), (0, .ref (ad (b)))] → W p l e (headSpec (lw_ws yX13_pondVolume cX13_pondVolume 3 (some .int)) ({ frames := 4, cells := 0, slots := 0, locals := 90 } : Room)).room s m ([.ref (ad (b))] : List Value).toArray below meth cd H locs 0 0 (MQ below (va_Qi (fun r w' => ∃ lv' : Nat → Nat, grt (fun _ => false) (fun k _ x => max (ht k) x) (exM ht wr) lv' ∧ r = volI lv' ht 36 ∧ bkP N w' b 12 (MDC E ad b g kp sv bf sd ip sg mk td lv' tl qs qc qw qd 0 wy de ca ln fa sm pa tm) ∧ gFr (gIn b 12) w w') (gB E ad N) (gA E)) ([.ref (ad (b))] : List Value).toArray s 0 0 (gA E)) (F0 m 13 ls []) := by
    intro n
    induction n with
    | zero => intro i hmeas; omega
    | succ n ih_loop2 =>
      intro i hmeas hi w1 H locs hP hS hb3 hfr ls hl
      refine lv_iload_n hx hb dX13_pondVolume_13 rfl (lv_at hl 0 rfl) ?_
      refine g_bipush S 36 dX13_pondVolume_14 (by decide +kernel) ?_
      refine g_ge S (a := i) (b := 36) (by omega) (by omega) (tgt := 40) dX13_pondVolume_16 (by decide) (fun h => ?_) (fun h => ?_)
      · have e36 : i = 36 := by omega
        subst e36
        refine lv_iload_n hx hb dX13_pondVolume_40 rfl (lv_at hl 1 rfl) ?_
        exact g_iret S hr hlocks hP hS (⟨lv9, hg9, rfl, hb3, hfr⟩) (fun _ _ => rfl) (Nat.le_of_ble_eq_true rfl) (Nat.le_of_ble_eq_true rfl) dX13_pondVolume_41
      · refine lv_iload_n hx hb dX13_pondVolume_19 rfl (lv_at hl 1 rfl) ?_
        refine lv_aload_n hx hb dX13_pondVolume_20 rfl (lv_at hl 2 rfl) ?_
        refine g_get S hI hP uX13 rfl (fs := _) (hb3.lt 0 (by decide)) (hb3.2 0 (by decide)) 20 (by decide) q1807 rfl (v := .ref (ad (b + 10))) rfl dX13_pondVolume_21 ?_
        refine lv_iload_n hx hb dX13_pondVolume_24 rfl (lv_at hl 0 rfl) ?_
        refine g_iald S hI hP (f := fun j => nI (lv9 j)) (hb3.lt 10 (by decide)) (hb3.2 10 (by decide)) (i) (h) (by decide) dX13_pondVolume_25 ?_
        refine lv_aload_n hx hb dX13_pondVolume_26 rfl (lv_at hl 2 rfl) ?_
        refine lv_iload_n hx hb dX13_pondVolume_27 rfl (lv_at hl 0 rfl) ?_
        refine g_roi (g_runV S hI hP hS (k := 1) (As := [.int (nI (i))]) (rest := [.int (nI (lv9 i)), .int (volI lv9 ht i)]) (mX13_high l b g kp sv bf sd ip sg mk td lv9 tl qs qc qw qd 0 wy de ca ln fa sm pa tm i (ht i) hb3 h (hgh i h)) q1882 q1884 q50 q100 q1885 rfl rfl (by decide +kernel) ⟨Nat.le_of_ble_eq_true rfl, Nat.le_of_ble_eq_true rfl⟩ rfl (hb3.lt 0 (by decide)) (hb3.2 0 (by decide)) rfl hl.1 rfl (Nat.le_of_ble_eq_true rfl) ⟨(Nat.le_of_ble_eq_true rfl), (Nat.le_of_ble_eq_true rfl)⟩ dX13_pondVolume_28) hS (fun H locs hP hS => ?_)
        refine lv_isub hx hb dX13_pondVolume_31 ?_
        refine lv_iadd hx hb dX13_pondVolume_32 ?_
        refine lv_istore_n (lv' := [(1, .int ((volI lv9 ht i) + (nI (lv9 i) - nI (ht i)))), (2, .int (nI (i))), (0, .ref (ad (b)))]) hx hb dX13_pondVolume_33 rfl hl (by decide) rfl (fun ls hl => ?_)
        refine lv_iinc (v := nI (i + 1)) (lv' := [(2, .int (nI (i + 1))), (1, .int ((volI lv9 ht i) + (nI (lv9 i) - nI (ht i)))), (0, .ref (ad (b)))]) hx hb dX13_pondVolume_34 hl (k := 1) rfl (g_inc _ 1 (by decide +kernel)) (by decide) rfl (fun ls hl => ?_)
        refine lv_goto (tgt := 13) hx hb dX13_pondVolume_37 (by decide) ?_
        have hl : lv_has ls 3 [(2, .int (nI (i + 1))), (1, .int (volI lv9 ht (i + 1))), (0, .ref (ad (b)))] := hl
        exact ih_loop2 (i + 1) (by omega) (by omega) _ _ _ hP hS hb3 hfr ls (lv_sub hl [0, 1, 2] rfl)
  exact loop2 (36 - (0) + 1) (0) (Nat.lt_succ_self _) (by omega) _ _ _ hP hS hb9 hfr ls (lv_sub hl [0, 1, 2] rfl)
set_option maxHeartbeats 4000000 in
set_option maxRecDepth 100000 in
/-- the routes -/
theorem mX13_routes0 (l : Launch) {E : gE} {ad : Nat → Nat} {N : Nat} {w : Nat → va_E} (b : Nat) (g kp sv bf sd ip sg mk td lv tl : Nat → Nat) (qs qc qw qd co wy : Nat) (de : Int32) (ca ln : Nat) (fa : Option Nat) (sm pa tm : Nat) (ht dr pg wt wr mo : Nat → Nat) (mc ni po dn : Nat) (a : Nat) (hb_m : bkP N w b 12 (MDC E ad b g kp sv bf sd ip sg mk td lv tl qs qc qw qd co wy de ca ln fa sm pa tm)) (hR : mRg g ht pg wt wr mo mc ni po dn) (hht : ∀ k, k < 36 → ht k ≤ 99) (hwr : ∀ k, k < 36 → wr k ≤ 3) (ha : a < 36) : gMv l yX13_routes (lw_ws yX13_routes cX13_routes 9 none) ({ frames := 3, cells := 0, slots := 0, locals := 66 } : Room) E ad N w [.ref (ad (b)), .int (nI (a)), .int (nI (0))] (fun w' => ∃ lv' : Nat → Nat, grt (fun k => decide (3 ≤ wr k)) (fun k o x => x + 1 + dif (ht k) (ht o)) (rtM wr a) lv' ∧ (∀ k, k < 36 → lv' k ≤ 1000000) ∧ bkP N w' b 12 (MDC E ad b g kp sv bf sd ip sg mk td lv' tl qs qc qw qd co wy de ca ln fa sm pa tm) ∧ gFr (gIn b 12) w w') 0 0 := by
  refine Met.ofW (cc := cX13_routes) (maxL := 9) (ret := none) (by decide) rfl ?_
  intro p e s m args below meth cd s₁ B hml hv
  obtain ⟨rfl, hI, hP⟩ := hv
  obtain ⟨S, hr, hlocks⟩ := gPre (ws := []) B hml (C := RX13) rfl
  have hx := S.1
  have hb := S.2.1
  have hS : va_S (gA E) s.heap s.heap [] := va_S.rf
  have hfr : gFr (gIn b 12) w w := gFr.rf
  have hl := lv_entry ([.ref (ad (b)), .int (nI (a)), .int (nI (0))]) (n := 9) (Nat.le_of_ble_eq_true rfl)
  rw [lg_entry_eq]
  generalize (lg_sl ([.ref (ad (b)), .int (nI (a)), .int (nI (0))]) ++ List.replicate (9 - (lg_sl ([.ref (ad (b)), .int (nI (a)), .int (nI (0))])).length) Slot.unset).toArray = ls at hl ⊢
  have hl : lv_has ls 9 [(0, .ref (ad (b))), (1, .int (nI (a))), (2, .int (nI (0)))] := hl
  obtain ⟨hgh, hgw, hgp, hgt, hgm, hg3, hg0, hg1, hg2⟩ := id hR
  refine g_iconst S 0 dX13_routes_0 (by decide +kernel) ?_
  refine lv_istore_n (lv' := [(3, .int (nI (0))), (0, .ref (ad (b))), (1, .int (nI (a))), (2, .int (nI (0)))]) hx hb dX13_routes_1 rfl hl (by decide) rfl (fun ls hl => ?_)
  have lpa : ∀ (n : Nat) (i : Nat) (lv1 : Nat → Nat), 37 - i < n → (i ≤ 36) → (∀ j, j < i → lv1 j = rtM wr a j) → ∀ (w1 : Nat → va_E) (H : Heap) (locs : List Loc), gP E ad N w1 H → va_S (gA E) s.heap H locs → bkP N w1 b 12 (MDC E ad b g kp sv bf sd ip sg mk td lv1 tl qs qc qw qd co wy de ca ln fa sm pa tm) → gFr (gIn b 12) w w1 → ∀ (ls : Array Slot), lv_has ls 9 [(3, .int (nI (i))), (2, .int (nI (0))), (1, .int (nI (a))), (0, .ref (ad (b)))] → W p l e (headSpec (lw_ws yX13_routes cX13_routes 9 none) ({ frames := 3, cells := 0, slots := 0, locals := 66 } : Room)).room s m ([.ref (ad (b)), .int (nI (a)), .int (nI (0))] : List Value).toArray below meth cd H locs 0 0 (MQ below (va_Qv (fun w' => ∃ lv' : Nat → Nat, grt (fun k => decide (3 ≤ wr k)) (fun k o x => x + 1 + dif (ht k) (ht o)) (rtM wr a) lv' ∧ (∀ k, k < 36 → lv' k ≤ 1000000) ∧ bkP N w' b 12 (MDC E ad b g kp sv bf sd ip sg mk td lv' tl qs qc qw qd co wy de ca ln fa sm pa tm) ∧ gFr (gIn b 12) w w') (gB E ad N) (gA E)) ([.ref (ad (b)), .int (nI (a)), .int (nI (0))] : List Value).toArray s 0 0 (gA E)) (F0 m 2 ls []) := by
    intro n
    induction n with
    | zero => intro i lv1 hmeas; omega
    | succ n ih_lpa =>
      intro i lv1 hmeas hi hv1 w1 H locs hP hS hb1 hfr ls hl
      refine lv_iload_n hx hb dX13_routes_2 rfl (lv_at hl 0 rfl) ?_
      refine g_bipush S 36 dX13_routes_3 (by decide +kernel) ?_
      refine g_ge S (a := i) (b := 36) (by omega) (by omega) (tgt := 39) dX13_routes_5 (by decide) (fun h => ?_) (fun h => ?_)
      · have e36 : i = 36 := by omega
        subst e36
        refine g_iconst S 1 dX13_routes_39 (by decide +kernel) ?_
        refine lv_istore_n (lv' := [(3, .int (nI (1))), (2, .int (nI (0))), (1, .int (nI (a))), (0, .ref (ad (b)))]) hx hb dX13_routes_40 rfl hl (by decide) rfl (fun ls hl => ?_)
        have lpb : ∀ (n : Nat) (lv2 : Nat → Nat) (is : Bool), (if is = true then smN lv2 36 + 1 else 0) < n → (rnd (cdR ht wr) (fun k => decide (3 ≤ wr k)) (fun k o x => x + 1 + dif (ht k) (ht o)) (rtM wr a) lv2 is) → (∀ k, k < 36 → lv2 k ≤ 1000000) → ∀ (w1 : Nat → va_E) (H : Heap) (locs : List Loc), gP E ad N w1 H → va_S (gA E) s.heap H locs → bkP N w1 b 12 (MDC E ad b g kp sv bf sd ip sg mk td lv2 tl qs qc qw qd co wy de ca ln fa sm pa tm) → gFr (gIn b 12) w w1 → ∀ (ls : Array Slot), lv_has ls 9 [(3, .int (bI (is))), (2, .int (nI (0))), (1, .int (nI (a))), (0, .ref (ad (b)))] → W p l e (headSpec (lw_ws yX13_routes cX13_routes 9 none) ({ frames := 3, cells := 0, slots := 0, locals := 66 } : Room)).room s m ([.ref (ad (b)), .int (nI (a)), .int (nI (0))] : List Value).toArray below meth cd H locs 0 0 (MQ below (va_Qv (fun w' => ∃ lv' : Nat → Nat, grt (fun k => decide (3 ≤ wr k)) (fun k o x => x + 1 + dif (ht k) (ht o)) (rtM wr a) lv' ∧ (∀ k, k < 36 → lv' k ≤ 1000000) ∧ bkP N w' b 12 (MDC E ad b g kp sv bf sd ip sg mk td lv' tl qs qc qw qd co wy de ca ln fa sm pa tm) ∧ gFr (gIn b 12) w w') (gB E ad N) (gA E)) ([.ref (ad (b)), .int (nI (a)), .int (nI (0))] : List Value).toArray s 0 0 (gA E)) (F0 m 41 ls []) := by
          intro n
          induction n with
          | zero => intro lv2 is hmeas; omega
          | succ n ih_lpb =>
            intro lv2 is hmeas hrn hlb w1 H locs hP hS hb2 hfr ls hl
            refine lv_iload_n hx hb dX13_routes_41 rfl (lv_at hl 0 rfl) ?_
            refine g_beq S (b := is) (tgt := 196) dX13_routes_42 (by decide) (fun hisv => ?_) (fun hisv => ?_)
            · rw [hisv] at hrn
              exact g_vret S hr hlocks hP hS (⟨lv2, rnd_e hrn, hlb, hb2, hfr⟩) (fun _ _ => rfl) (Nat.le_of_ble_eq_true rfl) (Nat.le_of_ble_eq_true rfl) dX13_routes_196
            · rw [if_pos hisv] at hmeas
              refine g_iconst S 0 dX13_routes_45 (by decide +kernel) ?_
              refine lv_istore_n (lv' := [(3, .int (nI (0))), (2, .int (nI (0))), (1, .int (nI (a))), (0, .ref (ad (b)))]) hx hb dX13_routes_46 rfl hl (by decide) rfl (fun ls hl => ?_)
              refine g_iconst S 0 dX13_routes_47 (by decide +kernel) ?_
              refine lv_istore (lv' := [(4, .int (nI (0))), (3, .int (nI (0))), (2, .int (nI (0))), (1, .int (nI (a))), (0, .ref (ad (b)))]) hx hb dX13_routes_48 hl (by decide) rfl (fun ls hl => ?_)
              have lpc : ∀ (n : Nat) (k : Nat), 37 - k < n → (k ≤ 36) → ∀ (w1 : Nat → va_E) (H : Heap) (locs : List Loc), gP E ad N w1 H → va_S (gA E) s.heap H locs → bkP N w1 b 12 (MDC E ad b g kp sv bf sd ip sg mk td ((iaN (cdR ht wr) lv2 k).1) tl qs qc qw qd co wy de ca ln fa sm pa tm) → gFr (gIn b 12) w w1 → ∀ (ls : Array Slot), lv_has ls 9 [(4, .int (nI (k))), (3, .int (bI ((iaN (cdR ht wr) lv2 k).2))), (2, .int (nI (0))), (1, .int (nI (a))), (0, .ref (ad (b)))] → W p l e (headSpec (lw_ws yX13_routes cX13_routes 9 none) ({ frames := 3, cells := 0, slots := 0, locals := 66 } : Room)).room s m ([.ref (ad (b)), .int (nI (a)), .int (nI (0))] : List Value).toArray below meth cd H locs 0 0 (MQ below (va_Qv (fun w' => ∃ lv' : Nat → Nat, grt (fun k => decide (3 ≤ wr k)) (fun k o x => x + 1 + dif (ht k) (ht o)) (rtM wr a) lv' ∧ (∀ k, k < 36 → lv' k ≤ 1000000) ∧ bkP N w' b 12 (MDC E ad b g kp sv bf sd ip sg mk td lv' tl qs qc qw qd co wy de ca ln fa sm pa tm) ∧ gFr (gIn b 12) w w') (gB E ad N) (gA E)) ([.ref (ad (b)), .int (nI (a)), .int (nI (0))] : List Value).toArray s 0 0 (gA E)) (F0 m 50 ls []) := by
                intro n
                induction n with
                | zero => intro k hmeas; omega
                | succ n ih_lpc =>
                  intro k hmeas hk w1 H locs hP hS hb3 hfr ls hl
                  have hlb3 := iaN_ok (cd := (cdR ht wr)) hlb hk
                  refine lv_iload hx hb dX13_routes_50 (lv_at hl 0 rfl) ?_
                  refine g_bipush S 36 dX13_routes_52 (by decide +kernel) ?_
                  refine g_ge S (a := k) (b := 36) (by omega) (by omega) (tgt := 193) dX13_routes_54 (by decide) (fun h3 => ?_) (fun h3 => ?_)
                  · have e36 : k = 36 := by omega
                    subst e36
                    refine lv_goto (tgt := 41) hx hb dX13_routes_193 (by decide) ?_
                    exact ih_lpb ((iaN (cdR ht wr) lv2 36).1) ((iaN (cdR ht wr) lv2 36).2) (by by_cases q : (iaN (cdR ht wr) lv2 36).2 = true; rw [if_pos q]; have := iaN_sum q; omega; rw [if_neg q]; omega) (rnd_s (cdR_is ht wr) hrn) (hlb3) _ _ _ hP hS hb3 hfr ls (lv_sub hl [1, 2, 3, 4] rfl)
                  · have zk := hht k h3
                    refine g_iconst S 0 dX13_routes_57 (by decide +kernel) ?_
                    refine lv_istore (lv' := [(5, .int (nI (0))), (4, .int (nI (k))), (3, .int (bI ((iaN (cdR ht wr) lv2 k).2))), (2, .int (nI (0))), (1, .int (nI (a))), (0, .ref (ad (b)))]) hx hb dX13_routes_58 hl (by decide) rfl (fun ls hl => ?_)
                    have lpd : ∀ (n : Nat) (d : Nat), 5 - d < n → (d ≤ 4) → ∀ (w1 : Nat → va_E) (H : Heap) (locs : List Loc), gP E ad N w1 H → va_S (gA E) s.heap H locs → bkP N w1 b 12 (MDC E ad b g kp sv bf sd ip sg mk td ((iaD (cdR ht wr) k (iaN (cdR ht wr) lv2 k) d).1) tl qs qc qw qd co wy de ca ln fa sm pa tm) → gFr (gIn b 12) w w1 → ∀ (ls : Array Slot), lv_has ls 9 [(5, .int (nI (d))), (4, .int (nI (k))), (3, .int (bI ((iaD (cdR ht wr) k (iaN (cdR ht wr) lv2 k) d).2))), (2, .int (nI (0))), (1, .int (nI (a))), (0, .ref (ad (b)))] → W p l e (headSpec (lw_ws yX13_routes cX13_routes 9 none) ({ frames := 3, cells := 0, slots := 0, locals := 66 } : Room)).room s m ([.ref (ad (b)), .int (nI (a)), .int (nI (0))] : List Value).toArray below meth cd H locs 0 0 (MQ below (va_Qv (fun w' => ∃ lv' : Nat → Nat, grt (fun k => decide (3 ≤ wr k)) (fun k o x => x + 1 + dif (ht k) (ht o)) (rtM wr a) lv' ∧ (∀ k, k < 36 → lv' k ≤ 1000000) ∧ bkP N w' b 12 (MDC E ad b g kp sv bf sd ip sg mk td lv' tl qs qc qw qd co wy de ca ln fa sm pa tm) ∧ gFr (gIn b 12) w w') (gB E ad N) (gA E)) ([.ref (ad (b)), .int (nI (a)), .int (nI (0))] : List Value).toArray s 0 0 (gA E)) (F0 m 60 ls []) := by
                      intro n
                      induction n with
                      | zero => intro d hmeas; omega
                      | succ n ih_lpd =>
                        intro d hmeas hd w1 H locs hP hS hb4 hfr ls hl
                        have hlb4 := iaD_ok (cd := (cdR ht wr)) (c := k) h3 hlb3 d
                        have zlk := hlb4 k h3
                        refine lv_iload hx hb dX13_routes_60 (lv_at hl 0 rfl) ?_
                        refine g_iconst S 4 dX13_routes_62 (by decide +kernel) ?_
                        refine g_ge S (a := d) (b := 4) (by omega) (by omega) (tgt := 187) dX13_routes_63 (by decide) (fun h4 => ?_) (fun h4 => ?_)
                        · have e_d : d = 4 := by omega
                          subst e_d
                          refine lv_iinc (v := nI (k + 1)) (lv' := [(4, .int (nI (k + 1))), (5, .int (nI (4))), (3, .int (bI ((iaD (cdR ht wr) k (iaN (cdR ht wr) lv2 k) 4).2))), (2, .int (nI (0))), (1, .int (nI (a))), (0, .ref (ad (b)))]) hx hb dX13_routes_187 hl (k := 1) rfl (g_inc _ 1 (by decide +kernel)) (by decide) rfl (fun ls hl => ?_)
                          refine lv_goto (tgt := 50) hx hb dX13_routes_190 (by decide) ?_
                          exact ih_lpc (k + 1) (by omega) (by omega) _ _ _ hP hS hb4 hfr ls (lv_sub hl [0, 2, 3, 4, 5] rfl)
                        · have zwk := hwr k h3
                          refine lv_aload_n hx hb dX13_routes_66 rfl (lv_at hl 5 rfl) ?_
                          refine lv_iload hx hb dX13_routes_67 (lv_at hl 1 rfl) ?_
                          refine g_roi (g_runV S hI hP hS (k := 1) (As := [.int (nI (k))]) (rest := []) (mX13_isHole l b g kp sv bf sd ip sg mk td ((iaD (cdR ht wr) k (iaN (cdR ht wr) lv2 k) d).1) tl qs qc qw qd co wy de ca ln fa sm pa tm k (wr k) hb4 h3 (hgw k h3) zwk) q1968 q1970 q60 q100 q1971 rfl rfl (by decide +kernel) ⟨Nat.le_of_ble_eq_true rfl, Nat.le_of_ble_eq_true rfl⟩ rfl (hb4.lt 0 (by decide)) (hb4.2 0 (by decide)) rfl hl.1 rfl (Nat.le_of_ble_eq_true rfl) ⟨(Nat.le_of_ble_eq_true rfl), (Nat.le_of_ble_eq_true rfl)⟩ dX13_routes_69) hS (fun H locs hP hS => ?_)
                          refine g_bne S (b := decide (3 ≤ wr k)) (tgt := 187) dX13_routes_72 (by decide) (fun hho => ?_) (fun hho => ?_)
                          · have hho := of_decide_eq_true hho
                            have hcn : ∀ l o, (cdR ht wr) l k o = none := fun l o => if_pos hho
                            have hi4 : (iaD (cdR ht wr) k (iaN (cdR ht wr) lv2 k) d) = (iaD (cdR ht wr) k (iaN (cdR ht wr) lv2 k) 4) := by rw [iaD_hole hcn, iaD_hole hcn]
                            rw [hi4] at hl
                            rw [hi4] at hb4
                            (try rw [hi4] at hP)
                            (try rw [hi4] at hfr)
                            refine lv_iinc (v := nI (k + 1)) (lv' := [(4, .int (nI (k + 1))), (5, .int (nI (d))), (3, .int (bI ((iaD (cdR ht wr) k (iaN (cdR ht wr) lv2 k) 4).2))), (2, .int (nI (0))), (1, .int (nI (a))), (0, .ref (ad (b)))]) hx hb dX13_routes_187 hl (k := 1) rfl (g_inc _ 1 (by decide +kernel)) (by decide) rfl (fun ls hl => ?_)
                            refine lv_goto (tgt := 50) hx hb dX13_routes_190 (by decide) ?_
                            exact ih_lpc (k + 1) (by omega) (by omega) _ _ _ hP hS hb4 hfr ls (lv_sub hl [0, 2, 3, 4, 5] rfl)
                          · have hho := of_decide_eq_false hho
                            refine lv_iload hx hb dX13_routes_75 (lv_at hl 1 rfl) ?_
                            refine lv_iload hx hb dX13_routes_77 (lv_at hl 0 rfl) ?_
                            refine g_roi (g_runS S hI hP hS (k := 2) (As := [.int (nI (k)), .int (nI (d))]) (rest := []) (mX13_beside l k d h3 h4) q1917 q1918 q100 q1919 rfl rfl (by decide +kernel) ⟨Nat.le_of_ble_eq_true rfl, Nat.le_of_ble_eq_true rfl⟩ rfl hl.1 rfl (Nat.le_of_ble_eq_true rfl) ⟨(Nat.le_of_ble_eq_true rfl), (Nat.le_of_ble_eq_true rfl)⟩ dX13_routes_79) hS (fun H locs hP hS => ?_)
                            refine lv_istore (lv' := [(6, .int (oI (nb k d))), (5, .int (nI (d))), (4, .int (nI (k))), (3, .int (bI ((iaD (cdR ht wr) k (iaN (cdR ht wr) lv2 k) d).2))), (2, .int (nI (0))), (1, .int (nI (a))), (0, .ref (ad (b)))]) hx hb dX13_routes_82 hl (by decide) rfl (fun ls hl => ?_)
                            refine lv_iload hx hb dX13_routes_84 (lv_at hl 0 rfl) ?_
                            refine g_oltZ S (o := nb k d) (fun j hj => Nat.lt_trans (nb_lt h3 hj) (by decide)) (tgt := 181) dX13_routes_86 (by decide) (fun hn => ?_) (fun hn_k hn => ?_)
                            · refine lv_iinc (v := nI (d + 1)) (lv' := [(5, .int (nI (d + 1))), (6, .int (oI (nb k d))), (4, .int (nI (k))), (3, .int (bI ((iaD (cdR ht wr) k (iaN (cdR ht wr) lv2 k) d).2))), (2, .int (nI (0))), (1, .int (nI (a))), (0, .ref (ad (b)))]) hx hb dX13_routes_181 hl (k := 1) rfl (g_inc _ 1 (by decide +kernel)) (by decide) rfl (fun ls hl => ?_)
                              refine lv_goto (tgt := 60) hx hb dX13_routes_184 (by decide) ?_
                              have hnx : (iaD (cdR ht wr) k (iaN (cdR ht wr) lv2 k) (d + 1)) = (iaD (cdR ht wr) k (iaN (cdR ht wr) lv2 k) d) := by exact iaD_n hn
                              rw [← hnx] at hl
                              rw [← hnx] at hb4
                              (try rw [← hnx] at hP)
                              (try rw [← hnx] at hfr)
                              exact ih_lpd (d + 1) (by omega) (by omega) _ _ _ hP hS hb4 hfr ls (lv_sub hl [0, 2, 3, 4, 5, 6] rfl)
                            · have ho36 := nb_lt h3 hn
                              have zlo := hlb4 hn_k ho36
                              have zo := hht hn_k ho36
                              have hl : lv_has ls 9 [(6, .int (nI (hn_k))), (5, .int (nI (d))), (4, .int (nI (k))), (3, .int (bI ((iaD (cdR ht wr) k (iaN (cdR ht wr) lv2 k) d).2))), (2, .int (nI (0))), (1, .int (nI (a))), (0, .ref (ad (b)))] := by rw [hn] at hl; exact hl
                              have hdf := dif_le zo zk
                              refine lv_aload_n hx hb dX13_routes_89 rfl (lv_at hl 6 rfl) ?_
                              refine g_get S hI hP uX13 rfl (fs := _) (hb4.lt 0 (by decide)) (hb4.2 0 (by decide)) 20 (by decide) q1807 rfl (v := .ref (ad (b + 10))) rfl dX13_routes_90 ?_
                              refine lv_iload hx hb dX13_routes_93 (lv_at hl 0 rfl) ?_
                              refine g_iald S hI hP (f := fun j => nI (((iaD (cdR ht wr) k (iaN (cdR ht wr) lv2 k) d).1) j)) (hb4.lt 10 (by decide)) (hb4.2 10 (by decide)) (hn_k) (ho36) (by decide) dX13_routes_95 ?_
                              refine lv_ldc (v := nI 1000000) hx hb S.2.2.2.1 (S.2.2.2.2 _ q2016) dX13_routes_96 ?_
                              refine g_ne S (a := ((iaD (cdR ht wr) k (iaN (cdR ht wr) lv2 k) d).1) hn_k) (b := 1000000) (by omega) (by omega) (tgt := 104) dX13_routes_98 (by decide) (fun h7 => ?_) (fun h7 => ?_)
                              · refine lv_aload_n hx hb dX13_routes_104 rfl (lv_at hl 6 rfl) ?_
                                refine lv_iload hx hb dX13_routes_105 (lv_at hl 0 rfl) ?_
                                refine g_roi (g_runV S hI hP hS (k := 1) (As := [.int (nI (hn_k))]) (rest := []) (mX13_high l b g kp sv bf sd ip sg mk td ((iaD (cdR ht wr) k (iaN (cdR ht wr) lv2 k) d).1) tl qs qc qw qd co wy de ca ln fa sm pa tm hn_k (ht hn_k) hb4 ho36 (hgh hn_k ho36)) q1882 q1884 q50 q100 q1885 rfl rfl (by decide +kernel) ⟨Nat.le_of_ble_eq_true rfl, Nat.le_of_ble_eq_true rfl⟩ rfl (hb4.lt 0 (by decide)) (hb4.2 0 (by decide)) rfl hl.1 rfl (Nat.le_of_ble_eq_true rfl) ⟨(Nat.le_of_ble_eq_true rfl), (Nat.le_of_ble_eq_true rfl)⟩ dX13_routes_107) hS (fun H locs hP hS => ?_)
                                refine lv_aload_n hx hb dX13_routes_110 rfl (lv_at hl 6 rfl) ?_
                                refine lv_iload hx hb dX13_routes_111 (lv_at hl 2 rfl) ?_
                                refine g_roi (g_runV S hI hP hS (k := 1) (As := [.int (nI (k))]) (rest := [.int (nI (ht hn_k))]) (mX13_high l b g kp sv bf sd ip sg mk td ((iaD (cdR ht wr) k (iaN (cdR ht wr) lv2 k) d).1) tl qs qc qw qd co wy de ca ln fa sm pa tm k (ht k) hb4 h3 (hgh k h3)) q1882 q1884 q50 q100 q1885 rfl rfl (by decide +kernel) ⟨Nat.le_of_ble_eq_true rfl, Nat.le_of_ble_eq_true rfl⟩ rfl (hb4.lt 0 (by decide)) (hb4.2 0 (by decide)) rfl hl.1 rfl (Nat.le_of_ble_eq_true rfl) ⟨(Nat.le_of_ble_eq_true rfl), (Nat.le_of_ble_eq_true rfl)⟩ dX13_routes_113) hS (fun H locs hP hS => ?_)
                                refine lv_isub hx hb dX13_routes_116 ?_
                                refine g_roi (g_runS S hI hP hS (k := 1) (As := [.int (nI (ht hn_k) - nI (ht k))]) (rest := []) (mX13_size l (ht hn_k) (ht k) (by omega) (by omega)) q2040 q2041 q100 q2042 rfl rfl (by decide +kernel) ⟨Nat.le_of_ble_eq_true rfl, Nat.le_of_ble_eq_true rfl⟩ rfl hl.1 rfl (Nat.le_of_ble_eq_true rfl) ⟨(Nat.le_of_ble_eq_true rfl), (Nat.le_of_ble_eq_true rfl)⟩ dX13_routes_117) hS (fun H locs hP hS => ?_)
                                refine lv_istore (lv' := [(7, .int (nI (dif (ht hn_k) (ht k)))), (6, .int (nI (hn_k))), (5, .int (nI (d))), (4, .int (nI (k))), (3, .int (bI ((iaD (cdR ht wr) k (iaN (cdR ht wr) lv2 k) d).2))), (2, .int (nI (0))), (1, .int (nI (a))), (0, .ref (ad (b)))]) hx hb dX13_routes_120 hl (by decide) rfl (fun ls hl => ?_)
                                refine lv_iload_n hx hb dX13_routes_122 rfl (lv_at hl 5 rfl) ?_
                                refine g_ifeq S (a := 0) (by omega) (tgt := 141) dX13_routes_123 (by decide) (fun hst => ?_) (fun hst => ?_)
                                · refine lv_aload_n hx hb dX13_routes_141 rfl (lv_at hl 7 rfl) ?_
                                  refine g_get S hI hP uX13 rfl (fs := _) (hb4.lt 0 (by decide)) (hb4.2 0 (by decide)) 20 (by decide) q1807 rfl (v := .ref (ad (b + 10))) rfl dX13_routes_142 ?_
                                  refine lv_iload hx hb dX13_routes_145 (lv_at hl 1 rfl) ?_
                                  refine g_iald S hI hP (f := fun j => nI (((iaD (cdR ht wr) k (iaN (cdR ht wr) lv2 k) d).1) j)) (hb4.lt 10 (by decide)) (hb4.2 10 (by decide)) (hn_k) (ho36) (by decide) dX13_routes_147 ?_
                                  refine g_iconst S 1 dX13_routes_148 (by decide +kernel) ?_
                                  refine g_iadd S dX13_routes_149 ?_
                                  refine lv_iload hx hb dX13_routes_150 (lv_at hl 0 rfl) ?_
                                  refine g_iadd S dX13_routes_152 ?_
                                  refine lv_istore (lv' := [(8, .int (nI (((iaD (cdR ht wr) k (iaN (cdR ht wr) lv2 k) d).1) hn_k + 1 + (dif (ht hn_k) (ht k))))), (7, .int (nI (dif (ht hn_k) (ht k)))), (6, .int (nI (hn_k))), (5, .int (nI (d))), (4, .int (nI (k))), (3, .int (bI ((iaD (cdR ht wr) k (iaN (cdR ht wr) lv2 k) d).2))), (2, .int (nI (0))), (1, .int (nI (a))), (0, .ref (ad (b)))]) hx hb dX13_routes_153 hl (by decide) rfl (fun ls hl => ?_)
                                  refine lv_iload hx hb dX13_routes_155 (lv_at hl 0 rfl) ?_
                                  refine lv_aload_n hx hb dX13_routes_157 rfl (lv_at hl 8 rfl) ?_
                                  refine g_get S hI hP uX13 rfl (fs := _) (hb4.lt 0 (by decide)) (hb4.2 0 (by decide)) 20 (by decide) q1807 rfl (v := .ref (ad (b + 10))) rfl dX13_routes_158 ?_
                                  refine lv_iload hx hb dX13_routes_161 (lv_at hl 4 rfl) ?_
                                  refine g_iald S hI hP (f := fun j => nI (((iaD (cdR ht wr) k (iaN (cdR ht wr) lv2 k) d).1) j)) (hb4.lt 10 (by decide)) (hb4.2 10 (by decide)) (k) (h3) (by decide) dX13_routes_163 ?_
                                  refine g_lt S (a := ((iaD (cdR ht wr) k (iaN (cdR ht wr) lv2 k) d).1) hn_k + 1 + (dif (ht hn_k) (ht k))) (b := ((iaD (cdR ht wr) k (iaN (cdR ht wr) lv2 k) d).1) k) (by omega) (by omega) (tgt := 170) dX13_routes_164 (by decide) (fun h8 => ?_) (fun h8 => ?_)
                                  · refine lv_aload_n hx hb dX13_routes_170 rfl (lv_at hl 8 rfl) ?_
                                    refine g_get S hI hP uX13 rfl (fs := _) (hb4.lt 0 (by decide)) (hb4.2 0 (by decide)) 20 (by decide) q1807 rfl (v := .ref (ad (b + 10))) rfl dX13_routes_171 ?_
                                    refine lv_iload hx hb dX13_routes_174 (lv_at hl 4 rfl) ?_
                                    refine lv_iload hx hb dX13_routes_176 (lv_at hl 0 rfl) ?_
                                    refine g_iastN S hI hP hS (f := (iaD (cdR ht wr) k (iaN (cdR ht wr) lv2 k) d).1) (x := ((iaD (cdR ht wr) k (iaN (cdR ht wr) lv2 k) d).1) hn_k + 1 + (dif (ht hn_k) (ht k))) (hb4.lt 10 (by decide)) (hb4.2 10 (by decide)) (k) (h3) (by decide) dX13_routes_178 (fun H locs hP hS => ?_)
                                    have hP : gP E ad N (va_up _ (b + 10) (MDC E ad b g kp sv bf sd ip sg mk td (va_up ((iaD (cdR ht wr) k (iaN (cdR ht wr) lv2 k) d).1) k (((iaD (cdR ht wr) k (iaN (cdR ht wr) lv2 k) d).1) hn_k + 1 + (dif (ht hn_k) (ht k)))) tl qs qc qw qd co wy de ca ln fa sm pa tm 10)) H := hP
                                    have hb5 : bkP N (va_up _ (b + 10) (MDC E ad b g kp sv bf sd ip sg mk td (va_up ((iaD (cdR ht wr) k (iaN (cdR ht wr) lv2 k) d).1) k (((iaD (cdR ht wr) k (iaN (cdR ht wr) lv2 k) d).1) hn_k + 1 + (dif (ht hn_k) (ht k)))) tl qs qc qw qd co wy de ca ln fa sm pa tm 10)) b 12 (MDC E ad b g kp sv bf sd ip sg mk td (va_up ((iaD (cdR ht wr) k (iaN (cdR ht wr) lv2 k) d).1) k (((iaD (cdR ht wr) k (iaN (cdR ht wr) lv2 k) d).1) hn_k + 1 + (dif (ht hn_k) (ht k)))) tl qs qc qw qd co wy de ca ln fa sm pa tm) := MD_setA9 hb4 _
                                    have hfr := hfr.up (p := b + 10) (e := MDC E ad b g kp sv bf sd ip sg mk td (va_up ((iaD (cdR ht wr) k (iaN (cdR ht wr) lv2 k) d).1) k (((iaD (cdR ht wr) k (iaN (cdR ht wr) lv2 k) d).1) hn_k + 1 + (dif (ht hn_k) (ht k)))) tl qs qc qw qd co wy de ca ln fa sm pa tm 10) (by show _ ∧ _; omega)
                                    refine g_iconst S 1 dX13_routes_179 (by decide +kernel) ?_
                                    refine lv_istore_n (lv' := [(3, .int (nI (1))), (8, .int (nI (((iaD (cdR ht wr) k (iaN (cdR ht wr) lv2 k) d).1) hn_k + 1 + (dif (ht hn_k) (ht k))))), (7, .int (nI (dif (ht hn_k) (ht k)))), (6, .int (nI (hn_k))), (5, .int (nI (d))), (4, .int (nI (k))), (2, .int (nI (0))), (1, .int (nI (a))), (0, .ref (ad (b)))]) hx hb dX13_routes_180 rfl hl (by decide) rfl (fun ls hl => ?_)
                                    refine lv_iinc (v := nI (d + 1)) (lv' := [(5, .int (nI (d + 1))), (3, .int (nI (1))), (8, .int (nI (((iaD (cdR ht wr) k (iaN (cdR ht wr) lv2 k) d).1) hn_k + 1 + (dif (ht hn_k) (ht k))))), (7, .int (nI (dif (ht hn_k) (ht k)))), (6, .int (nI (hn_k))), (4, .int (nI (k))), (2, .int (nI (0))), (1, .int (nI (a))), (0, .ref (ad (b)))]) hx hb dX13_routes_181 hl (k := 4) rfl (g_inc _ 1 (by decide +kernel)) (by decide) rfl (fun ls hl => ?_)
                                    refine lv_goto (tgt := 60) hx hb dX13_routes_184 (by decide) ?_
                                    have hnx : (iaD (cdR ht wr) k (iaN (cdR ht wr) lv2 k) (d + 1)) = (va_up (iaD (cdR ht wr) k (iaN (cdR ht wr) lv2 k) d).1 k ((iaD (cdR ht wr) k (iaN (cdR ht wr) lv2 k) d).1 hn_k + 1 + dif (ht hn_k) (ht k)), true) := by rw [iaD_k hn, (imB_y (cd := (cdR ht wr)) (show (cdR ht wr) (iaD (cdR ht wr) k (iaN (cdR ht wr) lv2 k) d).1 k hn_k = some ((iaD (cdR ht wr) k (iaN (cdR ht wr) lv2 k) d).1 hn_k + 1 + dif (ht hn_k) (ht k)) by unfold cdR; rw [if_neg hho, dif_comm]) h8).1, (imB_y (cd := (cdR ht wr)) (show (cdR ht wr) (iaD (cdR ht wr) k (iaN (cdR ht wr) lv2 k) d).1 k hn_k = some ((iaD (cdR ht wr) k (iaN (cdR ht wr) lv2 k) d).1 hn_k + 1 + dif (ht hn_k) (ht k)) by unfold cdR; rw [if_neg hho, dif_comm]) h8).2]; rfl
                                    have hx1 : va_up (iaD (cdR ht wr) k (iaN (cdR ht wr) lv2 k) d).1 k ((iaD (cdR ht wr) k (iaN (cdR ht wr) lv2 k) d).1 hn_k + 1 + dif (ht hn_k) (ht k)) = (iaD (cdR ht wr) k (iaN (cdR ht wr) lv2 k) (d + 1)).1 := by rw [hnx]
                                    have hx2 : (iaD (cdR ht wr) k (iaN (cdR ht wr) lv2 k) (d + 1)).2 = true := by rw [hnx]
                                    rw [hx1] at hP hfr hb5
                                    have hl : lv_has ls 9 [(5, .int (nI (d + 1))), (3, .int (bI ((iaD (cdR ht wr) k (iaN (cdR ht wr) lv2 k) (d + 1)).2))), (8, .int (nI (((iaD (cdR ht wr) k (iaN (cdR ht wr) lv2 k) d).1) hn_k + 1 + (dif (ht hn_k) (ht k))))), (7, .int (nI (dif (ht hn_k) (ht k)))), (6, .int (nI (hn_k))), (4, .int (nI (k))), (2, .int (nI (0))), (1, .int (nI (a))), (0, .ref (ad (b)))] := by rw [hx2]; exact hl
                                    exact ih_lpd (d + 1) (by omega) (by omega) _ _ _ hP hS hb5 hfr ls (lv_sub hl [0, 5, 1, 6, 7, 8] rfl)
                                  · refine lv_goto (tgt := 181) hx hb dX13_routes_167 (by decide) ?_
                                    refine lv_iinc (v := nI (d + 1)) (lv' := [(5, .int (nI (d + 1))), (8, .int (nI (((iaD (cdR ht wr) k (iaN (cdR ht wr) lv2 k) d).1) hn_k + 1 + (dif (ht hn_k) (ht k))))), (7, .int (nI (dif (ht hn_k) (ht k)))), (6, .int (nI (hn_k))), (4, .int (nI (k))), (3, .int (bI ((iaD (cdR ht wr) k (iaN (cdR ht wr) lv2 k) d).2))), (2, .int (nI (0))), (1, .int (nI (a))), (0, .ref (ad (b)))]) hx hb dX13_routes_181 hl (k := 3) rfl (g_inc _ 1 (by decide +kernel)) (by decide) rfl (fun ls hl => ?_)
                                    refine lv_goto (tgt := 60) hx hb dX13_routes_184 (by decide) ?_
                                    have hnx : (iaD (cdR ht wr) k (iaN (cdR ht wr) lv2 k) (d + 1)) = (iaD (cdR ht wr) k (iaN (cdR ht wr) lv2 k) d) := by rw [iaD_k hn, (imB_n (cd := (cdR ht wr)) (show (cdR ht wr) (iaD (cdR ht wr) k (iaN (cdR ht wr) lv2 k) d).1 k hn_k = some ((iaD (cdR ht wr) k (iaN (cdR ht wr) lv2 k) d).1 hn_k + 1 + dif (ht hn_k) (ht k)) by unfold cdR; rw [if_neg hho, dif_comm]) (Nat.not_lt.mpr h8)).1, (imB_n (cd := (cdR ht wr)) (show (cdR ht wr) (iaD (cdR ht wr) k (iaN (cdR ht wr) lv2 k) d).1 k hn_k = some ((iaD (cdR ht wr) k (iaN (cdR ht wr) lv2 k) d).1 hn_k + 1 + dif (ht hn_k) (ht k)) by unfold cdR; rw [if_neg hho, dif_comm]) (Nat.not_lt.mpr h8)).2]; rfl
                                    rw [← hnx] at hl
                                    rw [← hnx] at hb4
                                    (try rw [← hnx] at hP)
                                    (try rw [← hnx] at hfr)
                                    exact ih_lpd (d + 1) (by omega) (by omega) _ _ _ hP hS hb4 hfr ls (lv_sub hl [0, 4, 5, 6, 7, 8] rfl)
                                · omega
                              · refine lv_goto (tgt := 181) hx hb dX13_routes_101 (by decide) ?_
                                refine lv_iinc (v := nI (d + 1)) (lv' := [(5, .int (nI (d + 1))), (6, .int (nI (hn_k))), (4, .int (nI (k))), (3, .int (bI ((iaD (cdR ht wr) k (iaN (cdR ht wr) lv2 k) d).2))), (2, .int (nI (0))), (1, .int (nI (a))), (0, .ref (ad (b)))]) hx hb dX13_routes_181 hl (k := 1) rfl (g_inc _ 1 (by decide +kernel)) (by decide) rfl (fun ls hl => ?_)
                                refine lv_goto (tgt := 60) hx hb dX13_routes_184 (by decide) ?_
                                have hnx : (iaD (cdR ht wr) k (iaN (cdR ht wr) lv2 k) (d + 1)) = (iaD (cdR ht wr) k (iaN (cdR ht wr) lv2 k) d) := by rw [iaD_k hn, (imB_n (cd := (cdR ht wr)) (show (cdR ht wr) (iaD (cdR ht wr) k (iaN (cdR ht wr) lv2 k) d).1 k hn_k = some ((iaD (cdR ht wr) k (iaN (cdR ht wr) lv2 k) d).1 hn_k + 1 + dif (ht hn_k) (ht k)) by unfold cdR; rw [if_neg hho, dif_comm]) (by omega)).1, (imB_n (cd := (cdR ht wr)) (show (cdR ht wr) (iaD (cdR ht wr) k (iaN (cdR ht wr) lv2 k) d).1 k hn_k = some ((iaD (cdR ht wr) k (iaN (cdR ht wr) lv2 k) d).1 hn_k + 1 + dif (ht hn_k) (ht k)) by unfold cdR; rw [if_neg hho, dif_comm]) (by omega)).2]; rfl
                                rw [← hnx] at hl
                                rw [← hnx] at hb4
                                (try rw [← hnx] at hP)
                                (try rw [← hnx] at hfr)
                                exact ih_lpd (d + 1) (by omega) (by omega) _ _ _ hP hS hb4 hfr ls (lv_sub hl [0, 2, 3, 4, 5, 6] rfl)
                    exact lpd (5 - (0) + 1) (0) (Nat.lt_succ_self _) (by omega) _ _ _ hP hS hb3 hfr ls (lv_sub hl [0, 1, 2, 3, 4, 5] rfl)
              exact lpc (37 - (0) + 1) (0) (Nat.lt_succ_self _) (by omega) _ _ _ hP hS hb2 hfr ls (lv_sub hl [0, 1, 2, 3, 4] rfl)
        exact lpb ((if (true) = true then smN (lv1) 36 + 1 else 0) + 1) (lv1) (true) (Nat.lt_succ_self _) (rnd_cg (fun k hk => (hv1 k hk)) rnd_0) (fun k hk => by rw [hv1 k hk]; unfold rtM; split <;> omega) _ _ _ hP hS hb1 hfr ls (lv_sub hl [0, 1, 2, 3] rfl)
      · refine lv_aload_n hx hb dX13_routes_8 rfl (lv_at hl 3 rfl) ?_
        refine g_get S hI hP uX13 rfl (fs := _) (hb1.lt 0 (by decide)) (hb1.2 0 (by decide)) 20 (by decide) q1807 rfl (v := .ref (ad (b + 10))) rfl dX13_routes_9 ?_
        refine lv_iload_n hx hb dX13_routes_12 rfl (lv_at hl 0 rfl) ?_
        refine lv_iload_n hx hb dX13_routes_13 rfl (lv_at hl 0 rfl) ?_
        refine lv_iload_n hx hb dX13_routes_14 rfl (lv_at hl 2 rfl) ?_
        refine g_ne S (a := i) (b := a) (by omega) (by omega) (tgt := 30) dX13_routes_15 (by decide) (fun g1 => ?_) (fun g1 => ?_)
        · refine lv_ldc (v := nI 1000000) hx hb S.2.2.2.1 (S.2.2.2.2 _ q2016) dX13_routes_30 ?_
          refine g_iastN S hI hP hS (f := lv1) (x := 1000000) (hb1.lt 10 (by decide)) (hb1.2 10 (by decide)) (i) (h) (by decide) dX13_routes_32 (fun H locs hP hS => ?_)
          have hP : gP E ad N (va_up _ (b + 10) (MDC E ad b g kp sv bf sd ip sg mk td (va_up lv1 i 1000000) tl qs qc qw qd co wy de ca ln fa sm pa tm 10)) H := hP
          have hb6 : bkP N (va_up _ (b + 10) (MDC E ad b g kp sv bf sd ip sg mk td (va_up lv1 i 1000000) tl qs qc qw qd co wy de ca ln fa sm pa tm 10)) b 12 (MDC E ad b g kp sv bf sd ip sg mk td (va_up lv1 i 1000000) tl qs qc qw qd co wy de ca ln fa sm pa tm) := MD_setA9 hb1 _
          have hfr := hfr.up (p := b + 10) (e := MDC E ad b g kp sv bf sd ip sg mk td (va_up lv1 i 1000000) tl qs qc qw qd co wy de ca ln fa sm pa tm 10) (by show _ ∧ _; omega)
          refine lv_iinc (v := nI (i + 1)) (lv' := [(3, .int (nI (i + 1))), (2, .int (nI (0))), (1, .int (nI (a))), (0, .ref (ad (b)))]) hx hb dX13_routes_33 hl (k := 0) rfl (g_inc _ 1 (by decide +kernel)) (by decide) rfl (fun ls hl => ?_)
          refine lv_goto (tgt := 2) hx hb dX13_routes_36 (by decide) ?_
          exact ih_lpa (i + 1) (va_up lv1 i (1000000)) (by omega) (by omega) (fun j hj => by by_cases q : j = i; rw [q, va_up_self]; unfold rtM; rw [if_neg (by omega)]; rw [va_up_ne _ _ q]; exact hv1 j (by omega)) _ _ _ hP hS hb6 hfr ls (lv_sub hl [0, 1, 2, 3] rfl)
        · refine lv_aload_n hx hb dX13_routes_18 rfl (lv_at hl 3 rfl) ?_
          refine lv_iload_n hx hb dX13_routes_19 rfl (lv_at hl 0 rfl) ?_
          refine g_roi (g_runV S hI hP hS (k := 1) (As := [.int (nI (i))]) (rest := [.int (nI (i)), .ref (ad (b + 10))]) (mX13_isHole l b g kp sv bf sd ip sg mk td lv1 tl qs qc qw qd co wy de ca ln fa sm pa tm i (wr i) hb1 h (hgw i h) (hwr i h)) q1968 q1970 q60 q100 q1971 rfl rfl (by decide +kernel) ⟨Nat.le_of_ble_eq_true rfl, Nat.le_of_ble_eq_true rfl⟩ rfl (hb1.lt 0 (by decide)) (hb1.2 0 (by decide)) rfl hl.1 rfl (Nat.le_of_ble_eq_true rfl) ⟨(Nat.le_of_ble_eq_true rfl), (Nat.le_of_ble_eq_true rfl)⟩ dX13_routes_20) hS (fun H locs hP hS => ?_)
          refine g_bne S (b := decide (3 ≤ wr i)) (tgt := 30) dX13_routes_23 (by decide) (fun g2 => ?_) (fun g2 => ?_)
          · have g2 := of_decide_eq_true g2
            refine lv_ldc (v := nI 1000000) hx hb S.2.2.2.1 (S.2.2.2.2 _ q2016) dX13_routes_30 ?_
            refine g_iastN S hI hP hS (f := lv1) (x := 1000000) (hb1.lt 10 (by decide)) (hb1.2 10 (by decide)) (i) (h) (by decide) dX13_routes_32 (fun H locs hP hS => ?_)
            have hP : gP E ad N (va_up _ (b + 10) (MDC E ad b g kp sv bf sd ip sg mk td (va_up lv1 i 1000000) tl qs qc qw qd co wy de ca ln fa sm pa tm 10)) H := hP
            have hb7 : bkP N (va_up _ (b + 10) (MDC E ad b g kp sv bf sd ip sg mk td (va_up lv1 i 1000000) tl qs qc qw qd co wy de ca ln fa sm pa tm 10)) b 12 (MDC E ad b g kp sv bf sd ip sg mk td (va_up lv1 i 1000000) tl qs qc qw qd co wy de ca ln fa sm pa tm) := MD_setA9 hb1 _
            have hfr := hfr.up (p := b + 10) (e := MDC E ad b g kp sv bf sd ip sg mk td (va_up lv1 i 1000000) tl qs qc qw qd co wy de ca ln fa sm pa tm 10) (by show _ ∧ _; omega)
            refine lv_iinc (v := nI (i + 1)) (lv' := [(3, .int (nI (i + 1))), (2, .int (nI (0))), (1, .int (nI (a))), (0, .ref (ad (b)))]) hx hb dX13_routes_33 hl (k := 0) rfl (g_inc _ 1 (by decide +kernel)) (by decide) rfl (fun ls hl => ?_)
            refine lv_goto (tgt := 2) hx hb dX13_routes_36 (by decide) ?_
            exact ih_lpa (i + 1) (va_up lv1 i (1000000)) (by omega) (by omega) (fun j hj => by by_cases q : j = i; rw [q, va_up_self]; unfold rtM; rw [if_neg (by omega)]; rw [va_up_ne _ _ q]; exact hv1 j (by omega)) _ _ _ hP hS hb7 hfr ls (lv_sub hl [0, 1, 2, 3] rfl)
          · have g2 := of_decide_eq_false g2
            refine g_iconst S 0 dX13_routes_26 (by decide +kernel) ?_
            refine lv_goto (tgt := 32) hx hb dX13_routes_27 (by decide) ?_
            refine g_iastN S hI hP hS (f := lv1) (x := 0) (hb1.lt 10 (by decide)) (hb1.2 10 (by decide)) (i) (h) (by decide) dX13_routes_32 (fun H locs hP hS => ?_)
            have hP : gP E ad N (va_up _ (b + 10) (MDC E ad b g kp sv bf sd ip sg mk td (va_up lv1 i 0) tl qs qc qw qd co wy de ca ln fa sm pa tm 10)) H := hP
            have hb8 : bkP N (va_up _ (b + 10) (MDC E ad b g kp sv bf sd ip sg mk td (va_up lv1 i 0) tl qs qc qw qd co wy de ca ln fa sm pa tm 10)) b 12 (MDC E ad b g kp sv bf sd ip sg mk td (va_up lv1 i 0) tl qs qc qw qd co wy de ca ln fa sm pa tm) := MD_setA9 hb1 _
            have hfr := hfr.up (p := b + 10) (e := MDC E ad b g kp sv bf sd ip sg mk td (va_up lv1 i 0) tl qs qc qw qd co wy de ca ln fa sm pa tm 10) (by show _ ∧ _; omega)
            refine lv_iinc (v := nI (i + 1)) (lv' := [(3, .int (nI (i + 1))), (2, .int (nI (0))), (1, .int (nI (a))), (0, .ref (ad (b)))]) hx hb dX13_routes_33 hl (k := 0) rfl (g_inc _ 1 (by decide +kernel)) (by decide) rfl (fun ls hl => ?_)
            refine lv_goto (tgt := 2) hx hb dX13_routes_36 (by decide) ?_
            exact ih_lpa (i + 1) (va_up lv1 i (0)) (by omega) (by omega) (fun j hj => by by_cases q : j = i; rw [q, va_up_self]; unfold rtM; rw [if_pos ⟨g1, g2⟩]; rw [va_up_ne _ _ q]; exact hv1 j (by omega)) _ _ _ hP hS hb8 hfr ls (lv_sub hl [0, 1, 2, 3] rfl)
  exact lpa (37 - (0) + 1) (0) (lv) (Nat.lt_succ_self _) (by omega) (fun j hj => absurd hj (Nat.not_lt_zero _)) _ _ _ hP hS hb_m hfr ls (lv_sub hl [0, 3, 2, 1] rfl)
set_option maxHeartbeats 4000000 in
set_option maxRecDepth 100000 in
/-- a route -/
theorem mX13_route0 (l : Launch) {E : gE} {ad : Nat → Nat} {N : Nat} {w : Nat → va_E} (b : Nat) (g kp sv bf sd ip sg mk td lv tl : Nat → Nat) (qs qc qw qd co wy : Nat) (de : Int32) (ca ln : Nat) (fa : Option Nat) (sm pa tm : Nat) (ht dr pg wt wr mo : Nat → Nat) (mc ni po dn : Nat) (a c : Nat) (hb_m : bkP N w b 12 (MDC E ad b g kp sv bf sd ip sg mk td lv tl qs qc qw qd co wy de ca ln fa sm pa tm)) (hR : mRg g ht pg wt wr mo mc ni po dn) (hht : ∀ k, k < 36 → ht k ≤ 99) (hwr : ∀ k, k < 36 → wr k ≤ 3) (ha : a < 36) (hc : c < 36) : gMi l yX13_route (lw_ws yX13_route cX13_route 5 (some .int)) ({ frames := 4, cells := 0, slots := 0, locals := 94 } : Room) E ad N w [.ref (ad (b)), .int (nI (a)), .int (nI (c)), .int (nI (1)), .int (nI (0))] (fun r w' => ((∃ lv' : Nat → Nat, grt (fun k => decide (3 ≤ wr k)) (fun k o x => x + 1 + dif (ht k) (ht o)) (rtM wr a) lv' ∧ ((¬ lv' c = 1000000 ∧ r = nI (lv' c) ∧ bkP N w' b 12 (MDC E ad b g kp sv bf sd ip sg mk td lv' tl qs qc qw 0 0 wy de ca ln fa sm pa tm)) ∨ (lv' c = 1000000 ∧ bkP N w' b 12 (MDC E ad b g kp sv bf sd ip sg mk td lv' tl qs qc qw 0 2 wy de ca ln fa sm pa tm))))) ∧ gFr (gIn b 12) w w') 0 0 := by
  refine Met.ofW (cc := cX13_route) (maxL := 5) (ret := (some .int)) (by decide) rfl ?_
  intro p e s m args below meth cd s₁ B hml hv
  obtain ⟨rfl, hI, hP⟩ := hv
  obtain ⟨S, hr, hlocks⟩ := gPre (ws := []) B hml (C := RX13) rfl
  have hx := S.1
  have hb := S.2.1
  have hS : va_S (gA E) s.heap s.heap [] := va_S.rf
  have hfr : gFr (gIn b 12) w w := gFr.rf
  have hl := lv_entry ([.ref (ad (b)), .int (nI (a)), .int (nI (c)), .int (nI (1)), .int (nI (0))]) (n := 5) (Nat.le_of_ble_eq_true rfl)
  rw [lg_entry_eq]
  generalize (lg_sl ([.ref (ad (b)), .int (nI (a)), .int (nI (c)), .int (nI (1)), .int (nI (0))]) ++ List.replicate (5 - (lg_sl ([.ref (ad (b)), .int (nI (a)), .int (nI (c)), .int (nI (1)), .int (nI (0))])).length) Slot.unset).toArray = ls at hl ⊢
  have hl : lv_has ls 5 [(0, .ref (ad (b))), (1, .int (nI (a))), (2, .int (nI (c))), (3, .int (nI (1))), (4, .int (nI (0)))] := hl
  obtain ⟨hgh, hgw, hgp, hgt, hgm, hg3, hg0, hg1, hg2⟩ := id hR
  refine lv_aload_n hx hb dX13_route_0 rfl (lv_at hl 0 rfl) ?_
  refine lv_iload_n hx hb dX13_route_1 rfl (lv_at hl 3 rfl) ?_
  refine g_ifeq S (a := 1) (by omega) (tgt := 9) dX13_route_2 (by decide) (fun h1 => ?_) (fun h1 => ?_)
  · omega
  · refine g_iconst S 0 dX13_route_5 (by decide +kernel) ?_
    refine lv_goto (tgt := 10) hx hb dX13_route_6 (by decide) ?_
    refine g_afi (g_runV S hI hP hS (k := 1) (As := [.int (nI (0))]) (rest := []) (mX13_fails l b g kp sv bf sd ip sg mk td lv tl qs qc qw qd co wy de ca ln fa sm pa tm 0 hb_m (by decide)) q1878 q1880 q49 q100 q1881 rfl rfl (by decide +kernel) ⟨Nat.le_of_ble_eq_true rfl, Nat.le_of_ble_eq_true rfl⟩ rfl (hb_m.lt 0 (by decide)) (hb_m.2 0 (by decide)) rfl hl.1 rfl (Nat.le_of_ble_eq_true rfl) ⟨(Nat.le_of_ble_eq_true rfl), (Nat.le_of_ble_eq_true rfl)⟩ dX13_route_10) hS (fun rz w1 H locs hq hP hS => ?_)
    obtain ⟨hr3, hb1, hf2⟩ := hq
    rw [hr3]
    have hfr := hfr.trans hf2 (fun q hq => by (try simp only [gIn] at hq ⊢); (try dsimp only at hq ⊢); omega)
    refine g_beq S (b := decide (0 < 0)) (tgt := 18) dX13_route_13 (by decide) (fun hfk => ?_) (fun hfk => ?_)
    · refine lv_aload_n hx hb dX13_route_18 rfl (lv_at hl 0 rfl) ?_
      refine lv_iload_n hx hb dX13_route_19 rfl (lv_at hl 1 rfl) ?_
      refine lv_iload hx hb dX13_route_20 (lv_at hl 4 rfl) ?_
      refine g_afv (g_runV S hI hP hS (k := 2) (As := [.int (nI (a)), .int (nI (0))]) (rest := []) (mX13_routes0 l b g kp sv bf sd ip sg mk td lv tl qs qc qw 0 0 wy de ca ln fa sm pa tm ht dr pg wt wr mo mc ni po dn a hb1 hR hht hwr ha) q2036 q2038 q65 q100 q2039 rfl rfl (by decide +kernel) ⟨Nat.le_of_ble_eq_true rfl, Nat.le_of_ble_eq_true rfl⟩ rfl (hb1.lt 0 (by decide)) (hb1.2 0 (by decide)) rfl hl.1 rfl (Nat.le_of_ble_eq_true rfl) ⟨(Nat.le_of_ble_eq_true rfl), (Nat.le_of_ble_eq_true rfl)⟩ dX13_route_22) hS (fun w1 H locs hq hP hS => ?_)
      obtain ⟨lv9, hg9, hl9, hb9, hf9⟩ := hq
      have hfr := hfr.trans hf9 (fun q hq => hq)
      have zl := hl9 c hc
      refine lv_aload_n hx hb dX13_route_25 rfl (lv_at hl 0 rfl) ?_
      refine lv_aload_n hx hb dX13_route_26 rfl (lv_at hl 0 rfl) ?_
      refine g_get S hI hP uX13 rfl (fs := _) (hb9.lt 0 (by decide)) (hb9.2 0 (by decide)) 20 (by decide) q1807 rfl (v := .ref (ad (b + 10))) rfl dX13_route_27 ?_
      refine lv_iload_n hx hb dX13_route_30 rfl (lv_at hl 2 rfl) ?_
      refine g_iald S hI hP (f := fun j => nI (lv9 j)) (hb9.lt 10 (by decide)) (hb9.2 10 (by decide)) (c) (hc) (by decide) dX13_route_31 ?_
      refine lv_ldc (v := nI 1000000) hx hb S.2.2.2.1 (S.2.2.2.2 _ q2016) dX13_route_32 ?_
      refine g_ne S (a := lv9 c) (b := 1000000) (by omega) (by omega) (tgt := 41) dX13_route_34 (by decide) (fun h2 => ?_) (fun h2 => ?_)
      · refine g_iconst S 0 dX13_route_41 (by decide +kernel) ?_
        refine g_afi (g_runV S hI hP hS (k := 1) (As := [.int (nI (0))]) (rest := []) (mX13_fails l b g kp sv bf sd ip sg mk td lv9 tl qs qc qw 0 0 wy de ca ln fa sm pa tm 0 hb9 (by decide)) q1878 q1880 q49 q100 q1881 rfl rfl (by decide +kernel) ⟨Nat.le_of_ble_eq_true rfl, Nat.le_of_ble_eq_true rfl⟩ rfl (hb9.lt 0 (by decide)) (hb9.2 0 (by decide)) rfl hl.1 rfl (Nat.le_of_ble_eq_true rfl) ⟨(Nat.le_of_ble_eq_true rfl), (Nat.le_of_ble_eq_true rfl)⟩ dX13_route_42) hS (fun rz w1 H locs hq hP hS => ?_)
        obtain ⟨hr6, hb4, hf5⟩ := hq
        rw [hr6]
        have hfr := hfr.trans hf5 (fun q hq => by (try simp only [gIn] at hq ⊢); (try dsimp only at hq ⊢); omega)
        refine g_beq S (b := decide (0 < 0)) (tgt := 52) dX13_route_45 (by decide) (fun hfk => ?_) (fun hfk => ?_)
        · refine lv_aload_n hx hb dX13_route_52 rfl (lv_at hl 0 rfl) ?_
          refine g_get S hI hP uX13 rfl (fs := _) (hb4.lt 0 (by decide)) (hb4.2 0 (by decide)) 20 (by decide) q1807 rfl (v := .ref (ad (b + 10))) rfl dX13_route_53 ?_
          refine lv_iload_n hx hb dX13_route_56 rfl (lv_at hl 2 rfl) ?_
          refine g_iald S hI hP (f := fun j => nI (lv9 j)) (hb4.lt 10 (by decide)) (hb4.2 10 (by decide)) (c) (hc) (by decide) dX13_route_57 ?_
          exact g_iret S hr hlocks hP hS (⟨⟨lv9, hg9, Or.inl ⟨h2, rfl, hb4⟩⟩, hfr⟩) (fun _ _ => rfl) (Nat.le_of_ble_eq_true rfl) (Nat.le_of_ble_eq_true rfl) dX13_route_58
        · exact absurd hfk (by decide)
      · refine g_iconst S 2 dX13_route_37 (by decide +kernel) ?_
        refine lv_goto (tgt := 42) hx hb dX13_route_38 (by decide) ?_
        refine g_afi (g_runV S hI hP hS (k := 1) (As := [.int (nI (2))]) (rest := []) (mX13_fails l b g kp sv bf sd ip sg mk td lv9 tl qs qc qw 0 0 wy de ca ln fa sm pa tm 2 hb9 (by decide)) q1878 q1880 q49 q100 q1881 rfl rfl (by decide +kernel) ⟨Nat.le_of_ble_eq_true rfl, Nat.le_of_ble_eq_true rfl⟩ rfl (hb9.lt 0 (by decide)) (hb9.2 0 (by decide)) rfl hl.1 rfl (Nat.le_of_ble_eq_true rfl) ⟨(Nat.le_of_ble_eq_true rfl), (Nat.le_of_ble_eq_true rfl)⟩ dX13_route_42) hS (fun rz w1 H locs hq hP hS => ?_)
        obtain ⟨hr9, hb7, hf8⟩ := hq
        rw [hr9]
        have hfr := hfr.trans hf8 (fun q hq => by (try simp only [gIn] at hq ⊢); (try dsimp only at hq ⊢); omega)
        refine g_beq S (b := decide (0 < 2)) (tgt := 52) dX13_route_45 (by decide) (fun hfk => ?_) (fun hfk => ?_)
        · exact absurd hfk (by decide)
        · refine g_iconst S 0 dX13_route_48 (by decide +kernel) ?_
          refine lv_goto (tgt := 58) hx hb dX13_route_49 (by decide) ?_
          exact g_iret S hr hlocks hP hS (⟨⟨lv9, hg9, Or.inr ⟨h2, hb7⟩⟩, hfr⟩) (fun _ _ => rfl) (Nat.le_of_ble_eq_true rfl) (Nat.le_of_ble_eq_true rfl) dX13_route_58
    · exact absurd hfk (by decide)
set_option maxHeartbeats 4000000 in
set_option maxRecDepth 100000 in
/-- no such route -/
theorem mX13_routeN (l : Launch) {E : gE} {ad : Nat → Nat} {N : Nat} {w : Nat → va_E} (b : Nat) (g kp sv bf sd ip sg mk td lv tl : Nat → Nat) (qs qc qw qd co wy : Nat) (de : Int32) (ca ln : Nat) (fa : Option Nat) (sm pa tm : Nat) (x0 y0 : Int32) (z : Nat) (hb_m : bkP N w b 12 (MDC E ad b g kp sv bf sd ip sg mk td lv tl qs qc qw qd co wy de ca ln fa sm pa tm))  : gMi l yX13_route (lw_ws yX13_route cX13_route 5 (some .int)) ({ frames := 1, cells := 0, slots := 0, locals := 21 } : Room) E ad N w [.ref (ad (b)), .int (x0), .int (y0), .int (nI (0)), .int (nI (z))] (fun r w' => bkP N w' b 12 (MDC E ad b g kp sv bf sd ip sg mk td lv tl qs qc qw 0 1 wy de ca ln fa sm pa tm) ∧ gFr (gIn b 12) w w') 0 0 := by
  refine Met.ofW (cc := cX13_route) (maxL := 5) (ret := (some .int)) (by decide) rfl ?_
  intro p e s m args below meth cd s₁ B hml hv
  obtain ⟨rfl, hI, hP⟩ := hv
  obtain ⟨S, hr, hlocks⟩ := gPre (ws := []) B hml (C := RX13) rfl
  have hx := S.1
  have hb := S.2.1
  have hS : va_S (gA E) s.heap s.heap [] := va_S.rf
  have hfr : gFr (gIn b 12) w w := gFr.rf
  have hl := lv_entry ([.ref (ad (b)), .int (x0), .int (y0), .int (nI (0)), .int (nI (z))]) (n := 5) (Nat.le_of_ble_eq_true rfl)
  rw [lg_entry_eq]
  generalize (lg_sl ([.ref (ad (b)), .int (x0), .int (y0), .int (nI (0)), .int (nI (z))]) ++ List.replicate (5 - (lg_sl ([.ref (ad (b)), .int (x0), .int (y0), .int (nI (0)), .int (nI (z))])).length) Slot.unset).toArray = ls at hl ⊢
  have hl : lv_has ls 5 [(0, .ref (ad (b))), (1, .int (x0)), (2, .int (y0)), (3, .int (nI (0))), (4, .int (nI (z)))] := hl
  refine lv_aload_n hx hb dX13_route_0 rfl (lv_at hl 0 rfl) ?_
  refine lv_iload_n hx hb dX13_route_1 rfl (lv_at hl 3 rfl) ?_
  refine g_ifeq S (a := 0) (by omega) (tgt := 9) dX13_route_2 (by decide) (fun h1 => ?_) (fun h1 => ?_)
  · refine g_iconst S 1 dX13_route_9 (by decide +kernel) ?_
    refine g_afi (g_runV S hI hP hS (k := 1) (As := [.int (nI (1))]) (rest := []) (mX13_fails l b g kp sv bf sd ip sg mk td lv tl qs qc qw qd co wy de ca ln fa sm pa tm 1 hb_m (by decide)) q1878 q1880 q49 q100 q1881 rfl rfl (by decide +kernel) ⟨Nat.le_of_ble_eq_true rfl, Nat.le_of_ble_eq_true rfl⟩ rfl (hb_m.lt 0 (by decide)) (hb_m.2 0 (by decide)) rfl hl.1 rfl (Nat.le_of_ble_eq_true rfl) ⟨(Nat.le_of_ble_eq_true rfl), (Nat.le_of_ble_eq_true rfl)⟩ dX13_route_10) hS (fun rz w1 H locs hq hP hS => ?_)
    obtain ⟨hr3, hb1, hf2⟩ := hq
    rw [hr3]
    have hfr := hfr.trans hf2 (fun q hq => by (try simp only [gIn] at hq ⊢); (try dsimp only at hq ⊢); omega)
    refine g_beq S (b := decide (0 < 1)) (tgt := 18) dX13_route_13 (by decide) (fun hfk => ?_) (fun hfk => ?_)
    · exact absurd hfk (by decide)
    · refine g_iconst S 0 dX13_route_16 (by decide +kernel) ?_
      exact g_iret S hr hlocks hP hS (⟨hb1, hfr⟩) (fun _ _ => rfl) (Nat.le_of_ble_eq_true rfl) (Nat.le_of_ble_eq_true rfl) dX13_route_17
  · omega
set_option maxHeartbeats 4000000 in
set_option maxRecDepth 100000 in
/-- routeCost -/
theorem mX13_routeCost (l : Launch) {E : gE} {ad : Nat → Nat} {N : Nat} {w : Nat → va_E} (b : Nat) (g kp sv bf sd ip sg mk td lv tl : Nat → Nat) (qs qc qw qd co wy : Nat) (de : Int32) (ca ln : Nat) (fa : Option Nat) (sm pa tm : Nat) (ht dr pg wt wr mo : Nat → Nat) (mc ni po dn : Nat) (x y x2 y2 : Int32) (hb_m : bkP N w b 12 (MDC E ad b g kp sv bf sd ip sg mk td lv tl qs qc qw qd co wy de ca ln fa sm pa tm)) (hR : mRg g ht pg wt wr mo mc ni po dn) (hht : ∀ k, k < 36 → ht k ≤ 99) (hwr : ∀ k, k < 36 → wr k ≤ 3) : gMi l yX13_routeCost (lw_ws yX13_routeCost cX13_routeCost 5 (some .int)) ({ frames := 5, cells := 0, slots := 0, locals := 118 } : Room) E ad N w [.ref (ad (b)), .int (x), .int (y), .int (x2), .int (y2)] (fun r w' => ((∃ a c, cellV x y = some a ∧ cellV x2 y2 = some c ∧ ((∃ lv' : Nat → Nat, grt (fun k => decide (3 ≤ wr k)) (fun k o x => x + 1 + dif (ht k) (ht o)) (rtM wr a) lv' ∧ ((¬ lv' c = 1000000 ∧ r = nI (lv' c) ∧ bkP N w' b 12 (MDC E ad b g kp sv bf sd ip sg mk td lv' tl qs qc qw 0 0 wy de ca ln fa sm pa tm)) ∨ (lv' c = 1000000 ∧ bkP N w' b 12 (MDC E ad b g kp sv bf sd ip sg mk td lv' tl qs qc qw 0 2 wy de ca ln fa sm pa tm)))))) ∨ ((cellV x y = none ∨ cellV x2 y2 = none) ∧ bkP N w' b 12 (MDC E ad b g kp sv bf sd ip sg mk td lv tl qs qc qw 0 1 wy de ca ln fa sm pa tm))) ∧ gFr (gIn b 12) w w') 0 0 := by
  refine Met.ofW (cc := cX13_routeCost) (maxL := 5) (ret := (some .int)) (by decide) rfl ?_
  intro p e s m args below meth cd s₁ B hml hv
  obtain ⟨rfl, hI, hP⟩ := hv
  obtain ⟨S, hr, hlocks⟩ := gPre (ws := []) B hml (C := RX13) rfl
  have hx := S.1
  have hb := S.2.1
  have hS : va_S (gA E) s.heap s.heap [] := va_S.rf
  have hfr : gFr (gIn b 12) w w := gFr.rf
  have hl := lv_entry ([.ref (ad (b)), .int (x), .int (y), .int (x2), .int (y2)]) (n := 5) (Nat.le_of_ble_eq_true rfl)
  rw [lg_entry_eq]
  generalize (lg_sl ([.ref (ad (b)), .int (x), .int (y), .int (x2), .int (y2)]) ++ List.replicate (5 - (lg_sl ([.ref (ad (b)), .int (x), .int (y), .int (x2), .int (y2)])).length) Slot.unset).toArray = ls at hl ⊢
  have hl : lv_has ls 5 [(0, .ref (ad (b))), (1, .int (x)), (2, .int (y)), (3, .int (x2)), (4, .int (y2))] := hl
  refine lv_aload_n hx hb dX13_routeCost_0 rfl (lv_at hl 0 rfl) ?_
  refine g_bipush S 6 dX13_routeCost_1 (by decide +kernel) ?_
  refine lv_iload_n hx hb dX13_routeCost_3 rfl (lv_at hl 1 rfl) ?_
  refine lv_imul hx hb dX13_routeCost_4 ?_
  refine lv_iload_n hx hb dX13_routeCost_5 rfl (lv_at hl 2 rfl) ?_
  refine lv_iadd hx hb dX13_routeCost_6 ?_
  refine g_bipush S 6 dX13_routeCost_7 (by decide +kernel) ?_
  refine lv_iload_n hx hb dX13_routeCost_9 rfl (lv_at hl 3 rfl) ?_
  refine lv_imul hx hb dX13_routeCost_10 ?_
  refine lv_iload hx hb dX13_routeCost_11 (lv_at hl 4 rfl) ?_
  refine lv_iadd hx hb dX13_routeCost_13 ?_
  refine lv_iload_n hx hb dX13_routeCost_14 rfl (lv_at hl 1 rfl) ?_
  refine lv_iload_n hx hb dX13_routeCost_15 rfl (lv_at hl 2 rfl) ?_
  refine g_roi (g_runS S hI hP hS (k := 2) (As := [.int (x), .int (y)]) (rest := [.int ((nI (6) * x2) + y2), .int ((nI (6) * x) + y), .ref (ad (b))]) (mX13_isCell l x y) q1872 q1873 q100 q1874 rfl rfl (by decide +kernel) ⟨Nat.le_of_ble_eq_true rfl, Nat.le_of_ble_eq_true rfl⟩ rfl hl.1 rfl (Nat.le_of_ble_eq_true rfl) ⟨(Nat.le_of_ble_eq_true rfl), (Nat.le_of_ble_eq_true rfl)⟩ dX13_routeCost_16) hS (fun H locs hP hS => ?_)
  refine g_beq S (b := (cellV x y).isSome) (tgt := 35) dX13_routeCost_19 (by decide) (fun h1 => ?_) (fun h1 => ?_)
  · refine g_iconst S 0 dX13_routeCost_35 (by decide +kernel) ?_
    refine g_iconst S 0 dX13_routeCost_36 (by decide +kernel) ?_
    refine g_afi (g_runV S hI hP hS (k := 4) (As := [.int ((nI (6) * x) + y), .int ((nI (6) * x2) + y2), .int (nI (0)), .int (nI (0))]) (rest := []) (mX13_routeN l b g kp sv bf sd ip sg mk td lv tl qs qc qw qd co wy de ca ln fa sm pa tm ((nI (6) * x) + y) ((nI (6) * x2) + y2) 0 hb_m) q2032 q2034 q64 q100 q2035 rfl rfl (by decide +kernel) ⟨Nat.le_of_ble_eq_true rfl, Nat.le_of_ble_eq_true rfl⟩ rfl (hb_m.lt 0 (by decide)) (hb_m.2 0 (by decide)) rfl hl.1 rfl (Nat.le_of_ble_eq_true rfl) ⟨(Nat.le_of_ble_eq_true rfl), (Nat.le_of_ble_eq_true rfl)⟩ dX13_routeCost_37) hS (fun rz w1 H locs hq hP hS => ?_)
    obtain ⟨hb9, hf9⟩ := hq
    exact g_iret S hr hlocks hP hS (⟨Or.inr ⟨Or.inl (Option.not_isSome_iff_eq_none.mp (by rw [h1]; decide)), hb9⟩, hf9⟩) (fun _ _ => rfl) (Nat.le_of_ble_eq_true rfl) (Nat.le_of_ble_eq_true rfl) dX13_routeCost_40
  · refine lv_iload_n hx hb dX13_routeCost_22 rfl (lv_at hl 3 rfl) ?_
    refine lv_iload hx hb dX13_routeCost_23 (lv_at hl 4 rfl) ?_
    refine g_roi (g_runS S hI hP hS (k := 2) (As := [.int (x2), .int (y2)]) (rest := [.int ((nI (6) * x2) + y2), .int ((nI (6) * x) + y), .ref (ad (b))]) (mX13_isCell l x2 y2) q1872 q1873 q100 q1874 rfl rfl (by decide +kernel) ⟨Nat.le_of_ble_eq_true rfl, Nat.le_of_ble_eq_true rfl⟩ rfl hl.1 rfl (Nat.le_of_ble_eq_true rfl) ⟨(Nat.le_of_ble_eq_true rfl), (Nat.le_of_ble_eq_true rfl)⟩ dX13_routeCost_25) hS (fun H locs hP hS => ?_)
    refine g_beq S (b := (cellV x2 y2).isSome) (tgt := 35) dX13_routeCost_28 (by decide) (fun h2 => ?_) (fun h2 => ?_)
    · refine g_iconst S 0 dX13_routeCost_35 (by decide +kernel) ?_
      refine g_iconst S 0 dX13_routeCost_36 (by decide +kernel) ?_
      refine g_afi (g_runV S hI hP hS (k := 4) (As := [.int ((nI (6) * x) + y), .int ((nI (6) * x2) + y2), .int (nI (0)), .int (nI (0))]) (rest := []) (mX13_routeN l b g kp sv bf sd ip sg mk td lv tl qs qc qw qd co wy de ca ln fa sm pa tm ((nI (6) * x) + y) ((nI (6) * x2) + y2) 0 hb_m) q2032 q2034 q64 q100 q2035 rfl rfl (by decide +kernel) ⟨Nat.le_of_ble_eq_true rfl, Nat.le_of_ble_eq_true rfl⟩ rfl (hb_m.lt 0 (by decide)) (hb_m.2 0 (by decide)) rfl hl.1 rfl (Nat.le_of_ble_eq_true rfl) ⟨(Nat.le_of_ble_eq_true rfl), (Nat.le_of_ble_eq_true rfl)⟩ dX13_routeCost_37) hS (fun rz w1 H locs hq hP hS => ?_)
      obtain ⟨hb9, hf9⟩ := hq
      exact g_iret S hr hlocks hP hS (⟨Or.inr ⟨Or.inr (Option.not_isSome_iff_eq_none.mp (by rw [h2]; decide)), hb9⟩, hf9⟩) (fun _ _ => rfl) (Nat.le_of_ble_eq_true rfl) (Nat.le_of_ble_eq_true rfl) dX13_routeCost_40
    · obtain ⟨a, ha⟩ := Option.isSome_iff_exists.mp h1
      obtain ⟨c, hc⟩ := Option.isSome_iff_exists.mp h2
      rw [cell6 ha, cell6 hc]
      refine g_iconst S 1 dX13_routeCost_31 (by decide +kernel) ?_
      refine lv_goto (tgt := 36) hx hb dX13_routeCost_32 (by decide) ?_
      refine g_iconst S 0 dX13_routeCost_36 (by decide +kernel) ?_
      refine g_afi (g_runV S hI hP hS (k := 4) (As := [.int (nI (a)), .int (nI (c)), .int (nI (1)), .int (nI (0))]) (rest := []) (mX13_route0 l b g kp sv bf sd ip sg mk td lv tl qs qc qw qd co wy de ca ln fa sm pa tm ht dr pg wt wr mo mc ni po dn a c hb_m hR hht hwr (cellV_lt ha) (cellV_lt hc)) q2032 q2034 q64 q100 q2035 rfl rfl (by decide +kernel) ⟨Nat.le_of_ble_eq_true rfl, Nat.le_of_ble_eq_true rfl⟩ rfl (hb_m.lt 0 (by decide)) (hb_m.2 0 (by decide)) rfl hl.1 rfl (Nat.le_of_ble_eq_true rfl) ⟨(Nat.le_of_ble_eq_true rfl), (Nat.le_of_ble_eq_true rfl)⟩ dX13_routeCost_37) hS (fun rz w1 H locs hq hP hS => ?_)
      obtain ⟨hq9, hf9⟩ := hq
      exact g_iret S hr hlocks hP hS (⟨Or.inl ⟨a, c, ha, hc, hq9⟩, hf9⟩) (fun _ _ => rfl) (Nat.le_of_ble_eq_true rfl) (Nat.le_of_ble_eq_true rfl) dX13_routeCost_40
set_option maxHeartbeats 4000000 in
set_option maxRecDepth 100000 in
/-- routeCostByRounds -/
theorem mX13_routeCostByRounds (l : Launch) {E : gE} {ad : Nat → Nat} {N : Nat} {w : Nat → va_E} (b : Nat) (g kp sv bf sd ip sg mk td lv tl : Nat → Nat) (qs qc qw qd co wy : Nat) (de : Int32) (ca ln : Nat) (fa : Option Nat) (sm pa tm : Nat) (ht dr pg wt wr mo : Nat → Nat) (mc ni po dn : Nat) (x y x2 y2 : Int32) (hb_m : bkP N w b 12 (MDC E ad b g kp sv bf sd ip sg mk td lv tl qs qc qw qd co wy de ca ln fa sm pa tm)) (hR : mRg g ht pg wt wr mo mc ni po dn) (hht : ∀ k, k < 36 → ht k ≤ 99) (hwr : ∀ k, k < 36 → wr k ≤ 3) : gMi l yX13_routeCostByRounds (lw_ws yX13_routeCostByRounds cX13_routeCostByRounds 5 (some .int)) ({ frames := 5, cells := 0, slots := 0, locals := 118 } : Room) E ad N w [.ref (ad (b)), .int (x), .int (y), .int (x2), .int (y2)] (fun r w' => ((∃ a c, cellV x y = some a ∧ cellV x2 y2 = some c ∧ ((∃ lv' : Nat → Nat, grt (fun k => decide (3 ≤ wr k)) (fun k o x => x + 1 + dif (ht k) (ht o)) (rtM wr a) lv' ∧ ((¬ lv' c = 1000000 ∧ r = nI (lv' c) ∧ bkP N w' b 12 (MDC E ad b g kp sv bf sd ip sg mk td lv' tl qs qc qw 0 0 wy de ca ln fa sm pa tm)) ∨ (lv' c = 1000000 ∧ bkP N w' b 12 (MDC E ad b g kp sv bf sd ip sg mk td lv' tl qs qc qw 0 2 wy de ca ln fa sm pa tm)))))) ∨ ((cellV x y = none ∨ cellV x2 y2 = none) ∧ bkP N w' b 12 (MDC E ad b g kp sv bf sd ip sg mk td lv tl qs qc qw 0 1 wy de ca ln fa sm pa tm))) ∧ gFr (gIn b 12) w w') 0 0 := by
  refine Met.ofW (cc := cX13_routeCostByRounds) (maxL := 5) (ret := (some .int)) (by decide) rfl ?_
  intro p e s m args below meth cd s₁ B hml hv
  obtain ⟨rfl, hI, hP⟩ := hv
  obtain ⟨S, hr, hlocks⟩ := gPre (ws := []) B hml (C := RX13) rfl
  have hx := S.1
  have hb := S.2.1
  have hS : va_S (gA E) s.heap s.heap [] := va_S.rf
  have hfr : gFr (gIn b 12) w w := gFr.rf
  have hl := lv_entry ([.ref (ad (b)), .int (x), .int (y), .int (x2), .int (y2)]) (n := 5) (Nat.le_of_ble_eq_true rfl)
  rw [lg_entry_eq]
  generalize (lg_sl ([.ref (ad (b)), .int (x), .int (y), .int (x2), .int (y2)]) ++ List.replicate (5 - (lg_sl ([.ref (ad (b)), .int (x), .int (y), .int (x2), .int (y2)])).length) Slot.unset).toArray = ls at hl ⊢
  have hl : lv_has ls 5 [(0, .ref (ad (b))), (1, .int (x)), (2, .int (y)), (3, .int (x2)), (4, .int (y2))] := hl
  refine lv_aload_n hx hb dX13_routeCostByRounds_0 rfl (lv_at hl 0 rfl) ?_
  refine g_bipush S 6 dX13_routeCostByRounds_1 (by decide +kernel) ?_
  refine lv_iload_n hx hb dX13_routeCostByRounds_3 rfl (lv_at hl 1 rfl) ?_
  refine lv_imul hx hb dX13_routeCostByRounds_4 ?_
  refine lv_iload_n hx hb dX13_routeCostByRounds_5 rfl (lv_at hl 2 rfl) ?_
  refine lv_iadd hx hb dX13_routeCostByRounds_6 ?_
  refine g_bipush S 6 dX13_routeCostByRounds_7 (by decide +kernel) ?_
  refine lv_iload_n hx hb dX13_routeCostByRounds_9 rfl (lv_at hl 3 rfl) ?_
  refine lv_imul hx hb dX13_routeCostByRounds_10 ?_
  refine lv_iload hx hb dX13_routeCostByRounds_11 (lv_at hl 4 rfl) ?_
  refine lv_iadd hx hb dX13_routeCostByRounds_13 ?_
  refine lv_iload_n hx hb dX13_routeCostByRounds_14 rfl (lv_at hl 1 rfl) ?_
  refine lv_iload_n hx hb dX13_routeCostByRounds_15 rfl (lv_at hl 2 rfl) ?_
  refine g_roi (g_runS S hI hP hS (k := 2) (As := [.int (x), .int (y)]) (rest := [.int ((nI (6) * x2) + y2), .int ((nI (6) * x) + y), .ref (ad (b))]) (mX13_isCell l x y) q1872 q1873 q100 q1874 rfl rfl (by decide +kernel) ⟨Nat.le_of_ble_eq_true rfl, Nat.le_of_ble_eq_true rfl⟩ rfl hl.1 rfl (Nat.le_of_ble_eq_true rfl) ⟨(Nat.le_of_ble_eq_true rfl), (Nat.le_of_ble_eq_true rfl)⟩ dX13_routeCostByRounds_16) hS (fun H locs hP hS => ?_)
  refine g_beq S (b := (cellV x y).isSome) (tgt := 35) dX13_routeCostByRounds_19 (by decide) (fun h1 => ?_) (fun h1 => ?_)
  · refine g_iconst S 0 dX13_routeCostByRounds_35 (by decide +kernel) ?_
    refine g_iconst S 0 dX13_routeCostByRounds_36 (by decide +kernel) ?_
    refine g_afi (g_runV S hI hP hS (k := 4) (As := [.int ((nI (6) * x) + y), .int ((nI (6) * x2) + y2), .int (nI (0)), .int (nI (0))]) (rest := []) (mX13_routeN l b g kp sv bf sd ip sg mk td lv tl qs qc qw qd co wy de ca ln fa sm pa tm ((nI (6) * x) + y) ((nI (6) * x2) + y2) 0 hb_m) q2032 q2034 q64 q100 q2035 rfl rfl (by decide +kernel) ⟨Nat.le_of_ble_eq_true rfl, Nat.le_of_ble_eq_true rfl⟩ rfl (hb_m.lt 0 (by decide)) (hb_m.2 0 (by decide)) rfl hl.1 rfl (Nat.le_of_ble_eq_true rfl) ⟨(Nat.le_of_ble_eq_true rfl), (Nat.le_of_ble_eq_true rfl)⟩ dX13_routeCostByRounds_37) hS (fun rz w1 H locs hq hP hS => ?_)
    obtain ⟨hb9, hf9⟩ := hq
    exact g_iret S hr hlocks hP hS (⟨Or.inr ⟨Or.inl (Option.not_isSome_iff_eq_none.mp (by rw [h1]; decide)), hb9⟩, hf9⟩) (fun _ _ => rfl) (Nat.le_of_ble_eq_true rfl) (Nat.le_of_ble_eq_true rfl) dX13_routeCostByRounds_40
  · refine lv_iload_n hx hb dX13_routeCostByRounds_22 rfl (lv_at hl 3 rfl) ?_
    refine lv_iload hx hb dX13_routeCostByRounds_23 (lv_at hl 4 rfl) ?_
    refine g_roi (g_runS S hI hP hS (k := 2) (As := [.int (x2), .int (y2)]) (rest := [.int ((nI (6) * x2) + y2), .int ((nI (6) * x) + y), .ref (ad (b))]) (mX13_isCell l x2 y2) q1872 q1873 q100 q1874 rfl rfl (by decide +kernel) ⟨Nat.le_of_ble_eq_true rfl, Nat.le_of_ble_eq_true rfl⟩ rfl hl.1 rfl (Nat.le_of_ble_eq_true rfl) ⟨(Nat.le_of_ble_eq_true rfl), (Nat.le_of_ble_eq_true rfl)⟩ dX13_routeCostByRounds_25) hS (fun H locs hP hS => ?_)
    refine g_beq S (b := (cellV x2 y2).isSome) (tgt := 35) dX13_routeCostByRounds_28 (by decide) (fun h2 => ?_) (fun h2 => ?_)
    · refine g_iconst S 0 dX13_routeCostByRounds_35 (by decide +kernel) ?_
      refine g_iconst S 0 dX13_routeCostByRounds_36 (by decide +kernel) ?_
      refine g_afi (g_runV S hI hP hS (k := 4) (As := [.int ((nI (6) * x) + y), .int ((nI (6) * x2) + y2), .int (nI (0)), .int (nI (0))]) (rest := []) (mX13_routeN l b g kp sv bf sd ip sg mk td lv tl qs qc qw qd co wy de ca ln fa sm pa tm ((nI (6) * x) + y) ((nI (6) * x2) + y2) 0 hb_m) q2032 q2034 q64 q100 q2035 rfl rfl (by decide +kernel) ⟨Nat.le_of_ble_eq_true rfl, Nat.le_of_ble_eq_true rfl⟩ rfl (hb_m.lt 0 (by decide)) (hb_m.2 0 (by decide)) rfl hl.1 rfl (Nat.le_of_ble_eq_true rfl) ⟨(Nat.le_of_ble_eq_true rfl), (Nat.le_of_ble_eq_true rfl)⟩ dX13_routeCostByRounds_37) hS (fun rz w1 H locs hq hP hS => ?_)
      obtain ⟨hb9, hf9⟩ := hq
      exact g_iret S hr hlocks hP hS (⟨Or.inr ⟨Or.inr (Option.not_isSome_iff_eq_none.mp (by rw [h2]; decide)), hb9⟩, hf9⟩) (fun _ _ => rfl) (Nat.le_of_ble_eq_true rfl) (Nat.le_of_ble_eq_true rfl) dX13_routeCostByRounds_40
    · obtain ⟨a, ha⟩ := Option.isSome_iff_exists.mp h1
      obtain ⟨c, hc⟩ := Option.isSome_iff_exists.mp h2
      rw [cell6 ha, cell6 hc]
      refine g_iconst S 1 dX13_routeCostByRounds_31 (by decide +kernel) ?_
      refine lv_goto (tgt := 36) hx hb dX13_routeCostByRounds_32 (by decide) ?_
      refine g_iconst S 0 dX13_routeCostByRounds_36 (by decide +kernel) ?_
      refine g_afi (g_runV S hI hP hS (k := 4) (As := [.int (nI (a)), .int (nI (c)), .int (nI (1)), .int (nI (0))]) (rest := []) (mX13_route0 l b g kp sv bf sd ip sg mk td lv tl qs qc qw qd co wy de ca ln fa sm pa tm ht dr pg wt wr mo mc ni po dn a c hb_m hR hht hwr (cellV_lt ha) (cellV_lt hc)) q2032 q2034 q64 q100 q2035 rfl rfl (by decide +kernel) ⟨Nat.le_of_ble_eq_true rfl, Nat.le_of_ble_eq_true rfl⟩ rfl (hb_m.lt 0 (by decide)) (hb_m.2 0 (by decide)) rfl hl.1 rfl (Nat.le_of_ble_eq_true rfl) ⟨(Nat.le_of_ble_eq_true rfl), (Nat.le_of_ble_eq_true rfl)⟩ dX13_routeCostByRounds_37) hS (fun rz w1 H locs hq hP hS => ?_)
      obtain ⟨hq9, hf9⟩ := hq
      exact g_iret S hr hlocks hP hS (⟨Or.inl ⟨a, c, ha, hc, hq9⟩, hf9⟩) (fun _ _ => rfl) (Nat.le_of_ble_eq_true rfl) (Nat.le_of_ble_eq_true rfl) dX13_routeCostByRounds_40
set_option maxHeartbeats 4000000 in
set_option maxRecDepth 100000 in
/-- the routes -/
theorem mX13_routes1 (l : Launch) {E : gE} {ad : Nat → Nat} {N : Nat} {w : Nat → va_E} (b : Nat) (g kp sv bf sd ip sg mk td lv tl : Nat → Nat) (qs qc qw qd co wy : Nat) (de : Int32) (ca ln : Nat) (fa : Option Nat) (sm pa tm : Nat) (ht dr pg wt wr mo : Nat → Nat) (mc ni po dn : Nat) (a : Nat) (hb_m : bkP N w b 12 (MDC E ad b g kp sv bf sd ip sg mk td lv tl qs qc qw qd co wy de ca ln fa sm pa tm)) (hR : mRg g ht pg wt wr mo mc ni po dn) (hht : ∀ k, k < 36 → ht k ≤ 99) (hwr : ∀ k, k < 36 → wr k ≤ 3) (ha : a < 36) : gMv l yX13_routes (lw_ws yX13_routes cX13_routes 9 none) ({ frames := 3, cells := 0, slots := 0, locals := 66 } : Room) E ad N w [.ref (ad (b)), .int (nI (a)), .int (nI (1))] (fun w' => ∃ lv' : Nat → Nat, grt (fun k => decide (3 ≤ wr k)) (fun k o x => max x (dif (ht o) (ht k))) (rtM wr a) lv' ∧ (∀ k, k < 36 → lv' k ≤ 1000000) ∧ bkP N w' b 12 (MDC E ad b g kp sv bf sd ip sg mk td lv' tl qs qc qw qd co wy de ca ln fa sm pa tm) ∧ gFr (gIn b 12) w w') 0 0 := by
  refine Met.ofW (cc := cX13_routes) (maxL := 9) (ret := none) (by decide) rfl ?_
  intro p e s m args below meth cd s₁ B hml hv
  obtain ⟨rfl, hI, hP⟩ := hv
  obtain ⟨S, hr, hlocks⟩ := gPre (ws := []) B hml (C := RX13) rfl
  have hx := S.1
  have hb := S.2.1
  have hS : va_S (gA E) s.heap s.heap [] := va_S.rf
  have hfr : gFr (gIn b 12) w w := gFr.rf
  have hl := lv_entry ([.ref (ad (b)), .int (nI (a)), .int (nI (1))]) (n := 9) (Nat.le_of_ble_eq_true rfl)
  rw [lg_entry_eq]
  generalize (lg_sl ([.ref (ad (b)), .int (nI (a)), .int (nI (1))]) ++ List.replicate (9 - (lg_sl ([.ref (ad (b)), .int (nI (a)), .int (nI (1))])).length) Slot.unset).toArray = ls at hl ⊢
  have hl : lv_has ls 9 [(0, .ref (ad (b))), (1, .int (nI (a))), (2, .int (nI (1)))] := hl
  obtain ⟨hgh, hgw, hgp, hgt, hgm, hg3, hg0, hg1, hg2⟩ := id hR
  refine g_iconst S 0 dX13_routes_0 (by decide +kernel) ?_
  refine lv_istore_n (lv' := [(3, .int (nI (0))), (0, .ref (ad (b))), (1, .int (nI (a))), (2, .int (nI (1)))]) hx hb dX13_routes_1 rfl hl (by decide) rfl (fun ls hl => ?_)
  have lpa : ∀ (n : Nat) (i : Nat) (lv1 : Nat → Nat), 37 - i < n → (i ≤ 36) → (∀ j, j < i → lv1 j = rtM wr a j) → ∀ (w1 : Nat → va_E) (H : Heap) (locs : List Loc), gP E ad N w1 H → va_S (gA E) s.heap H locs → bkP N w1 b 12 (MDC E ad b g kp sv bf sd ip sg mk td lv1 tl qs qc qw qd co wy de ca ln fa sm pa tm) → gFr (gIn b 12) w w1 → ∀ (ls : Array Slot), lv_has ls 9 [(3, .int (nI (i))), (2, .int (nI (1))), (1, .int (nI (a))), (0, .ref (ad (b)))] → W p l e (headSpec (lw_ws yX13_routes cX13_routes 9 none) ({ frames := 3, cells := 0, slots := 0, locals := 66 } : Room)).room s m ([.ref (ad (b)), .int (nI (a)), .int (nI (1))] : List Value).toArray below meth cd H locs 0 0 (MQ below (va_Qv (fun w' => ∃ lv' : Nat → Nat, grt (fun k => decide (3 ≤ wr k)) (fun k o x => max x (dif (ht o) (ht k))) (rtM wr a) lv' ∧ (∀ k, k < 36 → lv' k ≤ 1000000) ∧ bkP N w' b 12 (MDC E ad b g kp sv bf sd ip sg mk td lv' tl qs qc qw qd co wy de ca ln fa sm pa tm) ∧ gFr (gIn b 12) w w') (gB E ad N) (gA E)) ([.ref (ad (b)), .int (nI (a)), .int (nI (1))] : List Value).toArray s 0 0 (gA E)) (F0 m 2 ls []) := by
    intro n
    induction n with
    | zero => intro i lv1 hmeas; omega
    | succ n ih_lpa =>
      intro i lv1 hmeas hi hv1 w1 H locs hP hS hb1 hfr ls hl
      refine lv_iload_n hx hb dX13_routes_2 rfl (lv_at hl 0 rfl) ?_
      refine g_bipush S 36 dX13_routes_3 (by decide +kernel) ?_
      refine g_ge S (a := i) (b := 36) (by omega) (by omega) (tgt := 39) dX13_routes_5 (by decide) (fun h => ?_) (fun h => ?_)
      · have e36 : i = 36 := by omega
        subst e36
        refine g_iconst S 1 dX13_routes_39 (by decide +kernel) ?_
        refine lv_istore_n (lv' := [(3, .int (nI (1))), (2, .int (nI (1))), (1, .int (nI (a))), (0, .ref (ad (b)))]) hx hb dX13_routes_40 rfl hl (by decide) rfl (fun ls hl => ?_)
        have lpb : ∀ (n : Nat) (lv2 : Nat → Nat) (is : Bool), (if is = true then smN lv2 36 + 1 else 0) < n → (rnd (cdT2 ht wr) (fun k => decide (3 ≤ wr k)) (fun k o x => max x (dif (ht o) (ht k))) (rtM wr a) lv2 is) → (∀ k, k < 36 → lv2 k ≤ 1000000) → ∀ (w1 : Nat → va_E) (H : Heap) (locs : List Loc), gP E ad N w1 H → va_S (gA E) s.heap H locs → bkP N w1 b 12 (MDC E ad b g kp sv bf sd ip sg mk td lv2 tl qs qc qw qd co wy de ca ln fa sm pa tm) → gFr (gIn b 12) w w1 → ∀ (ls : Array Slot), lv_has ls 9 [(3, .int (bI (is))), (2, .int (nI (1))), (1, .int (nI (a))), (0, .ref (ad (b)))] → W p l e (headSpec (lw_ws yX13_routes cX13_routes 9 none) ({ frames := 3, cells := 0, slots := 0, locals := 66 } : Room)).room s m ([.ref (ad (b)), .int (nI (a)), .int (nI (1))] : List Value).toArray below meth cd H locs 0 0 (MQ below (va_Qv (fun w' => ∃ lv' : Nat → Nat, grt (fun k => decide (3 ≤ wr k)) (fun k o x => max x (dif (ht o) (ht k))) (rtM wr a) lv' ∧ (∀ k, k < 36 → lv' k ≤ 1000000) ∧ bkP N w' b 12 (MDC E ad b g kp sv bf sd ip sg mk td lv' tl qs qc qw qd co wy de ca ln fa sm pa tm) ∧ gFr (gIn b 12) w w') (gB E ad N) (gA E)) ([.ref (ad (b)), .int (nI (a)), .int (nI (1))] : List Value).toArray s 0 0 (gA E)) (F0 m 41 ls []) := by
          intro n
          induction n with
          | zero => intro lv2 is hmeas; omega
          | succ n ih_lpb =>
            intro lv2 is hmeas hrn hlb w1 H locs hP hS hb2 hfr ls hl
            refine lv_iload_n hx hb dX13_routes_41 rfl (lv_at hl 0 rfl) ?_
            refine g_beq S (b := is) (tgt := 196) dX13_routes_42 (by decide) (fun hisv => ?_) (fun hisv => ?_)
            · rw [hisv] at hrn
              exact g_vret S hr hlocks hP hS (⟨lv2, rnd_e hrn, hlb, hb2, hfr⟩) (fun _ _ => rfl) (Nat.le_of_ble_eq_true rfl) (Nat.le_of_ble_eq_true rfl) dX13_routes_196
            · rw [if_pos hisv] at hmeas
              refine g_iconst S 0 dX13_routes_45 (by decide +kernel) ?_
              refine lv_istore_n (lv' := [(3, .int (nI (0))), (2, .int (nI (1))), (1, .int (nI (a))), (0, .ref (ad (b)))]) hx hb dX13_routes_46 rfl hl (by decide) rfl (fun ls hl => ?_)
              refine g_iconst S 0 dX13_routes_47 (by decide +kernel) ?_
              refine lv_istore (lv' := [(4, .int (nI (0))), (3, .int (nI (0))), (2, .int (nI (1))), (1, .int (nI (a))), (0, .ref (ad (b)))]) hx hb dX13_routes_48 hl (by decide) rfl (fun ls hl => ?_)
              have lpc : ∀ (n : Nat) (k : Nat), 37 - k < n → (k ≤ 36) → ∀ (w1 : Nat → va_E) (H : Heap) (locs : List Loc), gP E ad N w1 H → va_S (gA E) s.heap H locs → bkP N w1 b 12 (MDC E ad b g kp sv bf sd ip sg mk td ((iaN (cdT2 ht wr) lv2 k).1) tl qs qc qw qd co wy de ca ln fa sm pa tm) → gFr (gIn b 12) w w1 → ∀ (ls : Array Slot), lv_has ls 9 [(4, .int (nI (k))), (3, .int (bI ((iaN (cdT2 ht wr) lv2 k).2))), (2, .int (nI (1))), (1, .int (nI (a))), (0, .ref (ad (b)))] → W p l e (headSpec (lw_ws yX13_routes cX13_routes 9 none) ({ frames := 3, cells := 0, slots := 0, locals := 66 } : Room)).room s m ([.ref (ad (b)), .int (nI (a)), .int (nI (1))] : List Value).toArray below meth cd H locs 0 0 (MQ below (va_Qv (fun w' => ∃ lv' : Nat → Nat, grt (fun k => decide (3 ≤ wr k)) (fun k o x => max x (dif (ht o) (ht k))) (rtM wr a) lv' ∧ (∀ k, k < 36 → lv' k ≤ 1000000) ∧ bkP N w' b 12 (MDC E ad b g kp sv bf sd ip sg mk td lv' tl qs qc qw qd co wy de ca ln fa sm pa tm) ∧ gFr (gIn b 12) w w') (gB E ad N) (gA E)) ([.ref (ad (b)), .int (nI (a)), .int (nI (1))] : List Value).toArray s 0 0 (gA E)) (F0 m 50 ls []) := by
                intro n
                induction n with
                | zero => intro k hmeas; omega
                | succ n ih_lpc =>
                  intro k hmeas hk w1 H locs hP hS hb3 hfr ls hl
                  have hlb3 := iaN_ok (cd := (cdT2 ht wr)) hlb hk
                  refine lv_iload hx hb dX13_routes_50 (lv_at hl 0 rfl) ?_
                  refine g_bipush S 36 dX13_routes_52 (by decide +kernel) ?_
                  refine g_ge S (a := k) (b := 36) (by omega) (by omega) (tgt := 193) dX13_routes_54 (by decide) (fun h3 => ?_) (fun h3 => ?_)
                  · have e36 : k = 36 := by omega
                    subst e36
                    refine lv_goto (tgt := 41) hx hb dX13_routes_193 (by decide) ?_
                    exact ih_lpb ((iaN (cdT2 ht wr) lv2 36).1) ((iaN (cdT2 ht wr) lv2 36).2) (by by_cases q : (iaN (cdT2 ht wr) lv2 36).2 = true; rw [if_pos q]; have := iaN_sum q; omega; rw [if_neg q]; omega) (rnd_s (cdT2_is ht wr) hrn) (hlb3) _ _ _ hP hS hb3 hfr ls (lv_sub hl [1, 2, 3, 4] rfl)
                  · have zk := hht k h3
                    refine g_iconst S 0 dX13_routes_57 (by decide +kernel) ?_
                    refine lv_istore (lv' := [(5, .int (nI (0))), (4, .int (nI (k))), (3, .int (bI ((iaN (cdT2 ht wr) lv2 k).2))), (2, .int (nI (1))), (1, .int (nI (a))), (0, .ref (ad (b)))]) hx hb dX13_routes_58 hl (by decide) rfl (fun ls hl => ?_)
                    have lpd : ∀ (n : Nat) (d : Nat), 5 - d < n → (d ≤ 4) → ∀ (w1 : Nat → va_E) (H : Heap) (locs : List Loc), gP E ad N w1 H → va_S (gA E) s.heap H locs → bkP N w1 b 12 (MDC E ad b g kp sv bf sd ip sg mk td ((iaD (cdT2 ht wr) k (iaN (cdT2 ht wr) lv2 k) d).1) tl qs qc qw qd co wy de ca ln fa sm pa tm) → gFr (gIn b 12) w w1 → ∀ (ls : Array Slot), lv_has ls 9 [(5, .int (nI (d))), (4, .int (nI (k))), (3, .int (bI ((iaD (cdT2 ht wr) k (iaN (cdT2 ht wr) lv2 k) d).2))), (2, .int (nI (1))), (1, .int (nI (a))), (0, .ref (ad (b)))] → W p l e (headSpec (lw_ws yX13_routes cX13_routes 9 none) ({ frames := 3, cells := 0, slots := 0, locals := 66 } : Room)).room s m ([.ref (ad (b)), .int (nI (a)), .int (nI (1))] : List Value).toArray below meth cd H locs 0 0 (MQ below (va_Qv (fun w' => ∃ lv' : Nat → Nat, grt (fun k => decide (3 ≤ wr k)) (fun k o x => max x (dif (ht o) (ht k))) (rtM wr a) lv' ∧ (∀ k, k < 36 → lv' k ≤ 1000000) ∧ bkP N w' b 12 (MDC E ad b g kp sv bf sd ip sg mk td lv' tl qs qc qw qd co wy de ca ln fa sm pa tm) ∧ gFr (gIn b 12) w w') (gB E ad N) (gA E)) ([.ref (ad (b)), .int (nI (a)), .int (nI (1))] : List Value).toArray s 0 0 (gA E)) (F0 m 60 ls []) := by
                      intro n
                      induction n with
                      | zero => intro d hmeas; omega
                      | succ n ih_lpd =>
                        intro d hmeas hd w1 H locs hP hS hb4 hfr ls hl
                        have hlb4 := iaD_ok (cd := (cdT2 ht wr)) (c := k) h3 hlb3 d
                        have zlk := hlb4 k h3
                        refine lv_iload hx hb dX13_routes_60 (lv_at hl 0 rfl) ?_
                        refine g_iconst S 4 dX13_routes_62 (by decide +kernel) ?_
                        refine g_ge S (a := d) (b := 4) (by omega) (by omega) (tgt := 187) dX13_routes_63 (by decide) (fun h4 => ?_) (fun h4 => ?_)
                        · have e_d : d = 4 := by omega
                          subst e_d
                          refine lv_iinc (v := nI (k + 1)) (lv' := [(4, .int (nI (k + 1))), (5, .int (nI (4))), (3, .int (bI ((iaD (cdT2 ht wr) k (iaN (cdT2 ht wr) lv2 k) 4).2))), (2, .int (nI (1))), (1, .int (nI (a))), (0, .ref (ad (b)))]) hx hb dX13_routes_187 hl (k := 1) rfl (g_inc _ 1 (by decide +kernel)) (by decide) rfl (fun ls hl => ?_)
                          refine lv_goto (tgt := 50) hx hb dX13_routes_190 (by decide) ?_
                          exact ih_lpc (k + 1) (by omega) (by omega) _ _ _ hP hS hb4 hfr ls (lv_sub hl [0, 2, 3, 4, 5] rfl)
                        · have zwk := hwr k h3
                          refine lv_aload_n hx hb dX13_routes_66 rfl (lv_at hl 5 rfl) ?_
                          refine lv_iload hx hb dX13_routes_67 (lv_at hl 1 rfl) ?_
                          refine g_roi (g_runV S hI hP hS (k := 1) (As := [.int (nI (k))]) (rest := []) (mX13_isHole l b g kp sv bf sd ip sg mk td ((iaD (cdT2 ht wr) k (iaN (cdT2 ht wr) lv2 k) d).1) tl qs qc qw qd co wy de ca ln fa sm pa tm k (wr k) hb4 h3 (hgw k h3) zwk) q1968 q1970 q60 q100 q1971 rfl rfl (by decide +kernel) ⟨Nat.le_of_ble_eq_true rfl, Nat.le_of_ble_eq_true rfl⟩ rfl (hb4.lt 0 (by decide)) (hb4.2 0 (by decide)) rfl hl.1 rfl (Nat.le_of_ble_eq_true rfl) ⟨(Nat.le_of_ble_eq_true rfl), (Nat.le_of_ble_eq_true rfl)⟩ dX13_routes_69) hS (fun H locs hP hS => ?_)
                          refine g_bne S (b := decide (3 ≤ wr k)) (tgt := 187) dX13_routes_72 (by decide) (fun hho => ?_) (fun hho => ?_)
                          · have hho := of_decide_eq_true hho
                            have hcn : ∀ l o, (cdT2 ht wr) l k o = none := fun l o => if_pos hho
                            have hi4 : (iaD (cdT2 ht wr) k (iaN (cdT2 ht wr) lv2 k) d) = (iaD (cdT2 ht wr) k (iaN (cdT2 ht wr) lv2 k) 4) := by rw [iaD_hole hcn, iaD_hole hcn]
                            rw [hi4] at hl
                            rw [hi4] at hb4
                            (try rw [hi4] at hP)
                            (try rw [hi4] at hfr)
                            refine lv_iinc (v := nI (k + 1)) (lv' := [(4, .int (nI (k + 1))), (5, .int (nI (d))), (3, .int (bI ((iaD (cdT2 ht wr) k (iaN (cdT2 ht wr) lv2 k) 4).2))), (2, .int (nI (1))), (1, .int (nI (a))), (0, .ref (ad (b)))]) hx hb dX13_routes_187 hl (k := 1) rfl (g_inc _ 1 (by decide +kernel)) (by decide) rfl (fun ls hl => ?_)
                            refine lv_goto (tgt := 50) hx hb dX13_routes_190 (by decide) ?_
                            exact ih_lpc (k + 1) (by omega) (by omega) _ _ _ hP hS hb4 hfr ls (lv_sub hl [0, 2, 3, 4, 5] rfl)
                          · have hho := of_decide_eq_false hho
                            refine lv_iload hx hb dX13_routes_75 (lv_at hl 1 rfl) ?_
                            refine lv_iload hx hb dX13_routes_77 (lv_at hl 0 rfl) ?_
                            refine g_roi (g_runS S hI hP hS (k := 2) (As := [.int (nI (k)), .int (nI (d))]) (rest := []) (mX13_beside l k d h3 h4) q1917 q1918 q100 q1919 rfl rfl (by decide +kernel) ⟨Nat.le_of_ble_eq_true rfl, Nat.le_of_ble_eq_true rfl⟩ rfl hl.1 rfl (Nat.le_of_ble_eq_true rfl) ⟨(Nat.le_of_ble_eq_true rfl), (Nat.le_of_ble_eq_true rfl)⟩ dX13_routes_79) hS (fun H locs hP hS => ?_)
                            refine lv_istore (lv' := [(6, .int (oI (nb k d))), (5, .int (nI (d))), (4, .int (nI (k))), (3, .int (bI ((iaD (cdT2 ht wr) k (iaN (cdT2 ht wr) lv2 k) d).2))), (2, .int (nI (1))), (1, .int (nI (a))), (0, .ref (ad (b)))]) hx hb dX13_routes_82 hl (by decide) rfl (fun ls hl => ?_)
                            refine lv_iload hx hb dX13_routes_84 (lv_at hl 0 rfl) ?_
                            refine g_oltZ S (o := nb k d) (fun j hj => Nat.lt_trans (nb_lt h3 hj) (by decide)) (tgt := 181) dX13_routes_86 (by decide) (fun hn => ?_) (fun hn_k hn => ?_)
                            · refine lv_iinc (v := nI (d + 1)) (lv' := [(5, .int (nI (d + 1))), (6, .int (oI (nb k d))), (4, .int (nI (k))), (3, .int (bI ((iaD (cdT2 ht wr) k (iaN (cdT2 ht wr) lv2 k) d).2))), (2, .int (nI (1))), (1, .int (nI (a))), (0, .ref (ad (b)))]) hx hb dX13_routes_181 hl (k := 1) rfl (g_inc _ 1 (by decide +kernel)) (by decide) rfl (fun ls hl => ?_)
                              refine lv_goto (tgt := 60) hx hb dX13_routes_184 (by decide) ?_
                              have hnx : (iaD (cdT2 ht wr) k (iaN (cdT2 ht wr) lv2 k) (d + 1)) = (iaD (cdT2 ht wr) k (iaN (cdT2 ht wr) lv2 k) d) := by exact iaD_n hn
                              rw [← hnx] at hl
                              rw [← hnx] at hb4
                              (try rw [← hnx] at hP)
                              (try rw [← hnx] at hfr)
                              exact ih_lpd (d + 1) (by omega) (by omega) _ _ _ hP hS hb4 hfr ls (lv_sub hl [0, 2, 3, 4, 5, 6] rfl)
                            · have ho36 := nb_lt h3 hn
                              have zlo := hlb4 hn_k ho36
                              have zo := hht hn_k ho36
                              have hl : lv_has ls 9 [(6, .int (nI (hn_k))), (5, .int (nI (d))), (4, .int (nI (k))), (3, .int (bI ((iaD (cdT2 ht wr) k (iaN (cdT2 ht wr) lv2 k) d).2))), (2, .int (nI (1))), (1, .int (nI (a))), (0, .ref (ad (b)))] := by rw [hn] at hl; exact hl
                              have hdf := dif_le zo zk
                              refine lv_aload_n hx hb dX13_routes_89 rfl (lv_at hl 6 rfl) ?_
                              refine g_get S hI hP uX13 rfl (fs := _) (hb4.lt 0 (by decide)) (hb4.2 0 (by decide)) 20 (by decide) q1807 rfl (v := .ref (ad (b + 10))) rfl dX13_routes_90 ?_
                              refine lv_iload hx hb dX13_routes_93 (lv_at hl 0 rfl) ?_
                              refine g_iald S hI hP (f := fun j => nI (((iaD (cdT2 ht wr) k (iaN (cdT2 ht wr) lv2 k) d).1) j)) (hb4.lt 10 (by decide)) (hb4.2 10 (by decide)) (hn_k) (ho36) (by decide) dX13_routes_95 ?_
                              refine lv_ldc (v := nI 1000000) hx hb S.2.2.2.1 (S.2.2.2.2 _ q2016) dX13_routes_96 ?_
                              refine g_ne S (a := ((iaD (cdT2 ht wr) k (iaN (cdT2 ht wr) lv2 k) d).1) hn_k) (b := 1000000) (by omega) (by omega) (tgt := 104) dX13_routes_98 (by decide) (fun h7 => ?_) (fun h7 => ?_)
                              · refine lv_aload_n hx hb dX13_routes_104 rfl (lv_at hl 6 rfl) ?_
                                refine lv_iload hx hb dX13_routes_105 (lv_at hl 0 rfl) ?_
                                refine g_roi (g_runV S hI hP hS (k := 1) (As := [.int (nI (hn_k))]) (rest := []) (mX13_high l b g kp sv bf sd ip sg mk td ((iaD (cdT2 ht wr) k (iaN (cdT2 ht wr) lv2 k) d).1) tl qs qc qw qd co wy de ca ln fa sm pa tm hn_k (ht hn_k) hb4 ho36 (hgh hn_k ho36)) q1882 q1884 q50 q100 q1885 rfl rfl (by decide +kernel) ⟨Nat.le_of_ble_eq_true rfl, Nat.le_of_ble_eq_true rfl⟩ rfl (hb4.lt 0 (by decide)) (hb4.2 0 (by decide)) rfl hl.1 rfl (Nat.le_of_ble_eq_true rfl) ⟨(Nat.le_of_ble_eq_true rfl), (Nat.le_of_ble_eq_true rfl)⟩ dX13_routes_107) hS (fun H locs hP hS => ?_)
                                refine lv_aload_n hx hb dX13_routes_110 rfl (lv_at hl 6 rfl) ?_
                                refine lv_iload hx hb dX13_routes_111 (lv_at hl 2 rfl) ?_
                                refine g_roi (g_runV S hI hP hS (k := 1) (As := [.int (nI (k))]) (rest := [.int (nI (ht hn_k))]) (mX13_high l b g kp sv bf sd ip sg mk td ((iaD (cdT2 ht wr) k (iaN (cdT2 ht wr) lv2 k) d).1) tl qs qc qw qd co wy de ca ln fa sm pa tm k (ht k) hb4 h3 (hgh k h3)) q1882 q1884 q50 q100 q1885 rfl rfl (by decide +kernel) ⟨Nat.le_of_ble_eq_true rfl, Nat.le_of_ble_eq_true rfl⟩ rfl (hb4.lt 0 (by decide)) (hb4.2 0 (by decide)) rfl hl.1 rfl (Nat.le_of_ble_eq_true rfl) ⟨(Nat.le_of_ble_eq_true rfl), (Nat.le_of_ble_eq_true rfl)⟩ dX13_routes_113) hS (fun H locs hP hS => ?_)
                                refine lv_isub hx hb dX13_routes_116 ?_
                                refine g_roi (g_runS S hI hP hS (k := 1) (As := [.int (nI (ht hn_k) - nI (ht k))]) (rest := []) (mX13_size l (ht hn_k) (ht k) (by omega) (by omega)) q2040 q2041 q100 q2042 rfl rfl (by decide +kernel) ⟨Nat.le_of_ble_eq_true rfl, Nat.le_of_ble_eq_true rfl⟩ rfl hl.1 rfl (Nat.le_of_ble_eq_true rfl) ⟨(Nat.le_of_ble_eq_true rfl), (Nat.le_of_ble_eq_true rfl)⟩ dX13_routes_117) hS (fun H locs hP hS => ?_)
                                refine lv_istore (lv' := [(7, .int (nI (dif (ht hn_k) (ht k)))), (6, .int (nI (hn_k))), (5, .int (nI (d))), (4, .int (nI (k))), (3, .int (bI ((iaD (cdT2 ht wr) k (iaN (cdT2 ht wr) lv2 k) d).2))), (2, .int (nI (1))), (1, .int (nI (a))), (0, .ref (ad (b)))]) hx hb dX13_routes_120 hl (by decide) rfl (fun ls hl => ?_)
                                refine lv_iload_n hx hb dX13_routes_122 rfl (lv_at hl 5 rfl) ?_
                                refine g_ifeq S (a := 1) (by omega) (tgt := 141) dX13_routes_123 (by decide) (fun hst => ?_) (fun hst => ?_)
                                · omega
                                · refine lv_aload_n hx hb dX13_routes_126 rfl (lv_at hl 7 rfl) ?_
                                  refine g_get S hI hP uX13 rfl (fs := _) (hb4.lt 0 (by decide)) (hb4.2 0 (by decide)) 20 (by decide) q1807 rfl (v := .ref (ad (b + 10))) rfl dX13_routes_127 ?_
                                  refine lv_iload hx hb dX13_routes_130 (lv_at hl 1 rfl) ?_
                                  refine g_iald S hI hP (f := fun j => nI (((iaD (cdT2 ht wr) k (iaN (cdT2 ht wr) lv2 k) d).1) j)) (hb4.lt 10 (by decide)) (hb4.2 10 (by decide)) (hn_k) (ho36) (by decide) dX13_routes_132 ?_
                                  refine lv_iload hx hb dX13_routes_133 (lv_at hl 0 rfl) ?_
                                  refine g_roi (g_runS S hI hP hS (k := 2) (As := [.int (nI (((iaD (cdT2 ht wr) k (iaN (cdT2 ht wr) lv2 k) d).1) hn_k)), .int (nI (dif (ht hn_k) (ht k)))]) (rest := []) (mX13_greater l ((iaD (cdT2 ht wr) k (iaN (cdT2 ht wr) lv2 k) d).1 hn_k) (dif (ht hn_k) (ht k)) (by omega) (by omega)) q2017 q2018 q100 q2019 rfl rfl (by decide +kernel) ⟨Nat.le_of_ble_eq_true rfl, Nat.le_of_ble_eq_true rfl⟩ rfl hl.1 rfl (Nat.le_of_ble_eq_true rfl) ⟨(Nat.le_of_ble_eq_true rfl), (Nat.le_of_ble_eq_true rfl)⟩ dX13_routes_135) hS (fun H locs hP hS => ?_)
                                  refine lv_goto (tgt := 153) hx hb dX13_routes_138 (by decide) ?_
                                  refine lv_istore (lv' := [(8, .int (nI (max ((iaD (cdT2 ht wr) k (iaN (cdT2 ht wr) lv2 k) d).1 hn_k) (dif (ht hn_k) (ht k))))), (7, .int (nI (dif (ht hn_k) (ht k)))), (6, .int (nI (hn_k))), (5, .int (nI (d))), (4, .int (nI (k))), (3, .int (bI ((iaD (cdT2 ht wr) k (iaN (cdT2 ht wr) lv2 k) d).2))), (2, .int (nI (1))), (1, .int (nI (a))), (0, .ref (ad (b)))]) hx hb dX13_routes_153 hl (by decide) rfl (fun ls hl => ?_)
                                  refine lv_iload hx hb dX13_routes_155 (lv_at hl 0 rfl) ?_
                                  refine lv_aload_n hx hb dX13_routes_157 rfl (lv_at hl 8 rfl) ?_
                                  refine g_get S hI hP uX13 rfl (fs := _) (hb4.lt 0 (by decide)) (hb4.2 0 (by decide)) 20 (by decide) q1807 rfl (v := .ref (ad (b + 10))) rfl dX13_routes_158 ?_
                                  refine lv_iload hx hb dX13_routes_161 (lv_at hl 4 rfl) ?_
                                  refine g_iald S hI hP (f := fun j => nI (((iaD (cdT2 ht wr) k (iaN (cdT2 ht wr) lv2 k) d).1) j)) (hb4.lt 10 (by decide)) (hb4.2 10 (by decide)) (k) (h3) (by decide) dX13_routes_163 ?_
                                  refine g_lt S (a := max ((iaD (cdT2 ht wr) k (iaN (cdT2 ht wr) lv2 k) d).1 hn_k) (dif (ht hn_k) (ht k))) (b := ((iaD (cdT2 ht wr) k (iaN (cdT2 ht wr) lv2 k) d).1) k) (by omega) (by omega) (tgt := 170) dX13_routes_164 (by decide) (fun h8 => ?_) (fun h8 => ?_)
                                  · refine lv_aload_n hx hb dX13_routes_170 rfl (lv_at hl 8 rfl) ?_
                                    refine g_get S hI hP uX13 rfl (fs := _) (hb4.lt 0 (by decide)) (hb4.2 0 (by decide)) 20 (by decide) q1807 rfl (v := .ref (ad (b + 10))) rfl dX13_routes_171 ?_
                                    refine lv_iload hx hb dX13_routes_174 (lv_at hl 4 rfl) ?_
                                    refine lv_iload hx hb dX13_routes_176 (lv_at hl 0 rfl) ?_
                                    refine g_iastN S hI hP hS (f := (iaD (cdT2 ht wr) k (iaN (cdT2 ht wr) lv2 k) d).1) (x := max ((iaD (cdT2 ht wr) k (iaN (cdT2 ht wr) lv2 k) d).1 hn_k) (dif (ht hn_k) (ht k))) (hb4.lt 10 (by decide)) (hb4.2 10 (by decide)) (k) (h3) (by decide) dX13_routes_178 (fun H locs hP hS => ?_)
                                    have hP : gP E ad N (va_up _ (b + 10) (MDC E ad b g kp sv bf sd ip sg mk td (va_up ((iaD (cdT2 ht wr) k (iaN (cdT2 ht wr) lv2 k) d).1) k (max ((iaD (cdT2 ht wr) k (iaN (cdT2 ht wr) lv2 k) d).1 hn_k) (dif (ht hn_k) (ht k)))) tl qs qc qw qd co wy de ca ln fa sm pa tm 10)) H := hP
                                    have hb5 : bkP N (va_up _ (b + 10) (MDC E ad b g kp sv bf sd ip sg mk td (va_up ((iaD (cdT2 ht wr) k (iaN (cdT2 ht wr) lv2 k) d).1) k (max ((iaD (cdT2 ht wr) k (iaN (cdT2 ht wr) lv2 k) d).1 hn_k) (dif (ht hn_k) (ht k)))) tl qs qc qw qd co wy de ca ln fa sm pa tm 10)) b 12 (MDC E ad b g kp sv bf sd ip sg mk td (va_up ((iaD (cdT2 ht wr) k (iaN (cdT2 ht wr) lv2 k) d).1) k (max ((iaD (cdT2 ht wr) k (iaN (cdT2 ht wr) lv2 k) d).1 hn_k) (dif (ht hn_k) (ht k)))) tl qs qc qw qd co wy de ca ln fa sm pa tm) := MD_setA9 hb4 _
                                    have hfr := hfr.up (p := b + 10) (e := MDC E ad b g kp sv bf sd ip sg mk td (va_up ((iaD (cdT2 ht wr) k (iaN (cdT2 ht wr) lv2 k) d).1) k (max ((iaD (cdT2 ht wr) k (iaN (cdT2 ht wr) lv2 k) d).1 hn_k) (dif (ht hn_k) (ht k)))) tl qs qc qw qd co wy de ca ln fa sm pa tm 10) (by show _ ∧ _; omega)
                                    refine g_iconst S 1 dX13_routes_179 (by decide +kernel) ?_
                                    refine lv_istore_n (lv' := [(3, .int (nI (1))), (8, .int (nI (max ((iaD (cdT2 ht wr) k (iaN (cdT2 ht wr) lv2 k) d).1 hn_k) (dif (ht hn_k) (ht k))))), (7, .int (nI (dif (ht hn_k) (ht k)))), (6, .int (nI (hn_k))), (5, .int (nI (d))), (4, .int (nI (k))), (2, .int (nI (1))), (1, .int (nI (a))), (0, .ref (ad (b)))]) hx hb dX13_routes_180 rfl hl (by decide) rfl (fun ls hl => ?_)
                                    refine lv_iinc (v := nI (d + 1)) (lv' := [(5, .int (nI (d + 1))), (3, .int (nI (1))), (8, .int (nI (max ((iaD (cdT2 ht wr) k (iaN (cdT2 ht wr) lv2 k) d).1 hn_k) (dif (ht hn_k) (ht k))))), (7, .int (nI (dif (ht hn_k) (ht k)))), (6, .int (nI (hn_k))), (4, .int (nI (k))), (2, .int (nI (1))), (1, .int (nI (a))), (0, .ref (ad (b)))]) hx hb dX13_routes_181 hl (k := 4) rfl (g_inc _ 1 (by decide +kernel)) (by decide) rfl (fun ls hl => ?_)
                                    refine lv_goto (tgt := 60) hx hb dX13_routes_184 (by decide) ?_
                                    have hnx : (iaD (cdT2 ht wr) k (iaN (cdT2 ht wr) lv2 k) (d + 1)) = (va_up (iaD (cdT2 ht wr) k (iaN (cdT2 ht wr) lv2 k) d).1 k (max ((iaD (cdT2 ht wr) k (iaN (cdT2 ht wr) lv2 k) d).1 hn_k) (dif (ht hn_k) (ht k))), true) := by rw [iaD_k hn, (imB_y (cd := (cdT2 ht wr)) (show (cdT2 ht wr) (iaD (cdT2 ht wr) k (iaN (cdT2 ht wr) lv2 k) d).1 k hn_k = some (max ((iaD (cdT2 ht wr) k (iaN (cdT2 ht wr) lv2 k) d).1 hn_k) (dif (ht hn_k) (ht k))) by unfold cdT2; rw [if_neg hho]) h8).1, (imB_y (cd := (cdT2 ht wr)) (show (cdT2 ht wr) (iaD (cdT2 ht wr) k (iaN (cdT2 ht wr) lv2 k) d).1 k hn_k = some (max ((iaD (cdT2 ht wr) k (iaN (cdT2 ht wr) lv2 k) d).1 hn_k) (dif (ht hn_k) (ht k))) by unfold cdT2; rw [if_neg hho]) h8).2]; rfl
                                    have hx1 : va_up (iaD (cdT2 ht wr) k (iaN (cdT2 ht wr) lv2 k) d).1 k (max ((iaD (cdT2 ht wr) k (iaN (cdT2 ht wr) lv2 k) d).1 hn_k) (dif (ht hn_k) (ht k))) = (iaD (cdT2 ht wr) k (iaN (cdT2 ht wr) lv2 k) (d + 1)).1 := by rw [hnx]
                                    have hx2 : (iaD (cdT2 ht wr) k (iaN (cdT2 ht wr) lv2 k) (d + 1)).2 = true := by rw [hnx]
                                    rw [hx1] at hP hfr hb5
                                    have hl : lv_has ls 9 [(5, .int (nI (d + 1))), (3, .int (bI ((iaD (cdT2 ht wr) k (iaN (cdT2 ht wr) lv2 k) (d + 1)).2))), (8, .int (nI (max ((iaD (cdT2 ht wr) k (iaN (cdT2 ht wr) lv2 k) d).1 hn_k) (dif (ht hn_k) (ht k))))), (7, .int (nI (dif (ht hn_k) (ht k)))), (6, .int (nI (hn_k))), (4, .int (nI (k))), (2, .int (nI (1))), (1, .int (nI (a))), (0, .ref (ad (b)))] := by rw [hx2]; exact hl
                                    exact ih_lpd (d + 1) (by omega) (by omega) _ _ _ hP hS hb5 hfr ls (lv_sub hl [0, 5, 1, 6, 7, 8] rfl)
                                  · refine lv_goto (tgt := 181) hx hb dX13_routes_167 (by decide) ?_
                                    refine lv_iinc (v := nI (d + 1)) (lv' := [(5, .int (nI (d + 1))), (8, .int (nI (max ((iaD (cdT2 ht wr) k (iaN (cdT2 ht wr) lv2 k) d).1 hn_k) (dif (ht hn_k) (ht k))))), (7, .int (nI (dif (ht hn_k) (ht k)))), (6, .int (nI (hn_k))), (4, .int (nI (k))), (3, .int (bI ((iaD (cdT2 ht wr) k (iaN (cdT2 ht wr) lv2 k) d).2))), (2, .int (nI (1))), (1, .int (nI (a))), (0, .ref (ad (b)))]) hx hb dX13_routes_181 hl (k := 3) rfl (g_inc _ 1 (by decide +kernel)) (by decide) rfl (fun ls hl => ?_)
                                    refine lv_goto (tgt := 60) hx hb dX13_routes_184 (by decide) ?_
                                    have hnx : (iaD (cdT2 ht wr) k (iaN (cdT2 ht wr) lv2 k) (d + 1)) = (iaD (cdT2 ht wr) k (iaN (cdT2 ht wr) lv2 k) d) := by rw [iaD_k hn, (imB_n (cd := (cdT2 ht wr)) (show (cdT2 ht wr) (iaD (cdT2 ht wr) k (iaN (cdT2 ht wr) lv2 k) d).1 k hn_k = some (max ((iaD (cdT2 ht wr) k (iaN (cdT2 ht wr) lv2 k) d).1 hn_k) (dif (ht hn_k) (ht k))) by unfold cdT2; rw [if_neg hho]) (Nat.not_lt.mpr h8)).1, (imB_n (cd := (cdT2 ht wr)) (show (cdT2 ht wr) (iaD (cdT2 ht wr) k (iaN (cdT2 ht wr) lv2 k) d).1 k hn_k = some (max ((iaD (cdT2 ht wr) k (iaN (cdT2 ht wr) lv2 k) d).1 hn_k) (dif (ht hn_k) (ht k))) by unfold cdT2; rw [if_neg hho]) (Nat.not_lt.mpr h8)).2]; rfl
                                    rw [← hnx] at hl
                                    rw [← hnx] at hb4
                                    (try rw [← hnx] at hP)
                                    (try rw [← hnx] at hfr)
                                    exact ih_lpd (d + 1) (by omega) (by omega) _ _ _ hP hS hb4 hfr ls (lv_sub hl [0, 4, 5, 6, 7, 8] rfl)
                              · refine lv_goto (tgt := 181) hx hb dX13_routes_101 (by decide) ?_
                                refine lv_iinc (v := nI (d + 1)) (lv' := [(5, .int (nI (d + 1))), (6, .int (nI (hn_k))), (4, .int (nI (k))), (3, .int (bI ((iaD (cdT2 ht wr) k (iaN (cdT2 ht wr) lv2 k) d).2))), (2, .int (nI (1))), (1, .int (nI (a))), (0, .ref (ad (b)))]) hx hb dX13_routes_181 hl (k := 1) rfl (g_inc _ 1 (by decide +kernel)) (by decide) rfl (fun ls hl => ?_)
                                refine lv_goto (tgt := 60) hx hb dX13_routes_184 (by decide) ?_
                                have hnx : (iaD (cdT2 ht wr) k (iaN (cdT2 ht wr) lv2 k) (d + 1)) = (iaD (cdT2 ht wr) k (iaN (cdT2 ht wr) lv2 k) d) := by rw [iaD_k hn, (imB_n (cd := (cdT2 ht wr)) (show (cdT2 ht wr) (iaD (cdT2 ht wr) k (iaN (cdT2 ht wr) lv2 k) d).1 k hn_k = some (max ((iaD (cdT2 ht wr) k (iaN (cdT2 ht wr) lv2 k) d).1 hn_k) (dif (ht hn_k) (ht k))) by unfold cdT2; rw [if_neg hho]) (by omega)).1, (imB_n (cd := (cdT2 ht wr)) (show (cdT2 ht wr) (iaD (cdT2 ht wr) k (iaN (cdT2 ht wr) lv2 k) d).1 k hn_k = some (max ((iaD (cdT2 ht wr) k (iaN (cdT2 ht wr) lv2 k) d).1 hn_k) (dif (ht hn_k) (ht k))) by unfold cdT2; rw [if_neg hho]) (by omega)).2]; rfl
                                rw [← hnx] at hl
                                rw [← hnx] at hb4
                                (try rw [← hnx] at hP)
                                (try rw [← hnx] at hfr)
                                exact ih_lpd (d + 1) (by omega) (by omega) _ _ _ hP hS hb4 hfr ls (lv_sub hl [0, 2, 3, 4, 5, 6] rfl)
                    exact lpd (5 - (0) + 1) (0) (Nat.lt_succ_self _) (by omega) _ _ _ hP hS hb3 hfr ls (lv_sub hl [0, 1, 2, 3, 4, 5] rfl)
              exact lpc (37 - (0) + 1) (0) (Nat.lt_succ_self _) (by omega) _ _ _ hP hS hb2 hfr ls (lv_sub hl [0, 1, 2, 3, 4] rfl)
        exact lpb ((if (true) = true then smN (lv1) 36 + 1 else 0) + 1) (lv1) (true) (Nat.lt_succ_self _) (rnd_cg (fun k hk => (hv1 k hk)) rnd_0) (fun k hk => by rw [hv1 k hk]; unfold rtM; split <;> omega) _ _ _ hP hS hb1 hfr ls (lv_sub hl [0, 1, 2, 3] rfl)
      · refine lv_aload_n hx hb dX13_routes_8 rfl (lv_at hl 3 rfl) ?_
        refine g_get S hI hP uX13 rfl (fs := _) (hb1.lt 0 (by decide)) (hb1.2 0 (by decide)) 20 (by decide) q1807 rfl (v := .ref (ad (b + 10))) rfl dX13_routes_9 ?_
        refine lv_iload_n hx hb dX13_routes_12 rfl (lv_at hl 0 rfl) ?_
        refine lv_iload_n hx hb dX13_routes_13 rfl (lv_at hl 0 rfl) ?_
        refine lv_iload_n hx hb dX13_routes_14 rfl (lv_at hl 2 rfl) ?_
        refine g_ne S (a := i) (b := a) (by omega) (by omega) (tgt := 30) dX13_routes_15 (by decide) (fun g1 => ?_) (fun g1 => ?_)
        · refine lv_ldc (v := nI 1000000) hx hb S.2.2.2.1 (S.2.2.2.2 _ q2016) dX13_routes_30 ?_
          refine g_iastN S hI hP hS (f := lv1) (x := 1000000) (hb1.lt 10 (by decide)) (hb1.2 10 (by decide)) (i) (h) (by decide) dX13_routes_32 (fun H locs hP hS => ?_)
          have hP : gP E ad N (va_up _ (b + 10) (MDC E ad b g kp sv bf sd ip sg mk td (va_up lv1 i 1000000) tl qs qc qw qd co wy de ca ln fa sm pa tm 10)) H := hP
          have hb6 : bkP N (va_up _ (b + 10) (MDC E ad b g kp sv bf sd ip sg mk td (va_up lv1 i 1000000) tl qs qc qw qd co wy de ca ln fa sm pa tm 10)) b 12 (MDC E ad b g kp sv bf sd ip sg mk td (va_up lv1 i 1000000) tl qs qc qw qd co wy de ca ln fa sm pa tm) := MD_setA9 hb1 _
          have hfr := hfr.up (p := b + 10) (e := MDC E ad b g kp sv bf sd ip sg mk td (va_up lv1 i 1000000) tl qs qc qw qd co wy de ca ln fa sm pa tm 10) (by show _ ∧ _; omega)
          refine lv_iinc (v := nI (i + 1)) (lv' := [(3, .int (nI (i + 1))), (2, .int (nI (1))), (1, .int (nI (a))), (0, .ref (ad (b)))]) hx hb dX13_routes_33 hl (k := 0) rfl (g_inc _ 1 (by decide +kernel)) (by decide) rfl (fun ls hl => ?_)
          refine lv_goto (tgt := 2) hx hb dX13_routes_36 (by decide) ?_
          exact ih_lpa (i + 1) (va_up lv1 i (1000000)) (by omega) (by omega) (fun j hj => by by_cases q : j = i; rw [q, va_up_self]; unfold rtM; rw [if_neg (by omega)]; rw [va_up_ne _ _ q]; exact hv1 j (by omega)) _ _ _ hP hS hb6 hfr ls (lv_sub hl [0, 1, 2, 3] rfl)
        · refine lv_aload_n hx hb dX13_routes_18 rfl (lv_at hl 3 rfl) ?_
          refine lv_iload_n hx hb dX13_routes_19 rfl (lv_at hl 0 rfl) ?_
          refine g_roi (g_runV S hI hP hS (k := 1) (As := [.int (nI (i))]) (rest := [.int (nI (i)), .ref (ad (b + 10))]) (mX13_isHole l b g kp sv bf sd ip sg mk td lv1 tl qs qc qw qd co wy de ca ln fa sm pa tm i (wr i) hb1 h (hgw i h) (hwr i h)) q1968 q1970 q60 q100 q1971 rfl rfl (by decide +kernel) ⟨Nat.le_of_ble_eq_true rfl, Nat.le_of_ble_eq_true rfl⟩ rfl (hb1.lt 0 (by decide)) (hb1.2 0 (by decide)) rfl hl.1 rfl (Nat.le_of_ble_eq_true rfl) ⟨(Nat.le_of_ble_eq_true rfl), (Nat.le_of_ble_eq_true rfl)⟩ dX13_routes_20) hS (fun H locs hP hS => ?_)
          refine g_bne S (b := decide (3 ≤ wr i)) (tgt := 30) dX13_routes_23 (by decide) (fun g2 => ?_) (fun g2 => ?_)
          · have g2 := of_decide_eq_true g2
            refine lv_ldc (v := nI 1000000) hx hb S.2.2.2.1 (S.2.2.2.2 _ q2016) dX13_routes_30 ?_
            refine g_iastN S hI hP hS (f := lv1) (x := 1000000) (hb1.lt 10 (by decide)) (hb1.2 10 (by decide)) (i) (h) (by decide) dX13_routes_32 (fun H locs hP hS => ?_)
            have hP : gP E ad N (va_up _ (b + 10) (MDC E ad b g kp sv bf sd ip sg mk td (va_up lv1 i 1000000) tl qs qc qw qd co wy de ca ln fa sm pa tm 10)) H := hP
            have hb7 : bkP N (va_up _ (b + 10) (MDC E ad b g kp sv bf sd ip sg mk td (va_up lv1 i 1000000) tl qs qc qw qd co wy de ca ln fa sm pa tm 10)) b 12 (MDC E ad b g kp sv bf sd ip sg mk td (va_up lv1 i 1000000) tl qs qc qw qd co wy de ca ln fa sm pa tm) := MD_setA9 hb1 _
            have hfr := hfr.up (p := b + 10) (e := MDC E ad b g kp sv bf sd ip sg mk td (va_up lv1 i 1000000) tl qs qc qw qd co wy de ca ln fa sm pa tm 10) (by show _ ∧ _; omega)
            refine lv_iinc (v := nI (i + 1)) (lv' := [(3, .int (nI (i + 1))), (2, .int (nI (1))), (1, .int (nI (a))), (0, .ref (ad (b)))]) hx hb dX13_routes_33 hl (k := 0) rfl (g_inc _ 1 (by decide +kernel)) (by decide) rfl (fun ls hl => ?_)
            refine lv_goto (tgt := 2) hx hb dX13_routes_36 (by decide) ?_
            exact ih_lpa (i + 1) (va_up lv1 i (1000000)) (by omega) (by omega) (fun j hj => by by_cases q : j = i; rw [q, va_up_self]; unfold rtM; rw [if_neg (by omega)]; rw [va_up_ne _ _ q]; exact hv1 j (by omega)) _ _ _ hP hS hb7 hfr ls (lv_sub hl [0, 1, 2, 3] rfl)
          · have g2 := of_decide_eq_false g2
            refine g_iconst S 0 dX13_routes_26 (by decide +kernel) ?_
            refine lv_goto (tgt := 32) hx hb dX13_routes_27 (by decide) ?_
            refine g_iastN S hI hP hS (f := lv1) (x := 0) (hb1.lt 10 (by decide)) (hb1.2 10 (by decide)) (i) (h) (by decide) dX13_routes_32 (fun H locs hP hS => ?_)
            have hP : gP E ad N (va_up _ (b + 10) (MDC E ad b g kp sv bf sd ip sg mk td (va_up lv1 i 0) tl qs qc qw qd co wy de ca ln fa sm pa tm 10)) H := hP
            have hb8 : bkP N (va_up _ (b + 10) (MDC E ad b g kp sv bf sd ip sg mk td (va_up lv1 i 0) tl qs qc qw qd co wy de ca ln fa sm pa tm 10)) b 12 (MDC E ad b g kp sv bf sd ip sg mk td (va_up lv1 i 0) tl qs qc qw qd co wy de ca ln fa sm pa tm) := MD_setA9 hb1 _
            have hfr := hfr.up (p := b + 10) (e := MDC E ad b g kp sv bf sd ip sg mk td (va_up lv1 i 0) tl qs qc qw qd co wy de ca ln fa sm pa tm 10) (by show _ ∧ _; omega)
            refine lv_iinc (v := nI (i + 1)) (lv' := [(3, .int (nI (i + 1))), (2, .int (nI (1))), (1, .int (nI (a))), (0, .ref (ad (b)))]) hx hb dX13_routes_33 hl (k := 0) rfl (g_inc _ 1 (by decide +kernel)) (by decide) rfl (fun ls hl => ?_)
            refine lv_goto (tgt := 2) hx hb dX13_routes_36 (by decide) ?_
            exact ih_lpa (i + 1) (va_up lv1 i (0)) (by omega) (by omega) (fun j hj => by by_cases q : j = i; rw [q, va_up_self]; unfold rtM; rw [if_pos ⟨g1, g2⟩]; rw [va_up_ne _ _ q]; exact hv1 j (by omega)) _ _ _ hP hS hb8 hfr ls (lv_sub hl [0, 1, 2, 3] rfl)
  exact lpa (37 - (0) + 1) (0) (lv) (Nat.lt_succ_self _) (by omega) (fun j hj => absurd hj (Nat.not_lt_zero _)) _ _ _ hP hS hb_m hfr ls (lv_sub hl [0, 3, 2, 1] rfl)
set_option maxHeartbeats 4000000 in
set_option maxRecDepth 100000 in
/-- a route -/
theorem mX13_route1 (l : Launch) {E : gE} {ad : Nat → Nat} {N : Nat} {w : Nat → va_E} (b : Nat) (g kp sv bf sd ip sg mk td lv tl : Nat → Nat) (qs qc qw qd co wy : Nat) (de : Int32) (ca ln : Nat) (fa : Option Nat) (sm pa tm : Nat) (ht dr pg wt wr mo : Nat → Nat) (mc ni po dn : Nat) (a c : Nat) (hb_m : bkP N w b 12 (MDC E ad b g kp sv bf sd ip sg mk td lv tl qs qc qw qd co wy de ca ln fa sm pa tm)) (hR : mRg g ht pg wt wr mo mc ni po dn) (hht : ∀ k, k < 36 → ht k ≤ 99) (hwr : ∀ k, k < 36 → wr k ≤ 3) (ha : a < 36) (hc : c < 36) : gMi l yX13_route (lw_ws yX13_route cX13_route 5 (some .int)) ({ frames := 4, cells := 0, slots := 0, locals := 94 } : Room) E ad N w [.ref (ad (b)), .int (nI (a)), .int (nI (c)), .int (nI (1)), .int (nI (1))] (fun r w' => ((∃ lv' : Nat → Nat, grt (fun k => decide (3 ≤ wr k)) (fun k o x => max x (dif (ht o) (ht k))) (rtM wr a) lv' ∧ ((¬ lv' c = 1000000 ∧ r = nI (lv' c) ∧ bkP N w' b 12 (MDC E ad b g kp sv bf sd ip sg mk td lv' tl qs qc qw 0 0 wy de ca ln fa sm pa tm)) ∨ (lv' c = 1000000 ∧ bkP N w' b 12 (MDC E ad b g kp sv bf sd ip sg mk td lv' tl qs qc qw 0 2 wy de ca ln fa sm pa tm))))) ∧ gFr (gIn b 12) w w') 0 0 := by
  refine Met.ofW (cc := cX13_route) (maxL := 5) (ret := (some .int)) (by decide) rfl ?_
  intro p e s m args below meth cd s₁ B hml hv
  obtain ⟨rfl, hI, hP⟩ := hv
  obtain ⟨S, hr, hlocks⟩ := gPre (ws := []) B hml (C := RX13) rfl
  have hx := S.1
  have hb := S.2.1
  have hS : va_S (gA E) s.heap s.heap [] := va_S.rf
  have hfr : gFr (gIn b 12) w w := gFr.rf
  have hl := lv_entry ([.ref (ad (b)), .int (nI (a)), .int (nI (c)), .int (nI (1)), .int (nI (1))]) (n := 5) (Nat.le_of_ble_eq_true rfl)
  rw [lg_entry_eq]
  generalize (lg_sl ([.ref (ad (b)), .int (nI (a)), .int (nI (c)), .int (nI (1)), .int (nI (1))]) ++ List.replicate (5 - (lg_sl ([.ref (ad (b)), .int (nI (a)), .int (nI (c)), .int (nI (1)), .int (nI (1))])).length) Slot.unset).toArray = ls at hl ⊢
  have hl : lv_has ls 5 [(0, .ref (ad (b))), (1, .int (nI (a))), (2, .int (nI (c))), (3, .int (nI (1))), (4, .int (nI (1)))] := hl
  obtain ⟨hgh, hgw, hgp, hgt, hgm, hg3, hg0, hg1, hg2⟩ := id hR
  refine lv_aload_n hx hb dX13_route_0 rfl (lv_at hl 0 rfl) ?_
  refine lv_iload_n hx hb dX13_route_1 rfl (lv_at hl 3 rfl) ?_
  refine g_ifeq S (a := 1) (by omega) (tgt := 9) dX13_route_2 (by decide) (fun h1 => ?_) (fun h1 => ?_)
  · omega
  · refine g_iconst S 0 dX13_route_5 (by decide +kernel) ?_
    refine lv_goto (tgt := 10) hx hb dX13_route_6 (by decide) ?_
    refine g_afi (g_runV S hI hP hS (k := 1) (As := [.int (nI (0))]) (rest := []) (mX13_fails l b g kp sv bf sd ip sg mk td lv tl qs qc qw qd co wy de ca ln fa sm pa tm 0 hb_m (by decide)) q1878 q1880 q49 q100 q1881 rfl rfl (by decide +kernel) ⟨Nat.le_of_ble_eq_true rfl, Nat.le_of_ble_eq_true rfl⟩ rfl (hb_m.lt 0 (by decide)) (hb_m.2 0 (by decide)) rfl hl.1 rfl (Nat.le_of_ble_eq_true rfl) ⟨(Nat.le_of_ble_eq_true rfl), (Nat.le_of_ble_eq_true rfl)⟩ dX13_route_10) hS (fun rz w1 H locs hq hP hS => ?_)
    obtain ⟨hr3, hb1, hf2⟩ := hq
    rw [hr3]
    have hfr := hfr.trans hf2 (fun q hq => by (try simp only [gIn] at hq ⊢); (try dsimp only at hq ⊢); omega)
    refine g_beq S (b := decide (0 < 0)) (tgt := 18) dX13_route_13 (by decide) (fun hfk => ?_) (fun hfk => ?_)
    · refine lv_aload_n hx hb dX13_route_18 rfl (lv_at hl 0 rfl) ?_
      refine lv_iload_n hx hb dX13_route_19 rfl (lv_at hl 1 rfl) ?_
      refine lv_iload hx hb dX13_route_20 (lv_at hl 4 rfl) ?_
      refine g_afv (g_runV S hI hP hS (k := 2) (As := [.int (nI (a)), .int (nI (1))]) (rest := []) (mX13_routes1 l b g kp sv bf sd ip sg mk td lv tl qs qc qw 0 0 wy de ca ln fa sm pa tm ht dr pg wt wr mo mc ni po dn a hb1 hR hht hwr ha) q2036 q2038 q65 q100 q2039 rfl rfl (by decide +kernel) ⟨Nat.le_of_ble_eq_true rfl, Nat.le_of_ble_eq_true rfl⟩ rfl (hb1.lt 0 (by decide)) (hb1.2 0 (by decide)) rfl hl.1 rfl (Nat.le_of_ble_eq_true rfl) ⟨(Nat.le_of_ble_eq_true rfl), (Nat.le_of_ble_eq_true rfl)⟩ dX13_route_22) hS (fun w1 H locs hq hP hS => ?_)
      obtain ⟨lv9, hg9, hl9, hb9, hf9⟩ := hq
      have hfr := hfr.trans hf9 (fun q hq => hq)
      have zl := hl9 c hc
      refine lv_aload_n hx hb dX13_route_25 rfl (lv_at hl 0 rfl) ?_
      refine lv_aload_n hx hb dX13_route_26 rfl (lv_at hl 0 rfl) ?_
      refine g_get S hI hP uX13 rfl (fs := _) (hb9.lt 0 (by decide)) (hb9.2 0 (by decide)) 20 (by decide) q1807 rfl (v := .ref (ad (b + 10))) rfl dX13_route_27 ?_
      refine lv_iload_n hx hb dX13_route_30 rfl (lv_at hl 2 rfl) ?_
      refine g_iald S hI hP (f := fun j => nI (lv9 j)) (hb9.lt 10 (by decide)) (hb9.2 10 (by decide)) (c) (hc) (by decide) dX13_route_31 ?_
      refine lv_ldc (v := nI 1000000) hx hb S.2.2.2.1 (S.2.2.2.2 _ q2016) dX13_route_32 ?_
      refine g_ne S (a := lv9 c) (b := 1000000) (by omega) (by omega) (tgt := 41) dX13_route_34 (by decide) (fun h2 => ?_) (fun h2 => ?_)
      · refine g_iconst S 0 dX13_route_41 (by decide +kernel) ?_
        refine g_afi (g_runV S hI hP hS (k := 1) (As := [.int (nI (0))]) (rest := []) (mX13_fails l b g kp sv bf sd ip sg mk td lv9 tl qs qc qw 0 0 wy de ca ln fa sm pa tm 0 hb9 (by decide)) q1878 q1880 q49 q100 q1881 rfl rfl (by decide +kernel) ⟨Nat.le_of_ble_eq_true rfl, Nat.le_of_ble_eq_true rfl⟩ rfl (hb9.lt 0 (by decide)) (hb9.2 0 (by decide)) rfl hl.1 rfl (Nat.le_of_ble_eq_true rfl) ⟨(Nat.le_of_ble_eq_true rfl), (Nat.le_of_ble_eq_true rfl)⟩ dX13_route_42) hS (fun rz w1 H locs hq hP hS => ?_)
        obtain ⟨hr6, hb4, hf5⟩ := hq
        rw [hr6]
        have hfr := hfr.trans hf5 (fun q hq => by (try simp only [gIn] at hq ⊢); (try dsimp only at hq ⊢); omega)
        refine g_beq S (b := decide (0 < 0)) (tgt := 52) dX13_route_45 (by decide) (fun hfk => ?_) (fun hfk => ?_)
        · refine lv_aload_n hx hb dX13_route_52 rfl (lv_at hl 0 rfl) ?_
          refine g_get S hI hP uX13 rfl (fs := _) (hb4.lt 0 (by decide)) (hb4.2 0 (by decide)) 20 (by decide) q1807 rfl (v := .ref (ad (b + 10))) rfl dX13_route_53 ?_
          refine lv_iload_n hx hb dX13_route_56 rfl (lv_at hl 2 rfl) ?_
          refine g_iald S hI hP (f := fun j => nI (lv9 j)) (hb4.lt 10 (by decide)) (hb4.2 10 (by decide)) (c) (hc) (by decide) dX13_route_57 ?_
          exact g_iret S hr hlocks hP hS (⟨⟨lv9, hg9, Or.inl ⟨h2, rfl, hb4⟩⟩, hfr⟩) (fun _ _ => rfl) (Nat.le_of_ble_eq_true rfl) (Nat.le_of_ble_eq_true rfl) dX13_route_58
        · exact absurd hfk (by decide)
      · refine g_iconst S 2 dX13_route_37 (by decide +kernel) ?_
        refine lv_goto (tgt := 42) hx hb dX13_route_38 (by decide) ?_
        refine g_afi (g_runV S hI hP hS (k := 1) (As := [.int (nI (2))]) (rest := []) (mX13_fails l b g kp sv bf sd ip sg mk td lv9 tl qs qc qw 0 0 wy de ca ln fa sm pa tm 2 hb9 (by decide)) q1878 q1880 q49 q100 q1881 rfl rfl (by decide +kernel) ⟨Nat.le_of_ble_eq_true rfl, Nat.le_of_ble_eq_true rfl⟩ rfl (hb9.lt 0 (by decide)) (hb9.2 0 (by decide)) rfl hl.1 rfl (Nat.le_of_ble_eq_true rfl) ⟨(Nat.le_of_ble_eq_true rfl), (Nat.le_of_ble_eq_true rfl)⟩ dX13_route_42) hS (fun rz w1 H locs hq hP hS => ?_)
        obtain ⟨hr9, hb7, hf8⟩ := hq
        rw [hr9]
        have hfr := hfr.trans hf8 (fun q hq => by (try simp only [gIn] at hq ⊢); (try dsimp only at hq ⊢); omega)
        refine g_beq S (b := decide (0 < 2)) (tgt := 52) dX13_route_45 (by decide) (fun hfk => ?_) (fun hfk => ?_)
        · exact absurd hfk (by decide)
        · refine g_iconst S 0 dX13_route_48 (by decide +kernel) ?_
          refine lv_goto (tgt := 58) hx hb dX13_route_49 (by decide) ?_
          exact g_iret S hr hlocks hP hS (⟨⟨lv9, hg9, Or.inr ⟨h2, hb7⟩⟩, hfr⟩) (fun _ _ => rfl) (Nat.le_of_ble_eq_true rfl) (Nat.le_of_ble_eq_true rfl) dX13_route_58
    · exact absurd hfk (by decide)
set_option maxHeartbeats 4000000 in
set_option maxRecDepth 100000 in
/-- steepestStep -/
theorem mX13_steepestStep (l : Launch) {E : gE} {ad : Nat → Nat} {N : Nat} {w : Nat → va_E} (b : Nat) (g kp sv bf sd ip sg mk td lv tl : Nat → Nat) (qs qc qw qd co wy : Nat) (de : Int32) (ca ln : Nat) (fa : Option Nat) (sm pa tm : Nat) (ht dr pg wt wr mo : Nat → Nat) (mc ni po dn : Nat) (x y x2 y2 : Int32) (hb_m : bkP N w b 12 (MDC E ad b g kp sv bf sd ip sg mk td lv tl qs qc qw qd co wy de ca ln fa sm pa tm)) (hR : mRg g ht pg wt wr mo mc ni po dn) (hht : ∀ k, k < 36 → ht k ≤ 99) (hwr : ∀ k, k < 36 → wr k ≤ 3) : gMi l yX13_steepestStep (lw_ws yX13_steepestStep cX13_steepestStep 5 (some .int)) ({ frames := 5, cells := 0, slots := 0, locals := 118 } : Room) E ad N w [.ref (ad (b)), .int (x), .int (y), .int (x2), .int (y2)] (fun r w' => ((∃ a c, cellV x y = some a ∧ cellV x2 y2 = some c ∧ ((∃ lv' : Nat → Nat, grt (fun k => decide (3 ≤ wr k)) (fun k o x => max x (dif (ht o) (ht k))) (rtM wr a) lv' ∧ ((¬ lv' c = 1000000 ∧ r = nI (lv' c) ∧ bkP N w' b 12 (MDC E ad b g kp sv bf sd ip sg mk td lv' tl qs qc qw 0 0 wy de ca ln fa sm pa tm)) ∨ (lv' c = 1000000 ∧ bkP N w' b 12 (MDC E ad b g kp sv bf sd ip sg mk td lv' tl qs qc qw 0 2 wy de ca ln fa sm pa tm)))))) ∨ ((cellV x y = none ∨ cellV x2 y2 = none) ∧ bkP N w' b 12 (MDC E ad b g kp sv bf sd ip sg mk td lv tl qs qc qw 0 1 wy de ca ln fa sm pa tm))) ∧ gFr (gIn b 12) w w') 0 0 := by
  refine Met.ofW (cc := cX13_steepestStep) (maxL := 5) (ret := (some .int)) (by decide) rfl ?_
  intro p e s m args below meth cd s₁ B hml hv
  obtain ⟨rfl, hI, hP⟩ := hv
  obtain ⟨S, hr, hlocks⟩ := gPre (ws := []) B hml (C := RX13) rfl
  have hx := S.1
  have hb := S.2.1
  have hS : va_S (gA E) s.heap s.heap [] := va_S.rf
  have hfr : gFr (gIn b 12) w w := gFr.rf
  have hl := lv_entry ([.ref (ad (b)), .int (x), .int (y), .int (x2), .int (y2)]) (n := 5) (Nat.le_of_ble_eq_true rfl)
  rw [lg_entry_eq]
  generalize (lg_sl ([.ref (ad (b)), .int (x), .int (y), .int (x2), .int (y2)]) ++ List.replicate (5 - (lg_sl ([.ref (ad (b)), .int (x), .int (y), .int (x2), .int (y2)])).length) Slot.unset).toArray = ls at hl ⊢
  have hl : lv_has ls 5 [(0, .ref (ad (b))), (1, .int (x)), (2, .int (y)), (3, .int (x2)), (4, .int (y2))] := hl
  refine lv_aload_n hx hb dX13_steepestStep_0 rfl (lv_at hl 0 rfl) ?_
  refine g_bipush S 6 dX13_steepestStep_1 (by decide +kernel) ?_
  refine lv_iload_n hx hb dX13_steepestStep_3 rfl (lv_at hl 1 rfl) ?_
  refine lv_imul hx hb dX13_steepestStep_4 ?_
  refine lv_iload_n hx hb dX13_steepestStep_5 rfl (lv_at hl 2 rfl) ?_
  refine lv_iadd hx hb dX13_steepestStep_6 ?_
  refine g_bipush S 6 dX13_steepestStep_7 (by decide +kernel) ?_
  refine lv_iload_n hx hb dX13_steepestStep_9 rfl (lv_at hl 3 rfl) ?_
  refine lv_imul hx hb dX13_steepestStep_10 ?_
  refine lv_iload hx hb dX13_steepestStep_11 (lv_at hl 4 rfl) ?_
  refine lv_iadd hx hb dX13_steepestStep_13 ?_
  refine lv_iload_n hx hb dX13_steepestStep_14 rfl (lv_at hl 1 rfl) ?_
  refine lv_iload_n hx hb dX13_steepestStep_15 rfl (lv_at hl 2 rfl) ?_
  refine g_roi (g_runS S hI hP hS (k := 2) (As := [.int (x), .int (y)]) (rest := [.int ((nI (6) * x2) + y2), .int ((nI (6) * x) + y), .ref (ad (b))]) (mX13_isCell l x y) q1872 q1873 q100 q1874 rfl rfl (by decide +kernel) ⟨Nat.le_of_ble_eq_true rfl, Nat.le_of_ble_eq_true rfl⟩ rfl hl.1 rfl (Nat.le_of_ble_eq_true rfl) ⟨(Nat.le_of_ble_eq_true rfl), (Nat.le_of_ble_eq_true rfl)⟩ dX13_steepestStep_16) hS (fun H locs hP hS => ?_)
  refine g_beq S (b := (cellV x y).isSome) (tgt := 35) dX13_steepestStep_19 (by decide) (fun h1 => ?_) (fun h1 => ?_)
  · refine g_iconst S 0 dX13_steepestStep_35 (by decide +kernel) ?_
    refine g_iconst S 1 dX13_steepestStep_36 (by decide +kernel) ?_
    refine g_afi (g_runV S hI hP hS (k := 4) (As := [.int ((nI (6) * x) + y), .int ((nI (6) * x2) + y2), .int (nI (0)), .int (nI (1))]) (rest := []) (mX13_routeN l b g kp sv bf sd ip sg mk td lv tl qs qc qw qd co wy de ca ln fa sm pa tm ((nI (6) * x) + y) ((nI (6) * x2) + y2) 1 hb_m) q2032 q2034 q64 q100 q2035 rfl rfl (by decide +kernel) ⟨Nat.le_of_ble_eq_true rfl, Nat.le_of_ble_eq_true rfl⟩ rfl (hb_m.lt 0 (by decide)) (hb_m.2 0 (by decide)) rfl hl.1 rfl (Nat.le_of_ble_eq_true rfl) ⟨(Nat.le_of_ble_eq_true rfl), (Nat.le_of_ble_eq_true rfl)⟩ dX13_steepestStep_37) hS (fun rz w1 H locs hq hP hS => ?_)
    obtain ⟨hb9, hf9⟩ := hq
    exact g_iret S hr hlocks hP hS (⟨Or.inr ⟨Or.inl (Option.not_isSome_iff_eq_none.mp (by rw [h1]; decide)), hb9⟩, hf9⟩) (fun _ _ => rfl) (Nat.le_of_ble_eq_true rfl) (Nat.le_of_ble_eq_true rfl) dX13_steepestStep_40
  · refine lv_iload_n hx hb dX13_steepestStep_22 rfl (lv_at hl 3 rfl) ?_
    refine lv_iload hx hb dX13_steepestStep_23 (lv_at hl 4 rfl) ?_
    refine g_roi (g_runS S hI hP hS (k := 2) (As := [.int (x2), .int (y2)]) (rest := [.int ((nI (6) * x2) + y2), .int ((nI (6) * x) + y), .ref (ad (b))]) (mX13_isCell l x2 y2) q1872 q1873 q100 q1874 rfl rfl (by decide +kernel) ⟨Nat.le_of_ble_eq_true rfl, Nat.le_of_ble_eq_true rfl⟩ rfl hl.1 rfl (Nat.le_of_ble_eq_true rfl) ⟨(Nat.le_of_ble_eq_true rfl), (Nat.le_of_ble_eq_true rfl)⟩ dX13_steepestStep_25) hS (fun H locs hP hS => ?_)
    refine g_beq S (b := (cellV x2 y2).isSome) (tgt := 35) dX13_steepestStep_28 (by decide) (fun h2 => ?_) (fun h2 => ?_)
    · refine g_iconst S 0 dX13_steepestStep_35 (by decide +kernel) ?_
      refine g_iconst S 1 dX13_steepestStep_36 (by decide +kernel) ?_
      refine g_afi (g_runV S hI hP hS (k := 4) (As := [.int ((nI (6) * x) + y), .int ((nI (6) * x2) + y2), .int (nI (0)), .int (nI (1))]) (rest := []) (mX13_routeN l b g kp sv bf sd ip sg mk td lv tl qs qc qw qd co wy de ca ln fa sm pa tm ((nI (6) * x) + y) ((nI (6) * x2) + y2) 1 hb_m) q2032 q2034 q64 q100 q2035 rfl rfl (by decide +kernel) ⟨Nat.le_of_ble_eq_true rfl, Nat.le_of_ble_eq_true rfl⟩ rfl (hb_m.lt 0 (by decide)) (hb_m.2 0 (by decide)) rfl hl.1 rfl (Nat.le_of_ble_eq_true rfl) ⟨(Nat.le_of_ble_eq_true rfl), (Nat.le_of_ble_eq_true rfl)⟩ dX13_steepestStep_37) hS (fun rz w1 H locs hq hP hS => ?_)
      obtain ⟨hb9, hf9⟩ := hq
      exact g_iret S hr hlocks hP hS (⟨Or.inr ⟨Or.inr (Option.not_isSome_iff_eq_none.mp (by rw [h2]; decide)), hb9⟩, hf9⟩) (fun _ _ => rfl) (Nat.le_of_ble_eq_true rfl) (Nat.le_of_ble_eq_true rfl) dX13_steepestStep_40
    · obtain ⟨a, ha⟩ := Option.isSome_iff_exists.mp h1
      obtain ⟨c, hc⟩ := Option.isSome_iff_exists.mp h2
      rw [cell6 ha, cell6 hc]
      refine g_iconst S 1 dX13_steepestStep_31 (by decide +kernel) ?_
      refine lv_goto (tgt := 36) hx hb dX13_steepestStep_32 (by decide) ?_
      refine g_iconst S 1 dX13_steepestStep_36 (by decide +kernel) ?_
      refine g_afi (g_runV S hI hP hS (k := 4) (As := [.int (nI (a)), .int (nI (c)), .int (nI (1)), .int (nI (1))]) (rest := []) (mX13_route1 l b g kp sv bf sd ip sg mk td lv tl qs qc qw qd co wy de ca ln fa sm pa tm ht dr pg wt wr mo mc ni po dn a c hb_m hR hht hwr (cellV_lt ha) (cellV_lt hc)) q2032 q2034 q64 q100 q2035 rfl rfl (by decide +kernel) ⟨Nat.le_of_ble_eq_true rfl, Nat.le_of_ble_eq_true rfl⟩ rfl (hb_m.lt 0 (by decide)) (hb_m.2 0 (by decide)) rfl hl.1 rfl (Nat.le_of_ble_eq_true rfl) ⟨(Nat.le_of_ble_eq_true rfl), (Nat.le_of_ble_eq_true rfl)⟩ dX13_steepestStep_37) hS (fun rz w1 H locs hq hP hS => ?_)
      obtain ⟨hq9, hf9⟩ := hq
      exact g_iret S hr hlocks hP hS (⟨Or.inl ⟨a, c, ha, hc, hq9⟩, hf9⟩) (fun _ _ => rfl) (Nat.le_of_ble_eq_true rfl) (Nat.le_of_ble_eq_true rfl) dX13_steepestStep_40
set_option maxHeartbeats 4000000 in
set_option maxRecDepth 100000 in
/-- steepestStepByHalving -/
theorem mX13_steepestStepByHalving (l : Launch) {E : gE} {ad : Nat → Nat} {N : Nat} {w : Nat → va_E} (b : Nat) (g kp sv bf sd ip sg mk td lv tl : Nat → Nat) (qs qc qw qd co wy : Nat) (de : Int32) (ca ln : Nat) (fa : Option Nat) (sm pa tm : Nat) (ht dr pg wt wr mo : Nat → Nat) (mc ni po dn : Nat) (x y x2 y2 : Int32) (hb_m : bkP N w b 12 (MDC E ad b g kp sv bf sd ip sg mk td lv tl qs qc qw qd co wy de ca ln fa sm pa tm)) (hR : mRg g ht pg wt wr mo mc ni po dn) (hht : ∀ k, k < 36 → ht k ≤ 99) (hwr : ∀ k, k < 36 → wr k ≤ 3) : gMi l yX13_steepestStepByHalving (lw_ws yX13_steepestStepByHalving cX13_steepestStepByHalving 5 (some .int)) ({ frames := 5, cells := 0, slots := 0, locals := 118 } : Room) E ad N w [.ref (ad (b)), .int (x), .int (y), .int (x2), .int (y2)] (fun r w' => ((∃ a c, cellV x y = some a ∧ cellV x2 y2 = some c ∧ ((∃ lv' : Nat → Nat, grt (fun k => decide (3 ≤ wr k)) (fun k o x => max x (dif (ht o) (ht k))) (rtM wr a) lv' ∧ ((¬ lv' c = 1000000 ∧ r = nI (lv' c) ∧ bkP N w' b 12 (MDC E ad b g kp sv bf sd ip sg mk td lv' tl qs qc qw 0 0 wy de ca ln fa sm pa tm)) ∨ (lv' c = 1000000 ∧ bkP N w' b 12 (MDC E ad b g kp sv bf sd ip sg mk td lv' tl qs qc qw 0 2 wy de ca ln fa sm pa tm)))))) ∨ ((cellV x y = none ∨ cellV x2 y2 = none) ∧ bkP N w' b 12 (MDC E ad b g kp sv bf sd ip sg mk td lv tl qs qc qw 0 1 wy de ca ln fa sm pa tm))) ∧ gFr (gIn b 12) w w') 0 0 := by
  refine Met.ofW (cc := cX13_steepestStepByHalving) (maxL := 5) (ret := (some .int)) (by decide) rfl ?_
  intro p e s m args below meth cd s₁ B hml hv
  obtain ⟨rfl, hI, hP⟩ := hv
  obtain ⟨S, hr, hlocks⟩ := gPre (ws := []) B hml (C := RX13) rfl
  have hx := S.1
  have hb := S.2.1
  have hS : va_S (gA E) s.heap s.heap [] := va_S.rf
  have hfr : gFr (gIn b 12) w w := gFr.rf
  have hl := lv_entry ([.ref (ad (b)), .int (x), .int (y), .int (x2), .int (y2)]) (n := 5) (Nat.le_of_ble_eq_true rfl)
  rw [lg_entry_eq]
  generalize (lg_sl ([.ref (ad (b)), .int (x), .int (y), .int (x2), .int (y2)]) ++ List.replicate (5 - (lg_sl ([.ref (ad (b)), .int (x), .int (y), .int (x2), .int (y2)])).length) Slot.unset).toArray = ls at hl ⊢
  have hl : lv_has ls 5 [(0, .ref (ad (b))), (1, .int (x)), (2, .int (y)), (3, .int (x2)), (4, .int (y2))] := hl
  refine lv_aload_n hx hb dX13_steepestStepByHalving_0 rfl (lv_at hl 0 rfl) ?_
  refine g_bipush S 6 dX13_steepestStepByHalving_1 (by decide +kernel) ?_
  refine lv_iload_n hx hb dX13_steepestStepByHalving_3 rfl (lv_at hl 1 rfl) ?_
  refine lv_imul hx hb dX13_steepestStepByHalving_4 ?_
  refine lv_iload_n hx hb dX13_steepestStepByHalving_5 rfl (lv_at hl 2 rfl) ?_
  refine lv_iadd hx hb dX13_steepestStepByHalving_6 ?_
  refine g_bipush S 6 dX13_steepestStepByHalving_7 (by decide +kernel) ?_
  refine lv_iload_n hx hb dX13_steepestStepByHalving_9 rfl (lv_at hl 3 rfl) ?_
  refine lv_imul hx hb dX13_steepestStepByHalving_10 ?_
  refine lv_iload hx hb dX13_steepestStepByHalving_11 (lv_at hl 4 rfl) ?_
  refine lv_iadd hx hb dX13_steepestStepByHalving_13 ?_
  refine lv_iload_n hx hb dX13_steepestStepByHalving_14 rfl (lv_at hl 1 rfl) ?_
  refine lv_iload_n hx hb dX13_steepestStepByHalving_15 rfl (lv_at hl 2 rfl) ?_
  refine g_roi (g_runS S hI hP hS (k := 2) (As := [.int (x), .int (y)]) (rest := [.int ((nI (6) * x2) + y2), .int ((nI (6) * x) + y), .ref (ad (b))]) (mX13_isCell l x y) q1872 q1873 q100 q1874 rfl rfl (by decide +kernel) ⟨Nat.le_of_ble_eq_true rfl, Nat.le_of_ble_eq_true rfl⟩ rfl hl.1 rfl (Nat.le_of_ble_eq_true rfl) ⟨(Nat.le_of_ble_eq_true rfl), (Nat.le_of_ble_eq_true rfl)⟩ dX13_steepestStepByHalving_16) hS (fun H locs hP hS => ?_)
  refine g_beq S (b := (cellV x y).isSome) (tgt := 35) dX13_steepestStepByHalving_19 (by decide) (fun h1 => ?_) (fun h1 => ?_)
  · refine g_iconst S 0 dX13_steepestStepByHalving_35 (by decide +kernel) ?_
    refine g_iconst S 1 dX13_steepestStepByHalving_36 (by decide +kernel) ?_
    refine g_afi (g_runV S hI hP hS (k := 4) (As := [.int ((nI (6) * x) + y), .int ((nI (6) * x2) + y2), .int (nI (0)), .int (nI (1))]) (rest := []) (mX13_routeN l b g kp sv bf sd ip sg mk td lv tl qs qc qw qd co wy de ca ln fa sm pa tm ((nI (6) * x) + y) ((nI (6) * x2) + y2) 1 hb_m) q2032 q2034 q64 q100 q2035 rfl rfl (by decide +kernel) ⟨Nat.le_of_ble_eq_true rfl, Nat.le_of_ble_eq_true rfl⟩ rfl (hb_m.lt 0 (by decide)) (hb_m.2 0 (by decide)) rfl hl.1 rfl (Nat.le_of_ble_eq_true rfl) ⟨(Nat.le_of_ble_eq_true rfl), (Nat.le_of_ble_eq_true rfl)⟩ dX13_steepestStepByHalving_37) hS (fun rz w1 H locs hq hP hS => ?_)
    obtain ⟨hb9, hf9⟩ := hq
    exact g_iret S hr hlocks hP hS (⟨Or.inr ⟨Or.inl (Option.not_isSome_iff_eq_none.mp (by rw [h1]; decide)), hb9⟩, hf9⟩) (fun _ _ => rfl) (Nat.le_of_ble_eq_true rfl) (Nat.le_of_ble_eq_true rfl) dX13_steepestStepByHalving_40
  · refine lv_iload_n hx hb dX13_steepestStepByHalving_22 rfl (lv_at hl 3 rfl) ?_
    refine lv_iload hx hb dX13_steepestStepByHalving_23 (lv_at hl 4 rfl) ?_
    refine g_roi (g_runS S hI hP hS (k := 2) (As := [.int (x2), .int (y2)]) (rest := [.int ((nI (6) * x2) + y2), .int ((nI (6) * x) + y), .ref (ad (b))]) (mX13_isCell l x2 y2) q1872 q1873 q100 q1874 rfl rfl (by decide +kernel) ⟨Nat.le_of_ble_eq_true rfl, Nat.le_of_ble_eq_true rfl⟩ rfl hl.1 rfl (Nat.le_of_ble_eq_true rfl) ⟨(Nat.le_of_ble_eq_true rfl), (Nat.le_of_ble_eq_true rfl)⟩ dX13_steepestStepByHalving_25) hS (fun H locs hP hS => ?_)
    refine g_beq S (b := (cellV x2 y2).isSome) (tgt := 35) dX13_steepestStepByHalving_28 (by decide) (fun h2 => ?_) (fun h2 => ?_)
    · refine g_iconst S 0 dX13_steepestStepByHalving_35 (by decide +kernel) ?_
      refine g_iconst S 1 dX13_steepestStepByHalving_36 (by decide +kernel) ?_
      refine g_afi (g_runV S hI hP hS (k := 4) (As := [.int ((nI (6) * x) + y), .int ((nI (6) * x2) + y2), .int (nI (0)), .int (nI (1))]) (rest := []) (mX13_routeN l b g kp sv bf sd ip sg mk td lv tl qs qc qw qd co wy de ca ln fa sm pa tm ((nI (6) * x) + y) ((nI (6) * x2) + y2) 1 hb_m) q2032 q2034 q64 q100 q2035 rfl rfl (by decide +kernel) ⟨Nat.le_of_ble_eq_true rfl, Nat.le_of_ble_eq_true rfl⟩ rfl (hb_m.lt 0 (by decide)) (hb_m.2 0 (by decide)) rfl hl.1 rfl (Nat.le_of_ble_eq_true rfl) ⟨(Nat.le_of_ble_eq_true rfl), (Nat.le_of_ble_eq_true rfl)⟩ dX13_steepestStepByHalving_37) hS (fun rz w1 H locs hq hP hS => ?_)
      obtain ⟨hb9, hf9⟩ := hq
      exact g_iret S hr hlocks hP hS (⟨Or.inr ⟨Or.inr (Option.not_isSome_iff_eq_none.mp (by rw [h2]; decide)), hb9⟩, hf9⟩) (fun _ _ => rfl) (Nat.le_of_ble_eq_true rfl) (Nat.le_of_ble_eq_true rfl) dX13_steepestStepByHalving_40
    · obtain ⟨a, ha⟩ := Option.isSome_iff_exists.mp h1
      obtain ⟨c, hc⟩ := Option.isSome_iff_exists.mp h2
      rw [cell6 ha, cell6 hc]
      refine g_iconst S 1 dX13_steepestStepByHalving_31 (by decide +kernel) ?_
      refine lv_goto (tgt := 36) hx hb dX13_steepestStepByHalving_32 (by decide) ?_
      refine g_iconst S 1 dX13_steepestStepByHalving_36 (by decide +kernel) ?_
      refine g_afi (g_runV S hI hP hS (k := 4) (As := [.int (nI (a)), .int (nI (c)), .int (nI (1)), .int (nI (1))]) (rest := []) (mX13_route1 l b g kp sv bf sd ip sg mk td lv tl qs qc qw qd co wy de ca ln fa sm pa tm ht dr pg wt wr mo mc ni po dn a c hb_m hR hht hwr (cellV_lt ha) (cellV_lt hc)) q2032 q2034 q64 q100 q2035 rfl rfl (by decide +kernel) ⟨Nat.le_of_ble_eq_true rfl, Nat.le_of_ble_eq_true rfl⟩ rfl (hb_m.lt 0 (by decide)) (hb_m.2 0 (by decide)) rfl hl.1 rfl (Nat.le_of_ble_eq_true rfl) ⟨(Nat.le_of_ble_eq_true rfl), (Nat.le_of_ble_eq_true rfl)⟩ dX13_steepestStepByHalving_37) hS (fun rz w1 H locs hq hP hS => ?_)
      obtain ⟨hq9, hf9⟩ := hq
      exact g_iret S hr hlocks hP hS (⟨Or.inl ⟨a, c, ha, hc, hq9⟩, hf9⟩) (fun _ _ => rfl) (Nat.le_of_ble_eq_true rfl) (Nat.le_of_ble_eq_true rfl) dX13_steepestStepByHalving_40
