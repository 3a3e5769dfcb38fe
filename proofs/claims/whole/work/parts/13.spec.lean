/-! THE SHEET OVER NATURALS: what the methods compute, in words of functions -/
def cnt (p : Nat → Bool) : Nat → Nat
  | 0 => 0
  | n + 1 => cnt p n + (if p n = true then 1 else 0)
theorem cnt_le (p : Nat → Bool) : ∀ n, cnt p n ≤ n
  | 0 => Nat.le_refl _
  | n + 1 => by have h := cnt_le p n; simp only [cnt]; split <;> omega
theorem cnt_y {p : Nat → Bool} {n : Nat} (h : p n = true) : cnt p (n + 1) = cnt p n + 1 := by simp [cnt, h]
theorem cnt_n {p : Nat → Bool} {n : Nat} (h : p n = false) : cnt p (n + 1) = cnt p n := by simp [cnt, h]
theorem cnt_cong {p q : Nat → Bool} : ∀ {n : Nat}, (∀ k, k < n → p k = q k) → cnt p n = cnt q n
  | 0, _ => rfl
  | n + 1, h => by simp only [cnt]; rw [cnt_cong (fun k hk => h k (by omega)), h n (by omega)]
def smN (f : Nat → Nat) : Nat → Nat
  | 0 => 0
  | n + 1 => smN f n + f n
theorem smN_cong {f g : Nat → Nat} : ∀ {n : Nat}, (∀ k, k < n → f k = g k) → smN f n = smN g n
  | 0, _ => rfl
  | n + 1, h => by simp only [smN]; rw [smN_cong (fun k hk => h k (by omega)), h n (by omega)]
theorem smN_bound {f : Nat → Nat} {c : Nat} : ∀ {n : Nat}, (∀ k, k < n → f k ≤ c) → smN f n ≤ n * c
  | 0, _ => by simp [smN]
  | n + 1, h => by
    have h1 := smN_bound (n := n) (fun k hk => h k (by omega))
    have h2 := h n (by omega)
    simp only [smN, Nat.succ_mul]
    omega
/-- the least number below n of which p is true -/
def fstN (p : Nat → Bool) : Nat → Option Nat
  | 0 => none
  | n + 1 => match fstN p n with
    | some i => some i
    | none => if p n = true then some n else none
theorem fstN_none {p : Nat → Bool} : ∀ {n : Nat}, fstN p n = none ↔ ∀ k, k < n → p k = false
  | 0 => by simp [fstN]
  | n + 1 => by
    have ih := fstN_none (p := p) (n := n)
    constructor
    · intro h k hk
      simp only [fstN] at h
      split at h
      · cases h
      · rename_i h0
        split at h
        · cases h
        · rename_i h1
          rcases Nat.lt_or_ge k n with q | q
          · exact ih.mp h0 k q
          · rw [show k = n by omega]; simpa using h1
    · intro h
      have h0 := ih.mpr (fun k hk => h k (by omega))
      have h1 := h n (by omega)
      simp [fstN, h0, h1]
theorem fstN_some {p : Nat → Bool} : ∀ {n i : Nat}, fstN p n = some i ↔ i < n ∧ p i = true ∧ ∀ k, k < i → p k = false
  | 0, i => by simp [fstN]
  | n + 1, i => by
    have ih := fun j => fstN_some (p := p) (n := n) (i := j)
    constructor
    · intro h
      simp only [fstN] at h
      split at h
      · rename_i j h0
        cases h
        obtain ⟨a, b, c⟩ := (ih i).mp h0
        exact ⟨by omega, b, c⟩
      · rename_i h0
        split at h
        · rename_i h1
          cases h
          exact ⟨by omega, h1, fun k hk => fstN_none.mp h0 k hk⟩
        · cases h
    · rintro ⟨h1, h2, h3⟩
      rcases Nat.lt_or_ge i n with q | q
      · have h0 := (ih i).mpr ⟨q, h2, h3⟩
        simp [fstN, h0]
      · have e : i = n := by omega
        subst e
        have h0 := fstN_none.mpr h3
        simp [fstN, h0, h2]
theorem fstN_lt {p : Nat → Bool} {n i : Nat} (h : fstN p n = some i) : i < n := (fstN_some.mp h).1
/-- a number of the machine that is a place below n -/
def inR (x : Int32) (n : Nat) : Option Nat := if x < 0 then none else if nI n ≤ x then none else some x.toNatClampNeg
theorem inR_neg {x : Int32} {n : Nat} (h : x < 0) : inR x n = none := by simp [inR, h]
theorem inR_big {x : Int32} {n : Nat} (h : nI n ≤ x) : inR x n = none := by unfold inR; split <;> simp [h]
theorem inR_nI {j n : Nat} (h : j < n) (hn : n < 2 ^ 31) : inR (nI j) n = some j := by
  unfold inR
  rw [if_neg (nI_pos (by omega)), if_neg (nI_ge h hn), nI_clamp (by omega)]
theorem inR_some {x : Int32} {n j : Nat} (hn : n < 2 ^ 31) (h : inR x n = some j) : j < n ∧ x = nI j := by
  rcases pk_ix x hn with q | q | ⟨i, hi, rfl⟩
  · rw [inR_neg q] at h; cases h
  · rw [inR_big q] at h; cases h
  · rw [inR_nI hi hn] at h; cases h; exact ⟨hi, rfl⟩
theorem inR_none {x : Int32} {n : Nat} (hn : n < 2 ^ 31) (h : inR x n = none) : x < 0 ∨ nI n ≤ x := by
  rcases pk_ix x hn with q | q | ⟨i, hi, rfl⟩
  · exact Or.inl q
  · exact Or.inr q
  · rw [inR_nI hi hn] at h; cases h
/-- the cell of a row and a column -/
def cellV (x y : Int32) : Option Nat := match inR x 6, inR y 6 with
  | some i, some j => some (i * 6 + j)
  | _, _ => none
theorem cellV_lt {x y : Int32} {k : Nat} (h : cellV x y = some k) : k < 36 := by
  unfold cellV at h
  split at h
  · rename_i i j h1 h2
    have a := (inR_some (by decide) h1).1
    have b := (inR_some (by decide) h2).1
    cases h; omega
  · cases h
theorem cellV_nI {i j : Nat} (hi : i < 6) (hj : j < 6) : cellV (nI i) (nI j) = some (i * 6 + j) := by
  simp [cellV, inR_nI hi (by decide), inR_nI hj (by decide)]
/-- the neighbour of a cell in a direction -/
def nb (c d : Nat) : Option Nat := match d with
  | 0 => if 6 ≤ c then some (c - 6) else none
  | 1 => if c % 6 < 5 then some (c + 1) else none
  | 2 => if c + 6 < 36 then some (c + 6) else none
  | _ => if 0 < c % 6 then some (c - 1) else none
theorem nb_lt {c d k : Nat} (hc : c < 36) (h : nb c d = some k) : k < 36 := by
  unfold nb at h
  split at h <;> split at h <;> first | (cases h; omega) | cases h
theorem nb_0 : ∀ c, c < 36 → cellV (nI (c / 6) - nI 1) (nI (c % 6)) = nb c 0 := by decide +kernel
theorem nb_1 : ∀ c, c < 36 → cellV (nI (c / 6)) (nI (c % 6 + 1)) = nb c 1 := by decide +kernel
theorem nb_2 : ∀ c, c < 36 → cellV (nI (c / 6 + 1)) (nI (c % 6)) = nb c 2 := by decide +kernel
theorem nb_3 : ∀ c, c < 36 → cellV (nI (c / 6)) (nI (c % 6) - nI 1) = nb c 3 := by decide +kernel
/-- the lowest cell of a cell and its neighbours in the directions below d -/
def lowN (ht : Nat → Nat) (c : Nat) : Nat → Nat
  | 0 => c
  | d + 1 => match nb c d with
    | some k => if ht k < ht (lowN ht c d) then k else lowN ht c d
    | none => lowN ht c d
theorem lowN_lt {ht : Nat → Nat} {c : Nat} (hc : c < 36) : ∀ d, lowN ht c d < 36
  | 0 => hc
  | d + 1 => by
    have h := lowN_lt (ht := ht) hc d
    simp only [lowN]
    split
    · rename_i k hk
      have := nb_lt hc hk
      split <;> assumption
    · exact h
def flow (ht wr : Nat → Nat) (c : Nat) : Option Nat := if 3 ≤ wr c then none else if lowN ht c 4 = c then none else some (lowN ht c 4)
theorem flow_lt {ht wr : Nat → Nat} {c k : Nat} (hc : c < 36) (h : flow ht wr c = some k) : k < 36 := by
  unfold flow at h
  split at h
  · cases h
  · split at h
    · cases h
    · cases h; exact lowN_lt hc 4
def endN (ht wr : Nat → Nat) : Nat → Nat → Nat
  | 0, c => c
  | n + 1, c => match flow ht wr c with
    | none => c
    | some k => endN ht wr n k
theorem endN_lt {ht wr : Nat → Nat} : ∀ {n c : Nat}, c < 36 → endN ht wr n c < 36
  | 0, _, h => h
  | n + 1, c, h => by
    simp only [endN]
    split
    · exact h
    · rename_i k hk; exact endN_lt (flow_lt h hk)
def dif (a b : Nat) : Nat := if a ≤ b then b - a else a - b
theorem dif_abs {a b : Nat} (ha : a < 2 ^ 30) (hb : b < 2 ^ 30) : (if 0 ≤ nI a - nI b then nI a - nI b else 0 - (nI a - nI b)) = nI (dif a b) := by
  unfold dif
  by_cases h : b ≤ a
  · rw [pk_sub h, if_pos (nI_pos' (by omega))]
    by_cases h2 : a ≤ b
    · have e : a = b := by omega
      subst e; simp
    · rw [if_neg h2]
  · have hn : ¬ (0 ≤ nI a - nI b) := fun q => by
      have h1 := pk_sneg (a := a) (b := b) hb (by omega)
      have h2 := Int32.lt_iff_toInt_lt.mp h1
      have h3 := Int32.le_iff_toInt_le.mp q
      omega
    rw [if_neg hn, if_pos (show a ≤ b by omega), ← pk_sub (show a ≤ b by omega)]
    apply Int32.toBitVec_inj.mp
    rw [Int32.toBitVec_sub, Int32.toBitVec_sub, Int32.toBitVec_sub, Int32.toBitVec_zero, BitVec.zero_sub, BitVec.neg_sub, BitVec.add_comm, ← BitVec.sub_eq_add_neg]
/-- draping: the sum and the parts over the directions below d -/
def drs (ht : Nat → Nat) (c : Nat) : Nat → Nat
  | 0 => 2 * ht c
  | d + 1 => match nb c d with
    | some k => drs ht c d + ht k
    | none => drs ht c d
def drp (c : Nat) : Nat → Nat
  | 0 => 2
  | d + 1 => match nb c d with
    | some _ => drp c d + 1
    | none => drp c d
theorem drp_b (c : Nat) : ∀ d, 2 ≤ drp c d ∧ drp c d ≤ 2 + d
  | 0 => by simp [drp]
  | d + 1 => by have h := drp_b c d; simp only [drp]; split <;> omega
theorem drs_b {ht : Nat → Nat} {c : Nat} (hc : c < 36) (hh : ∀ k, k < 36 → ht k ≤ 99) : ∀ d, drs ht c d ≤ 99 * drp c d
  | 0 => by have := hh c hc; simp only [drs, drp]; omega
  | d + 1 => by
    have h := drs_b hc hh d
    simp only [drs, drp]
    split
    · rename_i k hk
      have := hh k (nb_lt hc hk)
      omega
    · exact h
def drH (ht : Nat → Nat) (c : Nat) : Nat := drs ht c 4 / drp c 4
theorem drH_le {ht : Nat → Nat} {c : Nat} (hc : c < 36) (hh : ∀ k, k < 36 → ht k ≤ 99) : drH ht c ≤ 99 := by
  have h1 := drs_b hc hh 4
  have h2 := drp_b c 4
  unfold drH
  exact Nat.div_le_of_le_mul (by rw [Nat.mul_comm]; exact h1)
/-- the first n from f, the rest from g -/
def fil (n : Nat) (f g : Nat → Nat) : Nat → Nat := fun j => if j < n then f j else g j
theorem fil_0 (f g : Nat → Nat) : fil 0 f g = g := by funext j; simp [fil]
theorem fil_in {n j : Nat} {f g : Nat → Nat} (h : j < n) : fil n f g j = f j := by simp [fil, h]
theorem fil_out {n j : Nat} {f g : Nat → Nat} (h : n ≤ j) : fil n f g j = g j := by simp [fil, Nat.not_lt.mpr h]
theorem fil_up (n : Nat) (f g : Nat → Nat) : va_up (fil n f g) n (f n) = fil (n + 1) f g := by
  funext j
  by_cases h : j = n
  · subst h; rw [va_up_self, fil_in (by omega)]
  · rw [va_up_ne _ _ h]
    rcases Nat.lt_or_ge j n with q | q
    · rw [fil_in q, fil_in (by omega)]
    · rw [fil_out q, fil_out (by omega)]
def drA (ht pg : Nat → Nat) (k : Nat) : Nat := if pg k = 0 then drH ht k else ht k
/-- a moth's flight: the best neighbour in the directions below d -/
def fly (ht wr mo : Nat → Nat) (mc c : Nat) : Nat → Option Nat
  | 0 => none
  | d + 1 => match nb c d with
    | none => fly ht wr mo mc c d
    | some k => if 3 ≤ wr k then fly ht wr mo mc c d else match fstN (fun j => mo j == k) mc with
      | some _ => fly ht wr mo mc c d
      | none => match fly ht wr mo mc c d with
        | none => some k
        | some b => if ht b < ht k then some k else some b
theorem fly_lt {ht wr mo : Nat → Nat} {mc c : Nat} (hc : c < 36) : ∀ {d k : Nat}, fly ht wr mo mc c d = some k → k < 36
  | 0, _, h => by simp [fly] at h
  | d + 1, k, h => by
    have ih := fun x => fly_lt (ht := ht) (wr := wr) (mo := mo) (mc := mc) hc (d := d) (k := x)
    simp only [fly] at h
    split at h
    · exact ih k h
    · rename_i j hj
      have hj2 := nb_lt hc hj
      split at h
      · exact ih k h
      · split at h
        · exact ih k h
        · split at h
          · cases h; exact hj2
          · rename_i b hb
            split at h
            · cases h; exact hj2
            · cases h; exact ih _ hb
def flyE (ht wr mo : Nat → Nat) (mc c : Nat) : Nat := (fly ht wr mo mc c 4).getD c
/-- a night: the moths below n have flown: their places, the wear, the new holes -/
def night (ht wr mo : Nat → Nat) (mc : Nat) : Nat → (Nat → Nat) × (Nat → Nat) × Nat
  | 0 => (mo, wr, 0)
  | n + 1 =>
    let s := night ht wr mo mc n
    let to := flyE ht s.2.1 s.1 mc (s.1 n)
    (va_up s.1 n to, if 3 ≤ s.2.1 to then s.2.1 else va_up s.2.1 to (s.2.1 to + 1), s.2.2 + (if s.2.1 to = 2 then 1 else 0))
/-- water that settles: the cells below n have let theirs flow -/
def stl (ht wr wt : Nat → Nat) (dn : Nat) : Nat → (Nat → Nat) × Nat × Nat
  | 0 => (wt, dn, 0)
  | n + 1 =>
    let s := stl ht wr wt dn n
    let en := endN ht wr 36 n
    (if 3 ≤ wr en then va_up s.1 n 0 else va_up (va_up s.1 n 0) en (va_up s.1 n 0 en + s.1 n), if 3 ≤ wr en then s.2.1 + s.1 n else s.2.1, s.2.2 + (if 3 ≤ wr en then s.1 n else 0))
/-- a moth goes: the later ones move up -/
def shf (mo : Nat → Nat) (m n : Nat) : Nat → Nat := fun j => if m ≤ j ∧ j < n then mo (j + 1) else mo j
theorem shf_0 (mo : Nat → Nat) (m : Nat) : shf mo m m = mo := by
  funext j; unfold shf; rw [if_neg (by omega)]
theorem shf_up (mo : Nat → Nat) {m n : Nat} (h : m ≤ n) : va_up (shf mo m n) n (mo (n + 1)) = shf mo m (n + 1) := by
  funext j
  by_cases q : j = n
  · subst q; rw [va_up_self]; unfold shf; rw [if_pos (by omega)]
  · rw [va_up_ne _ _ q]; unfold shf
    by_cases r : m ≤ j ∧ j < n
    · rw [if_pos r, if_pos (by omega)]
    · rw [if_neg r, if_neg (by omega)]
theorem flyE_lt {ht wr mo : Nat → Nat} {mc c : Nat} (hc : c < 36) : flyE ht wr mo mc c < 36 := by
  unfold flyE
  cases h : fly ht wr mo mc c 4 with
  | none => exact hc
  | some k => exact fly_lt hc h
theorem night_ok {ht wr mo : Nat → Nat} {mc : Nat} (hwr : ∀ k, k < 36 → wr k ≤ 3) (hmo : ∀ k, k < mc → mo k < 36) : ∀ n, n ≤ mc → (∀ k, k < 36 → (night ht wr mo mc n).2.1 k ≤ 3) ∧ ∀ k, k < mc → (night ht wr mo mc n).1 k < 36
  | 0, _ => ⟨hwr, hmo⟩
  | n + 1, h => by
    obtain ⟨h1, h2⟩ := night_ok (ht := ht) hwr hmo n (by omega)
    have hto := flyE_lt (ht := ht) (wr := (night ht wr mo mc n).2.1) (mo := (night ht wr mo mc n).1) (mc := mc) (h2 n (by omega))
    refine ⟨fun k hk => ?_, fun k hk => ?_⟩
    · simp only [night]
      split
      · exact h1 k hk
      · rename_i q
        by_cases r : k = flyE ht (night ht wr mo mc n).2.1 (night ht wr mo mc n).1 mc ((night ht wr mo mc n).1 n)
        · rw [r, va_up_self]; omega
        · rw [va_up_ne _ _ r]; exact h1 k hk
    · simp only [night]
      by_cases r : k = n
      · rw [r, va_up_self]; exact hto
      · rw [va_up_ne _ _ r]; exact h2 k hk
