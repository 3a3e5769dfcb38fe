/-! levels and costs: what is improved by the way over a neighbour -/
abbrev cdT : Type := (Nat → Nat) → Nat → Nat → Option Nat
def cdS (ht : Nat → Nat) : cdT := fun lv k o => some (max (ht k) (lv o))
def cdR (ht wr : Nat → Nat) : cdT := fun lv k o => if 3 ≤ wr k then none else some (lv o + 1 + dif (ht k) (ht o))
def imB (cd : cdT) (lv : Nat → Nat) (k o : Nat) : Bool := match cd lv k o with
  | none => false
  | some v => decide (v < lv k)
def imL (cd : cdT) (lv : Nat → Nat) (k o : Nat) : Nat → Nat := match cd lv k o with
  | none => lv
  | some v => if v < lv k then va_up lv k v else lv
theorem imL_ok {cd : cdT} {lv : Nat → Nat} {k o B : Nat} (h : ∀ j, j < 36 → lv j ≤ B) (hk : k < 36) : ∀ j, j < 36 → imL cd lv k o j ≤ B := fun j hj => by
  cases hcd : cd lv k o with
  | none => simp only [imL, hcd]; exact h j hj
  | some v =>
    simp only [imL, hcd]
    by_cases hv : v < lv k
    · rw [if_pos hv]
      by_cases q : j = k
      · rw [q, va_up_self]; have := h k hk; omega
      · rw [va_up_ne _ _ q]; exact h j hj
    · rw [if_neg hv]; exact h j hj
theorem imB_y {cd : cdT} {lv : Nat → Nat} {k o v : Nat} (h : cd lv k o = some v) (hv : v < lv k) : imB cd lv k o = true ∧ imL cd lv k o = va_up lv k v := by
  simp [imB, imL, h, hv]
theorem imB_n {cd : cdT} {lv : Nat → Nat} {k o v : Nat} (h : cd lv k o = some v) (hv : ¬ v < lv k) : imB cd lv k o = false ∧ imL cd lv k o = lv := by
  simp [imB, imL, h, hv]
theorem imB_0 {cd : cdT} {lv : Nat → Nat} {k o : Nat} (h : cd lv k o = none) : imB cd lv k o = false ∧ imL cd lv k o = lv := by
  simp [imB, imL, h]
abbrev T4 : Type := (Nat → Nat) × (Nat → Nat) × (Nat → Nat)
/-- from a cell: the neighbours in the directions below d; those that are improved wait -/
def spD (cd : cdT) (c : Nat) (s : T4) : Nat → T4
  | 0 => s
  | d + 1 => match nb c d with
    | none => spD cd c s d
    | some k => if imB cd (spD cd c s d).1 k c = true then (imL cd (spD cd c s d).1 k c, va_up (spD cd c s d).2.1 k 1, va_up (spD cd c s d).2.2 k (imL cd (spD cd c s d).1 k c k)) else spD cd c s d
def t4Ok (B : Nat) (s : T4) : Prop := (∀ k, k < 36 → s.1 k ≤ B) ∧ (∀ k, k < 36 → s.2.1 k ≤ 1) ∧ ∀ k, k < 36 → s.2.2 k < 2 ^ 30
theorem spD_ok {cd : cdT} {c B : Nat} {s : T4} (hB : B < 2 ^ 30) (hc : c < 36) (h : t4Ok B s) : ∀ d, t4Ok B (spD cd c s d)
  | 0 => h
  | d + 1 => by
    have ih := spD_ok (cd := cd) hB hc h d
    simp only [spD]
    split
    · exact ih
    · rename_i k hk
      have hk36 := nb_lt hc hk
      split
      · have h1 := imL_ok (cd := cd) (o := c) ih.1 hk36
        refine ⟨h1, fun j hj => ?_, fun j hj => ?_⟩
        · show va_up _ k 1 j ≤ 1
          by_cases q : j = k
          · rw [q, va_up_self]; exact Nat.le_refl _
          · rw [va_up_ne _ _ q]; exact ih.2.1 j hj
        · show va_up _ k _ j < 2 ^ 30
          by_cases q : j = k
          · rw [q, va_up_self]; have := h1 k hk36; omega
          · rw [va_up_ne _ _ q]; exact ih.2.2 j hj
      · exact ih
/-- cells are taken from the queue, n times at most -/
def qG (cd : cdT) : Nat → T4 → T4
  | 0, s => s
  | n + 1, s => match qmin s.2.1 s.2.2 36 with
    | none => s
    | some c => qG cd n (spD cd c (s.1, va_up s.2.1 c 0, s.2.2) 4)
theorem qG_z (cd : cdT) (s : T4) : qG cd 0 s = s := rfl
theorem qG_s (cd : cdT) (n : Nat) (s : T4) : qG cd (n + 1) s = match qmin s.2.1 s.2.2 36 with
    | none => s
    | some c => qG cd n (spD cd c (s.1, va_up s.2.1 c 0, s.2.2) 4) := rfl
theorem t4_take {B c : Nat} {s : T4} (h : t4Ok B s) : t4Ok B (s.1, va_up s.2.1 c 0, s.2.2) := ⟨h.1, fun j hj => by
    show va_up s.2.1 c 0 j ≤ 1
    by_cases q : j = c
    · rw [q, va_up_self]; exact Nat.zero_le _
    · rw [va_up_ne _ _ q]; exact h.2.1 j hj, h.2.2⟩
theorem qG_ok {cd : cdT} {B : Nat} (hB : B < 2 ^ 30) : ∀ {n : Nat} {s : T4}, t4Ok B s → t4Ok B (qG cd n s)
  | 0, _, h => h
  | n + 1, s, h => by
    rw [qG_s]
    cases hq : qmin s.2.1 s.2.2 36 with
    | none => exact h
    | some c => exact qG_ok hB (spD_ok hB (qmin_lt hq) (t4_take h) 4)
/-- a round: the directions below d of a cell; the cells below n -/
def iaD (cd : cdT) (c : Nat) (s : (Nat → Nat) × Bool) : Nat → (Nat → Nat) × Bool
  | 0 => s
  | d + 1 => match nb c d with
    | none => iaD cd c s d
    | some k => (imL cd (iaD cd c s d).1 c k, imB cd (iaD cd c s d).1 c k || (iaD cd c s d).2)
theorem iaD_ok {cd : cdT} {c B : Nat} {s : (Nat → Nat) × Bool} (hc : c < 36) (h : ∀ k, k < 36 → s.1 k ≤ B) : ∀ d, ∀ k, k < 36 → (iaD cd c s d).1 k ≤ B
  | 0 => h
  | d + 1 => by
    have ih := iaD_ok (cd := cd) hc h d
    simp only [iaD]
    split
    · exact ih
    · exact imL_ok ih hc
def iaN (cd : cdT) (lv : Nat → Nat) : Nat → (Nat → Nat) × Bool
  | 0 => (lv, false)
  | n + 1 => iaD cd n (iaN cd lv n) 4
theorem iaN_ok {cd : cdT} {lv : Nat → Nat} {B : Nat} (h : ∀ k, k < 36 → lv k ≤ B) : ∀ {n : Nat}, n ≤ 36 → ∀ k, k < 36 → (iaN cd lv n).1 k ≤ B
  | 0, _ => h
  | n + 1, hn => iaD_ok (by omega) (iaN_ok h (by omega)) 4
/-- rounds, n at most, until one improves nothing -/
def rdG (cd : cdT) : Nat → (Nat → Nat) × Bool → (Nat → Nat) × Bool
  | 0, s => s
  | n + 1, s => if s.2 = true then rdG cd n (iaN cd s.1 36) else s
theorem rdG_z (cd : cdT) (s : (Nat → Nat) × Bool) : rdG cd 0 s = s := rfl
theorem rdG_s (cd : cdT) (n : Nat) (s : (Nat → Nat) × Bool) : rdG cd (n + 1) s = if s.2 = true then rdG cd n (iaN cd s.1 36) else s := rfl
theorem rdG_ok {cd : cdT} {B : Nat} : ∀ {n : Nat} {s : (Nat → Nat) × Bool}, (∀ k, k < 36 → s.1 k ≤ B) → ∀ k, k < 36 → (rdG cd n s).1 k ≤ B
  | 0, _, h => h
  | n + 1, s, h => by
    rw [rdG_s]
    split
    · exact rdG_ok (iaN_ok h (Nat.le_refl _))
    · exact h
/-- the exits of the sheet -/
def exL (ht wr : Nat → Nat) (k : Nat) : Nat := if (k / 6 = 0 ∨ k / 6 = 5 ∨ k % 6 = 0 ∨ k % 6 = 5) ∨ 3 ≤ wr k then ht k else 100
theorem exL_le {ht wr : Nat → Nat} (hht : ∀ k, k < 36 → ht k ≤ 99) (k : Nat) (hk : k < 36) : exL ht wr k ≤ 100 := by
  unfold exL; have := hht k hk; split <;> omega
/-- the exits below n wait -/
def exQ (lv wa ke : Nat → Nat) : Nat → (Nat → Nat) × (Nat → Nat)
  | 0 => (wa, ke)
  | n + 1 => if lv n = 100 then exQ lv wa ke n else (va_up (exQ lv wa ke n).1 n 1, va_up (exQ lv wa ke n).2 n (lv n))
theorem exQ_ok {lv wa ke : Nat → Nat} (hl : ∀ k, k < 36 → lv k ≤ 100) (hw : ∀ k, k < 36 → wa k ≤ 1) (hk : ∀ k, k < 36 → ke k < 2 ^ 30) : ∀ {n : Nat}, n ≤ 36 → (∀ k, k < 36 → (exQ lv wa ke n).1 k ≤ 1) ∧ ∀ k, k < 36 → (exQ lv wa ke n).2 k < 2 ^ 30
  | 0, _ => ⟨hw, hk⟩
  | n + 1, hn => by
    obtain ⟨h1, h2⟩ := exQ_ok hl hw hk (n := n) (by omega)
    simp only [exQ]
    split
    · exact ⟨h1, h2⟩
    · refine ⟨fun k hk => ?_, fun k hk => ?_⟩
      · show va_up _ n 1 k ≤ 1
        by_cases q : k = n
        · rw [q, va_up_self]; exact Nat.le_refl _
        · rw [va_up_ne _ _ q]; exact h1 k hk
      · show va_up _ n _ k < 2 ^ 30
        by_cases q : k = n
        · rw [q, va_up_self]; have := hl n (by omega); omega
        · rw [va_up_ne _ _ q]; exact h2 k hk
