theorem flR_ge (s : T3) (c : Nat) : s.2.2 ≤ (flR s c).2.2 := by
  unfold flR
  show s.2.2 ≤ ite _ _ _
  split <;> omega
theorem flD_le (ok : Nat → Nat → Bool) (c : Nat) (s : T3) : ∀ d, s.2.2 ≤ (flD ok c d s).2.2
  | 0 => Nat.le_refl _
  | d + 1 => by
    have ih := flD_le ok c s d
    simp only [flD]
    split
    · rename_i k hk
      split
      · exact Nat.le_trans ih (flR_ge _ _)
      · exact ih
    · exact ih
theorem flD_ge {ok : Nat → Nat → Bool} {c : Nat} {s : T3} (d t : Nat) (h : t < s.2.2) : t + 1 ≤ (flD ok c d s).2.2 := Nat.le_trans h (flD_le ok c s d)
theorem bfsG_z (ok : Nat → Nat → Bool) (s : T3 × Nat) : bfsG ok 0 s = s := rfl
theorem bfsG_s (ok : Nat → Nat → Bool) (n : Nat) (s : T3 × Nat) : bfsG ok (n + 1) s = if s.2 < s.1.2.2 then bfsG ok n (flD ok (s.1.2.1 s.2) 4 s.1, s.2 + 1) else s := rfl
