theorem iuG_z (ht rk : Nat → Nat) (lv q : Nat) (s : (Nat → Nat) × (Nat → Nat) × Int32) : iuG ht rk lv 0 q s = s := rfl
theorem iuG_s (ht rk : Nat → Nat) (lv n q : Nat) (s : (Nat → Nat) × (Nat → Nat) × Int32) : iuG ht rk lv (n + 1) q s = if ht (rk q) < lv then s else iuG ht rk lv n (q + 1) (va_up s.1 (rk q) 1, (rsD (va_up s.1 (rk q) 1) (rk q) s.2.1 4).1, s.2.2 + (nI 1 - nI (rsD (va_up s.1 (rk q) 1) (rk q) s.2.1 4).2)) := rfl
theorem bfsG_tm (ok : Nat → Nat → Bool) : ∀ {n : Nat} {s : T3 × Nat}, s.2 ≤ s.1.2.2 → (bfsG ok n s).2 ≤ (bfsG ok n s).1.2.2
  | 0, _, h => h
  | n + 1, s, h => by
    rw [bfsG_s]
    split
    · rename_i q
      exact bfsG_tm ok (flD_ge 4 s.2 q)
    · exact h
theorem ifN_tm {ht : Nat → Nat} {lv : Nat} {s : T3 × Nat} (h : s.2 ≤ s.1.2.2) : ∀ n, (ifN ht lv s n).1.2 ≤ (ifN ht lv s n).1.1.2.2
  | 0 => h
  | n + 1 => by
    have ih := ifN_tm (ht := ht) (lv := lv) h n
    simp only [ifN]
    split
    · exact ih
    · split
      · exact bfsG_tm _ (Nat.le_trans ih (flR_ge _ _))
      · exact ih
