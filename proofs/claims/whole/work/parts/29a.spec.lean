theorem imL_n {cd : cdT} {lv : Nat → Nat} {k o : Nat} (h : imB cd lv k o = false) : imL cd lv k o = lv := by
  cases hcd : cd lv k o with
  | none => exact (imB_0 hcd).2
  | some v =>
    by_cases hv : v < lv k
    · rw [(imB_y hcd hv).1] at h; cases h
    · exact (imB_n hcd hv).2
