/-! THE START: the classes, the arrays -/
theorem gK_cls {s : State} {args : Array Value} (hts : ∀ w ∈ lw_all, w.before args s = true) : ∃ D : va_G, ∀ (c : Nat) (q : vw_C), vwCl[c]? = some q → u_Kn s q.1 q.2.1 q.2.2 (D.1 c) (D.2 c) := by
  have h : ∀ c : Nat, ∃ z : ClassId × (Nat → Nat), ∀ q : vw_C, vwCl[c]? = some q → u_Kn s q.1 q.2.1 q.2.2 z.1 z.2 := by
    intro c
    match c with
    | 0 =>
      obtain ⟨cC, iS, h⟩ := u_known (C := RJ0) (T := TJ0) (N := 4) (n := 4) hts (by decide +kernel) (hts _ (show Cond.instantiable RJ0 4 ∈ lw_all from lw_q 1585 (by decide +kernel) rfl))
      exact ⟨(cC, iS), fun q hq => by have e := Option.some.inj hq; subst e; exact h⟩
    | 1 =>
      obtain ⟨cC, iS, h⟩ := u_known (C := RJ4) (T := TJ4) (N := 4) (n := 4) hts (by decide +kernel) (hts _ (show Cond.instantiable RJ4 4 ∈ lw_all from lw_q 370 (by decide +kernel) rfl))
      exact ⟨(cC, iS), fun q hq => by have e := Option.some.inj hq; subst e; exact h⟩
    | 2 =>
      obtain ⟨cC, iS, h⟩ := u_known (C := RJx00060) (T := TJx00060) (N := 6) (n := 6) hts (by decide +kernel) (hts _ (show Cond.instantiable RJx00060 6 ∈ lw_all from lw_q 1666 (by decide +kernel) rfl))
      exact ⟨(cC, iS), fun q hq => by have e := Option.some.inj hq; subst e; exact h⟩
    | 3 =>
      obtain ⟨cC, iS, h⟩ := u_known (C := RJx7c733) (T := TJx7c733) (N := 6) (n := 6) hts (by decide +kernel) (hts _ (show Cond.instantiable RJx7c733 6 ∈ lw_all from lw_q 1462 (by decide +kernel) rfl))
      exact ⟨(cC, iS), fun q hq => by have e := Option.some.inj hq; subst e; exact h⟩
    | 4 =>
      obtain ⟨cC, iS, h⟩ := u_known (C := RJx4a65c) (T := TJx4a65c) (N := 3) (n := 3) hts (by decide +kernel) (hts _ (show Cond.instantiable RJx4a65c 3 ∈ lw_all from lw_q 319 (by decide +kernel) rfl))
      exact ⟨(cC, iS), fun q hq => by have e := Option.some.inj hq; subst e; exact h⟩
    | 5 =>
      obtain ⟨cC, iS, h⟩ := u_known (C := RX1) (T := TX1) (N := 2) (n := 2) hts (by decide +kernel) (hts _ (show Cond.instantiable RX1 2 ∈ lw_all from lw_q 262 (by decide +kernel) rfl))
      exact ⟨(cC, iS), fun q hq => by have e := Option.some.inj hq; subst e; exact h⟩
    | 6 =>
      obtain ⟨cC, iS, h⟩ := u_known (C := RX2) (T := TX2) (N := 3) (n := 3) hts (by decide +kernel) (hts _ (show Cond.instantiable RX2 3 ∈ lw_all from lw_q 453 (by decide +kernel) rfl))
      exact ⟨(cC, iS), fun q hq => by have e := Option.some.inj hq; subst e; exact h⟩
    | 7 =>
      obtain ⟨cC, iS, h⟩ := u_known (C := RX3) (T := TX3) (N := 4) (n := 4) hts (by decide +kernel) (hts _ (show Cond.instantiable RX3 4 ∈ lw_all from lw_q 211 (by decide +kernel) rfl))
      exact ⟨(cC, iS), fun q hq => by have e := Option.some.inj hq; subst e; exact h⟩
    | 8 =>
      obtain ⟨cC, iS, h⟩ := u_known (C := RX4) (T := TX4) (N := 3) (n := 3) hts (by decide +kernel) (hts _ (show Cond.instantiable RX4 3 ∈ lw_all from lw_q 185 (by decide +kernel) rfl))
      exact ⟨(cC, iS), fun q hq => by have e := Option.some.inj hq; subst e; exact h⟩
    | 9 =>
      obtain ⟨cC, iS, h⟩ := u_known (C := RX5) (T := TX5) (N := 4) (n := 4) hts (by decide +kernel) (hts _ (show Cond.instantiable RX5 4 ∈ lw_all from lw_q 205 (by decide +kernel) rfl))
      exact ⟨(cC, iS), fun q hq => by have e := Option.some.inj hq; subst e; exact h⟩
    | 10 =>
      obtain ⟨cC, iS, h⟩ := u_known (C := RX6) (T := TX6) (N := 6) (n := 6) hts (by decide +kernel) (hts _ (show Cond.instantiable RX6 6 ∈ lw_all from lw_q 282 (by decide +kernel) rfl))
      exact ⟨(cC, iS), fun q hq => by have e := Option.some.inj hq; subst e; exact h⟩
    | 11 =>
      obtain ⟨cC, iS, h⟩ := u_known (C := RX7) (T := TX7) (N := 10) (n := 10) hts (by decide +kernel) (hts _ (show Cond.instantiable RX7 10 ∈ lw_all from lw_q 132 (by decide +kernel) rfl))
      exact ⟨(cC, iS), fun q hq => by have e := Option.some.inj hq; subst e; exact h⟩
    | 12 =>
      obtain ⟨cC, iS, h⟩ := u_known (C := RX8) (T := TX8) (N := 2) (n := 2) hts (by decide +kernel) (hts _ (show Cond.instantiable RX8 2 ∈ lw_all from lw_q 256 (by decide +kernel) rfl))
      exact ⟨(cC, iS), fun q hq => by have e := Option.some.inj hq; subst e; exact h⟩
    | 13 =>
      obtain ⟨cC, iS, h⟩ := u_known (C := RX9) (T := TX9) (N := 7) (n := 7) hts (by decide +kernel) (hts _ (show Cond.instantiable RX9 7 ∈ lw_all from lw_q 313 (by decide +kernel) rfl))
      exact ⟨(cC, iS), fun q hq => by have e := Option.some.inj hq; subst e; exact h⟩
    | 14 =>
      obtain ⟨cC, iS, h⟩ := u_known (C := RX10) (T := TX10) (N := 1) (n := 1) hts (by decide +kernel) (hts _ (show Cond.instantiable RX10 1 ∈ lw_all from lw_q 233 (by decide +kernel) rfl))
      exact ⟨(cC, iS), fun q hq => by have e := Option.some.inj hq; subst e; exact h⟩
    | 15 =>
      obtain ⟨cC, iS, h⟩ := u_known (C := RX12) (T := TX12) (N := 15) (n := 15) hts (by decide +kernel) (hts _ (show Cond.instantiable RX12 15 ∈ lw_all from lw_q 124 (by decide +kernel) rfl))
      exact ⟨(cC, iS), fun q hq => by have e := Option.some.inj hq; subst e; exact h⟩
    | 16 =>
      obtain ⟨cC, iS, h⟩ := u_known (C := RX13) (T := TX13) (N := 24) (n := 24) hts (by decide +kernel) (hts _ (show Cond.instantiable RX13 24 ∈ lw_all from lw_q 1782 (by decide +kernel) rfl))
      exact ⟨(cC, iS), fun q hq => by have e := Option.some.inj hq; subst e; exact h⟩
    | k + 17 => exact ⟨(0, fun _ => 0), fun q hq => by simp [vwCl] at hq⟩
  exact ⟨(fun c => (Classical.choose (h c)).1, fun c => (Classical.choose (h c)).2), fun c q hq => Classical.choose_spec (h c) q hq⟩
