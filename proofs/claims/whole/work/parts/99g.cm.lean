/-! WHY A COMMAND IS REFUSED -/
theorem cmR_n2 {ht pg wr mo : Nat → Nat} {mc vb : Nat} {o : Option Nat} {v : Int32} (h0 : vb ≠ 0) (h4 : vb ≠ 4) : cmR ht pg wr mo mc vb o v ≠ -2 := by
  have a1 : (-1 : Int32) ≠ -2 := by decide +kernel
  have a0 : (nI 0 : Int32) ≠ -2 := by decide +kernel
  have an : ∀ n, n < 7 → nI n ≠ -2 := nI_7m2
  match vb, h0, h4 with
  | 0, h, _ => exact absurd rfl h
  | 1, _, _ =>
    show rfP pg o 1 ≠ -2
    unfold rfP; split
    · exact a1
    · split
      · exact an _ (by decide)
      · exact an _ (by decide)
  | 2, _, _ =>
    show rfP pg o 0 ≠ -2
    unfold rfP; split
    · exact a1
    · split
      · exact an _ (by decide)
      · exact an _ (by decide)
  | 3, _, _ => exact a0
  | 4, _, h => exact absurd rfl h
  | 5, _, _ => exact a0
  | 6, _, _ =>
    show rfM wr mo mc o ≠ -2
    unfold rfM
    repeat' split
    all_goals first | exact a1 | exact an _ (by decide)
  | 7, _, _ =>
    show (if (inR v mc).isSome = true then nI 0 else -1) ≠ -2
    split
    · exact a0
    · exact a1
  | 8, _, _ => exact a0
  | 9, _, _ =>
    show rfC wr mo mc o ≠ -2
    unfold rfC
    repeat' split
    all_goals first | exact a1 | exact an _ (by decide)
  | n + 10, _, _ => exact a0
theorem cmR_nU {ht pg wr mo : Nat → Nat} {mc vb : Nat} {o : Option Nat} {v : Int32} (h : vb = 4 ∨ vb = 7 ∨ vb = 3 ∨ vb = 5 ∨ vb = 8) {n : Nat} (hn0 : 0 < n) (hn : n < 7) : cmR ht pg wr mo mc vb o v ≠ nI n := by
  have a1 : (-1 : Int32) ≠ nI n := fun e => nI_7m1 n hn e.symm
  have a2 : (-2 : Int32) ≠ nI n := fun e => nI_7m2 n hn e.symm
  have a0 : nI 0 ≠ nI n := fun e => by have := nI_7 0 (by decide) n hn e; omega
  rcases h with rfl | rfl | rfl | rfl | rfl
  · show rfU o v ≠ nI n
    unfold rfU
    repeat' split
    all_goals first | exact a1 | exact a2 | exact a0
  · show (if (inR v mc).isSome = true then nI 0 else -1) ≠ nI n
    split
    · exact a0
    · exact a1
  · exact a0
  · exact a0
  · exact a0
theorem den_new {z n : Nat} {x y : Int32} (h0 : 0 < z) (h7 : z < 7) (hn : n = z) (hx : y = x) : denR z x 0 (some n) y none := by
  subst hn
  exact ⟨(if_neg (by omega)).symm, by omega, by decide, fun _ => hx, rfl⟩
