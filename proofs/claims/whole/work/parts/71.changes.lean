/-! THE MODEL'S CHANGES, over a sheet -/
theorem mRg.upH {g ht pg wt wr mo : Nat → Nat} {mc ni po dn : Nat} (h : mRg g ht pg wt wr mo mc ni po dn) {k u : Nat} (hk : k < 36) : mRg (va_up g (4 + k) u) (va_up ht k u) pg wt wr mo mc ni po dn := by
  obtain ⟨h1, h2, h3, h4, h5, h6, h7, h8, h9⟩ := h
  refine ⟨fun j hj => ?_, fun j hj => ?_, fun j hj => ?_, fun j hj => ?_, fun j hj => ?_, ?_, ?_, ?_, ?_⟩
  · by_cases q : j = k
    · subst q; rw [va_up_self, va_up_self]
    · rw [va_up_ne _ _ (by omega), va_up_ne _ _ q]; exact h1 j hj
  · rw [va_up_ne _ _ (by omega)]; exact h2 j hj
  · rw [va_up_ne _ _ (by omega)]; exact h3 j hj
  · rw [va_up_ne _ _ (by omega)]; exact h4 j hj
  · rw [va_up_ne _ _ (by omega)]; exact h5 j hj
  · rw [va_up_ne _ _ (by omega)]; exact h6
  · rw [va_up_ne _ _ (by omega)]; exact h7
  · rw [va_up_ne _ _ (by omega)]; exact h8
  · rw [va_up_ne _ _ (by omega)]; exact h9
theorem mRg.upW {g ht pg wt wr mo : Nat → Nat} {mc ni po dn : Nat} (h : mRg g ht pg wt wr mo mc ni po dn) {k u : Nat} (hk : k < 36) : mRg (va_up g (40 + k) u) ht pg wt (va_up wr k u) mo mc ni po dn := by
  obtain ⟨h1, h2, h3, h4, h5, h6, h7, h8, h9⟩ := h
  refine ⟨fun j hj => ?_, fun j hj => ?_, fun j hj => ?_, fun j hj => ?_, fun j hj => ?_, ?_, ?_, ?_, ?_⟩
  · rw [va_up_ne _ _ (by omega)]; exact h1 j hj
  · by_cases q : j = k
    · subst q; rw [va_up_self, va_up_self]
    · rw [va_up_ne _ _ (by omega), va_up_ne _ _ q]; exact h2 j hj
  · rw [va_up_ne _ _ (by omega)]; exact h3 j hj
  · rw [va_up_ne _ _ (by omega)]; exact h4 j hj
  · rw [va_up_ne _ _ (by omega)]; exact h5 j hj
  · rw [va_up_ne _ _ (by omega)]; exact h6
  · rw [va_up_ne _ _ (by omega)]; exact h7
  · rw [va_up_ne _ _ (by omega)]; exact h8
  · rw [va_up_ne _ _ (by omega)]; exact h9
theorem mRg.upP {g ht pg wt wr mo : Nat → Nat} {mc ni po dn : Nat} (h : mRg g ht pg wt wr mo mc ni po dn) {k u : Nat} (hk : k < 36) : mRg (va_up g (76 + k) u) ht (va_up pg k u) wt wr mo mc ni po dn := by
  obtain ⟨h1, h2, h3, h4, h5, h6, h7, h8, h9⟩ := h
  refine ⟨fun j hj => ?_, fun j hj => ?_, fun j hj => ?_, fun j hj => ?_, fun j hj => ?_, ?_, ?_, ?_, ?_⟩
  · rw [va_up_ne _ _ (by omega)]; exact h1 j hj
  · rw [va_up_ne _ _ (by omega)]; exact h2 j hj
  · by_cases q : j = k
    · subst q; rw [va_up_self, va_up_self]
    · rw [va_up_ne _ _ (by omega), va_up_ne _ _ q]; exact h3 j hj
  · rw [va_up_ne _ _ (by omega)]; exact h4 j hj
  · rw [va_up_ne _ _ (by omega)]; exact h5 j hj
  · rw [va_up_ne _ _ (by omega)]; exact h6
  · rw [va_up_ne _ _ (by omega)]; exact h7
  · rw [va_up_ne _ _ (by omega)]; exact h8
  · rw [va_up_ne _ _ (by omega)]; exact h9
theorem mRg.upT {g ht pg wt wr mo : Nat → Nat} {mc ni po dn : Nat} (h : mRg g ht pg wt wr mo mc ni po dn) {k u : Nat} (hk : k < 36) : mRg (va_up g (112 + k) u) ht pg (va_up wt k u) wr mo mc ni po dn := by
  obtain ⟨h1, h2, h3, h4, h5, h6, h7, h8, h9⟩ := h
  refine ⟨fun j hj => ?_, fun j hj => ?_, fun j hj => ?_, fun j hj => ?_, fun j hj => ?_, ?_, ?_, ?_, ?_⟩
  · rw [va_up_ne _ _ (by omega)]; exact h1 j hj
  · rw [va_up_ne _ _ (by omega)]; exact h2 j hj
  · rw [va_up_ne _ _ (by omega)]; exact h3 j hj
  · by_cases q : j = k
    · subst q; rw [va_up_self, va_up_self]
    · rw [va_up_ne _ _ (by omega), va_up_ne _ _ q]; exact h4 j hj
  · rw [va_up_ne _ _ (by omega)]; exact h5 j hj
  · rw [va_up_ne _ _ (by omega)]; exact h6
  · rw [va_up_ne _ _ (by omega)]; exact h7
  · rw [va_up_ne _ _ (by omega)]; exact h8
  · rw [va_up_ne _ _ (by omega)]; exact h9
theorem mRg.upN {g ht pg wt wr mo : Nat → Nat} {mc ni po dn : Nat} (h : mRg g ht pg wt wr mo mc ni po dn) {u : Nat} : mRg (va_up g 0 u) ht pg wt wr mo mc u po dn := by
  obtain ⟨h1, h2, h3, h4, h5, h6, h7, h8, h9⟩ := h
  refine ⟨fun j hj => ?_, fun j hj => ?_, fun j hj => ?_, fun j hj => ?_, fun j hj => ?_, ?_, ?_, ?_, ?_⟩
  · rw [va_up_ne _ _ (by omega)]; exact h1 j hj
  · rw [va_up_ne _ _ (by omega)]; exact h2 j hj
  · rw [va_up_ne _ _ (by omega)]; exact h3 j hj
  · rw [va_up_ne _ _ (by omega)]; exact h4 j hj
  · rw [va_up_ne _ _ (by omega)]; exact h5 j hj
  · rw [va_up_ne _ _ (by omega)]; exact h6
  · rw [va_up_self]
  · rw [va_up_ne _ _ (by omega)]; exact h8
  · rw [va_up_ne _ _ (by omega)]; exact h9
theorem mRg.upO {g ht pg wt wr mo : Nat → Nat} {mc ni po dn : Nat} (h : mRg g ht pg wt wr mo mc ni po dn) {u : Nat} : mRg (va_up g 1 u) ht pg wt wr mo mc ni u dn := by
  obtain ⟨h1, h2, h3, h4, h5, h6, h7, h8, h9⟩ := h
  refine ⟨fun j hj => ?_, fun j hj => ?_, fun j hj => ?_, fun j hj => ?_, fun j hj => ?_, ?_, ?_, ?_, ?_⟩
  · rw [va_up_ne _ _ (by omega)]; exact h1 j hj
  · rw [va_up_ne _ _ (by omega)]; exact h2 j hj
  · rw [va_up_ne _ _ (by omega)]; exact h3 j hj
  · rw [va_up_ne _ _ (by omega)]; exact h4 j hj
  · rw [va_up_ne _ _ (by omega)]; exact h5 j hj
  · rw [va_up_ne _ _ (by omega)]; exact h6
  · rw [va_up_ne _ _ (by omega)]; exact h7
  · rw [va_up_self]
  · rw [va_up_ne _ _ (by omega)]; exact h9
theorem mRg.upD {g ht pg wt wr mo : Nat → Nat} {mc ni po dn : Nat} (h : mRg g ht pg wt wr mo mc ni po dn) {u : Nat} : mRg (va_up g 2 u) ht pg wt wr mo mc ni po u := by
  obtain ⟨h1, h2, h3, h4, h5, h6, h7, h8, h9⟩ := h
  refine ⟨fun j hj => ?_, fun j hj => ?_, fun j hj => ?_, fun j hj => ?_, fun j hj => ?_, ?_, ?_, ?_, ?_⟩
  · rw [va_up_ne _ _ (by omega)]; exact h1 j hj
  · rw [va_up_ne _ _ (by omega)]; exact h2 j hj
  · rw [va_up_ne _ _ (by omega)]; exact h3 j hj
  · rw [va_up_ne _ _ (by omega)]; exact h4 j hj
  · rw [va_up_ne _ _ (by omega)]; exact h5 j hj
  · rw [va_up_ne _ _ (by omega)]; exact h6
  · rw [va_up_ne _ _ (by omega)]; exact h7
  · rw [va_up_ne _ _ (by omega)]; exact h8
  · rw [va_up_self]
theorem mRg.upM {g ht pg wt wr mo : Nat → Nat} {mc ni po dn : Nat} (h : mRg g ht pg wt wr mo mc ni po dn) {k u : Nat} : mRg (va_up g (148 + k) u) ht pg wt wr (va_up mo k u) mc ni po dn := by
  obtain ⟨h1, h2, h3, h4, h5, h6, h7, h8, h9⟩ := h
  refine ⟨fun j hj => ?_, fun j hj => ?_, fun j hj => ?_, fun j hj => ?_, fun j hj => ?_, ?_, ?_, ?_, ?_⟩
  · rw [va_up_ne _ _ (by omega)]; exact h1 j hj
  · rw [va_up_ne _ _ (by omega)]; exact h2 j hj
  · rw [va_up_ne _ _ (by omega)]; exact h3 j hj
  · rw [va_up_ne _ _ (by omega)]; exact h4 j hj
  · by_cases q : j = k
    · subst q; rw [va_up_self, va_up_self]
    · rw [va_up_ne _ _ (by omega), va_up_ne _ _ q]; exact h5 j hj
  · rw [va_up_ne _ _ (by omega)]; exact h6
  · rw [va_up_ne _ _ (by omega)]; exact h7
  · rw [va_up_ne _ _ (by omega)]; exact h8
  · rw [va_up_ne _ _ (by omega)]; exact h9
theorem mRg.add {g ht pg wt wr mo : Nat → Nat} {mc ni po dn : Nat} (h : mRg g ht pg wt wr mo mc ni po dn) {k : Nat} : mRg (va_up (va_up g (148 + mc) k) 3 (mc + 1)) ht pg wt wr (va_up mo mc k) (mc + 1) ni po dn := by
  obtain ⟨h1, h2, h3, h4, h5, h6, h7, h8, h9⟩ := h
  refine ⟨fun j hj => ?_, fun j hj => ?_, fun j hj => ?_, fun j hj => ?_, fun j hj => ?_, va_up_self _ _ _, ?_, ?_, ?_⟩
  · rw [va_up_ne _ _ (by omega), va_up_ne _ _ (by omega)]; exact h1 j hj
  · rw [va_up_ne _ _ (by omega), va_up_ne _ _ (by omega)]; exact h2 j hj
  · rw [va_up_ne _ _ (by omega), va_up_ne _ _ (by omega)]; exact h3 j hj
  · rw [va_up_ne _ _ (by omega), va_up_ne _ _ (by omega)]; exact h4 j hj
  · rw [va_up_ne _ _ (by omega)]
    by_cases q : j = mc
    · subst q; rw [va_up_self, va_up_self]
    · rw [va_up_ne _ _ (by omega), va_up_ne _ _ q]; exact h5 j (by omega)
  · rw [va_up_ne _ _ (by omega), va_up_ne _ _ (by omega)]; exact h7
  · rw [va_up_ne _ _ (by omega), va_up_ne _ _ (by omega)]; exact h8
  · rw [va_up_ne _ _ (by omega), va_up_ne _ _ (by omega)]; exact h9
theorem mRg.less {g ht pg wt wr mo : Nat → Nat} {mc ni po dn : Nat} (h : mRg g ht pg wt wr mo mc ni po dn) : mRg (va_up g 3 (mc - 1)) ht pg wt wr mo (mc - 1) ni po dn := by
  obtain ⟨h1, h2, h3, h4, h5, h6, h7, h8, h9⟩ := h
  refine ⟨fun j hj => ?_, fun j hj => ?_, fun j hj => ?_, fun j hj => ?_, fun j hj => ?_, va_up_self _ _ _, ?_, ?_, ?_⟩
  · rw [va_up_ne _ _ (by omega)]; exact h1 j hj
  · rw [va_up_ne _ _ (by omega)]; exact h2 j hj
  · rw [va_up_ne _ _ (by omega)]; exact h3 j hj
  · rw [va_up_ne _ _ (by omega)]; exact h4 j hj
  · rw [va_up_ne _ _ (by omega)]; exact h5 j (by omega)
  · rw [va_up_ne _ _ (by omega)]; exact h7
  · rw [va_up_ne _ _ (by omega)]; exact h8
  · rw [va_up_ne _ _ (by omega)]; exact h9
theorem mRg.past {g ht pg wt wr mo : Nat → Nat} {mc ni po dn : Nat} (h : mRg g ht pg wt wr mo mc ni po dn) {u : Nat} : mRg (va_up g (148 + mc) u) ht pg wt wr mo mc ni po dn := by
  obtain ⟨h1, h2, h3, h4, h5, h6, h7, h8, h9⟩ := h
  refine ⟨fun j hj => ?_, fun j hj => ?_, fun j hj => ?_, fun j hj => ?_, fun j hj => ?_, ?_, ?_, ?_, ?_⟩
  · rw [va_up_ne _ _ (by omega)]; exact h1 j hj
  · rw [va_up_ne _ _ (by omega)]; exact h2 j hj
  · rw [va_up_ne _ _ (by omega)]; exact h3 j hj
  · rw [va_up_ne _ _ (by omega)]; exact h4 j hj
  · rw [va_up_ne _ _ (by omega)]; exact h5 j hj
  · rw [va_up_ne _ _ (by omega)]; exact h6
  · rw [va_up_ne _ _ (by omega)]; exact h7
  · rw [va_up_ne _ _ (by omega)]; exact h8
  · rw [va_up_ne _ _ (by omega)]; exact h9
theorem mRg.cg {g ht pg wt wr mo : Nat → Nat} {mc ni po dn : Nat} (h : mRg g ht pg wt wr mo mc ni po dn) {ht' pg' wt' wr' mo' : Nat → Nat} (e1 : ∀ k, k < 36 → ht k = ht' k) (e2 : ∀ k, k < 36 → pg k = pg' k) (e3 : ∀ k, k < 36 → wt k = wt' k) (e4 : ∀ k, k < 36 → wr k = wr' k) (e5 : ∀ k, k < mc → mo k = mo' k) : mRg g ht' pg' wt' wr' mo' mc ni po dn := by
  obtain ⟨h1, h2, h3, h4, h5, h6, h7, h8, h9⟩ := h
  exact ⟨fun j hj => (h1 j hj).trans (e1 j hj), fun j hj => (h2 j hj).trans (e4 j hj), fun j hj => (h3 j hj).trans (e2 j hj), fun j hj => (h4 j hj).trans (e3 j hj), fun j hj => (h5 j hj).trans (e5 j hj), h6, h7, h8, h9⟩
theorem in_U1 {v : Int32} (h : decide (nI 1 ≤ v ∧ v ≤ nI 99) = true) : ∃ u, 0 < u ∧ u < 100 ∧ v = nI u ∧ inR v 100 = some u := by
  obtain ⟨h1, h2⟩ := of_decide_eq_true h
  rcases pk_ix v (n := 100) (by decide) with q | q | ⟨i, hi, rfl⟩
  · exact absurd (Int32.lt_of_lt_of_le q (Int32.le_trans (show (0 : Int32) ≤ nI 1 by decide +kernel) h1)) (Int32.lt_irrefl)
  · exact absurd (Int32.le_trans q h2) (by decide +kernel)
  · exact ⟨i, by have := (nI_leI (by decide) (by omega)).mp h1; omega, hi, rfl, inR_nI hi (by decide)⟩
theorem in_U0 {v : Int32} {k : Nat} (h : decide (nI 1 ≤ v ∧ v ≤ nI 99) = false) : rfU (some k) v = -2 := by
  have h0 := of_decide_eq_false h
  rcases pk_ix v (n := 100) (by decide) with q | q | ⟨i, hi, rfl⟩
  · simp only [rfU, inR_neg q]
  · simp only [rfU, inR_big q]
  · simp only [rfU, inR_nI hi (show 100 < 2 ^ 31 by decide)]
    by_cases z : i = 0
    · rw [if_pos z]
    · exact absurd ⟨(nI_leI (by decide) (by omega)).mpr (by omega), (nI_leI (by omega) (by decide)).mpr (by omega)⟩ h0
theorem in_M {v : Int32} {mc : Nat} (hm : mc ≤ 4) : decide (nI 0 ≤ v ∧ v ≤ nI mc - nI 1) = (inR v mc).isSome := by
  cases mc with
  | zero =>
    have h : inR v 0 = none := by
      unfold inR
      by_cases q : v < 0
      · rw [if_pos q]
      · rw [if_neg q, if_pos (by rw [nI_0]; exact Int32.not_lt.mp q)]
    rw [h, decide_eq_false (fun z => absurd (Int32.le_trans z.1 z.2) (by decide +kernel))]; rfl
  | succ k => rw [show nI (k + 1) - nI 1 = nI k by rw [pk_sub (by omega)]; rfl]; exact in_inR (by omega)
theorem cmS_one {vb k u k2 u2 mc ni po dn : Nat} {o : Option Nat} {v : Int32} {ht dr pg wt wr mo : Nat → Nat} (hvb : vb < 10) (h : cmK vb o v k u mc) (h2 : cmK vb o v k2 u2 mc) : cmS vb k u ht dr pg wt wr mo mc ni po dn = cmS vb k2 u2 ht dr pg wt wr mo mc ni po dn := by
  obtain ⟨a1, a2, a3, a4, -, -⟩ := h
  obtain ⟨b1, b2, b3, b4, -, -⟩ := h2
  have ek : vb = 0 ∨ vb = 1 ∨ vb = 2 ∨ vb = 4 ∨ vb = 6 ∨ vb = 9 → k = k2 := fun q => Option.some.inj ((a3 q).symm.trans (b3 q))
  have eu : vb = 0 ∨ vb = 4 ∨ vb = 7 → u = u2 := fun q => (nI_eq a2 b2).mp ((a4 q).symm.trans (b4 q))
  rcases (show vb = 0 ∨ vb = 1 ∨ vb = 2 ∨ vb = 3 ∨ vb = 4 ∨ vb = 5 ∨ vb = 6 ∨ vb = 7 ∨ vb = 8 ∨ vb = 9 by omega) with rfl | rfl | rfl | rfl | rfl | rfl | rfl | rfl | rfl | rfl
  · rw [ek (by decide), eu (by decide)]
  · rw [ek (by decide)]; rfl
  · rw [ek (by decide)]; rfl
  · rfl
  · rw [ek (by decide), eu (by decide)]
  · rfl
  · rw [ek (by decide)]; rfl
  · rw [eu (by decide)]; rfl
  · rfl
  · rw [ek (by decide)]; rfl
/-- water that settles, as the model has it: each cell's own water comes to its end -/
def stM (ht wr wt : Nat → Nat) (dn : Nat) : Nat → (Nat → Nat) × Nat × Nat
  | 0 => (fun _ => 0, dn, 0)
  | n + 1 =>
    let s := stM ht wr wt dn n
    let en := endN ht wr 36 n
    (if 3 ≤ wr en then s.1 else va_up s.1 en (s.1 en + wt n), if 3 ≤ wr en then s.2.1 + wt n else s.2.1, s.2.2 + (if 3 ≤ wr en then wt n else 0))
theorem endN_self {ht wr : Nat → Nat} {c : Nat} (hc : c < 36) : endN ht wr 36 (endN ht wr 36 c) = endN ht wr 36 c := endN_stop (endN_end hc (Nat.le_of_lt (lowC_36 hc))) 36
theorem stM_out {ht wr wt : Nat → Nat} {dn j : Nat} : ∀ {n : Nat}, n ≤ 36 → j < 36 → (endN ht wr 36 j ≠ j ∨ 3 ≤ wr j) → (stM ht wr wt dn n).1 j = 0
  | 0, _, _, _ => rfl
  | n + 1, hn, hj, h => by
    have ih := stM_out (ht := ht) (wr := wr) (wt := wt) (dn := dn) (n := n) (by omega) hj h
    simp only [stM]
    split
    · exact ih
    · rename_i q
      rw [va_up_ne _ _ (fun z => by
        rcases h with h | h
        · apply h; rw [z]; exact endN_self (by omega)
        · rw [z] at h; exact q h)]
      exact ih
theorem stM_stl {ht wr wt : Nat → Nat} {dn : Nat} : ∀ {n : Nat}, n ≤ 36 → (∀ j, j < 36 → (stl ht wr wt dn n).1 j = (stM ht wr wt dn n).1 j + (if j < n then 0 else wt j)) ∧ (stl ht wr wt dn n).2.1 = (stM ht wr wt dn n).2.1 ∧ (stl ht wr wt dn n).2.2 = (stM ht wr wt dn n).2.2
  | 0, _ => ⟨fun j _ => by show wt j = 0 + (if j < 0 then 0 else wt j); rw [if_neg (by omega)]; omega, rfl, rfl⟩
  | n + 1, hn => by
    obtain ⟨h1, h2, h3⟩ := stM_stl (ht := ht) (wr := wr) (wt := wt) (dn := dn) (n := n) (by omega)
    have hn0 := h1 n (by omega)
    rw [if_neg (Nat.lt_irrefl n)] at hn0
    have hen := endN_lt (ht := ht) (wr := wr) (n := 36) (c := n) (by omega)
    by_cases hh : 3 ≤ wr (endN ht wr 36 n)
    · have hz : (stM ht wr wt dn n).1 n = 0 := stM_out (by omega) (by omega) (by
        by_cases q : endN ht wr 36 n = n
        · rw [q] at hh; exact Or.inr hh
        · exact Or.inl q)
      have hu : (stl ht wr wt dn n).1 n = wt n := by omega
      refine ⟨fun j hj => ?_, ?_, ?_⟩
      · show (if 3 ≤ wr (endN ht wr 36 n) then va_up (stl ht wr wt dn n).1 n 0 else _) j = (if 3 ≤ wr (endN ht wr 36 n) then (stM ht wr wt dn n).1 else _) j + _
        rw [if_pos hh, if_pos hh]
        by_cases q : j = n
        · subst q; rw [va_up_self, hz, if_pos (by omega)]
        · rw [va_up_ne _ _ q, h1 j hj]
          by_cases z : j < n
          · rw [if_pos z, if_pos (by omega)]
          · rw [if_neg z, if_neg (by omega)]
      · show (if 3 ≤ wr (endN ht wr 36 n) then _ else _) = (if 3 ≤ wr (endN ht wr 36 n) then _ else _)
        rw [if_pos hh, if_pos hh, h2, hu]
      · show _ + (if 3 ≤ wr (endN ht wr 36 n) then _ else _) = _ + (if 3 ≤ wr (endN ht wr 36 n) then _ else _)
        rw [if_pos hh, if_pos hh, h3, hu]
    · refine ⟨fun j hj => ?_, ?_, ?_⟩
      · show (if 3 ≤ wr (endN ht wr 36 n) then _ else va_up (va_up (stl ht wr wt dn n).1 n 0) (endN ht wr 36 n) (va_up (stl ht wr wt dn n).1 n 0 (endN ht wr 36 n) + (stl ht wr wt dn n).1 n)) j = (if 3 ≤ wr (endN ht wr 36 n) then _ else va_up (stM ht wr wt dn n).1 (endN ht wr 36 n) ((stM ht wr wt dn n).1 (endN ht wr 36 n) + wt n)) j + _
        rw [if_neg hh, if_neg hh]
        by_cases qe : endN ht wr 36 n = n
        · rw [qe]
          by_cases q : j = n
          · subst q; rw [va_up_self, va_up_self, va_up_self, if_pos (by omega), hn0]; omega
          · rw [va_up_ne _ _ q, va_up_ne _ _ q, va_up_ne _ _ q, h1 j hj]
            by_cases z : j < n
            · rw [if_pos z, if_pos (by omega)]
            · rw [if_neg z, if_neg (by omega)]
        · have hz : (stM ht wr wt dn n).1 n = 0 := stM_out (by omega) (by omega) (Or.inl qe)
          by_cases q : j = endN ht wr 36 n
          · rw [q, va_up_self, va_up_self, va_up_ne _ _ qe, h1 _ hen, hn0, hz]
            by_cases z : endN ht wr 36 n < n
            · rw [if_pos z, if_pos (by omega)]; omega
            · rw [if_neg z, if_neg (by omega)]; omega
          · rw [va_up_ne _ _ q, va_up_ne _ _ q]
            by_cases q2 : j = n
            · subst q2; rw [va_up_self, hz, if_pos (by omega)]
            · rw [va_up_ne _ _ q2, h1 j hj]
              by_cases z : j < n
              · rw [if_pos z, if_pos (by omega)]
              · rw [if_neg z, if_neg (by omega)]
      · show (if 3 ≤ wr (endN ht wr 36 n) then _ else _) = (if 3 ≤ wr (endN ht wr 36 n) then _ else _)
        rw [if_neg hh, if_neg hh, h2]
      · show _ + (if 3 ≤ wr (endN ht wr 36 n) then _ else _) = _ + (if 3 ≤ wr (endN ht wr 36 n) then _ else _)
        rw [if_neg hh, if_neg hh, h3]
theorem stM_36 {ht wr wt : Nat → Nat} {dn : Nat} : (∀ j, j < 36 → (stM ht wr wt dn 36).1 j = (stl ht wr wt dn 36).1 j) ∧ (stM ht wr wt dn 36).2.1 = (stl ht wr wt dn 36).2.1 ∧ (stM ht wr wt dn 36).2.2 = (stl ht wr wt dn 36).2.2 := by
  obtain ⟨h1, h2, h3⟩ := stM_stl (ht := ht) (wr := wr) (wt := wt) (dn := dn) (n := 36) (Nat.le_refl _)
  exact ⟨fun j hj => by rw [h1 j hj, if_pos hj]; rfl, h2.symm, h3.symm⟩
set_option maxHeartbeats 4000000 in
set_option maxRecDepth 100000 in
/-- the moth on a cell -/
theorem mX13_mothOn (l : Launch) {E : gE} {ad : Nat → Nat} {N : Nat} {w : Nat → va_E} (b : Nat) (g kp sv bf sd ip sg mk td lv tl : Nat → Nat) (qs qc qw qd co wy : Nat) (de : Int32) (ca ln : Nat) (fa : Option Nat) (sm pa tm : Nat) (ht dr pg wt wr mo : Nat → Nat) (mc ni po dn : Nat) (c : Nat) (hb_m : bkP N w b 12 (MDC E ad b g kp sv bf sd ip sg mk td lv tl qs qc qw qd co wy de ca ln fa sm pa tm)) (hc : c < 36) (hR : mRg g ht pg wt wr mo mc ni po dn) (hm : mc ≤ 4) (hmo : ∀ k, k < mc → mo k < 36) : gMi l yX13_mothOn (lw_ws yX13_mothOn cX13_mothOn 3 (some .int)) ({ frames := 0, cells := 0, slots := 0, locals := 0 } : Room) E ad N w [.ref (ad (b)), .int (nI (c))] (fun r w' => r = oI (fstN (fun j => mo j == c) mc) ∧ w' = w) 0 0 := by
  refine Met.ofW (cc := cX13_mothOn) (maxL := 3) (ret := (some .int)) (by decide) rfl ?_
  intro p e s m args below meth cd s₁ B hml hv
  obtain ⟨rfl, hI, hP⟩ := hv
  obtain ⟨S, hr, hlocks⟩ := gPre (ws := []) B hml (C := RX13) rfl
  have hx := S.1
  have hb := S.2.1
  have hS : va_S (gA E) s.heap s.heap [] := va_S.rf
  have hl := lv_entry ([.ref (ad (b)), .int (nI (c))]) (n := 3) (Nat.le_of_ble_eq_true rfl)
  rw [lg_entry_eq]
  generalize (lg_sl ([.ref (ad (b)), .int (nI (c))]) ++ List.replicate (3 - (lg_sl ([.ref (ad (b)), .int (nI (c))])).length) Slot.unset).toArray = ls at hl ⊢
  have hl : lv_has ls 3 [(0, .ref (ad (b))), (1, .int (nI (c)))] := hl
  obtain ⟨hgh, hgw, hgp, hgt, hgm, hg3, hg0, hg1, hg2⟩ := id hR
  refine g_iconst S 0 dX13_mothOn_0 (by decide +kernel) ?_
  refine lv_istore_n (lv' := [(2, .int (nI (0))), (0, .ref (ad (b))), (1, .int (nI (c)))]) hx hb dX13_mothOn_1 rfl hl (by decide) rfl (fun ls hl => ?_)
  have loop1 : ∀ (n : Nat) (i : Nat), mc - i < n → (i ≤ mc) → (∀ k, k < i → mo k ≠ c) → ∀ (ls : Array Slot), lv_has ls 3 [(2, .int (nI (i))), (0, .ref (ad (b))), (1, .int (nI (c)))] → W p l e (headSpec (lw_ws yX13_mothOn cX13_mothOn 3 (some .int)) ({ frames := 0, cells := 0, slots := 0, locals := 0 } : Room)).room s m ([.ref (ad (b)), .int (nI (c))] : List Value).toArray below meth cd s.heap [] 0 0 (MQ below (va_Qi (fun r w' => r = oI (fstN (fun j => mo j == c) mc) ∧ w' = w) (gB E ad N) (gA E)) ([.ref (ad (b)), .int (nI (c))] : List Value).toArray s 0 0 (gA E)) (F0 m 2 ls []) := by
    intro n
    induction n with
    | zero => intro i hmeas; omega
    | succ n ih_loop1 =>
      intro i hmeas hi hn ls hl
      refine lv_iload_n hx hb dX13_mothOn_2 rfl (lv_at hl 0 rfl) ?_
      refine lv_aload_n hx hb dX13_mothOn_3 rfl (lv_at hl 1 rfl) ?_
      refine g_get S hI hP uX13 rfl (fs := _) (hb_m.lt 0 (by decide)) (hb_m.2 0 (by decide)) 0 (by decide) q1787 rfl (v := .ref (ad (b + 1))) rfl dX13_mothOn_4 ?_
      refine g_iconst S 3 dX13_mothOn_7 (by decide +kernel) ?_
      refine g_iald S hI hP (f := fun j => nI (g j)) (hb_m.lt 1 (by decide)) (hb_m.2 1 (by decide)) (3) (by decide) (by decide) dX13_mothOn_8 ?_
      rw [hg3]
      refine g_ge S (a := i) (b := mc) (by omega) (by omega) (tgt := 34) dX13_mothOn_9 (by decide) (fun h => ?_) (fun h => ?_)
      · refine lv_iconst (v := -1) hx hb dX13_mothOn_34 (by decide +kernel) ?_
        exact g_iret S hr hlocks hP hS (⟨by rw [fstN_none.mpr (fun k hk => by have := hn k (by omega); simpa using this)]; rfl, rfl⟩) (fun _ _ => rfl) (Nat.le_of_ble_eq_true rfl) (Nat.le_of_ble_eq_true rfl) dX13_mothOn_35
      · have hmi := hmo i h
        refine lv_aload_n hx hb dX13_mothOn_12 rfl (lv_at hl 1 rfl) ?_
        refine g_get S hI hP uX13 rfl (fs := _) (hb_m.lt 0 (by decide)) (hb_m.2 0 (by decide)) 0 (by decide) q1787 rfl (v := .ref (ad (b + 1))) rfl dX13_mothOn_13 ?_
        refine g_sipush S 148 dX13_mothOn_16 (by decide +kernel) ?_
        refine lv_iload_n hx hb dX13_mothOn_19 rfl (lv_at hl 0 rfl) ?_
        refine g_iadd S dX13_mothOn_20 ?_
        refine g_iald S hI hP (f := fun j => nI (g j)) (hb_m.lt 1 (by decide)) (hb_m.2 1 (by decide)) (148 + i) (by omega) (by decide) dX13_mothOn_21 ?_
        rw [hgm i h]
        refine lv_iload_n hx hb dX13_mothOn_22 rfl (lv_at hl 2 rfl) ?_
        refine g_ne S (a := mo i) (b := c) (by omega) (by omega) (tgt := 28) dX13_mothOn_23 (by decide) (fun h2 => ?_) (fun h2 => ?_)
        · refine lv_iinc (v := nI (i + 1)) (lv' := [(2, .int (nI (i + 1))), (0, .ref (ad (b))), (1, .int (nI (c)))]) hx hb dX13_mothOn_28 hl (k := 0) rfl (g_inc _ 1 (by decide +kernel)) (by decide) rfl (fun ls hl => ?_)
          refine lv_goto (tgt := 2) hx hb dX13_mothOn_31 (by decide) ?_
          exact ih_loop1 (i + 1) (by omega) (by omega) (fun k hk => by rcases Nat.lt_or_ge k i with q | q; exact hn k q; rw [show k = i by omega]; exact h2) ls (lv_sub hl [0, 1, 2] rfl)
        · refine lv_iload_n hx hb dX13_mothOn_26 rfl (lv_at hl 0 rfl) ?_
          exact g_iret S hr hlocks hP hS (⟨by rw [fstN_some.mpr ⟨h, by simpa using h2, fun k hk => by have := hn k hk; simpa using this⟩]; rfl, rfl⟩) (fun _ _ => rfl) (Nat.le_of_ble_eq_true rfl) (Nat.le_of_ble_eq_true rfl) dX13_mothOn_27
  exact loop1 (mc - (0) + 1) (0) (Nat.lt_succ_self _) (Nat.zero_le _) (fun k hk => by omega) ls (lv_sub hl [0, 1, 2] rfl)
set_option maxHeartbeats 4000000 in
set_option maxRecDepth 100000 in
/-- an index of a moth -/
theorem mX13_isMoth (l : Launch) {E : gE} {ad : Nat → Nat} {N : Nat} {w : Nat → va_E} (b : Nat) (g kp sv bf sd ip sg mk td lv tl : Nat → Nat) (qs qc qw qd co wy : Nat) (de : Int32) (ca ln : Nat) (fa : Option Nat) (sm pa tm : Nat) (ht dr pg wt wr mo : Nat → Nat) (mc ni po dn : Nat) (v : Int32) (hb_m : bkP N w b 12 (MDC E ad b g kp sv bf sd ip sg mk td lv tl qs qc qw qd co wy de ca ln fa sm pa tm)) (hR : mRg g ht pg wt wr mo mc ni po dn) (hm : mc ≤ 4) : gMi l yX13_isMoth (lw_ws yX13_isMoth cX13_isMoth 2 (some .boolean)) ({ frames := 1, cells := 0, slots := 0, locals := 22 } : Room) E ad N w [.ref (ad (b)), .int (v)] (fun r w' => r = bI (inR v mc).isSome ∧ w' = w) 0 0 := by
  refine Met.ofW (cc := cX13_isMoth) (maxL := 2) (ret := (some .boolean)) (by decide) rfl ?_
  intro p e s m args below meth cd s₁ B hml hv
  obtain ⟨rfl, hI, hP⟩ := hv
  obtain ⟨S, hr, hlocks⟩ := gPre (ws := []) B hml (C := RX13) rfl
  have hx := S.1
  have hb := S.2.1
  have hS : va_S (gA E) s.heap s.heap [] := va_S.rf
  have hl := lv_entry ([.ref (ad (b)), .int (v)]) (n := 2) (Nat.le_of_ble_eq_true rfl)
  rw [lg_entry_eq]
  generalize (lg_sl ([.ref (ad (b)), .int (v)]) ++ List.replicate (2 - (lg_sl ([.ref (ad (b)), .int (v)])).length) Slot.unset).toArray = ls at hl ⊢
  have hl : lv_has ls 2 [(0, .ref (ad (b))), (1, .int (v))] := hl
  obtain ⟨hgh, hgw, hgp, hgt, hgm, hg3, hg0, hg1, hg2⟩ := id hR
  refine lv_iload_n hx hb dX13_isMoth_0 rfl (lv_at hl 1 rfl) ?_
  refine g_iconst S 0 dX13_isMoth_1 (by decide +kernel) ?_
  refine lv_aload_n hx hb dX13_isMoth_2 rfl (lv_at hl 0 rfl) ?_
  refine g_get S hI hP uX13 rfl (fs := _) (hb_m.lt 0 (by decide)) (hb_m.2 0 (by decide)) 0 (by decide) q1787 rfl (v := .ref (ad (b + 1))) rfl dX13_isMoth_3 ?_
  refine g_iconst S 3 dX13_isMoth_6 (by decide +kernel) ?_
  refine g_iald S hI hP (f := fun j => nI (g j)) (hb_m.lt 1 (by decide)) (hb_m.2 1 (by decide)) (3) (by decide) (by decide) dX13_isMoth_7 ?_
  rw [hg3]
  refine g_iconst S 1 dX13_isMoth_8 (by decide +kernel) ?_
  refine lv_isub hx hb dX13_isMoth_9 ?_
  refine g_roi (g_runS S hI hP hS (k := 3) (As := [.int (v), .int (nI (0)), .int (nI (mc) - nI (1))]) (rest := []) (mX13_in l v (nI (0)) (nI (mc) - nI (1))) q1875 q1876 q100 q1877 rfl rfl (by decide +kernel) ⟨Nat.le_of_ble_eq_true rfl, Nat.le_of_ble_eq_true rfl⟩ rfl hl.1 rfl (Nat.le_of_ble_eq_true rfl) ⟨(Nat.le_of_ble_eq_true rfl), (Nat.le_of_ble_eq_true rfl)⟩ dX13_isMoth_10) hS (fun H locs hP hS => ?_)
  rw [in_M hm]
  exact g_zret S hr hlocks (bI_01 _) hP hS (⟨rfl, rfl⟩) (fun _ _ => rfl) (Nat.le_of_ble_eq_true rfl) (Nat.le_of_ble_eq_true rfl) dX13_isMoth_13
set_option maxHeartbeats 4000000 in
set_option maxRecDepth 100000 in
/-- a height is set -/
theorem mX13_setHeight (l : Launch) {E : gE} {ad : Nat → Nat} {N : Nat} {w : Nat → va_E} (b : Nat) (g kp sv bf sd ip sg mk td lv tl : Nat → Nat) (qs qc qw qd co wy : Nat) (de : Int32) (ca ln : Nat) (fa : Option Nat) (sm pa tm : Nat) (ht dr pg wt wr mo : Nat → Nat) (mc ni po dn : Nat) (x y v : Int32) (hb_m : bkP N w b 12 (MDC E ad b g kp sv bf sd ip sg mk td lv tl qs qc qw qd co wy de ca ln fa sm pa tm)) (hR : mRg g ht pg wt wr mo mc ni po dn) (hht : ∀ k, k < 36 → ht k ≤ 99) (hpg : ∀ k, k < 36 → pg k ≤ 1) (hwr : ∀ k, k < 36 → wr k ≤ 3) (hm : mc ≤ 4) (hmo : ∀ k, k < mc → mo k < 36) (hqw : qw ≤ 1) (hqc : qc ≤ 8) : gMi l yX13_setHeight (lw_ws yX13_setHeight cX13_setHeight 6 (some .int)) ({ frames := 3, cells := 0, slots := 0, locals := 65 } : Room) E ad N w [.ref (ad (b)), .int (x), .int (y), .int (v)] (fun r w' => ((cmR ht pg wr mo mc 0 (cellV x y) v = nI 0 ∧ ∃ (g' mk' sd' : Nat → Nat) (k u qd' : Nat), cmK 0 (cellV x y) v k u mc ∧ r = (cmS 0 k u ht dr pg wt wr mo mc ni po dn).1 ∧ mRS g' (cmS 0 k u ht dr pg wt wr mo mc ni po dn).2 ∧ bkP N w' b 12 (MDC E ad b g' (if qw = 0 then kpK kp qc g else kp) sv bf sd' ip sg mk' td lv tl qs (if qw = 0 then kpC qc else qc) qw qd' 0 wy de ca ln fa sm pa tm)) ∨ (cmR ht pg wr mo mc 0 (cellV x y) v = -1 ∧ r = nI 0 ∧ bkP N w' b 12 (MDC E ad b g kp sv bf sd ip sg mk td lv tl qs qc qw 0 1 wy de ca ln fa sm pa tm)) ∨ (cmR ht pg wr mo mc 0 (cellV x y) v = -2 ∧ r = nI 0 ∧ bkP N w' b 12 (MDC E ad b g kp sv bf sd ip sg mk td lv tl qs qc qw 0 2 wy de ca ln fa sm pa tm)) ∨ (∃ z, 0 < z ∧ z < 7 ∧ cmR ht pg wr mo mc 0 (cellV x y) v = nI z ∧ r = nI 0 ∧ bkP N w' b 12 (MDC E ad b g kp sv bf sd ip sg mk td lv tl qs qc qw 1 3 z (cmT pg wr mo mc z (cellV x y) v) 0 ln fa sm pa tm))) ∧ gFr (gIn b 12) w w') 0 0 := by
  refine Met.ofW (cc := cX13_setHeight) (maxL := 6) (ret := (some .int)) (by decide) rfl ?_
  intro p e s m args below meth cd s₁ B hml hv
  obtain ⟨rfl, hI, hP⟩ := hv
  obtain ⟨S, hr, hlocks⟩ := gPre (ws := []) B hml (C := RX13) rfl
  have hx := S.1
  have hb := S.2.1
  have hS : va_S (gA E) s.heap s.heap [] := va_S.rf
  have hfr : gFr (gIn b 12) w w := gFr.rf
  have hl := lv_entry ([.ref (ad (b)), .int (x), .int (y), .int (v)]) (n := 6) (Nat.le_of_ble_eq_true rfl)
  rw [lg_entry_eq]
  generalize (lg_sl ([.ref (ad (b)), .int (x), .int (y), .int (v)]) ++ List.replicate (6 - (lg_sl ([.ref (ad (b)), .int (x), .int (y), .int (v)])).length) Slot.unset).toArray = ls at hl ⊢
  have hl : lv_has ls 6 [(0, .ref (ad (b))), (1, .int (x)), (2, .int (y)), (3, .int (v))] := hl
  obtain ⟨hgh, hgw, hgp, hgt, hgm, hg3, hg0, hg1, hg2⟩ := id hR
  refine lv_aload_n hx hb dX13_setHeight_0 rfl (lv_at hl 0 rfl) ?_
  refine lv_iload_n hx hb dX13_setHeight_1 rfl (lv_at hl 1 rfl) ?_
  refine lv_iload_n hx hb dX13_setHeight_2 rfl (lv_at hl 2 rfl) ?_
  refine g_afi (g_runV S hI hP hS (k := 2) (As := [.int (x), .int (y)]) (rest := []) (mX13_isNone l b g kp sv bf sd ip sg mk td lv tl qs qc qw qd co wy de ca ln fa sm pa tm x y hb_m ) q1868 q1870 q48 q100 q1871 rfl rfl (by decide +kernel) ⟨Nat.le_of_ble_eq_true rfl, Nat.le_of_ble_eq_true rfl⟩ rfl (hb_m.lt 0 (by decide)) (hb_m.2 0 (by decide)) rfl hl.1 rfl (Nat.le_of_ble_eq_true rfl) ⟨(Nat.le_of_ble_eq_true rfl), (Nat.le_of_ble_eq_true rfl)⟩ dX13_setHeight_3) hS (fun rz w1 H locs hq hP hS => ?_)
  obtain ⟨hr3, hb1, hf2⟩ := hq
  rw [hr3]
  have hfr := hfr.trans hf2 (fun q hq => by (try simp only [gIn] at hq ⊢); (try dsimp only at hq ⊢); omega)
  refine g_bne S (b := (cellV x y).isNone) (tgt := 31) dX13_setHeight_6 (by decide) (fun h1 => ?_) (fun h1 => ?_)
  · have hcn := Option.isNone_iff_eq_none.mp h1
    rw [if_neg (show ¬ (cellV x y).isSome = true by rw [hcn]; decide)] at hb1
    (try rw [if_neg (show ¬ (cellV x y).isSome = true by rw [hcn]; decide)] at hP)
    (try rw [if_neg (show ¬ (cellV x y).isSome = true by rw [hcn]; decide)] at hfr)
    refine g_iconst S 0 dX13_setHeight_31 (by decide +kernel) ?_
    exact g_iret S hr hlocks hP hS (⟨Or.inr (Or.inl (⟨by show rfH ht (cellV x y) v = -1; rw [hcn]; rfl, rfl, hb1⟩)), hfr⟩) (fun _ _ => rfl) (Nat.le_of_ble_eq_true rfl) (Nat.le_of_ble_eq_true rfl) dX13_setHeight_32
  · obtain ⟨k, hck⟩ : ∃ k, cellV x y = some k := by cases q : cellV x y with | none => (rw [q] at h1; cases h1) | some a => exact ⟨a, rfl⟩
    have hk36 := cellV_lt hck
    rw [if_pos (show (cellV x y).isSome = true by rw [hck]; rfl)] at hb1
    (try rw [if_pos (show (cellV x y).isSome = true by rw [hck]; rfl)] at hP)
    (try rw [if_pos (show (cellV x y).isSome = true by rw [hck]; rfl)] at hfr)
    refine lv_aload_n hx hb dX13_setHeight_9 rfl (lv_at hl 0 rfl) ?_
    refine lv_iload_n hx hb dX13_setHeight_10 rfl (lv_at hl 3 rfl) ?_
    refine g_iconst S 0 dX13_setHeight_11 (by decide +kernel) ?_
    refine g_bipush S 99 dX13_setHeight_12 (by decide +kernel) ?_
    refine g_roi (g_runS S hI hP hS (k := 3) (As := [.int (v), .int (nI (0)), .int (nI (99))]) (rest := [.ref (ad (b))]) (mX13_in l v (nI (0)) (nI (99))) q1875 q1876 q100 q1877 rfl rfl (by decide +kernel) ⟨Nat.le_of_ble_eq_true rfl, Nat.le_of_ble_eq_true rfl⟩ rfl hl.1 rfl (Nat.le_of_ble_eq_true rfl) ⟨(Nat.le_of_ble_eq_true rfl), (Nat.le_of_ble_eq_true rfl)⟩ dX13_setHeight_14) hS (fun H locs hP hS => ?_)
    rw [in_inR (by decide)]
    refine g_beq S (b := (inR v 100).isSome) (tgt := 24) dX13_setHeight_17 (by decide) (fun h2 => ?_) (fun h2 => ?_)
    · refine g_iconst S 2 dX13_setHeight_24 (by decide +kernel) ?_
      refine g_afi (g_runV S hI hP hS (k := 1) (As := [.int (nI (2))]) (rest := []) (mX13_fails l b g kp sv bf sd ip sg mk td lv tl qs qc qw 0 0 wy de ca ln fa sm pa tm 2 hb1 (by decide)) q1878 q1880 q49 q100 q1881 rfl rfl (by decide +kernel) ⟨Nat.le_of_ble_eq_true rfl, Nat.le_of_ble_eq_true rfl⟩ rfl (hb1.lt 0 (by decide)) (hb1.2 0 (by decide)) rfl hl.1 rfl (Nat.le_of_ble_eq_true rfl) ⟨(Nat.le_of_ble_eq_true rfl), (Nat.le_of_ble_eq_true rfl)⟩ dX13_setHeight_25) hS (fun rz w1 H locs hq hP hS => ?_)
      obtain ⟨hr6, hb4, hf5⟩ := hq
      rw [hr6]
      have hfr := hfr.trans hf5 (fun q hq => by (try simp only [gIn] at hq ⊢); (try dsimp only at hq ⊢); omega)
      refine g_beq S (b := decide (0 < 2)) (tgt := 33) dX13_setHeight_28 (by decide) (fun h3 => ?_) (fun h3 => ?_)
      · exact absurd h3 (by decide)
      · refine g_iconst S 0 dX13_setHeight_31 (by decide +kernel) ?_
        exact g_iret S hr hlocks hP hS (⟨Or.inr (Or.inr (Or.inl (⟨by show rfH ht (cellV x y) v = -2; rw [hck]; simp only [rfH, Option.not_isSome_iff_eq_none.mp (show ¬ (inR v 100).isSome = true by rw [h2]; decide)], rfl, hb4⟩))), hfr⟩) (fun _ _ => rfl) (Nat.le_of_ble_eq_true rfl) (Nat.le_of_ble_eq_true rfl) dX13_setHeight_32
    · obtain ⟨u, hu⟩ := Option.isSome_iff_exists.mp h2
      obtain ⟨hu100, hvu⟩ := inR_some (by decide) hu
      subst hvu
      refine g_iconst S 0 dX13_setHeight_20 (by decide +kernel) ?_
      refine lv_goto (tgt := 25) hx hb dX13_setHeight_21 (by decide) ?_
      refine g_afi (g_runV S hI hP hS (k := 1) (As := [.int (nI (0))]) (rest := []) (mX13_fails l b g kp sv bf sd ip sg mk td lv tl qs qc qw 0 0 wy de ca ln fa sm pa tm 0 hb1 (by decide)) q1878 q1880 q49 q100 q1881 rfl rfl (by decide +kernel) ⟨Nat.le_of_ble_eq_true rfl, Nat.le_of_ble_eq_true rfl⟩ rfl (hb1.lt 0 (by decide)) (hb1.2 0 (by decide)) rfl hl.1 rfl (Nat.le_of_ble_eq_true rfl) ⟨(Nat.le_of_ble_eq_true rfl), (Nat.le_of_ble_eq_true rfl)⟩ dX13_setHeight_25) hS (fun rz w1 H locs hq hP hS => ?_)
      obtain ⟨hr9, hb7, hf8⟩ := hq
      rw [hr9]
      have hfr := hfr.trans hf8 (fun q hq => by (try simp only [gIn] at hq ⊢); (try dsimp only at hq ⊢); omega)
      refine g_beq S (b := decide (0 < 0)) (tgt := 33) dX13_setHeight_28 (by decide) (fun h3 => ?_) (fun h3 => ?_)
      · have hk9 := hht k hk36
        refine g_bipush S 6 dX13_setHeight_33 (by decide +kernel) ?_
        refine lv_iload_n hx hb dX13_setHeight_35 rfl (lv_at hl 1 rfl) ?_
        refine lv_imul hx hb dX13_setHeight_36 ?_
        refine lv_iload_n hx hb dX13_setHeight_37 rfl (lv_at hl 2 rfl) ?_
        refine lv_iadd hx hb dX13_setHeight_38 ?_
        rw [cell6 hck]
        refine lv_istore (lv' := [(4, .int (nI (k))), (0, .ref (ad (b))), (1, .int (x)), (2, .int (y)), (3, .int (nI (u)))]) hx hb dX13_setHeight_39 hl (by decide) rfl (fun ls hl => ?_)
        refine lv_aload_n hx hb dX13_setHeight_41 rfl (lv_at hl 1 rfl) ?_
        refine lv_iload hx hb dX13_setHeight_42 (lv_at hl 0 rfl) ?_
        refine g_roi (g_runV S hI hP hS (k := 1) (As := [.int (nI (k))]) (rest := []) (mX13_high l b g kp sv bf sd ip sg mk td lv tl qs qc qw 0 0 wy de ca ln fa sm pa tm k (ht k) hb7 hk36 (hgh k hk36)) q1882 q1884 q50 q100 q1885 rfl rfl (by decide +kernel) ⟨Nat.le_of_ble_eq_true rfl, Nat.le_of_ble_eq_true rfl⟩ rfl (hb7.lt 0 (by decide)) (hb7.2 0 (by decide)) rfl hl.1 rfl (Nat.le_of_ble_eq_true rfl) ⟨(Nat.le_of_ble_eq_true rfl), (Nat.le_of_ble_eq_true rfl)⟩ dX13_setHeight_44) hS (fun H locs hP hS => ?_)
        refine lv_istore (lv' := [(5, .int (nI (ht k))), (4, .int (nI (k))), (0, .ref (ad (b))), (1, .int (x)), (2, .int (y)), (3, .int (nI (u)))]) hx hb dX13_setHeight_47 hl (by decide) rfl (fun ls hl => ?_)
        refine lv_iload hx hb dX13_setHeight_49 (lv_at hl 0 rfl) ?_
        refine lv_iload_n hx hb dX13_setHeight_51 rfl (lv_at hl 5 rfl) ?_
        refine g_ne S (a := ht k) (b := u) (by omega) (by omega) (tgt := 64) dX13_setHeight_52 (by decide) (fun hq => ?_) (fun hq => ?_)
        · refine lv_aload_n hx hb dX13_setHeight_64 rfl (lv_at hl 2 rfl) ?_
          refine lv_aload_n hx hb dX13_setHeight_65 rfl (lv_at hl 2 rfl) ?_
          refine g_get S hI hP uX13 rfl (fs := _) (hb7.lt 0 (by decide)) (hb7.2 0 (by decide)) 0 (by decide) q1787 rfl (v := .ref (ad (b + 1))) rfl dX13_setHeight_66 ?_
          refine g_afv (g_runV S hI hP hS (k := 1) (As := [.ref (ad (b + 1))]) (rest := []) (mX13_keeps l b g kp sv bf sd ip sg mk td lv tl qs qc qw 0 0 wy de ca ln fa sm pa tm  hb7 hqw hqc) q1890 q1892 q52 q100 q1893 rfl rfl (by decide +kernel) ⟨Nat.le_of_ble_eq_true rfl, Nat.le_of_ble_eq_true rfl⟩ rfl (hb7.lt 0 (by decide)) (hb7.2 0 (by decide)) rfl hl.1 rfl (Nat.le_of_ble_eq_true rfl) ⟨(Nat.le_of_ble_eq_true rfl), (Nat.le_of_ble_eq_true rfl)⟩ dX13_setHeight_69) hS (fun w1 H locs hq hP hS => ?_)
          obtain ⟨hb10, hf11⟩ := hq
          have hfr := hfr.trans hf11 (fun q hq => by (try simp only [gIn] at hq ⊢); (try dsimp only at hq ⊢); omega)
          refine lv_aload_n hx hb dX13_setHeight_72 rfl (lv_at hl 2 rfl) ?_
          refine g_get S hI hP uX13 rfl (fs := _) (hb10.lt 0 (by decide)) (hb10.2 0 (by decide)) 0 (by decide) q1787 rfl (v := .ref (ad (b + 1))) rfl dX13_setHeight_73 ?_
          refine g_iconst S 4 dX13_setHeight_76 (by decide +kernel) ?_
          refine lv_iload hx hb dX13_setHeight_77 (lv_at hl 1 rfl) ?_
          refine g_iadd S dX13_setHeight_79 ?_
          refine lv_iload_n hx hb dX13_setHeight_80 rfl (lv_at hl 5 rfl) ?_
          refine g_iastN S hI hP hS (f := g) (x := u) (hb10.lt 1 (by decide)) (hb10.2 1 (by decide)) (4 + k) (by omega) (by decide) dX13_setHeight_81 (fun H locs hP hS => ?_)
          have hP : gP E ad N (va_up _ (b + 1) (MDC E ad b (va_up g (4 + k) u) (if qw = 0 then kpK kp qc g else kp) sv bf sd ip sg mk td lv tl qs (if qw = 0 then kpC qc else qc) qw 0 0 wy de ca ln fa sm pa tm 1)) H := hP
          have hb12 : bkP N (va_up _ (b + 1) (MDC E ad b (va_up g (4 + k) u) (if qw = 0 then kpK kp qc g else kp) sv bf sd ip sg mk td lv tl qs (if qw = 0 then kpC qc else qc) qw 0 0 wy de ca ln fa sm pa tm 1)) b 12 (MDC E ad b (va_up g (4 + k) u) (if qw = 0 then kpK kp qc g else kp) sv bf sd ip sg mk td lv tl qs (if qw = 0 then kpC qc else qc) qw 0 0 wy de ca ln fa sm pa tm) := MD_setA0 hb10 _
          have hfr := hfr.up (p := b + 1) (e := MDC E ad b (va_up g (4 + k) u) (if qw = 0 then kpK kp qc g else kp) sv bf sd ip sg mk td lv tl qs (if qw = 0 then kpC qc else qc) qw 0 0 wy de ca ln fa sm pa tm 1) (by show _ ∧ _; omega)
          refine lv_iload hx hb dX13_setHeight_82 (lv_at hl 0 rfl) ?_
          exact g_iret S hr hlocks hP hS (⟨Or.inl (⟨by show rfH ht (cellV x y) (nI u) = nI 0; simp only [rfH, hck, hu, if_neg hq], _, _, _, k, u, _, ⟨hk36, by omega, fun _ => hck, fun _ => rfl, fun z => absurd z (by decide), fun z => absurd z (by decide)⟩, rfl, hR.upH hk36, hb12⟩), hfr⟩) (fun _ _ => rfl) (Nat.le_of_ble_eq_true rfl) (Nat.le_of_ble_eq_true rfl) dX13_setHeight_84
        · refine lv_aload_n hx hb dX13_setHeight_55 rfl (lv_at hl 2 rfl) ?_
          refine g_iconst S 3 dX13_setHeight_56 (by decide +kernel) ?_
          refine g_bipush S 6 dX13_setHeight_57 (by decide +kernel) ?_
          refine lv_iload_n hx hb dX13_setHeight_59 rfl (lv_at hl 5 rfl) ?_
          refine g_afi (g_runV S hI hP hS (k := 3) (As := [.int (nI (3)), .int (nI (6)), .int (nI (u))]) (rest := []) (mX13_denies l b g kp sv bf sd ip sg mk td lv tl qs qc qw 0 0 wy de ca ln fa sm pa tm 3 6 (nI (u)) hb7 ) q1886 q1888 q51 q100 q1889 rfl rfl (by decide +kernel) ⟨Nat.le_of_ble_eq_true rfl, Nat.le_of_ble_eq_true rfl⟩ rfl (hb7.lt 0 (by decide)) (hb7.2 0 (by decide)) rfl hl.1 rfl (Nat.le_of_ble_eq_true rfl) ⟨(Nat.le_of_ble_eq_true rfl), (Nat.le_of_ble_eq_true rfl)⟩ dX13_setHeight_60) hS (fun rz w1 H locs hq hP hS => ?_)
          obtain ⟨hr15, hb13, hf14⟩ := hq
          rw [hr15]
          have hfr := hfr.trans hf14 (fun q hq => by (try simp only [gIn] at hq ⊢); (try dsimp only at hq ⊢); omega)
          exact g_iret S hr hlocks hP hS (⟨Or.inr (Or.inr (Or.inr (⟨6, by decide, by decide, by show rfH ht (cellV x y) (nI u) = nI 6; simp only [rfH, hck, hu, if_pos hq], rfl, hb13⟩))), hfr⟩) (fun _ _ => rfl) (Nat.le_of_ble_eq_true rfl) (Nat.le_of_ble_eq_true rfl) dX13_setHeight_63
      · exact absurd h3 (by decide)
set_option maxHeartbeats 4000000 in
set_option maxRecDepth 100000 in
/-- a peg -/
theorem mX13_pins1 (l : Launch) {E : gE} {ad : Nat → Nat} {N : Nat} {w : Nat → va_E} (b : Nat) (g kp sv bf sd ip sg mk td lv tl : Nat → Nat) (qs qc qw qd co wy : Nat) (de : Int32) (ca ln : Nat) (fa : Option Nat) (sm pa tm : Nat) (ht dr pg wt wr mo : Nat → Nat) (mc ni po dn : Nat) (x y : Int32) (hb_m : bkP N w b 12 (MDC E ad b g kp sv bf sd ip sg mk td lv tl qs qc qw qd co wy de ca ln fa sm pa tm)) (hR : mRg g ht pg wt wr mo mc ni po dn) (hht : ∀ k, k < 36 → ht k ≤ 99) (hpg : ∀ k, k < 36 → pg k ≤ 1) (hwr : ∀ k, k < 36 → wr k ≤ 3) (hm : mc ≤ 4) (hmo : ∀ k, k < mc → mo k < 36) (hqw : qw ≤ 1) (hqc : qc ≤ 8) : gMi l yX13_pins (lw_ws yX13_pins cX13_pins 5 (some .int)) ({ frames := 3, cells := 0, slots := 0, locals := 65 } : Room) E ad N w [.ref (ad (b)), .int (x), .int (y), .int (nI (1))] (fun r w' => ((cmR ht pg wr mo mc 1 (cellV x y) (-1) = nI 0 ∧ ∃ (g' mk' sd' : Nat → Nat) (k u qd' : Nat), cmK 1 (cellV x y) (-1) k u mc ∧ r = (cmS 1 k u ht dr pg wt wr mo mc ni po dn).1 ∧ mRS g' (cmS 1 k u ht dr pg wt wr mo mc ni po dn).2 ∧ bkP N w' b 12 (MDC E ad b g' (if qw = 0 then kpK kp qc g else kp) sv bf sd' ip sg mk' td lv tl qs (if qw = 0 then kpC qc else qc) qw qd' 0 wy de ca ln fa sm pa tm)) ∨ (cmR ht pg wr mo mc 1 (cellV x y) (-1) = -1 ∧ r = nI 0 ∧ bkP N w' b 12 (MDC E ad b g kp sv bf sd ip sg mk td lv tl qs qc qw 0 1 wy de ca ln fa sm pa tm)) ∨ (cmR ht pg wr mo mc 1 (cellV x y) (-1) = -2 ∧ r = nI 0 ∧ bkP N w' b 12 (MDC E ad b g kp sv bf sd ip sg mk td lv tl qs qc qw 0 2 wy de ca ln fa sm pa tm)) ∨ (∃ z, 0 < z ∧ z < 7 ∧ cmR ht pg wr mo mc 1 (cellV x y) (-1) = nI z ∧ r = nI 0 ∧ bkP N w' b 12 (MDC E ad b g kp sv bf sd ip sg mk td lv tl qs qc qw 1 2 z (cmT pg wr mo mc z (cellV x y) (-1)) 0 ln fa sm pa tm))) ∧ gFr (gIn b 12) w w') 0 0 := by
  refine Met.ofW (cc := cX13_pins) (maxL := 5) (ret := (some .int)) (by decide) rfl ?_
  intro p e s m args below meth cd s₁ B hml hv
  obtain ⟨rfl, hI, hP⟩ := hv
  obtain ⟨S, hr, hlocks⟩ := gPre (ws := []) B hml (C := RX13) rfl
  have hx := S.1
  have hb := S.2.1
  have hS : va_S (gA E) s.heap s.heap [] := va_S.rf
  have hfr : gFr (gIn b 12) w w := gFr.rf
  have hl := lv_entry ([.ref (ad (b)), .int (x), .int (y), .int (nI (1))]) (n := 5) (Nat.le_of_ble_eq_true rfl)
  rw [lg_entry_eq]
  generalize (lg_sl ([.ref (ad (b)), .int (x), .int (y), .int (nI (1))]) ++ List.replicate (5 - (lg_sl ([.ref (ad (b)), .int (x), .int (y), .int (nI (1))])).length) Slot.unset).toArray = ls at hl ⊢
  have hl : lv_has ls 5 [(0, .ref (ad (b))), (1, .int (x)), (2, .int (y)), (3, .int (nI (1)))] := hl
  obtain ⟨hgh, hgw, hgp, hgt, hgm, hg3, hg0, hg1, hg2⟩ := id hR
  refine lv_aload_n hx hb dX13_pins_0 rfl (lv_at hl 0 rfl) ?_
  refine lv_iload_n hx hb dX13_pins_1 rfl (lv_at hl 1 rfl) ?_
  refine lv_iload_n hx hb dX13_pins_2 rfl (lv_at hl 2 rfl) ?_
  refine g_afi (g_runV S hI hP hS (k := 2) (As := [.int (x), .int (y)]) (rest := []) (mX13_isNone l b g kp sv bf sd ip sg mk td lv tl qs qc qw qd co wy de ca ln fa sm pa tm x y hb_m ) q1868 q1870 q48 q100 q1871 rfl rfl (by decide +kernel) ⟨Nat.le_of_ble_eq_true rfl, Nat.le_of_ble_eq_true rfl⟩ rfl (hb_m.lt 0 (by decide)) (hb_m.2 0 (by decide)) rfl hl.1 rfl (Nat.le_of_ble_eq_true rfl) ⟨(Nat.le_of_ble_eq_true rfl), (Nat.le_of_ble_eq_true rfl)⟩ dX13_pins_3) hS (fun rz w1 H locs hq hP hS => ?_)
  obtain ⟨hr3, hb1, hf2⟩ := hq
  rw [hr3]
  have hfr := hfr.trans hf2 (fun q hq => by (try simp only [gIn] at hq ⊢); (try dsimp only at hq ⊢); omega)
  refine g_beq S (b := (cellV x y).isNone) (tgt := 11) dX13_pins_6 (by decide) (fun h1 => ?_) (fun h1 => ?_)
  · obtain ⟨k, hck⟩ : ∃ k, cellV x y = some k := by cases q : cellV x y with | none => (rw [q] at h1; cases h1) | some a => exact ⟨a, rfl⟩
    have hk36 := cellV_lt hck
    rw [if_pos (show (cellV x y).isSome = true by rw [hck]; rfl)] at hb1
    (try rw [if_pos (show (cellV x y).isSome = true by rw [hck]; rfl)] at hP)
    (try rw [if_pos (show (cellV x y).isSome = true by rw [hck]; rfl)] at hfr)
    have hpk := hpg k hk36
    refine g_bipush S 6 dX13_pins_11 (by decide +kernel) ?_
    refine lv_iload_n hx hb dX13_pins_13 rfl (lv_at hl 1 rfl) ?_
    refine lv_imul hx hb dX13_pins_14 ?_
    refine lv_iload_n hx hb dX13_pins_15 rfl (lv_at hl 2 rfl) ?_
    refine lv_iadd hx hb dX13_pins_16 ?_
    rw [cell6 hck]
    refine lv_istore (lv' := [(4, .int (nI (k))), (0, .ref (ad (b))), (1, .int (x)), (2, .int (y)), (3, .int (nI (1)))]) hx hb dX13_pins_17 hl (by decide) rfl (fun ls hl => ?_)
    refine lv_aload_n hx hb dX13_pins_19 rfl (lv_at hl 1 rfl) ?_
    refine g_get S hI hP uX13 rfl (fs := _) (hb1.lt 0 (by decide)) (hb1.2 0 (by decide)) 0 (by decide) q1787 rfl (v := .ref (ad (b + 1))) rfl dX13_pins_20 ?_
    refine g_bipush S 76 dX13_pins_23 (by decide +kernel) ?_
    refine lv_iload hx hb dX13_pins_25 (lv_at hl 0 rfl) ?_
    refine g_iadd S dX13_pins_27 ?_
    refine g_iald S hI hP (f := fun j => nI (g j)) (hb1.lt 1 (by decide)) (hb1.2 1 (by decide)) (76 + k) (by omega) (by decide) dX13_pins_28 ?_
    rw [hgp k hk36]
    refine lv_iload_n hx hb dX13_pins_29 rfl (lv_at hl 4 rfl) ?_
    refine g_ne S (a := pg k) (b := 1) (by omega) (by omega) (tgt := 44) dX13_pins_30 (by decide) (fun hq => ?_) (fun hq => ?_)
    · refine lv_aload_n hx hb dX13_pins_44 rfl (lv_at hl 1 rfl) ?_
      refine lv_aload_n hx hb dX13_pins_45 rfl (lv_at hl 1 rfl) ?_
      refine g_get S hI hP uX13 rfl (fs := _) (hb1.lt 0 (by decide)) (hb1.2 0 (by decide)) 0 (by decide) q1787 rfl (v := .ref (ad (b + 1))) rfl dX13_pins_46 ?_
      refine g_afv (g_runV S hI hP hS (k := 1) (As := [.ref (ad (b + 1))]) (rest := []) (mX13_keeps l b g kp sv bf sd ip sg mk td lv tl qs qc qw 0 0 wy de ca ln fa sm pa tm  hb1 hqw hqc) q1890 q1892 q52 q100 q1893 rfl rfl (by decide +kernel) ⟨Nat.le_of_ble_eq_true rfl, Nat.le_of_ble_eq_true rfl⟩ rfl (hb1.lt 0 (by decide)) (hb1.2 0 (by decide)) rfl hl.1 rfl (Nat.le_of_ble_eq_true rfl) ⟨(Nat.le_of_ble_eq_true rfl), (Nat.le_of_ble_eq_true rfl)⟩ dX13_pins_49) hS (fun w1 H locs hq hP hS => ?_)
      obtain ⟨hb4, hf5⟩ := hq
      have hfr := hfr.trans hf5 (fun q hq => by (try simp only [gIn] at hq ⊢); (try dsimp only at hq ⊢); omega)
      refine lv_aload_n hx hb dX13_pins_52 rfl (lv_at hl 1 rfl) ?_
      refine g_get S hI hP uX13 rfl (fs := _) (hb4.lt 0 (by decide)) (hb4.2 0 (by decide)) 0 (by decide) q1787 rfl (v := .ref (ad (b + 1))) rfl dX13_pins_53 ?_
      refine g_bipush S 76 dX13_pins_56 (by decide +kernel) ?_
      refine lv_iload hx hb dX13_pins_58 (lv_at hl 0 rfl) ?_
      refine g_iadd S dX13_pins_60 ?_
      refine lv_iload_n hx hb dX13_pins_61 rfl (lv_at hl 4 rfl) ?_
      refine g_iastN S hI hP hS (f := g) (x := 1) (hb4.lt 1 (by decide)) (hb4.2 1 (by decide)) (76 + k) (by omega) (by decide) dX13_pins_62 (fun H locs hP hS => ?_)
      have hP : gP E ad N (va_up _ (b + 1) (MDC E ad b (va_up g (76 + k) 1) (if qw = 0 then kpK kp qc g else kp) sv bf sd ip sg mk td lv tl qs (if qw = 0 then kpC qc else qc) qw 0 0 wy de ca ln fa sm pa tm 1)) H := hP
      have hb6 : bkP N (va_up _ (b + 1) (MDC E ad b (va_up g (76 + k) 1) (if qw = 0 then kpK kp qc g else kp) sv bf sd ip sg mk td lv tl qs (if qw = 0 then kpC qc else qc) qw 0 0 wy de ca ln fa sm pa tm 1)) b 12 (MDC E ad b (va_up g (76 + k) 1) (if qw = 0 then kpK kp qc g else kp) sv bf sd ip sg mk td lv tl qs (if qw = 0 then kpC qc else qc) qw 0 0 wy de ca ln fa sm pa tm) := MD_setA0 hb4 _
      have hfr := hfr.up (p := b + 1) (e := MDC E ad b (va_up g (76 + k) 1) (if qw = 0 then kpK kp qc g else kp) sv bf sd ip sg mk td lv tl qs (if qw = 0 then kpC qc else qc) qw 0 0 wy de ca ln fa sm pa tm 1) (by show _ ∧ _; omega)
      refine lv_aload_n hx hb dX13_pins_63 rfl (lv_at hl 1 rfl) ?_
      have hR2 := hR.upP (u := 1) hk36
      refine g_roi (g_runV S hI hP hS (k := 0) (As := []) (rest := []) (mX13_pegs l b (va_up g (76 + k) 1) (if qw = 0 then kpK kp qc g else kp) sv bf sd ip sg mk td lv tl qs (if qw = 0 then kpC qc else qc) qw 0 0 wy de ca ln fa sm pa tm ht dr (va_up pg k 1) wt wr mo mc ni po dn hb6 hR2 (up_le hpg (by decide))) q1905 q1907 q54 q100 q1908 rfl rfl (by decide +kernel) ⟨Nat.le_of_ble_eq_true rfl, Nat.le_of_ble_eq_true rfl⟩ rfl (hb6.lt 0 (by decide)) (hb6.2 0 (by decide)) rfl hl.1 rfl (Nat.le_of_ble_eq_true rfl) ⟨(Nat.le_of_ble_eq_true rfl), (Nat.le_of_ble_eq_true rfl)⟩ dX13_pins_64) hS (fun H locs hP hS => ?_)
      exact g_iret S hr hlocks hP hS (⟨Or.inl (⟨by show rfP pg (cellV x y) 1 = nI 0; simp only [rfP, hck, if_neg hq], _, _, _, k, 0, _, ⟨hk36, by decide, fun _ => hck, fun z => absurd z (by decide), fun z => absurd z (by decide), fun z => absurd z (by decide)⟩, rfl, hR2, hb6⟩), hfr⟩) (fun _ _ => rfl) (Nat.le_of_ble_eq_true rfl) (Nat.le_of_ble_eq_true rfl) dX13_pins_67
    · refine lv_aload_n hx hb dX13_pins_33 rfl (lv_at hl 1 rfl) ?_
      refine g_iconst S 2 dX13_pins_34 (by decide +kernel) ?_
      refine g_iconst S 2 dX13_pins_35 (by decide +kernel) ?_
      refine lv_aload_n hx hb dX13_pins_36 rfl (lv_at hl 1 rfl) ?_
      refine g_roi (g_runV S hI hP hS (k := 0) (As := []) (rest := [.int (nI (2)), .int (nI (2)), .ref (ad (b))]) (mX13_pegs l b g kp sv bf sd ip sg mk td lv tl qs qc qw 0 0 wy de ca ln fa sm pa tm ht dr pg wt wr mo mc ni po dn hb1 hR hpg) q1905 q1907 q54 q100 q1908 rfl rfl (by decide +kernel) ⟨Nat.le_of_ble_eq_true rfl, Nat.le_of_ble_eq_true rfl⟩ rfl (hb1.lt 0 (by decide)) (hb1.2 0 (by decide)) rfl hl.1 rfl (Nat.le_of_ble_eq_true rfl) ⟨(Nat.le_of_ble_eq_true rfl), (Nat.le_of_ble_eq_true rfl)⟩ dX13_pins_37) hS (fun H locs hP hS => ?_)
      refine g_afi (g_runV S hI hP hS (k := 3) (As := [.int (nI (2)), .int (nI (2)), .int (nI (cnt (fun k => pg k == 1) 36))]) (rest := []) (mX13_denies l b g kp sv bf sd ip sg mk td lv tl qs qc qw 0 0 wy de ca ln fa sm pa tm 2 2 (nI (cnt (fun k => pg k == 1) 36)) hb1 ) q1886 q1888 q51 q100 q1889 rfl rfl (by decide +kernel) ⟨Nat.le_of_ble_eq_true rfl, Nat.le_of_ble_eq_true rfl⟩ rfl (hb1.lt 0 (by decide)) (hb1.2 0 (by decide)) rfl hl.1 rfl (Nat.le_of_ble_eq_true rfl) ⟨(Nat.le_of_ble_eq_true rfl), (Nat.le_of_ble_eq_true rfl)⟩ dX13_pins_40) hS (fun rz w1 H locs hq hP hS => ?_)
      obtain ⟨hr9, hb7, hf8⟩ := hq
      rw [hr9]
      have hfr := hfr.trans hf8 (fun q hq => by (try simp only [gIn] at hq ⊢); (try dsimp only at hq ⊢); omega)
      exact g_iret S hr hlocks hP hS (⟨Or.inr (Or.inr (Or.inr (⟨2, by decide, by decide, by show rfP pg (cellV x y) 1 = nI 2; simp only [rfP, hck, if_pos hq], rfl, hb7⟩))), hfr⟩) (fun _ _ => rfl) (Nat.le_of_ble_eq_true rfl) (Nat.le_of_ble_eq_true rfl) dX13_pins_43
  · have hcn := Option.isNone_iff_eq_none.mp h1
    rw [if_neg (show ¬ (cellV x y).isSome = true by rw [hcn]; decide)] at hb1
    (try rw [if_neg (show ¬ (cellV x y).isSome = true by rw [hcn]; decide)] at hP)
    (try rw [if_neg (show ¬ (cellV x y).isSome = true by rw [hcn]; decide)] at hfr)
    refine g_iconst S 0 dX13_pins_9 (by decide +kernel) ?_
    exact g_iret S hr hlocks hP hS (⟨Or.inr (Or.inl (⟨by show rfP pg (cellV x y) 1 = -1; rw [hcn]; rfl, rfl, hb1⟩)), hfr⟩) (fun _ _ => rfl) (Nat.le_of_ble_eq_true rfl) (Nat.le_of_ble_eq_true rfl) dX13_pins_10
set_option maxHeartbeats 4000000 in
set_option maxRecDepth 100000 in
/-- a peg -/
theorem mX13_peg (l : Launch) {E : gE} {ad : Nat → Nat} {N : Nat} {w : Nat → va_E} (b : Nat) (g kp sv bf sd ip sg mk td lv tl : Nat → Nat) (qs qc qw qd co wy : Nat) (de : Int32) (ca ln : Nat) (fa : Option Nat) (sm pa tm : Nat) (ht dr pg wt wr mo : Nat → Nat) (mc ni po dn : Nat) (x y : Int32) (hb_m : bkP N w b 12 (MDC E ad b g kp sv bf sd ip sg mk td lv tl qs qc qw qd co wy de ca ln fa sm pa tm)) (hR : mRg g ht pg wt wr mo mc ni po dn) (hht : ∀ k, k < 36 → ht k ≤ 99) (hpg : ∀ k, k < 36 → pg k ≤ 1) (hwr : ∀ k, k < 36 → wr k ≤ 3) (hm : mc ≤ 4) (hmo : ∀ k, k < mc → mo k < 36) (hqw : qw ≤ 1) (hqc : qc ≤ 8) : gMi l yX13_peg (lw_ws yX13_peg cX13_peg 3 (some .int)) ({ frames := 4, cells := 0, slots := 0, locals := 89 } : Room) E ad N w [.ref (ad (b)), .int (x), .int (y)] (fun r w' => ((cmR ht pg wr mo mc 1 (cellV x y) (-1) = nI 0 ∧ ∃ (g' mk' sd' : Nat → Nat) (k u qd' : Nat), cmK 1 (cellV x y) (-1) k u mc ∧ r = (cmS 1 k u ht dr pg wt wr mo mc ni po dn).1 ∧ mRS g' (cmS 1 k u ht dr pg wt wr mo mc ni po dn).2 ∧ bkP N w' b 12 (MDC E ad b g' (if qw = 0 then kpK kp qc g else kp) sv bf sd' ip sg mk' td lv tl qs (if qw = 0 then kpC qc else qc) qw qd' 0 wy de ca ln fa sm pa tm)) ∨ (cmR ht pg wr mo mc 1 (cellV x y) (-1) = -1 ∧ r = nI 0 ∧ bkP N w' b 12 (MDC E ad b g kp sv bf sd ip sg mk td lv tl qs qc qw 0 1 wy de ca ln fa sm pa tm)) ∨ (cmR ht pg wr mo mc 1 (cellV x y) (-1) = -2 ∧ r = nI 0 ∧ bkP N w' b 12 (MDC E ad b g kp sv bf sd ip sg mk td lv tl qs qc qw 0 2 wy de ca ln fa sm pa tm)) ∨ (∃ z, 0 < z ∧ z < 7 ∧ cmR ht pg wr mo mc 1 (cellV x y) (-1) = nI z ∧ r = nI 0 ∧ bkP N w' b 12 (MDC E ad b g kp sv bf sd ip sg mk td lv tl qs qc qw 1 2 z (cmT pg wr mo mc z (cellV x y) (-1)) 0 ln fa sm pa tm))) ∧ gFr (gIn b 12) w w') 0 0 := by
  refine Met.ofW (cc := cX13_peg) (maxL := 3) (ret := (some .int)) (by decide) rfl ?_
  intro p e s m args below meth cd s₁ B hml hv
  obtain ⟨rfl, hI, hP⟩ := hv
  obtain ⟨S, hr, hlocks⟩ := gPre (ws := []) B hml (C := RX13) rfl
  have hx := S.1
  have hb := S.2.1
  have hS : va_S (gA E) s.heap s.heap [] := va_S.rf
  have hfr : gFr (gIn b 12) w w := gFr.rf
  have hl := lv_entry ([.ref (ad (b)), .int (x), .int (y)]) (n := 3) (Nat.le_of_ble_eq_true rfl)
  rw [lg_entry_eq]
  generalize (lg_sl ([.ref (ad (b)), .int (x), .int (y)]) ++ List.replicate (3 - (lg_sl ([.ref (ad (b)), .int (x), .int (y)])).length) Slot.unset).toArray = ls at hl ⊢
  have hl : lv_has ls 3 [(0, .ref (ad (b))), (1, .int (x)), (2, .int (y))] := hl
  obtain ⟨hgh, hgw, hgp, hgt, hgm, hg3, hg0, hg1, hg2⟩ := id hR
  refine lv_aload_n hx hb dX13_peg_0 rfl (lv_at hl 0 rfl) ?_
  refine lv_iload_n hx hb dX13_peg_1 rfl (lv_at hl 1 rfl) ?_
  refine lv_iload_n hx hb dX13_peg_2 rfl (lv_at hl 2 rfl) ?_
  refine g_iconst S 1 dX13_peg_3 (by decide +kernel) ?_
  refine g_afi (g_runV S hI hP hS (k := 3) (As := [.int (x), .int (y), .int (nI (1))]) (rest := []) (mX13_pins1 l b g kp sv bf sd ip sg mk td lv tl qs qc qw qd co wy de ca ln fa sm pa tm ht dr pg wt wr mo mc ni po dn x y hb_m hR hht hpg hwr hm hmo hqw hqc) q1901 q1903 q53 q100 q1904 rfl rfl (by decide +kernel) ⟨Nat.le_of_ble_eq_true rfl, Nat.le_of_ble_eq_true rfl⟩ rfl (hb_m.lt 0 (by decide)) (hb_m.2 0 (by decide)) rfl hl.1 rfl (Nat.le_of_ble_eq_true rfl) ⟨(Nat.le_of_ble_eq_true rfl), (Nat.le_of_ble_eq_true rfl)⟩ dX13_peg_4) hS (fun rz w1 H locs hq hP hS => ?_)
  obtain hq := hq
  exact g_iret S hr hlocks hP hS (hq) (fun _ _ => rfl) (Nat.le_of_ble_eq_true rfl) (Nat.le_of_ble_eq_true rfl) dX13_peg_7
set_option maxHeartbeats 4000000 in
set_option maxRecDepth 100000 in
/-- a peg -/
theorem mX13_pins0 (l : Launch) {E : gE} {ad : Nat → Nat} {N : Nat} {w : Nat → va_E} (b : Nat) (g kp sv bf sd ip sg mk td lv tl : Nat → Nat) (qs qc qw qd co wy : Nat) (de : Int32) (ca ln : Nat) (fa : Option Nat) (sm pa tm : Nat) (ht dr pg wt wr mo : Nat → Nat) (mc ni po dn : Nat) (x y : Int32) (hb_m : bkP N w b 12 (MDC E ad b g kp sv bf sd ip sg mk td lv tl qs qc qw qd co wy de ca ln fa sm pa tm)) (hR : mRg g ht pg wt wr mo mc ni po dn) (hht : ∀ k, k < 36 → ht k ≤ 99) (hpg : ∀ k, k < 36 → pg k ≤ 1) (hwr : ∀ k, k < 36 → wr k ≤ 3) (hm : mc ≤ 4) (hmo : ∀ k, k < mc → mo k < 36) (hqw : qw ≤ 1) (hqc : qc ≤ 8) : gMi l yX13_pins (lw_ws yX13_pins cX13_pins 5 (some .int)) ({ frames := 3, cells := 0, slots := 0, locals := 65 } : Room) E ad N w [.ref (ad (b)), .int (x), .int (y), .int (nI (0))] (fun r w' => ((cmR ht pg wr mo mc 2 (cellV x y) (-1) = nI 0 ∧ ∃ (g' mk' sd' : Nat → Nat) (k u qd' : Nat), cmK 2 (cellV x y) (-1) k u mc ∧ r = (cmS 2 k u ht dr pg wt wr mo mc ni po dn).1 ∧ mRS g' (cmS 2 k u ht dr pg wt wr mo mc ni po dn).2 ∧ bkP N w' b 12 (MDC E ad b g' (if qw = 0 then kpK kp qc g else kp) sv bf sd' ip sg mk' td lv tl qs (if qw = 0 then kpC qc else qc) qw qd' 0 wy de ca ln fa sm pa tm)) ∨ (cmR ht pg wr mo mc 2 (cellV x y) (-1) = -1 ∧ r = nI 0 ∧ bkP N w' b 12 (MDC E ad b g kp sv bf sd ip sg mk td lv tl qs qc qw 0 1 wy de ca ln fa sm pa tm)) ∨ (cmR ht pg wr mo mc 2 (cellV x y) (-1) = -2 ∧ r = nI 0 ∧ bkP N w' b 12 (MDC E ad b g kp sv bf sd ip sg mk td lv tl qs qc qw 0 2 wy de ca ln fa sm pa tm)) ∨ (∃ z, 0 < z ∧ z < 7 ∧ cmR ht pg wr mo mc 2 (cellV x y) (-1) = nI z ∧ r = nI 0 ∧ bkP N w' b 12 (MDC E ad b g kp sv bf sd ip sg mk td lv tl qs qc qw 1 2 z (cmT pg wr mo mc z (cellV x y) (-1)) 0 ln fa sm pa tm))) ∧ gFr (gIn b 12) w w') 0 0 := by
  refine Met.ofW (cc := cX13_pins) (maxL := 5) (ret := (some .int)) (by decide) rfl ?_
  intro p e s m args below meth cd s₁ B hml hv
  obtain ⟨rfl, hI, hP⟩ := hv
  obtain ⟨S, hr, hlocks⟩ := gPre (ws := []) B hml (C := RX13) rfl
  have hx := S.1
  have hb := S.2.1
  have hS : va_S (gA E) s.heap s.heap [] := va_S.rf
  have hfr : gFr (gIn b 12) w w := gFr.rf
  have hl := lv_entry ([.ref (ad (b)), .int (x), .int (y), .int (nI (0))]) (n := 5) (Nat.le_of_ble_eq_true rfl)
  rw [lg_entry_eq]
  generalize (lg_sl ([.ref (ad (b)), .int (x), .int (y), .int (nI (0))]) ++ List.replicate (5 - (lg_sl ([.ref (ad (b)), .int (x), .int (y), .int (nI (0))])).length) Slot.unset).toArray = ls at hl ⊢
  have hl : lv_has ls 5 [(0, .ref (ad (b))), (1, .int (x)), (2, .int (y)), (3, .int (nI (0)))] := hl
  obtain ⟨hgh, hgw, hgp, hgt, hgm, hg3, hg0, hg1, hg2⟩ := id hR
  refine lv_aload_n hx hb dX13_pins_0 rfl (lv_at hl 0 rfl) ?_
  refine lv_iload_n hx hb dX13_pins_1 rfl (lv_at hl 1 rfl) ?_
  refine lv_iload_n hx hb dX13_pins_2 rfl (lv_at hl 2 rfl) ?_
  refine g_afi (g_runV S hI hP hS (k := 2) (As := [.int (x), .int (y)]) (rest := []) (mX13_isNone l b g kp sv bf sd ip sg mk td lv tl qs qc qw qd co wy de ca ln fa sm pa tm x y hb_m ) q1868 q1870 q48 q100 q1871 rfl rfl (by decide +kernel) ⟨Nat.le_of_ble_eq_true rfl, Nat.le_of_ble_eq_true rfl⟩ rfl (hb_m.lt 0 (by decide)) (hb_m.2 0 (by decide)) rfl hl.1 rfl (Nat.le_of_ble_eq_true rfl) ⟨(Nat.le_of_ble_eq_true rfl), (Nat.le_of_ble_eq_true rfl)⟩ dX13_pins_3) hS (fun rz w1 H locs hq hP hS => ?_)
  obtain ⟨hr3, hb1, hf2⟩ := hq
  rw [hr3]
  have hfr := hfr.trans hf2 (fun q hq => by (try simp only [gIn] at hq ⊢); (try dsimp only at hq ⊢); omega)
  refine g_beq S (b := (cellV x y).isNone) (tgt := 11) dX13_pins_6 (by decide) (fun h1 => ?_) (fun h1 => ?_)
  · obtain ⟨k, hck⟩ : ∃ k, cellV x y = some k := by cases q : cellV x y with | none => (rw [q] at h1; cases h1) | some a => exact ⟨a, rfl⟩
    have hk36 := cellV_lt hck
    rw [if_pos (show (cellV x y).isSome = true by rw [hck]; rfl)] at hb1
    (try rw [if_pos (show (cellV x y).isSome = true by rw [hck]; rfl)] at hP)
    (try rw [if_pos (show (cellV x y).isSome = true by rw [hck]; rfl)] at hfr)
    have hpk := hpg k hk36
    refine g_bipush S 6 dX13_pins_11 (by decide +kernel) ?_
    refine lv_iload_n hx hb dX13_pins_13 rfl (lv_at hl 1 rfl) ?_
    refine lv_imul hx hb dX13_pins_14 ?_
    refine lv_iload_n hx hb dX13_pins_15 rfl (lv_at hl 2 rfl) ?_
    refine lv_iadd hx hb dX13_pins_16 ?_
    rw [cell6 hck]
    refine lv_istore (lv' := [(4, .int (nI (k))), (0, .ref (ad (b))), (1, .int (x)), (2, .int (y)), (3, .int (nI (0)))]) hx hb dX13_pins_17 hl (by decide) rfl (fun ls hl => ?_)
    refine lv_aload_n hx hb dX13_pins_19 rfl (lv_at hl 1 rfl) ?_
    refine g_get S hI hP uX13 rfl (fs := _) (hb1.lt 0 (by decide)) (hb1.2 0 (by decide)) 0 (by decide) q1787 rfl (v := .ref (ad (b + 1))) rfl dX13_pins_20 ?_
    refine g_bipush S 76 dX13_pins_23 (by decide +kernel) ?_
    refine lv_iload hx hb dX13_pins_25 (lv_at hl 0 rfl) ?_
    refine g_iadd S dX13_pins_27 ?_
    refine g_iald S hI hP (f := fun j => nI (g j)) (hb1.lt 1 (by decide)) (hb1.2 1 (by decide)) (76 + k) (by omega) (by decide) dX13_pins_28 ?_
    rw [hgp k hk36]
    refine lv_iload_n hx hb dX13_pins_29 rfl (lv_at hl 4 rfl) ?_
    refine g_ne S (a := pg k) (b := 0) (by omega) (by omega) (tgt := 44) dX13_pins_30 (by decide) (fun hq => ?_) (fun hq => ?_)
    · refine lv_aload_n hx hb dX13_pins_44 rfl (lv_at hl 1 rfl) ?_
      refine lv_aload_n hx hb dX13_pins_45 rfl (lv_at hl 1 rfl) ?_
      refine g_get S hI hP uX13 rfl (fs := _) (hb1.lt 0 (by decide)) (hb1.2 0 (by decide)) 0 (by decide) q1787 rfl (v := .ref (ad (b + 1))) rfl dX13_pins_46 ?_
      refine g_afv (g_runV S hI hP hS (k := 1) (As := [.ref (ad (b + 1))]) (rest := []) (mX13_keeps l b g kp sv bf sd ip sg mk td lv tl qs qc qw 0 0 wy de ca ln fa sm pa tm  hb1 hqw hqc) q1890 q1892 q52 q100 q1893 rfl rfl (by decide +kernel) ⟨Nat.le_of_ble_eq_true rfl, Nat.le_of_ble_eq_true rfl⟩ rfl (hb1.lt 0 (by decide)) (hb1.2 0 (by decide)) rfl hl.1 rfl (Nat.le_of_ble_eq_true rfl) ⟨(Nat.le_of_ble_eq_true rfl), (Nat.le_of_ble_eq_true rfl)⟩ dX13_pins_49) hS (fun w1 H locs hq hP hS => ?_)
      obtain ⟨hb4, hf5⟩ := hq
      have hfr := hfr.trans hf5 (fun q hq => by (try simp only [gIn] at hq ⊢); (try dsimp only at hq ⊢); omega)
      refine lv_aload_n hx hb dX13_pins_52 rfl (lv_at hl 1 rfl) ?_
      refine g_get S hI hP uX13 rfl (fs := _) (hb4.lt 0 (by decide)) (hb4.2 0 (by decide)) 0 (by decide) q1787 rfl (v := .ref (ad (b + 1))) rfl dX13_pins_53 ?_
      refine g_bipush S 76 dX13_pins_56 (by decide +kernel) ?_
      refine lv_iload hx hb dX13_pins_58 (lv_at hl 0 rfl) ?_
      refine g_iadd S dX13_pins_60 ?_
      refine lv_iload_n hx hb dX13_pins_61 rfl (lv_at hl 4 rfl) ?_
      refine g_iastN S hI hP hS (f := g) (x := 0) (hb4.lt 1 (by decide)) (hb4.2 1 (by decide)) (76 + k) (by omega) (by decide) dX13_pins_62 (fun H locs hP hS => ?_)
      have hP : gP E ad N (va_up _ (b + 1) (MDC E ad b (va_up g (76 + k) 0) (if qw = 0 then kpK kp qc g else kp) sv bf sd ip sg mk td lv tl qs (if qw = 0 then kpC qc else qc) qw 0 0 wy de ca ln fa sm pa tm 1)) H := hP
      have hb6 : bkP N (va_up _ (b + 1) (MDC E ad b (va_up g (76 + k) 0) (if qw = 0 then kpK kp qc g else kp) sv bf sd ip sg mk td lv tl qs (if qw = 0 then kpC qc else qc) qw 0 0 wy de ca ln fa sm pa tm 1)) b 12 (MDC E ad b (va_up g (76 + k) 0) (if qw = 0 then kpK kp qc g else kp) sv bf sd ip sg mk td lv tl qs (if qw = 0 then kpC qc else qc) qw 0 0 wy de ca ln fa sm pa tm) := MD_setA0 hb4 _
      have hfr := hfr.up (p := b + 1) (e := MDC E ad b (va_up g (76 + k) 0) (if qw = 0 then kpK kp qc g else kp) sv bf sd ip sg mk td lv tl qs (if qw = 0 then kpC qc else qc) qw 0 0 wy de ca ln fa sm pa tm 1) (by show _ ∧ _; omega)
      refine lv_aload_n hx hb dX13_pins_63 rfl (lv_at hl 1 rfl) ?_
      have hR2 := hR.upP (u := 0) hk36
      refine g_roi (g_runV S hI hP hS (k := 0) (As := []) (rest := []) (mX13_pegs l b (va_up g (76 + k) 0) (if qw = 0 then kpK kp qc g else kp) sv bf sd ip sg mk td lv tl qs (if qw = 0 then kpC qc else qc) qw 0 0 wy de ca ln fa sm pa tm ht dr (va_up pg k 0) wt wr mo mc ni po dn hb6 hR2 (up_le hpg (by decide))) q1905 q1907 q54 q100 q1908 rfl rfl (by decide +kernel) ⟨Nat.le_of_ble_eq_true rfl, Nat.le_of_ble_eq_true rfl⟩ rfl (hb6.lt 0 (by decide)) (hb6.2 0 (by decide)) rfl hl.1 rfl (Nat.le_of_ble_eq_true rfl) ⟨(Nat.le_of_ble_eq_true rfl), (Nat.le_of_ble_eq_true rfl)⟩ dX13_pins_64) hS (fun H locs hP hS => ?_)
      exact g_iret S hr hlocks hP hS (⟨Or.inl (⟨by show rfP pg (cellV x y) 0 = nI 0; simp only [rfP, hck, if_neg hq], _, _, _, k, 0, _, ⟨hk36, by decide, fun _ => hck, fun z => absurd z (by decide), fun z => absurd z (by decide), fun z => absurd z (by decide)⟩, rfl, hR2, hb6⟩), hfr⟩) (fun _ _ => rfl) (Nat.le_of_ble_eq_true rfl) (Nat.le_of_ble_eq_true rfl) dX13_pins_67
    · refine lv_aload_n hx hb dX13_pins_33 rfl (lv_at hl 1 rfl) ?_
      refine g_iconst S 2 dX13_pins_34 (by decide +kernel) ?_
      refine g_iconst S 2 dX13_pins_35 (by decide +kernel) ?_
      refine lv_aload_n hx hb dX13_pins_36 rfl (lv_at hl 1 rfl) ?_
      refine g_roi (g_runV S hI hP hS (k := 0) (As := []) (rest := [.int (nI (2)), .int (nI (2)), .ref (ad (b))]) (mX13_pegs l b g kp sv bf sd ip sg mk td lv tl qs qc qw 0 0 wy de ca ln fa sm pa tm ht dr pg wt wr mo mc ni po dn hb1 hR hpg) q1905 q1907 q54 q100 q1908 rfl rfl (by decide +kernel) ⟨Nat.le_of_ble_eq_true rfl, Nat.le_of_ble_eq_true rfl⟩ rfl (hb1.lt 0 (by decide)) (hb1.2 0 (by decide)) rfl hl.1 rfl (Nat.le_of_ble_eq_true rfl) ⟨(Nat.le_of_ble_eq_true rfl), (Nat.le_of_ble_eq_true rfl)⟩ dX13_pins_37) hS (fun H locs hP hS => ?_)
      refine g_afi (g_runV S hI hP hS (k := 3) (As := [.int (nI (2)), .int (nI (2)), .int (nI (cnt (fun k => pg k == 1) 36))]) (rest := []) (mX13_denies l b g kp sv bf sd ip sg mk td lv tl qs qc qw 0 0 wy de ca ln fa sm pa tm 2 2 (nI (cnt (fun k => pg k == 1) 36)) hb1 ) q1886 q1888 q51 q100 q1889 rfl rfl (by decide +kernel) ⟨Nat.le_of_ble_eq_true rfl, Nat.le_of_ble_eq_true rfl⟩ rfl (hb1.lt 0 (by decide)) (hb1.2 0 (by decide)) rfl hl.1 rfl (Nat.le_of_ble_eq_true rfl) ⟨(Nat.le_of_ble_eq_true rfl), (Nat.le_of_ble_eq_true rfl)⟩ dX13_pins_40) hS (fun rz w1 H locs hq hP hS => ?_)
      obtain ⟨hr9, hb7, hf8⟩ := hq
      rw [hr9]
      have hfr := hfr.trans hf8 (fun q hq => by (try simp only [gIn] at hq ⊢); (try dsimp only at hq ⊢); omega)
      exact g_iret S hr hlocks hP hS (⟨Or.inr (Or.inr (Or.inr (⟨2, by decide, by decide, by show rfP pg (cellV x y) 0 = nI 2; simp only [rfP, hck, if_pos hq], rfl, hb7⟩))), hfr⟩) (fun _ _ => rfl) (Nat.le_of_ble_eq_true rfl) (Nat.le_of_ble_eq_true rfl) dX13_pins_43
  · have hcn := Option.isNone_iff_eq_none.mp h1
    rw [if_neg (show ¬ (cellV x y).isSome = true by rw [hcn]; decide)] at hb1
    (try rw [if_neg (show ¬ (cellV x y).isSome = true by rw [hcn]; decide)] at hP)
    (try rw [if_neg (show ¬ (cellV x y).isSome = true by rw [hcn]; decide)] at hfr)
    refine g_iconst S 0 dX13_pins_9 (by decide +kernel) ?_
    exact g_iret S hr hlocks hP hS (⟨Or.inr (Or.inl (⟨by show rfP pg (cellV x y) 0 = -1; rw [hcn]; rfl, rfl, hb1⟩)), hfr⟩) (fun _ _ => rfl) (Nat.le_of_ble_eq_true rfl) (Nat.le_of_ble_eq_true rfl) dX13_pins_10
set_option maxHeartbeats 4000000 in
set_option maxRecDepth 100000 in
/-- a peg -/
theorem mX13_unpeg (l : Launch) {E : gE} {ad : Nat → Nat} {N : Nat} {w : Nat → va_E} (b : Nat) (g kp sv bf sd ip sg mk td lv tl : Nat → Nat) (qs qc qw qd co wy : Nat) (de : Int32) (ca ln : Nat) (fa : Option Nat) (sm pa tm : Nat) (ht dr pg wt wr mo : Nat → Nat) (mc ni po dn : Nat) (x y : Int32) (hb_m : bkP N w b 12 (MDC E ad b g kp sv bf sd ip sg mk td lv tl qs qc qw qd co wy de ca ln fa sm pa tm)) (hR : mRg g ht pg wt wr mo mc ni po dn) (hht : ∀ k, k < 36 → ht k ≤ 99) (hpg : ∀ k, k < 36 → pg k ≤ 1) (hwr : ∀ k, k < 36 → wr k ≤ 3) (hm : mc ≤ 4) (hmo : ∀ k, k < mc → mo k < 36) (hqw : qw ≤ 1) (hqc : qc ≤ 8) : gMi l yX13_unpeg (lw_ws yX13_unpeg cX13_unpeg 3 (some .int)) ({ frames := 4, cells := 0, slots := 0, locals := 89 } : Room) E ad N w [.ref (ad (b)), .int (x), .int (y)] (fun r w' => ((cmR ht pg wr mo mc 2 (cellV x y) (-1) = nI 0 ∧ ∃ (g' mk' sd' : Nat → Nat) (k u qd' : Nat), cmK 2 (cellV x y) (-1) k u mc ∧ r = (cmS 2 k u ht dr pg wt wr mo mc ni po dn).1 ∧ mRS g' (cmS 2 k u ht dr pg wt wr mo mc ni po dn).2 ∧ bkP N w' b 12 (MDC E ad b g' (if qw = 0 then kpK kp qc g else kp) sv bf sd' ip sg mk' td lv tl qs (if qw = 0 then kpC qc else qc) qw qd' 0 wy de ca ln fa sm pa tm)) ∨ (cmR ht pg wr mo mc 2 (cellV x y) (-1) = -1 ∧ r = nI 0 ∧ bkP N w' b 12 (MDC E ad b g kp sv bf sd ip sg mk td lv tl qs qc qw 0 1 wy de ca ln fa sm pa tm)) ∨ (cmR ht pg wr mo mc 2 (cellV x y) (-1) = -2 ∧ r = nI 0 ∧ bkP N w' b 12 (MDC E ad b g kp sv bf sd ip sg mk td lv tl qs qc qw 0 2 wy de ca ln fa sm pa tm)) ∨ (∃ z, 0 < z ∧ z < 7 ∧ cmR ht pg wr mo mc 2 (cellV x y) (-1) = nI z ∧ r = nI 0 ∧ bkP N w' b 12 (MDC E ad b g kp sv bf sd ip sg mk td lv tl qs qc qw 1 2 z (cmT pg wr mo mc z (cellV x y) (-1)) 0 ln fa sm pa tm))) ∧ gFr (gIn b 12) w w') 0 0 := by
  refine Met.ofW (cc := cX13_unpeg) (maxL := 3) (ret := (some .int)) (by decide) rfl ?_
  intro p e s m args below meth cd s₁ B hml hv
  obtain ⟨rfl, hI, hP⟩ := hv
  obtain ⟨S, hr, hlocks⟩ := gPre (ws := []) B hml (C := RX13) rfl
  have hx := S.1
  have hb := S.2.1
  have hS : va_S (gA E) s.heap s.heap [] := va_S.rf
  have hfr : gFr (gIn b 12) w w := gFr.rf
  have hl := lv_entry ([.ref (ad (b)), .int (x), .int (y)]) (n := 3) (Nat.le_of_ble_eq_true rfl)
  rw [lg_entry_eq]
  generalize (lg_sl ([.ref (ad (b)), .int (x), .int (y)]) ++ List.replicate (3 - (lg_sl ([.ref (ad (b)), .int (x), .int (y)])).length) Slot.unset).toArray = ls at hl ⊢
  have hl : lv_has ls 3 [(0, .ref (ad (b))), (1, .int (x)), (2, .int (y))] := hl
  obtain ⟨hgh, hgw, hgp, hgt, hgm, hg3, hg0, hg1, hg2⟩ := id hR
  refine lv_aload_n hx hb dX13_unpeg_0 rfl (lv_at hl 0 rfl) ?_
  refine lv_iload_n hx hb dX13_unpeg_1 rfl (lv_at hl 1 rfl) ?_
  refine lv_iload_n hx hb dX13_unpeg_2 rfl (lv_at hl 2 rfl) ?_
  refine g_iconst S 0 dX13_unpeg_3 (by decide +kernel) ?_
  refine g_afi (g_runV S hI hP hS (k := 3) (As := [.int (x), .int (y), .int (nI (0))]) (rest := []) (mX13_pins0 l b g kp sv bf sd ip sg mk td lv tl qs qc qw qd co wy de ca ln fa sm pa tm ht dr pg wt wr mo mc ni po dn x y hb_m hR hht hpg hwr hm hmo hqw hqc) q1901 q1903 q53 q100 q1904 rfl rfl (by decide +kernel) ⟨Nat.le_of_ble_eq_true rfl, Nat.le_of_ble_eq_true rfl⟩ rfl (hb_m.lt 0 (by decide)) (hb_m.2 0 (by decide)) rfl hl.1 rfl (Nat.le_of_ble_eq_true rfl) ⟨(Nat.le_of_ble_eq_true rfl), (Nat.le_of_ble_eq_true rfl)⟩ dX13_unpeg_4) hS (fun rz w1 H locs hq hP hS => ?_)
  obtain hq := hq
  exact g_iret S hr hlocks hP hS (hq) (fun _ _ => rfl) (Nat.le_of_ble_eq_true rfl) (Nat.le_of_ble_eq_true rfl) dX13_unpeg_7
set_option maxHeartbeats 4000000 in
set_option maxRecDepth 100000 in
/-- water comes to an end -/
theorem mX13_flows (l : Launch) {E : gE} {ad : Nat → Nat} {N : Nat} {w : Nat → va_E} (b : Nat) (g kp sv bf sd ip sg mk td lv tl : Nat → Nat) (qs qc qw qd co wy : Nat) (de : Int32) (ca ln : Nat) (fa : Option Nat) (sm pa tm : Nat) (ht dr pg wt wr mo : Nat → Nat) (mc ni po dn : Nat) (c u : Nat) (hb_m : bkP N w b 12 (MDC E ad b g kp sv bf sd ip sg mk td lv tl qs qc qw qd co wy de ca ln fa sm pa tm)) (hc : c < 36) (hR : mRg g ht pg wt wr mo mc ni po dn) (hht : ∀ k, k < 36 → ht k ≤ 99) (hwr : ∀ k, k < 36 → wr k ≤ 3) : gMi l yX13_flows (lw_ws yX13_flows cX13_flows 4 (some .int)) ({ frames := 5, cells := 0, slots := 0, locals := 112 } : Room) E ad N w [.ref (ad (b)), .int (nI (c)), .int (nI (u))] (fun r w' => r = nI (if 3 ≤ wr (endN ht wr 36 c) then u else 0) ∧ ∃ g' : Nat → Nat, mRg g' ht pg (if 3 ≤ wr (endN ht wr 36 c) then wt else va_up wt (endN ht wr 36 c) (wt (endN ht wr 36 c) + u)) wr mo mc ni po (if 3 ≤ wr (endN ht wr 36 c) then dn + u else dn) ∧ bkP N w' b 12 (MDC E ad b g' kp sv bf sd ip sg mk td lv tl qs qc qw qd co wy de ca ln fa sm pa tm) ∧ gFr (gIn b 12) w w') 0 0 := by
  refine Met.ofW (cc := cX13_flows) (maxL := 4) (ret := (some .int)) (by decide) rfl ?_
  intro p e s m args below meth cd s₁ B hml hv
  obtain ⟨rfl, hI, hP⟩ := hv
  obtain ⟨S, hr, hlocks⟩ := gPre (ws := []) B hml (C := RX13) rfl
  have hx := S.1
  have hb := S.2.1
  have hS : va_S (gA E) s.heap s.heap [] := va_S.rf
  have hfr : gFr (gIn b 12) w w := gFr.rf
  have hl := lv_entry ([.ref (ad (b)), .int (nI (c)), .int (nI (u))]) (n := 4) (Nat.le_of_ble_eq_true rfl)
  rw [lg_entry_eq]
  generalize (lg_sl ([.ref (ad (b)), .int (nI (c)), .int (nI (u))]) ++ List.replicate (4 - (lg_sl ([.ref (ad (b)), .int (nI (c)), .int (nI (u))])).length) Slot.unset).toArray = ls at hl ⊢
  have hl : lv_has ls 4 [(0, .ref (ad (b))), (1, .int (nI (c))), (2, .int (nI (u)))] := hl
  obtain ⟨hgh, hgw, hgp, hgt, hgm, hg3, hg0, hg1, hg2⟩ := id hR
  have he36 := endN_lt (ht := ht) (wr := wr) (n := 36) hc
  have hw3 := hwr _ he36
  refine lv_aload_n hx hb dX13_flows_0 rfl (lv_at hl 0 rfl) ?_
  refine lv_iload_n hx hb dX13_flows_1 rfl (lv_at hl 1 rfl) ?_
  refine g_roi (g_runV S hI hP hS (k := 1) (As := [.int (nI (c))]) (rest := []) (mX13_end l b g kp sv bf sd ip sg mk td lv tl qs qc qw qd co wy de ca ln fa sm pa tm ht dr pg wt wr mo mc ni po dn c hb_m hc hR hht hwr) q1960 q1962 q58 q100 q1963 rfl rfl (by decide +kernel) ⟨Nat.le_of_ble_eq_true rfl, Nat.le_of_ble_eq_true rfl⟩ rfl (hb_m.lt 0 (by decide)) (hb_m.2 0 (by decide)) rfl hl.1 rfl (Nat.le_of_ble_eq_true rfl) ⟨(Nat.le_of_ble_eq_true rfl), (Nat.le_of_ble_eq_true rfl)⟩ dX13_flows_2) hS (fun H locs hP hS => ?_)
  refine lv_istore_n (lv' := [(3, .int (nI (endN ht wr 36 c))), (0, .ref (ad (b))), (1, .int (nI (c))), (2, .int (nI (u)))]) hx hb dX13_flows_5 rfl hl (by decide) rfl (fun ls hl => ?_)
  refine lv_aload_n hx hb dX13_flows_6 rfl (lv_at hl 1 rfl) ?_
  refine lv_iload_n hx hb dX13_flows_7 rfl (lv_at hl 0 rfl) ?_
  refine g_roi (g_runV S hI hP hS (k := 1) (As := [.int (nI (endN ht wr 36 c))]) (rest := []) (mX13_isHole l b g kp sv bf sd ip sg mk td lv tl qs qc qw qd co wy de ca ln fa sm pa tm (endN ht wr 36 c) (wr (endN ht wr 36 c)) hb_m he36 (hgw _ he36) hw3) q1968 q1970 q60 q100 q1971 rfl rfl (by decide +kernel) ⟨Nat.le_of_ble_eq_true rfl, Nat.le_of_ble_eq_true rfl⟩ rfl (hb_m.lt 0 (by decide)) (hb_m.2 0 (by decide)) rfl hl.1 rfl (Nat.le_of_ble_eq_true rfl) ⟨(Nat.le_of_ble_eq_true rfl), (Nat.le_of_ble_eq_true rfl)⟩ dX13_flows_8) hS (fun H locs hP hS => ?_)
  refine g_bne S (b := decide (3 ≤ wr (endN ht wr 36 c))) (tgt := 29) dX13_flows_11 (by decide) (fun hh => ?_) (fun hh => ?_)
  · rw [if_pos (of_decide_eq_true hh), if_pos (of_decide_eq_true hh), if_pos (of_decide_eq_true hh)]
    refine lv_aload_n hx hb dX13_flows_29 rfl (lv_at hl 1 rfl) ?_
    refine g_get S hI hP uX13 rfl (fs := _) (hb_m.lt 0 (by decide)) (hb_m.2 0 (by decide)) 0 (by decide) q1787 rfl (v := .ref (ad (b + 1))) rfl dX13_flows_30 ?_
    refine g_iconst S 2 dX13_flows_33 (by decide +kernel) ?_
    refine lv_dup2_11 hx hb dX13_flows_34 rfl rfl ?_
    refine g_iald S hI hP (f := fun j => nI (g j)) (hb_m.lt 1 (by decide)) (hb_m.2 1 (by decide)) (2) (by decide) (by decide) dX13_flows_35 ?_
    rw [hg2]
    refine lv_iload_n hx hb dX13_flows_36 rfl (lv_at hl 3 rfl) ?_
    refine g_iadd S dX13_flows_37 ?_
    refine g_iastN S hI hP hS (f := g) (x := dn + u) (hb_m.lt 1 (by decide)) (hb_m.2 1 (by decide)) (2) (by decide) (by decide) dX13_flows_38 (fun H locs hP hS => ?_)
    have hP : gP E ad N (va_up _ (b + 1) (MDC E ad b (va_up g 2 (dn + u)) kp sv bf sd ip sg mk td lv tl qs qc qw qd co wy de ca ln fa sm pa tm 1)) H := hP
    have hb1 : bkP N (va_up _ (b + 1) (MDC E ad b (va_up g 2 (dn + u)) kp sv bf sd ip sg mk td lv tl qs qc qw qd co wy de ca ln fa sm pa tm 1)) b 12 (MDC E ad b (va_up g 2 (dn + u)) kp sv bf sd ip sg mk td lv tl qs qc qw qd co wy de ca ln fa sm pa tm) := MD_setA0 hb_m _
    have hfr := hfr.up (p := b + 1) (e := MDC E ad b (va_up g 2 (dn + u)) kp sv bf sd ip sg mk td lv tl qs qc qw qd co wy de ca ln fa sm pa tm 1) (by show _ ∧ _; omega)
    refine lv_iload_n hx hb dX13_flows_39 rfl (lv_at hl 3 rfl) ?_
    exact g_iret S hr hlocks hP hS (⟨rfl, _, hR.upD, hb1, hfr⟩) (fun _ _ => rfl) (Nat.le_of_ble_eq_true rfl) (Nat.le_of_ble_eq_true rfl) dX13_flows_40
  · rw [if_neg (of_decide_eq_false hh), if_neg (of_decide_eq_false hh), if_neg (of_decide_eq_false hh)]
    refine lv_aload_n hx hb dX13_flows_14 rfl (lv_at hl 1 rfl) ?_
    refine g_get S hI hP uX13 rfl (fs := _) (hb_m.lt 0 (by decide)) (hb_m.2 0 (by decide)) 0 (by decide) q1787 rfl (v := .ref (ad (b + 1))) rfl dX13_flows_15 ?_
    refine g_bipush S 112 dX13_flows_18 (by decide +kernel) ?_
    refine lv_iload_n hx hb dX13_flows_20 rfl (lv_at hl 0 rfl) ?_
    refine g_iadd S dX13_flows_21 ?_
    refine lv_dup2_11 hx hb dX13_flows_22 rfl rfl ?_
    refine g_iald S hI hP (f := fun j => nI (g j)) (hb_m.lt 1 (by decide)) (hb_m.2 1 (by decide)) (112 + (endN ht wr 36 c)) (by omega) (by decide) dX13_flows_23 ?_
    rw [hgt _ he36]
    refine lv_iload_n hx hb dX13_flows_24 rfl (lv_at hl 3 rfl) ?_
    refine g_iadd S dX13_flows_25 ?_
    refine g_iastN S hI hP hS (f := g) (x := wt (endN ht wr 36 c) + u) (hb_m.lt 1 (by decide)) (hb_m.2 1 (by decide)) (112 + (endN ht wr 36 c)) (by omega) (by decide) dX13_flows_26 (fun H locs hP hS => ?_)
    have hP : gP E ad N (va_up _ (b + 1) (MDC E ad b (va_up g (112 + (endN ht wr 36 c)) (wt (endN ht wr 36 c) + u)) kp sv bf sd ip sg mk td lv tl qs qc qw qd co wy de ca ln fa sm pa tm 1)) H := hP
    have hb2 : bkP N (va_up _ (b + 1) (MDC E ad b (va_up g (112 + (endN ht wr 36 c)) (wt (endN ht wr 36 c) + u)) kp sv bf sd ip sg mk td lv tl qs qc qw qd co wy de ca ln fa sm pa tm 1)) b 12 (MDC E ad b (va_up g (112 + (endN ht wr 36 c)) (wt (endN ht wr 36 c) + u)) kp sv bf sd ip sg mk td lv tl qs qc qw qd co wy de ca ln fa sm pa tm) := MD_setA0 hb_m _
    have hfr := hfr.up (p := b + 1) (e := MDC E ad b (va_up g (112 + (endN ht wr 36 c)) (wt (endN ht wr 36 c) + u)) kp sv bf sd ip sg mk td lv tl qs qc qw qd co wy de ca ln fa sm pa tm 1) (by show _ ∧ _; omega)
    refine g_iconst S 0 dX13_flows_27 (by decide +kernel) ?_
    exact g_iret S hr hlocks hP hS (⟨rfl, _, hR.upT he36, hb2, hfr⟩) (fun _ _ => rfl) (Nat.le_of_ble_eq_true rfl) (Nat.le_of_ble_eq_true rfl) dX13_flows_28
set_option maxHeartbeats 4000000 in
set_option maxRecDepth 100000 in
/-- water is poured -/
theorem mX13_pour (l : Launch) {E : gE} {ad : Nat → Nat} {N : Nat} {w : Nat → va_E} (b : Nat) (g kp sv bf sd ip sg mk td lv tl : Nat → Nat) (qs qc qw qd co wy : Nat) (de : Int32) (ca ln : Nat) (fa : Option Nat) (sm pa tm : Nat) (ht dr pg wt wr mo : Nat → Nat) (mc ni po dn : Nat) (x y v : Int32) (hb_m : bkP N w b 12 (MDC E ad b g kp sv bf sd ip sg mk td lv tl qs qc qw qd co wy de ca ln fa sm pa tm)) (hR : mRg g ht pg wt wr mo mc ni po dn) (hht : ∀ k, k < 36 → ht k ≤ 99) (hpg : ∀ k, k < 36 → pg k ≤ 1) (hwr : ∀ k, k < 36 → wr k ≤ 3) (hm : mc ≤ 4) (hmo : ∀ k, k < mc → mo k < 36) (hqw : qw ≤ 1) (hqc : qc ≤ 8) : gMi l yX13_pour (lw_ws yX13_pour cX13_pour 4 (some .int)) ({ frames := 6, cells := 0, slots := 0, locals := 135 } : Room) E ad N w [.ref (ad (b)), .int (x), .int (y), .int (v)] (fun r w' => ((cmR ht pg wr mo mc 4 (cellV x y) v = nI 0 ∧ ∃ (g' mk' sd' : Nat → Nat) (k u qd' : Nat), cmK 4 (cellV x y) v k u mc ∧ r = (cmS 4 k u ht dr pg wt wr mo mc ni po dn).1 ∧ mRS g' (cmS 4 k u ht dr pg wt wr mo mc ni po dn).2 ∧ bkP N w' b 12 (MDC E ad b g' (if qw = 0 then kpK kp qc g else kp) sv bf sd' ip sg mk' td lv tl qs (if qw = 0 then kpC qc else qc) qw qd' 0 wy de ca ln fa sm pa tm)) ∨ (cmR ht pg wr mo mc 4 (cellV x y) v = -1 ∧ r = nI 0 ∧ bkP N w' b 12 (MDC E ad b g kp sv bf sd ip sg mk td lv tl qs qc qw 0 1 wy de ca ln fa sm pa tm)) ∨ (cmR ht pg wr mo mc 4 (cellV x y) v = -2 ∧ r = nI 0 ∧ bkP N w' b 12 (MDC E ad b g kp sv bf sd ip sg mk td lv tl qs qc qw 0 2 wy de ca ln fa sm pa tm)) ∨ (∃ z, 0 < z ∧ z < 7 ∧ cmR ht pg wr mo mc 4 (cellV x y) v = nI z ∧ r = nI 0 ∧ bkP N w' b 12 (MDC E ad b g kp sv bf sd ip sg mk td lv tl qs qc qw 1 2 z (cmT pg wr mo mc z (cellV x y) v) 0 ln fa sm pa tm))) ∧ gFr (gIn b 12) w w') 0 0 := by
  refine Met.ofW (cc := cX13_pour) (maxL := 4) (ret := (some .int)) (by decide) rfl ?_
  intro p e s m args below meth cd s₁ B hml hv
  obtain ⟨rfl, hI, hP⟩ := hv
  obtain ⟨S, hr, hlocks⟩ := gPre (ws := []) B hml (C := RX13) rfl
  have hx := S.1
  have hb := S.2.1
  have hS : va_S (gA E) s.heap s.heap [] := va_S.rf
  have hfr : gFr (gIn b 12) w w := gFr.rf
  have hl := lv_entry ([.ref (ad (b)), .int (x), .int (y), .int (v)]) (n := 4) (Nat.le_of_ble_eq_true rfl)
  rw [lg_entry_eq]
  generalize (lg_sl ([.ref (ad (b)), .int (x), .int (y), .int (v)]) ++ List.replicate (4 - (lg_sl ([.ref (ad (b)), .int (x), .int (y), .int (v)])).length) Slot.unset).toArray = ls at hl ⊢
  have hl : lv_has ls 4 [(0, .ref (ad (b))), (1, .int (x)), (2, .int (y)), (3, .int (v))] := hl
  obtain ⟨hgh, hgw, hgp, hgt, hgm, hg3, hg0, hg1, hg2⟩ := id hR
  refine lv_aload_n hx hb dX13_pour_0 rfl (lv_at hl 0 rfl) ?_
  refine lv_iload_n hx hb dX13_pour_1 rfl (lv_at hl 1 rfl) ?_
  refine lv_iload_n hx hb dX13_pour_2 rfl (lv_at hl 2 rfl) ?_
  refine g_afi (g_runV S hI hP hS (k := 2) (As := [.int (x), .int (y)]) (rest := []) (mX13_isNone l b g kp sv bf sd ip sg mk td lv tl qs qc qw qd co wy de ca ln fa sm pa tm x y hb_m ) q1868 q1870 q48 q100 q1871 rfl rfl (by decide +kernel) ⟨Nat.le_of_ble_eq_true rfl, Nat.le_of_ble_eq_true rfl⟩ rfl (hb_m.lt 0 (by decide)) (hb_m.2 0 (by decide)) rfl hl.1 rfl (Nat.le_of_ble_eq_true rfl) ⟨(Nat.le_of_ble_eq_true rfl), (Nat.le_of_ble_eq_true rfl)⟩ dX13_pour_3) hS (fun rz w1 H locs hq hP hS => ?_)
  obtain ⟨hr3, hb1, hf2⟩ := hq
  rw [hr3]
  have hfr := hfr.trans hf2 (fun q hq => by (try simp only [gIn] at hq ⊢); (try dsimp only at hq ⊢); omega)
  refine g_bne S (b := (cellV x y).isNone) (tgt := 31) dX13_pour_6 (by decide) (fun h1 => ?_) (fun h1 => ?_)
  · have hcn := Option.isNone_iff_eq_none.mp h1
    rw [if_neg (show ¬ (cellV x y).isSome = true by rw [hcn]; decide)] at hb1
    (try rw [if_neg (show ¬ (cellV x y).isSome = true by rw [hcn]; decide)] at hP)
    (try rw [if_neg (show ¬ (cellV x y).isSome = true by rw [hcn]; decide)] at hfr)
    refine g_iconst S 0 dX13_pour_31 (by decide +kernel) ?_
    exact g_iret S hr hlocks hP hS (⟨Or.inr (Or.inl (⟨by show rfU (cellV x y) v = -1; rw [hcn]; rfl, rfl, hb1⟩)), hfr⟩) (fun _ _ => rfl) (Nat.le_of_ble_eq_true rfl) (Nat.le_of_ble_eq_true rfl) dX13_pour_32
  · obtain ⟨k, hck⟩ : ∃ k, cellV x y = some k := by cases q : cellV x y with | none => (rw [q] at h1; cases h1) | some a => exact ⟨a, rfl⟩
    have hk36 := cellV_lt hck
    rw [if_pos (show (cellV x y).isSome = true by rw [hck]; rfl)] at hb1
    (try rw [if_pos (show (cellV x y).isSome = true by rw [hck]; rfl)] at hP)
    (try rw [if_pos (show (cellV x y).isSome = true by rw [hck]; rfl)] at hfr)
    refine lv_aload_n hx hb dX13_pour_9 rfl (lv_at hl 0 rfl) ?_
    refine lv_iload_n hx hb dX13_pour_10 rfl (lv_at hl 3 rfl) ?_
    refine g_iconst S 1 dX13_pour_11 (by decide +kernel) ?_
    refine g_bipush S 99 dX13_pour_12 (by decide +kernel) ?_
    refine g_roi (g_runS S hI hP hS (k := 3) (As := [.int (v), .int (nI (1)), .int (nI (99))]) (rest := [.ref (ad (b))]) (mX13_in l v (nI (1)) (nI (99))) q1875 q1876 q100 q1877 rfl rfl (by decide +kernel) ⟨Nat.le_of_ble_eq_true rfl, Nat.le_of_ble_eq_true rfl⟩ rfl hl.1 rfl (Nat.le_of_ble_eq_true rfl) ⟨(Nat.le_of_ble_eq_true rfl), (Nat.le_of_ble_eq_true rfl)⟩ dX13_pour_14) hS (fun H locs hP hS => ?_)
    refine g_beq S (b := decide (nI 1 ≤ v ∧ v ≤ nI 99)) (tgt := 24) dX13_pour_17 (by decide) (fun h2 => ?_) (fun h2 => ?_)
    · refine g_iconst S 2 dX13_pour_24 (by decide +kernel) ?_
      refine g_afi (g_runV S hI hP hS (k := 1) (As := [.int (nI (2))]) (rest := []) (mX13_fails l b g kp sv bf sd ip sg mk td lv tl qs qc qw 0 0 wy de ca ln fa sm pa tm 2 hb1 (by decide)) q1878 q1880 q49 q100 q1881 rfl rfl (by decide +kernel) ⟨Nat.le_of_ble_eq_true rfl, Nat.le_of_ble_eq_true rfl⟩ rfl (hb1.lt 0 (by decide)) (hb1.2 0 (by decide)) rfl hl.1 rfl (Nat.le_of_ble_eq_true rfl) ⟨(Nat.le_of_ble_eq_true rfl), (Nat.le_of_ble_eq_true rfl)⟩ dX13_pour_25) hS (fun rz w1 H locs hq hP hS => ?_)
      obtain ⟨hr6, hb4, hf5⟩ := hq
      rw [hr6]
      have hfr := hfr.trans hf5 (fun q hq => by (try simp only [gIn] at hq ⊢); (try dsimp only at hq ⊢); omega)
      refine g_beq S (b := decide (0 < 2)) (tgt := 33) dX13_pour_28 (by decide) (fun h3 => ?_) (fun h3 => ?_)
      · exact absurd h3 (by decide)
      · refine g_iconst S 0 dX13_pour_31 (by decide +kernel) ?_
        exact g_iret S hr hlocks hP hS (⟨Or.inr (Or.inr (Or.inl (⟨by show rfU (cellV x y) v = -2; rw [hck]; exact in_U0 h2, rfl, hb4⟩))), hfr⟩) (fun _ _ => rfl) (Nat.le_of_ble_eq_true rfl) (Nat.le_of_ble_eq_true rfl) dX13_pour_32
    · obtain ⟨u, hu0, hu100, hvu, hu⟩ := in_U1 h2
      subst hvu
      refine g_iconst S 0 dX13_pour_20 (by decide +kernel) ?_
      refine lv_goto (tgt := 25) hx hb dX13_pour_21 (by decide) ?_
      refine g_afi (g_runV S hI hP hS (k := 1) (As := [.int (nI (0))]) (rest := []) (mX13_fails l b g kp sv bf sd ip sg mk td lv tl qs qc qw 0 0 wy de ca ln fa sm pa tm 0 hb1 (by decide)) q1878 q1880 q49 q100 q1881 rfl rfl (by decide +kernel) ⟨Nat.le_of_ble_eq_true rfl, Nat.le_of_ble_eq_true rfl⟩ rfl (hb1.lt 0 (by decide)) (hb1.2 0 (by decide)) rfl hl.1 rfl (Nat.le_of_ble_eq_true rfl) ⟨(Nat.le_of_ble_eq_true rfl), (Nat.le_of_ble_eq_true rfl)⟩ dX13_pour_25) hS (fun rz w1 H locs hq hP hS => ?_)
      obtain ⟨hr9, hb7, hf8⟩ := hq
      rw [hr9]
      have hfr := hfr.trans hf8 (fun q hq => by (try simp only [gIn] at hq ⊢); (try dsimp only at hq ⊢); omega)
      refine g_beq S (b := decide (0 < 0)) (tgt := 33) dX13_pour_28 (by decide) (fun h3 => ?_) (fun h3 => ?_)
      · refine lv_aload_n hx hb dX13_pour_33 rfl (lv_at hl 0 rfl) ?_
        refine lv_aload_n hx hb dX13_pour_34 rfl (lv_at hl 0 rfl) ?_
        refine g_get S hI hP uX13 rfl (fs := _) (hb7.lt 0 (by decide)) (hb7.2 0 (by decide)) 0 (by decide) q1787 rfl (v := .ref (ad (b + 1))) rfl dX13_pour_35 ?_
        refine g_afv (g_runV S hI hP hS (k := 1) (As := [.ref (ad (b + 1))]) (rest := []) (mX13_keeps l b g kp sv bf sd ip sg mk td lv tl qs qc qw 0 0 wy de ca ln fa sm pa tm  hb7 hqw hqc) q1890 q1892 q52 q100 q1893 rfl rfl (by decide +kernel) ⟨Nat.le_of_ble_eq_true rfl, Nat.le_of_ble_eq_true rfl⟩ rfl (hb7.lt 0 (by decide)) (hb7.2 0 (by decide)) rfl hl.1 rfl (Nat.le_of_ble_eq_true rfl) ⟨(Nat.le_of_ble_eq_true rfl), (Nat.le_of_ble_eq_true rfl)⟩ dX13_pour_38) hS (fun w1 H locs hq hP hS => ?_)
        obtain ⟨hb10, hf11⟩ := hq
        have hfr := hfr.trans hf11 (fun q hq => by (try simp only [gIn] at hq ⊢); (try dsimp only at hq ⊢); omega)
        refine lv_aload_n hx hb dX13_pour_41 rfl (lv_at hl 0 rfl) ?_
        refine g_get S hI hP uX13 rfl (fs := _) (hb10.lt 0 (by decide)) (hb10.2 0 (by decide)) 0 (by decide) q1787 rfl (v := .ref (ad (b + 1))) rfl dX13_pour_42 ?_
        refine g_iconst S 1 dX13_pour_45 (by decide +kernel) ?_
        refine lv_dup2_11 hx hb dX13_pour_46 rfl rfl ?_
        refine g_iald S hI hP (f := fun j => nI (g j)) (hb10.lt 1 (by decide)) (hb10.2 1 (by decide)) (1) (by decide) (by decide) dX13_pour_47 ?_
        rw [hg1]
        refine lv_iload_n hx hb dX13_pour_48 rfl (lv_at hl 3 rfl) ?_
        refine g_iadd S dX13_pour_49 ?_
        refine g_iastN S hI hP hS (f := g) (x := po + u) (hb10.lt 1 (by decide)) (hb10.2 1 (by decide)) (1) (by decide) (by decide) dX13_pour_50 (fun H locs hP hS => ?_)
        have hP : gP E ad N (va_up _ (b + 1) (MDC E ad b (va_up g 1 (po + u)) (if qw = 0 then kpK kp qc g else kp) sv bf sd ip sg mk td lv tl qs (if qw = 0 then kpC qc else qc) qw 0 0 wy de ca ln fa sm pa tm 1)) H := hP
        have hb12 : bkP N (va_up _ (b + 1) (MDC E ad b (va_up g 1 (po + u)) (if qw = 0 then kpK kp qc g else kp) sv bf sd ip sg mk td lv tl qs (if qw = 0 then kpC qc else qc) qw 0 0 wy de ca ln fa sm pa tm 1)) b 12 (MDC E ad b (va_up g 1 (po + u)) (if qw = 0 then kpK kp qc g else kp) sv bf sd ip sg mk td lv tl qs (if qw = 0 then kpC qc else qc) qw 0 0 wy de ca ln fa sm pa tm) := MD_setA0 hb10 _
        have hfr := hfr.up (p := b + 1) (e := MDC E ad b (va_up g 1 (po + u)) (if qw = 0 then kpK kp qc g else kp) sv bf sd ip sg mk td lv tl qs (if qw = 0 then kpC qc else qc) qw 0 0 wy de ca ln fa sm pa tm 1) (by show _ ∧ _; omega)
        refine lv_aload_n hx hb dX13_pour_51 rfl (lv_at hl 0 rfl) ?_
        refine g_bipush S 6 dX13_pour_52 (by decide +kernel) ?_
        refine lv_iload_n hx hb dX13_pour_54 rfl (lv_at hl 1 rfl) ?_
        refine lv_imul hx hb dX13_pour_55 ?_
        refine lv_iload_n hx hb dX13_pour_56 rfl (lv_at hl 2 rfl) ?_
        refine lv_iadd hx hb dX13_pour_57 ?_
        rw [cell6 hck]
        refine lv_iload_n hx hb dX13_pour_58 rfl (lv_at hl 3 rfl) ?_
        have hR1 := hR.upO (u := po + u)
        refine g_afi (g_runV S hI hP hS (k := 2) (As := [.int (nI (k)), .int (nI (u))]) (rest := []) (mX13_flows l b (va_up g 1 (po + u)) (if qw = 0 then kpK kp qc g else kp) sv bf sd ip sg mk td lv tl qs (if qw = 0 then kpC qc else qc) qw 0 0 wy de ca ln fa sm pa tm ht dr pg wt wr mo mc ni (po + u) dn k u hb12 hk36 hR1 hht hwr) q1956 q1958 q57 q100 q1959 rfl rfl (by decide +kernel) ⟨Nat.le_of_ble_eq_true rfl, Nat.le_of_ble_eq_true rfl⟩ rfl (hb12.lt 0 (by decide)) (hb12.2 0 (by decide)) rfl hl.1 rfl (Nat.le_of_ble_eq_true rfl) ⟨(Nat.le_of_ble_eq_true rfl), (Nat.le_of_ble_eq_true rfl)⟩ dX13_pour_59) hS (fun rz w1 H locs hq hP hS => ?_)
        obtain ⟨hr9, g9, hR9, hb9, hf9⟩ := hq
        rw [hr9]
        have hfr := hfr.trans hf9 (fun q hq => hq)
        exact g_iret S hr hlocks hP hS (⟨Or.inl (⟨by show rfU (cellV x y) (nI u) = nI 0; simp only [rfU, hck, hu, if_neg (show ¬ u = 0 by omega)], g9, _, _, k, u, _, ⟨hk36, by omega, fun _ => hck, fun _ => rfl, fun z => absurd z (by decide), fun z => absurd z (by decide)⟩, rfl, hR9, hb9⟩), hfr⟩) (fun _ _ => rfl) (Nat.le_of_ble_eq_true rfl) (Nat.le_of_ble_eq_true rfl) dX13_pour_62
      · exact absurd h3 (by decide)
set_option maxHeartbeats 4000000 in
set_option maxRecDepth 100000 in
/-- water settles -/
theorem mX13_settle (l : Launch) {E : gE} {ad : Nat → Nat} {N : Nat} {w : Nat → va_E} (b : Nat) (g kp sv bf sd ip sg mk td lv tl : Nat → Nat) (qs qc qw qd co wy : Nat) (de : Int32) (ca ln : Nat) (fa : Option Nat) (sm pa tm : Nat) (ht dr pg wt wr mo : Nat → Nat) (mc ni po dn : Nat)  (hb_m : bkP N w b 12 (MDC E ad b g kp sv bf sd ip sg mk td lv tl qs qc qw qd co wy de ca ln fa sm pa tm)) (hR : mRg g ht pg wt wr mo mc ni po dn) (hht : ∀ k, k < 36 → ht k ≤ 99) (hpg : ∀ k, k < 36 → pg k ≤ 1) (hwr : ∀ k, k < 36 → wr k ≤ 3) (hm : mc ≤ 4) (hmo : ∀ k, k < mc → mo k < 36) (hqw : qw ≤ 1) (hqc : qc ≤ 8) : gMi l yX13_settle (lw_ws yX13_settle cX13_settle 3 (some .int)) ({ frames := 6, cells := 0, slots := 0, locals := 135 } : Room) E ad N w [.ref (ad (b))] (fun r w' => ((cmR ht pg wr mo mc 5 none (-1) = nI 0 ∧ ∃ (g' mk' sd' : Nat → Nat) (k u qd' : Nat), cmK 5 none (-1) k u mc ∧ r = (cmS 5 k u ht dr pg wt wr mo mc ni po dn).1 ∧ mRS g' (cmS 5 k u ht dr pg wt wr mo mc ni po dn).2 ∧ bkP N w' b 12 (MDC E ad b g' (if qw = 0 then kpK kp qc g else kp) sv bf sd' ip sg mk' td lv tl qs (if qw = 0 then kpC qc else qc) qw qd' 0 wy de ca ln fa sm pa tm)) ∨ (cmR ht pg wr mo mc 5 none (-1) = -1 ∧ r = nI 0 ∧ bkP N w' b 12 (MDC E ad b g kp sv bf sd ip sg mk td lv tl qs qc qw 0 1 wy de ca ln fa sm pa tm)) ∨ (cmR ht pg wr mo mc 5 none (-1) = -2 ∧ r = nI 0 ∧ bkP N w' b 12 (MDC E ad b g kp sv bf sd ip sg mk td lv tl qs qc qw 0 2 wy de ca ln fa sm pa tm)) ∨ (∃ z, 0 < z ∧ z < 7 ∧ cmR ht pg wr mo mc 5 none (-1) = nI z ∧ r = nI 0 ∧ bkP N w' b 12 (MDC E ad b g kp sv bf sd ip sg mk td lv tl qs qc qw 1 0 z (cmT pg wr mo mc z none (-1)) 0 ln fa sm pa tm))) ∧ gFr (gIn b 12) w w') 0 0 := by
  refine Met.ofW (cc := cX13_settle) (maxL := 3) (ret := (some .int)) (by decide) rfl ?_
  intro p e s m args below meth cd s₁ B hml hv
  obtain ⟨rfl, hI, hP⟩ := hv
  obtain ⟨S, hr, hlocks⟩ := gPre (ws := []) B hml (C := RX13) rfl
  have hx := S.1
  have hb := S.2.1
  have hS : va_S (gA E) s.heap s.heap [] := va_S.rf
  have hfr : gFr (gIn b 12) w w := gFr.rf
  have hl := lv_entry ([.ref (ad (b))]) (n := 3) (Nat.le_of_ble_eq_true rfl)
  rw [lg_entry_eq]
  generalize (lg_sl ([.ref (ad (b))]) ++ List.replicate (3 - (lg_sl ([.ref (ad (b))])).length) Slot.unset).toArray = ls at hl ⊢
  have hl : lv_has ls 3 [(0, .ref (ad (b)))] := hl
  obtain ⟨hgh, hgw, hgp, hgt, hgm, hg3, hg0, hg1, hg2⟩ := id hR
  refine lv_aload_n hx hb dX13_settle_0 rfl (lv_at hl 0 rfl) ?_
  refine lv_aload_n hx hb dX13_settle_1 rfl (lv_at hl 0 rfl) ?_
  refine g_get S hI hP uX13 rfl (fs := _) (hb_m.lt 0 (by decide)) (hb_m.2 0 (by decide)) 0 (by decide) q1787 rfl (v := .ref (ad (b + 1))) rfl dX13_settle_2 ?_
  refine g_afv (g_runV S hI hP hS (k := 1) (As := [.ref (ad (b + 1))]) (rest := []) (mX13_keeps l b g kp sv bf sd ip sg mk td lv tl qs qc qw qd co wy de ca ln fa sm pa tm  hb_m hqw hqc) q1890 q1892 q52 q100 q1893 rfl rfl (by decide +kernel) ⟨Nat.le_of_ble_eq_true rfl, Nat.le_of_ble_eq_true rfl⟩ rfl (hb_m.lt 0 (by decide)) (hb_m.2 0 (by decide)) rfl hl.1 rfl (Nat.le_of_ble_eq_true rfl) ⟨(Nat.le_of_ble_eq_true rfl), (Nat.le_of_ble_eq_true rfl)⟩ dX13_settle_5) hS (fun w1 H locs hq hP hS => ?_)
  obtain ⟨hb1, hf2⟩ := hq
  have hfr := hfr.trans hf2 (fun q hq => by (try simp only [gIn] at hq ⊢); (try dsimp only at hq ⊢); omega)
  refine g_iconst S 0 dX13_settle_8 (by decide +kernel) ?_
  refine lv_istore_n (lv' := [(1, .int (nI (0))), (0, .ref (ad (b)))]) hx hb dX13_settle_9 rfl hl (by decide) rfl (fun ls hl => ?_)
  refine g_iconst S 0 dX13_settle_10 (by decide +kernel) ?_
  refine lv_istore_n (lv' := [(2, .int (nI (0))), (1, .int (nI (0))), (0, .ref (ad (b)))]) hx hb dX13_settle_11 rfl hl (by decide) rfl (fun ls hl => ?_)
  have lpa : ∀ (n : Nat) (i : Nat) (mk1 : Nat → Nat), 36 - i < n → (i ≤ 36) → (∀ j, j < i → mk1 j = wt j) → ∀ (w1 : Nat → va_E) (H : Heap) (locs : List Loc), gP E ad N w1 H → va_S (gA E) s.heap H locs → bkP N w1 b 12 (MDC E ad b g (if qw = 0 then kpK kp qc g else kp) sv bf sd ip sg mk1 td lv tl qs (if qw = 0 then kpC qc else qc) qw qd 0 wy de ca ln fa sm pa tm) → gFr (gIn b 12) w w1 → ∀ (ls : Array Slot), lv_has ls 3 [(2, .int (nI (i))), (1, .int (nI (0))), (0, .ref (ad (b)))] → W p l e (headSpec (lw_ws yX13_settle cX13_settle 3 (some .int)) ({ frames := 6, cells := 0, slots := 0, locals := 135 } : Room)).room s m ([.ref (ad (b))] : List Value).toArray below meth cd H locs 0 0 (MQ below (va_Qi (fun r w' => ((cmR ht pg wr mo mc 5 none (-1) = nI 0 ∧ ∃ (g' mk' sd' : Nat → Nat) (k u qd' : Nat), cmK 5 none (-1) k u mc ∧ r = (cmS 5 k u ht dr pg wt wr mo mc ni po dn).1 ∧ mRS g' (cmS 5 k u ht dr pg wt wr mo mc ni po dn).2 ∧ bkP N w' b 12 (MDC E ad b g' (if qw = 0 then kpK kp qc g else kp) sv bf sd' ip sg mk' td lv tl qs (if qw = 0 then kpC qc else qc) qw qd' 0 wy de ca ln fa sm pa tm)) ∨ (cmR ht pg wr mo mc 5 none (-1) = -1 ∧ r = nI 0 ∧ bkP N w' b 12 (MDC E ad b g kp sv bf sd ip sg mk td lv tl qs qc qw 0 1 wy de ca ln fa sm pa tm)) ∨ (cmR ht pg wr mo mc 5 none (-1) = -2 ∧ r = nI 0 ∧ bkP N w' b 12 (MDC E ad b g kp sv bf sd ip sg mk td lv tl qs qc qw 0 2 wy de ca ln fa sm pa tm)) ∨ (∃ z, 0 < z ∧ z < 7 ∧ cmR ht pg wr mo mc 5 none (-1) = nI z ∧ r = nI 0 ∧ bkP N w' b 12 (MDC E ad b g kp sv bf sd ip sg mk td lv tl qs qc qw 1 0 z (cmT pg wr mo mc z none (-1)) 0 ln fa sm pa tm))) ∧ gFr (gIn b 12) w w') (gB E ad N) (gA E)) ([.ref (ad (b))] : List Value).toArray s 0 0 (gA E)) (F0 m 12 ls []) := by
    intro n
    induction n with
    | zero => intro i mk1 hmeas; omega
    | succ n ih_lpa =>
      intro i mk1 hmeas hi hm1 w1 H locs hP hS hb3 hfr ls hl
      refine lv_iload_n hx hb dX13_settle_12 rfl (lv_at hl 0 rfl) ?_
      refine g_bipush S 36 dX13_settle_13 (by decide +kernel) ?_
      refine g_ge S (a := i) (b := 36) (by omega) (by omega) (tgt := 39) dX13_settle_15 (by decide) (fun h => ?_) (fun h => ?_)
      · have e36 : i = 36 := by omega
        subst e36
        refine g_iconst S 0 dX13_settle_39 (by decide +kernel) ?_
        refine lv_istore_n (lv' := [(2, .int (nI (0))), (1, .int (nI (0))), (0, .ref (ad (b)))]) hx hb dX13_settle_40 rfl hl (by decide) rfl (fun ls hl => ?_)
        have lpb : ∀ (n : Nat) (i : Nat) (g1 : Nat → Nat), 36 - i < n → (i ≤ 36) → (mRg g1 ht pg (fil i (fun _ => 0) wt) wr mo mc ni po dn) → ∀ (w1 : Nat → va_E) (H : Heap) (locs : List Loc), gP E ad N w1 H → va_S (gA E) s.heap H locs → bkP N w1 b 12 (MDC E ad b g1 (if qw = 0 then kpK kp qc g else kp) sv bf sd ip sg mk1 td lv tl qs (if qw = 0 then kpC qc else qc) qw qd 0 wy de ca ln fa sm pa tm) → gFr (gIn b 12) w w1 → ∀ (ls : Array Slot), lv_has ls 3 [(2, .int (nI (i))), (1, .int (nI (0))), (0, .ref (ad (b)))] → W p l e (headSpec (lw_ws yX13_settle cX13_settle 3 (some .int)) ({ frames := 6, cells := 0, slots := 0, locals := 135 } : Room)).room s m ([.ref (ad (b))] : List Value).toArray below meth cd H locs 0 0 (MQ below (va_Qi (fun r w' => ((cmR ht pg wr mo mc 5 none (-1) = nI 0 ∧ ∃ (g' mk' sd' : Nat → Nat) (k u qd' : Nat), cmK 5 none (-1) k u mc ∧ r = (cmS 5 k u ht dr pg wt wr mo mc ni po dn).1 ∧ mRS g' (cmS 5 k u ht dr pg wt wr mo mc ni po dn).2 ∧ bkP N w' b 12 (MDC E ad b g' (if qw = 0 then kpK kp qc g else kp) sv bf sd' ip sg mk' td lv tl qs (if qw = 0 then kpC qc else qc) qw qd' 0 wy de ca ln fa sm pa tm)) ∨ (cmR ht pg wr mo mc 5 none (-1) = -1 ∧ r = nI 0 ∧ bkP N w' b 12 (MDC E ad b g kp sv bf sd ip sg mk td lv tl qs qc qw 0 1 wy de ca ln fa sm pa tm)) ∨ (cmR ht pg wr mo mc 5 none (-1) = -2 ∧ r = nI 0 ∧ bkP N w' b 12 (MDC E ad b g kp sv bf sd ip sg mk td lv tl qs qc qw 0 2 wy de ca ln fa sm pa tm)) ∨ (∃ z, 0 < z ∧ z < 7 ∧ cmR ht pg wr mo mc 5 none (-1) = nI z ∧ r = nI 0 ∧ bkP N w' b 12 (MDC E ad b g kp sv bf sd ip sg mk td lv tl qs qc qw 1 0 z (cmT pg wr mo mc z none (-1)) 0 ln fa sm pa tm))) ∧ gFr (gIn b 12) w w') (gB E ad N) (gA E)) ([.ref (ad (b))] : List Value).toArray s 0 0 (gA E)) (F0 m 41 ls []) := by
          intro n
          induction n with
          | zero => intro i g1 hmeas; omega
          | succ n ih_lpb =>
            intro i g1 hmeas hi hR1 w1 H locs hP hS hb4 hfr ls hl
            refine lv_iload_n hx hb dX13_settle_41 rfl (lv_at hl 0 rfl) ?_
            refine g_bipush S 36 dX13_settle_42 (by decide +kernel) ?_
            refine g_ge S (a := i) (b := 36) (by omega) (by omega) (tgt := 63) dX13_settle_44 (by decide) (fun h => ?_) (fun h => ?_)
            · have e36 : i = 36 := by omega
              subst e36
              refine g_iconst S 0 dX13_settle_63 (by decide +kernel) ?_
              refine lv_istore_n (lv' := [(2, .int (nI (0))), (1, .int (nI (0))), (0, .ref (ad (b)))]) hx hb dX13_settle_64 rfl hl (by decide) rfl (fun ls hl => ?_)
              have hR2 : mRg g1 ht pg (stM ht wr wt dn 0).1 wr mo mc ni po (stM ht wr wt dn 0).2.1 := hR1.cg (fun _ _ => rfl) (fun _ _ => rfl) (fun j hj => fil_in hj) (fun _ _ => rfl) (fun _ _ => rfl)
              have lpc : ∀ (n : Nat) (i : Nat) (g2 : Nat → Nat), 36 - i < n → (i ≤ 36) → (mRg g2 ht pg (stM ht wr wt dn i).1 wr mo mc ni po (stM ht wr wt dn i).2.1) → ∀ (w1 : Nat → va_E) (H : Heap) (locs : List Loc), gP E ad N w1 H → va_S (gA E) s.heap H locs → bkP N w1 b 12 (MDC E ad b g2 (if qw = 0 then kpK kp qc g else kp) sv bf sd ip sg mk1 td lv tl qs (if qw = 0 then kpC qc else qc) qw qd 0 wy de ca ln fa sm pa tm) → gFr (gIn b 12) w w1 → ∀ (ls : Array Slot), lv_has ls 3 [(2, .int (nI (i))), (1, .int (nI ((stM ht wr wt dn i).2.2))), (0, .ref (ad (b)))] → W p l e (headSpec (lw_ws yX13_settle cX13_settle 3 (some .int)) ({ frames := 6, cells := 0, slots := 0, locals := 135 } : Room)).room s m ([.ref (ad (b))] : List Value).toArray below meth cd H locs 0 0 (MQ below (va_Qi (fun r w' => ((cmR ht pg wr mo mc 5 none (-1) = nI 0 ∧ ∃ (g' mk' sd' : Nat → Nat) (k u qd' : Nat), cmK 5 none (-1) k u mc ∧ r = (cmS 5 k u ht dr pg wt wr mo mc ni po dn).1 ∧ mRS g' (cmS 5 k u ht dr pg wt wr mo mc ni po dn).2 ∧ bkP N w' b 12 (MDC E ad b g' (if qw = 0 then kpK kp qc g else kp) sv bf sd' ip sg mk' td lv tl qs (if qw = 0 then kpC qc else qc) qw qd' 0 wy de ca ln fa sm pa tm)) ∨ (cmR ht pg wr mo mc 5 none (-1) = -1 ∧ r = nI 0 ∧ bkP N w' b 12 (MDC E ad b g kp sv bf sd ip sg mk td lv tl qs qc qw 0 1 wy de ca ln fa sm pa tm)) ∨ (cmR ht pg wr mo mc 5 none (-1) = -2 ∧ r = nI 0 ∧ bkP N w' b 12 (MDC E ad b g kp sv bf sd ip sg mk td lv tl qs qc qw 0 2 wy de ca ln fa sm pa tm)) ∨ (∃ z, 0 < z ∧ z < 7 ∧ cmR ht pg wr mo mc 5 none (-1) = nI z ∧ r = nI 0 ∧ bkP N w' b 12 (MDC E ad b g kp sv bf sd ip sg mk td lv tl qs qc qw 1 0 z (cmT pg wr mo mc z none (-1)) 0 ln fa sm pa tm))) ∧ gFr (gIn b 12) w w') (gB E ad N) (gA E)) ([.ref (ad (b))] : List Value).toArray s 0 0 (gA E)) (F0 m 65 ls []) := by
                intro n
                induction n with
                | zero => intro i g2 hmeas; omega
                | succ n ih_lpc =>
                  intro i g2 hmeas hi hR2 w1 H locs hP hS hb5 hfr ls hl
                  refine lv_iload_n hx hb dX13_settle_65 rfl (lv_at hl 0 rfl) ?_
                  refine g_bipush S 36 dX13_settle_66 (by decide +kernel) ?_
                  refine g_ge S (a := i) (b := 36) (by omega) (by omega) (tgt := 91) dX13_settle_68 (by decide) (fun h => ?_) (fun h => ?_)
                  · have e36 : i = 36 := by omega
                    subst e36
                    obtain ⟨s1, s2, s3⟩ := stM_36 (ht := ht) (wr := wr) (wt := wt) (dn := dn)
                    rw [s2] at hR2
                    refine lv_iload_n hx hb dX13_settle_91 rfl (lv_at hl 1 rfl) ?_
                    exact g_iret S hr hlocks hP hS (⟨Or.inl (⟨rfl, g2, _, _, 0, 0, _, ⟨by decide, by decide, fun z => absurd z (by decide), fun z => absurd z (by decide), fun z => absurd z (by decide), fun z => absurd z (by decide)⟩, congrArg nI s3, hR2.cg (fun _ _ => rfl) (fun _ _ => rfl) s1 (fun _ _ => rfl) (fun _ _ => rfl), hb5⟩), hfr⟩) (fun _ _ => rfl) (Nat.le_of_ble_eq_true rfl) (Nat.le_of_ble_eq_true rfl) dX13_settle_92
                  · refine lv_iload_n hx hb dX13_settle_71 rfl (lv_at hl 1 rfl) ?_
                    refine lv_aload_n hx hb dX13_settle_72 rfl (lv_at hl 2 rfl) ?_
                    refine lv_iload_n hx hb dX13_settle_73 rfl (lv_at hl 0 rfl) ?_
                    refine lv_aload_n hx hb dX13_settle_74 rfl (lv_at hl 2 rfl) ?_
                    refine g_get S hI hP uX13 rfl (fs := _) (hb5.lt 0 (by decide)) (hb5.2 0 (by decide)) 18 (by decide) q1805 rfl (v := .ref (ad (b + 8))) rfl dX13_settle_75 ?_
                    refine lv_iload_n hx hb dX13_settle_78 rfl (lv_at hl 0 rfl) ?_
                    refine g_iald S hI hP (f := fun j => nI (mk1 j)) (hb5.lt 8 (by decide)) (hb5.2 8 (by decide)) (i) (h) (by decide) dX13_settle_79 ?_
                    rw [hm1 i h]
                    refine g_afi (g_runV S hI hP hS (k := 2) (As := [.int (nI (i)), .int (nI (wt i))]) (rest := [.int (nI ((stM ht wr wt dn i).2.2))]) (mX13_flows l b g2 (if qw = 0 then kpK kp qc g else kp) sv bf sd ip sg mk1 td lv tl qs (if qw = 0 then kpC qc else qc) qw qd 0 wy de ca ln fa sm pa tm ht dr pg (stM ht wr wt dn i).1 wr mo mc ni po (stM ht wr wt dn i).2.1 i (wt i) hb5 h hR2 hht hwr) q1956 q1958 q57 q100 q1959 rfl rfl (by decide +kernel) ⟨Nat.le_of_ble_eq_true rfl, Nat.le_of_ble_eq_true rfl⟩ rfl (hb5.lt 0 (by decide)) (hb5.2 0 (by decide)) rfl hl.1 rfl (Nat.le_of_ble_eq_true rfl) ⟨(Nat.le_of_ble_eq_true rfl), (Nat.le_of_ble_eq_true rfl)⟩ dX13_settle_80) hS (fun rz w1 H locs hq hP hS => ?_)
                    obtain ⟨hr9, g9, hR9, hb9, hf9⟩ := hq
                    rw [hr9]
                    have hfr := hfr.trans hf9 (fun q hq => hq)
                    refine g_iadd S dX13_settle_83 ?_
                    refine lv_istore_n (lv' := [(1, .int (nI ((stM ht wr wt dn i).2.2 + (if 3 ≤ wr (endN ht wr 36 i) then wt i else 0)))), (2, .int (nI (i))), (0, .ref (ad (b)))]) hx hb dX13_settle_84 rfl hl (by decide) rfl (fun ls hl => ?_)
                    refine lv_iinc (v := nI (i + 1)) (lv' := [(2, .int (nI (i + 1))), (1, .int (nI ((stM ht wr wt dn i).2.2 + (if 3 ≤ wr (endN ht wr 36 i) then wt i else 0)))), (0, .ref (ad (b)))]) hx hb dX13_settle_85 hl (k := 1) rfl (g_inc _ 1 (by decide +kernel)) (by decide) rfl (fun ls hl => ?_)
                    refine lv_goto (tgt := 65) hx hb dX13_settle_88 (by decide) ?_
                    have hl : lv_has ls 3 [(2, .int (nI (i + 1))), (1, .int (nI ((stM ht wr wt dn (i + 1)).2.2))), (0, .ref (ad (b)))] := by exact hl
                    exact ih_lpc (i + 1) (g9) (by omega) (by omega) (hR9) _ _ _ hP hS hb9 hfr ls (lv_sub hl [0, 1, 2] rfl)
              exact lpc (36 - (0) + 1) (0) (g1) (Nat.lt_succ_self _) (by omega) (hR2) _ _ _ hP hS hb4 hfr ls (lv_sub hl [0, 1, 2] rfl)
            · refine lv_aload_n hx hb dX13_settle_47 rfl (lv_at hl 2 rfl) ?_
              refine g_get S hI hP uX13 rfl (fs := _) (hb4.lt 0 (by decide)) (hb4.2 0 (by decide)) 0 (by decide) q1787 rfl (v := .ref (ad (b + 1))) rfl dX13_settle_48 ?_
              refine g_bipush S 112 dX13_settle_51 (by decide +kernel) ?_
              refine lv_iload_n hx hb dX13_settle_53 rfl (lv_at hl 0 rfl) ?_
              refine g_iadd S dX13_settle_54 ?_
              refine g_iconst S 0 dX13_settle_55 (by decide +kernel) ?_
              refine g_iastN S hI hP hS (f := g1) (x := 0) (hb4.lt 1 (by decide)) (hb4.2 1 (by decide)) (112 + i) (by omega) (by decide) dX13_settle_56 (fun H locs hP hS => ?_)
              have hP : gP E ad N (va_up _ (b + 1) (MDC E ad b (va_up g1 (112 + i) 0) (if qw = 0 then kpK kp qc g else kp) sv bf sd ip sg mk1 td lv tl qs (if qw = 0 then kpC qc else qc) qw qd 0 wy de ca ln fa sm pa tm 1)) H := hP
              have hb6 : bkP N (va_up _ (b + 1) (MDC E ad b (va_up g1 (112 + i) 0) (if qw = 0 then kpK kp qc g else kp) sv bf sd ip sg mk1 td lv tl qs (if qw = 0 then kpC qc else qc) qw qd 0 wy de ca ln fa sm pa tm 1)) b 12 (MDC E ad b (va_up g1 (112 + i) 0) (if qw = 0 then kpK kp qc g else kp) sv bf sd ip sg mk1 td lv tl qs (if qw = 0 then kpC qc else qc) qw qd 0 wy de ca ln fa sm pa tm) := MD_setA0 hb4 _
              have hfr := hfr.up (p := b + 1) (e := MDC E ad b (va_up g1 (112 + i) 0) (if qw = 0 then kpK kp qc g else kp) sv bf sd ip sg mk1 td lv tl qs (if qw = 0 then kpC qc else qc) qw qd 0 wy de ca ln fa sm pa tm 1) (by show _ ∧ _; omega)
              refine lv_iinc (v := nI (i + 1)) (lv' := [(2, .int (nI (i + 1))), (1, .int (nI (0))), (0, .ref (ad (b)))]) hx hb dX13_settle_57 hl (k := 0) rfl (g_inc _ 1 (by decide +kernel)) (by decide) rfl (fun ls hl => ?_)
              refine lv_goto (tgt := 41) hx hb dX13_settle_60 (by decide) ?_
              exact ih_lpb (i + 1) (va_up g1 (112 + i) 0) (by omega) (by omega) (by have := hR1.upT (u := 0) h; rw [show va_up (fil i (fun _ => 0) wt) i 0 = fil (i + 1) (fun _ => 0) wt from fil_up i (fun _ => 0) wt] at this; exact this) _ _ _ hP hS hb6 hfr ls (lv_sub hl [0, 1, 2] rfl)
        exact lpb (36 - (0) + 1) (0) (g) (Nat.lt_succ_self _) (by omega) (by rw [fil_0]; exact hR) _ _ _ hP hS hb3 hfr ls (lv_sub hl [0, 1, 2] rfl)
      · refine lv_aload_n hx hb dX13_settle_18 rfl (lv_at hl 2 rfl) ?_
        refine g_get S hI hP uX13 rfl (fs := _) (hb3.lt 0 (by decide)) (hb3.2 0 (by decide)) 18 (by decide) q1805 rfl (v := .ref (ad (b + 8))) rfl dX13_settle_19 ?_
        refine lv_iload_n hx hb dX13_settle_22 rfl (lv_at hl 0 rfl) ?_
        refine lv_aload_n hx hb dX13_settle_23 rfl (lv_at hl 2 rfl) ?_
        refine g_get S hI hP uX13 rfl (fs := _) (hb3.lt 0 (by decide)) (hb3.2 0 (by decide)) 0 (by decide) q1787 rfl (v := .ref (ad (b + 1))) rfl dX13_settle_24 ?_
        refine g_bipush S 112 dX13_settle_27 (by decide +kernel) ?_
        refine lv_iload_n hx hb dX13_settle_29 rfl (lv_at hl 0 rfl) ?_
        refine g_iadd S dX13_settle_30 ?_
        refine g_iald S hI hP (f := fun j => nI (g j)) (hb3.lt 1 (by decide)) (hb3.2 1 (by decide)) (112 + i) (by omega) (by decide) dX13_settle_31 ?_
        rw [hgt i h]
        refine g_iastN S hI hP hS (f := mk1) (x := wt i) (hb3.lt 8 (by decide)) (hb3.2 8 (by decide)) (i) (h) (by decide) dX13_settle_32 (fun H locs hP hS => ?_)
        have hP : gP E ad N (va_up _ (b + 8) (MDC E ad b g (if qw = 0 then kpK kp qc g else kp) sv bf sd ip sg (va_up mk1 i (wt i)) td lv tl qs (if qw = 0 then kpC qc else qc) qw qd 0 wy de ca ln fa sm pa tm 8)) H := hP
        have hb7 : bkP N (va_up _ (b + 8) (MDC E ad b g (if qw = 0 then kpK kp qc g else kp) sv bf sd ip sg (va_up mk1 i (wt i)) td lv tl qs (if qw = 0 then kpC qc else qc) qw qd 0 wy de ca ln fa sm pa tm 8)) b 12 (MDC E ad b g (if qw = 0 then kpK kp qc g else kp) sv bf sd ip sg (va_up mk1 i (wt i)) td lv tl qs (if qw = 0 then kpC qc else qc) qw qd 0 wy de ca ln fa sm pa tm) := MD_setA7 hb3 _
        have hfr := hfr.up (p := b + 8) (e := MDC E ad b g (if qw = 0 then kpK kp qc g else kp) sv bf sd ip sg (va_up mk1 i (wt i)) td lv tl qs (if qw = 0 then kpC qc else qc) qw qd 0 wy de ca ln fa sm pa tm 8) (by show _ ∧ _; omega)
        refine lv_iinc (v := nI (i + 1)) (lv' := [(2, .int (nI (i + 1))), (1, .int (nI (0))), (0, .ref (ad (b)))]) hx hb dX13_settle_33 hl (k := 0) rfl (g_inc _ 1 (by decide +kernel)) (by decide) rfl (fun ls hl => ?_)
        refine lv_goto (tgt := 12) hx hb dX13_settle_36 (by decide) ?_
        exact ih_lpa (i + 1) (va_up mk1 i (wt i)) (by omega) (by omega) (fun j hj => by by_cases q : j = i; rw [q, va_up_self]; rw [va_up_ne _ _ q]; exact hm1 j (by omega)) _ _ _ hP hS hb7 hfr ls (lv_sub hl [0, 1, 2] rfl)
  exact lpa (36 - (0) + 1) (0) (mk) (Nat.lt_succ_self _) (by omega) (fun j hj => absurd hj (Nat.not_lt_zero _)) _ _ _ hP hS hb1 hfr ls (lv_sub hl [0, 1, 2] rfl)
set_option maxHeartbeats 4000000 in
set_option maxRecDepth 100000 in
/-- the sheet is draped -/
theorem mX13_drape (l : Launch) {E : gE} {ad : Nat → Nat} {N : Nat} {w : Nat → va_E} (b : Nat) (g kp sv bf sd ip sg mk td lv tl : Nat → Nat) (qs qc qw qd co wy : Nat) (de : Int32) (ca ln : Nat) (fa : Option Nat) (sm pa tm : Nat) (ht dr pg wt wr mo : Nat → Nat) (mc ni po dn : Nat)  (hb_m : bkP N w b 12 (MDC E ad b g kp sv bf sd ip sg mk td lv tl qs qc qw qd co wy de ca ln fa sm pa tm)) (hR : mRg g ht pg wt wr mo mc ni po dn) (hht : ∀ k, k < 36 → ht k ≤ 99) (hpg : ∀ k, k < 36 → pg k ≤ 1) (hwr : ∀ k, k < 36 → wr k ≤ 3) (hm : mc ≤ 4) (hmo : ∀ k, k < mc → mo k < 36) (hqw : qw ≤ 1) (hqc : qc ≤ 8) : gMi l yX13_drape (lw_ws yX13_drape cX13_drape 6 (some .int)) ({ frames := 3, cells := 0, slots := 0, locals := 66 } : Room) E ad N w [.ref (ad (b))] (fun r w' => ((cmR ht pg wr mo mc 3 none (-1) = nI 0 ∧ ∃ (g' mk' sd' : Nat → Nat) (k u qd' : Nat), cmK 3 none (-1) k u mc ∧ r = (cmS 3 k u ht dr pg wt wr mo mc ni po dn).1 ∧ mRS g' (cmS 3 k u ht dr pg wt wr mo mc ni po dn).2 ∧ bkP N w' b 12 (MDC E ad b g' (if qw = 0 then kpK kp qc g else kp) sv bf sd' ip sg mk' td lv tl qs (if qw = 0 then kpC qc else qc) qw qd' 0 wy de ca ln fa sm pa tm)) ∨ (cmR ht pg wr mo mc 3 none (-1) = -1 ∧ r = nI 0 ∧ bkP N w' b 12 (MDC E ad b g kp sv bf sd ip sg mk td lv tl qs qc qw 0 1 wy de ca ln fa sm pa tm)) ∨ (cmR ht pg wr mo mc 3 none (-1) = -2 ∧ r = nI 0 ∧ bkP N w' b 12 (MDC E ad b g kp sv bf sd ip sg mk td lv tl qs qc qw 0 2 wy de ca ln fa sm pa tm)) ∨ (∃ z, 0 < z ∧ z < 7 ∧ cmR ht pg wr mo mc 3 none (-1) = nI z ∧ r = nI 0 ∧ bkP N w' b 12 (MDC E ad b g kp sv bf sd ip sg mk td lv tl qs qc qw 1 0 z (cmT pg wr mo mc z none (-1)) 0 ln fa sm pa tm))) ∧ gFr (gIn b 12) w w') 0 0 := by
  refine Met.ofW (cc := cX13_drape) (maxL := 6) (ret := (some .int)) (by decide) rfl ?_
  intro p e s m args below meth cd s₁ B hml hv
  obtain ⟨rfl, hI, hP⟩ := hv
  obtain ⟨S, hr, hlocks⟩ := gPre (ws := []) B hml (C := RX13) rfl
  have hx := S.1
  have hb := S.2.1
  have hS : va_S (gA E) s.heap s.heap [] := va_S.rf
  have hfr : gFr (gIn b 12) w w := gFr.rf
  have hl := lv_entry ([.ref (ad (b))]) (n := 6) (Nat.le_of_ble_eq_true rfl)
  rw [lg_entry_eq]
  generalize (lg_sl ([.ref (ad (b))]) ++ List.replicate (6 - (lg_sl ([.ref (ad (b))])).length) Slot.unset).toArray = ls at hl ⊢
  have hl : lv_has ls 6 [(0, .ref (ad (b)))] := hl
  obtain ⟨hgh, hgw, hgp, hgt, hgm, hg3, hg0, hg1, hg2⟩ := id hR
  refine lv_aload_n hx hb dX13_drape_0 rfl (lv_at hl 0 rfl) ?_
  refine lv_aload_n hx hb dX13_drape_1 rfl (lv_at hl 0 rfl) ?_
  refine g_get S hI hP uX13 rfl (fs := _) (hb_m.lt 0 (by decide)) (hb_m.2 0 (by decide)) 0 (by decide) q1787 rfl (v := .ref (ad (b + 1))) rfl dX13_drape_2 ?_
  refine g_afv (g_runV S hI hP hS (k := 1) (As := [.ref (ad (b + 1))]) (rest := []) (mX13_keeps l b g kp sv bf sd ip sg mk td lv tl qs qc qw qd co wy de ca ln fa sm pa tm  hb_m hqw hqc) q1890 q1892 q52 q100 q1893 rfl rfl (by decide +kernel) ⟨Nat.le_of_ble_eq_true rfl, Nat.le_of_ble_eq_true rfl⟩ rfl (hb_m.lt 0 (by decide)) (hb_m.2 0 (by decide)) rfl hl.1 rfl (Nat.le_of_ble_eq_true rfl) ⟨(Nat.le_of_ble_eq_true rfl), (Nat.le_of_ble_eq_true rfl)⟩ dX13_drape_5) hS (fun w1 H locs hq hP hS => ?_)
  obtain ⟨hb1, hf2⟩ := hq
  have hfr := hfr.trans hf2 (fun q hq => by (try simp only [gIn] at hq ⊢); (try dsimp only at hq ⊢); omega)
  refine lv_aload_n hx hb dX13_drape_8 rfl (lv_at hl 0 rfl) ?_
  refine g_get S hI hP uX13 rfl (fs := _) (hb1.lt 0 (by decide)) (hb1.2 0 (by decide)) 0 (by decide) q1787 rfl (v := .ref (ad (b + 1))) rfl dX13_drape_9 ?_
  refine g_iconst S 0 dX13_drape_12 (by decide +kernel) ?_
  refine lv_aload_n hx hb dX13_drape_13 rfl (lv_at hl 0 rfl) ?_
  refine g_get S hI hP uX13 rfl (fs := _) (hb1.lt 0 (by decide)) (hb1.2 0 (by decide)) 4 (by decide) q1791 rfl (v := .ref (ad (b + 5))) rfl dX13_drape_14 ?_
  refine g_iconst S 0 dX13_drape_17 (by decide +kernel) ?_
  refine g_afv (g_runS S hI hP hS (k := 4) (As := [.ref (ad (b + 1)), .int (nI (0)), .ref (ad (b + 5)), .int (nI (0))]) (rest := []) (mX13_copies l (b + 1) (b + 5) (0) (0) 152 152 g sd (hb1.lt 1 (by decide)) (hb1.lt 5 (by decide)) (by omega) (hb1.2 1 (by decide)) (hb1.2 5 (by decide)) (by omega) (by omega) (by decide) (by decide)) q1894 q1895 q100 q1896 rfl rfl (by decide +kernel) ⟨Nat.le_of_ble_eq_true rfl, Nat.le_of_ble_eq_true rfl⟩ rfl hl.1 rfl (Nat.le_of_ble_eq_true rfl) ⟨(Nat.le_of_ble_eq_true rfl), (Nat.le_of_ble_eq_true rfl)⟩ dX13_drape_18) hS (fun w1 H locs hq hP hS => ?_)
  obtain hq := hq
  subst hq
  have hP : gP E ad N (va_up _ (b + 5) (MDC E ad b g (if qw = 0 then kpK kp qc g else kp) sv bf (cpA g 0 sd 0 152) ip sg mk td lv tl qs (if qw = 0 then kpC qc else qc) qw qd 0 wy de ca ln fa sm pa tm 5)) H := hP
  have hb3 : bkP N (va_up _ (b + 5) (MDC E ad b g (if qw = 0 then kpK kp qc g else kp) sv bf (cpA g 0 sd 0 152) ip sg mk td lv tl qs (if qw = 0 then kpC qc else qc) qw qd 0 wy de ca ln fa sm pa tm 5)) b 12 (MDC E ad b g (if qw = 0 then kpK kp qc g else kp) sv bf (cpA g 0 sd 0 152) ip sg mk td lv tl qs (if qw = 0 then kpC qc else qc) qw qd 0 wy de ca ln fa sm pa tm) := MD_setA4 hb1 _
  have hfr := hfr.up (p := b + 5) (e := MDC E ad b g (if qw = 0 then kpK kp qc g else kp) sv bf (cpA g 0 sd 0 152) ip sg mk td lv tl qs (if qw = 0 then kpC qc else qc) qw qd 0 wy de ca ln fa sm pa tm 5) (by show _ ∧ _; omega)
  have hsd : ∀ k, k < 36 → (cpA g 0 sd 0 152) (4 + k) = ht k := fun k hk => by unfold cpA; rw [if_pos (by omega), ← hgh k hk]; congr 1; omega
  obtain ⟨sd1, hsd1⟩ : ∃ z, z = cpA g 0 sd 0 152 := ⟨_, rfl⟩
  rw [← hsd1] at hsd
  rw [← hsd1] at hb3
  (try rw [← hsd1] at hP)
  (try rw [← hsd1] at hfr)
  refine g_iconst S 0 dX13_drape_21 (by decide +kernel) ?_
  refine lv_istore_n (lv' := [(1, .int (nI (0))), (0, .ref (ad (b)))]) hx hb dX13_drape_22 rfl hl (by decide) rfl (fun ls hl => ?_)
  refine g_iconst S 0 dX13_drape_23 (by decide +kernel) ?_
  refine lv_istore_n (lv' := [(2, .int (nI (0))), (1, .int (nI (0))), (0, .ref (ad (b)))]) hx hb dX13_drape_24 rfl hl (by decide) rfl (fun ls hl => ?_)
  have lpa : ∀ (n : Nat) (i : Nat) (g1 : Nat → Nat), 36 - i < n → (i ≤ 36) → (mRg g1 (fil i (drA ht pg) ht) pg wt wr mo mc ni po dn) → ∀ (w1 : Nat → va_E) (H : Heap) (locs : List Loc), gP E ad N w1 H → va_S (gA E) s.heap H locs → bkP N w1 b 12 (MDC E ad b g1 (if qw = 0 then kpK kp qc g else kp) sv bf sd1 ip sg mk td lv tl qs (if qw = 0 then kpC qc else qc) qw qd 0 wy de ca ln fa sm pa tm) → gFr (gIn b 12) w w1 → ∀ (ls : Array Slot), lv_has ls 6 [(2, .int (nI (i))), (1, .int (nI (cnt (fun k => !(drA ht pg k == ht k)) i))), (0, .ref (ad (b)))] → W p l e (headSpec (lw_ws yX13_drape cX13_drape 6 (some .int)) ({ frames := 3, cells := 0, slots := 0, locals := 66 } : Room)).room s m ([.ref (ad (b))] : List Value).toArray below meth cd H locs 0 0 (MQ below (va_Qi (fun r w' => ((cmR ht pg wr mo mc 3 none (-1) = nI 0 ∧ ∃ (g' mk' sd' : Nat → Nat) (k u qd' : Nat), cmK 3 none (-1) k u mc ∧ r = (cmS 3 k u ht dr pg wt wr mo mc ni po dn).1 ∧ mRS g' (cmS 3 k u ht dr pg wt wr mo mc ni po dn).2 ∧ bkP N w' b 12 (MDC E ad b g' (if qw = 0 then kpK kp qc g else kp) sv bf sd' ip sg mk' td lv tl qs (if qw = 0 then kpC qc else qc) qw qd' 0 wy de ca ln fa sm pa tm)) ∨ (cmR ht pg wr mo mc 3 none (-1) = -1 ∧ r = nI 0 ∧ bkP N w' b 12 (MDC E ad b g kp sv bf sd ip sg mk td lv tl qs qc qw 0 1 wy de ca ln fa sm pa tm)) ∨ (cmR ht pg wr mo mc 3 none (-1) = -2 ∧ r = nI 0 ∧ bkP N w' b 12 (MDC E ad b g kp sv bf sd ip sg mk td lv tl qs qc qw 0 2 wy de ca ln fa sm pa tm)) ∨ (∃ z, 0 < z ∧ z < 7 ∧ cmR ht pg wr mo mc 3 none (-1) = nI z ∧ r = nI 0 ∧ bkP N w' b 12 (MDC E ad b g kp sv bf sd ip sg mk td lv tl qs qc qw 1 0 z (cmT pg wr mo mc z none (-1)) 0 ln fa sm pa tm))) ∧ gFr (gIn b 12) w w') (gB E ad N) (gA E)) ([.ref (ad (b))] : List Value).toArray s 0 0 (gA E)) (F0 m 25 ls []) := by
    intro n
    induction n with
    | zero => intro i g1 hmeas; omega
    | succ n ih_lpa =>
      intro i g1 hmeas hi hR1 w1 H locs hP hS hb4 hfr ls hl
      refine lv_iload_n hx hb dX13_drape_25 rfl (lv_at hl 0 rfl) ?_
      refine g_bipush S 36 dX13_drape_26 (by decide +kernel) ?_
      refine g_ge S (a := i) (b := 36) (by omega) (by omega) (tgt := 152) dX13_drape_28 (by decide) (fun h => ?_) (fun h => ?_)
      · have e36 : i = 36 := by omega
        subst e36
        refine lv_iload_n hx hb dX13_drape_152 rfl (lv_at hl 1 rfl) ?_
        exact g_iret S hr hlocks hP hS (⟨Or.inl (⟨rfl, g1, _, _, 0, 0, _, ⟨by decide, by decide, fun z => absurd z (by decide), fun z => absurd z (by decide), fun z => absurd z (by decide), fun z => absurd z (by decide)⟩, rfl, hR1.cg (fun j hj => by rw [fil_in hj]; show _ = fil 36 (fil 36 (drA ht pg) dr) ht j; rw [fil_in hj, fil_in hj]) (fun _ _ => rfl) (fun _ _ => rfl) (fun _ _ => rfl) (fun _ _ => rfl), hb4⟩), hfr⟩) (fun _ _ => rfl) (Nat.le_of_ble_eq_true rfl) (Nat.le_of_ble_eq_true rfl) dX13_drape_153
      · have hcl := cnt_le (fun k => !(drA ht pg k == ht k)) i
        have hpi := hpg i h
        have hgi : g1 (4 + i) = ht i := by rw [hR1.1 i h, fil_out (Nat.le_refl _)]
        refine lv_aload_n hx hb dX13_drape_31 rfl (lv_at hl 2 rfl) ?_
        refine g_get S hI hP uX13 rfl (fs := _) (hb4.lt 0 (by decide)) (hb4.2 0 (by decide)) 0 (by decide) q1787 rfl (v := .ref (ad (b + 1))) rfl dX13_drape_32 ?_
        refine g_bipush S 76 dX13_drape_35 (by decide +kernel) ?_
        refine lv_iload_n hx hb dX13_drape_37 rfl (lv_at hl 0 rfl) ?_
        refine g_iadd S dX13_drape_38 ?_
        refine g_iald S hI hP (f := fun j => nI (g1 j)) (hb4.lt 1 (by decide)) (hb4.2 1 (by decide)) (76 + i) (by omega) (by decide) dX13_drape_39 ?_
        rw [hR1.2.2.1 i h]
        refine g_iconst S 1 dX13_drape_40 (by decide +kernel) ?_
        refine g_ne S (a := pg i) (b := 1) (by omega) (by omega) (tgt := 47) dX13_drape_41 (by decide) (fun hp => ?_) (fun hp => ?_)
        · have hd0 : drA ht pg i = drH ht i := if_pos (by omega)
          have hdl := drH_le (ht := ht) h hht
          have hzi := hht i h
          refine g_iconst S 2 dX13_drape_47 (by decide +kernel) ?_
          refine lv_aload_n hx hb dX13_drape_48 rfl (lv_at hl 2 rfl) ?_
          refine g_get S hI hP uX13 rfl (fs := _) (hb4.lt 0 (by decide)) (hb4.2 0 (by decide)) 4 (by decide) q1791 rfl (v := .ref (ad (b + 5))) rfl dX13_drape_49 ?_
          refine g_iconst S 4 dX13_drape_52 (by decide +kernel) ?_
          refine lv_iload_n hx hb dX13_drape_53 rfl (lv_at hl 0 rfl) ?_
          refine g_iadd S dX13_drape_54 ?_
          refine g_iald S hI hP (f := fun j => nI (sd1 j)) (hb4.lt 5 (by decide)) (hb4.2 5 (by decide)) (4 + i) (by omega) (by decide) dX13_drape_55 ?_
          rw [hsd i h]
          refine g_imul S dX13_drape_56 ?_
          refine lv_istore_n (lv' := [(3, .int (nI (2 * (ht i)))), (2, .int (nI (i))), (1, .int (nI (cnt (fun k => !(drA ht pg k == ht k)) i))), (0, .ref (ad (b)))]) hx hb dX13_drape_57 rfl hl (by decide) rfl (fun ls hl => ?_)
          refine g_iconst S 2 dX13_drape_58 (by decide +kernel) ?_
          refine lv_istore (lv' := [(4, .int (nI (2))), (3, .int (nI (2 * (ht i)))), (2, .int (nI (i))), (1, .int (nI (cnt (fun k => !(drA ht pg k == ht k)) i))), (0, .ref (ad (b)))]) hx hb dX13_drape_59 hl (by decide) rfl (fun ls hl => ?_)
          refine g_iconst S 0 dX13_drape_61 (by decide +kernel) ?_
          refine lv_istore (lv' := [(5, .int (nI (0))), (4, .int (nI (2))), (3, .int (nI (2 * (ht i)))), (2, .int (nI (i))), (1, .int (nI (cnt (fun k => !(drA ht pg k == ht k)) i))), (0, .ref (ad (b)))]) hx hb dX13_drape_62 hl (by decide) rfl (fun ls hl => ?_)
          have lpb : ∀ (n : Nat) (d : Nat), 4 - d < n → (d ≤ 4) → ∀ (w1 : Nat → va_E) (H : Heap) (locs : List Loc), gP E ad N w1 H → va_S (gA E) s.heap H locs → bkP N w1 b 12 (MDC E ad b g1 (if qw = 0 then kpK kp qc g else kp) sv bf sd1 ip sg mk td lv tl qs (if qw = 0 then kpC qc else qc) qw qd 0 wy de ca ln fa sm pa tm) → gFr (gIn b 12) w w1 → ∀ (ls : Array Slot), lv_has ls 6 [(5, .int (nI (d))), (4, .int (nI (drp i d))), (3, .int (nI (drs ht i d))), (2, .int (nI (i))), (1, .int (nI (cnt (fun k => !(drA ht pg k == ht k)) i))), (0, .ref (ad (b)))] → W p l e (headSpec (lw_ws yX13_drape cX13_drape 6 (some .int)) ({ frames := 3, cells := 0, slots := 0, locals := 66 } : Room)).room s m ([.ref (ad (b))] : List Value).toArray below meth cd H locs 0 0 (MQ below (va_Qi (fun r w' => ((cmR ht pg wr mo mc 3 none (-1) = nI 0 ∧ ∃ (g' mk' sd' : Nat → Nat) (k u qd' : Nat), cmK 3 none (-1) k u mc ∧ r = (cmS 3 k u ht dr pg wt wr mo mc ni po dn).1 ∧ mRS g' (cmS 3 k u ht dr pg wt wr mo mc ni po dn).2 ∧ bkP N w' b 12 (MDC E ad b g' (if qw = 0 then kpK kp qc g else kp) sv bf sd' ip sg mk' td lv tl qs (if qw = 0 then kpC qc else qc) qw qd' 0 wy de ca ln fa sm pa tm)) ∨ (cmR ht pg wr mo mc 3 none (-1) = -1 ∧ r = nI 0 ∧ bkP N w' b 12 (MDC E ad b g kp sv bf sd ip sg mk td lv tl qs qc qw 0 1 wy de ca ln fa sm pa tm)) ∨ (cmR ht pg wr mo mc 3 none (-1) = -2 ∧ r = nI 0 ∧ bkP N w' b 12 (MDC E ad b g kp sv bf sd ip sg mk td lv tl qs qc qw 0 2 wy de ca ln fa sm pa tm)) ∨ (∃ z, 0 < z ∧ z < 7 ∧ cmR ht pg wr mo mc 3 none (-1) = nI z ∧ r = nI 0 ∧ bkP N w' b 12 (MDC E ad b g kp sv bf sd ip sg mk td lv tl qs qc qw 1 0 z (cmT pg wr mo mc z none (-1)) 0 ln fa sm pa tm))) ∧ gFr (gIn b 12) w w') (gB E ad N) (gA E)) ([.ref (ad (b))] : List Value).toArray s 0 0 (gA E)) (F0 m 64 ls []) := by
            intro n
            induction n with
            | zero => intro d hmeas; omega
            | succ n ih_lpb =>
              intro d hmeas hd w1 H locs hP hS hb5 hfr ls hl
              have hp2 := drp_b i d
              have hs2 := drs_b h hht d
              refine lv_iload hx hb dX13_drape_64 (lv_at hl 0 rfl) ?_
              refine g_iconst S 4 dX13_drape_66 (by decide +kernel) ?_
              refine g_ge S (a := d) (b := 4) (by omega) (by omega) (tgt := 107) dX13_drape_67 (by decide) (fun hd4 => ?_) (fun hd4 => ?_)
              · have e_d : d = 4 := by omega
                subst e_d
                refine lv_aload_n hx hb dX13_drape_107 rfl (lv_at hl 5 rfl) ?_
                refine g_get S hI hP uX13 rfl (fs := _) (hb5.lt 0 (by decide)) (hb5.2 0 (by decide)) 0 (by decide) q1787 rfl (v := .ref (ad (b + 1))) rfl dX13_drape_108 ?_
                refine g_iconst S 4 dX13_drape_111 (by decide +kernel) ?_
                refine lv_iload_n hx hb dX13_drape_112 rfl (lv_at hl 3 rfl) ?_
                refine g_iadd S dX13_drape_113 ?_
                refine lv_iload_n hx hb dX13_drape_114 rfl (lv_at hl 2 rfl) ?_
                refine lv_iload hx hb dX13_drape_115 (lv_at hl 1 rfl) ?_
                refine g_idiv S (by omega) (by omega) (by omega) dX13_drape_117 ?_
                rw [show drs ht i 4 / drp i 4 = drH ht i from rfl]
                refine g_iastN S hI hP hS (f := g1) (x := drH ht i) (hb5.lt 1 (by decide)) (hb5.2 1 (by decide)) (4 + i) (by omega) (by decide) dX13_drape_118 (fun H locs hP hS => ?_)
                have hP : gP E ad N (va_up _ (b + 1) (MDC E ad b (va_up g1 (4 + i) (drH ht i)) (if qw = 0 then kpK kp qc g else kp) sv bf sd1 ip sg mk td lv tl qs (if qw = 0 then kpC qc else qc) qw qd 0 wy de ca ln fa sm pa tm 1)) H := hP
                have hb6 : bkP N (va_up _ (b + 1) (MDC E ad b (va_up g1 (4 + i) (drH ht i)) (if qw = 0 then kpK kp qc g else kp) sv bf sd1 ip sg mk td lv tl qs (if qw = 0 then kpC qc else qc) qw qd 0 wy de ca ln fa sm pa tm 1)) b 12 (MDC E ad b (va_up g1 (4 + i) (drH ht i)) (if qw = 0 then kpK kp qc g else kp) sv bf sd1 ip sg mk td lv tl qs (if qw = 0 then kpC qc else qc) qw qd 0 wy de ca ln fa sm pa tm) := MD_setA0 hb5 _
                have hfr := hfr.up (p := b + 1) (e := MDC E ad b (va_up g1 (4 + i) (drH ht i)) (if qw = 0 then kpK kp qc g else kp) sv bf sd1 ip sg mk td lv tl qs (if qw = 0 then kpC qc else qc) qw qd 0 wy de ca ln fa sm pa tm 1) (by show _ ∧ _; omega)
                refine lv_iload_n hx hb dX13_drape_119 rfl (lv_at hl 4 rfl) ?_
                refine lv_aload_n hx hb dX13_drape_120 rfl (lv_at hl 5 rfl) ?_
                refine g_get S hI hP uX13 rfl (fs := _) (hb6.lt 0 (by decide)) (hb6.2 0 (by decide)) 0 (by decide) q1787 rfl (v := .ref (ad (b + 1))) rfl dX13_drape_121 ?_
                refine g_iconst S 4 dX13_drape_124 (by decide +kernel) ?_
                refine lv_iload_n hx hb dX13_drape_125 rfl (lv_at hl 3 rfl) ?_
                refine g_iadd S dX13_drape_126 ?_
                refine g_iald S hI hP (f := fun j => nI ((va_up g1 (4 + i) (drH ht i)) j)) (hb6.lt 1 (by decide)) (hb6.2 1 (by decide)) (4 + i) (by omega) (by decide) dX13_drape_127 ?_
                rw [va_up_self g1 (4 + i) (drH ht i)]
                refine lv_aload_n hx hb dX13_drape_128 rfl (lv_at hl 5 rfl) ?_
                refine g_get S hI hP uX13 rfl (fs := _) (hb6.lt 0 (by decide)) (hb6.2 0 (by decide)) 4 (by decide) q1791 rfl (v := .ref (ad (b + 5))) rfl dX13_drape_129 ?_
                refine g_iconst S 4 dX13_drape_132 (by decide +kernel) ?_
                refine lv_iload_n hx hb dX13_drape_133 rfl (lv_at hl 3 rfl) ?_
                refine g_iadd S dX13_drape_134 ?_
                refine g_iald S hI hP (f := fun j => nI (sd1 j)) (hb6.lt 5 (by decide)) (hb6.2 5 (by decide)) (4 + i) (by omega) (by decide) dX13_drape_135 ?_
                rw [hsd i h]
                refine g_ne S (a := drH ht i) (b := ht i) (by omega) (by omega) (tgt := 143) dX13_drape_136 (by decide) (fun hne => ?_) (fun hne => ?_)
                · refine g_iconst S 1 dX13_drape_143 (by decide +kernel) ?_
                  refine g_iadd S dX13_drape_144 ?_
                  refine lv_istore_n (lv' := [(1, .int (nI (cnt (fun k => !(drA ht pg k == ht k)) i + 1))), (5, .int (nI (4))), (4, .int (nI (drp i 4))), (3, .int (nI (drs ht i 4))), (2, .int (nI (i))), (0, .ref (ad (b)))]) hx hb dX13_drape_145 rfl hl (by decide) rfl (fun ls hl => ?_)
                  refine lv_iinc (v := nI (i + 1)) (lv' := [(2, .int (nI (i + 1))), (1, .int (nI (cnt (fun k => !(drA ht pg k == ht k)) i + 1))), (5, .int (nI (4))), (4, .int (nI (drp i 4))), (3, .int (nI (drs ht i 4))), (0, .ref (ad (b)))]) hx hb dX13_drape_146 hl (k := 4) rfl (g_inc _ 1 (by decide +kernel)) (by decide) rfl (fun ls hl => ?_)
                  refine lv_goto (tgt := 25) hx hb dX13_drape_149 (by decide) ?_
                  have hl : lv_has ls 6 [(2, .int (nI (i + 1))), (1, .int (nI (cnt (fun k => !(drA ht pg k == ht k)) (i + 1)))), (5, .int (nI (4))), (4, .int (nI (drp i 4))), (3, .int (nI (drs ht i 4))), (0, .ref (ad (b)))] := by rw [show cnt (fun k => !(drA ht pg k == ht k)) (i + 1) = cnt (fun k => !(drA ht pg k == ht k)) i + 1 from cnt_y (by rw [hd0]; simpa using hne)]; exact hl
                  exact ih_lpa (i + 1) (va_up g1 (4 + i) (drH ht i)) (by omega) (by omega) (by have := hR1.upH (u := drH ht i) h; rw [← hd0, fil_up] at this; rw [← hd0]; exact this) _ _ _ hP hS hb6 hfr ls (lv_sub hl [0, 1, 5] rfl)
                · refine g_iconst S 0 dX13_drape_139 (by decide +kernel) ?_
                  refine lv_goto (tgt := 144) hx hb dX13_drape_140 (by decide) ?_
                  refine g_iadd S dX13_drape_144 ?_
                  refine lv_istore_n (lv' := [(1, .int (nI (cnt (fun k => !(drA ht pg k == ht k)) i + 0))), (5, .int (nI (4))), (4, .int (nI (drp i 4))), (3, .int (nI (drs ht i 4))), (2, .int (nI (i))), (0, .ref (ad (b)))]) hx hb dX13_drape_145 rfl hl (by decide) rfl (fun ls hl => ?_)
                  refine lv_iinc (v := nI (i + 1)) (lv' := [(2, .int (nI (i + 1))), (1, .int (nI (cnt (fun k => !(drA ht pg k == ht k)) i + 0))), (5, .int (nI (4))), (4, .int (nI (drp i 4))), (3, .int (nI (drs ht i 4))), (0, .ref (ad (b)))]) hx hb dX13_drape_146 hl (k := 4) rfl (g_inc _ 1 (by decide +kernel)) (by decide) rfl (fun ls hl => ?_)
                  refine lv_goto (tgt := 25) hx hb dX13_drape_149 (by decide) ?_
                  have hl : lv_has ls 6 [(2, .int (nI (i + 1))), (1, .int (nI (cnt (fun k => !(drA ht pg k == ht k)) (i + 1)))), (5, .int (nI (4))), (4, .int (nI (drp i 4))), (3, .int (nI (drs ht i 4))), (0, .ref (ad (b)))] := by rw [show cnt (fun k => !(drA ht pg k == ht k)) (i + 1) = cnt (fun k => !(drA ht pg k == ht k)) i + 0 from cnt_n (by rw [hd0]; simpa using hne)]; exact hl
                  exact ih_lpa (i + 1) (va_up g1 (4 + i) (drH ht i)) (by omega) (by omega) (by have := hR1.upH (u := drH ht i) h; rw [← hd0, fil_up] at this; rw [← hd0]; exact this) _ _ _ hP hS hb6 hfr ls (lv_sub hl [0, 1, 5] rfl)
              · refine lv_iload_n hx hb dX13_drape_70 rfl (lv_at hl 3 rfl) ?_
                refine lv_iload hx hb dX13_drape_71 (lv_at hl 0 rfl) ?_
                refine g_roi (g_runS S hI hP hS (k := 2) (As := [.int (nI (i)), .int (nI (d))]) (rest := []) (mX13_beside l i d h hd4) q1917 q1918 q100 q1919 rfl rfl (by decide +kernel) ⟨Nat.le_of_ble_eq_true rfl, Nat.le_of_ble_eq_true rfl⟩ rfl hl.1 rfl (Nat.le_of_ble_eq_true rfl) ⟨(Nat.le_of_ble_eq_true rfl), (Nat.le_of_ble_eq_true rfl)⟩ dX13_drape_73) hS (fun H locs hP hS => ?_)
                refine g_ogeZ S (o := nb i d) (fun k hk => Nat.lt_trans (nb_lt h hk) (by decide)) (tgt := 82) dX13_drape_76 (by decide) (fun hn_k hn => ?_) (fun hn => ?_)
                · have hk36 := nb_lt h hn
                  have z1 := hht hn_k hk36
                  refine lv_iload_n hx hb dX13_drape_82 rfl (lv_at hl 2 rfl) ?_
                  refine lv_aload_n hx hb dX13_drape_83 rfl (lv_at hl 5 rfl) ?_
                  refine g_get S hI hP uX13 rfl (fs := _) (hb5.lt 0 (by decide)) (hb5.2 0 (by decide)) 4 (by decide) q1791 rfl (v := .ref (ad (b + 5))) rfl dX13_drape_84 ?_
                  refine g_iconst S 4 dX13_drape_87 (by decide +kernel) ?_
                  refine lv_iload_n hx hb dX13_drape_88 rfl (lv_at hl 3 rfl) ?_
                  refine lv_iload hx hb dX13_drape_89 (lv_at hl 0 rfl) ?_
                  refine g_roi (g_runS S hI hP hS (k := 2) (As := [.int (nI (i)), .int (nI (d))]) (rest := [.int (nI (4)), .ref (ad (b + 5)), .int (nI (drs ht i d))]) (mX13_beside l i d h hd4) q1917 q1918 q100 q1919 rfl rfl (by decide +kernel) ⟨Nat.le_of_ble_eq_true rfl, Nat.le_of_ble_eq_true rfl⟩ rfl hl.1 rfl (Nat.le_of_ble_eq_true rfl) ⟨(Nat.le_of_ble_eq_true rfl), (Nat.le_of_ble_eq_true rfl)⟩ dX13_drape_91) hS (fun H locs hP hS => ?_)
                  rw [hn]
                  rw [show oI (some hn_k) = nI hn_k from rfl]
                  refine g_iadd S dX13_drape_94 ?_
                  refine g_iald S hI hP (f := fun j => nI (sd1 j)) (hb5.lt 5 (by decide)) (hb5.2 5 (by decide)) (4 + hn_k) (by omega) (by decide) dX13_drape_95 ?_
                  rw [hsd hn_k hk36]
                  refine g_iadd S dX13_drape_96 ?_
                  refine lv_istore_n (lv' := [(3, .int (nI (drs ht i d + (ht hn_k)))), (5, .int (nI (d))), (4, .int (nI (drp i d))), (2, .int (nI (i))), (1, .int (nI (cnt (fun k => !(drA ht pg k == ht k)) i))), (0, .ref (ad (b)))]) hx hb dX13_drape_97 rfl hl (by decide) rfl (fun ls hl => ?_)
                  refine lv_iinc (v := nI (drp i d + 1)) (lv' := [(4, .int (nI (drp i d + 1))), (3, .int (nI (drs ht i d + (ht hn_k)))), (5, .int (nI (d))), (2, .int (nI (i))), (1, .int (nI (cnt (fun k => !(drA ht pg k == ht k)) i))), (0, .ref (ad (b)))]) hx hb dX13_drape_98 hl (k := 2) rfl (g_inc _ 1 (by decide +kernel)) (by decide) rfl (fun ls hl => ?_)
                  refine lv_iinc (v := nI (d + 1)) (lv' := [(5, .int (nI (d + 1))), (4, .int (nI (drp i d + 1))), (3, .int (nI (drs ht i d + (ht hn_k)))), (2, .int (nI (i))), (1, .int (nI (cnt (fun k => !(drA ht pg k == ht k)) i))), (0, .ref (ad (b)))]) hx hb dX13_drape_101 hl (k := 2) rfl (g_inc _ 1 (by decide +kernel)) (by decide) rfl (fun ls hl => ?_)
                  refine lv_goto (tgt := 64) hx hb dX13_drape_104 (by decide) ?_
                  have hl : lv_has ls 6 [(5, .int (nI (d + 1))), (4, .int (nI (drp i d + 1))), (3, .int (nI (drs ht i (d + 1)))), (2, .int (nI (i))), (1, .int (nI (cnt (fun k => !(drA ht pg k == ht k)) i))), (0, .ref (ad (b)))] := by rw [show drs ht i (d + 1) = drs ht i d + ht hn_k by simp [drs, hn]]; exact hl
                  have hl : lv_has ls 6 [(5, .int (nI (d + 1))), (4, .int (nI (drp i (d + 1)))), (3, .int (nI (drs ht i (d + 1)))), (2, .int (nI (i))), (1, .int (nI (cnt (fun k => !(drA ht pg k == ht k)) i))), (0, .ref (ad (b)))] := by rw [show drp i (d + 1) = drp i d + 1 by simp [drp, hn]]; exact hl
                  exact ih_lpb (d + 1) (by omega) (by omega) _ _ _ hP hS hb5 hfr ls (lv_sub hl [0, 1, 2, 3, 4, 5] rfl)
                · refine lv_goto (tgt := 101) hx hb dX13_drape_79 (by decide) ?_
                  refine lv_iinc (v := nI (d + 1)) (lv' := [(5, .int (nI (d + 1))), (4, .int (nI (drp i d))), (3, .int (nI (drs ht i d))), (2, .int (nI (i))), (1, .int (nI (cnt (fun k => !(drA ht pg k == ht k)) i))), (0, .ref (ad (b)))]) hx hb dX13_drape_101 hl (k := 0) rfl (g_inc _ 1 (by decide +kernel)) (by decide) rfl (fun ls hl => ?_)
                  refine lv_goto (tgt := 64) hx hb dX13_drape_104 (by decide) ?_
                  have hl : lv_has ls 6 [(5, .int (nI (d + 1))), (4, .int (nI (drp i d))), (3, .int (nI (drs ht i (d + 1)))), (2, .int (nI (i))), (1, .int (nI (cnt (fun k => !(drA ht pg k == ht k)) i))), (0, .ref (ad (b)))] := by rw [show drs ht i (d + 1) = drs ht i d by simp [drs, hn]]; exact hl
                  have hl : lv_has ls 6 [(5, .int (nI (d + 1))), (4, .int (nI (drp i (d + 1)))), (3, .int (nI (drs ht i (d + 1)))), (2, .int (nI (i))), (1, .int (nI (cnt (fun k => !(drA ht pg k == ht k)) i))), (0, .ref (ad (b)))] := by rw [show drp i (d + 1) = drp i d by simp [drp, hn]]; exact hl
                  exact ih_lpb (d + 1) (by omega) (by omega) _ _ _ hP hS hb5 hfr ls (lv_sub hl [0, 1, 2, 3, 4, 5] rfl)
          exact lpb (4 - (0) + 1) (0) (Nat.lt_succ_self _) (by omega) _ _ _ hP hS hb4 hfr ls (lv_sub hl [0, 1, 2, 3, 4, 5] rfl)
        · refine lv_goto (tgt := 146) hx hb dX13_drape_44 (by decide) ?_
          refine lv_iinc (v := nI (i + 1)) (lv' := [(2, .int (nI (i + 1))), (1, .int (nI (cnt (fun k => !(drA ht pg k == ht k)) i))), (0, .ref (ad (b)))]) hx hb dX13_drape_146 hl (k := 0) rfl (g_inc _ 1 (by decide +kernel)) (by decide) rfl (fun ls hl => ?_)
          refine lv_goto (tgt := 25) hx hb dX13_drape_149 (by decide) ?_
          have hd0 : drA ht pg i = ht i := if_neg (by omega)
          have hl : lv_has ls 6 [(2, .int (nI (i + 1))), (1, .int (nI (cnt (fun k => !(drA ht pg k == ht k)) (i + 1)))), (0, .ref (ad (b)))] := by rw [show cnt (fun k => !(drA ht pg k == ht k)) (i + 1) = cnt (fun k => !(drA ht pg k == ht k)) i from cnt_n (by rw [hd0]; simp)]; exact hl
          exact ih_lpa (i + 1) (g1) (by omega) (by omega) (by rw [fil_eq hd0]; exact hR1) _ _ _ hP hS hb4 hfr ls (lv_sub hl [0, 1, 2] rfl)
  exact lpa (36 - (0) + 1) (0) (g) (Nat.lt_succ_self _) (by omega) (by rw [fil_0]; exact hR) _ _ _ hP hS hb3 hfr ls (lv_sub hl [0, 1, 2] rfl)
set_option maxHeartbeats 4000000 in
set_option maxRecDepth 100000 in
/-- a moth comes -/
theorem mX13_addMoth (l : Launch) {E : gE} {ad : Nat → Nat} {N : Nat} {w : Nat → va_E} (b : Nat) (g kp sv bf sd ip sg mk td lv tl : Nat → Nat) (qs qc qw qd co wy : Nat) (de : Int32) (ca ln : Nat) (fa : Option Nat) (sm pa tm : Nat) (ht dr pg wt wr mo : Nat → Nat) (mc ni po dn : Nat) (x y : Int32) (hb_m : bkP N w b 12 (MDC E ad b g kp sv bf sd ip sg mk td lv tl qs qc qw qd co wy de ca ln fa sm pa tm)) (hR : mRg g ht pg wt wr mo mc ni po dn) (hht : ∀ k, k < 36 → ht k ≤ 99) (hpg : ∀ k, k < 36 → pg k ≤ 1) (hwr : ∀ k, k < 36 → wr k ≤ 3) (hm : mc ≤ 4) (hmo : ∀ k, k < mc → mo k < 36) (hqw : qw ≤ 1) (hqc : qc ≤ 8) : gMi l yX13_addMoth (lw_ws yX13_addMoth cX13_addMoth 4 (some .int)) ({ frames := 3, cells := 0, slots := 0, locals := 65 } : Room) E ad N w [.ref (ad (b)), .int (x), .int (y)] (fun r w' => ((cmR ht pg wr mo mc 6 (cellV x y) (-1) = nI 0 ∧ ∃ (g' mk' sd' : Nat → Nat) (k u qd' : Nat), cmK 6 (cellV x y) (-1) k u mc ∧ r = (cmS 6 k u ht dr pg wt wr mo mc ni po dn).1 ∧ mRS g' (cmS 6 k u ht dr pg wt wr mo mc ni po dn).2 ∧ bkP N w' b 12 (MDC E ad b g' (if qw = 0 then kpK kp qc g else kp) sv bf sd' ip sg mk' td lv tl qs (if qw = 0 then kpC qc else qc) qw qd' 0 wy de ca ln fa sm pa tm)) ∨ (cmR ht pg wr mo mc 6 (cellV x y) (-1) = -1 ∧ r = nI 0 ∧ bkP N w' b 12 (MDC E ad b g kp sv bf sd ip sg mk td lv tl qs qc qw 0 1 wy de ca ln fa sm pa tm)) ∨ (cmR ht pg wr mo mc 6 (cellV x y) (-1) = -2 ∧ r = nI 0 ∧ bkP N w' b 12 (MDC E ad b g kp sv bf sd ip sg mk td lv tl qs qc qw 0 2 wy de ca ln fa sm pa tm)) ∨ (∃ z, 0 < z ∧ z < 7 ∧ cmR ht pg wr mo mc 6 (cellV x y) (-1) = nI z ∧ r = nI 0 ∧ bkP N w' b 12 (MDC E ad b g kp sv bf sd ip sg mk td lv tl qs qc qw 1 2 z (cmT pg wr mo mc z (cellV x y) (-1)) 0 ln fa sm pa tm))) ∧ gFr (gIn b 12) w w') 0 0 := by
  refine Met.ofW (cc := cX13_addMoth) (maxL := 4) (ret := (some .int)) (by decide) rfl ?_
  intro p e s m args below meth cd s₁ B hml hv
  obtain ⟨rfl, hI, hP⟩ := hv
  obtain ⟨S, hr, hlocks⟩ := gPre (ws := []) B hml (C := RX13) rfl
  have hx := S.1
  have hb := S.2.1
  have hS : va_S (gA E) s.heap s.heap [] := va_S.rf
  have hfr : gFr (gIn b 12) w w := gFr.rf
  have hl := lv_entry ([.ref (ad (b)), .int (x), .int (y)]) (n := 4) (Nat.le_of_ble_eq_true rfl)
  rw [lg_entry_eq]
  generalize (lg_sl ([.ref (ad (b)), .int (x), .int (y)]) ++ List.replicate (4 - (lg_sl ([.ref (ad (b)), .int (x), .int (y)])).length) Slot.unset).toArray = ls at hl ⊢
  have hl : lv_has ls 4 [(0, .ref (ad (b))), (1, .int (x)), (2, .int (y))] := hl
  obtain ⟨hgh, hgw, hgp, hgt, hgm, hg3, hg0, hg1, hg2⟩ := id hR
  refine lv_aload_n hx hb dX13_addMoth_0 rfl (lv_at hl 0 rfl) ?_
  refine lv_iload_n hx hb dX13_addMoth_1 rfl (lv_at hl 1 rfl) ?_
  refine lv_iload_n hx hb dX13_addMoth_2 rfl (lv_at hl 2 rfl) ?_
  refine g_afi (g_runV S hI hP hS (k := 2) (As := [.int (x), .int (y)]) (rest := []) (mX13_isNone l b g kp sv bf sd ip sg mk td lv tl qs qc qw qd co wy de ca ln fa sm pa tm x y hb_m ) q1868 q1870 q48 q100 q1871 rfl rfl (by decide +kernel) ⟨Nat.le_of_ble_eq_true rfl, Nat.le_of_ble_eq_true rfl⟩ rfl (hb_m.lt 0 (by decide)) (hb_m.2 0 (by decide)) rfl hl.1 rfl (Nat.le_of_ble_eq_true rfl) ⟨(Nat.le_of_ble_eq_true rfl), (Nat.le_of_ble_eq_true rfl)⟩ dX13_addMoth_3) hS (fun rz w1 H locs hq hP hS => ?_)
  obtain ⟨hr3, hb1, hf2⟩ := hq
  rw [hr3]
  have hfr := hfr.trans hf2 (fun q hq => by (try simp only [gIn] at hq ⊢); (try dsimp only at hq ⊢); omega)
  refine g_beq S (b := (cellV x y).isNone) (tgt := 11) dX13_addMoth_6 (by decide) (fun h1 => ?_) (fun h1 => ?_)
  · obtain ⟨k, hck⟩ : ∃ k, cellV x y = some k := by cases q : cellV x y with | none => (rw [q] at h1; cases h1) | some a => exact ⟨a, rfl⟩
    have hk36 := cellV_lt hck
    rw [if_pos (show (cellV x y).isSome = true by rw [hck]; rfl)] at hb1
    (try rw [if_pos (show (cellV x y).isSome = true by rw [hck]; rfl)] at hP)
    (try rw [if_pos (show (cellV x y).isSome = true by rw [hck]; rfl)] at hfr)
    refine g_bipush S 6 dX13_addMoth_11 (by decide +kernel) ?_
    refine lv_iload_n hx hb dX13_addMoth_13 rfl (lv_at hl 1 rfl) ?_
    refine lv_imul hx hb dX13_addMoth_14 ?_
    refine lv_iload_n hx hb dX13_addMoth_15 rfl (lv_at hl 2 rfl) ?_
    refine lv_iadd hx hb dX13_addMoth_16 ?_
    rw [cell6 hck]
    refine lv_istore_n (lv' := [(3, .int (nI (k))), (0, .ref (ad (b))), (1, .int (x)), (2, .int (y))]) hx hb dX13_addMoth_17 rfl hl (by decide) rfl (fun ls hl => ?_)
    refine lv_aload_n hx hb dX13_addMoth_18 rfl (lv_at hl 1 rfl) ?_
    refine g_get S hI hP uX13 rfl (fs := _) (hb1.lt 0 (by decide)) (hb1.2 0 (by decide)) 0 (by decide) q1787 rfl (v := .ref (ad (b + 1))) rfl dX13_addMoth_19 ?_
    refine g_iconst S 3 dX13_addMoth_22 (by decide +kernel) ?_
    refine g_iald S hI hP (f := fun j => nI (g j)) (hb1.lt 1 (by decide)) (hb1.2 1 (by decide)) (3) (by decide) (by decide) dX13_addMoth_23 ?_
    rw [hg3]
    refine g_iconst S 4 dX13_addMoth_24 (by decide +kernel) ?_
    refine g_ne S (a := mc) (b := 4) (by omega) (by omega) (tgt := 36) dX13_addMoth_25 (by decide) (fun h4 => ?_) (fun h4 => ?_)
    · have h4b : ¬ 4 ≤ mc := by omega
      refine lv_aload_n hx hb dX13_addMoth_36 rfl (lv_at hl 1 rfl) ?_
      refine lv_iload_n hx hb dX13_addMoth_37 rfl (lv_at hl 0 rfl) ?_
      refine g_roi (g_runV S hI hP hS (k := 1) (As := [.int (nI (k))]) (rest := []) (mX13_isHole l b g kp sv bf sd ip sg mk td lv tl qs qc qw 0 0 wy de ca ln fa sm pa tm k (wr k) hb1 hk36 (hgw k hk36) (hwr k hk36)) q1968 q1970 q60 q100 q1971 rfl rfl (by decide +kernel) ⟨Nat.le_of_ble_eq_true rfl, Nat.le_of_ble_eq_true rfl⟩ rfl (hb1.lt 0 (by decide)) (hb1.2 0 (by decide)) rfl hl.1 rfl (Nat.le_of_ble_eq_true rfl) ⟨(Nat.le_of_ble_eq_true rfl), (Nat.le_of_ble_eq_true rfl)⟩ dX13_addMoth_38) hS (fun H locs hP hS => ?_)
      refine g_beq S (b := decide (3 ≤ wr k)) (tgt := 55) dX13_addMoth_41 (by decide) (fun hh => ?_) (fun hh => ?_)
      · have hh := of_decide_eq_false hh
        refine lv_aload_n hx hb dX13_addMoth_55 rfl (lv_at hl 1 rfl) ?_
        refine lv_iload_n hx hb dX13_addMoth_56 rfl (lv_at hl 0 rfl) ?_
        refine g_roi (g_runV S hI hP hS (k := 1) (As := [.int (nI (k))]) (rest := []) (mX13_mothOn l b g kp sv bf sd ip sg mk td lv tl qs qc qw 0 0 wy de ca ln fa sm pa tm ht dr pg wt wr mo mc ni po dn k hb1 hk36 hR hm hmo) q2063 q2065 q67 q100 q2066 rfl rfl (by decide +kernel) ⟨Nat.le_of_ble_eq_true rfl, Nat.le_of_ble_eq_true rfl⟩ rfl (hb1.lt 0 (by decide)) (hb1.2 0 (by decide)) rfl hl.1 rfl (Nat.le_of_ble_eq_true rfl) ⟨(Nat.le_of_ble_eq_true rfl), (Nat.le_of_ble_eq_true rfl)⟩ dX13_addMoth_57) hS (fun H locs hP hS => ?_)
        refine g_oltZ S (o := fstN (fun j => mo j == k) mc) (fun j hj => by have := fstN_lt hj; omega) (tgt := 75) dX13_addMoth_60 (by decide) (fun ho => ?_) (fun ho_k ho => ?_)
        · refine lv_aload_n hx hb dX13_addMoth_75 rfl (lv_at hl 1 rfl) ?_
          refine lv_aload_n hx hb dX13_addMoth_76 rfl (lv_at hl 1 rfl) ?_
          refine g_get S hI hP uX13 rfl (fs := _) (hb1.lt 0 (by decide)) (hb1.2 0 (by decide)) 0 (by decide) q1787 rfl (v := .ref (ad (b + 1))) rfl dX13_addMoth_77 ?_
          refine g_afv (g_runV S hI hP hS (k := 1) (As := [.ref (ad (b + 1))]) (rest := []) (mX13_keeps l b g kp sv bf sd ip sg mk td lv tl qs qc qw 0 0 wy de ca ln fa sm pa tm  hb1 hqw hqc) q1890 q1892 q52 q100 q1893 rfl rfl (by decide +kernel) ⟨Nat.le_of_ble_eq_true rfl, Nat.le_of_ble_eq_true rfl⟩ rfl (hb1.lt 0 (by decide)) (hb1.2 0 (by decide)) rfl hl.1 rfl (Nat.le_of_ble_eq_true rfl) ⟨(Nat.le_of_ble_eq_true rfl), (Nat.le_of_ble_eq_true rfl)⟩ dX13_addMoth_80) hS (fun w1 H locs hq hP hS => ?_)
          obtain ⟨hb4, hf5⟩ := hq
          have hfr := hfr.trans hf5 (fun q hq => by (try simp only [gIn] at hq ⊢); (try dsimp only at hq ⊢); omega)
          refine lv_aload_n hx hb dX13_addMoth_83 rfl (lv_at hl 1 rfl) ?_
          refine g_get S hI hP uX13 rfl (fs := _) (hb4.lt 0 (by decide)) (hb4.2 0 (by decide)) 0 (by decide) q1787 rfl (v := .ref (ad (b + 1))) rfl dX13_addMoth_84 ?_
          refine g_sipush S 148 dX13_addMoth_87 (by decide +kernel) ?_
          refine lv_aload_n hx hb dX13_addMoth_90 rfl (lv_at hl 1 rfl) ?_
          refine g_get S hI hP uX13 rfl (fs := _) (hb4.lt 0 (by decide)) (hb4.2 0 (by decide)) 0 (by decide) q1787 rfl (v := .ref (ad (b + 1))) rfl dX13_addMoth_91 ?_
          refine g_iconst S 3 dX13_addMoth_94 (by decide +kernel) ?_
          refine g_iald S hI hP (f := fun j => nI (g j)) (hb4.lt 1 (by decide)) (hb4.2 1 (by decide)) (3) (by decide) (by decide) dX13_addMoth_95 ?_
          rw [hg3]
          refine g_iadd S dX13_addMoth_96 ?_
          refine lv_iload_n hx hb dX13_addMoth_97 rfl (lv_at hl 0 rfl) ?_
          refine g_iastN S hI hP hS (f := g) (x := k) (hb4.lt 1 (by decide)) (hb4.2 1 (by decide)) (148 + mc) (by omega) (by decide) dX13_addMoth_98 (fun H locs hP hS => ?_)
          have hP : gP E ad N (va_up _ (b + 1) (MDC E ad b (va_up g (148 + mc) k) (if qw = 0 then kpK kp qc g else kp) sv bf sd ip sg mk td lv tl qs (if qw = 0 then kpC qc else qc) qw 0 0 wy de ca ln fa sm pa tm 1)) H := hP
          have hb6 : bkP N (va_up _ (b + 1) (MDC E ad b (va_up g (148 + mc) k) (if qw = 0 then kpK kp qc g else kp) sv bf sd ip sg mk td lv tl qs (if qw = 0 then kpC qc else qc) qw 0 0 wy de ca ln fa sm pa tm 1)) b 12 (MDC E ad b (va_up g (148 + mc) k) (if qw = 0 then kpK kp qc g else kp) sv bf sd ip sg mk td lv tl qs (if qw = 0 then kpC qc else qc) qw 0 0 wy de ca ln fa sm pa tm) := MD_setA0 hb4 _
          have hfr := hfr.up (p := b + 1) (e := MDC E ad b (va_up g (148 + mc) k) (if qw = 0 then kpK kp qc g else kp) sv bf sd ip sg mk td lv tl qs (if qw = 0 then kpC qc else qc) qw 0 0 wy de ca ln fa sm pa tm 1) (by show _ ∧ _; omega)
          refine lv_aload_n hx hb dX13_addMoth_99 rfl (lv_at hl 1 rfl) ?_
          refine g_get S hI hP uX13 rfl (fs := _) (hb6.lt 0 (by decide)) (hb6.2 0 (by decide)) 0 (by decide) q1787 rfl (v := .ref (ad (b + 1))) rfl dX13_addMoth_100 ?_
          refine g_iconst S 3 dX13_addMoth_103 (by decide +kernel) ?_
          refine lv_dup2_11 hx hb dX13_addMoth_104 rfl rfl ?_
          have hg3b : va_up g (148 + mc) k 3 = mc := by rw [va_up_ne _ _ (by omega)]; exact hg3
          refine g_iald S hI hP (f := fun j => nI ((va_up g (148 + mc) k) j)) (hb6.lt 1 (by decide)) (hb6.2 1 (by decide)) (3) (by decide) (by decide) dX13_addMoth_105 ?_
          rw [hg3b]
          refine g_iconst S 1 dX13_addMoth_106 (by decide +kernel) ?_
          refine g_iadd S dX13_addMoth_107 ?_
          refine g_iastN S hI hP hS (f := va_up g (148 + mc) k) (x := mc + 1) (hb6.lt 1 (by decide)) (hb6.2 1 (by decide)) (3) (by decide) (by decide) dX13_addMoth_108 (fun H locs hP hS => ?_)
          have hP : gP E ad N (va_up _ (b + 1) (MDC E ad b (va_up (va_up g (148 + mc) k) 3 (mc + 1)) (if qw = 0 then kpK kp qc g else kp) sv bf sd ip sg mk td lv tl qs (if qw = 0 then kpC qc else qc) qw 0 0 wy de ca ln fa sm pa tm 1)) H := hP
          have hb7 : bkP N (va_up _ (b + 1) (MDC E ad b (va_up (va_up g (148 + mc) k) 3 (mc + 1)) (if qw = 0 then kpK kp qc g else kp) sv bf sd ip sg mk td lv tl qs (if qw = 0 then kpC qc else qc) qw 0 0 wy de ca ln fa sm pa tm 1)) b 12 (MDC E ad b (va_up (va_up g (148 + mc) k) 3 (mc + 1)) (if qw = 0 then kpK kp qc g else kp) sv bf sd ip sg mk td lv tl qs (if qw = 0 then kpC qc else qc) qw 0 0 wy de ca ln fa sm pa tm) := MD_setA0 hb6 _
          have hfr := hfr.up (p := b + 1) (e := MDC E ad b (va_up (va_up g (148 + mc) k) 3 (mc + 1)) (if qw = 0 then kpK kp qc g else kp) sv bf sd ip sg mk td lv tl qs (if qw = 0 then kpC qc else qc) qw 0 0 wy de ca ln fa sm pa tm 1) (by show _ ∧ _; omega)
          refine lv_aload_n hx hb dX13_addMoth_109 rfl (lv_at hl 1 rfl) ?_
          refine g_get S hI hP uX13 rfl (fs := _) (hb7.lt 0 (by decide)) (hb7.2 0 (by decide)) 0 (by decide) q1787 rfl (v := .ref (ad (b + 1))) rfl dX13_addMoth_110 ?_
          refine g_iconst S 3 dX13_addMoth_113 (by decide +kernel) ?_
          refine g_iald S hI hP (f := fun j => nI ((va_up (va_up g (148 + mc) k) 3 (mc + 1)) j)) (hb7.lt 1 (by decide)) (hb7.2 1 (by decide)) (3) (by decide) (by decide) dX13_addMoth_114 ?_
          rw [va_up_self _ 3 (mc + 1)]
          refine g_iconst S 1 dX13_addMoth_115 (by decide +kernel) ?_
          refine g_isub S (by omega) dX13_addMoth_116 ?_
          exact g_iret S hr hlocks hP hS (⟨Or.inl (⟨by show rfM wr mo mc (cellV x y) = nI 0; simp only [rfM, hck, if_neg h4b, if_neg hh, ho], _, _, _, k, 0, _, ⟨hk36, by decide, fun _ => hck, fun z => absurd z (by decide), fun _ => by omega, fun z => absurd z (by decide)⟩, rfl, hR.add, hb7⟩), hfr⟩) (fun _ _ => rfl) (Nat.le_of_ble_eq_true rfl) (Nat.le_of_ble_eq_true rfl) dX13_addMoth_117
        · refine lv_aload_n hx hb dX13_addMoth_63 rfl (lv_at hl 1 rfl) ?_
          refine g_iconst S 2 dX13_addMoth_64 (by decide +kernel) ?_
          refine g_iconst S 5 dX13_addMoth_65 (by decide +kernel) ?_
          refine lv_aload_n hx hb dX13_addMoth_66 rfl (lv_at hl 1 rfl) ?_
          refine lv_iload_n hx hb dX13_addMoth_67 rfl (lv_at hl 0 rfl) ?_
          refine g_roi (g_runV S hI hP hS (k := 1) (As := [.int (nI (k))]) (rest := [.int (nI (5)), .int (nI (2)), .ref (ad (b))]) (mX13_mothOn l b g kp sv bf sd ip sg mk td lv tl qs qc qw 0 0 wy de ca ln fa sm pa tm ht dr pg wt wr mo mc ni po dn k hb1 hk36 hR hm hmo) q2063 q2065 q67 q100 q2066 rfl rfl (by decide +kernel) ⟨Nat.le_of_ble_eq_true rfl, Nat.le_of_ble_eq_true rfl⟩ rfl (hb1.lt 0 (by decide)) (hb1.2 0 (by decide)) rfl hl.1 rfl (Nat.le_of_ble_eq_true rfl) ⟨(Nat.le_of_ble_eq_true rfl), (Nat.le_of_ble_eq_true rfl)⟩ dX13_addMoth_68) hS (fun H locs hP hS => ?_)
          refine g_afi (g_runV S hI hP hS (k := 3) (As := [.int (nI (2)), .int (nI (5)), .int (oI (fstN (fun j => mo j == k) mc))]) (rest := []) (mX13_denies l b g kp sv bf sd ip sg mk td lv tl qs qc qw 0 0 wy de ca ln fa sm pa tm 2 5 (oI (fstN (fun j => mo j == k) mc)) hb1 ) q1886 q1888 q51 q100 q1889 rfl rfl (by decide +kernel) ⟨Nat.le_of_ble_eq_true rfl, Nat.le_of_ble_eq_true rfl⟩ rfl (hb1.lt 0 (by decide)) (hb1.2 0 (by decide)) rfl hl.1 rfl (Nat.le_of_ble_eq_true rfl) ⟨(Nat.le_of_ble_eq_true rfl), (Nat.le_of_ble_eq_true rfl)⟩ dX13_addMoth_71) hS (fun rz w1 H locs hq hP hS => ?_)
          obtain ⟨hr10, hb8, hf9⟩ := hq
          rw [hr10]
          have hfr := hfr.trans hf9 (fun q hq => by (try simp only [gIn] at hq ⊢); (try dsimp only at hq ⊢); omega)
          exact g_iret S hr hlocks hP hS (⟨Or.inr (Or.inr (Or.inr (⟨5, by decide, by decide, by show rfM wr mo mc (cellV x y) = nI 5; simp only [rfM, hck, if_neg h4b, if_neg hh, ho], rfl, by rw [show cmT pg wr mo mc 5 (cellV x y) (-1) = (oI (fstN (fun j => mo j == k) mc)) by rw [hck]; rfl]; exact hb8⟩))), hfr⟩) (fun _ _ => rfl) (Nat.le_of_ble_eq_true rfl) (Nat.le_of_ble_eq_true rfl) dX13_addMoth_74
      · have hh := of_decide_eq_true hh
        refine lv_aload_n hx hb dX13_addMoth_44 rfl (lv_at hl 1 rfl) ?_
        refine g_iconst S 2 dX13_addMoth_45 (by decide +kernel) ?_
        refine g_iconst S 3 dX13_addMoth_46 (by decide +kernel) ?_
        refine lv_aload_n hx hb dX13_addMoth_47 rfl (lv_at hl 1 rfl) ?_
        refine g_roi (g_runV S hI hP hS (k := 0) (As := []) (rest := [.int (nI (3)), .int (nI (2)), .ref (ad (b))]) (mX13_holesNow l b g kp sv bf sd ip sg mk td lv tl qs qc qw 0 0 wy de ca ln fa sm pa tm ht dr pg wt wr mo mc ni po dn hb1 hR hwr) q2059 q2061 q66 q100 q2062 rfl rfl (by decide +kernel) ⟨Nat.le_of_ble_eq_true rfl, Nat.le_of_ble_eq_true rfl⟩ rfl (hb1.lt 0 (by decide)) (hb1.2 0 (by decide)) rfl hl.1 rfl (Nat.le_of_ble_eq_true rfl) ⟨(Nat.le_of_ble_eq_true rfl), (Nat.le_of_ble_eq_true rfl)⟩ dX13_addMoth_48) hS (fun H locs hP hS => ?_)
        refine g_afi (g_runV S hI hP hS (k := 3) (As := [.int (nI (2)), .int (nI (3)), .int (nI (cnt (fun k => decide (3 ≤ wr k)) 36))]) (rest := []) (mX13_denies l b g kp sv bf sd ip sg mk td lv tl qs qc qw 0 0 wy de ca ln fa sm pa tm 2 3 (nI (cnt (fun k => decide (3 ≤ wr k)) 36)) hb1 ) q1886 q1888 q51 q100 q1889 rfl rfl (by decide +kernel) ⟨Nat.le_of_ble_eq_true rfl, Nat.le_of_ble_eq_true rfl⟩ rfl (hb1.lt 0 (by decide)) (hb1.2 0 (by decide)) rfl hl.1 rfl (Nat.le_of_ble_eq_true rfl) ⟨(Nat.le_of_ble_eq_true rfl), (Nat.le_of_ble_eq_true rfl)⟩ dX13_addMoth_51) hS (fun rz w1 H locs hq hP hS => ?_)
        obtain ⟨hr13, hb11, hf12⟩ := hq
        rw [hr13]
        have hfr := hfr.trans hf12 (fun q hq => by (try simp only [gIn] at hq ⊢); (try dsimp only at hq ⊢); omega)
        exact g_iret S hr hlocks hP hS (⟨Or.inr (Or.inr (Or.inr (⟨3, by decide, by decide, by show rfM wr mo mc (cellV x y) = nI 3; simp only [rfM, hck, if_neg h4b, if_pos hh], rfl, hb11⟩))), hfr⟩) (fun _ _ => rfl) (Nat.le_of_ble_eq_true rfl) (Nat.le_of_ble_eq_true rfl) dX13_addMoth_54
    · refine lv_aload_n hx hb dX13_addMoth_28 rfl (lv_at hl 1 rfl) ?_
      refine g_iconst S 2 dX13_addMoth_29 (by decide +kernel) ?_
      refine g_iconst S 1 dX13_addMoth_30 (by decide +kernel) ?_
      refine g_iconst S 4 dX13_addMoth_31 (by decide +kernel) ?_
      refine g_afi (g_runV S hI hP hS (k := 3) (As := [.int (nI (2)), .int (nI (1)), .int (nI (4))]) (rest := []) (mX13_denies l b g kp sv bf sd ip sg mk td lv tl qs qc qw 0 0 wy de ca ln fa sm pa tm 2 1 (nI (4)) hb1 ) q1886 q1888 q51 q100 q1889 rfl rfl (by decide +kernel) ⟨Nat.le_of_ble_eq_true rfl, Nat.le_of_ble_eq_true rfl⟩ rfl (hb1.lt 0 (by decide)) (hb1.2 0 (by decide)) rfl hl.1 rfl (Nat.le_of_ble_eq_true rfl) ⟨(Nat.le_of_ble_eq_true rfl), (Nat.le_of_ble_eq_true rfl)⟩ dX13_addMoth_32) hS (fun rz w1 H locs hq hP hS => ?_)
      obtain ⟨hr16, hb14, hf15⟩ := hq
      rw [hr16]
      have hfr := hfr.trans hf15 (fun q hq => by (try simp only [gIn] at hq ⊢); (try dsimp only at hq ⊢); omega)
      exact g_iret S hr hlocks hP hS (⟨Or.inr (Or.inr (Or.inr (⟨1, by decide, by decide, by show rfM wr mo mc (cellV x y) = nI 1; simp only [rfM, hck, if_pos (show 4 ≤ mc by omega)], rfl, hb14⟩))), hfr⟩) (fun _ _ => rfl) (Nat.le_of_ble_eq_true rfl) (Nat.le_of_ble_eq_true rfl) dX13_addMoth_35
  · have hcn := Option.isNone_iff_eq_none.mp h1
    rw [if_neg (show ¬ (cellV x y).isSome = true by rw [hcn]; decide)] at hb1
    (try rw [if_neg (show ¬ (cellV x y).isSome = true by rw [hcn]; decide)] at hP)
    (try rw [if_neg (show ¬ (cellV x y).isSome = true by rw [hcn]; decide)] at hfr)
    refine g_iconst S 0 dX13_addMoth_9 (by decide +kernel) ?_
    exact g_iret S hr hlocks hP hS (⟨Or.inr (Or.inl (⟨by show rfM wr mo mc (cellV x y) = -1; rw [hcn]; rfl, rfl, hb1⟩)), hfr⟩) (fun _ _ => rfl) (Nat.le_of_ble_eq_true rfl) (Nat.le_of_ble_eq_true rfl) dX13_addMoth_10
set_option maxHeartbeats 4000000 in
set_option maxRecDepth 100000 in
/-- a moth goes -/
theorem mX13_removeMoth (l : Launch) {E : gE} {ad : Nat → Nat} {N : Nat} {w : Nat → va_E} (b : Nat) (g kp sv bf sd ip sg mk td lv tl : Nat → Nat) (qs qc qw qd co wy : Nat) (de : Int32) (ca ln : Nat) (fa : Option Nat) (sm pa tm : Nat) (ht dr pg wt wr mo : Nat → Nat) (mc ni po dn : Nat) (v : Int32) (hb_m : bkP N w b 12 (MDC E ad b g kp sv bf sd ip sg mk td lv tl qs qc qw qd co wy de ca ln fa sm pa tm)) (hR : mRg g ht pg wt wr mo mc ni po dn) (hht : ∀ k, k < 36 → ht k ≤ 99) (hpg : ∀ k, k < 36 → pg k ≤ 1) (hwr : ∀ k, k < 36 → wr k ≤ 3) (hm : mc ≤ 4) (hmo : ∀ k, k < mc → mo k < 36) (hqw : qw ≤ 1) (hqc : qc ≤ 8) : gMi l yX13_removeMoth (lw_ws yX13_removeMoth cX13_removeMoth 3 (some .int)) ({ frames := 2, cells := 0, slots := 0, locals := 46 } : Room) E ad N w [.ref (ad (b)), .int (v)] (fun r w' => ((cmR ht pg wr mo mc 7 none v = nI 0 ∧ ∃ (g' mk' sd' : Nat → Nat) (k u qd' : Nat), cmK 7 none v k u mc ∧ r = (cmS 7 k u ht dr pg wt wr mo mc ni po dn).1 ∧ mRS g' (cmS 7 k u ht dr pg wt wr mo mc ni po dn).2 ∧ bkP N w' b 12 (MDC E ad b g' (if qw = 0 then kpK kp qc g else kp) sv bf sd' ip sg mk' td lv tl qs (if qw = 0 then kpC qc else qc) qw qd' 0 wy de ca ln fa sm pa tm)) ∨ (cmR ht pg wr mo mc 7 none v = -1 ∧ r = nI 0 ∧ bkP N w' b 12 (MDC E ad b g kp sv bf sd ip sg mk td lv tl qs qc qw 0 1 wy de ca ln fa sm pa tm)) ∨ (cmR ht pg wr mo mc 7 none v = -2 ∧ r = nI 0 ∧ bkP N w' b 12 (MDC E ad b g kp sv bf sd ip sg mk td lv tl qs qc qw 0 2 wy de ca ln fa sm pa tm)) ∨ (∃ z, 0 < z ∧ z < 7 ∧ cmR ht pg wr mo mc 7 none v = nI z ∧ r = nI 0 ∧ bkP N w' b 12 (MDC E ad b g kp sv bf sd ip sg mk td lv tl qs qc qw 1 1 z (cmT pg wr mo mc z none v) 0 ln fa sm pa tm))) ∧ gFr (gIn b 12) w w') 0 0 := by
  refine Met.ofW (cc := cX13_removeMoth) (maxL := 3) (ret := (some .int)) (by decide) rfl ?_
  intro p e s m args below meth cd s₁ B hml hv
  obtain ⟨rfl, hI, hP⟩ := hv
  obtain ⟨S, hr, hlocks⟩ := gPre (ws := []) B hml (C := RX13) rfl
  have hx := S.1
  have hb := S.2.1
  have hS : va_S (gA E) s.heap s.heap [] := va_S.rf
  have hfr : gFr (gIn b 12) w w := gFr.rf
  have hl := lv_entry ([.ref (ad (b)), .int (v)]) (n := 3) (Nat.le_of_ble_eq_true rfl)
  rw [lg_entry_eq]
  generalize (lg_sl ([.ref (ad (b)), .int (v)]) ++ List.replicate (3 - (lg_sl ([.ref (ad (b)), .int (v)])).length) Slot.unset).toArray = ls at hl ⊢
  have hl : lv_has ls 3 [(0, .ref (ad (b))), (1, .int (v))] := hl
  obtain ⟨hgh, hgw, hgp, hgt, hgm, hg3, hg0, hg1, hg2⟩ := id hR
  refine lv_aload_n hx hb dX13_removeMoth_0 rfl (lv_at hl 0 rfl) ?_
  refine lv_aload_n hx hb dX13_removeMoth_1 rfl (lv_at hl 0 rfl) ?_
  refine lv_iload_n hx hb dX13_removeMoth_2 rfl (lv_at hl 1 rfl) ?_
  refine g_roi (g_runV S hI hP hS (k := 1) (As := [.int (v)]) (rest := [.ref (ad (b))]) (mX13_isMoth l b g kp sv bf sd ip sg mk td lv tl qs qc qw qd co wy de ca ln fa sm pa tm ht dr pg wt wr mo mc ni po dn v hb_m hR hm) q2071 q2073 q68 q100 q2074 rfl rfl (by decide +kernel) ⟨Nat.le_of_ble_eq_true rfl, Nat.le_of_ble_eq_true rfl⟩ rfl (hb_m.lt 0 (by decide)) (hb_m.2 0 (by decide)) rfl hl.1 rfl (Nat.le_of_ble_eq_true rfl) ⟨(Nat.le_of_ble_eq_true rfl), (Nat.le_of_ble_eq_true rfl)⟩ dX13_removeMoth_3) hS (fun H locs hP hS => ?_)
  refine g_beq S (b := (inR v mc).isSome) (tgt := 13) dX13_removeMoth_6 (by decide) (fun h1 => ?_) (fun h1 => ?_)
  · refine g_iconst S 1 dX13_removeMoth_13 (by decide +kernel) ?_
    refine g_afi (g_runV S hI hP hS (k := 1) (As := [.int (nI (1))]) (rest := []) (mX13_fails l b g kp sv bf sd ip sg mk td lv tl qs qc qw qd co wy de ca ln fa sm pa tm 1 hb_m (by decide)) q1878 q1880 q49 q100 q1881 rfl rfl (by decide +kernel) ⟨Nat.le_of_ble_eq_true rfl, Nat.le_of_ble_eq_true rfl⟩ rfl (hb_m.lt 0 (by decide)) (hb_m.2 0 (by decide)) rfl hl.1 rfl (Nat.le_of_ble_eq_true rfl) ⟨(Nat.le_of_ble_eq_true rfl), (Nat.le_of_ble_eq_true rfl)⟩ dX13_removeMoth_14) hS (fun rz w1 H locs hq hP hS => ?_)
    obtain ⟨hr3, hb1, hf2⟩ := hq
    rw [hr3]
    have hfr := hfr.trans hf2 (fun q hq => by (try simp only [gIn] at hq ⊢); (try dsimp only at hq ⊢); omega)
    refine g_beq S (b := decide (0 < 1)) (tgt := 22) dX13_removeMoth_17 (by decide) (fun h2 => ?_) (fun h2 => ?_)
    · exact absurd h2 (by decide)
    · refine g_iconst S 0 dX13_removeMoth_20 (by decide +kernel) ?_
      exact g_iret S hr hlocks hP hS (⟨Or.inr (Or.inl (⟨by show (if (inR v mc).isSome = true then nI 0 else -1) = -1; rw [h1]; rfl, rfl, hb1⟩)), hfr⟩) (fun _ _ => rfl) (Nat.le_of_ble_eq_true rfl) (Nat.le_of_ble_eq_true rfl) dX13_removeMoth_21
  · obtain ⟨u, hu⟩ := Option.isSome_iff_exists.mp h1
    obtain ⟨hum, hvu⟩ := inR_some (by omega) hu
    have hl : lv_has ls 3 [(0, .ref (ad (b))), (1, .int (nI (u)))] := by rw [hvu] at hl; exact hl
    refine g_iconst S 0 dX13_removeMoth_9 (by decide +kernel) ?_
    refine lv_goto (tgt := 14) hx hb dX13_removeMoth_10 (by decide) ?_
    refine g_afi (g_runV S hI hP hS (k := 1) (As := [.int (nI (0))]) (rest := []) (mX13_fails l b g kp sv bf sd ip sg mk td lv tl qs qc qw qd co wy de ca ln fa sm pa tm 0 hb_m (by decide)) q1878 q1880 q49 q100 q1881 rfl rfl (by decide +kernel) ⟨Nat.le_of_ble_eq_true rfl, Nat.le_of_ble_eq_true rfl⟩ rfl (hb_m.lt 0 (by decide)) (hb_m.2 0 (by decide)) rfl hl.1 rfl (Nat.le_of_ble_eq_true rfl) ⟨(Nat.le_of_ble_eq_true rfl), (Nat.le_of_ble_eq_true rfl)⟩ dX13_removeMoth_14) hS (fun rz w1 H locs hq hP hS => ?_)
    obtain ⟨hr6, hb4, hf5⟩ := hq
    rw [hr6]
    have hfr := hfr.trans hf5 (fun q hq => by (try simp only [gIn] at hq ⊢); (try dsimp only at hq ⊢); omega)
    refine g_beq S (b := decide (0 < 0)) (tgt := 22) dX13_removeMoth_17 (by decide) (fun h2 => ?_) (fun h2 => ?_)
    · refine lv_aload_n hx hb dX13_removeMoth_22 rfl (lv_at hl 0 rfl) ?_
      refine lv_aload_n hx hb dX13_removeMoth_23 rfl (lv_at hl 0 rfl) ?_
      refine g_get S hI hP uX13 rfl (fs := _) (hb4.lt 0 (by decide)) (hb4.2 0 (by decide)) 0 (by decide) q1787 rfl (v := .ref (ad (b + 1))) rfl dX13_removeMoth_24 ?_
      refine g_afv (g_runV S hI hP hS (k := 1) (As := [.ref (ad (b + 1))]) (rest := []) (mX13_keeps l b g kp sv bf sd ip sg mk td lv tl qs qc qw 0 0 wy de ca ln fa sm pa tm  hb4 hqw hqc) q1890 q1892 q52 q100 q1893 rfl rfl (by decide +kernel) ⟨Nat.le_of_ble_eq_true rfl, Nat.le_of_ble_eq_true rfl⟩ rfl (hb4.lt 0 (by decide)) (hb4.2 0 (by decide)) rfl hl.1 rfl (Nat.le_of_ble_eq_true rfl) ⟨(Nat.le_of_ble_eq_true rfl), (Nat.le_of_ble_eq_true rfl)⟩ dX13_removeMoth_27) hS (fun w1 H locs hq hP hS => ?_)
      obtain ⟨hb7, hf8⟩ := hq
      have hfr := hfr.trans hf8 (fun q hq => by (try simp only [gIn] at hq ⊢); (try dsimp only at hq ⊢); omega)
      refine lv_aload_n hx hb dX13_removeMoth_30 rfl (lv_at hl 0 rfl) ?_
      refine g_get S hI hP uX13 rfl (fs := _) (hb7.lt 0 (by decide)) (hb7.2 0 (by decide)) 0 (by decide) q1787 rfl (v := .ref (ad (b + 1))) rfl dX13_removeMoth_31 ?_
      refine g_iconst S 3 dX13_removeMoth_34 (by decide +kernel) ?_
      refine lv_dup2_11 hx hb dX13_removeMoth_35 rfl rfl ?_
      refine g_iald S hI hP (f := fun j => nI (g j)) (hb7.lt 1 (by decide)) (hb7.2 1 (by decide)) (3) (by decide) (by decide) dX13_removeMoth_36 ?_
      rw [hg3]
      refine g_iconst S 1 dX13_removeMoth_37 (by decide +kernel) ?_
      refine g_isub S (by omega) dX13_removeMoth_38 ?_
      refine g_iastN S hI hP hS (f := g) (x := mc - 1) (hb7.lt 1 (by decide)) (hb7.2 1 (by decide)) (3) (by decide) (by decide) dX13_removeMoth_39 (fun H locs hP hS => ?_)
      have hP : gP E ad N (va_up _ (b + 1) (MDC E ad b (va_up g 3 (mc - 1)) (if qw = 0 then kpK kp qc g else kp) sv bf sd ip sg mk td lv tl qs (if qw = 0 then kpC qc else qc) qw 0 0 wy de ca ln fa sm pa tm 1)) H := hP
      have hb9 : bkP N (va_up _ (b + 1) (MDC E ad b (va_up g 3 (mc - 1)) (if qw = 0 then kpK kp qc g else kp) sv bf sd ip sg mk td lv tl qs (if qw = 0 then kpC qc else qc) qw 0 0 wy de ca ln fa sm pa tm 1)) b 12 (MDC E ad b (va_up g 3 (mc - 1)) (if qw = 0 then kpK kp qc g else kp) sv bf sd ip sg mk td lv tl qs (if qw = 0 then kpC qc else qc) qw 0 0 wy de ca ln fa sm pa tm) := MD_setA0 hb7 _
      have hfr := hfr.up (p := b + 1) (e := MDC E ad b (va_up g 3 (mc - 1)) (if qw = 0 then kpK kp qc g else kp) sv bf sd ip sg mk td lv tl qs (if qw = 0 then kpC qc else qc) qw 0 0 wy de ca ln fa sm pa tm 1) (by show _ ∧ _; omega)
      refine lv_iload_n hx hb dX13_removeMoth_40 rfl (lv_at hl 1 rfl) ?_
      refine lv_istore_n (lv' := [(2, .int (nI (u))), (0, .ref (ad (b))), (1, .int (nI (u)))]) hx hb dX13_removeMoth_41 rfl hl (by decide) rfl (fun ls hl => ?_)
      have hR0 := hR.less
      have hlast : ∀ j, u ≤ j → j < mc → va_up g 3 (mc - 1) (148 + j) = mo j := fun j _ hj => by rw [va_up_ne _ _ (by omega)]; exact hgm j hj
      have loop10 : ∀ (n : Nat) (i : Nat) (g1 : Nat → Nat), mc - i < n → (u ≤ i ∧ i ≤ mc - 1) → (mRg g1 ht pg wt wr (shf mo u i) (mc - 1) ni po dn) → (∀ j, i ≤ j → j < mc → g1 (148 + j) = mo j) → ∀ (w1 : Nat → va_E) (H : Heap) (locs : List Loc), gP E ad N w1 H → va_S (gA E) s.heap H locs → bkP N w1 b 12 (MDC E ad b g1 (if qw = 0 then kpK kp qc g else kp) sv bf sd ip sg mk td lv tl qs (if qw = 0 then kpC qc else qc) qw 0 0 wy de ca ln fa sm pa tm) → gFr (gIn b 12) w w1 → ∀ (ls : Array Slot), lv_has ls 3 [(2, .int (nI (i))), (1, .int (nI (u))), (0, .ref (ad (b)))] → W p l e (headSpec (lw_ws yX13_removeMoth cX13_removeMoth 3 (some .int)) ({ frames := 2, cells := 0, slots := 0, locals := 46 } : Room)).room s m ([.ref (ad (b)), .int (v)] : List Value).toArray below meth cd H locs 0 0 (MQ below (va_Qi (fun r w' => ((cmR ht pg wr mo mc 7 none v = nI 0 ∧ ∃ (g' mk' sd' : Nat → Nat) (k u qd' : Nat), cmK 7 none v k u mc ∧ r = (cmS 7 k u ht dr pg wt wr mo mc ni po dn).1 ∧ mRS g' (cmS 7 k u ht dr pg wt wr mo mc ni po dn).2 ∧ bkP N w' b 12 (MDC E ad b g' (if qw = 0 then kpK kp qc g else kp) sv bf sd' ip sg mk' td lv tl qs (if qw = 0 then kpC qc else qc) qw qd' 0 wy de ca ln fa sm pa tm)) ∨ (cmR ht pg wr mo mc 7 none v = -1 ∧ r = nI 0 ∧ bkP N w' b 12 (MDC E ad b g kp sv bf sd ip sg mk td lv tl qs qc qw 0 1 wy de ca ln fa sm pa tm)) ∨ (cmR ht pg wr mo mc 7 none v = -2 ∧ r = nI 0 ∧ bkP N w' b 12 (MDC E ad b g kp sv bf sd ip sg mk td lv tl qs qc qw 0 2 wy de ca ln fa sm pa tm)) ∨ (∃ z, 0 < z ∧ z < 7 ∧ cmR ht pg wr mo mc 7 none v = nI z ∧ r = nI 0 ∧ bkP N w' b 12 (MDC E ad b g kp sv bf sd ip sg mk td lv tl qs qc qw 1 1 z (cmT pg wr mo mc z none v) 0 ln fa sm pa tm))) ∧ gFr (gIn b 12) w w') (gB E ad N) (gA E)) ([.ref (ad (b)), .int (v)] : List Value).toArray s 0 0 (gA E)) (F0 m 42 ls []) := by
        intro n
        induction n with
        | zero => intro i g1 hmeas; omega
        | succ n ih_loop10 =>
          intro i g1 hmeas hi hR1 hla w1 H locs hP hS hb11 hfr ls hl
          have hg3b := hR1.2.2.2.2.2.1
          refine lv_iload_n hx hb dX13_removeMoth_42 rfl (lv_at hl 0 rfl) ?_
          refine lv_aload_n hx hb dX13_removeMoth_43 rfl (lv_at hl 2 rfl) ?_
          refine g_get S hI hP uX13 rfl (fs := _) (hb11.lt 0 (by decide)) (hb11.2 0 (by decide)) 0 (by decide) q1787 rfl (v := .ref (ad (b + 1))) rfl dX13_removeMoth_44 ?_
          refine g_iconst S 3 dX13_removeMoth_47 (by decide +kernel) ?_
          refine g_iald S hI hP (f := fun j => nI (g1 j)) (hb11.lt 1 (by decide)) (hb11.2 1 (by decide)) (3) (by decide) (by decide) dX13_removeMoth_48 ?_
          rw [hg3b]
          refine g_ge S (a := i) (b := mc - 1) (by omega) (by omega) (tgt := 80) dX13_removeMoth_49 (by decide) (fun h => ?_) (fun h => ?_)
          · have ei : i = mc - 1 := by omega
            subst ei
            refine lv_aload_n hx hb dX13_removeMoth_80 rfl (lv_at hl 2 rfl) ?_
            refine g_get S hI hP uX13 rfl (fs := _) (hb11.lt 0 (by decide)) (hb11.2 0 (by decide)) 0 (by decide) q1787 rfl (v := .ref (ad (b + 1))) rfl dX13_removeMoth_81 ?_
            refine g_sipush S 148 dX13_removeMoth_84 (by decide +kernel) ?_
            refine lv_aload_n hx hb dX13_removeMoth_87 rfl (lv_at hl 2 rfl) ?_
            refine g_get S hI hP uX13 rfl (fs := _) (hb11.lt 0 (by decide)) (hb11.2 0 (by decide)) 0 (by decide) q1787 rfl (v := .ref (ad (b + 1))) rfl dX13_removeMoth_88 ?_
            refine g_iconst S 3 dX13_removeMoth_91 (by decide +kernel) ?_
            refine g_iald S hI hP (f := fun j => nI (g1 j)) (hb11.lt 1 (by decide)) (hb11.2 1 (by decide)) (3) (by decide) (by decide) dX13_removeMoth_92 ?_
            rw [hg3b]
            refine g_iadd S dX13_removeMoth_93 ?_
            refine g_iconst S 0 dX13_removeMoth_94 (by decide +kernel) ?_
            refine g_iastN S hI hP hS (f := g1) (x := 0) (hb11.lt 1 (by decide)) (hb11.2 1 (by decide)) (148 + (mc - 1)) (by omega) (by decide) dX13_removeMoth_95 (fun H locs hP hS => ?_)
            have hP : gP E ad N (va_up _ (b + 1) (MDC E ad b (va_up g1 (148 + (mc - 1)) 0) (if qw = 0 then kpK kp qc g else kp) sv bf sd ip sg mk td lv tl qs (if qw = 0 then kpC qc else qc) qw 0 0 wy de ca ln fa sm pa tm 1)) H := hP
            have hb12 : bkP N (va_up _ (b + 1) (MDC E ad b (va_up g1 (148 + (mc - 1)) 0) (if qw = 0 then kpK kp qc g else kp) sv bf sd ip sg mk td lv tl qs (if qw = 0 then kpC qc else qc) qw 0 0 wy de ca ln fa sm pa tm 1)) b 12 (MDC E ad b (va_up g1 (148 + (mc - 1)) 0) (if qw = 0 then kpK kp qc g else kp) sv bf sd ip sg mk td lv tl qs (if qw = 0 then kpC qc else qc) qw 0 0 wy de ca ln fa sm pa tm) := MD_setA0 hb11 _
            have hfr := hfr.up (p := b + 1) (e := MDC E ad b (va_up g1 (148 + (mc - 1)) 0) (if qw = 0 then kpK kp qc g else kp) sv bf sd ip sg mk td lv tl qs (if qw = 0 then kpC qc else qc) qw 0 0 wy de ca ln fa sm pa tm 1) (by show _ ∧ _; omega)
            refine lv_aload_n hx hb dX13_removeMoth_96 rfl (lv_at hl 2 rfl) ?_
            refine g_get S hI hP uX13 rfl (fs := _) (hb12.lt 0 (by decide)) (hb12.2 0 (by decide)) 0 (by decide) q1787 rfl (v := .ref (ad (b + 1))) rfl dX13_removeMoth_97 ?_
            refine g_iconst S 3 dX13_removeMoth_100 (by decide +kernel) ?_
            have hg3c : va_up g1 (148 + (mc - 1)) 0 3 = mc - 1 := by rw [va_up_ne _ _ (by omega)]; exact hg3b
            refine g_iald S hI hP (f := fun j => nI ((va_up g1 (148 + (mc - 1)) 0) j)) (hb12.lt 1 (by decide)) (hb12.2 1 (by decide)) (3) (by decide) (by decide) dX13_removeMoth_101 ?_
            rw [hg3c]
            exact g_iret S hr hlocks hP hS (⟨Or.inl (⟨by show (if (inR v mc).isSome = true then nI 0 else -1) = nI 0; rw [h1]; rfl, _, _, _, 0, u, _, ⟨by decide, by omega, fun z => absurd z (by decide), fun _ => hvu, fun z => absurd z (by decide), fun _ => hum⟩, rfl, hR1.past, hb12⟩), hfr⟩) (fun _ _ => rfl) (Nat.le_of_ble_eq_true rfl) (Nat.le_of_ble_eq_true rfl) dX13_removeMoth_102
          · have hmm : i + 1 < mc := by omega
            refine lv_aload_n hx hb dX13_removeMoth_52 rfl (lv_at hl 2 rfl) ?_
            refine g_get S hI hP uX13 rfl (fs := _) (hb11.lt 0 (by decide)) (hb11.2 0 (by decide)) 0 (by decide) q1787 rfl (v := .ref (ad (b + 1))) rfl dX13_removeMoth_53 ?_
            refine g_sipush S 148 dX13_removeMoth_56 (by decide +kernel) ?_
            refine lv_iload_n hx hb dX13_removeMoth_59 rfl (lv_at hl 0 rfl) ?_
            refine g_iadd S dX13_removeMoth_60 ?_
            refine lv_aload_n hx hb dX13_removeMoth_61 rfl (lv_at hl 2 rfl) ?_
            refine g_get S hI hP uX13 rfl (fs := _) (hb11.lt 0 (by decide)) (hb11.2 0 (by decide)) 0 (by decide) q1787 rfl (v := .ref (ad (b + 1))) rfl dX13_removeMoth_62 ?_
            refine g_sipush S 148 dX13_removeMoth_65 (by decide +kernel) ?_
            refine lv_iload_n hx hb dX13_removeMoth_68 rfl (lv_at hl 0 rfl) ?_
            refine g_iadd S dX13_removeMoth_69 ?_
            refine g_iconst S 1 dX13_removeMoth_70 (by decide +kernel) ?_
            refine g_iadd S dX13_removeMoth_71 ?_
            refine g_iald S hI hP (f := fun j => nI (g1 j)) (hb11.lt 1 (by decide)) (hb11.2 1 (by decide)) (148 + i + 1) (by omega) (by decide) dX13_removeMoth_72 ?_
            rw [show g1 (148 + i + 1) = mo (i + 1) from hla (i + 1) (by omega) hmm]
            refine g_iastN S hI hP hS (f := g1) (x := mo (i + 1)) (hb11.lt 1 (by decide)) (hb11.2 1 (by decide)) (148 + i) (by omega) (by decide) dX13_removeMoth_73 (fun H locs hP hS => ?_)
            have hP : gP E ad N (va_up _ (b + 1) (MDC E ad b (va_up g1 (148 + i) (mo (i + 1))) (if qw = 0 then kpK kp qc g else kp) sv bf sd ip sg mk td lv tl qs (if qw = 0 then kpC qc else qc) qw 0 0 wy de ca ln fa sm pa tm 1)) H := hP
            have hb13 : bkP N (va_up _ (b + 1) (MDC E ad b (va_up g1 (148 + i) (mo (i + 1))) (if qw = 0 then kpK kp qc g else kp) sv bf sd ip sg mk td lv tl qs (if qw = 0 then kpC qc else qc) qw 0 0 wy de ca ln fa sm pa tm 1)) b 12 (MDC E ad b (va_up g1 (148 + i) (mo (i + 1))) (if qw = 0 then kpK kp qc g else kp) sv bf sd ip sg mk td lv tl qs (if qw = 0 then kpC qc else qc) qw 0 0 wy de ca ln fa sm pa tm) := MD_setA0 hb11 _
            have hfr := hfr.up (p := b + 1) (e := MDC E ad b (va_up g1 (148 + i) (mo (i + 1))) (if qw = 0 then kpK kp qc g else kp) sv bf sd ip sg mk td lv tl qs (if qw = 0 then kpC qc else qc) qw 0 0 wy de ca ln fa sm pa tm 1) (by show _ ∧ _; omega)
            refine lv_iinc (v := nI (i + 1)) (lv' := [(2, .int (nI (i + 1))), (1, .int (nI (u))), (0, .ref (ad (b)))]) hx hb dX13_removeMoth_74 hl (k := 0) rfl (g_inc _ 1 (by decide +kernel)) (by decide) rfl (fun ls hl => ?_)
            refine lv_goto (tgt := 42) hx hb dX13_removeMoth_77 (by decide) ?_
            exact ih_loop10 (i + 1) (va_up g1 (148 + i) (mo (i + 1))) (by omega) (by omega) (by rw [← shf_up mo hi.1]; exact hR1.upM) (fun j h1j hj => by rw [va_up_ne _ _ (by omega)]; exact hla j (by omega) hj) _ _ _ hP hS hb13 hfr ls (lv_sub hl [0, 1, 2] rfl)
      exact loop10 (mc - (u) + 1) (u) (va_up g 3 (mc - 1)) (Nat.lt_succ_self _) (by omega) (by rw [shf_0]; exact hR0) (hlast) _ _ _ hP hS hb9 hfr ls (lv_sub hl [0, 2, 1] rfl)
    · exact absurd h2 (by decide)
set_option maxHeartbeats 4000000 in
set_option maxRecDepth 100000 in
/-- a night passes -/
theorem mX13_darkens (l : Launch) {E : gE} {ad : Nat → Nat} {N : Nat} {w : Nat → va_E} (b : Nat) (g kp sv bf sd ip sg mk td lv tl : Nat → Nat) (qs qc qw qd co wy : Nat) (de : Int32) (ca ln : Nat) (fa : Option Nat) (sm pa tm : Nat) (ht dr pg wt wr mo : Nat → Nat) (mc ni po dn : Nat) (hb_m : bkP N w b 12 (MDC E ad b g kp sv bf sd ip sg mk td lv tl qs qc qw qd co wy de ca ln fa sm pa tm)) (hR : mRg g ht pg wt wr mo mc ni po dn) (hht : ∀ k, k < 36 → ht k ≤ 99) (hwr : ∀ k, k < 36 → wr k ≤ 3) (hm : mc ≤ 4) (hmo : ∀ k, k < mc → mo k < 36) : gMi l yX13_darkens (lw_ws yX13_darkens cX13_darkens 6 (some .int)) ({ frames := 3, cells := 0, slots := 0, locals := 66 } : Room) E ad N w [.ref (ad (b))] (fun r w' => r = nI (night ht wr mo mc mc).2.2 ∧ ∃ g' : Nat → Nat, mRg g' ht pg wt (night ht wr mo mc mc).2.1 (night ht wr mo mc mc).1 mc (ni + 1) po dn ∧ bkP N w' b 12 (MDC E ad b g' kp sv bf sd ip sg mk td lv tl qs qc qw qd co wy de ca ln fa sm pa tm) ∧ gFr (gIn b 12) w w') 0 0 := by
  refine Met.ofW (cc := cX13_darkens) (maxL := 6) (ret := (some .int)) (by decide) rfl ?_
  intro p e s m args below meth cd s₁ B hml hv
  obtain ⟨rfl, hI, hP⟩ := hv
  obtain ⟨S, hr, hlocks⟩ := gPre (ws := []) B hml (C := RX13) rfl
  have hx := S.1
  have hb := S.2.1
  have hS : va_S (gA E) s.heap s.heap [] := va_S.rf
  have hfr : gFr (gIn b 12) w w := gFr.rf
  have hl := lv_entry ([.ref (ad (b))]) (n := 6) (Nat.le_of_ble_eq_true rfl)
  rw [lg_entry_eq]
  generalize (lg_sl ([.ref (ad (b))]) ++ List.replicate (6 - (lg_sl ([.ref (ad (b))])).length) Slot.unset).toArray = ls at hl ⊢
  have hl : lv_has ls 6 [(0, .ref (ad (b)))] := hl
  obtain ⟨hgh, hgw, hgp, hgt, hgm, hg3, hg0, hg1, hg2⟩ := id hR
  refine g_iconst S 0 dX13_darkens_0 (by decide +kernel) ?_
  refine lv_istore_n (lv' := [(1, .int (nI (0))), (0, .ref (ad (b)))]) hx hb dX13_darkens_1 rfl hl (by decide) rfl (fun ls hl => ?_)
  refine lv_aload_n hx hb dX13_darkens_2 rfl (lv_at hl 1 rfl) ?_
  refine g_get S hI hP uX13 rfl (fs := _) (hb_m.lt 0 (by decide)) (hb_m.2 0 (by decide)) 0 (by decide) q1787 rfl (v := .ref (ad (b + 1))) rfl dX13_darkens_3 ?_
  refine g_iconst S 0 dX13_darkens_6 (by decide +kernel) ?_
  refine lv_dup2_11 hx hb dX13_darkens_7 rfl rfl ?_
  refine g_iald S hI hP (f := fun j => nI (g j)) (hb_m.lt 1 (by decide)) (hb_m.2 1 (by decide)) (0) (by decide) (by decide) dX13_darkens_8 ?_
  rw [hg0]
  refine g_iconst S 1 dX13_darkens_9 (by decide +kernel) ?_
  refine g_iadd S dX13_darkens_10 ?_
  refine g_iastN S hI hP hS (f := g) (x := ni + 1) (hb_m.lt 1 (by decide)) (hb_m.2 1 (by decide)) (0) (by decide) (by decide) dX13_darkens_11 (fun H locs hP hS => ?_)
  have hP : gP E ad N (va_up _ (b + 1) (MDC E ad b (va_up g 0 (ni + 1)) kp sv bf sd ip sg mk td lv tl qs qc qw qd co wy de ca ln fa sm pa tm 1)) H := hP
  have hb1 : bkP N (va_up _ (b + 1) (MDC E ad b (va_up g 0 (ni + 1)) kp sv bf sd ip sg mk td lv tl qs qc qw qd co wy de ca ln fa sm pa tm 1)) b 12 (MDC E ad b (va_up g 0 (ni + 1)) kp sv bf sd ip sg mk td lv tl qs qc qw qd co wy de ca ln fa sm pa tm) := MD_setA0 hb_m _
  have hfr := hfr.up (p := b + 1) (e := MDC E ad b (va_up g 0 (ni + 1)) kp sv bf sd ip sg mk td lv tl qs qc qw qd co wy de ca ln fa sm pa tm 1) (by show _ ∧ _; omega)
  refine g_iconst S 0 dX13_darkens_12 (by decide +kernel) ?_
  refine lv_istore_n (lv' := [(2, .int (nI (0))), (1, .int (nI (0))), (0, .ref (ad (b)))]) hx hb dX13_darkens_13 rfl hl (by decide) rfl (fun ls hl => ?_)
  have lpa : ∀ (n : Nat) (i : Nat) (g1 : Nat → Nat), mc - i < n → (i ≤ mc) → (mRg g1 ht pg wt (night ht wr mo mc i).2.1 (night ht wr mo mc i).1 mc (ni + 1) po dn) → ∀ (w1 : Nat → va_E) (H : Heap) (locs : List Loc), gP E ad N w1 H → va_S (gA E) s.heap H locs → bkP N w1 b 12 (MDC E ad b g1 kp sv bf sd ip sg mk td lv tl qs qc qw qd co wy de ca ln fa sm pa tm) → gFr (gIn b 12) w w1 → ∀ (ls : Array Slot), lv_has ls 6 [(2, .int (nI (i))), (1, .int (nI ((night ht wr mo mc i).2.2))), (0, .ref (ad (b)))] → W p l e (headSpec (lw_ws yX13_darkens cX13_darkens 6 (some .int)) ({ frames := 3, cells := 0, slots := 0, locals := 66 } : Room)).room s m ([.ref (ad (b))] : List Value).toArray below meth cd H locs 0 0 (MQ below (va_Qi (fun r w' => r = nI (night ht wr mo mc mc).2.2 ∧ ∃ g' : Nat → Nat, mRg g' ht pg wt (night ht wr mo mc mc).2.1 (night ht wr mo mc mc).1 mc (ni + 1) po dn ∧ bkP N w' b 12 (MDC E ad b g' kp sv bf sd ip sg mk td lv tl qs qc qw qd co wy de ca ln fa sm pa tm) ∧ gFr (gIn b 12) w w') (gB E ad N) (gA E)) ([.ref (ad (b))] : List Value).toArray s 0 0 (gA E)) (F0 m 14 ls []) := by
    intro n
    induction n with
    | zero => intro i g1 hmeas; omega
    | succ n ih_lpa =>
      intro i g1 hmeas hi hR1 w1 H locs hP hS hb2 hfr ls hl
      obtain ⟨hw2, hm2⟩ := night_ok (ht := ht) hwr hmo i hi
      obtain ⟨hgh, hgw, hgp, hgt, hgm, hg3, hg0, hg1, hg2⟩ := id hR1
      refine lv_iload_n hx hb dX13_darkens_14 rfl (lv_at hl 0 rfl) ?_
      refine lv_aload_n hx hb dX13_darkens_15 rfl (lv_at hl 2 rfl) ?_
      refine g_get S hI hP uX13 rfl (fs := _) (hb2.lt 0 (by decide)) (hb2.2 0 (by decide)) 0 (by decide) q1787 rfl (v := .ref (ad (b + 1))) rfl dX13_darkens_16 ?_
      refine g_iconst S 3 dX13_darkens_19 (by decide +kernel) ?_
      refine g_iald S hI hP (f := fun j => nI (g1 j)) (hb2.lt 1 (by decide)) (hb2.2 1 (by decide)) (3) (by decide) (by decide) dX13_darkens_20 ?_
      rw [hg3]
      refine g_ge S (a := i) (b := mc) (by omega) (by omega) (tgt := 180) dX13_darkens_21 (by decide) (fun h => ?_) (fun h => ?_)
      · have ei : i = mc := by omega
        subst ei
        refine lv_iload_n hx hb dX13_darkens_180 rfl (lv_at hl 1 rfl) ?_
        exact g_iret S hr hlocks hP hS (⟨rfl, g1, hR1, hb2, hfr⟩) (fun _ _ => rfl) (Nat.le_of_ble_eq_true rfl) (Nat.le_of_ble_eq_true rfl) dX13_darkens_181
      · obtain ⟨cc, hcc⟩ : ∃ z, z = (night ht wr mo mc i).1 i := ⟨_, rfl⟩
        have hc : cc < 36 := by rw [hcc]; exact hm2 i h
        obtain ⟨wn, hwn⟩ : ∃ z, z = (night ht wr mo mc i).2.1 := ⟨_, rfl⟩
        obtain ⟨mn, hmn⟩ : ∃ z, z = (night ht wr mo mc i).1 := ⟨_, rfl⟩
        obtain ⟨cn, hcn⟩ : ∃ z, z = (night ht wr mo mc i).2.2 := ⟨_, rfl⟩
        rw [← hwn, ← hmn] at hR1
        rw [← hwn] at hgw hw2
        rw [← hmn] at hgm hm2 hcc
        rw [← hcn] at hl
        have hns : night ht wr mo mc (i + 1) = (va_up mn i (flyE ht wn mn mc cc), if 3 ≤ wn (flyE ht wn mn mc cc) then wn else va_up wn (flyE ht wn mn mc cc) (wn (flyE ht wn mn mc cc) + 1), cn + (if wn (flyE ht wn mn mc cc) = 2 then 1 else 0)) := by rw [hcc, hwn, hmn, hcn]; rfl
        refine lv_iconst (v := -1) hx hb dX13_darkens_24 (by decide +kernel) ?_
        refine lv_istore_n (lv' := [(3, .int (-1)), (2, .int (nI (i))), (1, .int (nI (cn))), (0, .ref (ad (b)))]) hx hb dX13_darkens_25 rfl hl (by decide) rfl (fun ls hl => ?_)
        refine g_iconst S 0 dX13_darkens_26 (by decide +kernel) ?_
        refine lv_istore (lv' := [(4, .int (nI (0))), (3, .int (-1)), (2, .int (nI (i))), (1, .int (nI (cn))), (0, .ref (ad (b)))]) hx hb dX13_darkens_27 hl (by decide) rfl (fun ls hl => ?_)
        have lpb : ∀ (n : Nat) (d : Nat), 4 - d < n → (d ≤ 4) → ∀ (w1 : Nat → va_E) (H : Heap) (locs : List Loc), gP E ad N w1 H → va_S (gA E) s.heap H locs → bkP N w1 b 12 (MDC E ad b g1 kp sv bf sd ip sg mk td lv tl qs qc qw qd co wy de ca ln fa sm pa tm) → gFr (gIn b 12) w w1 → ∀ (ls : Array Slot), lv_has ls 6 [(4, .int (nI (d))), (3, .int (oI (fly ht wn mn mc cc d))), (2, .int (nI (i))), (1, .int (nI (cn))), (0, .ref (ad (b)))] → W p l e (headSpec (lw_ws yX13_darkens cX13_darkens 6 (some .int)) ({ frames := 3, cells := 0, slots := 0, locals := 66 } : Room)).room s m ([.ref (ad (b))] : List Value).toArray below meth cd H locs 0 0 (MQ below (va_Qi (fun r w' => r = nI (night ht wr mo mc mc).2.2 ∧ ∃ g' : Nat → Nat, mRg g' ht pg wt (night ht wr mo mc mc).2.1 (night ht wr mo mc mc).1 mc (ni + 1) po dn ∧ bkP N w' b 12 (MDC E ad b g' kp sv bf sd ip sg mk td lv tl qs qc qw qd co wy de ca ln fa sm pa tm) ∧ gFr (gIn b 12) w w') (gB E ad N) (gA E)) ([.ref (ad (b))] : List Value).toArray s 0 0 (gA E)) (F0 m 29 ls []) := by
          intro n
          induction n with
          | zero => intro d hmeas; omega
          | succ n ih_lpb =>
            intro d hmeas hd w1 H locs hP hS hb3 hfr ls hl
            refine lv_iload hx hb dX13_darkens_29 (lv_at hl 0 rfl) ?_
            refine g_iconst S 4 dX13_darkens_31 (by decide +kernel) ?_
            refine g_ge S (a := d) (b := 4) (by omega) (by omega) (tgt := 102) dX13_darkens_32 (by decide) (fun hd4 => ?_) (fun hd4 => ?_)
            · have e_d : d = 4 := by omega
              subst e_d
              have hto := flyE_lt (ht := ht) (wr := wn) (mo := mn) (mc := mc) hc
              obtain ⟨to, hto2⟩ : ∃ z, z = flyE ht wn mn mc cc := ⟨_, rfl⟩
              rw [← hto2] at hto hns
              have lpc : ∀ (n : Nat) (g2 : Nat → Nat), 0 < n → (mRg g2 ht pg wt wn (va_up mn i to) mc (ni + 1) po dn) → ∀ (w1 : Nat → va_E) (H : Heap) (locs : List Loc), gP E ad N w1 H → va_S (gA E) s.heap H locs → bkP N w1 b 12 (MDC E ad b g2 kp sv bf sd ip sg mk td lv tl qs qc qw qd co wy de ca ln fa sm pa tm) → gFr (gIn b 12) w w1 → ∀ (ls : Array Slot), lv_has ls 6 [(2, .int (nI (i))), (1, .int (nI (cn))), (0, .ref (ad (b)))] → W p l e (headSpec (lw_ws yX13_darkens cX13_darkens 6 (some .int)) ({ frames := 3, cells := 0, slots := 0, locals := 66 } : Room)).room s m ([.ref (ad (b))] : List Value).toArray below meth cd H locs 0 0 (MQ below (va_Qi (fun r w' => r = nI (night ht wr mo mc mc).2.2 ∧ ∃ g' : Nat → Nat, mRg g' ht pg wt (night ht wr mo mc mc).2.1 (night ht wr mo mc mc).1 mc (ni + 1) po dn ∧ bkP N w' b 12 (MDC E ad b g' kp sv bf sd ip sg mk td lv tl qs qc qw qd co wy de ca ln fa sm pa tm) ∧ gFr (gIn b 12) w w') (gB E ad N) (gA E)) ([.ref (ad (b))] : List Value).toArray s 0 0 (gA E)) (F0 m 117 ls []) := by
                intro n
                induction n with
                | zero => intro g2 hmeas; omega
                | succ n ih_lpc =>
                  intro g2 hmeas hR2 w1 H locs hP hS hb4 hfr ls hl
                  have hw9 := hw2 to hto
                  refine lv_aload_n hx hb dX13_darkens_117 rfl (lv_at hl 2 rfl) ?_
                  refine g_get S hI hP uX13 rfl (fs := _) (hb4.lt 0 (by decide)) (hb4.2 0 (by decide)) 0 (by decide) q1787 rfl (v := .ref (ad (b + 1))) rfl dX13_darkens_118 ?_
                  refine g_sipush S 148 dX13_darkens_121 (by decide +kernel) ?_
                  refine lv_iload_n hx hb dX13_darkens_124 rfl (lv_at hl 0 rfl) ?_
                  refine g_iadd S dX13_darkens_125 ?_
                  refine g_iald S hI hP (f := fun j => nI (g2 j)) (hb4.lt 1 (by decide)) (hb4.2 1 (by decide)) (148 + i) (by omega) (by decide) dX13_darkens_126 ?_
                  rw [show g2 (148 + i) = to by rw [hR2.2.2.2.2.1 i h, va_up_self]]
                  refine lv_istore (lv' := [(4, .int (nI (to))), (2, .int (nI (i))), (1, .int (nI (cn))), (0, .ref (ad (b)))]) hx hb dX13_darkens_127 hl (by decide) rfl (fun ls hl => ?_)
                  refine lv_iload_n hx hb dX13_darkens_129 rfl (lv_at hl 2 rfl) ?_
                  refine lv_aload_n hx hb dX13_darkens_130 rfl (lv_at hl 3 rfl) ?_
                  refine g_get S hI hP uX13 rfl (fs := _) (hb4.lt 0 (by decide)) (hb4.2 0 (by decide)) 0 (by decide) q1787 rfl (v := .ref (ad (b + 1))) rfl dX13_darkens_131 ?_
                  refine g_bipush S 40 dX13_darkens_134 (by decide +kernel) ?_
                  refine lv_iload hx hb dX13_darkens_136 (lv_at hl 0 rfl) ?_
                  refine g_iadd S dX13_darkens_138 ?_
                  refine g_iald S hI hP (f := fun j => nI (g2 j)) (hb4.lt 1 (by decide)) (hb4.2 1 (by decide)) (40 + to) (by omega) (by decide) dX13_darkens_139 ?_
                  rw [hR2.2.1 to hto]
                  refine g_iconst S 2 dX13_darkens_140 (by decide +kernel) ?_
                  refine g_ne S (a := wn to) (b := 2) (by omega) (by omega) (tgt := 148) dX13_darkens_141 (by decide) (fun h2w => ?_) (fun h2w => ?_)
                  · refine g_iconst S 0 dX13_darkens_148 (by decide +kernel) ?_
                    refine g_iadd S dX13_darkens_149 ?_
                    refine lv_istore_n (lv' := [(1, .int (nI (cn + 0))), (4, .int (nI (to))), (2, .int (nI (i))), (0, .ref (ad (b)))]) hx hb dX13_darkens_150 rfl hl (by decide) rfl (fun ls hl => ?_)
                    refine lv_aload_n hx hb dX13_darkens_151 rfl (lv_at hl 3 rfl) ?_
                    refine lv_iload hx hb dX13_darkens_152 (lv_at hl 1 rfl) ?_
                    have hl : lv_has ls 6 [(1, .int (nI ((night ht wr mo mc (i + 1)).2.2))), (4, .int (nI (to))), (2, .int (nI (i))), (0, .ref (ad (b)))] := by rw [show (night ht wr mo mc (i + 1)).2.2 = cn + 0 by rw [hns]; show cn + (if wn to = 2 then 1 else 0) = _; rw [if_neg (by omega)]]; exact hl
                    refine g_roi (g_runV S hI hP hS (k := 1) (As := [.int (nI (to))]) (rest := []) (mX13_isHole l b g2 kp sv bf sd ip sg mk td lv tl qs qc qw qd co wy de ca ln fa sm pa tm to (wn to) hb4 hto (hR2.2.1 to hto) hw9) q1968 q1970 q60 q100 q1971 rfl rfl (by decide +kernel) ⟨Nat.le_of_ble_eq_true rfl, Nat.le_of_ble_eq_true rfl⟩ rfl (hb4.lt 0 (by decide)) (hb4.2 0 (by decide)) rfl hl.1 rfl (Nat.le_of_ble_eq_true rfl) ⟨(Nat.le_of_ble_eq_true rfl), (Nat.le_of_ble_eq_true rfl)⟩ dX13_darkens_154) hS (fun H locs hP hS => ?_)
                    refine g_bne S (b := decide (3 ≤ wn to)) (tgt := 174) dX13_darkens_157 (by decide) (fun h3w => ?_) (fun h3w => ?_)
                    · have h3w := of_decide_eq_true h3w
                      refine lv_iinc (v := nI (i + 1)) (lv' := [(2, .int (nI (i + 1))), (1, .int (nI ((night ht wr mo mc (i + 1)).2.2))), (4, .int (nI (to))), (0, .ref (ad (b)))]) hx hb dX13_darkens_174 hl (k := 2) rfl (g_inc _ 1 (by decide +kernel)) (by decide) rfl (fun ls hl => ?_)
                      refine lv_goto (tgt := 14) hx hb dX13_darkens_177 (by decide) ?_
                      exact ih_lpa (i + 1) (g2) (by omega) (by omega) (by rw [hns]; show mRg g2 ht pg wt (if 3 ≤ wn to then wn else _) (va_up mn i to) mc (ni + 1) po dn; rw [if_pos h3w]; exact hR2) _ _ _ hP hS hb4 hfr ls (lv_sub hl [0, 1, 3] rfl)
                    · have h3w := of_decide_eq_false h3w
                      refine lv_aload_n hx hb dX13_darkens_160 rfl (lv_at hl 3 rfl) ?_
                      refine g_get S hI hP uX13 rfl (fs := _) (hb4.lt 0 (by decide)) (hb4.2 0 (by decide)) 0 (by decide) q1787 rfl (v := .ref (ad (b + 1))) rfl dX13_darkens_161 ?_
                      refine g_bipush S 40 dX13_darkens_164 (by decide +kernel) ?_
                      refine lv_iload hx hb dX13_darkens_166 (lv_at hl 1 rfl) ?_
                      refine g_iadd S dX13_darkens_168 ?_
                      refine lv_dup2_11 hx hb dX13_darkens_169 rfl rfl ?_
                      refine g_iald S hI hP (f := fun j => nI (g2 j)) (hb4.lt 1 (by decide)) (hb4.2 1 (by decide)) (40 + to) (by omega) (by decide) dX13_darkens_170 ?_
                      rw [hR2.2.1 to hto]
                      refine g_iconst S 1 dX13_darkens_171 (by decide +kernel) ?_
                      refine g_iadd S dX13_darkens_172 ?_
                      refine g_iastN S hI hP hS (f := g2) (x := wn to + 1) (hb4.lt 1 (by decide)) (hb4.2 1 (by decide)) (40 + to) (by omega) (by decide) dX13_darkens_173 (fun H locs hP hS => ?_)
                      have hP : gP E ad N (va_up _ (b + 1) (MDC E ad b (va_up g2 (40 + to) (wn to + 1)) kp sv bf sd ip sg mk td lv tl qs qc qw qd co wy de ca ln fa sm pa tm 1)) H := hP
                      have hb5 : bkP N (va_up _ (b + 1) (MDC E ad b (va_up g2 (40 + to) (wn to + 1)) kp sv bf sd ip sg mk td lv tl qs qc qw qd co wy de ca ln fa sm pa tm 1)) b 12 (MDC E ad b (va_up g2 (40 + to) (wn to + 1)) kp sv bf sd ip sg mk td lv tl qs qc qw qd co wy de ca ln fa sm pa tm) := MD_setA0 hb4 _
                      have hfr := hfr.up (p := b + 1) (e := MDC E ad b (va_up g2 (40 + to) (wn to + 1)) kp sv bf sd ip sg mk td lv tl qs qc qw qd co wy de ca ln fa sm pa tm 1) (by show _ ∧ _; omega)
                      refine lv_iinc (v := nI (i + 1)) (lv' := [(2, .int (nI (i + 1))), (1, .int (nI ((night ht wr mo mc (i + 1)).2.2))), (4, .int (nI (to))), (0, .ref (ad (b)))]) hx hb dX13_darkens_174 hl (k := 2) rfl (g_inc _ 1 (by decide +kernel)) (by decide) rfl (fun ls hl => ?_)
                      refine lv_goto (tgt := 14) hx hb dX13_darkens_177 (by decide) ?_
                      exact ih_lpa (i + 1) (va_up g2 (40 + to) (wn to + 1)) (by omega) (by omega) (by rw [hns]; show mRg _ ht pg wt (if 3 ≤ wn to then wn else va_up wn to (wn to + 1)) (va_up mn i to) mc (ni + 1) po dn; rw [if_neg h3w]; exact hR2.upW hto) _ _ _ hP hS hb5 hfr ls (lv_sub hl [0, 1, 3] rfl)
                  · refine g_iconst S 1 dX13_darkens_144 (by decide +kernel) ?_
                    refine lv_goto (tgt := 149) hx hb dX13_darkens_145 (by decide) ?_
                    refine g_iadd S dX13_darkens_149 ?_
                    refine lv_istore_n (lv' := [(1, .int (nI (cn + 1))), (4, .int (nI (to))), (2, .int (nI (i))), (0, .ref (ad (b)))]) hx hb dX13_darkens_150 rfl hl (by decide) rfl (fun ls hl => ?_)
                    refine lv_aload_n hx hb dX13_darkens_151 rfl (lv_at hl 3 rfl) ?_
                    refine lv_iload hx hb dX13_darkens_152 (lv_at hl 1 rfl) ?_
                    have hl : lv_has ls 6 [(1, .int (nI ((night ht wr mo mc (i + 1)).2.2))), (4, .int (nI (to))), (2, .int (nI (i))), (0, .ref (ad (b)))] := by rw [show (night ht wr mo mc (i + 1)).2.2 = cn + 1 by rw [hns]; show cn + (if wn to = 2 then 1 else 0) = _; rw [if_pos (by omega)]]; exact hl
                    refine g_roi (g_runV S hI hP hS (k := 1) (As := [.int (nI (to))]) (rest := []) (mX13_isHole l b g2 kp sv bf sd ip sg mk td lv tl qs qc qw qd co wy de ca ln fa sm pa tm to (wn to) hb4 hto (hR2.2.1 to hto) hw9) q1968 q1970 q60 q100 q1971 rfl rfl (by decide +kernel) ⟨Nat.le_of_ble_eq_true rfl, Nat.le_of_ble_eq_true rfl⟩ rfl (hb4.lt 0 (by decide)) (hb4.2 0 (by decide)) rfl hl.1 rfl (Nat.le_of_ble_eq_true rfl) ⟨(Nat.le_of_ble_eq_true rfl), (Nat.le_of_ble_eq_true rfl)⟩ dX13_darkens_154) hS (fun H locs hP hS => ?_)
                    refine g_bne S (b := decide (3 ≤ wn to)) (tgt := 174) dX13_darkens_157 (by decide) (fun h3w => ?_) (fun h3w => ?_)
                    · have h3w := of_decide_eq_true h3w
                      refine lv_iinc (v := nI (i + 1)) (lv' := [(2, .int (nI (i + 1))), (1, .int (nI ((night ht wr mo mc (i + 1)).2.2))), (4, .int (nI (to))), (0, .ref (ad (b)))]) hx hb dX13_darkens_174 hl (k := 2) rfl (g_inc _ 1 (by decide +kernel)) (by decide) rfl (fun ls hl => ?_)
                      refine lv_goto (tgt := 14) hx hb dX13_darkens_177 (by decide) ?_
                      exact ih_lpa (i + 1) (g2) (by omega) (by omega) (by rw [hns]; show mRg g2 ht pg wt (if 3 ≤ wn to then wn else _) (va_up mn i to) mc (ni + 1) po dn; rw [if_pos h3w]; exact hR2) _ _ _ hP hS hb4 hfr ls (lv_sub hl [0, 1, 3] rfl)
                    · have h3w := of_decide_eq_false h3w
                      refine lv_aload_n hx hb dX13_darkens_160 rfl (lv_at hl 3 rfl) ?_
                      refine g_get S hI hP uX13 rfl (fs := _) (hb4.lt 0 (by decide)) (hb4.2 0 (by decide)) 0 (by decide) q1787 rfl (v := .ref (ad (b + 1))) rfl dX13_darkens_161 ?_
                      refine g_bipush S 40 dX13_darkens_164 (by decide +kernel) ?_
                      refine lv_iload hx hb dX13_darkens_166 (lv_at hl 1 rfl) ?_
                      refine g_iadd S dX13_darkens_168 ?_
                      refine lv_dup2_11 hx hb dX13_darkens_169 rfl rfl ?_
                      refine g_iald S hI hP (f := fun j => nI (g2 j)) (hb4.lt 1 (by decide)) (hb4.2 1 (by decide)) (40 + to) (by omega) (by decide) dX13_darkens_170 ?_
                      rw [hR2.2.1 to hto]
                      refine g_iconst S 1 dX13_darkens_171 (by decide +kernel) ?_
                      refine g_iadd S dX13_darkens_172 ?_
                      refine g_iastN S hI hP hS (f := g2) (x := wn to + 1) (hb4.lt 1 (by decide)) (hb4.2 1 (by decide)) (40 + to) (by omega) (by decide) dX13_darkens_173 (fun H locs hP hS => ?_)
                      have hP : gP E ad N (va_up _ (b + 1) (MDC E ad b (va_up g2 (40 + to) (wn to + 1)) kp sv bf sd ip sg mk td lv tl qs qc qw qd co wy de ca ln fa sm pa tm 1)) H := hP
                      have hb6 : bkP N (va_up _ (b + 1) (MDC E ad b (va_up g2 (40 + to) (wn to + 1)) kp sv bf sd ip sg mk td lv tl qs qc qw qd co wy de ca ln fa sm pa tm 1)) b 12 (MDC E ad b (va_up g2 (40 + to) (wn to + 1)) kp sv bf sd ip sg mk td lv tl qs qc qw qd co wy de ca ln fa sm pa tm) := MD_setA0 hb4 _
                      have hfr := hfr.up (p := b + 1) (e := MDC E ad b (va_up g2 (40 + to) (wn to + 1)) kp sv bf sd ip sg mk td lv tl qs qc qw qd co wy de ca ln fa sm pa tm 1) (by show _ ∧ _; omega)
                      refine lv_iinc (v := nI (i + 1)) (lv' := [(2, .int (nI (i + 1))), (1, .int (nI ((night ht wr mo mc (i + 1)).2.2))), (4, .int (nI (to))), (0, .ref (ad (b)))]) hx hb dX13_darkens_174 hl (k := 2) rfl (g_inc _ 1 (by decide +kernel)) (by decide) rfl (fun ls hl => ?_)
                      refine lv_goto (tgt := 14) hx hb dX13_darkens_177 (by decide) ?_
                      exact ih_lpa (i + 1) (va_up g2 (40 + to) (wn to + 1)) (by omega) (by omega) (by rw [hns]; show mRg _ ht pg wt (if 3 ≤ wn to then wn else va_up wn to (wn to + 1)) (va_up mn i to) mc (ni + 1) po dn; rw [if_neg h3w]; exact hR2.upW hto) _ _ _ hP hS hb6 hfr ls (lv_sub hl [0, 1, 3] rfl)
              refine lv_iload_n hx hb dX13_darkens_102 rfl (lv_at hl 1 rfl) ?_
              refine g_oltZ S (o := fly ht wn mn mc cc 4) (fun k hk => Nat.lt_trans (fly_lt hc hk) (by decide)) (tgt := 117) dX13_darkens_103 (by decide) (fun hq => ?_) (fun hq_k hq => ?_)
              · have hto3 : to = cc := by rw [hto2]; unfold flyE; rw [hq]; rfl
                exact lpc (0 + 1) (g1) (Nat.lt_succ_self _) (by rw [hto3, hcc, va_up_id]; exact hR1) _ _ _ hP hS hb3 hfr ls (lv_sub hl [2, 3, 4] rfl)
              · have hto3 : to = hq_k := by rw [hto2]; unfold flyE; rw [hq]; rfl
                have hl : lv_has ls 6 [(4, .int (nI (4))), (3, .int (nI (hq_k))), (2, .int (nI (i))), (1, .int (nI (cn))), (0, .ref (ad (b)))] := by rw [hq] at hl; exact hl
                refine lv_aload_n hx hb dX13_darkens_106 rfl (lv_at hl 4 rfl) ?_
                refine g_get S hI hP uX13 rfl (fs := _) (hb3.lt 0 (by decide)) (hb3.2 0 (by decide)) 0 (by decide) q1787 rfl (v := .ref (ad (b + 1))) rfl dX13_darkens_107 ?_
                refine g_sipush S 148 dX13_darkens_110 (by decide +kernel) ?_
                refine lv_iload_n hx hb dX13_darkens_113 rfl (lv_at hl 2 rfl) ?_
                refine g_iadd S dX13_darkens_114 ?_
                refine lv_iload_n hx hb dX13_darkens_115 rfl (lv_at hl 1 rfl) ?_
                refine g_iastN S hI hP hS (f := g1) (x := hq_k) (hb3.lt 1 (by decide)) (hb3.2 1 (by decide)) (148 + i) (by omega) (by decide) dX13_darkens_116 (fun H locs hP hS => ?_)
                have hP : gP E ad N (va_up _ (b + 1) (MDC E ad b (va_up g1 (148 + i) hq_k) kp sv bf sd ip sg mk td lv tl qs qc qw qd co wy de ca ln fa sm pa tm 1)) H := hP
                have hb7 : bkP N (va_up _ (b + 1) (MDC E ad b (va_up g1 (148 + i) hq_k) kp sv bf sd ip sg mk td lv tl qs qc qw qd co wy de ca ln fa sm pa tm 1)) b 12 (MDC E ad b (va_up g1 (148 + i) hq_k) kp sv bf sd ip sg mk td lv tl qs qc qw qd co wy de ca ln fa sm pa tm) := MD_setA0 hb3 _
                have hfr := hfr.up (p := b + 1) (e := MDC E ad b (va_up g1 (148 + i) hq_k) kp sv bf sd ip sg mk td lv tl qs qc qw qd co wy de ca ln fa sm pa tm 1) (by show _ ∧ _; omega)
                exact lpc (0 + 1) (va_up g1 (148 + i) hq_k) (Nat.lt_succ_self _) (by rw [hto3]; exact hR1.upM) _ _ _ hP hS hb7 hfr ls (lv_sub hl [2, 3, 4] rfl)
            · refine lv_aload_n hx hb dX13_darkens_35 rfl (lv_at hl 4 rfl) ?_
              refine g_get S hI hP uX13 rfl (fs := _) (hb3.lt 0 (by decide)) (hb3.2 0 (by decide)) 0 (by decide) q1787 rfl (v := .ref (ad (b + 1))) rfl dX13_darkens_36 ?_
              refine g_sipush S 148 dX13_darkens_39 (by decide +kernel) ?_
              refine lv_iload_n hx hb dX13_darkens_42 rfl (lv_at hl 2 rfl) ?_
              refine g_iadd S dX13_darkens_43 ?_
              refine g_iald S hI hP (f := fun j => nI (g1 j)) (hb3.lt 1 (by decide)) (hb3.2 1 (by decide)) (148 + i) (by omega) (by decide) dX13_darkens_44 ?_
              rw [show g1 (148 + i) = cc by rw [hgm i h, hcc]]
              refine lv_iload hx hb dX13_darkens_45 (lv_at hl 0 rfl) ?_
              refine g_roi (g_runS S hI hP hS (k := 2) (As := [.int (nI (cc)), .int (nI (d))]) (rest := []) (mX13_beside l cc d hc hd4) q1917 q1918 q100 q1919 rfl rfl (by decide +kernel) ⟨Nat.le_of_ble_eq_true rfl, Nat.le_of_ble_eq_true rfl⟩ rfl hl.1 rfl (Nat.le_of_ble_eq_true rfl) ⟨(Nat.le_of_ble_eq_true rfl), (Nat.le_of_ble_eq_true rfl)⟩ dX13_darkens_47) hS (fun H locs hP hS => ?_)
              refine lv_istore (lv' := [(5, .int (oI (nb cc d))), (4, .int (nI (d))), (3, .int (oI (fly ht wn mn mc cc d))), (2, .int (nI (i))), (1, .int (nI (cn))), (0, .ref (ad (b)))]) hx hb dX13_darkens_50 hl (by decide) rfl (fun ls hl => ?_)
              refine lv_iload hx hb dX13_darkens_52 (lv_at hl 0 rfl) ?_
              refine g_oltZ S (o := nb cc d) (fun k hk => Nat.lt_trans (nb_lt hc hk) (by decide)) (tgt := 96) dX13_darkens_54 (by decide) (fun hn => ?_) (fun hn_k hn => ?_)
              · refine lv_iinc (v := nI (d + 1)) (lv' := [(4, .int (nI (d + 1))), (5, .int (oI (nb cc d))), (3, .int (oI (fly ht wn mn mc cc d))), (2, .int (nI (i))), (1, .int (nI (cn))), (0, .ref (ad (b)))]) hx hb dX13_darkens_96 hl (k := 1) rfl (g_inc _ 1 (by decide +kernel)) (by decide) rfl (fun ls hl => ?_)
                refine lv_goto (tgt := 29) hx hb dX13_darkens_99 (by decide) ?_
                have hl : lv_has ls 6 [(4, .int (nI (d + 1))), (5, .int (oI (nb cc d))), (3, .int (oI (fly ht wn mn mc cc (d + 1)))), (2, .int (nI (i))), (1, .int (nI (cn))), (0, .ref (ad (b)))] := by rw [show fly ht wn mn mc cc (d + 1) = fly ht wn mn mc cc d by simp [fly, hn]]; exact hl
                exact ih_lpb (d + 1) (by omega) (by omega) _ _ _ hP hS hb3 hfr ls (lv_sub hl [0, 2, 3, 4, 5] rfl)
              · have hk36 := nb_lt hc hn
                have z1 := hht hn_k hk36
                have hl : lv_has ls 6 [(5, .int (nI (hn_k))), (4, .int (nI (d))), (3, .int (oI (fly ht wn mn mc cc d))), (2, .int (nI (i))), (1, .int (nI (cn))), (0, .ref (ad (b)))] := by rw [hn] at hl; exact hl
                refine lv_aload_n hx hb dX13_darkens_57 rfl (lv_at hl 5 rfl) ?_
                refine lv_iload hx hb dX13_darkens_58 (lv_at hl 0 rfl) ?_
                refine g_roi (g_runV S hI hP hS (k := 1) (As := [.int (nI (hn_k))]) (rest := []) (mX13_isHole l b g1 kp sv bf sd ip sg mk td lv tl qs qc qw qd co wy de ca ln fa sm pa tm hn_k (wn hn_k) hb3 hk36 (hgw hn_k hk36) (hw2 hn_k hk36)) q1968 q1970 q60 q100 q1971 rfl rfl (by decide +kernel) ⟨Nat.le_of_ble_eq_true rfl, Nat.le_of_ble_eq_true rfl⟩ rfl (hb3.lt 0 (by decide)) (hb3.2 0 (by decide)) rfl hl.1 rfl (Nat.le_of_ble_eq_true rfl) ⟨(Nat.le_of_ble_eq_true rfl), (Nat.le_of_ble_eq_true rfl)⟩ dX13_darkens_60) hS (fun H locs hP hS => ?_)
                refine g_bne S (b := decide (3 ≤ wn hn_k)) (tgt := 96) dX13_darkens_63 (by decide) (fun hh => ?_) (fun hh => ?_)
                · refine lv_iinc (v := nI (d + 1)) (lv' := [(4, .int (nI (d + 1))), (5, .int (nI (hn_k))), (3, .int (oI (fly ht wn mn mc cc d))), (2, .int (nI (i))), (1, .int (nI (cn))), (0, .ref (ad (b)))]) hx hb dX13_darkens_96 hl (k := 1) rfl (g_inc _ 1 (by decide +kernel)) (by decide) rfl (fun ls hl => ?_)
                  refine lv_goto (tgt := 29) hx hb dX13_darkens_99 (by decide) ?_
                  have hl : lv_has ls 6 [(4, .int (nI (d + 1))), (5, .int (nI (hn_k))), (3, .int (oI (fly ht wn mn mc cc (d + 1)))), (2, .int (nI (i))), (1, .int (nI (cn))), (0, .ref (ad (b)))] := by rw [show fly ht wn mn mc cc (d + 1) = fly ht wn mn mc cc d by simp [fly, hn, of_decide_eq_true hh]]; exact hl
                  exact ih_lpb (d + 1) (by omega) (by omega) _ _ _ hP hS hb3 hfr ls (lv_sub hl [0, 2, 3, 4, 5] rfl)
                · have hh2 : ¬ 3 ≤ wn hn_k := of_decide_eq_false hh
                  refine lv_aload_n hx hb dX13_darkens_66 rfl (lv_at hl 5 rfl) ?_
                  refine lv_iload hx hb dX13_darkens_67 (lv_at hl 0 rfl) ?_
                  refine g_roi (g_runV S hI hP hS (k := 1) (As := [.int (nI (hn_k))]) (rest := []) (mX13_mothOn l b g1 kp sv bf sd ip sg mk td lv tl qs qc qw qd co wy de ca ln fa sm pa tm ht dr pg wt wn mn mc (ni + 1) po dn hn_k hb3 hk36 hR1 hm hm2) q2063 q2065 q67 q100 q2066 rfl rfl (by decide +kernel) ⟨Nat.le_of_ble_eq_true rfl, Nat.le_of_ble_eq_true rfl⟩ rfl (hb3.lt 0 (by decide)) (hb3.2 0 (by decide)) rfl hl.1 rfl (Nat.le_of_ble_eq_true rfl) ⟨(Nat.le_of_ble_eq_true rfl), (Nat.le_of_ble_eq_true rfl)⟩ dX13_darkens_69) hS (fun H locs hP hS => ?_)
                  refine g_ogeZ S (o := fstN (fun j => mn j == hn_k) mc) (fun k hk => by have := fstN_lt hk; omega) (tgt := 96) dX13_darkens_72 (by decide) (fun ho_k ho => ?_) (fun ho => ?_)
                  · refine lv_iinc (v := nI (d + 1)) (lv' := [(4, .int (nI (d + 1))), (5, .int (nI (hn_k))), (3, .int (oI (fly ht wn mn mc cc d))), (2, .int (nI (i))), (1, .int (nI (cn))), (0, .ref (ad (b)))]) hx hb dX13_darkens_96 hl (k := 1) rfl (g_inc _ 1 (by decide +kernel)) (by decide) rfl (fun ls hl => ?_)
                    refine lv_goto (tgt := 29) hx hb dX13_darkens_99 (by decide) ?_
                    have hl : lv_has ls 6 [(4, .int (nI (d + 1))), (5, .int (nI (hn_k))), (3, .int (oI (fly ht wn mn mc cc (d + 1)))), (2, .int (nI (i))), (1, .int (nI (cn))), (0, .ref (ad (b)))] := by rw [show fly ht wn mn mc cc (d + 1) = fly ht wn mn mc cc d by simp [fly, hn, hh2, ho]]; exact hl
                    exact ih_lpb (d + 1) (by omega) (by omega) _ _ _ hP hS hb3 hfr ls (lv_sub hl [0, 2, 3, 4, 5] rfl)
                  · refine lv_iload_n hx hb dX13_darkens_75 rfl (lv_at hl 2 rfl) ?_
                    refine g_oltZ S (o := fly ht wn mn mc cc d) (fun k hk => Nat.lt_trans (fly_lt hc hk) (by decide)) (tgt := 93) dX13_darkens_76 (by decide) (fun hq => ?_) (fun hq_k hq => ?_)
                    · refine lv_iload hx hb dX13_darkens_93 (lv_at hl 0 rfl) ?_
                      refine lv_istore_n (lv' := [(3, .int (nI (hn_k))), (5, .int (nI (hn_k))), (4, .int (nI (d))), (2, .int (nI (i))), (1, .int (nI (cn))), (0, .ref (ad (b)))]) hx hb dX13_darkens_95 rfl hl (by decide) rfl (fun ls hl => ?_)
                      refine lv_iinc (v := nI (d + 1)) (lv' := [(4, .int (nI (d + 1))), (3, .int (nI (hn_k))), (5, .int (nI (hn_k))), (2, .int (nI (i))), (1, .int (nI (cn))), (0, .ref (ad (b)))]) hx hb dX13_darkens_96 hl (k := 2) rfl (g_inc _ 1 (by decide +kernel)) (by decide) rfl (fun ls hl => ?_)
                      refine lv_goto (tgt := 29) hx hb dX13_darkens_99 (by decide) ?_
                      have hl : lv_has ls 6 [(4, .int (nI (d + 1))), (3, .int (oI (fly ht wn mn mc cc (d + 1)))), (5, .int (nI (hn_k))), (2, .int (nI (i))), (1, .int (nI (cn))), (0, .ref (ad (b)))] := by rw [show fly ht wn mn mc cc (d + 1) = some hn_k by simp [fly, hn, hh2, ho, hq]]; exact hl
                      exact ih_lpb (d + 1) (by omega) (by omega) _ _ _ hP hS hb3 hfr ls (lv_sub hl [0, 1, 3, 4, 5] rfl)
                    · have hq36 := fly_lt hc hq
                      have z2 := hht hq_k hq36
                      have hl : lv_has ls 6 [(5, .int (nI (hn_k))), (4, .int (nI (d))), (3, .int (nI (hq_k))), (2, .int (nI (i))), (1, .int (nI (cn))), (0, .ref (ad (b)))] := by rw [hq] at hl; exact hl
                      refine lv_aload_n hx hb dX13_darkens_79 rfl (lv_at hl 5 rfl) ?_
                      refine lv_iload hx hb dX13_darkens_80 (lv_at hl 0 rfl) ?_
                      refine g_roi (g_runV S hI hP hS (k := 1) (As := [.int (nI (hn_k))]) (rest := []) (mX13_high l b g1 kp sv bf sd ip sg mk td lv tl qs qc qw qd co wy de ca ln fa sm pa tm hn_k (ht hn_k) hb3 hk36 (hgh hn_k hk36)) q1882 q1884 q50 q100 q1885 rfl rfl (by decide +kernel) ⟨Nat.le_of_ble_eq_true rfl, Nat.le_of_ble_eq_true rfl⟩ rfl (hb3.lt 0 (by decide)) (hb3.2 0 (by decide)) rfl hl.1 rfl (Nat.le_of_ble_eq_true rfl) ⟨(Nat.le_of_ble_eq_true rfl), (Nat.le_of_ble_eq_true rfl)⟩ dX13_darkens_82) hS (fun H locs hP hS => ?_)
                      refine lv_aload_n hx hb dX13_darkens_85 rfl (lv_at hl 5 rfl) ?_
                      refine lv_iload_n hx hb dX13_darkens_86 rfl (lv_at hl 2 rfl) ?_
                      refine g_roi (g_runV S hI hP hS (k := 1) (As := [.int (nI (hq_k))]) (rest := [.int (nI (ht hn_k))]) (mX13_high l b g1 kp sv bf sd ip sg mk td lv tl qs qc qw qd co wy de ca ln fa sm pa tm hq_k (ht hq_k) hb3 hq36 (hgh hq_k hq36)) q1882 q1884 q50 q100 q1885 rfl rfl (by decide +kernel) ⟨Nat.le_of_ble_eq_true rfl, Nat.le_of_ble_eq_true rfl⟩ rfl (hb3.lt 0 (by decide)) (hb3.2 0 (by decide)) rfl hl.1 rfl (Nat.le_of_ble_eq_true rfl) ⟨(Nat.le_of_ble_eq_true rfl), (Nat.le_of_ble_eq_true rfl)⟩ dX13_darkens_87) hS (fun H locs hP hS => ?_)
                      refine g_le S (a := ht hn_k) (b := ht hq_k) (by omega) (by omega) (tgt := 96) dX13_darkens_90 (by decide) (fun hv => ?_) (fun hv => ?_)
                      · refine lv_iinc (v := nI (d + 1)) (lv' := [(4, .int (nI (d + 1))), (5, .int (nI (hn_k))), (3, .int (nI (hq_k))), (2, .int (nI (i))), (1, .int (nI (cn))), (0, .ref (ad (b)))]) hx hb dX13_darkens_96 hl (k := 1) rfl (g_inc _ 1 (by decide +kernel)) (by decide) rfl (fun ls hl => ?_)
                        refine lv_goto (tgt := 29) hx hb dX13_darkens_99 (by decide) ?_
                        have hl : lv_has ls 6 [(4, .int (nI (d + 1))), (5, .int (nI (hn_k))), (3, .int (oI (fly ht wn mn mc cc (d + 1)))), (2, .int (nI (i))), (1, .int (nI (cn))), (0, .ref (ad (b)))] := by rw [show fly ht wn mn mc cc (d + 1) = some hq_k by simp only [fly, hn, ho, hq]; rw [if_neg hh2, if_neg (by omega)]]; exact hl
                        exact ih_lpb (d + 1) (by omega) (by omega) _ _ _ hP hS hb3 hfr ls (lv_sub hl [0, 2, 3, 4, 5] rfl)
                      · refine lv_iload hx hb dX13_darkens_93 (lv_at hl 0 rfl) ?_
                        refine lv_istore_n (lv' := [(3, .int (nI (hn_k))), (5, .int (nI (hn_k))), (4, .int (nI (d))), (2, .int (nI (i))), (1, .int (nI (cn))), (0, .ref (ad (b)))]) hx hb dX13_darkens_95 rfl hl (by decide) rfl (fun ls hl => ?_)
                        refine lv_iinc (v := nI (d + 1)) (lv' := [(4, .int (nI (d + 1))), (3, .int (nI (hn_k))), (5, .int (nI (hn_k))), (2, .int (nI (i))), (1, .int (nI (cn))), (0, .ref (ad (b)))]) hx hb dX13_darkens_96 hl (k := 2) rfl (g_inc _ 1 (by decide +kernel)) (by decide) rfl (fun ls hl => ?_)
                        refine lv_goto (tgt := 29) hx hb dX13_darkens_99 (by decide) ?_
                        have hl : lv_has ls 6 [(4, .int (nI (d + 1))), (3, .int (oI (fly ht wn mn mc cc (d + 1)))), (5, .int (nI (hn_k))), (2, .int (nI (i))), (1, .int (nI (cn))), (0, .ref (ad (b)))] := by rw [show fly ht wn mn mc cc (d + 1) = some hn_k by simp only [fly, hn, ho, hq]; rw [if_neg hh2, if_pos hv]]; exact hl
                        exact ih_lpb (d + 1) (by omega) (by omega) _ _ _ hP hS hb3 hfr ls (lv_sub hl [0, 1, 3, 4, 5] rfl)
        exact lpb (4 - (0) + 1) (0) (Nat.lt_succ_self _) (by omega) _ _ _ hP hS hb2 hfr ls (lv_sub hl [0, 1, 2, 3, 4] rfl)
  exact lpa (mc - (0) + 1) (0) (va_up g 0 (ni + 1)) (Nat.lt_succ_self _) (by omega) (hR.upN) _ _ _ hP hS hb1 hfr ls (lv_sub hl [0, 1, 2] rfl)
set_option maxHeartbeats 4000000 in
set_option maxRecDepth 100000 in
/-- a night passes -/
theorem mX13_passNight (l : Launch) {E : gE} {ad : Nat → Nat} {N : Nat} {w : Nat → va_E} (b : Nat) (g kp sv bf sd ip sg mk td lv tl : Nat → Nat) (qs qc qw qd co wy : Nat) (de : Int32) (ca ln : Nat) (fa : Option Nat) (sm pa tm : Nat) (ht dr pg wt wr mo : Nat → Nat) (mc ni po dn : Nat)  (hb_m : bkP N w b 12 (MDC E ad b g kp sv bf sd ip sg mk td lv tl qs qc qw qd co wy de ca ln fa sm pa tm)) (hR : mRg g ht pg wt wr mo mc ni po dn) (hht : ∀ k, k < 36 → ht k ≤ 99) (hpg : ∀ k, k < 36 → pg k ≤ 1) (hwr : ∀ k, k < 36 → wr k ≤ 3) (hm : mc ≤ 4) (hmo : ∀ k, k < mc → mo k < 36) (hqw : qw ≤ 1) (hqc : qc ≤ 8) : gMi l yX13_passNight (lw_ws yX13_passNight cX13_passNight 1 (some .int)) ({ frames := 4, cells := 0, slots := 0, locals := 91 } : Room) E ad N w [.ref (ad (b))] (fun r w' => ((cmR ht pg wr mo mc 8 none (-1) = nI 0 ∧ ∃ (g' mk' sd' : Nat → Nat) (k u qd' : Nat), cmK 8 none (-1) k u mc ∧ r = (cmS 8 k u ht dr pg wt wr mo mc ni po dn).1 ∧ mRS g' (cmS 8 k u ht dr pg wt wr mo mc ni po dn).2 ∧ bkP N w' b 12 (MDC E ad b g' (if qw = 0 then kpK kp qc g else kp) sv bf sd' ip sg mk' td lv tl qs (if qw = 0 then kpC qc else qc) qw qd' 0 wy de ca ln fa sm pa tm)) ∨ (cmR ht pg wr mo mc 8 none (-1) = -1 ∧ r = nI 0 ∧ bkP N w' b 12 (MDC E ad b g kp sv bf sd ip sg mk td lv tl qs qc qw 0 1 wy de ca ln fa sm pa tm)) ∨ (cmR ht pg wr mo mc 8 none (-1) = -2 ∧ r = nI 0 ∧ bkP N w' b 12 (MDC E ad b g kp sv bf sd ip sg mk td lv tl qs qc qw 0 2 wy de ca ln fa sm pa tm)) ∨ (∃ z, 0 < z ∧ z < 7 ∧ cmR ht pg wr mo mc 8 none (-1) = nI z ∧ r = nI 0 ∧ bkP N w' b 12 (MDC E ad b g kp sv bf sd ip sg mk td lv tl qs qc qw 1 0 z (cmT pg wr mo mc z none (-1)) 0 ln fa sm pa tm))) ∧ gFr (gIn b 12) w w') 0 0 := by
  refine Met.ofW (cc := cX13_passNight) (maxL := 1) (ret := (some .int)) (by decide) rfl ?_
  intro p e s m args below meth cd s₁ B hml hv
  obtain ⟨rfl, hI, hP⟩ := hv
  obtain ⟨S, hr, hlocks⟩ := gPre (ws := []) B hml (C := RX13) rfl
  have hx := S.1
  have hb := S.2.1
  have hS : va_S (gA E) s.heap s.heap [] := va_S.rf
  have hfr : gFr (gIn b 12) w w := gFr.rf
  have hl := lv_entry ([.ref (ad (b))]) (n := 1) (Nat.le_of_ble_eq_true rfl)
  rw [lg_entry_eq]
  generalize (lg_sl ([.ref (ad (b))]) ++ List.replicate (1 - (lg_sl ([.ref (ad (b))])).length) Slot.unset).toArray = ls at hl ⊢
  have hl : lv_has ls 1 [(0, .ref (ad (b)))] := hl
  obtain ⟨hgh, hgw, hgp, hgt, hgm, hg3, hg0, hg1, hg2⟩ := id hR
  refine lv_aload_n hx hb dX13_passNight_0 rfl (lv_at hl 0 rfl) ?_
  refine lv_aload_n hx hb dX13_passNight_1 rfl (lv_at hl 0 rfl) ?_
  refine g_get S hI hP uX13 rfl (fs := _) (hb_m.lt 0 (by decide)) (hb_m.2 0 (by decide)) 0 (by decide) q1787 rfl (v := .ref (ad (b + 1))) rfl dX13_passNight_2 ?_
  refine g_afv (g_runV S hI hP hS (k := 1) (As := [.ref (ad (b + 1))]) (rest := []) (mX13_keeps l b g kp sv bf sd ip sg mk td lv tl qs qc qw qd co wy de ca ln fa sm pa tm  hb_m hqw hqc) q1890 q1892 q52 q100 q1893 rfl rfl (by decide +kernel) ⟨Nat.le_of_ble_eq_true rfl, Nat.le_of_ble_eq_true rfl⟩ rfl (hb_m.lt 0 (by decide)) (hb_m.2 0 (by decide)) rfl hl.1 rfl (Nat.le_of_ble_eq_true rfl) ⟨(Nat.le_of_ble_eq_true rfl), (Nat.le_of_ble_eq_true rfl)⟩ dX13_passNight_5) hS (fun w1 H locs hq hP hS => ?_)
  obtain ⟨hb1, hf2⟩ := hq
  have hfr := hfr.trans hf2 (fun q hq => by (try simp only [gIn] at hq ⊢); (try dsimp only at hq ⊢); omega)
  refine lv_aload_n hx hb dX13_passNight_8 rfl (lv_at hl 0 rfl) ?_
  refine g_afi (g_runV S hI hP hS (k := 0) (As := []) (rest := []) (mX13_darkens l b g (if qw = 0 then kpK kp qc g else kp) sv bf sd ip sg mk td lv tl qs (if qw = 0 then kpC qc else qc) qw qd 0 wy de ca ln fa sm pa tm ht dr pg wt wr mo mc ni po dn hb1 hR hht hwr hm hmo) q2079 q2081 q69 q100 q2082 rfl rfl (by decide +kernel) ⟨Nat.le_of_ble_eq_true rfl, Nat.le_of_ble_eq_true rfl⟩ rfl (hb1.lt 0 (by decide)) (hb1.2 0 (by decide)) rfl hl.1 rfl (Nat.le_of_ble_eq_true rfl) ⟨(Nat.le_of_ble_eq_true rfl), (Nat.le_of_ble_eq_true rfl)⟩ dX13_passNight_9) hS (fun rz w1 H locs hq hP hS => ?_)
  obtain ⟨hr9, g9, hR9, hb9, hf9⟩ := hq
  rw [hr9]
  have hfr := hfr.trans hf9 (fun q hq => hq)
  exact g_iret S hr hlocks hP hS (⟨Or.inl (⟨rfl, g9, _, _, 0, 0, _, ⟨by decide, by decide, fun z => absurd z (by decide), fun z => absurd z (by decide), fun z => absurd z (by decide), fun z => absurd z (by decide)⟩, rfl, hR9, hb9⟩), hfr⟩) (fun _ _ => rfl) (Nat.le_of_ble_eq_true rfl) (Nat.le_of_ble_eq_true rfl) dX13_passNight_12
set_option maxHeartbeats 4000000 in
set_option maxRecDepth 100000 in
/-- a cell is patched -/
theorem mX13_patch (l : Launch) {E : gE} {ad : Nat → Nat} {N : Nat} {w : Nat → va_E} (b : Nat) (g kp sv bf sd ip sg mk td lv tl : Nat → Nat) (qs qc qw qd co wy : Nat) (de : Int32) (ca ln : Nat) (fa : Option Nat) (sm pa tm : Nat) (ht dr pg wt wr mo : Nat → Nat) (mc ni po dn : Nat) (x y : Int32) (hb_m : bkP N w b 12 (MDC E ad b g kp sv bf sd ip sg mk td lv tl qs qc qw qd co wy de ca ln fa sm pa tm)) (hR : mRg g ht pg wt wr mo mc ni po dn) (hht : ∀ k, k < 36 → ht k ≤ 99) (hpg : ∀ k, k < 36 → pg k ≤ 1) (hwr : ∀ k, k < 36 → wr k ≤ 3) (hm : mc ≤ 4) (hmo : ∀ k, k < mc → mo k < 36) (hqw : qw ≤ 1) (hqc : qc ≤ 8) : gMi l yX13_patch (lw_ws yX13_patch cX13_patch 5 (some .int)) ({ frames := 3, cells := 0, slots := 0, locals := 65 } : Room) E ad N w [.ref (ad (b)), .int (x), .int (y)] (fun r w' => ((cmR ht pg wr mo mc 9 (cellV x y) (-1) = nI 0 ∧ ∃ (g' mk' sd' : Nat → Nat) (k u qd' : Nat), cmK 9 (cellV x y) (-1) k u mc ∧ r = (cmS 9 k u ht dr pg wt wr mo mc ni po dn).1 ∧ mRS g' (cmS 9 k u ht dr pg wt wr mo mc ni po dn).2 ∧ bkP N w' b 12 (MDC E ad b g' (if qw = 0 then kpK kp qc g else kp) sv bf sd' ip sg mk' td lv tl qs (if qw = 0 then kpC qc else qc) qw qd' 0 wy de ca ln fa sm pa tm)) ∨ (cmR ht pg wr mo mc 9 (cellV x y) (-1) = -1 ∧ r = nI 0 ∧ bkP N w' b 12 (MDC E ad b g kp sv bf sd ip sg mk td lv tl qs qc qw 0 1 wy de ca ln fa sm pa tm)) ∨ (cmR ht pg wr mo mc 9 (cellV x y) (-1) = -2 ∧ r = nI 0 ∧ bkP N w' b 12 (MDC E ad b g kp sv bf sd ip sg mk td lv tl qs qc qw 0 2 wy de ca ln fa sm pa tm)) ∨ (∃ z, 0 < z ∧ z < 7 ∧ cmR ht pg wr mo mc 9 (cellV x y) (-1) = nI z ∧ r = nI 0 ∧ bkP N w' b 12 (MDC E ad b g kp sv bf sd ip sg mk td lv tl qs qc qw 1 2 z (cmT pg wr mo mc z (cellV x y) (-1)) 0 ln fa sm pa tm))) ∧ gFr (gIn b 12) w w') 0 0 := by
  refine Met.ofW (cc := cX13_patch) (maxL := 5) (ret := (some .int)) (by decide) rfl ?_
  intro p e s m args below meth cd s₁ B hml hv
  obtain ⟨rfl, hI, hP⟩ := hv
  obtain ⟨S, hr, hlocks⟩ := gPre (ws := []) B hml (C := RX13) rfl
  have hx := S.1
  have hb := S.2.1
  have hS : va_S (gA E) s.heap s.heap [] := va_S.rf
  have hfr : gFr (gIn b 12) w w := gFr.rf
  have hl := lv_entry ([.ref (ad (b)), .int (x), .int (y)]) (n := 5) (Nat.le_of_ble_eq_true rfl)
  rw [lg_entry_eq]
  generalize (lg_sl ([.ref (ad (b)), .int (x), .int (y)]) ++ List.replicate (5 - (lg_sl ([.ref (ad (b)), .int (x), .int (y)])).length) Slot.unset).toArray = ls at hl ⊢
  have hl : lv_has ls 5 [(0, .ref (ad (b))), (1, .int (x)), (2, .int (y))] := hl
  obtain ⟨hgh, hgw, hgp, hgt, hgm, hg3, hg0, hg1, hg2⟩ := id hR
  refine lv_aload_n hx hb dX13_patch_0 rfl (lv_at hl 0 rfl) ?_
  refine lv_iload_n hx hb dX13_patch_1 rfl (lv_at hl 1 rfl) ?_
  refine lv_iload_n hx hb dX13_patch_2 rfl (lv_at hl 2 rfl) ?_
  refine g_afi (g_runV S hI hP hS (k := 2) (As := [.int (x), .int (y)]) (rest := []) (mX13_isNone l b g kp sv bf sd ip sg mk td lv tl qs qc qw qd co wy de ca ln fa sm pa tm x y hb_m ) q1868 q1870 q48 q100 q1871 rfl rfl (by decide +kernel) ⟨Nat.le_of_ble_eq_true rfl, Nat.le_of_ble_eq_true rfl⟩ rfl (hb_m.lt 0 (by decide)) (hb_m.2 0 (by decide)) rfl hl.1 rfl (Nat.le_of_ble_eq_true rfl) ⟨(Nat.le_of_ble_eq_true rfl), (Nat.le_of_ble_eq_true rfl)⟩ dX13_patch_3) hS (fun rz w1 H locs hq hP hS => ?_)
  obtain ⟨hr3, hb1, hf2⟩ := hq
  rw [hr3]
  have hfr := hfr.trans hf2 (fun q hq => by (try simp only [gIn] at hq ⊢); (try dsimp only at hq ⊢); omega)
  refine g_beq S (b := (cellV x y).isNone) (tgt := 11) dX13_patch_6 (by decide) (fun h1 => ?_) (fun h1 => ?_)
  · obtain ⟨k, hck⟩ : ∃ k, cellV x y = some k := by cases q : cellV x y with | none => (rw [q] at h1; cases h1) | some a => exact ⟨a, rfl⟩
    have hk36 := cellV_lt hck
    rw [if_pos (show (cellV x y).isSome = true by rw [hck]; rfl)] at hb1
    (try rw [if_pos (show (cellV x y).isSome = true by rw [hck]; rfl)] at hP)
    (try rw [if_pos (show (cellV x y).isSome = true by rw [hck]; rfl)] at hfr)
    refine g_bipush S 6 dX13_patch_11 (by decide +kernel) ?_
    refine lv_iload_n hx hb dX13_patch_13 rfl (lv_at hl 1 rfl) ?_
    refine lv_imul hx hb dX13_patch_14 ?_
    refine lv_iload_n hx hb dX13_patch_15 rfl (lv_at hl 2 rfl) ?_
    refine lv_iadd hx hb dX13_patch_16 ?_
    rw [cell6 hck]
    have hwk := hwr k hk36
    refine lv_istore_n (lv' := [(3, .int (nI (k))), (0, .ref (ad (b))), (1, .int (x)), (2, .int (y))]) hx hb dX13_patch_17 rfl hl (by decide) rfl (fun ls hl => ?_)
    refine lv_aload_n hx hb dX13_patch_18 rfl (lv_at hl 1 rfl) ?_
    refine lv_iload_n hx hb dX13_patch_19 rfl (lv_at hl 0 rfl) ?_
    refine g_roi (g_runV S hI hP hS (k := 1) (As := [.int (nI (k))]) (rest := []) (mX13_mothOn l b g kp sv bf sd ip sg mk td lv tl qs qc qw 0 0 wy de ca ln fa sm pa tm ht dr pg wt wr mo mc ni po dn k hb1 hk36 hR hm hmo) q2063 q2065 q67 q100 q2066 rfl rfl (by decide +kernel) ⟨Nat.le_of_ble_eq_true rfl, Nat.le_of_ble_eq_true rfl⟩ rfl (hb1.lt 0 (by decide)) (hb1.2 0 (by decide)) rfl hl.1 rfl (Nat.le_of_ble_eq_true rfl) ⟨(Nat.le_of_ble_eq_true rfl), (Nat.le_of_ble_eq_true rfl)⟩ dX13_patch_20) hS (fun H locs hP hS => ?_)
    refine g_oltZ S (o := fstN (fun j => mo j == k) mc) (fun j hj => by have := fstN_lt hj; omega) (tgt := 38) dX13_patch_23 (by decide) (fun ho => ?_) (fun ho_k ho => ?_)
    · refine lv_aload_n hx hb dX13_patch_38 rfl (lv_at hl 1 rfl) ?_
      refine g_get S hI hP uX13 rfl (fs := _) (hb1.lt 0 (by decide)) (hb1.2 0 (by decide)) 0 (by decide) q1787 rfl (v := .ref (ad (b + 1))) rfl dX13_patch_39 ?_
      refine g_bipush S 40 dX13_patch_42 (by decide +kernel) ?_
      refine lv_iload_n hx hb dX13_patch_44 rfl (lv_at hl 0 rfl) ?_
      refine g_iadd S dX13_patch_45 ?_
      refine g_iald S hI hP (f := fun j => nI (g j)) (hb1.lt 1 (by decide)) (hb1.2 1 (by decide)) (40 + k) (by omega) (by decide) dX13_patch_46 ?_
      rw [hgw k hk36]
      refine g_ifne S (a := wr k) (by omega) (tgt := 61) dX13_patch_47 (by decide) (fun hw => ?_) (fun hw => ?_)
      · refine lv_aload_n hx hb dX13_patch_61 rfl (lv_at hl 1 rfl) ?_
        refine g_get S hI hP uX13 rfl (fs := _) (hb1.lt 0 (by decide)) (hb1.2 0 (by decide)) 0 (by decide) q1787 rfl (v := .ref (ad (b + 1))) rfl dX13_patch_62 ?_
        refine g_bipush S 40 dX13_patch_65 (by decide +kernel) ?_
        refine lv_iload_n hx hb dX13_patch_67 rfl (lv_at hl 0 rfl) ?_
        refine g_iadd S dX13_patch_68 ?_
        refine g_iald S hI hP (f := fun j => nI (g j)) (hb1.lt 1 (by decide)) (hb1.2 1 (by decide)) (40 + k) (by omega) (by decide) dX13_patch_69 ?_
        rw [hgw k hk36]
        refine lv_istore (lv' := [(4, .int (nI (wr k))), (3, .int (nI (k))), (0, .ref (ad (b))), (1, .int (x)), (2, .int (y))]) hx hb dX13_patch_70 hl (by decide) rfl (fun ls hl => ?_)
        refine lv_aload_n hx hb dX13_patch_72 rfl (lv_at hl 2 rfl) ?_
        refine lv_aload_n hx hb dX13_patch_73 rfl (lv_at hl 2 rfl) ?_
        refine g_get S hI hP uX13 rfl (fs := _) (hb1.lt 0 (by decide)) (hb1.2 0 (by decide)) 0 (by decide) q1787 rfl (v := .ref (ad (b + 1))) rfl dX13_patch_74 ?_
        refine g_afv (g_runV S hI hP hS (k := 1) (As := [.ref (ad (b + 1))]) (rest := []) (mX13_keeps l b g kp sv bf sd ip sg mk td lv tl qs qc qw 0 0 wy de ca ln fa sm pa tm  hb1 hqw hqc) q1890 q1892 q52 q100 q1893 rfl rfl (by decide +kernel) ⟨Nat.le_of_ble_eq_true rfl, Nat.le_of_ble_eq_true rfl⟩ rfl (hb1.lt 0 (by decide)) (hb1.2 0 (by decide)) rfl hl.1 rfl (Nat.le_of_ble_eq_true rfl) ⟨(Nat.le_of_ble_eq_true rfl), (Nat.le_of_ble_eq_true rfl)⟩ dX13_patch_77) hS (fun w1 H locs hq hP hS => ?_)
        obtain ⟨hb4, hf5⟩ := hq
        have hfr := hfr.trans hf5 (fun q hq => by (try simp only [gIn] at hq ⊢); (try dsimp only at hq ⊢); omega)
        refine lv_aload_n hx hb dX13_patch_80 rfl (lv_at hl 2 rfl) ?_
        refine g_get S hI hP uX13 rfl (fs := _) (hb4.lt 0 (by decide)) (hb4.2 0 (by decide)) 0 (by decide) q1787 rfl (v := .ref (ad (b + 1))) rfl dX13_patch_81 ?_
        refine g_bipush S 40 dX13_patch_84 (by decide +kernel) ?_
        refine lv_iload_n hx hb dX13_patch_86 rfl (lv_at hl 1 rfl) ?_
        refine g_iadd S dX13_patch_87 ?_
        refine g_iconst S 0 dX13_patch_88 (by decide +kernel) ?_
        refine g_iastN S hI hP hS (f := g) (x := 0) (hb4.lt 1 (by decide)) (hb4.2 1 (by decide)) (40 + k) (by omega) (by decide) dX13_patch_89 (fun H locs hP hS => ?_)
        have hP : gP E ad N (va_up _ (b + 1) (MDC E ad b (va_up g (40 + k) 0) (if qw = 0 then kpK kp qc g else kp) sv bf sd ip sg mk td lv tl qs (if qw = 0 then kpC qc else qc) qw 0 0 wy de ca ln fa sm pa tm 1)) H := hP
        have hb6 : bkP N (va_up _ (b + 1) (MDC E ad b (va_up g (40 + k) 0) (if qw = 0 then kpK kp qc g else kp) sv bf sd ip sg mk td lv tl qs (if qw = 0 then kpC qc else qc) qw 0 0 wy de ca ln fa sm pa tm 1)) b 12 (MDC E ad b (va_up g (40 + k) 0) (if qw = 0 then kpK kp qc g else kp) sv bf sd ip sg mk td lv tl qs (if qw = 0 then kpC qc else qc) qw 0 0 wy de ca ln fa sm pa tm) := MD_setA0 hb4 _
        have hfr := hfr.up (p := b + 1) (e := MDC E ad b (va_up g (40 + k) 0) (if qw = 0 then kpK kp qc g else kp) sv bf sd ip sg mk td lv tl qs (if qw = 0 then kpC qc else qc) qw 0 0 wy de ca ln fa sm pa tm 1) (by show _ ∧ _; omega)
        refine lv_iload hx hb dX13_patch_90 (lv_at hl 0 rfl) ?_
        exact g_iret S hr hlocks hP hS (⟨Or.inl (⟨by show rfC wr mo mc (cellV x y) = nI 0; simp only [rfC, hck, ho, if_neg (show ¬ wr k = 0 by omega)], _, _, _, k, 0, _, ⟨hk36, by decide, fun _ => hck, fun z => absurd z (by decide), fun z => absurd z (by decide), fun z => absurd z (by decide)⟩, rfl, hR.upW hk36, hb6⟩), hfr⟩) (fun _ _ => rfl) (Nat.le_of_ble_eq_true rfl) (Nat.le_of_ble_eq_true rfl) dX13_patch_92
      · refine lv_aload_n hx hb dX13_patch_50 rfl (lv_at hl 1 rfl) ?_
        refine g_iconst S 2 dX13_patch_51 (by decide +kernel) ?_
        refine g_iconst S 4 dX13_patch_52 (by decide +kernel) ?_
        refine lv_aload_n hx hb dX13_patch_53 rfl (lv_at hl 1 rfl) ?_
        refine g_roi (g_runV S hI hP hS (k := 0) (As := []) (rest := [.int (nI (4)), .int (nI (2)), .ref (ad (b))]) (mX13_holesNow l b g kp sv bf sd ip sg mk td lv tl qs qc qw 0 0 wy de ca ln fa sm pa tm ht dr pg wt wr mo mc ni po dn hb1 hR hwr) q2059 q2061 q66 q100 q2062 rfl rfl (by decide +kernel) ⟨Nat.le_of_ble_eq_true rfl, Nat.le_of_ble_eq_true rfl⟩ rfl (hb1.lt 0 (by decide)) (hb1.2 0 (by decide)) rfl hl.1 rfl (Nat.le_of_ble_eq_true rfl) ⟨(Nat.le_of_ble_eq_true rfl), (Nat.le_of_ble_eq_true rfl)⟩ dX13_patch_54) hS (fun H locs hP hS => ?_)
        refine g_afi (g_runV S hI hP hS (k := 3) (As := [.int (nI (2)), .int (nI (4)), .int (nI (cnt (fun k => decide (3 ≤ wr k)) 36))]) (rest := []) (mX13_denies l b g kp sv bf sd ip sg mk td lv tl qs qc qw 0 0 wy de ca ln fa sm pa tm 2 4 (nI (cnt (fun k => decide (3 ≤ wr k)) 36)) hb1 ) q1886 q1888 q51 q100 q1889 rfl rfl (by decide +kernel) ⟨Nat.le_of_ble_eq_true rfl, Nat.le_of_ble_eq_true rfl⟩ rfl (hb1.lt 0 (by decide)) (hb1.2 0 (by decide)) rfl hl.1 rfl (Nat.le_of_ble_eq_true rfl) ⟨(Nat.le_of_ble_eq_true rfl), (Nat.le_of_ble_eq_true rfl)⟩ dX13_patch_57) hS (fun rz w1 H locs hq hP hS => ?_)
        obtain ⟨hr9, hb7, hf8⟩ := hq
        rw [hr9]
        have hfr := hfr.trans hf8 (fun q hq => by (try simp only [gIn] at hq ⊢); (try dsimp only at hq ⊢); omega)
        exact g_iret S hr hlocks hP hS (⟨Or.inr (Or.inr (Or.inr (⟨4, by decide, by decide, by show rfC wr mo mc (cellV x y) = nI 4; simp only [rfC, hck, ho, if_pos hw], rfl, hb7⟩))), hfr⟩) (fun _ _ => rfl) (Nat.le_of_ble_eq_true rfl) (Nat.le_of_ble_eq_true rfl) dX13_patch_60
    · refine lv_aload_n hx hb dX13_patch_26 rfl (lv_at hl 1 rfl) ?_
      refine g_iconst S 2 dX13_patch_27 (by decide +kernel) ?_
      refine g_iconst S 5 dX13_patch_28 (by decide +kernel) ?_
      refine lv_aload_n hx hb dX13_patch_29 rfl (lv_at hl 1 rfl) ?_
      refine lv_iload_n hx hb dX13_patch_30 rfl (lv_at hl 0 rfl) ?_
      refine g_roi (g_runV S hI hP hS (k := 1) (As := [.int (nI (k))]) (rest := [.int (nI (5)), .int (nI (2)), .ref (ad (b))]) (mX13_mothOn l b g kp sv bf sd ip sg mk td lv tl qs qc qw 0 0 wy de ca ln fa sm pa tm ht dr pg wt wr mo mc ni po dn k hb1 hk36 hR hm hmo) q2063 q2065 q67 q100 q2066 rfl rfl (by decide +kernel) ⟨Nat.le_of_ble_eq_true rfl, Nat.le_of_ble_eq_true rfl⟩ rfl (hb1.lt 0 (by decide)) (hb1.2 0 (by decide)) rfl hl.1 rfl (Nat.le_of_ble_eq_true rfl) ⟨(Nat.le_of_ble_eq_true rfl), (Nat.le_of_ble_eq_true rfl)⟩ dX13_patch_31) hS (fun H locs hP hS => ?_)
      refine g_afi (g_runV S hI hP hS (k := 3) (As := [.int (nI (2)), .int (nI (5)), .int (oI (fstN (fun j => mo j == k) mc))]) (rest := []) (mX13_denies l b g kp sv bf sd ip sg mk td lv tl qs qc qw 0 0 wy de ca ln fa sm pa tm 2 5 (oI (fstN (fun j => mo j == k) mc)) hb1 ) q1886 q1888 q51 q100 q1889 rfl rfl (by decide +kernel) ⟨Nat.le_of_ble_eq_true rfl, Nat.le_of_ble_eq_true rfl⟩ rfl (hb1.lt 0 (by decide)) (hb1.2 0 (by decide)) rfl hl.1 rfl (Nat.le_of_ble_eq_true rfl) ⟨(Nat.le_of_ble_eq_true rfl), (Nat.le_of_ble_eq_true rfl)⟩ dX13_patch_34) hS (fun rz w1 H locs hq hP hS => ?_)
      obtain ⟨hr12, hb10, hf11⟩ := hq
      rw [hr12]
      have hfr := hfr.trans hf11 (fun q hq => by (try simp only [gIn] at hq ⊢); (try dsimp only at hq ⊢); omega)
      exact g_iret S hr hlocks hP hS (⟨Or.inr (Or.inr (Or.inr (⟨5, by decide, by decide, by show rfC wr mo mc (cellV x y) = nI 5; simp only [rfC, hck, ho], rfl, by rw [show cmT pg wr mo mc 5 (cellV x y) (-1) = (oI (fstN (fun j => mo j == k) mc)) by rw [hck]; rfl]; exact hb10⟩))), hfr⟩) (fun _ _ => rfl) (Nat.le_of_ble_eq_true rfl) (Nat.le_of_ble_eq_true rfl) dX13_patch_37
  · have hcn := Option.isNone_iff_eq_none.mp h1
    rw [if_neg (show ¬ (cellV x y).isSome = true by rw [hcn]; decide)] at hb1
    (try rw [if_neg (show ¬ (cellV x y).isSome = true by rw [hcn]; decide)] at hP)
    (try rw [if_neg (show ¬ (cellV x y).isSome = true by rw [hcn]; decide)] at hfr)
    refine g_iconst S 0 dX13_patch_9 (by decide +kernel) ?_
    exact g_iret S hr hlocks hP hS (⟨Or.inr (Or.inl (⟨by show rfC wr mo mc (cellV x y) = -1; rw [hcn]; rfl, rfl, hb1⟩)), hfr⟩) (fun _ _ => rfl) (Nat.le_of_ble_eq_true rfl) (Nat.le_of_ble_eq_true rfl) dX13_patch_10
