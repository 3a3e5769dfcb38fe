/-! COMMANDS IN A ROW -/
abbrev cmSS (vb k u : Nat) (S : Sh) : Int32 × Sh := cmS vb k u S.1 S.2.1 S.2.2.1 S.2.2.2.1 S.2.2.2.2.1 S.2.2.2.2.2.1 S.2.2.2.2.2.2.1 S.2.2.2.2.2.2.2.1 S.2.2.2.2.2.2.2.2.1 S.2.2.2.2.2.2.2.2.2
abbrev cmRS (c : Cm) (S : Sh) : Int32 := cmR S.1 S.2.2.1 S.2.2.2.2.1 S.2.2.2.2.2.1 S.2.2.2.2.2.2.1 c.1 c.2.1 c.2.2
abbrev cmY (c : Cm) (S : Sh) : Int32 × Sh := cmSS c.1 (c.2.1.getD 0) c.2.2.toNatClampNeg S
def shQ (S : Sh) : Prop := (∀ k, k < 36 → S.1 k ≤ 99) ∧ (∀ k, k < 36 → S.2.2.1 k ≤ 1) ∧ (∀ k, k < 36 → S.2.2.2.2.1 k ≤ 3) ∧ S.2.2.2.2.2.2.1 ≤ 4 ∧ ∀ k, k < S.2.2.2.2.2.2.1 → S.2.2.2.2.2.1 k < 36
def cmOk (c : Cm) : Prop := c.1 < 10 ∧ ∀ k, c.2.1 = some k → k < 36
theorem cmK_can {vb : Nat} {o : Option Nat} {v : Int32} {k u mc : Nat} (h : cmK vb o v k u mc) (ho : ∀ k, o = some k → k < 36) : cmK vb o v (o.getD 0) v.toNatClampNeg mc := by
  obtain ⟨h1, h2, h3, h4, h5, h6⟩ := h
  have hv : vb = 0 ∨ vb = 4 ∨ vb = 7 → v.toNatClampNeg = u := fun q => by rw [h4 q, nI_clamp h2]
  refine ⟨?_, ?_, fun q => ?_, fun q => ?_, h5, fun q => by rw [hv (by omega)]; exact h6 q⟩
  · cases o with
    | none => decide
    | some a => exact ho a rfl
  · have h := Int32.toInt_lt v
    have h7 : (v.toNatClampNeg : Int) = max v.toInt 0 := by rw [Int32.toNatClampNeg]; omega
    omega
  · rw [h3 q]; rfl
  · rw [hv q]; exact h4 q
theorem up_le {f : Nat → Nat} {k u B : Nat} (h : ∀ j, j < 36 → f j ≤ B) (hu : u ≤ B) : ∀ j, j < 36 → va_up f k u j ≤ B := fun j hj => by
  by_cases q : j = k
  · subst q; rw [va_up_self]; exact hu
  · rw [va_up_ne _ _ q]; exact h j hj
theorem cmS_q {vb k u : Nat} {o : Option Nat} {v : Int32} {S : Sh} (h : shQ S) (hvb : vb < 10) (hck : cmK vb o v k u S.2.2.2.2.2.2.1) (hu : vb = 0 → u ≤ 99) : shQ (cmSS vb k u S).2 := by
  obtain ⟨ht, dr, pg, wt, wr, mo, mc, ni, po, dn⟩ := S
  obtain ⟨h1, h2, h3, h4, h5⟩ := h
  obtain ⟨k1, k2, k3, k4, k5, k6⟩ := hck
  rcases (show vb = 0 ∨ vb = 1 ∨ vb = 2 ∨ vb = 3 ∨ vb = 4 ∨ vb = 5 ∨ vb = 6 ∨ vb = 7 ∨ vb = 8 ∨ vb = 9 by omega) with rfl | rfl | rfl | rfl | rfl | rfl | rfl | rfl | rfl | rfl
  · exact ⟨up_le h1 (hu rfl), h2, h3, h4, h5⟩
  · exact ⟨h1, up_le h2 (by decide), h3, h4, h5⟩
  · exact ⟨h1, up_le h2 (by decide), h3, h4, h5⟩
  · refine ⟨fun j hj => ?_, h2, h3, h4, h5⟩
    show fil 36 (fil 36 (drA ht pg) dr) ht j ≤ 99
    rw [fil_in hj, fil_in hj]
    unfold drA
    split
    · exact drH_le hj h1
    · exact h1 j hj
  · exact ⟨h1, h2, h3, h4, h5⟩
  · exact ⟨h1, h2, h3, h4, h5⟩
  · refine ⟨h1, h2, h3, ?_, fun j hj => ?_⟩
    · have := k5 rfl; show mc + 1 ≤ 4; have h6 : mc < 4 := this; omega
    · show va_up mo mc k j < 36
      have hj2 : j < mc + 1 := hj
      by_cases q : j = mc
      · subst q; rw [va_up_self]; exact k1
      · rw [va_up_ne _ _ q]; exact h5 j (by show j < mc; omega)
  · have h6 : u < mc := k6 rfl
    have h7 : mc ≤ 4 := h4
    refine ⟨h1, h2, h3, ?_, fun j hj => ?_⟩
    · show mc - 1 ≤ 4; omega
    · have hj2 : j < mc - 1 := hj
      show shf mo u (mc - 1) j < 36
      unfold shf
      split
      · exact h5 _ (by show j + 1 < mc; omega)
      · exact h5 _ (by show j < mc; omega)
  · have hn := night_ok (ht := ht) h3 h5 mc (Nat.le_refl _)
    exact ⟨h1, h2, hn.1, h4, hn.2⟩
  · exact ⟨h1, h2, up_le h3 (Nat.zero_le _), h4, h5⟩
theorem cmR_u {ht pg wr mo : Nat → Nat} {mc : Nat} {o : Option Nat} {v : Int32} (h : cmR ht pg wr mo mc 0 o v = nI 0) : v.toNatClampNeg ≤ 99 := by
  have h : rfH ht o v = nI 0 := h
  unfold rfH at h
  split at h
  · exact absurd h (by decide +kernel)
  · split at h
    · exact absurd h (by decide +kernel)
    · rename_i x hx
      obtain ⟨a, b⟩ := inR_some (by decide) hx
      rw [b, nI_clamp (by omega)]
      omega
theorem cmY_k {c : Cm} {S : Sh} (hS : shQ S) (hc : cmOk c) (hR : cmRS c S = nI 0) : cmK c.1 c.2.1 c.2.2 (c.2.1.getD 0) c.2.2.toNatClampNeg S.2.2.2.2.2.2.1 := by
  obtain ⟨k, u, h⟩ := cmK_of hc.1 hc.2 hS.2.2.2.1 hR
  exact cmK_can h hc.2
theorem cmY_q {c : Cm} {S : Sh} (hS : shQ S) (hc : cmOk c) (hR : cmRS c S = nI 0) : shQ (cmY c S).2 := by
  refine cmS_q hS hc.1 (cmY_k hS hc hR) (fun q => ?_)
  obtain ⟨vb, o, v⟩ := c
  have q : vb = 0 := q
  subst q
  exact cmR_u hR
/-- commands one behind another: where one is refused, and why; the sheet so far -/
def rnL : List Cm → Nat → Sh → Option (Nat × Int32) × Sh
  | [], _, S => (none, S)
  | c :: l, i, S => if cmRS c S = nI 0 then rnL l (i + 1) (cmY c S).2 else (some (i, cmRS c S), S)
theorem lsC_drop {C : Nat → Cm} {n i : Nat} (h : i < n) : (lsC C n).drop i = C i :: (lsC C n).drop (i + 1) := by
  have hl : i < (lsC C n).length := by simpa [lsC] using h
  rw [List.drop_eq_getElem_cons hl]
  congr 1
  simp [lsC]
theorem lsC_end {C : Nat → Cm} {n i : Nat} (h : n ≤ i) : (lsC C n).drop i = [] := List.drop_eq_nil_of_le (by simpa [lsC] using h)
