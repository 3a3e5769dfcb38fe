/-! WHAT THE MODEL's ROWS HOLD OF THE CLASS's SHEETS -/
theorem mRS_to {g g' : Nat → Nat} {S : Sh} (h : mRS g S) (hm : S.2.2.2.2.2.2.1 ≤ 4) (he : ∀ i, i < 152 → g' i = g i) : mRS g' S := by
  obtain ⟨h1, h2, h3, h4, h5, h6, h7, h8, h9⟩ := h
  exact ⟨fun k hk => (he _ (by omega)).trans (h1 k hk), fun k hk => (he _ (by omega)).trans (h2 k hk), fun k hk => (he _ (by omega)).trans (h3 k hk), fun k hk => (he _ (by omega)).trans (h4 k hk), fun k hk => (he _ (by omega)).trans (h5 k hk), (he _ (by omega)).trans h6, (he _ (by omega)).trans h7, (he _ (by omega)).trans h8, (he _ (by omega)).trans h9⟩
theorem shQ_ok {S : Sh} (h : shQ S) : ∃ B, shOk B S := ⟨_, h.1, h.2.1, Nat.le_refl _, h.2.2.1, h.2.2.2.1, h.2.2.2.2⟩
/-- a row of the Model holds a sheet that keeps its bounds -/
def rowP (g : Nat → Nat) (B : Nat) (S : Sh) : Prop := mRS g S ∧ shQ S ∧ wS S ≤ B
theorem rowP.to {g g' : Nat → Nat} {B : Nat} {S : Sh} (h : rowP g B S) (he : ∀ i, i < 152 → g' i = g i) : rowP g' B S := ⟨mRS_to h.1 h.2.1.2.2.2.1 he, h.2⟩
theorem rowP.cp {g : Nat → Nat} {B : Nat} {S o : Sh} (h : rowP g B S) : rowP g B (cpS S o) := h
theorem rowP.le {g : Nat → Nat} {B B' : Nat} {S : Sh} (h : rowP g B S) (hB : B ≤ B') : rowP g B' S := ⟨h.1, h.2.1, Nat.le_trans h.2.2 hB⟩
def hisR (kp : Nat → Nat) (B qc pl ct : Nat) (K : Nat → Sh) : Prop := qc = ct ∧ ct ≤ 8 ∧ pl < 8 ∧ (∀ j, j < 8 → shQ (K j)) ∧ ∀ j, j < ct → rowP (fun i => kp (152 * j + i)) B (K ((pl + 8 - ct + j) % 8))
theorem hisR.le {kp : Nat → Nat} {B B' qc pl ct : Nat} {K : Nat → Sh} (h : hisR kp B qc pl ct K) (hB : B ≤ B') : hisR kp B' qc pl ct K := ⟨h.1, h.2.1, h.2.2.1, h.2.2.2.1, fun j hj => (h.2.2.2.2 j hj).le hB⟩
theorem hisR.keep {kp g : Nat → Nat} {B qc pl ct : Nat} {K : Nat → Sh} {S : Sh} (h : hisR kp B qc pl ct K) (hr : rowP g B S) : hisR (kpK kp qc g) B (kpC qc) ((pl + 1) % 8) (min (ct + 1) 8) (va_up K pl (cpS S (K pl))) := by
  obtain ⟨rfl, h2, h3, h4, h5⟩ := h
  have hK : ∀ j, j < 8 → shQ (va_up K pl (cpS S (K pl)) j) := fun j hj => by
    by_cases q : j = pl
    · rw [q, va_up_self]; exact hr.cp.2.1
    · rw [va_up_ne _ _ q]; exact h4 j hj
  by_cases q8 : qc = 8
  · subst q8
    refine ⟨rfl, by omega, by omega, hK, fun j hj => ?_⟩
    have hk : kpK kp 8 g = cpA g 0 (shK kp 1064) 1064 152 := if_pos rfl
    rw [hk]
    by_cases q : j = 7
    · subst q
      rw [show ((pl + 1) % 8 + 8 - min (8 + 1) 8 + 7) % 8 = pl by omega, va_up_self]
      refine hr.cp.to (fun i hi => ?_)
      show cpA g 0 (shK kp 1064) 1064 152 (152 * 7 + i) = g i
      unfold cpA
      rw [if_pos (by omega), show 0 + (152 * 7 + i - 1064) = i by omega]
    · have hj8 : j < 8 := by omega
      rw [va_up_ne _ _ (show ((pl + 1) % 8 + 8 - min (8 + 1) 8 + j) % 8 ≠ pl by omega)]
      have h6 := h5 (j + 1) (by omega)
      rw [show (pl + 8 - 8 + (j + 1)) % 8 = ((pl + 1) % 8 + 8 - min (8 + 1) 8 + j) % 8 by omega] at h6
      refine h6.to (fun i hi => ?_)
      show cpA g 0 (shK kp 1064) 1064 152 (152 * j + i) = kp (152 * (j + 1) + i)
      unfold cpA shK
      rw [if_neg (by omega), if_pos (by omega), show 152 * j + i + 152 = 152 * (j + 1) + i by omega]
  · have hC : kpC qc = qc + 1 := if_neg q8
    have hk : kpK kp qc g = cpA g 0 kp (152 * qc) 152 := if_neg q8
    rw [hC, hk]
    refine ⟨by omega, by omega, by omega, hK, fun j hj => ?_⟩
    by_cases q : j = qc
    · subst q
      rw [show ((pl + 1) % 8 + 8 - min (j + 1) 8 + j) % 8 = pl by omega, va_up_self]
      refine hr.cp.to (fun i hi => ?_)
      show cpA g 0 kp (152 * j) 152 (152 * j + i) = g i
      unfold cpA
      rw [if_pos (by omega), show 0 + (152 * j + i - 152 * j) = i by omega]
    · have hjc : j < qc := by omega
      rw [va_up_ne _ _ (show ((pl + 1) % 8 + 8 - min (qc + 1) 8 + j) % 8 ≠ pl by omega)]
      have h6 := h5 j hjc
      rw [show (pl + 8 - qc + j) % 8 = ((pl + 1) % 8 + 8 - min (qc + 1) 8 + j) % 8 by omega] at h6
      refine h6.to (fun i hi => ?_)
      show cpA g 0 kp (152 * qc) 152 (152 * j + i) = kp (152 * j + i)
      unfold cpA
      rw [if_neg (by omega)]
/-- the last kept one, and the row without it -/
theorem hisR.undo {kp g : Nat → Nat} {B qc pl ct : Nat} {K : Nat → Sh} {S : Sh} (h : hisR kp B qc pl ct K) (hc : 0 < ct) : rowP (cpA kp (152 * (qc - 1)) g 0 152) B (cpS (K ((pl + 8 - 1) % 8)) S) ∧ hisR kp B (qc - 1) ((pl + 8 - 1) % 8) (ct - 1) K := by
  obtain ⟨rfl, h2, h3, h4, h5⟩ := h
  refine ⟨?_, rfl, by omega, by omega, h4, fun j hj => ?_⟩
  · have h6 := h5 (qc - 1) (by omega)
    rw [show (pl + 8 - qc + (qc - 1)) % 8 = (pl + 8 - 1) % 8 by omega] at h6
    refine h6.cp.to (fun i hi => ?_)
    show cpA kp (152 * (qc - 1)) g 0 152 i = kp (152 * (qc - 1) + i)
    unfold cpA
    rw [if_pos (by omega), show i - 0 = i by omega]
  · have h6 := h5 j (by omega)
    rw [show (pl + 8 - qc + j) % 8 = ((pl + 8 - 1) % 8 + 8 - (qc - 1) + j) % 8 by omega] at h6
    exact h6
theorem hisR.clear {kp : Nat → Nat} {B qc pl ct : Nat} {K : Nat → Sh} (h : hisR kp B qc pl ct K) : hisR kp B 0 pl 0 K := ⟨rfl, by omega, h.2.2.1, h.2.2.2.1, fun j hj => absurd hj (Nat.not_lt_zero _)⟩
theorem cpA_row {f g : Nat → Nat} {B : Nat} {S : Sh} (h : rowP f B S) : rowP (cpA f 0 g 0 152) B S := h.to (fun i hi => by unfold cpA; rw [if_pos (by omega), show 0 + (i - 0) = i by omega])
/-- a denial as the class keeps it -/
def denR (wy : Nat) (de : Int32) (ca : Nat) (dq : Option Nat) (dd : Int32) (dc : Option Nat) : Prop := (dq = if wy = 0 then none else some wy) ∧ wy < 8 ∧ ca < 2 ^ 20 ∧ (0 < wy → dd = de) ∧ dc = if ca = 0 then none else some ca
