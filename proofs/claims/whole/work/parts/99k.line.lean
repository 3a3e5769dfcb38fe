/-! THE LINE's BYTES ANEW: all else stays -/
theorem lsR.mv2 {E : gE} {ad ad' : Nat → Nat} {N N' : Nat} {w w' : Nat → va_E} {lo : Nat} {g : Option Nat} {kk : Nat → Nat} {n : Nat} {pl : Nat → Nat} {C : Nat → Cm} (h : lsR E ad N w lo g kk n pl C) (hN : N ≤ N') (ha : ∀ p, lo ≤ p → p < N → ad' p = ad p) (hw : ∀ p, lo ≤ p → p < N → w' p = w p) : lsR E ad' N' w' lo g kk n pl C := by
  obtain ⟨h1, h2, h3, h4⟩ := h
  refine ⟨h1, h2, fun a e => ?_, fun j hj => ?_⟩
  · obtain ⟨a1, a2, a3⟩ := h3 a e
    refine ⟨a1, by omega, (hw a a1 a2).trans (rwA_to a3 (fun j => ?_))⟩
    by_cases q : j < n
    · rw [if_pos q, if_pos q, ha _ (h4 j q).1 (h4 j q).2.1]
    · rw [if_neg q, if_neg q]
  · obtain ⟨a1, a2, a3, a4⟩ := h4 j hj
    exact ⟨a1, by omega, a3, (hw _ a1 a2).trans a4⟩
theorem MD_eq2 {E : gE} {ad ad' : Nat → Nat} {b : Nat} {g kp sv bf sd ip sg mk td lv tl : Nat → Nat} {qs qc qw qd co wy : Nat} {de : Int32} {ca ln : Nat} {fa : Option Nat} {sm pa tm : Nat} (ha : ∀ p, b ≤ p → p < b + 12 → ad p = ad' p) : ∀ k, k < 12 → MDC E ad b g kp sv bf sd ip sg mk td lv tl qs qc qw qd co wy de ca ln fa sm pa tm k = MDC E ad' b g kp sv bf sd ip sg mk td lv tl qs qc qw qd co wy de ca ln fa sm pa tm k := fun k hk => by
  match k, hk with
  | 0, _ => simp only [MDC, ha (b + 1) (by omega) (by omega), ha (b + 2) (by omega) (by omega), ha (b + 3) (by omega) (by omega), ha (b + 4) (by omega) (by omega), ha (b + 5) (by omega) (by omega), ha (b + 6) (by omega) (by omega), ha (b + 7) (by omega) (by omega), ha (b + 8) (by omega) (by omega), ha (b + 9) (by omega) (by omega), ha (b + 10) (by omega) (by omega), ha (b + 11) (by omega) (by omega)]
  | 1, _ => rfl
  | 2, _ => rfl
  | 3, _ => rfl
  | 4, _ => rfl
  | 5, _ => rfl
  | 6, _ => rfl
  | 7, _ => rfl
  | 8, _ => rfl
  | 9, _ => rfl
  | 10, _ => rfl
  | 11, _ => rfl
theorem clsP.line {E : gE} {ad ad' : Nat → Nat} {N d : Nat} {w w' : Nat → va_E} {kk : Nat → Nat} {S : Sh} {pl ct : Nat} {K : Nat → Sh} {sv : Nat} {Z : Sh} {fp dq : Option Nat} {dd : Int32} {dc : Option Nat} {bf : Nat → Nat} {ln : Nat} {tx tx' : List Nat} (h : clsP E ad N w d kk S pl ct K sv Z fp dq dd dc bf ln tx)
    (ha : ∀ p, p < N → p ≠ d + 115 → ad' p = ad p) (hw : ∀ p, p < N → p ≠ d + 114 → p ≠ d + 115 → w' p = w p) (hT : sbT E ad' N w' (d + 114) tx') : clsP E ad' N w' d kk S pl ct K sv Z fp dq dd dc bf ln tx' := by
  obtain ⟨h0, h1, h2, ⟨⟨fa, rw, cl, nm, b1⟩, md, g, nn, lp, C, b2, b3⟩, h4⟩ := h
  have hA : ∀ p, p < d + 115 → ad p = ad' p := fun p hp => (ha p (by omega) (by omega)).symm
  refine ⟨h0, h1.mv (M := d + 115) (by omega) (by omega) hA (fun p a b => hw p (by omega) (by omega) (by omega)), h2.mv (M := d + 115) (by omega) (by omega) hA (fun p a b => hw p (by omega) (by omega) (by omega)), ⟨⟨fa, rw, cl, nm, TP_mv b1 (M := d + 115) (by omega) (by omega) hA (fun p a b => hw p (by omega) (by omega) (by omega))⟩, md, g, nn, lp, C, ?_, b3.mv2 (Nat.le_refl _) (fun p a b => ha p b (by omega)) (fun p a b => hw p b (by omega) (by omega))⟩, hT⟩
  have hev : evA ad kk g = evA ad' kk g := by
    cases hg : g with
    | none => rfl
    | some a =>
      obtain ⟨a1, a2, -⟩ := b3.2.2.1 a hg
      exact (ha a a2 (by omega)).symm
  rw [← hev]
  exact AL_mv b2 (M := d + 115) (by omega) (by omega) hA (fun p a b => hw p (by omega) (by omega) (by omega))
theorem md_line {E : gE} {ad ad' : Nat → Nat} {N d : Nat} {w w' : Nat → va_E} {g kp sv bf sd ip sg mk td lv tl : Nat → Nat} {qs qc qw qd co wy : Nat} {de : Int32} {ca ln : Nat} {fa : Option Nat} {sm pa tm : Nat} (h : bkP N w (d + 116) 12 (MDC E ad (d + 116) g kp sv bf sd ip sg mk td lv tl qs qc qw qd co wy de ca ln fa sm pa tm))
    (ha : ∀ p, p < N → p ≠ d + 115 → ad' p = ad p) (hw : ∀ p, p < N → p ≠ d + 114 → p ≠ d + 115 → w' p = w p) : bkP N w' (d + 116) 12 (MDC E ad' (d + 116) g kp sv bf sd ip sg mk td lv tl qs qc qw qd co wy de ca ln fa sm pa tm) :=
  ⟨h.1, fun k hk => by rw [hw _ (by have := h.1; omega) (by omega) (by omega), h.2 k hk]; exact MD_eq2 (fun p a b => (ha p (by have := h.1; omega) (by omega)).symm) k hk⟩
