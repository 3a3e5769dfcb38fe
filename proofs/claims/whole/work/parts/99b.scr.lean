/-! THE SCRATCH, WRITTEN -/
theorem clsP.sc {E : gE} {ad : Nat → Nat} {N d : Nat} {w w1 : Nat → va_E} {kk : Nat → Nat} {S : Sh} {pl ct : Nat} {K : Nat → Sh} {sv : Nat} {Z : Sh} {fp dq : Option Nat} {dd : Int32} {dc : Option Nat} {bf : Nat → Nat} {ln : Nat} {tx : List Nat} (h : clsP E ad N w d kk S pl ct K sv Z fp dq dd dc bf ln tx) (hs : scr E ad N w1 d) (hw : ∀ p, (d ≤ p ∧ p < d + 87) ∨ (d + 111 ≤ p ∧ p < d + 116) ∨ d + 130 ≤ p → w1 p = w p) : clsP E ad N w1 d kk S pl ct K sv Z fp dq dd dc bf ln tx := by
  obtain ⟨h0, h1, h2, h3, h4⟩ := h
  exact ⟨h0, h1.mv (M := N) (by omega) (Nat.le_refl _) (fun _ _ => rfl) (fun p a b => hw p (by omega)), hs, h3.fr (fun p a => hw p (by omega)), h4.mv (M := N) (by omega) (Nat.le_refl _) (fun _ _ => rfl) (fun p a b => hw p (by omega))⟩
/-- only the sheet to try is written -/
theorem clsP.tr {E : gE} {ad : Nat → Nat} {N d : Nat} {w w1 : Nat → va_E} {kk : Nat → Nat} {S : Sh} {pl ct : Nat} {K : Nat → Sh} {sv : Nat} {Z : Sh} {fp dq : Option Nat} {dd : Int32} {dc : Option Nat} {bf : Nat → Nat} {ln : Nat} {tx : List Nat} (h : clsP E ad N w d kk S pl ct K sv Z fp dq dd dc bf ln tx) (ht : ∃ T : Sh, bkP N w1 (d + 22) 7 (shC E ad (d + 22) T)) (hw : ∀ p, (d ≤ p ∧ p < d + 116) ∨ d + 130 ≤ p → ¬ (d + 22 ≤ p ∧ p < d + 29) → w1 p = w p) : clsP E ad N w1 d kk S pl ct K sv Z fp dq dd dc bf ln tx := by
  obtain ⟨h0, ⟨a1, a2, a3, ⟨A, a4⟩, a5, a6⟩, h2, h3, h4⟩ := h
  refine ⟨h0, ⟨DM_mv a1 (M := N) (by omega) (Nat.le_refl _) (fun _ _ => rfl) (fun p a b => hw p (by omega) (by omega)), SH_mv a2 (M := N) (by omega) (Nat.le_refl _) (fun _ _ => rfl) (fun p a b => hw p (by omega) (by omega)), SH_mv a3 (M := N) (by omega) (Nat.le_refl _) (fun _ _ => rfl) (fun p a b => hw p (by omega) (by omega)), ⟨A, SH_mv a4 (M := N) (by omega) (Nat.le_refl _) (fun _ _ => rfl) (fun p a b => hw p (by omega) (by omega))⟩, ht, hsP.mv a6 (M := N) (by omega) (Nat.le_refl _) (fun _ _ => rfl) (fun p a b => hw p (by omega) (by omega))⟩, h2.mv (M := N) (by omega) (Nat.le_refl _) (fun _ _ => rfl) (fun p a b => hw p (by omega) (by omega)), h3.fr (fun p a => hw p (by omega) (by omega)), h4.mv (M := N) (by omega) (Nat.le_refl _) (fun _ _ => rfl) (fun p a b => hw p (by omega) (by omega))⟩
theorem scr.upRK {E : gE} {ad : Nat → Nat} {N d : Nat} {w w1 : Nat → va_E} (h : scr E ad N w d) (h_3 : ∃ ra rk : Nat → Nat, bkP N w1 (d + 93) 2 (RKC E ad (d + 93) ra rk)) (hw : ∀ p, d + 87 ≤ p → p < d + 111 → ¬ (d + 93 ≤ p ∧ p < d + 95) → w1 p = w p) : scr E ad N w1 d := by
  obtain ⟨h0, ⟨v1a, v1b, v1c, v1d, h1⟩, ⟨v2a, h2⟩, ⟨v3a, v3b, h3⟩, h4, ⟨v5a, v5b, h5, h5a, h5b⟩, ⟨v6a, h6⟩, ⟨v7a, h7⟩, ⟨v8a, v8b, h8, h8a, h8b⟩, ⟨v9a, v9b, v9c, v9d, h9⟩, ⟨v10a, h10⟩, ⟨v11a, h11⟩, ⟨v12a, h12⟩⟩ := h
  exact ⟨RG_mv h0 (M := N) (by have := h12.1; omega) (Nat.le_refl _) (fun _ _ => rfl) (fun p a b => hw p (by omega) (by omega) (by omega)),
    ⟨_, _, _, _, FL_mv h1 (M := N) (by have := h12.1; omega) (Nat.le_refl _) (fun _ _ => rfl) (fun p a b => hw p (by omega) (by omega) (by omega))⟩,
    ⟨_, UN_mv h2 (M := N) (by have := h12.1; omega) (Nat.le_refl _) (fun _ _ => rfl) (fun p a b => hw p (by omega) (by omega) (by omega))⟩,
    h_3,
    SL_mv h4 (M := N) (by have := h12.1; omega) (Nat.le_refl _) (fun _ _ => rfl) (fun p a b => hw p (by omega) (by omega) (by omega)),
    ⟨_, _, CQ_mv h5 (M := N) (by have := h12.1; omega) (Nat.le_refl _) (fun _ _ => rfl) (fun p a b => hw p (by omega) (by omega) (by omega)), h5a, h5b⟩,
    ⟨_, LV_mv h6 (M := N) (by have := h12.1; omega) (Nat.le_refl _) (fun _ _ => rfl) (fun p a b => hw p (by omega) (by omega) (by omega))⟩,
    ⟨_, RT_mv h7 (M := N) (by have := h12.1; omega) (Nat.le_refl _) (fun _ _ => rfl) (fun p a b => hw p (by omega) (by omega) (by omega))⟩,
    ⟨_, _, CQ_mv h8 (M := N) (by have := h12.1; omega) (Nat.le_refl _) (fun _ _ => rfl) (fun p a b => hw p (by omega) (by omega) (by omega)), h8a, h8b⟩,
    ⟨_, _, _, _, FL_mv h9 (M := N) (by have := h12.1; omega) (Nat.le_refl _) (fun _ _ => rfl) (fun p a b => hw p (by omega) (by omega) (by omega))⟩,
    ⟨_, UN_mv h10 (M := N) (by have := h12.1; omega) (Nat.le_refl _) (fun _ _ => rfl) (fun p a b => hw p (by omega) (by omega) (by omega))⟩,
    ⟨_, LV_mv h11 (M := N) (by have := h12.1; omega) (Nat.le_refl _) (fun _ _ => rfl) (fun p a b => hw p (by omega) (by omega) (by omega))⟩,
    ⟨_, PR_mv h12 (M := N) (by have := h12.1; omega) (Nat.le_refl _) (fun _ _ => rfl) (fun p a b => hw p (by omega) (by omega) (by omega))⟩⟩
theorem scr.upFL1 {E : gE} {ad : Nat → Nat} {N d : Nat} {w w1 : Nat → va_E} (h : scr E ad N w d) (h_1 : ∃ (re ce : Nat → Nat) (rc tc : Nat), bkP N w1 (d + 88) 3 (FLC E ad (d + 88) re ce rc tc)) (hw : ∀ p, d + 87 ≤ p → p < d + 111 → ¬ (d + 88 ≤ p ∧ p < d + 91) → w1 p = w p) : scr E ad N w1 d := by
  obtain ⟨h0, ⟨v1a, v1b, v1c, v1d, h1⟩, ⟨v2a, h2⟩, ⟨v3a, v3b, h3⟩, h4, ⟨v5a, v5b, h5, h5a, h5b⟩, ⟨v6a, h6⟩, ⟨v7a, h7⟩, ⟨v8a, v8b, h8, h8a, h8b⟩, ⟨v9a, v9b, v9c, v9d, h9⟩, ⟨v10a, h10⟩, ⟨v11a, h11⟩, ⟨v12a, h12⟩⟩ := h
  exact ⟨RG_mv h0 (M := N) (by have := h12.1; omega) (Nat.le_refl _) (fun _ _ => rfl) (fun p a b => hw p (by omega) (by omega) (by omega)),
    h_1,
    ⟨_, UN_mv h2 (M := N) (by have := h12.1; omega) (Nat.le_refl _) (fun _ _ => rfl) (fun p a b => hw p (by omega) (by omega) (by omega))⟩,
    ⟨_, _, RK_mv h3 (M := N) (by have := h12.1; omega) (Nat.le_refl _) (fun _ _ => rfl) (fun p a b => hw p (by omega) (by omega) (by omega))⟩,
    SL_mv h4 (M := N) (by have := h12.1; omega) (Nat.le_refl _) (fun _ _ => rfl) (fun p a b => hw p (by omega) (by omega) (by omega)),
    ⟨_, _, CQ_mv h5 (M := N) (by have := h12.1; omega) (Nat.le_refl _) (fun _ _ => rfl) (fun p a b => hw p (by omega) (by omega) (by omega)), h5a, h5b⟩,
    ⟨_, LV_mv h6 (M := N) (by have := h12.1; omega) (Nat.le_refl _) (fun _ _ => rfl) (fun p a b => hw p (by omega) (by omega) (by omega))⟩,
    ⟨_, RT_mv h7 (M := N) (by have := h12.1; omega) (Nat.le_refl _) (fun _ _ => rfl) (fun p a b => hw p (by omega) (by omega) (by omega))⟩,
    ⟨_, _, CQ_mv h8 (M := N) (by have := h12.1; omega) (Nat.le_refl _) (fun _ _ => rfl) (fun p a b => hw p (by omega) (by omega) (by omega)), h8a, h8b⟩,
    ⟨_, _, _, _, FL_mv h9 (M := N) (by have := h12.1; omega) (Nat.le_refl _) (fun _ _ => rfl) (fun p a b => hw p (by omega) (by omega) (by omega))⟩,
    ⟨_, UN_mv h10 (M := N) (by have := h12.1; omega) (Nat.le_refl _) (fun _ _ => rfl) (fun p a b => hw p (by omega) (by omega) (by omega))⟩,
    ⟨_, LV_mv h11 (M := N) (by have := h12.1; omega) (Nat.le_refl _) (fun _ _ => rfl) (fun p a b => hw p (by omega) (by omega) (by omega))⟩,
    ⟨_, PR_mv h12 (M := N) (by have := h12.1; omega) (Nat.le_refl _) (fun _ _ => rfl) (fun p a b => hw p (by omega) (by omega) (by omega))⟩⟩
theorem scr.upURK {E : gE} {ad : Nat → Nat} {N d : Nat} {w w1 : Nat → va_E} (h : scr E ad N w d) (h_2 : ∃ pa : Nat → Nat, bkP N w1 (d + 91) 2 (UNC E ad (d + 91) pa)) (h_3 : ∃ ra rk : Nat → Nat, bkP N w1 (d + 93) 2 (RKC E ad (d + 93) ra rk)) (hw : ∀ p, d + 87 ≤ p → p < d + 111 → ¬ (d + 91 ≤ p ∧ p < d + 93) ∧ ¬ (d + 93 ≤ p ∧ p < d + 95) → w1 p = w p) : scr E ad N w1 d := by
  obtain ⟨h0, ⟨v1a, v1b, v1c, v1d, h1⟩, ⟨v2a, h2⟩, ⟨v3a, v3b, h3⟩, h4, ⟨v5a, v5b, h5, h5a, h5b⟩, ⟨v6a, h6⟩, ⟨v7a, h7⟩, ⟨v8a, v8b, h8, h8a, h8b⟩, ⟨v9a, v9b, v9c, v9d, h9⟩, ⟨v10a, h10⟩, ⟨v11a, h11⟩, ⟨v12a, h12⟩⟩ := h
  exact ⟨RG_mv h0 (M := N) (by have := h12.1; omega) (Nat.le_refl _) (fun _ _ => rfl) (fun p a b => hw p (by omega) (by omega) (by omega)),
    ⟨_, _, _, _, FL_mv h1 (M := N) (by have := h12.1; omega) (Nat.le_refl _) (fun _ _ => rfl) (fun p a b => hw p (by omega) (by omega) (by omega))⟩,
    h_2,
    h_3,
    SL_mv h4 (M := N) (by have := h12.1; omega) (Nat.le_refl _) (fun _ _ => rfl) (fun p a b => hw p (by omega) (by omega) (by omega)),
    ⟨_, _, CQ_mv h5 (M := N) (by have := h12.1; omega) (Nat.le_refl _) (fun _ _ => rfl) (fun p a b => hw p (by omega) (by omega) (by omega)), h5a, h5b⟩,
    ⟨_, LV_mv h6 (M := N) (by have := h12.1; omega) (Nat.le_refl _) (fun _ _ => rfl) (fun p a b => hw p (by omega) (by omega) (by omega))⟩,
    ⟨_, RT_mv h7 (M := N) (by have := h12.1; omega) (Nat.le_refl _) (fun _ _ => rfl) (fun p a b => hw p (by omega) (by omega) (by omega))⟩,
    ⟨_, _, CQ_mv h8 (M := N) (by have := h12.1; omega) (Nat.le_refl _) (fun _ _ => rfl) (fun p a b => hw p (by omega) (by omega) (by omega)), h8a, h8b⟩,
    ⟨_, _, _, _, FL_mv h9 (M := N) (by have := h12.1; omega) (Nat.le_refl _) (fun _ _ => rfl) (fun p a b => hw p (by omega) (by omega) (by omega))⟩,
    ⟨_, UN_mv h10 (M := N) (by have := h12.1; omega) (Nat.le_refl _) (fun _ _ => rfl) (fun p a b => hw p (by omega) (by omega) (by omega))⟩,
    ⟨_, LV_mv h11 (M := N) (by have := h12.1; omega) (Nat.le_refl _) (fun _ _ => rfl) (fun p a b => hw p (by omega) (by omega) (by omega))⟩,
    ⟨_, PR_mv h12 (M := N) (by have := h12.1; omega) (Nat.le_refl _) (fun _ _ => rfl) (fun p a b => hw p (by omega) (by omega) (by omega))⟩⟩
theorem scr.upCL {E : gE} {ad : Nat → Nat} {N d : Nat} {w w1 : Nat → va_E} (h : scr E ad N w d) (h_5 : ∃ wa ke : Nat → Nat, bkP N w1 (d + 96) 3 (CQC E ad (d + 96) wa ke) ∧ (∀ k, k < 36 → wa k = 0) ∧ ∀ k, k < 36 → ke k < 2 ^ 30) (h_6 : ∃ lv : Nat → Nat, bkP N w1 (d + 99) 1 (LVC E ad (d + 99) lv)) (hw : ∀ p, d + 87 ≤ p → p < d + 111 → ¬ (d + 96 ≤ p ∧ p < d + 99) ∧ ¬ (d + 99 ≤ p ∧ p < d + 100) → w1 p = w p) : scr E ad N w1 d := by
  obtain ⟨h0, ⟨v1a, v1b, v1c, v1d, h1⟩, ⟨v2a, h2⟩, ⟨v3a, v3b, h3⟩, h4, ⟨v5a, v5b, h5, h5a, h5b⟩, ⟨v6a, h6⟩, ⟨v7a, h7⟩, ⟨v8a, v8b, h8, h8a, h8b⟩, ⟨v9a, v9b, v9c, v9d, h9⟩, ⟨v10a, h10⟩, ⟨v11a, h11⟩, ⟨v12a, h12⟩⟩ := h
  exact ⟨RG_mv h0 (M := N) (by have := h12.1; omega) (Nat.le_refl _) (fun _ _ => rfl) (fun p a b => hw p (by omega) (by omega) (by omega)),
    ⟨_, _, _, _, FL_mv h1 (M := N) (by have := h12.1; omega) (Nat.le_refl _) (fun _ _ => rfl) (fun p a b => hw p (by omega) (by omega) (by omega))⟩,
    ⟨_, UN_mv h2 (M := N) (by have := h12.1; omega) (Nat.le_refl _) (fun _ _ => rfl) (fun p a b => hw p (by omega) (by omega) (by omega))⟩,
    ⟨_, _, RK_mv h3 (M := N) (by have := h12.1; omega) (Nat.le_refl _) (fun _ _ => rfl) (fun p a b => hw p (by omega) (by omega) (by omega))⟩,
    SL_mv h4 (M := N) (by have := h12.1; omega) (Nat.le_refl _) (fun _ _ => rfl) (fun p a b => hw p (by omega) (by omega) (by omega)),
    h_5,
    h_6,
    ⟨_, RT_mv h7 (M := N) (by have := h12.1; omega) (Nat.le_refl _) (fun _ _ => rfl) (fun p a b => hw p (by omega) (by omega) (by omega))⟩,
    ⟨_, _, CQ_mv h8 (M := N) (by have := h12.1; omega) (Nat.le_refl _) (fun _ _ => rfl) (fun p a b => hw p (by omega) (by omega) (by omega)), h8a, h8b⟩,
    ⟨_, _, _, _, FL_mv h9 (M := N) (by have := h12.1; omega) (Nat.le_refl _) (fun _ _ => rfl) (fun p a b => hw p (by omega) (by omega) (by omega))⟩,
    ⟨_, UN_mv h10 (M := N) (by have := h12.1; omega) (Nat.le_refl _) (fun _ _ => rfl) (fun p a b => hw p (by omega) (by omega) (by omega))⟩,
    ⟨_, LV_mv h11 (M := N) (by have := h12.1; omega) (Nat.le_refl _) (fun _ _ => rfl) (fun p a b => hw p (by omega) (by omega) (by omega))⟩,
    ⟨_, PR_mv h12 (M := N) (by have := h12.1; omega) (Nat.le_refl _) (fun _ _ => rfl) (fun p a b => hw p (by omega) (by omega) (by omega))⟩⟩
theorem scr.upLV1 {E : gE} {ad : Nat → Nat} {N d : Nat} {w w1 : Nat → va_E} (h : scr E ad N w d) (h_6 : ∃ lv : Nat → Nat, bkP N w1 (d + 99) 1 (LVC E ad (d + 99) lv)) (hw : ∀ p, d + 87 ≤ p → p < d + 111 → ¬ (d + 99 ≤ p ∧ p < d + 100) → w1 p = w p) : scr E ad N w1 d := by
  obtain ⟨h0, ⟨v1a, v1b, v1c, v1d, h1⟩, ⟨v2a, h2⟩, ⟨v3a, v3b, h3⟩, h4, ⟨v5a, v5b, h5, h5a, h5b⟩, ⟨v6a, h6⟩, ⟨v7a, h7⟩, ⟨v8a, v8b, h8, h8a, h8b⟩, ⟨v9a, v9b, v9c, v9d, h9⟩, ⟨v10a, h10⟩, ⟨v11a, h11⟩, ⟨v12a, h12⟩⟩ := h
  exact ⟨RG_mv h0 (M := N) (by have := h12.1; omega) (Nat.le_refl _) (fun _ _ => rfl) (fun p a b => hw p (by omega) (by omega) (by omega)),
    ⟨_, _, _, _, FL_mv h1 (M := N) (by have := h12.1; omega) (Nat.le_refl _) (fun _ _ => rfl) (fun p a b => hw p (by omega) (by omega) (by omega))⟩,
    ⟨_, UN_mv h2 (M := N) (by have := h12.1; omega) (Nat.le_refl _) (fun _ _ => rfl) (fun p a b => hw p (by omega) (by omega) (by omega))⟩,
    ⟨_, _, RK_mv h3 (M := N) (by have := h12.1; omega) (Nat.le_refl _) (fun _ _ => rfl) (fun p a b => hw p (by omega) (by omega) (by omega))⟩,
    SL_mv h4 (M := N) (by have := h12.1; omega) (Nat.le_refl _) (fun _ _ => rfl) (fun p a b => hw p (by omega) (by omega) (by omega)),
    ⟨_, _, CQ_mv h5 (M := N) (by have := h12.1; omega) (Nat.le_refl _) (fun _ _ => rfl) (fun p a b => hw p (by omega) (by omega) (by omega)), h5a, h5b⟩,
    h_6,
    ⟨_, RT_mv h7 (M := N) (by have := h12.1; omega) (Nat.le_refl _) (fun _ _ => rfl) (fun p a b => hw p (by omega) (by omega) (by omega))⟩,
    ⟨_, _, CQ_mv h8 (M := N) (by have := h12.1; omega) (Nat.le_refl _) (fun _ _ => rfl) (fun p a b => hw p (by omega) (by omega) (by omega)), h8a, h8b⟩,
    ⟨_, _, _, _, FL_mv h9 (M := N) (by have := h12.1; omega) (Nat.le_refl _) (fun _ _ => rfl) (fun p a b => hw p (by omega) (by omega) (by omega))⟩,
    ⟨_, UN_mv h10 (M := N) (by have := h12.1; omega) (Nat.le_refl _) (fun _ _ => rfl) (fun p a b => hw p (by omega) (by omega) (by omega))⟩,
    ⟨_, LV_mv h11 (M := N) (by have := h12.1; omega) (Nat.le_refl _) (fun _ _ => rfl) (fun p a b => hw p (by omega) (by omega) (by omega))⟩,
    ⟨_, PR_mv h12 (M := N) (by have := h12.1; omega) (Nat.le_refl _) (fun _ _ => rfl) (fun p a b => hw p (by omega) (by omega) (by omega))⟩⟩
theorem scr.upRt {E : gE} {ad : Nat → Nat} {N d : Nat} {w w1 : Nat → va_E} (h : scr E ad N w d) (h_8 : ∃ wa ke : Nat → Nat, bkP N w1 (d + 101) 3 (CQC E ad (d + 101) wa ke) ∧ (∀ k, k < 36 → wa k = 0) ∧ ∀ k, k < 36 → ke k < 2 ^ 30) (h_11 : ∃ lv : Nat → Nat, bkP N w1 (d + 109) 1 (LVC E ad (d + 109) lv)) (hw : ∀ p, d + 87 ≤ p → p < d + 111 → ¬ (d + 101 ≤ p ∧ p < d + 104) ∧ ¬ (d + 109 ≤ p ∧ p < d + 110) → w1 p = w p) : scr E ad N w1 d := by
  obtain ⟨h0, ⟨v1a, v1b, v1c, v1d, h1⟩, ⟨v2a, h2⟩, ⟨v3a, v3b, h3⟩, h4, ⟨v5a, v5b, h5, h5a, h5b⟩, ⟨v6a, h6⟩, ⟨v7a, h7⟩, ⟨v8a, v8b, h8, h8a, h8b⟩, ⟨v9a, v9b, v9c, v9d, h9⟩, ⟨v10a, h10⟩, ⟨v11a, h11⟩, ⟨v12a, h12⟩⟩ := h
  exact ⟨RG_mv h0 (M := N) (by have := h12.1; omega) (Nat.le_refl _) (fun _ _ => rfl) (fun p a b => hw p (by omega) (by omega) (by omega)),
    ⟨_, _, _, _, FL_mv h1 (M := N) (by have := h12.1; omega) (Nat.le_refl _) (fun _ _ => rfl) (fun p a b => hw p (by omega) (by omega) (by omega))⟩,
    ⟨_, UN_mv h2 (M := N) (by have := h12.1; omega) (Nat.le_refl _) (fun _ _ => rfl) (fun p a b => hw p (by omega) (by omega) (by omega))⟩,
    ⟨_, _, RK_mv h3 (M := N) (by have := h12.1; omega) (Nat.le_refl _) (fun _ _ => rfl) (fun p a b => hw p (by omega) (by omega) (by omega))⟩,
    SL_mv h4 (M := N) (by have := h12.1; omega) (Nat.le_refl _) (fun _ _ => rfl) (fun p a b => hw p (by omega) (by omega) (by omega)),
    ⟨_, _, CQ_mv h5 (M := N) (by have := h12.1; omega) (Nat.le_refl _) (fun _ _ => rfl) (fun p a b => hw p (by omega) (by omega) (by omega)), h5a, h5b⟩,
    ⟨_, LV_mv h6 (M := N) (by have := h12.1; omega) (Nat.le_refl _) (fun _ _ => rfl) (fun p a b => hw p (by omega) (by omega) (by omega))⟩,
    ⟨_, RT_mv h7 (M := N) (by have := h12.1; omega) (Nat.le_refl _) (fun _ _ => rfl) (fun p a b => hw p (by omega) (by omega) (by omega))⟩,
    h_8,
    ⟨_, _, _, _, FL_mv h9 (M := N) (by have := h12.1; omega) (Nat.le_refl _) (fun _ _ => rfl) (fun p a b => hw p (by omega) (by omega) (by omega))⟩,
    ⟨_, UN_mv h10 (M := N) (by have := h12.1; omega) (Nat.le_refl _) (fun _ _ => rfl) (fun p a b => hw p (by omega) (by omega) (by omega))⟩,
    h_11,
    ⟨_, PR_mv h12 (M := N) (by have := h12.1; omega) (Nat.le_refl _) (fun _ _ => rfl) (fun p a b => hw p (by omega) (by omega) (by omega))⟩⟩
theorem scr.upLV2 {E : gE} {ad : Nat → Nat} {N d : Nat} {w w1 : Nat → va_E} (h : scr E ad N w d) (h_11 : ∃ lv : Nat → Nat, bkP N w1 (d + 109) 1 (LVC E ad (d + 109) lv)) (hw : ∀ p, d + 87 ≤ p → p < d + 111 → ¬ (d + 109 ≤ p ∧ p < d + 110) → w1 p = w p) : scr E ad N w1 d := by
  obtain ⟨h0, ⟨v1a, v1b, v1c, v1d, h1⟩, ⟨v2a, h2⟩, ⟨v3a, v3b, h3⟩, h4, ⟨v5a, v5b, h5, h5a, h5b⟩, ⟨v6a, h6⟩, ⟨v7a, h7⟩, ⟨v8a, v8b, h8, h8a, h8b⟩, ⟨v9a, v9b, v9c, v9d, h9⟩, ⟨v10a, h10⟩, ⟨v11a, h11⟩, ⟨v12a, h12⟩⟩ := h
  exact ⟨RG_mv h0 (M := N) (by have := h12.1; omega) (Nat.le_refl _) (fun _ _ => rfl) (fun p a b => hw p (by omega) (by omega) (by omega)),
    ⟨_, _, _, _, FL_mv h1 (M := N) (by have := h12.1; omega) (Nat.le_refl _) (fun _ _ => rfl) (fun p a b => hw p (by omega) (by omega) (by omega))⟩,
    ⟨_, UN_mv h2 (M := N) (by have := h12.1; omega) (Nat.le_refl _) (fun _ _ => rfl) (fun p a b => hw p (by omega) (by omega) (by omega))⟩,
    ⟨_, _, RK_mv h3 (M := N) (by have := h12.1; omega) (Nat.le_refl _) (fun _ _ => rfl) (fun p a b => hw p (by omega) (by omega) (by omega))⟩,
    SL_mv h4 (M := N) (by have := h12.1; omega) (Nat.le_refl _) (fun _ _ => rfl) (fun p a b => hw p (by omega) (by omega) (by omega)),
    ⟨_, _, CQ_mv h5 (M := N) (by have := h12.1; omega) (Nat.le_refl _) (fun _ _ => rfl) (fun p a b => hw p (by omega) (by omega) (by omega)), h5a, h5b⟩,
    ⟨_, LV_mv h6 (M := N) (by have := h12.1; omega) (Nat.le_refl _) (fun _ _ => rfl) (fun p a b => hw p (by omega) (by omega) (by omega))⟩,
    ⟨_, RT_mv h7 (M := N) (by have := h12.1; omega) (Nat.le_refl _) (fun _ _ => rfl) (fun p a b => hw p (by omega) (by omega) (by omega))⟩,
    ⟨_, _, CQ_mv h8 (M := N) (by have := h12.1; omega) (Nat.le_refl _) (fun _ _ => rfl) (fun p a b => hw p (by omega) (by omega) (by omega)), h8a, h8b⟩,
    ⟨_, _, _, _, FL_mv h9 (M := N) (by have := h12.1; omega) (Nat.le_refl _) (fun _ _ => rfl) (fun p a b => hw p (by omega) (by omega) (by omega))⟩,
    ⟨_, UN_mv h10 (M := N) (by have := h12.1; omega) (Nat.le_refl _) (fun _ _ => rfl) (fun p a b => hw p (by omega) (by omega) (by omega))⟩,
    h_11,
    ⟨_, PR_mv h12 (M := N) (by have := h12.1; omega) (Nat.le_refl _) (fun _ _ => rfl) (fun p a b => hw p (by omega) (by omega) (by omega))⟩⟩
theorem scr.upSt {E : gE} {ad : Nat → Nat} {N d : Nat} {w w1 : Nat → va_E} (h : scr E ad N w d) (h_7 : ∃ pn : Nat, bkP N w1 (d + 100) 1 (RTC E ad (d + 100) pn)) (h_10 : ∃ pa : Nat → Nat, bkP N w1 (d + 107) 2 (UNC E ad (d + 107) pa)) (h_12 : ∃ pq : Nat → Nat, bkP N w1 (d + 110) 1 (PRC E ad (d + 110) pq)) (hw : ∀ p, d + 87 ≤ p → p < d + 111 → ¬ (d + 100 ≤ p ∧ p < d + 101) ∧ ¬ (d + 107 ≤ p ∧ p < d + 109) ∧ ¬ (d + 110 ≤ p ∧ p < d + 111) → w1 p = w p) : scr E ad N w1 d := by
  obtain ⟨h0, ⟨v1a, v1b, v1c, v1d, h1⟩, ⟨v2a, h2⟩, ⟨v3a, v3b, h3⟩, h4, ⟨v5a, v5b, h5, h5a, h5b⟩, ⟨v6a, h6⟩, ⟨v7a, h7⟩, ⟨v8a, v8b, h8, h8a, h8b⟩, ⟨v9a, v9b, v9c, v9d, h9⟩, ⟨v10a, h10⟩, ⟨v11a, h11⟩, ⟨v12a, h12⟩⟩ := h
  exact ⟨RG_mv h0 (M := N) (by have := h12.1; omega) (Nat.le_refl _) (fun _ _ => rfl) (fun p a b => hw p (by omega) (by omega) (by omega)),
    ⟨_, _, _, _, FL_mv h1 (M := N) (by have := h12.1; omega) (Nat.le_refl _) (fun _ _ => rfl) (fun p a b => hw p (by omega) (by omega) (by omega))⟩,
    ⟨_, UN_mv h2 (M := N) (by have := h12.1; omega) (Nat.le_refl _) (fun _ _ => rfl) (fun p a b => hw p (by omega) (by omega) (by omega))⟩,
    ⟨_, _, RK_mv h3 (M := N) (by have := h12.1; omega) (Nat.le_refl _) (fun _ _ => rfl) (fun p a b => hw p (by omega) (by omega) (by omega))⟩,
    SL_mv h4 (M := N) (by have := h12.1; omega) (Nat.le_refl _) (fun _ _ => rfl) (fun p a b => hw p (by omega) (by omega) (by omega)),
    ⟨_, _, CQ_mv h5 (M := N) (by have := h12.1; omega) (Nat.le_refl _) (fun _ _ => rfl) (fun p a b => hw p (by omega) (by omega) (by omega)), h5a, h5b⟩,
    ⟨_, LV_mv h6 (M := N) (by have := h12.1; omega) (Nat.le_refl _) (fun _ _ => rfl) (fun p a b => hw p (by omega) (by omega) (by omega))⟩,
    h_7,
    ⟨_, _, CQ_mv h8 (M := N) (by have := h12.1; omega) (Nat.le_refl _) (fun _ _ => rfl) (fun p a b => hw p (by omega) (by omega) (by omega)), h8a, h8b⟩,
    ⟨_, _, _, _, FL_mv h9 (M := N) (by have := h12.1; omega) (Nat.le_refl _) (fun _ _ => rfl) (fun p a b => hw p (by omega) (by omega) (by omega))⟩,
    h_10,
    ⟨_, LV_mv h11 (M := N) (by have := h12.1; omega) (Nat.le_refl _) (fun _ _ => rfl) (fun p a b => hw p (by omega) (by omega) (by omega))⟩,
    h_12⟩
theorem scr.upFL2 {E : gE} {ad : Nat → Nat} {N d : Nat} {w w1 : Nat → va_E} (h : scr E ad N w d) (h_9 : ∃ (re ce : Nat → Nat) (rc tc : Nat), bkP N w1 (d + 104) 3 (FLC E ad (d + 104) re ce rc tc)) (hw : ∀ p, d + 87 ≤ p → p < d + 111 → ¬ (d + 104 ≤ p ∧ p < d + 107) → w1 p = w p) : scr E ad N w1 d := by
  obtain ⟨h0, ⟨v1a, v1b, v1c, v1d, h1⟩, ⟨v2a, h2⟩, ⟨v3a, v3b, h3⟩, h4, ⟨v5a, v5b, h5, h5a, h5b⟩, ⟨v6a, h6⟩, ⟨v7a, h7⟩, ⟨v8a, v8b, h8, h8a, h8b⟩, ⟨v9a, v9b, v9c, v9d, h9⟩, ⟨v10a, h10⟩, ⟨v11a, h11⟩, ⟨v12a, h12⟩⟩ := h
  exact ⟨RG_mv h0 (M := N) (by have := h12.1; omega) (Nat.le_refl _) (fun _ _ => rfl) (fun p a b => hw p (by omega) (by omega) (by omega)),
    ⟨_, _, _, _, FL_mv h1 (M := N) (by have := h12.1; omega) (Nat.le_refl _) (fun _ _ => rfl) (fun p a b => hw p (by omega) (by omega) (by omega))⟩,
    ⟨_, UN_mv h2 (M := N) (by have := h12.1; omega) (Nat.le_refl _) (fun _ _ => rfl) (fun p a b => hw p (by omega) (by omega) (by omega))⟩,
    ⟨_, _, RK_mv h3 (M := N) (by have := h12.1; omega) (Nat.le_refl _) (fun _ _ => rfl) (fun p a b => hw p (by omega) (by omega) (by omega))⟩,
    SL_mv h4 (M := N) (by have := h12.1; omega) (Nat.le_refl _) (fun _ _ => rfl) (fun p a b => hw p (by omega) (by omega) (by omega)),
    ⟨_, _, CQ_mv h5 (M := N) (by have := h12.1; omega) (Nat.le_refl _) (fun _ _ => rfl) (fun p a b => hw p (by omega) (by omega) (by omega)), h5a, h5b⟩,
    ⟨_, LV_mv h6 (M := N) (by have := h12.1; omega) (Nat.le_refl _) (fun _ _ => rfl) (fun p a b => hw p (by omega) (by omega) (by omega))⟩,
    ⟨_, RT_mv h7 (M := N) (by have := h12.1; omega) (Nat.le_refl _) (fun _ _ => rfl) (fun p a b => hw p (by omega) (by omega) (by omega))⟩,
    ⟨_, _, CQ_mv h8 (M := N) (by have := h12.1; omega) (Nat.le_refl _) (fun _ _ => rfl) (fun p a b => hw p (by omega) (by omega) (by omega)), h8a, h8b⟩,
    h_9,
    ⟨_, UN_mv h10 (M := N) (by have := h12.1; omega) (Nat.le_refl _) (fun _ _ => rfl) (fun p a b => hw p (by omega) (by omega) (by omega))⟩,
    ⟨_, LV_mv h11 (M := N) (by have := h12.1; omega) (Nat.le_refl _) (fun _ _ => rfl) (fun p a b => hw p (by omega) (by omega) (by omega))⟩,
    ⟨_, PR_mv h12 (M := N) (by have := h12.1; omega) (Nat.le_refl _) (fun _ _ => rfl) (fun p a b => hw p (by omega) (by omega) (by omega))⟩⟩
theorem rankN_one {ht rk rk2 : Nat → Nat} {i : Nat} (hi : i < 36) : rankN ht rk 36 i = rankN ht rk2 36 i := by
  obtain ⟨a1, a2⟩ := rankN_rk (ht := ht) (rk := rk) 36 i hi
  obtain ⟨b1, b2⟩ := rankN_rk (ht := ht) (rk := rk2) 36 i hi
  exact rkC_inj a1 b1 (a2.trans b2.symm)
theorem spill_ok {ht wr lv wa ke : Nat → Nat} (hht : ∀ k, k < 36 → ht k ≤ 99) (hw : ∀ k, k < 36 → wa k ≤ 1) (hk : ∀ k, k < 36 → ke k < 2 ^ 30) : ∀ k, k < 36 → (qG (cdS ht) 36 (fil 36 (exL ht wr) lv, exQ (fil 36 (exL ht wr) lv) wa ke 36)).2.2 k < 2 ^ 30 := by
  have hl : ∀ k, k < 36 → fil 36 (exL ht wr) lv k ≤ 100 := fun k hk => by rw [fil_in hk]; exact exL_le hht k hk
  obtain ⟨e1, e2⟩ := exQ_ok hl hw hk (n := 36) (Nat.le_refl _)
  exact (qG_ok (cd := cdS ht) (B := 100) (by decide) (n := 36) (s := (fil 36 (exL ht wr) lv, exQ (fil 36 (exL ht wr) lv) wa ke 36)) ⟨hl, e1, e2⟩).2.2
theorem route_ok {ht wr lv wa ke wa' ke' : Nat → Nat} {a b : Nat} (ha : a < 36) (hw : ∀ k, k < 36 → wa k = 0) (hk : ∀ k, k < 36 → ke k < 2 ^ 30) (h : if 3 ≤ wr a ∨ 3 ≤ wr b then wa' = wa ∧ ke' = ke else wa' = (qG (cdR ht wr) 36 ((va_up (fil 36 (fun _ => 1000000) lv) a 0), va_up wa a 1, va_up ke a 0)).2.1 ∧ ke' = (qG (cdR ht wr) 36 ((va_up (fil 36 (fun _ => 1000000) lv) a 0), va_up wa a 1, va_up ke a 0)).2.2) : (∀ k, k < 36 → wa' k = 0) ∧ ∀ k, k < 36 → ke' k < 2 ^ 30 := by
  by_cases q : 3 ≤ wr a ∨ 3 ≤ wr b
  · rw [if_pos q] at h; rw [h.1, h.2]; exact ⟨hw, hk⟩
  · rw [if_neg q] at h; rw [h.1, h.2]
    refine ⟨(route_q (ht := ht) (wr := wr) (lv := lv) (ke := ke) ha hw).2, (qG_ok (cd := cdR ht wr) (B := 1000000) (by decide) (n := 36) (s := ((va_up (fil 36 (fun _ => 1000000) lv) a 0), va_up wa a 1, va_up ke a 0)) ⟨fun k hk9 => ?_, fun k hk9 => ?_, fun k hk9 => ?_⟩).2.2⟩
    · show va_up (fil 36 (fun _ => 1000000) lv) a 0 k ≤ 1000000
      by_cases r : k = a
      · rw [r, va_up_self]; exact Nat.zero_le _
      · rw [va_up_ne _ _ r, fil_in hk9]; exact Nat.le_refl _
    · show va_up wa a 1 k ≤ 1
      by_cases r : k = a
      · rw [r, va_up_self]; exact Nat.le_refl _
      · rw [va_up_ne _ _ r, hw k hk9]; exact Nat.zero_le _
    · show va_up ke a 0 k < 2 ^ 30
      by_cases r : k = a
      · rw [r, va_up_self]; decide
      · rw [va_up_ne _ _ r]; exact hk k hk9
