/-! THE LAW's WORLD -/
theorem smN_up {f : Nat → Nat} {k u : Nat} : ∀ {n : Nat}, smN (va_up f k u) n + (if k < n then f k else 0) = smN f n + (if k < n then u else 0)
  | 0 => rfl
  | n + 1 => by
    have ih := smN_up (f := f) (k := k) (u := u) (n := n)
    simp only [smN]
    by_cases q : k = n
    · subst q
      rw [if_neg (Nat.lt_irrefl _), if_neg (Nat.lt_irrefl _)] at ih
      rw [va_up_self, if_pos (Nat.lt_succ_self _), if_pos (Nat.lt_succ_self _)]
      omega
    · rw [va_up_ne _ _ (Ne.symm q)]
      by_cases r : k < n
      · rw [if_pos r, if_pos r] at ih
        rw [if_pos (by omega), if_pos (by omega)]; omega
      · rw [if_neg r, if_neg r] at ih
        rw [if_neg (by omega), if_neg (by omega)]; omega
theorem smN_at {f : Nat → Nat} {k : Nat} : ∀ {n : Nat}, k < n → f k ≤ smN f n
  | 0, h => absurd h (Nat.not_lt_zero _)
  | n + 1, h => by
    simp only [smN]
    by_cases q : k = n
    · subst q; omega
    · have := smN_at (f := f) (k := k) (n := n) (by omega); omega
abbrev wS (S : Sh) : Nat := smN S.2.2.2.1 36
theorem stl_w {ht wr wt : Nat → Nat} {dn : Nat} : ∀ n, n ≤ 36 → smN (stl ht wr wt dn n).1 36 ≤ smN wt 36
  | 0, _ => Nat.le_refl _
  | n + 1, hn => by
    have ih := stl_w (ht := ht) (wr := wr) (wt := wt) (dn := dn) n (by omega)
    simp only [stl]
    generalize stl ht wr wt dn n = s at *
    have h1 := smN_up (f := s.1) (k := n) (u := 0) (n := 36)
    rw [if_pos (by omega), if_pos (by omega)] at h1
    have hen := endN_lt (ht := ht) (wr := wr) (n := 36) (c := n) (by omega)
    have h2 := smN_up (f := va_up s.1 n 0) (k := endN ht wr 36 n) (u := va_up s.1 n 0 (endN ht wr 36 n) + s.1 n) (n := 36)
    rw [if_pos hen, if_pos hen] at h2
    by_cases q : 3 ≤ wr (endN ht wr 36 n)
    · rw [if_pos q]; omega
    · rw [if_neg q]; omega
theorem cmS_w {vb k u : Nat} {S : Sh} (hk : k < 36) (hu : vb = 4 → u ≤ 99) : wS (cmSS vb k u S).2 ≤ wS S + 99 := by
  obtain ⟨ht, dr, pg, wt, wr, mo, mc, ni, po, dn⟩ := S
  by_cases h4 : vb = 4
  · subst h4
    have := hu rfl
    show smN (if 3 ≤ wr (endN ht wr 36 k) then wt else va_up wt (endN ht wr 36 k) (wt (endN ht wr 36 k) + u)) 36 ≤ smN wt 36 + 99
    have hen := endN_lt (ht := ht) (wr := wr) (n := 36) hk
    have h2 := smN_up (f := wt) (k := endN ht wr 36 k) (u := wt (endN ht wr 36 k) + u) (n := 36)
    rw [if_pos hen, if_pos hen] at h2
    split <;> omega
  · by_cases h5 : vb = 5
    · subst h5
      have h := stl_w (ht := ht) (wr := wr) (wt := wt) (dn := dn) 36 (Nat.le_refl _)
      show smN (stl ht wr wt dn 36).1 36 ≤ smN wt 36 + 99
      omega
    · have e : (cmSS vb k u (ht, dr, pg, wt, wr, mo, mc, ni, po, dn)).2.2.2.2.1 = wt := by
        show (cmS vb k u ht dr pg wt wr mo mc ni po dn).2.2.2.2.1 = wt
        match vb, h4, h5 with
        | 0, _, _ => rfl
        | 1, _, _ => rfl
        | 2, _, _ => rfl
        | 3, _, _ => rfl
        | 4, h, _ => exact absurd rfl h
        | 5, _, h => exact absurd rfl h
        | 6, _, _ => rfl
        | 7, _, _ => rfl
        | 8, _, _ => rfl
        | n + 9, _, _ => rfl
      show smN (cmSS vb k u (ht, dr, pg, wt, wr, mo, mc, ni, po, dn)).2.2.2.2.1 36 ≤ smN wt 36 + 99
      rw [e]; omega
theorem cmR_u4 {ht pg wr mo : Nat → Nat} {mc : Nat} {o : Option Nat} {v : Int32} (h : cmR ht pg wr mo mc 4 o v = nI 0) : v.toNatClampNeg ≤ 99 := by
  have h' : rfU o v = nI 0 := h
  unfold rfU at h'
  cases o with
  | none =>
    have h2 : (-1 : Int32) = nI 0 := h'
    exact absurd h2 (by decide +kernel)
  | some k =>
    cases q : inR v 100 with
    | none =>
      rw [q] at h'
      have h2 : (-2 : Int32) = nI 0 := h'
      exact absurd h2 (by decide +kernel)
    | some x =>
      obtain ⟨h1, h2⟩ := inR_some (by decide) q
      rw [h2, nI_clamp (by omega)]; omega
/-- the places 87 to 110: what the floods, ranks, levels and routes scribble on -/
def scr (E : gE) (ad : Nat → Nat) (N : Nat) (w : Nat → va_E) (d : Nat) : Prop :=
  bkP N w (d + 87) 1 (RGC E ad (d + 87)) ∧ (∃ (re ce : Nat → Nat) (rc tc : Nat), bkP N w (d + 88) 3 (FLC E ad (d + 88) re ce rc tc)) ∧ (∃ pa : Nat → Nat, bkP N w (d + 91) 2 (UNC E ad (d + 91) pa)) ∧ (∃ ra rk : Nat → Nat, bkP N w (d + 93) 2 (RKC E ad (d + 93) ra rk)) ∧
  bkP N w (d + 95) 1 (SLC E ad (d + 95)) ∧ (∃ wa ke : Nat → Nat, bkP N w (d + 96) 3 (CQC E ad (d + 96) wa ke) ∧ (∀ k, k < 36 → wa k = 0) ∧ ∀ k, k < 36 → ke k < 2 ^ 30) ∧ (∃ lv : Nat → Nat, bkP N w (d + 99) 1 (LVC E ad (d + 99) lv)) ∧
  (∃ pn : Nat, bkP N w (d + 100) 1 (RTC E ad (d + 100) pn)) ∧ (∃ wa ke : Nat → Nat, bkP N w (d + 101) 3 (CQC E ad (d + 101) wa ke) ∧ (∀ k, k < 36 → wa k = 0) ∧ ∀ k, k < 36 → ke k < 2 ^ 30) ∧ (∃ (re ce : Nat → Nat) (rc tc : Nat), bkP N w (d + 104) 3 (FLC E ad (d + 104) re ce rc tc)) ∧ (∃ pa : Nat → Nat, bkP N w (d + 107) 2 (UNC E ad (d + 107) pa)) ∧ (∃ lv : Nat → Nat, bkP N w (d + 109) 1 (LVC E ad (d + 109) lv)) ∧ ∃ pq : Nat → Nat, bkP N w (d + 110) 1 (PRC E ad (d + 110) pq)
theorem scr.mv {E : gE} {ad ad' : Nat → Nat} {N N' d : Nat} {w w' : Nat → va_E} (h : scr E ad N w d) {M : Nat} (hM : d + 111 ≤ M) (hN : M ≤ N') (ha : ∀ p, p < M → ad p = ad' p) (hw : ∀ p, d + 87 ≤ p → p < d + 111 → w' p = w p) : scr E ad' N' w' d := by
  obtain ⟨h1, ⟨re, ce, rc, tc, h2⟩, ⟨pa, h3⟩, ⟨ra, rk, h4⟩, h5, ⟨wa, ke, h6, h6a, h6b⟩, ⟨lv, h7⟩, ⟨pn, h8⟩, ⟨wa2, ke2, h9, h9a, h9b⟩, ⟨re2, ce2, rc2, tc2, h10⟩, ⟨pa2, h11⟩, ⟨lv2, h12⟩, ⟨pq, h13⟩⟩ := h
  exact ⟨RG_mv h1 (M := M) (by omega) hN ha (fun p a b => hw p (by omega) (by omega)), ⟨_, _, _, _, FL_mv h2 (M := M) (by omega) hN ha (fun p a b => hw p (by omega) (by omega))⟩, ⟨_, UN_mv h3 (M := M) (by omega) hN ha (fun p a b => hw p (by omega) (by omega))⟩, ⟨_, _, RK_mv h4 (M := M) (by omega) hN ha (fun p a b => hw p (by omega) (by omega))⟩,
    SL_mv h5 (M := M) (by omega) hN ha (fun p a b => hw p (by omega) (by omega)), ⟨_, _, CQ_mv h6 (M := M) (by omega) hN ha (fun p a b => hw p (by omega) (by omega)), h6a, h6b⟩, ⟨_, LV_mv h7 (M := M) (by omega) hN ha (fun p a b => hw p (by omega) (by omega))⟩, ⟨_, RT_mv h8 (M := M) (by omega) hN ha (fun p a b => hw p (by omega) (by omega))⟩,
    ⟨_, _, CQ_mv h9 (M := M) (by omega) hN ha (fun p a b => hw p (by omega) (by omega)), h9a, h9b⟩, ⟨_, _, _, _, FL_mv h10 (M := M) (by omega) hN ha (fun p a b => hw p (by omega) (by omega))⟩, ⟨_, UN_mv h11 (M := M) (by omega) hN ha (fun p a b => hw p (by omega) (by omega))⟩, ⟨_, LV_mv h12 (M := M) (by omega) hN ha (fun p a b => hw p (by omega) (by omega))⟩, ⟨_, PR_mv h13 (M := M) (by omega) hN ha (fun p a b => hw p (by omega) (by omega))⟩⟩
/-- the parser and its list -/
def prsP (E : gE) (ad : Nat → Nat) (N : Nat) (w : Nat → va_E) (d : Nat) (kk : Nat → Nat) (bf : Nat → Nat) (ln : Nat) : Prop :=
  (∃ (fa : Nat) (rw cl nm : Option Nat), bkP N w (d + 111) 2 (TPC E ad (d + 111) bf ln fa rw cl nm)) ∧ ∃ (md : Int32) (g : Option Nat) (nn : Nat) (lp : Nat → Nat) (C : Nat → Cm), bkP N w (d + 113) 1 (ALC E ad (d + 113) md (evA ad kk g) nn) ∧ lsR E ad N w (d + 130) g kk nn lp C
/-- the class's world without scratch, parser, line -/
def corP (E : gE) (ad : Nat → Nat) (N : Nat) (w : Nat → va_E) (d : Nat) (S : Sh) (pl ct : Nat) (K : Nat → Sh) (sv : Nat) (Z : Sh) (fp dq : Option Nat) (dd : Int32) (dc : Option Nat) : Prop :=
  bkP N w d 1 (DMC E ad d sv fp dq dd dc) ∧ bkP N w (d + 1) 7 (shC E ad (d + 1) S) ∧ bkP N w (d + 8) 7 (shC E ad (d + 8) Z) ∧ (∃ A : Sh, bkP N w (d + 15) 7 (shC E ad (d + 15) A)) ∧ (∃ T : Sh, bkP N w (d + 22) 7 (shC E ad (d + 22) T)) ∧ hsP E ad N w (d + 29) pl ct K
theorem corP.mv {E : gE} {ad ad' : Nat → Nat} {N N' d : Nat} {w w' : Nat → va_E} {S : Sh} {pl ct : Nat} {K : Nat → Sh} {sv : Nat} {Z : Sh} {fp dq : Option Nat} {dd : Int32} {dc : Option Nat} (h : corP E ad N w d S pl ct K sv Z fp dq dd dc) {M : Nat} (hM : d + 115 ≤ M) (hN : M ≤ N') (ha : ∀ p, p < M → ad p = ad' p) (hw : ∀ p, d ≤ p → p < d + 87 → w' p = w p) : corP E ad' N' w' d S pl ct K sv Z fp dq dd dc := by
  obtain ⟨h1, h2, h3, ⟨A, h4⟩, ⟨T, h5⟩, h6⟩ := h
  exact ⟨DM_mv h1 (M := M) (by omega) hN ha (fun p a b => hw p (by omega) (by omega)), SH_mv h2 (M := M) (by omega) hN ha (fun p a b => hw p (by omega) (by omega)), SH_mv h3 (M := M) (by omega) hN ha (fun p a b => hw p (by omega) (by omega)), ⟨A, SH_mv h4 (M := M) (by omega) hN ha (fun p a b => hw p (by omega) (by omega))⟩, ⟨T, SH_mv h5 (M := M) (by omega) hN ha (fun p a b => hw p (by omega) (by omega))⟩, hsP.mv h6 (M := M) (by omega) hN ha (fun p a b => hw p (by omega) (by omega))⟩
