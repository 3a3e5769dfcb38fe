/-! A TEXT IS RUN: the class's world, bounds -/
theorem clsP.exe {E : gE} {ad ad' : Nat → Nat} {N N' d : Nat} {w w' : Nat → va_E} {kk : Nat → Nat} {S S' : Sh} {pl ct pl' ct' : Nat} {K K' : Nat → Sh} {sv sv' : Nat} {Z : Sh} {fp dq fp' dq' : Option Nat} {dd dd' : Int32} {dc dc' : Option Nat} {bf : Nat → Nat} {ln : Nat} {tx : List Nat} (h : clsP E ad N w d kk S pl ct K sv Z fp dq dd dc bf ln tx)
    (hX : exC E ad N w d (d + 130) kk bf ad' N' w') (hd : bkP N' w' d 1 (DMC E ad' d sv' fp' dq' dd' dc')) (hs : bkP N' w' (d + 1) 7 (shC E ad' (d + 1) S')) (hh : hsP E ad' N' w' (d + 29) pl' ct' K') : clsP E ad' N' w' d kk S' pl' ct' K' sv' Z fp' dq' dd' dc' bf 0 tx := by
  obtain ⟨h0, ⟨a1, a2, a3, a4, ⟨T, a5⟩, a6⟩, h2, h3, h4⟩ := h
  obtain ⟨x1, x2, x3, ⟨A, x4⟩, x5, x6⟩ := hX
  have hA : ∀ p, p < N → ad p = ad' p := fun p hp => (x2 p hp).symm
  have hw : ∀ p, (d + 8 ≤ p ∧ p < d + 15) ∨ (d + 22 ≤ p ∧ p < d + 29) ∨ (d + 87 ≤ p ∧ p < d + 111) ∨ (d + 114 ≤ p ∧ p < d + 130) → w' p = w p := fun p hp => x3 p (by omega) (by unfold exF; omega)
  exact ⟨by omega, ⟨hd, hs, SH_mv a3 (M := N) (by omega) x1 hA (fun p a b => hw p (by omega)), ⟨A, x4⟩, ⟨T, SH_mv a5 (M := N) (by omega) x1 hA (fun p a b => hw p (by omega))⟩, hh⟩, h2.mv (M := N) (by omega) x1 hA (fun p a b => hw p (by omega)), ⟨x5, by obtain ⟨md, g, p9, C9, n9, y1, y2⟩ := x6; exact ⟨md, g, n9, p9, C9, y1, y2⟩⟩, h4.mv (M := N) (by omega) x1 hA (fun p a b => hw p (by omega))⟩
theorem exC.low {E : gE} {ad ad' : Nat → Nat} {N N' d : Nat} {w w' : Nat → va_E} {kk bf : Nat → Nat} (hX : exC E ad N w d (d + 130) kk bf ad' N' w') {p : Nat} (h1 : d + 116 ≤ p) (h2 : p < d + 130) : w' p = w p := hX.2.2.1 p h2 (by unfold exF; omega)
theorem md_exe {E : gE} {ad ad' : Nat → Nat} {N N' d : Nat} {w w' : Nat → va_E} {kk bf9 g kp sv bf sd ip sg mk td lv tl : Nat → Nat} {qs qc qw qd co wy : Nat} {de : Int32} {ca ln : Nat} {fa : Option Nat} {sm pa tm : Nat} (h : bkP N w (d + 116) 12 (MDC E ad (d + 116) g kp sv bf sd ip sg mk td lv tl qs qc qw qd co wy de ca ln fa sm pa tm))
    (hX : exC E ad N w d (d + 130) kk bf9 ad' N' w') : bkP N' w' (d + 116) 12 (MDC E ad' (d + 116) g kp sv bf sd ip sg mk td lv tl qs qc qw qd co wy de ca ln fa sm pa tm) :=
  ⟨Nat.le_trans h.1 hX.1, fun k hk => by rw [hX.low (by omega) (by omega), h.2 k hk]; exact MD_eq2 (fun p a b => (hX.2.1 p (by have := h.1; omega)).symm) k hk⟩
theorem rnL_q : ∀ (cs : List Cm) (i : Nat) (S : Sh), shQ S → (∀ c ∈ cs, cmOk c) → (rnL cs i S).1 = none → shQ (rnL cs i S).2 ∧ wS (rnL cs i S).2 ≤ wS S + 99 * cs.length
  | [], i, S, h, _, _ => ⟨h, Nat.le_add_right _ _⟩
  | c :: l, i, S, h, hc, hn => by
    have hco := hc c List.mem_cons_self
    by_cases q : cmRS c S = nI 0
    · have e : rnL (c :: l) i S = rnL l (i + 1) (cmY c S).2 := if_pos q
      rw [e] at hn ⊢
      obtain ⟨i1, i2⟩ := rnL_q l (i + 1) (cmY c S).2 (cmY_q h hco q) (fun x hx => hc x (List.mem_cons_of_mem _ hx)) hn
      refine ⟨i1, ?_⟩
      have hk := cmY_k h hco q
      have hw : wS (cmY c S).2 ≤ wS S + 99 := cmS_w (S := S) hk.1 (fun h4 => cmR_u4 (ht := S.1) (pg := S.2.2.1) (wr := S.2.2.2.2.1) (mo := S.2.2.2.2.2.1) (mc := S.2.2.2.2.2.2.1) (o := c.2.1) (by rw [← h4]; exact q))
      rw [List.length_cons]; omega
    · have e : rnL (c :: l) i S = (some (i, cmRS c S), S) := if_neg q
      rw [e] at hn; cases hn
theorem rnL_r : ∀ (cs : List Cm) (i : Nat) (S : Sh) (j : Nat) (r : Int32), (rnL cs i S).1 = some (j, r) → 0 < rnD r ∧ rnD r < 2 ^ 20
  | [], i, S, j, r, h => by cases h
  | c :: l, i, S, j, r, h => by
    by_cases q : cmRS c S = nI 0
    · have e : rnL (c :: l) i S = rnL l (i + 1) (cmY c S).2 := if_pos q
      rw [e] at h; exact rnL_r l _ _ j r h
    · have e : rnL (c :: l) i S = (some (i, cmRS c S), S) := if_neg q
      rw [e] at h
      have hr := congrArg Prod.snd (Option.some.inj h)
      have hr' : cmRS c S = r := hr
      rw [← hr']
      rcases cmR_cases (ht := S.1) (pg := S.2.2.1) (wr := S.2.2.2.2.1) (mo := S.2.2.2.2.2.1) (mc := S.2.2.2.2.2.2.1) (vb := c.1) (o := c.2.1) (v := c.2.2) with z | z | ⟨n, hn, z, -⟩
      · have z' : cmRS c S = -1 := z
        rw [z', rnD_n.1]; decide
      · have z' : cmRS c S = -2 := z
        rw [z', rnD_n.2]; decide
      · have z' : cmRS c S = nI n := z
        have h0 : 0 < n := by
          rcases Nat.eq_zero_or_pos n with e9 | e9
          · rw [e9] at z'; exact absurd z' q
          · exact e9
        rw [z', rnD_z h0 hn]; omega
