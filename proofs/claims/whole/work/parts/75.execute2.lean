/-! THE MODEL'S TEXTS, whole: one command after another; what is told is carried out -/
theorem ht1_n {ln : Nat} {bf : Nat → Nat} {p a b : Nat} (h : ht1 ln bf p a = true) (hab : b ≠ a) : ht1 ln bf p b = false := by
  have h1 := of_decide_eq_true h
  exact decide_eq_false (fun q => hab (q.2.symm.trans h1.2))
def fr1 (v : Nat) : Nat := (frm v).getD 0 0
def fr2 (v : Nat) : Nat := (frm v).getD 1 0
theorem frm_cut : ∀ v, v < 10 → frm v = fr1 v :: fr2 v :: (frm v).drop 2 := by decide
theorem frm_np : ∀ v, v < 10 → nspc (fr1 v) = true ∧ nspc (fr2 v) = true := by decide
theorem rdF_frm {ln : Nat} {bf : Nat → Nat} {v p : Nat} {t : Tp} (hv : v < 10) : rdF ln bf (frm v) p t = if ht1 ln bf p (fr1 v) = true then (if ht1 ln bf (p + 1) (fr2 v) = true then rdF ln bf ((frm v).drop 2) (p + 1 + 1) t else (p + 1, none)) else (p, none) := by
  conv => lhs; rw [frm_cut v hv]
  rw [rdF_lit (frm_np v hv).1, rdF_lit (frm_np v hv).2]
theorem rdF_ge {ln : Nat} {bf : Nat → Nat} : ∀ (l : List Nat) (p : Nat) (t : Tp), p ≤ (rdF ln bf l p t).1
  | [], p, t => Nat.le_refl _
  | c :: l, p, t => by
    unfold rdF
    split
    · exact Nat.le_refl _
    · exact Nat.le_trans (Nat.le_add_right _ _) (rdF_ge l _ _)
theorem selV_lt {ln : Nat} {bf : Nat → Nat} {p : Nat} : selV ln bf p < 10 := by
  unfold selV
  repeat (split; decide)
  split
  · split <;> decide
  · split
    · split
      · decide
      · split <;> decide
    · decide
theorem sel_is {ln : Nat} {bf : Nat → Nat} {v p : Nat} (hv : v < 10) (h1 : ht1 ln bf p (fr1 v) = true) (h2 : ht1 ln bf (p + 1) (fr2 v) = true) : selV ln bf p = v := by
  rcases (show v = 0 ∨ v = 1 ∨ v = 2 ∨ v = 3 ∨ v = 4 ∨ v = 5 ∨ v = 6 ∨ v = 7 ∨ v = 8 ∨ v = 9 by omega) with rfl | rfl | rfl | rfl | rfl | rfl | rfl | rfl | rfl | rfl
  · have h1 : ht1 ln bf p 104 = true := h1
    have h2 : ht1 ln bf (p + 1) 101 = true := h2
    unfold selV; rw [if_pos h1]
  · have h1 : ht1 ln bf p 112 = true := h1
    have h2 : ht1 ln bf (p + 1) 101 = true := h2
    unfold selV; rw [if_neg (by rw [ht1_n h1 (show 104 ≠ 112 by decide)]; decide), if_neg (by rw [ht1_n h1 (show 102 ≠ 112 by decide)]; decide), if_neg (by rw [ht1_n h1 (show 100 ≠ 112 by decide)]; decide), if_neg (by rw [ht1_n h1 (show 109 ≠ 112 by decide)]; decide), if_neg (by rw [ht1_n h1 (show 110 ≠ 112 by decide)]; decide), if_neg (by rw [ht1_n h1 (show 115 ≠ 112 by decide)]; decide), if_pos h1, if_pos h2]
  · have h1 : ht1 ln bf p 102 = true := h1
    have h2 : ht1 ln bf (p + 1) 114 = true := h2
    unfold selV; rw [if_neg (by rw [ht1_n h1 (show 104 ≠ 102 by decide)]; decide), if_pos h1]
  · have h1 : ht1 ln bf p 100 = true := h1
    have h2 : ht1 ln bf (p + 1) 114 = true := h2
    unfold selV; rw [if_neg (by rw [ht1_n h1 (show 104 ≠ 100 by decide)]; decide), if_neg (by rw [ht1_n h1 (show 102 ≠ 100 by decide)]; decide), if_pos h1]
  · have h1 : ht1 ln bf p 112 = true := h1
    have h2 : ht1 ln bf (p + 1) 111 = true := h2
    unfold selV; rw [if_neg (by rw [ht1_n h1 (show 104 ≠ 112 by decide)]; decide), if_neg (by rw [ht1_n h1 (show 102 ≠ 112 by decide)]; decide), if_neg (by rw [ht1_n h1 (show 100 ≠ 112 by decide)]; decide), if_neg (by rw [ht1_n h1 (show 109 ≠ 112 by decide)]; decide), if_neg (by rw [ht1_n h1 (show 110 ≠ 112 by decide)]; decide), if_neg (by rw [ht1_n h1 (show 115 ≠ 112 by decide)]; decide), if_pos h1, if_neg (by rw [ht1_n h2 (show 101 ≠ 111 by decide)]; decide), if_pos h2]
  · have h1 : ht1 ln bf p 115 = true := h1
    have h2 : ht1 ln bf (p + 1) 101 = true := h2
    unfold selV; rw [if_neg (by rw [ht1_n h1 (show 104 ≠ 115 by decide)]; decide), if_neg (by rw [ht1_n h1 (show 102 ≠ 115 by decide)]; decide), if_neg (by rw [ht1_n h1 (show 100 ≠ 115 by decide)]; decide), if_neg (by rw [ht1_n h1 (show 109 ≠ 115 by decide)]; decide), if_neg (by rw [ht1_n h1 (show 110 ≠ 115 by decide)]; decide), if_pos h1, if_pos h2]
  · have h1 : ht1 ln bf p 109 = true := h1
    have h2 : ht1 ln bf (p + 1) 111 = true := h2
    unfold selV; rw [if_neg (by rw [ht1_n h1 (show 104 ≠ 109 by decide)]; decide), if_neg (by rw [ht1_n h1 (show 102 ≠ 109 by decide)]; decide), if_neg (by rw [ht1_n h1 (show 100 ≠ 109 by decide)]; decide), if_pos h1]
  · have h1 : ht1 ln bf p 115 = true := h1
    have h2 : ht1 ln bf (p + 1) 119 = true := h2
    unfold selV; rw [if_neg (by rw [ht1_n h1 (show 104 ≠ 115 by decide)]; decide), if_neg (by rw [ht1_n h1 (show 102 ≠ 115 by decide)]; decide), if_neg (by rw [ht1_n h1 (show 100 ≠ 115 by decide)]; decide), if_neg (by rw [ht1_n h1 (show 109 ≠ 115 by decide)]; decide), if_neg (by rw [ht1_n h1 (show 110 ≠ 115 by decide)]; decide), if_pos h1, if_neg (by rw [ht1_n h2 (show 101 ≠ 119 by decide)]; decide)]
  · have h1 : ht1 ln bf p 110 = true := h1
    have h2 : ht1 ln bf (p + 1) 105 = true := h2
    unfold selV; rw [if_neg (by rw [ht1_n h1 (show 104 ≠ 110 by decide)]; decide), if_neg (by rw [ht1_n h1 (show 102 ≠ 110 by decide)]; decide), if_neg (by rw [ht1_n h1 (show 100 ≠ 110 by decide)]; decide), if_neg (by rw [ht1_n h1 (show 109 ≠ 110 by decide)]; decide), if_pos h1]
  · have h1 : ht1 ln bf p 112 = true := h1
    have h2 : ht1 ln bf (p + 1) 97 = true := h2
    unfold selV; rw [if_neg (by rw [ht1_n h1 (show 104 ≠ 112 by decide)]; decide), if_neg (by rw [ht1_n h1 (show 102 ≠ 112 by decide)]; decide), if_neg (by rw [ht1_n h1 (show 100 ≠ 112 by decide)]; decide), if_neg (by rw [ht1_n h1 (show 109 ≠ 112 by decide)]; decide), if_neg (by rw [ht1_n h1 (show 110 ≠ 112 by decide)]; decide), if_neg (by rw [ht1_n h1 (show 115 ≠ 112 by decide)]; decide), if_pos h1, if_neg (by rw [ht1_n h2 (show 101 ≠ 97 by decide)]; decide), if_neg (by rw [ht1_n h2 (show 111 ≠ 97 by decide)]; decide)]
theorem sel_first {ln : Nat} {bf : Nat → Nat} {v p : Nat} (hv : v < 10) (h1 : ht1 ln bf p (fr1 v) = true) : fr1 (selV ln bf p) = fr1 v := by
  rcases (show fr1 v = 104 ∨ fr1 v = 102 ∨ fr1 v = 100 ∨ fr1 v = 109 ∨ fr1 v = 110 ∨ fr1 v = 115 ∨ fr1 v = 112 from (show ∀ v, v < 10 → fr1 v = 104 ∨ fr1 v = 102 ∨ fr1 v = 100 ∨ fr1 v = 109 ∨ fr1 v = 110 ∨ fr1 v = 115 ∨ fr1 v = 112 by decide) v hv) with e | e | e | e | e | e | e
  · rw [e] at h1 ⊢
    unfold selV; rw [if_pos h1]
    rfl
  · rw [e] at h1 ⊢
    unfold selV; rw [if_neg (by rw [ht1_n h1 (show 104 ≠ 102 by decide)]; decide), if_pos h1]
    rfl
  · rw [e] at h1 ⊢
    unfold selV; rw [if_neg (by rw [ht1_n h1 (show 104 ≠ 100 by decide)]; decide), if_neg (by rw [ht1_n h1 (show 102 ≠ 100 by decide)]; decide), if_pos h1]
    rfl
  · rw [e] at h1 ⊢
    unfold selV; rw [if_neg (by rw [ht1_n h1 (show 104 ≠ 109 by decide)]; decide), if_neg (by rw [ht1_n h1 (show 102 ≠ 109 by decide)]; decide), if_neg (by rw [ht1_n h1 (show 100 ≠ 109 by decide)]; decide), if_pos h1]
    rfl
  · rw [e] at h1 ⊢
    unfold selV; rw [if_neg (by rw [ht1_n h1 (show 104 ≠ 110 by decide)]; decide), if_neg (by rw [ht1_n h1 (show 102 ≠ 110 by decide)]; decide), if_neg (by rw [ht1_n h1 (show 100 ≠ 110 by decide)]; decide), if_neg (by rw [ht1_n h1 (show 109 ≠ 110 by decide)]; decide), if_pos h1]
    rfl
  · rw [e] at h1 ⊢
    unfold selV; rw [if_neg (by rw [ht1_n h1 (show 104 ≠ 115 by decide)]; decide), if_neg (by rw [ht1_n h1 (show 102 ≠ 115 by decide)]; decide), if_neg (by rw [ht1_n h1 (show 100 ≠ 115 by decide)]; decide), if_neg (by rw [ht1_n h1 (show 109 ≠ 115 by decide)]; decide), if_neg (by rw [ht1_n h1 (show 110 ≠ 115 by decide)]; decide), if_pos h1]
    split <;> rfl
  · rw [e] at h1 ⊢
    unfold selV; rw [if_neg (by rw [ht1_n h1 (show 104 ≠ 112 by decide)]; decide), if_neg (by rw [ht1_n h1 (show 102 ≠ 112 by decide)]; decide), if_neg (by rw [ht1_n h1 (show 100 ≠ 112 by decide)]; decide), if_neg (by rw [ht1_n h1 (show 109 ≠ 112 by decide)]; decide), if_neg (by rw [ht1_n h1 (show 110 ≠ 112 by decide)]; decide), if_neg (by rw [ht1_n h1 (show 115 ≠ 112 by decide)]; decide), if_pos h1]
    split
    · rfl
    · split <;> rfl
theorem rdF_other {ln : Nat} {bf : Nat → Nat} {v p : Nat} {t t2 : Tp} (hv : v < 10) (hne : v ≠ selV ln bf p) : ∃ y, rdF ln bf (frm v) p t = (y, none) ∧ y ≤ (rdF ln bf (frm (selV ln bf p)) p t2).1 := by
  rw [rdF_frm hv]
  by_cases h1 : ht1 ln bf p (fr1 v) = true
  · rw [if_pos h1]
    by_cases h2 : ht1 ln bf (p + 1) (fr2 v) = true
    · exact absurd (sel_is hv h1 h2).symm hne
    · rw [if_neg h2]
      refine ⟨_, rfl, ?_⟩
      rw [rdF_frm selV_lt, if_pos (by rw [sel_first hv h1]; exact h1)]
      split
      · exact Nat.le_trans (Nat.le_succ _) (rdF_ge _ _ _)
      · exact Nat.le_refl _
  · rw [if_neg h1]
    exact ⟨_, rfl, rdF_ge _ _ _⟩
theorem rdC_seln {ln : Nat} {bf : Nat → Nat} {p x : Nat} (hX : rdF ln bf (frm (selV ln bf p)) p F0t = (x, none)) : ∀ (l : List Nat) (fa : Nat), (∀ i ∈ l, i < 10) → fa ≤ x → ∃ fa', rdC ln bf p l fa = (fa', none) ∧ fa ≤ fa' ∧ fa' ≤ x ∧ (selV ln bf p ∈ l → fa' = x)
  | [], fa, hl, hf => ⟨fa, rfl, Nat.le_refl _, hf, fun h => absurd h List.not_mem_nil⟩
  | v :: l, fa, hl, hf => by
    have hv := hl v List.mem_cons_self
    have hl2 : ∀ i ∈ l, i < 10 := fun j hj => hl j (List.mem_cons_of_mem _ hj)
    by_cases q : v = selV ln bf p
    · subst q
      rw [rdC_no hX]
      obtain ⟨fa', h1, h2, h3, h4⟩ := rdC_seln hX l (max fa x) hl2 (by omega)
      exact ⟨fa', h1, by omega, h3, fun _ => by omega⟩
    · obtain ⟨y, h5, h6⟩ := rdF_other (t := F0t) (t2 := F0t) hv q
      rw [hX] at h6
      have h6 : y ≤ x := h6
      rw [rdC_no h5]
      obtain ⟨fa', h1, h2, h3, h4⟩ := rdC_seln hX l (max fa y) hl2 (by omega)
      refine ⟨fa', h1, by omega, h3, fun h => h4 ?_⟩
      rcases List.mem_cons.mp h with z | z
      · exact absurd z.symm q
      · exact z
theorem rdC_sely {ln : Nat} {bf : Nat → Nat} {p x : Nat} {t : Tp} (hX : rdF ln bf (frm (selV ln bf p)) p F0t = (x, some t)) : ∀ (l : List Nat) (fa : Nat), (∀ i ∈ l, i < 10) → fa ≤ x → selV ln bf p ∈ l → ∃ fa', rdC ln bf p l fa = (fa', some (selV ln bf p, x, t)) ∧ fa' ≤ x
  | [], fa, hl, hf, hm => absurd hm List.not_mem_nil
  | v :: l, fa, hl, hf, hm => by
    have hv := hl v List.mem_cons_self
    have hl2 : ∀ i ∈ l, i < 10 := fun j hj => hl j (List.mem_cons_of_mem _ hj)
    by_cases q : v = selV ln bf p
    · subst q
      rw [rdC_yes hX]
      exact ⟨fa, rfl, hf⟩
    · obtain ⟨y, h5, h6⟩ := rdF_other (t := F0t) (t2 := F0t) hv q
      rw [hX] at h6
      have h6 : y ≤ x := h6
      rw [rdC_no h5]
      refine rdC_sely hX l (max fa y) hl2 (by omega) ?_
      rcases List.mem_cons.mp hm with z | z
      · exact absurd z.symm q
      · exact z
theorem rdC_n {ln : Nat} {bf : Nat → Nat} {p x fa : Nat} (hX : rdF ln bf (frm (selV ln bf p)) p F0t = (x, none)) (hf : fa ≤ p) : rdC ln bf p (List.range 10) fa = (x, none) := by
  have hg := rdF_ge (ln := ln) (bf := bf) (frm (selV ln bf p)) p F0t
  rw [hX] at hg
  have hg : p ≤ x := hg
  obtain ⟨fa', h1, -, -, h4⟩ := rdC_seln hX (List.range 10) fa rng_10 (by omega)
  rw [h1, h4 (List.mem_range.mpr selV_lt)]
theorem rdC_y {ln : Nat} {bf : Nat → Nat} {p x fa : Nat} {t : Tp} (hX : rdF ln bf (frm (selV ln bf p)) p F0t = (x, some t)) (hf : fa ≤ p) : ∃ fa', rdC ln bf p (List.range 10) fa = (fa', some (selV ln bf p, x, t)) ∧ fa' ≤ x := by
  have hg := rdF_ge (ln := ln) (bf := bf) (frm (selV ln bf p)) p F0t
  rw [hX] at hg
  have hg : p ≤ x := hg
  exact rdC_sely hX (List.range 10) fa rng_10 (by omega) (List.mem_range.mpr selV_lt)
/-- all that is told -/
def tCs (tl : Nat → Nat) : List Cm → Nat → Prop
  | [], _ => True
  | c :: l, i => (∃ v t, v < 10 ∧ c = cmO v t ∧ tRel tl i v t) ∧ tCs tl l (i + 1)
theorem tRel_keep {tl tl2 : Nat → Nat} {i v : Nat} {t : Tp} (h : tRel tl i v t) (e : ∀ j, j < 4 * i + 4 → tl2 j = tl j) : tRel tl2 i v t := by
  obtain ⟨h1, h2, h3, h4, h5, h6, h7⟩ := h
  refine ⟨by rw [e _ (by omega)]; exact h1, fun q => by rw [e _ (by omega), e _ (by omega)]; exact h2 q, h3, fun q => by rw [e _ (by omega)]; exact h4 q, fun q => by rw [e _ (by omega)]; exact h5 q, h6, fun j hj => by rw [e _ (by omega)]; exact h7 j hj⟩
theorem tCs_keep {tl tl2 : Nat → Nat} : ∀ (l : List Cm) (i : Nat), tCs tl l i → (∀ j, j < 4 * (i + l.length) → tl2 j = tl j) → tCs tl2 l i
  | [], i, _, _ => trivial
  | c :: l, i, ⟨⟨v, t, h1, h2, h3⟩, h4⟩, e => by
    have el : (c :: l).length = l.length + 1 := rfl
    exact ⟨⟨v, t, h1, h2, tRel_keep h3 (fun j hj => e j (by omega))⟩, tCs_keep l (i + 1) h4 (fun j hj => e j (by omega))⟩
theorem tCs_app {tl : Nat → Nat} {c : Cm} : ∀ (l : List Cm) (i : Nat), tCs tl l i → (∃ v t, v < 10 ∧ c = cmO v t ∧ tRel tl (i + l.length) v t) → tCs tl (l ++ [c]) i
  | [], i, _, h => ⟨h, trivial⟩
  | a :: l, i, ⟨h1, h2⟩, h => ⟨h1, tCs_app l (i + 1) h2 (by
    have el : (a :: l).length = l.length + 1 := rfl
    rw [show i + 1 + l.length = i + (a :: l).length by omega]; exact h)⟩
theorem tCs_at {tl : Nat → Nat} : ∀ (l : List Cm) (i j : Nat), tCs tl l i → j < l.length → ∃ v t, v < 10 ∧ l.drop j = cmO v t :: l.drop (j + 1) ∧ tRel tl (i + j) v t
  | [], i, j, _, h => absurd h (Nat.not_lt_zero _)
  | a :: l, i, 0, ⟨⟨v, t, h1, h2, h3⟩, _⟩, _ => ⟨v, t, h1, by rw [h2]; rfl, h3⟩
  | a :: l, i, j + 1, ⟨_, h2⟩, h => by
    obtain ⟨v, t, g1, g2, g3⟩ := tCs_at l (i + 1) j h2 (by have el : (a :: l).length = l.length + 1 := rfl; omega)
    exact ⟨v, t, g1, g2, by rw [show i + (j + 1) = i + 1 + j by omega]; exact g3⟩
theorem rnD_z {z : Nat} (h0 : 0 < z) (h7 : z < 7) : rnD (nI z) = z := by
  rcases (show z = 1 ∨ z = 2 ∨ z = 3 ∨ z = 4 ∨ z = 5 ∨ z = 6 by omega) with rfl | rfl | rfl | rfl | rfl | rfl <;> decide +kernel
theorem rnD_n : rnD (-1) = 8 ∧ rnD (-2) = 8 := by decide +kernel
theorem nz_0 {z : Nat} (h0 : 0 < z) (h7 : z < 7) : nI z ≠ nI 0 := fun q => by
  have := (nI_eq (by omega) (by decide)).mp q
  omega
theorem rdP_len6 {ln : Nat} {bf : Nat → Nat} : ∀ (k x0 fa : Nat), (rdP ln bf k x0 fa).1 = none → x0 + 6 * (rdP ln bf k x0 fa).2.length ≤ ln + 1
  | 0, x0, fa, h => by cases h
  | k + 1, x0, fa, h => by
    rcases hC : rdC ln bf x0 (List.range 10) fa with ⟨fb, _ | ⟨v, x, t⟩⟩
    · rw [rdP_no hC] at h; cases h
    · obtain ⟨h1, h2, h3⟩ := rdC_some _ _ _ _ _ _ rng_10 hC
      rw [rdP_yes hC] at h ⊢
      by_cases q : ln ≤ x
      · rw [if_pos q]; show x0 + 6 * 1 ≤ _; omega
      · rw [if_neg q] at h ⊢
        by_cases z : bf x = 59
        · rw [if_pos z] at h ⊢
          have ih := rdP_len6 k (x + 1) fb h
          show x0 + 6 * ((rdP ln bf k (x + 1) fb).2.length + 1) ≤ _
          omega
        · rw [if_neg z] at h; cases h
theorem rdP_len {ln : Nat} {bf : Nat → Nat} (hln : ln ≤ 60) (h : (rdP ln bf 60 0 0).1 = none) : (rdP ln bf 60 0 0).2.length ≤ 10 := by
  have := rdP_len6 60 0 0 h
  omega
set_option maxHeartbeats 4000000 in
set_option maxRecDepth 100000 in
/-- a text -/
theorem mX13_isText (l : Launch) {E : gE} {ad : Nat → Nat} {N : Nat} {w : Nat → va_E} (kk : Nat → Nat) (hzv : gHv E kk) (b : Nat) (g kp sv bf sd ip sg mk td lv tl : Nat → Nat) (qs qc qw qd co wy : Nat) (de : Int32) (ca ln : Nat) (fa : Option Nat) (sm pa tm : Nat)  (hb_m : bkP N w b 12 (MDC E ad b g kp sv bf sd ip sg mk td lv tl qs qc qw qd co wy de ca ln fa sm pa tm)) (hln : ln ≤ 60) (hip : ∀ j, j < 60 → ip j < 65536) : gMi l yX13_isText (lw_ws yX13_isText cX13_isText 1 (some .boolean)) ({ frames := 6, cells := 0, slots := 0, locals := 129 } : Room) E ad N w [.ref (ad (b))] (fun r w' => (((rdP ln ip 60 0 0).1 = none ∧ r = nI 1 ∧ ∃ (tl' : Nat → Nat) (pa' : Nat), tCs tl' (rdP ln ip 60 0 0).2 0 ∧ bkP N w' b 12 (MDC E ad b g kp sv bf sd ip sg mk td lv tl' qs qc qw qd co wy de ca ln fa sm pa' ((rdP ln ip 60 0 0).2.length))) ∨ (∃ (q : Nat) (tl' : Nat → Nat) (tm' : Nat), (rdP ln ip 60 0 0).1 = some q ∧ r = nI 0 ∧ bkP N w' b 12 (MDC E ad b g kp sv bf sd ip sg mk td lv tl' qs qc qw qd co wy de ca ln fa sm q tm'))) ∧ gFr (gIn b 12) w w') 0 0 := by
  refine Met.ofW (cc := cX13_isText) (maxL := 1) (ret := (some .boolean)) (by decide) rfl ?_
  intro p e s m args below meth cd s₁ B hml hv
  obtain ⟨rfl, hI, hP⟩ := hv
  obtain ⟨S, hr, hlocks⟩ := gPre (ws := []) B hml (C := RX13) rfl
  have hx := S.1
  have hb := S.2.1
  have hzk := hzv s s.heap hI.2.2.2.2
  have hS : va_S (gA E) s.heap s.heap [] := va_S.rf
  have hfr : gFr (gIn b 12) w w := gFr.rf
  have hl := lv_entry ([.ref (ad (b))]) (n := 1) (Nat.le_of_ble_eq_true rfl)
  rw [lg_entry_eq]
  generalize (lg_sl ([.ref (ad (b))]) ++ List.replicate (1 - (lg_sl ([.ref (ad (b))])).length) Slot.unset).toArray = ls at hl ⊢
  have hl : lv_has ls 1 [(0, .ref (ad (b)))] := hl
  refine lv_aload_n hx hb dX13_isText_0 rfl (lv_at hl 0 rfl) ?_
  refine g_iconst S 0 dX13_isText_1 (by decide +kernel) ?_
  refine g_put S hI hP hS uX13 rfl tyX13 tyX13_ok nmX13 (fs := _) (hb_m.lt 0 (by decide)) (hb_m.2 0 (by decide)) 21 (by decide) q1808 rfl rfl (v := .int (nI (0))) rfl rfl (Nat.le_of_ble_eq_true rfl) dX13_isText_2 (fun H locs hP hS => ?_)
  have hP : gP E ad N (va_up _ (b) (MDC E ad b g kp sv bf sd ip sg mk td lv tl qs qc qw qd co wy de ca ln fa sm 0 tm 0)) H := hP
  have hb1 : bkP N (va_up _ (b) (MDC E ad b g kp sv bf sd ip sg mk td lv tl qs qc qw qd co wy de ca ln fa sm 0 tm 0)) b 12 (MDC E ad b g kp sv bf sd ip sg mk td lv tl qs qc qw qd co wy de ca ln fa sm 0 tm) := MD_setO hb_m _ _ _ _ _ _ _ _ _ _ _ _ _
  have hfr := hfr.up (p := b) (e := MDC E ad b g kp sv bf sd ip sg mk td lv tl qs qc qw qd co wy de ca ln fa sm 0 tm 0) (by show _ ∧ _; omega)
  refine lv_aload_n hx hb dX13_isText_5 rfl (lv_at hl 0 rfl) ?_
  refine g_iconst S 0 dX13_isText_6 (by decide +kernel) ?_
  refine g_put S hI hP hS uX13 rfl tyX13 tyX13_ok nmX13 (fs := _) (hb1.lt 0 (by decide)) (hb1.2 0 (by decide)) 23 (by decide) q1810 rfl rfl (v := .int (nI (0))) rfl rfl (Nat.le_of_ble_eq_true rfl) dX13_isText_7 (fun H locs hP hS => ?_)
  have hP : gP E ad N (va_up _ (b) (MDC E ad b g kp sv bf sd ip sg mk td lv tl qs qc qw qd co wy de ca ln fa sm 0 0 0)) H := hP
  have hb2 : bkP N (va_up _ (b) (MDC E ad b g kp sv bf sd ip sg mk td lv tl qs qc qw qd co wy de ca ln fa sm 0 0 0)) b 12 (MDC E ad b g kp sv bf sd ip sg mk td lv tl qs qc qw qd co wy de ca ln fa sm 0 0) := MD_setO hb1 _ _ _ _ _ _ _ _ _ _ _ _ _
  have hfr := hfr.up (p := b) (e := MDC E ad b g kp sv bf sd ip sg mk td lv tl qs qc qw qd co wy de ca ln fa sm 0 0 0) (by show _ ∧ _; omega)
  have loop3 : ∀ (fz : Nat) (kf : Nat) (x0 : Nat) (fx : Nat) (i : Nat) (tl1 : Nat → Nat) (pre : List Cm), 61 - i < fz → (kf + i = 60 ∧ 6 * i ≤ x0 ∧ x0 ≤ ln ∧ fx ≤ x0) → ((rdP ln ip 60 0 0).1 = (rdP ln ip kf x0 fx).1) → ((rdP ln ip 60 0 0).2 = pre ++ (rdP ln ip kf x0 fx).2) → (pre.length = i) → (tCs tl1 pre 0) → ∀ (w1 : Nat → va_E) (H : Heap) (locs : List Loc), gP E ad N w1 H → va_S (gA E) s.heap H locs → bkP N w1 b 12 (MDC E ad b g kp sv bf sd ip sg mk td lv tl1 qs qc qw qd co wy de ca ln fa sm x0 i) → gFr (gIn b 12) w w1 → ∀ (ls : Array Slot), lv_has ls 1 [(0, .ref (ad (b)))] → W p l e (headSpec (lw_ws yX13_isText cX13_isText 1 (some .boolean)) ({ frames := 6, cells := 0, slots := 0, locals := 129 } : Room)).room s m ([.ref (ad (b))] : List Value).toArray below meth cd H locs 0 0 (MQ below (va_Qi (fun r w' => (((rdP ln ip 60 0 0).1 = none ∧ r = nI 1 ∧ ∃ (tl' : Nat → Nat) (pa' : Nat), tCs tl' (rdP ln ip 60 0 0).2 0 ∧ bkP N w' b 12 (MDC E ad b g kp sv bf sd ip sg mk td lv tl' qs qc qw qd co wy de ca ln fa sm pa' ((rdP ln ip 60 0 0).2.length))) ∨ (∃ (q : Nat) (tl' : Nat → Nat) (tm' : Nat), (rdP ln ip 60 0 0).1 = some q ∧ r = nI 0 ∧ bkP N w' b 12 (MDC E ad b g kp sv bf sd ip sg mk td lv tl' qs qc qw qd co wy de ca ln fa sm q tm'))) ∧ gFr (gIn b 12) w w') (gB E ad N) (gA E)) ([.ref (ad (b))] : List Value).toArray s 0 0 (gA E)) (F0 m 10 ls []) := by
    intro fz
    induction fz with
    | zero => intro kf x0 fx i tl1 pre hmeas; omega
    | succ fz ih_loop3 =>
      intro kf x0 fx i tl1 pre hmeas hki hp1 hp2 hpl hpt w1 H locs hP hS hb4 hfr ls hl
      obtain ⟨hki1, hki2, hki3, hki4⟩ := hki
      obtain ⟨k2, hk2⟩ : ∃ k2, kf = k2 + 1 := ⟨kf - 1, by omega⟩
      subst hk2
      refine lv_aload_n hx hb dX13_isText_10 rfl (lv_at hl 0 rfl) ?_
      refine g_afi (g_runV S hI hP hS (k := 0) (As := []) (rest := []) (mX13_commandHere l kk hzv b g kp sv bf sd ip sg mk td lv tl1 qs qc qw qd co wy de ca ln fa sm x0 i hb4 (by omega) hln hip (by omega)) q2148 q2150 q71 q100 q2151 rfl rfl (by decide +kernel) ⟨Nat.le_of_ble_eq_true rfl, Nat.le_of_ble_eq_true rfl⟩ rfl (hb4.lt 0 (by decide)) (hb4.2 0 (by decide)) rfl hl.1 rfl (Nat.le_of_ble_eq_true rfl) ⟨(Nat.le_of_ble_eq_true rfl), (Nat.le_of_ble_eq_true rfl)⟩ dX13_isText_11) hS (fun rz w1 H locs hq hP hS => ?_)
      obtain ⟨hq9, hf9⟩ := hq
      have hfr := hfr.trans hf9 (fun q hq => hq)
      rcases hq9 with ⟨x, t, tl9, hF, hrl, hke, hr9, hb9⟩ | ⟨x, tl9, hF, hke, hr9, hb9⟩
      · rw [hr9]
        obtain ⟨fa9, hC, hfa9⟩ := rdC_y hF hki4
        obtain ⟨hv9, hx5, hxl⟩ := rdC_some _ _ _ _ _ _ rng_10 hC
        rw [rdP_yes hC] at hp1 hp2
        have hcs : tCs tl9 (pre ++ [cmO (selV ln ip x0) t]) 0 := tCs_app _ _ (tCs_keep _ _ hpt (fun j hj => hke j (by omega))) ⟨_, _, hv9, rfl, by rw [hpl, Nat.zero_add]; exact hrl⟩
        have hll : (pre ++ [cmO (selV ln ip x0) t] : List Cm).length = i + 1 := by rw [List.length_append, hpl]; rfl
        refine g_ifne S (a := 1) (by omega) (tgt := 19) dX13_isText_14 (by decide) (fun hz => ?_) (fun hz => ?_)
        · refine lv_aload_n hx hb dX13_isText_19 rfl (lv_at hl 0 rfl) ?_
          refine lv_dup hx hb dX13_isText_20 rfl ?_
          refine g_get S hI hP uX13 rfl (fs := _) (hb9.lt 0 (by decide)) (hb9.2 0 (by decide)) 23 (by decide) q1810 rfl (v := .int (nI (i))) rfl dX13_isText_21 ?_
          refine g_iconst S 1 dX13_isText_24 (by decide +kernel) ?_
          refine g_iadd S dX13_isText_25 ?_
          refine g_put S hI hP hS uX13 rfl tyX13 tyX13_ok nmX13 (fs := _) (hb9.lt 0 (by decide)) (hb9.2 0 (by decide)) 23 (by decide) q1810 rfl rfl (v := .int (nI (i + 1))) rfl rfl (Nat.le_of_ble_eq_true rfl) dX13_isText_26 (fun H locs hP hS => ?_)
          have hP : gP E ad N (va_up _ (b) (MDC E ad b g kp sv bf sd ip sg mk td lv tl9 qs qc qw qd co wy de ca ln fa sm x (i + 1) 0)) H := hP
          have hb5 : bkP N (va_up _ (b) (MDC E ad b g kp sv bf sd ip sg mk td lv tl9 qs qc qw qd co wy de ca ln fa sm x (i + 1) 0)) b 12 (MDC E ad b g kp sv bf sd ip sg mk td lv tl9 qs qc qw qd co wy de ca ln fa sm x (i + 1)) := MD_setO hb9 _ _ _ _ _ _ _ _ _ _ _ _ _
          have hfr := hfr.up (p := b) (e := MDC E ad b g kp sv bf sd ip sg mk td lv tl9 qs qc qw qd co wy de ca ln fa sm x (i + 1) 0) (by show _ ∧ _; omega)
          refine lv_aload_n hx hb dX13_isText_29 rfl (lv_at hl 0 rfl) ?_
          refine g_bipush S 59 dX13_isText_30 (by decide +kernel) ?_
          refine g_afi (g_runV S hI hP hS (k := 1) (As := [.int (nI (59))]) (rest := []) (mX13_skips l b g kp sv bf sd ip sg mk td lv tl9 qs qc qw qd co wy de ca ln fa sm x (i + 1) 59 hb5 (by omega) hln hip (by decide)) q2152 q2154 q72 q100 q2155 rfl rfl (by decide +kernel) ⟨Nat.le_of_ble_eq_true rfl, Nat.le_of_ble_eq_true rfl⟩ rfl (hb5.lt 0 (by decide)) (hb5.2 0 (by decide)) rfl hl.1 rfl (Nat.le_of_ble_eq_true rfl) ⟨(Nat.le_of_ble_eq_true rfl), (Nat.le_of_ble_eq_true rfl)⟩ dX13_isText_32) hS (fun rz w1 H locs hq hP hS => ?_)
          obtain ⟨hr8, hb6, hf7⟩ := hq
          rw [hr8]
          have hfr := hfr.trans hf7 (fun q hq => by (try simp only [gIn] at hq ⊢); (try dsimp only at hq ⊢); omega)
          refine g_bne S (b := ht1 ln ip x 59) (tgt := 10) dX13_isText_35 (by decide) (fun h59 => ?_) (fun h59 => ?_)
          · rw [if_pos h59] at hb6
            (try rw [if_pos h59] at hP)
            (try rw [if_pos h59] at hfr)
            obtain ⟨hxl2, hx59⟩ := of_decide_eq_true h59
            rw [if_neg (show ¬ ln ≤ x by omega), if_pos hx59] at hp1 hp2
            exact ih_loop3 (k2) (x + 1) (fa9) (i + 1) (tl9) (pre ++ [cmO (selV ln ip x0) t]) (by omega) (⟨by omega, by omega, by omega, by omega⟩) (hp1) (by rw [hp2]; show pre ++ (_ :: _) = _; rw [List.append_assoc]; rfl) (hll) (hcs) _ _ _ hP hS hb6 hfr ls (lv_sub hl [0] rfl)
          · rw [if_neg (show ¬ ht1 ln ip x 59 = true by rw [h59]; decide)] at hb6
            (try rw [if_neg (show ¬ ht1 ln ip x 59 = true by rw [h59]; decide)] at hP)
            (try rw [if_neg (show ¬ ht1 ln ip x 59 = true by rw [h59]; decide)] at hfr)
            have h59 := of_decide_eq_false h59
            refine lv_aload_n hx hb dX13_isText_38 rfl (lv_at hl 0 rfl) ?_
            refine g_get S hI hP uX13 rfl (fs := _) (hb6.lt 0 (by decide)) (hb6.2 0 (by decide)) 21 (by decide) q1808 rfl (v := .int (nI (x))) rfl dX13_isText_39 ?_
            refine lv_aload_n hx hb dX13_isText_42 rfl (lv_at hl 0 rfl) ?_
            refine g_get S hI hP uX13 rfl (fs := _) (hb6.lt 0 (by decide)) (hb6.2 0 (by decide)) 14 (by decide) q1801 rfl (v := .int (nI (ln))) rfl dX13_isText_43 ?_
            refine g_ne S (a := x) (b := ln) (by omega) (by omega) (tgt := 53) dX13_isText_46 (by decide) (fun heq => ?_) (fun heq => ?_)
            · rw [if_neg (show ¬ ln ≤ x by omega), if_neg (show ¬ ip x = 59 from fun q => h59 ⟨by omega, q⟩)] at hp1
              refine g_iconst S 0 dX13_isText_53 (by decide +kernel) ?_
              exact g_zret S hr hlocks (Or.inl nI_0) hP hS (⟨Or.inr ⟨x, tl9, i + 1, hp1, rfl, hb6⟩, hfr⟩) (fun _ _ => rfl) (Nat.le_of_ble_eq_true rfl) (Nat.le_of_ble_eq_true rfl) dX13_isText_54
            · rw [if_pos (show ln ≤ x by omega)] at hp1 hp2
              refine g_iconst S 1 dX13_isText_49 (by decide +kernel) ?_
              refine lv_goto (tgt := 54) hx hb dX13_isText_50 (by decide) ?_
              exact g_zret S hr hlocks (Or.inr (by decide +kernel)) hP hS (⟨Or.inl ⟨hp1, rfl, tl9, x, by rw [hp2]; exact hcs, by rw [hp2, hll]; exact hb6⟩, hfr⟩) (fun _ _ => rfl) (Nat.le_of_ble_eq_true rfl) (Nat.le_of_ble_eq_true rfl) dX13_isText_54
        · omega
      · rw [hr9]
        rw [rdP_no (rdC_n hF hki4)] at hp1
        refine g_ifne S (a := 0) (by omega) (tgt := 19) dX13_isText_14 (by decide) (fun hz => ?_) (fun hz => ?_)
        · omega
        · refine g_iconst S 0 dX13_isText_17 (by decide +kernel) ?_
          exact g_zret S hr hlocks (Or.inl nI_0) hP hS (⟨Or.inr ⟨x, tl9, i, hp1, rfl, hb9⟩, hfr⟩) (fun _ _ => rfl) (Nat.le_of_ble_eq_true rfl) (Nat.le_of_ble_eq_true rfl) dX13_isText_18
  exact loop3 (61 - (0) + 1) (60) (0) (0) (0) (tl) ([]) (Nat.lt_succ_self _) (⟨rfl, by omega, by omega, by omega⟩) (rfl) (rfl) (rfl) (trivial) _ _ _ hP hS hb2 hfr ls (lv_sub hl [0] rfl)
set_option maxHeartbeats 4000000 in
set_option maxRecDepth 100000 in
/-- what is told is carried out -/
theorem mX13_carries (l : Launch) {E : gE} {ad : Nat → Nat} {N : Nat} {w : Nat → va_E} (b : Nat) (g kp sv bf sd ip sg mk td lv tl : Nat → Nat) (qs qc qw qd co wy : Nat) (de : Int32) (ca ln : Nat) (fa : Option Nat) (sm pa tm : Nat) (ht dr pg wt wr mo : Nat → Nat) (mc ni po dn : Nat) (i v : Nat) (t : Tp) (hb_m : bkP N w b 12 (MDC E ad b g kp sv bf sd ip sg mk td lv tl qs qc qw qd co wy de ca ln fa sm pa tm)) (hR : mRg g ht pg wt wr mo mc ni po dn) (hht : ∀ k, k < 36 → ht k ≤ 99) (hpg : ∀ k, k < 36 → pg k ≤ 1) (hwr : ∀ k, k < 36 → wr k ≤ 3) (hm : mc ≤ 4) (hmo : ∀ k, k < mc → mo k < 36) (hqw : qw ≤ 1) (hqc : qc ≤ 8) (hv : v < 10) (hi : i ≤ 20) (hwy : wy < 8) (hrel : tRel tl i v t) : gMi l yX13_carries (lw_ws yX13_carries cX13_carries 4 (some .int)) ({ frames := 7, cells := 0, slots := 0, locals := 158 } : Room) E ad N w [.ref (ad (b)), .int (nI (4 * i))] (fun r w' => ((cmR ht pg wr mo mc v (cellV (oI t.1) (oI t.2.1)) (oI t.2.2) = nI 0 ∧ ∃ (g' mk' sd' : Nat → Nat) (k u qd' : Nat), cmK v (cellV (oI t.1) (oI t.2.1)) (oI t.2.2) k u mc ∧ mRS g' (cmS v k u ht dr pg wt wr mo mc ni po dn).2 ∧ bkP N w' b 12 (MDC E ad b g' (if qw = 0 then kpK kp qc g else kp) sv bf sd' ip sg mk' td lv tl qs (if qw = 0 then kpC qc else qc) qw qd' 0 wy de ca ln fa sm pa tm)) ∨ (¬ cmR ht pg wr mo mc v (cellV (oI t.1) (oI t.2.1)) (oI t.2.2) = nI 0 ∧ ∃ co' qd' wy' ca' : Nat, ∃ de' : Int32, 0 < co' ∧ co' < 4 ∧ qd' ≤ 1 ∧ wy' < 8 ∧ rnD (cmR ht pg wr mo mc v (cellV (oI t.1) (oI t.2.1)) (oI t.2.2)) = (if qd' = 1 then wy' else 8) ∧ r = nI 0 ∧ bkP N w' b 12 (MDC E ad b g kp sv bf sd ip sg mk td lv tl qs qc qw qd' co' wy' de' ca' ln fa sm pa tm))) ∧ gFr (gIn b 12) w w') 0 0 := by
  refine Met.ofW (cc := cX13_carries) (maxL := 4) (ret := (some .int)) (by decide) rfl ?_
  intro p e s m args below meth cd s₁ B hml hv
  obtain ⟨rfl, hI, hP⟩ := hv
  obtain ⟨S, hr, hlocks⟩ := gPre (ws := []) B hml (C := RX13) rfl
  have hx := S.1
  have hb := S.2.1
  have hS : va_S (gA E) s.heap s.heap [] := va_S.rf
  have hfr : gFr (gIn b 12) w w := gFr.rf
  have hl := lv_entry ([.ref (ad (b)), .int (nI (4 * i))]) (n := 4) (Nat.le_of_ble_eq_true rfl)
  rw [lg_entry_eq]
  generalize (lg_sl ([.ref (ad (b)), .int (nI (4 * i))]) ++ List.replicate (4 - (lg_sl ([.ref (ad (b)), .int (nI (4 * i))])).length) Slot.unset).toArray = ls at hl ⊢
  have hl : lv_has ls 4 [(0, .ref (ad (b))), (1, .int (nI (4 * i)))] := hl
  obtain ⟨t1, t2, t3⟩ := t
  obtain ⟨h1, h2, h3, h4, h5, h6, h7⟩ := hrel
  have h2 : v = 0 ∨ v = 1 ∨ v = 2 ∨ v = 4 ∨ v = 6 ∨ v = 9 → t1 = some (tl (4 * i + 1)) ∧ t2 = some (tl (4 * i + 2)) := h2
  have h3 : v = 3 ∨ v = 5 ∨ v = 7 ∨ v = 8 → t1 = none ∧ t2 = none := h3
  have h4 : v = 0 ∨ v = 4 → t3 = some (tl (4 * i + 3)) := h4
  have h5 : v = 7 → t3 = some (tl (4 * i + 1)) := h5
  have h6 : v = 1 ∨ v = 2 ∨ v = 3 ∨ v = 5 ∨ v = 6 ∨ v = 8 ∨ v = 9 → t3 = none := h6
  refine lv_aload_n hx hb dX13_carries_0 rfl (lv_at hl 0 rfl) ?_
  refine g_get S hI hP uX13 rfl (fs := _) (hb_m.lt 0 (by decide)) (hb_m.2 0 (by decide)) 22 (by decide) q1809 rfl (v := .ref (ad (b + 11))) rfl dX13_carries_1 ?_
  refine lv_iload_n hx hb dX13_carries_4 rfl (lv_at hl 1 rfl) ?_
  refine g_iconst S 1 dX13_carries_5 (by decide +kernel) ?_
  refine g_iadd S dX13_carries_6 ?_
  refine g_iald S hI hP (f := fun j => nI (tl j)) (hb_m.lt 11 (by decide)) (hb_m.2 11 (by decide)) (4 * i + 1) (by omega) (by decide) dX13_carries_7 ?_
  refine lv_istore_n (lv' := [(2, .int (nI (tl (4 * i + 1)))), (0, .ref (ad (b))), (1, .int (nI (4 * i)))]) hx hb dX13_carries_8 rfl hl (by decide) rfl (fun ls hl => ?_)
  refine lv_aload_n hx hb dX13_carries_9 rfl (lv_at hl 1 rfl) ?_
  refine g_get S hI hP uX13 rfl (fs := _) (hb_m.lt 0 (by decide)) (hb_m.2 0 (by decide)) 22 (by decide) q1809 rfl (v := .ref (ad (b + 11))) rfl dX13_carries_10 ?_
  refine lv_iload_n hx hb dX13_carries_13 rfl (lv_at hl 2 rfl) ?_
  refine g_iconst S 2 dX13_carries_14 (by decide +kernel) ?_
  refine g_iadd S dX13_carries_15 ?_
  refine g_iald S hI hP (f := fun j => nI (tl j)) (hb_m.lt 11 (by decide)) (hb_m.2 11 (by decide)) (4 * i + 2) (by omega) (by decide) dX13_carries_16 ?_
  refine lv_istore_n (lv' := [(3, .int (nI (tl (4 * i + 2)))), (2, .int (nI (tl (4 * i + 1)))), (0, .ref (ad (b))), (1, .int (nI (4 * i)))]) hx hb dX13_carries_17 rfl hl (by decide) rfl (fun ls hl => ?_)
  refine lv_aload_n hx hb dX13_carries_18 rfl (lv_at hl 2 rfl) ?_
  refine g_get S hI hP uX13 rfl (fs := _) (hb_m.lt 0 (by decide)) (hb_m.2 0 (by decide)) 22 (by decide) q1809 rfl (v := .ref (ad (b + 11))) rfl dX13_carries_19 ?_
  refine lv_iload_n hx hb dX13_carries_22 rfl (lv_at hl 3 rfl) ?_
  refine g_iald S hI hP (f := fun j => nI (tl j)) (hb_m.lt 11 (by decide)) (hb_m.2 11 (by decide)) (4 * i) (by omega) (by decide) dX13_carries_23 ?_
  rw [h1]
  rcases (show v = 0 ∨ v = 1 ∨ v = 2 ∨ v = 3 ∨ v = 4 ∨ v = 5 ∨ v = 6 ∨ v = 7 ∨ v = 8 ∨ v = 9 by omega) with rfl | rfl | rfl | rfl | rfl | rfl | rfl | rfl | rfl | rfl
  · obtain ⟨rfl, rfl⟩ := h2 (by decide)
    obtain rfl := h4 (by decide)
    refine g_tabIn S (a := 0) (by decide) dX13_carries_24 (by decide) (by decide) rfl (tgt := 76) (by decide) ?_
    refine lv_aload_n hx hb dX13_carries_76 rfl (lv_at hl 2 rfl) ?_
    refine lv_iload_n hx hb dX13_carries_77 rfl (lv_at hl 1 rfl) ?_
    refine lv_iload_n hx hb dX13_carries_78 rfl (lv_at hl 0 rfl) ?_
    refine lv_aload_n hx hb dX13_carries_79 rfl (lv_at hl 2 rfl) ?_
    refine g_get S hI hP uX13 rfl (fs := _) (hb_m.lt 0 (by decide)) (hb_m.2 0 (by decide)) 22 (by decide) q1809 rfl (v := .ref (ad (b + 11))) rfl dX13_carries_80 ?_
    refine lv_iload_n hx hb dX13_carries_83 rfl (lv_at hl 3 rfl) ?_
    refine g_iconst S 3 dX13_carries_84 (by decide +kernel) ?_
    refine g_iadd S dX13_carries_85 ?_
    refine g_iald S hI hP (f := fun j => nI (tl j)) (hb_m.lt 11 (by decide)) (hb_m.2 11 (by decide)) (4 * i + 3) (by omega) (by decide) dX13_carries_86 ?_
    refine g_afi (g_runV S hI hP hS (k := 3) (As := [.int (nI (tl (4 * i + 1))), .int (nI (tl (4 * i + 2))), .int (nI (tl (4 * i + 3)))]) (rest := []) (mX13_setHeight l b g kp sv bf sd ip sg mk td lv tl qs qc qw qd co wy de ca ln fa sm pa tm ht dr pg wt wr mo mc ni po dn (nI (tl (4 * i + 1))) (nI (tl (4 * i + 2))) (nI (tl (4 * i + 3))) hb_m hR hht hpg hwr hm hmo hqw hqc) q2188 q1865 q1866 q100 q1867 rfl rfl (by decide +kernel) ⟨Nat.le_of_ble_eq_true rfl, Nat.le_of_ble_eq_true rfl⟩ rfl (hb_m.lt 0 (by decide)) (hb_m.2 0 (by decide)) rfl hl.1 rfl (Nat.le_of_ble_eq_true rfl) ⟨(Nat.le_of_ble_eq_true rfl), (Nat.le_of_ble_eq_true rfl)⟩ dX13_carries_87) hS (fun rz w1 H locs hq hP hS => ?_)
    obtain ⟨hq9, hf9⟩ := hq
    have hfr := hfr.trans hf9 (fun q hq => hq)
    rcases hq9 with ⟨e0, g9, mk9, sd9, k9, u9, qd9, hck9, hr9, hR9, hb9⟩ | ⟨e0, hr9, hb9⟩ | ⟨e0, hr9, hb9⟩ | ⟨z, hz0, hz7, e0, hr9, hb9⟩
    · exact g_iret S hr hlocks hP hS (⟨Or.inl ⟨e0, g9, mk9, sd9, k9, u9, qd9, hck9, hR9, hb9⟩, hfr⟩) (fun _ _ => rfl) (Nat.le_of_ble_eq_true rfl) (Nat.le_of_ble_eq_true rfl) dX13_carries_90
    · exact g_iret S hr hlocks hP hS (⟨Or.inr ⟨fun q => absurd (e0.symm.trans q) (by decide +kernel), _, 0, wy, _, _, by decide, by decide, by decide, hwy, (congrArg rnD e0).trans rnD_n.1, hr9, hb9⟩, hfr⟩) (fun _ _ => rfl) (Nat.le_of_ble_eq_true rfl) (Nat.le_of_ble_eq_true rfl) dX13_carries_90
    · exact g_iret S hr hlocks hP hS (⟨Or.inr ⟨fun q => absurd (e0.symm.trans q) (by decide +kernel), _, 0, wy, _, _, by decide, by decide, by decide, hwy, (congrArg rnD e0).trans rnD_n.2, hr9, hb9⟩, hfr⟩) (fun _ _ => rfl) (Nat.le_of_ble_eq_true rfl) (Nat.le_of_ble_eq_true rfl) dX13_carries_90
    · exact g_iret S hr hlocks hP hS (⟨Or.inr ⟨fun q => nz_0 hz0 hz7 (e0.symm.trans q), _, 1, z, _, _, by decide, by decide, by decide, by omega, (congrArg rnD e0).trans (rnD_z hz0 hz7), hr9, hb9⟩, hfr⟩) (fun _ _ => rfl) (Nat.le_of_ble_eq_true rfl) (Nat.le_of_ble_eq_true rfl) dX13_carries_90
  · obtain ⟨rfl, rfl⟩ := h2 (by decide)
    obtain rfl := h6 (by decide)
    refine g_tabIn S (a := 1) (by decide) dX13_carries_24 (by decide) (by decide) rfl (tgt := 91) (by decide) ?_
    refine lv_aload_n hx hb dX13_carries_91 rfl (lv_at hl 2 rfl) ?_
    refine lv_iload_n hx hb dX13_carries_92 rfl (lv_at hl 1 rfl) ?_
    refine lv_iload_n hx hb dX13_carries_93 rfl (lv_at hl 0 rfl) ?_
    refine g_afi (g_runV S hI hP hS (k := 2) (As := [.int (nI (tl (4 * i + 1))), .int (nI (tl (4 * i + 2)))]) (rest := []) (mX13_peg l b g kp sv bf sd ip sg mk td lv tl qs qc qw qd co wy de ca ln fa sm pa tm ht dr pg wt wr mo mc ni po dn (nI (tl (4 * i + 1))) (nI (tl (4 * i + 2))) hb_m hR hht hpg hwr hm hmo hqw hqc) q2189 q1898 q1899 q100 q1900 rfl rfl (by decide +kernel) ⟨Nat.le_of_ble_eq_true rfl, Nat.le_of_ble_eq_true rfl⟩ rfl (hb_m.lt 0 (by decide)) (hb_m.2 0 (by decide)) rfl hl.1 rfl (Nat.le_of_ble_eq_true rfl) ⟨(Nat.le_of_ble_eq_true rfl), (Nat.le_of_ble_eq_true rfl)⟩ dX13_carries_94) hS (fun rz w1 H locs hq hP hS => ?_)
    obtain ⟨hq9, hf9⟩ := hq
    have hfr := hfr.trans hf9 (fun q hq => hq)
    rcases hq9 with ⟨e0, g9, mk9, sd9, k9, u9, qd9, hck9, hr9, hR9, hb9⟩ | ⟨e0, hr9, hb9⟩ | ⟨e0, hr9, hb9⟩ | ⟨z, hz0, hz7, e0, hr9, hb9⟩
    · exact g_iret S hr hlocks hP hS (⟨Or.inl ⟨e0, g9, mk9, sd9, k9, u9, qd9, hck9, hR9, hb9⟩, hfr⟩) (fun _ _ => rfl) (Nat.le_of_ble_eq_true rfl) (Nat.le_of_ble_eq_true rfl) dX13_carries_97
    · exact g_iret S hr hlocks hP hS (⟨Or.inr ⟨fun q => absurd (e0.symm.trans q) (by decide +kernel), _, 0, wy, _, _, by decide, by decide, by decide, hwy, (congrArg rnD e0).trans rnD_n.1, hr9, hb9⟩, hfr⟩) (fun _ _ => rfl) (Nat.le_of_ble_eq_true rfl) (Nat.le_of_ble_eq_true rfl) dX13_carries_97
    · exact g_iret S hr hlocks hP hS (⟨Or.inr ⟨fun q => absurd (e0.symm.trans q) (by decide +kernel), _, 0, wy, _, _, by decide, by decide, by decide, hwy, (congrArg rnD e0).trans rnD_n.2, hr9, hb9⟩, hfr⟩) (fun _ _ => rfl) (Nat.le_of_ble_eq_true rfl) (Nat.le_of_ble_eq_true rfl) dX13_carries_97
    · exact g_iret S hr hlocks hP hS (⟨Or.inr ⟨fun q => nz_0 hz0 hz7 (e0.symm.trans q), _, 1, z, _, _, by decide, by decide, by decide, by omega, (congrArg rnD e0).trans (rnD_z hz0 hz7), hr9, hb9⟩, hfr⟩) (fun _ _ => rfl) (Nat.le_of_ble_eq_true rfl) (Nat.le_of_ble_eq_true rfl) dX13_carries_97
  · obtain ⟨rfl, rfl⟩ := h2 (by decide)
    obtain rfl := h6 (by decide)
    refine g_tabIn S (a := 2) (by decide) dX13_carries_24 (by decide) (by decide) rfl (tgt := 98) (by decide) ?_
    refine lv_aload_n hx hb dX13_carries_98 rfl (lv_at hl 2 rfl) ?_
    refine lv_iload_n hx hb dX13_carries_99 rfl (lv_at hl 1 rfl) ?_
    refine lv_iload_n hx hb dX13_carries_100 rfl (lv_at hl 0 rfl) ?_
    refine g_afi (g_runV S hI hP hS (k := 2) (As := [.int (nI (tl (4 * i + 1))), .int (nI (tl (4 * i + 2)))]) (rest := []) (mX13_unpeg l b g kp sv bf sd ip sg mk td lv tl qs qc qw qd co wy de ca ln fa sm pa tm ht dr pg wt wr mo mc ni po dn (nI (tl (4 * i + 1))) (nI (tl (4 * i + 2))) hb_m hR hht hpg hwr hm hmo hqw hqc) q2190 q1910 q1911 q100 q1912 rfl rfl (by decide +kernel) ⟨Nat.le_of_ble_eq_true rfl, Nat.le_of_ble_eq_true rfl⟩ rfl (hb_m.lt 0 (by decide)) (hb_m.2 0 (by decide)) rfl hl.1 rfl (Nat.le_of_ble_eq_true rfl) ⟨(Nat.le_of_ble_eq_true rfl), (Nat.le_of_ble_eq_true rfl)⟩ dX13_carries_101) hS (fun rz w1 H locs hq hP hS => ?_)
    obtain ⟨hq9, hf9⟩ := hq
    have hfr := hfr.trans hf9 (fun q hq => hq)
    rcases hq9 with ⟨e0, g9, mk9, sd9, k9, u9, qd9, hck9, hr9, hR9, hb9⟩ | ⟨e0, hr9, hb9⟩ | ⟨e0, hr9, hb9⟩ | ⟨z, hz0, hz7, e0, hr9, hb9⟩
    · exact g_iret S hr hlocks hP hS (⟨Or.inl ⟨e0, g9, mk9, sd9, k9, u9, qd9, hck9, hR9, hb9⟩, hfr⟩) (fun _ _ => rfl) (Nat.le_of_ble_eq_true rfl) (Nat.le_of_ble_eq_true rfl) dX13_carries_104
    · exact g_iret S hr hlocks hP hS (⟨Or.inr ⟨fun q => absurd (e0.symm.trans q) (by decide +kernel), _, 0, wy, _, _, by decide, by decide, by decide, hwy, (congrArg rnD e0).trans rnD_n.1, hr9, hb9⟩, hfr⟩) (fun _ _ => rfl) (Nat.le_of_ble_eq_true rfl) (Nat.le_of_ble_eq_true rfl) dX13_carries_104
    · exact g_iret S hr hlocks hP hS (⟨Or.inr ⟨fun q => absurd (e0.symm.trans q) (by decide +kernel), _, 0, wy, _, _, by decide, by decide, by decide, hwy, (congrArg rnD e0).trans rnD_n.2, hr9, hb9⟩, hfr⟩) (fun _ _ => rfl) (Nat.le_of_ble_eq_true rfl) (Nat.le_of_ble_eq_true rfl) dX13_carries_104
    · exact g_iret S hr hlocks hP hS (⟨Or.inr ⟨fun q => nz_0 hz0 hz7 (e0.symm.trans q), _, 1, z, _, _, by decide, by decide, by decide, by omega, (congrArg rnD e0).trans (rnD_z hz0 hz7), hr9, hb9⟩, hfr⟩) (fun _ _ => rfl) (Nat.le_of_ble_eq_true rfl) (Nat.le_of_ble_eq_true rfl) dX13_carries_104
  · obtain ⟨rfl, rfl⟩ := h3 (by decide)
    obtain rfl := h6 (by decide)
    refine g_tabIn S (a := 3) (by decide) dX13_carries_24 (by decide) (by decide) rfl (tgt := 105) (by decide) ?_
    refine lv_aload_n hx hb dX13_carries_105 rfl (lv_at hl 2 rfl) ?_
    refine g_afi (g_runV S hI hP hS (k := 0) (As := []) (rest := []) (mX13_drape l b g kp sv bf sd ip sg mk td lv tl qs qc qw qd co wy de ca ln fa sm pa tm ht dr pg wt wr mo mc ni po dn  hb_m hR hht hpg hwr hm hmo hqw hqc) q2191 q1914 q1915 q100 q1916 rfl rfl (by decide +kernel) ⟨Nat.le_of_ble_eq_true rfl, Nat.le_of_ble_eq_true rfl⟩ rfl (hb_m.lt 0 (by decide)) (hb_m.2 0 (by decide)) rfl hl.1 rfl (Nat.le_of_ble_eq_true rfl) ⟨(Nat.le_of_ble_eq_true rfl), (Nat.le_of_ble_eq_true rfl)⟩ dX13_carries_106) hS (fun rz w1 H locs hq hP hS => ?_)
    obtain ⟨hq9, hf9⟩ := hq
    have hfr := hfr.trans hf9 (fun q hq => hq)
    rcases hq9 with ⟨e0, g9, mk9, sd9, k9, u9, qd9, hck9, hr9, hR9, hb9⟩ | ⟨e0, hr9, hb9⟩ | ⟨e0, hr9, hb9⟩ | ⟨z, hz0, hz7, e0, hr9, hb9⟩
    · exact g_iret S hr hlocks hP hS (⟨Or.inl ⟨e0, g9, mk9, sd9, k9, u9, qd9, hck9, hR9, hb9⟩, hfr⟩) (fun _ _ => rfl) (Nat.le_of_ble_eq_true rfl) (Nat.le_of_ble_eq_true rfl) dX13_carries_109
    · exact g_iret S hr hlocks hP hS (⟨Or.inr ⟨fun q => absurd (e0.symm.trans q) (by decide +kernel), _, 0, wy, _, _, by decide, by decide, by decide, hwy, (congrArg rnD e0).trans rnD_n.1, hr9, hb9⟩, hfr⟩) (fun _ _ => rfl) (Nat.le_of_ble_eq_true rfl) (Nat.le_of_ble_eq_true rfl) dX13_carries_109
    · exact g_iret S hr hlocks hP hS (⟨Or.inr ⟨fun q => absurd (e0.symm.trans q) (by decide +kernel), _, 0, wy, _, _, by decide, by decide, by decide, hwy, (congrArg rnD e0).trans rnD_n.2, hr9, hb9⟩, hfr⟩) (fun _ _ => rfl) (Nat.le_of_ble_eq_true rfl) (Nat.le_of_ble_eq_true rfl) dX13_carries_109
    · exact absurd e0.symm (nz_0 hz0 hz7)
  · obtain ⟨rfl, rfl⟩ := h2 (by decide)
    obtain rfl := h4 (by decide)
    refine g_tabIn S (a := 4) (by decide) dX13_carries_24 (by decide) (by decide) rfl (tgt := 110) (by decide) ?_
    refine lv_aload_n hx hb dX13_carries_110 rfl (lv_at hl 2 rfl) ?_
    refine lv_iload_n hx hb dX13_carries_111 rfl (lv_at hl 1 rfl) ?_
    refine lv_iload_n hx hb dX13_carries_112 rfl (lv_at hl 0 rfl) ?_
    refine lv_aload_n hx hb dX13_carries_113 rfl (lv_at hl 2 rfl) ?_
    refine g_get S hI hP uX13 rfl (fs := _) (hb_m.lt 0 (by decide)) (hb_m.2 0 (by decide)) 22 (by decide) q1809 rfl (v := .ref (ad (b + 11))) rfl dX13_carries_114 ?_
    refine lv_iload_n hx hb dX13_carries_117 rfl (lv_at hl 3 rfl) ?_
    refine g_iconst S 3 dX13_carries_118 (by decide +kernel) ?_
    refine g_iadd S dX13_carries_119 ?_
    refine g_iald S hI hP (f := fun j => nI (tl j)) (hb_m.lt 11 (by decide)) (hb_m.2 11 (by decide)) (4 * i + 3) (by omega) (by decide) dX13_carries_120 ?_
    refine g_afi (g_runV S hI hP hS (k := 3) (As := [.int (nI (tl (4 * i + 1))), .int (nI (tl (4 * i + 2))), .int (nI (tl (4 * i + 3)))]) (rest := []) (mX13_pour l b g kp sv bf sd ip sg mk td lv tl qs qc qw qd co wy de ca ln fa sm pa tm ht dr pg wt wr mo mc ni po dn (nI (tl (4 * i + 1))) (nI (tl (4 * i + 2))) (nI (tl (4 * i + 3))) hb_m hR hht hpg hwr hm hmo hqw hqc) q2192 q1953 q1954 q100 q1955 rfl rfl (by decide +kernel) ⟨Nat.le_of_ble_eq_true rfl, Nat.le_of_ble_eq_true rfl⟩ rfl (hb_m.lt 0 (by decide)) (hb_m.2 0 (by decide)) rfl hl.1 rfl (Nat.le_of_ble_eq_true rfl) ⟨(Nat.le_of_ble_eq_true rfl), (Nat.le_of_ble_eq_true rfl)⟩ dX13_carries_121) hS (fun rz w1 H locs hq hP hS => ?_)
    obtain ⟨hq9, hf9⟩ := hq
    have hfr := hfr.trans hf9 (fun q hq => hq)
    rcases hq9 with ⟨e0, g9, mk9, sd9, k9, u9, qd9, hck9, hr9, hR9, hb9⟩ | ⟨e0, hr9, hb9⟩ | ⟨e0, hr9, hb9⟩ | ⟨z, hz0, hz7, e0, hr9, hb9⟩
    · exact g_iret S hr hlocks hP hS (⟨Or.inl ⟨e0, g9, mk9, sd9, k9, u9, qd9, hck9, hR9, hb9⟩, hfr⟩) (fun _ _ => rfl) (Nat.le_of_ble_eq_true rfl) (Nat.le_of_ble_eq_true rfl) dX13_carries_124
    · exact g_iret S hr hlocks hP hS (⟨Or.inr ⟨fun q => absurd (e0.symm.trans q) (by decide +kernel), _, 0, wy, _, _, by decide, by decide, by decide, hwy, (congrArg rnD e0).trans rnD_n.1, hr9, hb9⟩, hfr⟩) (fun _ _ => rfl) (Nat.le_of_ble_eq_true rfl) (Nat.le_of_ble_eq_true rfl) dX13_carries_124
    · exact g_iret S hr hlocks hP hS (⟨Or.inr ⟨fun q => absurd (e0.symm.trans q) (by decide +kernel), _, 0, wy, _, _, by decide, by decide, by decide, hwy, (congrArg rnD e0).trans rnD_n.2, hr9, hb9⟩, hfr⟩) (fun _ _ => rfl) (Nat.le_of_ble_eq_true rfl) (Nat.le_of_ble_eq_true rfl) dX13_carries_124
    · exact g_iret S hr hlocks hP hS (⟨Or.inr ⟨fun q => nz_0 hz0 hz7 (e0.symm.trans q), _, 1, z, _, _, by decide, by decide, by decide, by omega, (congrArg rnD e0).trans (rnD_z hz0 hz7), hr9, hb9⟩, hfr⟩) (fun _ _ => rfl) (Nat.le_of_ble_eq_true rfl) (Nat.le_of_ble_eq_true rfl) dX13_carries_124
  · obtain ⟨rfl, rfl⟩ := h3 (by decide)
    obtain rfl := h6 (by decide)
    refine g_tabIn S (a := 5) (by decide) dX13_carries_24 (by decide) (by decide) rfl (tgt := 125) (by decide) ?_
    refine lv_aload_n hx hb dX13_carries_125 rfl (lv_at hl 2 rfl) ?_
    refine g_afi (g_runV S hI hP hS (k := 0) (As := []) (rest := []) (mX13_settle l b g kp sv bf sd ip sg mk td lv tl qs qc qw qd co wy de ca ln fa sm pa tm ht dr pg wt wr mo mc ni po dn  hb_m hR hht hpg hwr hm hmo hqw hqc) q2193 q1973 q1974 q100 q1975 rfl rfl (by decide +kernel) ⟨Nat.le_of_ble_eq_true rfl, Nat.le_of_ble_eq_true rfl⟩ rfl (hb_m.lt 0 (by decide)) (hb_m.2 0 (by decide)) rfl hl.1 rfl (Nat.le_of_ble_eq_true rfl) ⟨(Nat.le_of_ble_eq_true rfl), (Nat.le_of_ble_eq_true rfl)⟩ dX13_carries_126) hS (fun rz w1 H locs hq hP hS => ?_)
    obtain ⟨hq9, hf9⟩ := hq
    have hfr := hfr.trans hf9 (fun q hq => hq)
    rcases hq9 with ⟨e0, g9, mk9, sd9, k9, u9, qd9, hck9, hr9, hR9, hb9⟩ | ⟨e0, hr9, hb9⟩ | ⟨e0, hr9, hb9⟩ | ⟨z, hz0, hz7, e0, hr9, hb9⟩
    · exact g_iret S hr hlocks hP hS (⟨Or.inl ⟨e0, g9, mk9, sd9, k9, u9, qd9, hck9, hR9, hb9⟩, hfr⟩) (fun _ _ => rfl) (Nat.le_of_ble_eq_true rfl) (Nat.le_of_ble_eq_true rfl) dX13_carries_129
    · exact g_iret S hr hlocks hP hS (⟨Or.inr ⟨fun q => absurd (e0.symm.trans q) (by decide +kernel), _, 0, wy, _, _, by decide, by decide, by decide, hwy, (congrArg rnD e0).trans rnD_n.1, hr9, hb9⟩, hfr⟩) (fun _ _ => rfl) (Nat.le_of_ble_eq_true rfl) (Nat.le_of_ble_eq_true rfl) dX13_carries_129
    · exact g_iret S hr hlocks hP hS (⟨Or.inr ⟨fun q => absurd (e0.symm.trans q) (by decide +kernel), _, 0, wy, _, _, by decide, by decide, by decide, hwy, (congrArg rnD e0).trans rnD_n.2, hr9, hb9⟩, hfr⟩) (fun _ _ => rfl) (Nat.le_of_ble_eq_true rfl) (Nat.le_of_ble_eq_true rfl) dX13_carries_129
    · exact absurd e0.symm (nz_0 hz0 hz7)
  · obtain ⟨rfl, rfl⟩ := h2 (by decide)
    obtain rfl := h6 (by decide)
    refine g_tabIn S (a := 6) (by decide) dX13_carries_24 (by decide) (by decide) rfl (tgt := 130) (by decide) ?_
    refine lv_aload_n hx hb dX13_carries_130 rfl (lv_at hl 2 rfl) ?_
    refine lv_iload_n hx hb dX13_carries_131 rfl (lv_at hl 1 rfl) ?_
    refine lv_iload_n hx hb dX13_carries_132 rfl (lv_at hl 0 rfl) ?_
    refine g_afi (g_runV S hI hP hS (k := 2) (As := [.int (nI (tl (4 * i + 1))), .int (nI (tl (4 * i + 2)))]) (rest := []) (mX13_addMoth l b g kp sv bf sd ip sg mk td lv tl qs qc qw qd co wy de ca ln fa sm pa tm ht dr pg wt wr mo mc ni po dn (nI (tl (4 * i + 1))) (nI (tl (4 * i + 2))) hb_m hR hht hpg hwr hm hmo hqw hqc) q2194 q2056 q2057 q100 q2058 rfl rfl (by decide +kernel) ⟨Nat.le_of_ble_eq_true rfl, Nat.le_of_ble_eq_true rfl⟩ rfl (hb_m.lt 0 (by decide)) (hb_m.2 0 (by decide)) rfl hl.1 rfl (Nat.le_of_ble_eq_true rfl) ⟨(Nat.le_of_ble_eq_true rfl), (Nat.le_of_ble_eq_true rfl)⟩ dX13_carries_133) hS (fun rz w1 H locs hq hP hS => ?_)
    obtain ⟨hq9, hf9⟩ := hq
    have hfr := hfr.trans hf9 (fun q hq => hq)
    rcases hq9 with ⟨e0, g9, mk9, sd9, k9, u9, qd9, hck9, hr9, hR9, hb9⟩ | ⟨e0, hr9, hb9⟩ | ⟨e0, hr9, hb9⟩ | ⟨z, hz0, hz7, e0, hr9, hb9⟩
    · exact g_iret S hr hlocks hP hS (⟨Or.inl ⟨e0, g9, mk9, sd9, k9, u9, qd9, hck9, hR9, hb9⟩, hfr⟩) (fun _ _ => rfl) (Nat.le_of_ble_eq_true rfl) (Nat.le_of_ble_eq_true rfl) dX13_carries_136
    · exact g_iret S hr hlocks hP hS (⟨Or.inr ⟨fun q => absurd (e0.symm.trans q) (by decide +kernel), _, 0, wy, _, _, by decide, by decide, by decide, hwy, (congrArg rnD e0).trans rnD_n.1, hr9, hb9⟩, hfr⟩) (fun _ _ => rfl) (Nat.le_of_ble_eq_true rfl) (Nat.le_of_ble_eq_true rfl) dX13_carries_136
    · exact g_iret S hr hlocks hP hS (⟨Or.inr ⟨fun q => absurd (e0.symm.trans q) (by decide +kernel), _, 0, wy, _, _, by decide, by decide, by decide, hwy, (congrArg rnD e0).trans rnD_n.2, hr9, hb9⟩, hfr⟩) (fun _ _ => rfl) (Nat.le_of_ble_eq_true rfl) (Nat.le_of_ble_eq_true rfl) dX13_carries_136
    · exact g_iret S hr hlocks hP hS (⟨Or.inr ⟨fun q => nz_0 hz0 hz7 (e0.symm.trans q), _, 1, z, _, _, by decide, by decide, by decide, by omega, (congrArg rnD e0).trans (rnD_z hz0 hz7), hr9, hb9⟩, hfr⟩) (fun _ _ => rfl) (Nat.le_of_ble_eq_true rfl) (Nat.le_of_ble_eq_true rfl) dX13_carries_136
  · obtain ⟨rfl, rfl⟩ := h3 (by decide)
    obtain rfl := h5 rfl
    refine g_tabIn S (a := 7) (by decide) dX13_carries_24 (by decide) (by decide) rfl (tgt := 137) (by decide) ?_
    refine lv_aload_n hx hb dX13_carries_137 rfl (lv_at hl 2 rfl) ?_
    refine lv_iload_n hx hb dX13_carries_138 rfl (lv_at hl 1 rfl) ?_
    refine g_afi (g_runV S hI hP hS (k := 1) (As := [.int (nI (tl (4 * i + 1)))]) (rest := []) (mX13_removeMoth l b g kp sv bf sd ip sg mk td lv tl qs qc qw qd co wy de ca ln fa sm pa tm ht dr pg wt wr mo mc ni po dn (nI (tl (4 * i + 1))) hb_m hR hht hpg hwr hm hmo hqw hqc) q2195 q2068 q2069 q100 q2070 rfl rfl (by decide +kernel) ⟨Nat.le_of_ble_eq_true rfl, Nat.le_of_ble_eq_true rfl⟩ rfl (hb_m.lt 0 (by decide)) (hb_m.2 0 (by decide)) rfl hl.1 rfl (Nat.le_of_ble_eq_true rfl) ⟨(Nat.le_of_ble_eq_true rfl), (Nat.le_of_ble_eq_true rfl)⟩ dX13_carries_139) hS (fun rz w1 H locs hq hP hS => ?_)
    obtain ⟨hq9, hf9⟩ := hq
    have hfr := hfr.trans hf9 (fun q hq => hq)
    rcases hq9 with ⟨e0, g9, mk9, sd9, k9, u9, qd9, hck9, hr9, hR9, hb9⟩ | ⟨e0, hr9, hb9⟩ | ⟨e0, hr9, hb9⟩ | ⟨z, hz0, hz7, e0, hr9, hb9⟩
    · exact g_iret S hr hlocks hP hS (⟨Or.inl ⟨e0, g9, mk9, sd9, k9, u9, qd9, hck9, hR9, hb9⟩, hfr⟩) (fun _ _ => rfl) (Nat.le_of_ble_eq_true rfl) (Nat.le_of_ble_eq_true rfl) dX13_carries_142
    · exact g_iret S hr hlocks hP hS (⟨Or.inr ⟨fun q => absurd (e0.symm.trans q) (by decide +kernel), _, 0, wy, _, _, by decide, by decide, by decide, hwy, (congrArg rnD e0).trans rnD_n.1, hr9, hb9⟩, hfr⟩) (fun _ _ => rfl) (Nat.le_of_ble_eq_true rfl) (Nat.le_of_ble_eq_true rfl) dX13_carries_142
    · exact g_iret S hr hlocks hP hS (⟨Or.inr ⟨fun q => absurd (e0.symm.trans q) (by decide +kernel), _, 0, wy, _, _, by decide, by decide, by decide, hwy, (congrArg rnD e0).trans rnD_n.2, hr9, hb9⟩, hfr⟩) (fun _ _ => rfl) (Nat.le_of_ble_eq_true rfl) (Nat.le_of_ble_eq_true rfl) dX13_carries_142
    · exact g_iret S hr hlocks hP hS (⟨Or.inr ⟨fun q => nz_0 hz0 hz7 (e0.symm.trans q), _, 1, z, _, _, by decide, by decide, by decide, by omega, (congrArg rnD e0).trans (rnD_z hz0 hz7), hr9, hb9⟩, hfr⟩) (fun _ _ => rfl) (Nat.le_of_ble_eq_true rfl) (Nat.le_of_ble_eq_true rfl) dX13_carries_142
  · obtain ⟨rfl, rfl⟩ := h3 (by decide)
    obtain rfl := h6 (by decide)
    refine g_tabIn S (a := 8) (by decide) dX13_carries_24 (by decide) (by decide) rfl (tgt := 143) (by decide) ?_
    refine lv_aload_n hx hb dX13_carries_143 rfl (lv_at hl 2 rfl) ?_
    refine g_afi (g_runV S hI hP hS (k := 0) (As := []) (rest := []) (mX13_passNight l b g kp sv bf sd ip sg mk td lv tl qs qc qw qd co wy de ca ln fa sm pa tm ht dr pg wt wr mo mc ni po dn  hb_m hR hht hpg hwr hm hmo hqw hqc) q2196 q2076 q2077 q100 q2078 rfl rfl (by decide +kernel) ⟨Nat.le_of_ble_eq_true rfl, Nat.le_of_ble_eq_true rfl⟩ rfl (hb_m.lt 0 (by decide)) (hb_m.2 0 (by decide)) rfl hl.1 rfl (Nat.le_of_ble_eq_true rfl) ⟨(Nat.le_of_ble_eq_true rfl), (Nat.le_of_ble_eq_true rfl)⟩ dX13_carries_144) hS (fun rz w1 H locs hq hP hS => ?_)
    obtain ⟨hq9, hf9⟩ := hq
    have hfr := hfr.trans hf9 (fun q hq => hq)
    rcases hq9 with ⟨e0, g9, mk9, sd9, k9, u9, qd9, hck9, hr9, hR9, hb9⟩ | ⟨e0, hr9, hb9⟩ | ⟨e0, hr9, hb9⟩ | ⟨z, hz0, hz7, e0, hr9, hb9⟩
    · exact g_iret S hr hlocks hP hS (⟨Or.inl ⟨e0, g9, mk9, sd9, k9, u9, qd9, hck9, hR9, hb9⟩, hfr⟩) (fun _ _ => rfl) (Nat.le_of_ble_eq_true rfl) (Nat.le_of_ble_eq_true rfl) dX13_carries_147
    · exact g_iret S hr hlocks hP hS (⟨Or.inr ⟨fun q => absurd (e0.symm.trans q) (by decide +kernel), _, 0, wy, _, _, by decide, by decide, by decide, hwy, (congrArg rnD e0).trans rnD_n.1, hr9, hb9⟩, hfr⟩) (fun _ _ => rfl) (Nat.le_of_ble_eq_true rfl) (Nat.le_of_ble_eq_true rfl) dX13_carries_147
    · exact g_iret S hr hlocks hP hS (⟨Or.inr ⟨fun q => absurd (e0.symm.trans q) (by decide +kernel), _, 0, wy, _, _, by decide, by decide, by decide, hwy, (congrArg rnD e0).trans rnD_n.2, hr9, hb9⟩, hfr⟩) (fun _ _ => rfl) (Nat.le_of_ble_eq_true rfl) (Nat.le_of_ble_eq_true rfl) dX13_carries_147
    · exact absurd e0.symm (nz_0 hz0 hz7)
  · obtain ⟨rfl, rfl⟩ := h2 (by decide)
    obtain rfl := h6 (by decide)
    refine g_tabOut S (a := 9) (by decide) dX13_carries_24 (by decide) (tgt := 148) (by decide) ?_
    refine lv_aload_n hx hb dX13_carries_148 rfl (lv_at hl 2 rfl) ?_
    refine lv_iload_n hx hb dX13_carries_149 rfl (lv_at hl 1 rfl) ?_
    refine lv_iload_n hx hb dX13_carries_150 rfl (lv_at hl 0 rfl) ?_
    refine g_afi (g_runV S hI hP hS (k := 2) (As := [.int (nI (tl (4 * i + 1))), .int (nI (tl (4 * i + 2)))]) (rest := []) (mX13_patch l b g kp sv bf sd ip sg mk td lv tl qs qc qw qd co wy de ca ln fa sm pa tm ht dr pg wt wr mo mc ni po dn (nI (tl (4 * i + 1))) (nI (tl (4 * i + 2))) hb_m hR hht hpg hwr hm hmo hqw hqc) q2197 q2084 q2085 q100 q2086 rfl rfl (by decide +kernel) ⟨Nat.le_of_ble_eq_true rfl, Nat.le_of_ble_eq_true rfl⟩ rfl (hb_m.lt 0 (by decide)) (hb_m.2 0 (by decide)) rfl hl.1 rfl (Nat.le_of_ble_eq_true rfl) ⟨(Nat.le_of_ble_eq_true rfl), (Nat.le_of_ble_eq_true rfl)⟩ dX13_carries_151) hS (fun rz w1 H locs hq hP hS => ?_)
    obtain ⟨hq9, hf9⟩ := hq
    have hfr := hfr.trans hf9 (fun q hq => hq)
    rcases hq9 with ⟨e0, g9, mk9, sd9, k9, u9, qd9, hck9, hr9, hR9, hb9⟩ | ⟨e0, hr9, hb9⟩ | ⟨e0, hr9, hb9⟩ | ⟨z, hz0, hz7, e0, hr9, hb9⟩
    · exact g_iret S hr hlocks hP hS (⟨Or.inl ⟨e0, g9, mk9, sd9, k9, u9, qd9, hck9, hR9, hb9⟩, hfr⟩) (fun _ _ => rfl) (Nat.le_of_ble_eq_true rfl) (Nat.le_of_ble_eq_true rfl) dX13_carries_154
    · exact g_iret S hr hlocks hP hS (⟨Or.inr ⟨fun q => absurd (e0.symm.trans q) (by decide +kernel), _, 0, wy, _, _, by decide, by decide, by decide, hwy, (congrArg rnD e0).trans rnD_n.1, hr9, hb9⟩, hfr⟩) (fun _ _ => rfl) (Nat.le_of_ble_eq_true rfl) (Nat.le_of_ble_eq_true rfl) dX13_carries_154
    · exact g_iret S hr hlocks hP hS (⟨Or.inr ⟨fun q => absurd (e0.symm.trans q) (by decide +kernel), _, 0, wy, _, _, by decide, by decide, by decide, hwy, (congrArg rnD e0).trans rnD_n.2, hr9, hb9⟩, hfr⟩) (fun _ _ => rfl) (Nat.le_of_ble_eq_true rfl) (Nat.le_of_ble_eq_true rfl) dX13_carries_154
    · exact g_iret S hr hlocks hP hS (⟨Or.inr ⟨fun q => nz_0 hz0 hz7 (e0.symm.trans q), _, 1, z, _, _, by decide, by decide, by decide, by omega, (congrArg rnD e0).trans (rnD_z hz0 hz7), hr9, hb9⟩, hfr⟩) (fun _ _ => rfl) (Nat.le_of_ble_eq_true rfl) (Nat.le_of_ble_eq_true rfl) dX13_carries_154
set_option maxHeartbeats 4000000 in
set_option maxRecDepth 100000 in
/-- a text is denied -/
theorem mX13_deniesText (l : Launch) {E : gE} {ad : Nat → Nat} {N : Nat} {w : Nat → va_E} (b : Nat) (g kp sv bf sd ip sg mk td lv tl : Nat → Nat) (qs qc qw qd co wy : Nat) (de : Int32) (ca ln : Nat) (fa : Option Nat) (sm pa tm : Nat) (x : Nat) (hb_m : bkP N w b 12 (MDC E ad b g kp sv bf sd ip sg mk td lv tl qs qc qw qd co wy de ca ln fa sm pa tm)) (hqd : qd ≤ 1) : gMi l yX13_deniesText (lw_ws yX13_deniesText cX13_deniesText 3 (some .int)) ({ frames := 1, cells := 0, slots := 0, locals := 23 } : Room) E ad N w [.ref (ad (b)), .int (nI (x))] (fun r w' => r = nI 0 ∧ bkP N w' b 12 (MDC E ad b g kp sv bf sd ip sg mk td lv tl qs qc qw 1 2 7 (nI x) (if qd = 1 then wy else 8) ln fa sm pa tm) ∧ gFr (gIn b 12) w w') 0 0 := by
  refine Met.ofW (cc := cX13_deniesText) (maxL := 3) (ret := (some .int)) (by decide) rfl ?_
  intro p e s m args below meth cd s₁ B hml hv
  obtain ⟨rfl, hI, hP⟩ := hv
  obtain ⟨S, hr, hlocks⟩ := gPre (ws := []) B hml (C := RX13) rfl
  have hx := S.1
  have hb := S.2.1
  have hS : va_S (gA E) s.heap s.heap [] := va_S.rf
  have hfr : gFr (gIn b 12) w w := gFr.rf
  have hl := lv_entry ([.ref (ad (b)), .int (nI (x))]) (n := 3) (Nat.le_of_ble_eq_true rfl)
  rw [lg_entry_eq]
  generalize (lg_sl ([.ref (ad (b)), .int (nI (x))]) ++ List.replicate (3 - (lg_sl ([.ref (ad (b)), .int (nI (x))])).length) Slot.unset).toArray = ls at hl ⊢
  have hl : lv_has ls 3 [(0, .ref (ad (b))), (1, .int (nI (x)))] := hl
  refine lv_aload_n hx hb dX13_deniesText_0 rfl (lv_at hl 0 rfl) ?_
  refine g_get S hI hP uX13 rfl (fs := _) (hb_m.lt 0 (by decide)) (hb_m.2 0 (by decide)) 8 (by decide) q1795 rfl (v := .int (nI (qd))) rfl dX13_deniesText_1 ?_
  refine g_ifeq S (a := qd) (by omega) (tgt := 14) dX13_deniesText_4 (by decide) (fun hq => ?_) (fun hq => ?_)
  · refine g_bipush S 8 dX13_deniesText_14 (by decide +kernel) ?_
    refine lv_istore_n (lv' := [(2, .int (nI (8))), (0, .ref (ad (b))), (1, .int (nI (x)))]) hx hb dX13_deniesText_16 rfl hl (by decide) rfl (fun ls hl => ?_)
    refine lv_aload_n hx hb dX13_deniesText_17 rfl (lv_at hl 1 rfl) ?_
    refine g_iconst S 2 dX13_deniesText_18 (by decide +kernel) ?_
    refine g_bipush S 7 dX13_deniesText_19 (by decide +kernel) ?_
    refine lv_iload_n hx hb dX13_deniesText_21 rfl (lv_at hl 2 rfl) ?_
    refine g_afi (g_runV S hI hP hS (k := 3) (As := [.int (nI (2)), .int (nI (7)), .int (nI (x))]) (rest := []) (mX13_denies l b g kp sv bf sd ip sg mk td lv tl qs qc qw qd co wy de ca ln fa sm pa tm 2 7 (nI (x)) hb_m ) q1886 q1888 q51 q100 q1889 rfl rfl (by decide +kernel) ⟨Nat.le_of_ble_eq_true rfl, Nat.le_of_ble_eq_true rfl⟩ rfl (hb_m.lt 0 (by decide)) (hb_m.2 0 (by decide)) rfl hl.1 rfl (Nat.le_of_ble_eq_true rfl) ⟨(Nat.le_of_ble_eq_true rfl), (Nat.le_of_ble_eq_true rfl)⟩ dX13_deniesText_22) hS (fun rz w1 H locs hq hP hS => ?_)
    obtain ⟨hr3, hb1, hf2⟩ := hq
    rw [hr3]
    have hfr := hfr.trans hf2 (fun q hq => by (try simp only [gIn] at hq ⊢); (try dsimp only at hq ⊢); omega)
    refine lv_pop hx hb dX13_deniesText_25 rfl ?_
    refine lv_aload_n hx hb dX13_deniesText_26 rfl (lv_at hl 1 rfl) ?_
    refine lv_iload_n hx hb dX13_deniesText_27 rfl (lv_at hl 0 rfl) ?_
    refine g_put S hI hP hS uX13 rfl tyX13 tyX13_ok nmX13 (fs := _) (hb1.lt 0 (by decide)) (hb1.2 0 (by decide)) 12 (by decide) q1799 rfl rfl (v := .int (nI (8))) rfl rfl (Nat.le_of_ble_eq_true rfl) dX13_deniesText_28 (fun H locs hP hS => ?_)
    have hP : gP E ad N (va_up _ (b) (MDC E ad b g kp sv bf sd ip sg mk td lv tl qs qc qw 1 2 7 (nI (x)) 8 ln fa sm pa tm 0)) H := hP
    have hb4 : bkP N (va_up _ (b) (MDC E ad b g kp sv bf sd ip sg mk td lv tl qs qc qw 1 2 7 (nI (x)) 8 ln fa sm pa tm 0)) b 12 (MDC E ad b g kp sv bf sd ip sg mk td lv tl qs qc qw 1 2 7 (nI (x)) 8 ln fa sm pa tm) := MD_setO hb1 _ _ _ _ _ _ _ _ _ _ _ _ _
    have hfr := hfr.up (p := b) (e := MDC E ad b g kp sv bf sd ip sg mk td lv tl qs qc qw 1 2 7 (nI (x)) 8 ln fa sm pa tm 0) (by show _ ∧ _; omega)
    refine g_iconst S 0 dX13_deniesText_31 (by decide +kernel) ?_
    exact g_iret S hr hlocks hP hS (⟨rfl, by rw [if_neg (by omega)]; exact hb4, hfr⟩) (fun _ _ => rfl) (Nat.le_of_ble_eq_true rfl) (Nat.le_of_ble_eq_true rfl) dX13_deniesText_32
  · refine lv_aload_n hx hb dX13_deniesText_7 rfl (lv_at hl 0 rfl) ?_
    refine g_get S hI hP uX13 rfl (fs := _) (hb_m.lt 0 (by decide)) (hb_m.2 0 (by decide)) 10 (by decide) q1797 rfl (v := .int (nI (wy))) rfl dX13_deniesText_8 ?_
    refine lv_goto (tgt := 16) hx hb dX13_deniesText_11 (by decide) ?_
    refine lv_istore_n (lv' := [(2, .int (nI (wy))), (0, .ref (ad (b))), (1, .int (nI (x)))]) hx hb dX13_deniesText_16 rfl hl (by decide) rfl (fun ls hl => ?_)
    refine lv_aload_n hx hb dX13_deniesText_17 rfl (lv_at hl 1 rfl) ?_
    refine g_iconst S 2 dX13_deniesText_18 (by decide +kernel) ?_
    refine g_bipush S 7 dX13_deniesText_19 (by decide +kernel) ?_
    refine lv_iload_n hx hb dX13_deniesText_21 rfl (lv_at hl 2 rfl) ?_
    refine g_afi (g_runV S hI hP hS (k := 3) (As := [.int (nI (2)), .int (nI (7)), .int (nI (x))]) (rest := []) (mX13_denies l b g kp sv bf sd ip sg mk td lv tl qs qc qw qd co wy de ca ln fa sm pa tm 2 7 (nI (x)) hb_m ) q1886 q1888 q51 q100 q1889 rfl rfl (by decide +kernel) ⟨Nat.le_of_ble_eq_true rfl, Nat.le_of_ble_eq_true rfl⟩ rfl (hb_m.lt 0 (by decide)) (hb_m.2 0 (by decide)) rfl hl.1 rfl (Nat.le_of_ble_eq_true rfl) ⟨(Nat.le_of_ble_eq_true rfl), (Nat.le_of_ble_eq_true rfl)⟩ dX13_deniesText_22) hS (fun rz w1 H locs hq hP hS => ?_)
    obtain ⟨hr7, hb5, hf6⟩ := hq
    rw [hr7]
    have hfr := hfr.trans hf6 (fun q hq => by (try simp only [gIn] at hq ⊢); (try dsimp only at hq ⊢); omega)
    refine lv_pop hx hb dX13_deniesText_25 rfl ?_
    refine lv_aload_n hx hb dX13_deniesText_26 rfl (lv_at hl 1 rfl) ?_
    refine lv_iload_n hx hb dX13_deniesText_27 rfl (lv_at hl 0 rfl) ?_
    refine g_put S hI hP hS uX13 rfl tyX13 tyX13_ok nmX13 (fs := _) (hb5.lt 0 (by decide)) (hb5.2 0 (by decide)) 12 (by decide) q1799 rfl rfl (v := .int (nI (wy))) rfl rfl (Nat.le_of_ble_eq_true rfl) dX13_deniesText_28 (fun H locs hP hS => ?_)
    have hP : gP E ad N (va_up _ (b) (MDC E ad b g kp sv bf sd ip sg mk td lv tl qs qc qw 1 2 7 (nI (x)) wy ln fa sm pa tm 0)) H := hP
    have hb8 : bkP N (va_up _ (b) (MDC E ad b g kp sv bf sd ip sg mk td lv tl qs qc qw 1 2 7 (nI (x)) wy ln fa sm pa tm 0)) b 12 (MDC E ad b g kp sv bf sd ip sg mk td lv tl qs qc qw 1 2 7 (nI (x)) wy ln fa sm pa tm) := MD_setO hb5 _ _ _ _ _ _ _ _ _ _ _ _ _
    have hfr := hfr.up (p := b) (e := MDC E ad b g kp sv bf sd ip sg mk td lv tl qs qc qw 1 2 7 (nI (x)) wy ln fa sm pa tm 0) (by show _ ∧ _; omega)
    refine g_iconst S 0 dX13_deniesText_31 (by decide +kernel) ?_
    exact g_iret S hr hlocks hP hS (⟨rfl, by rw [if_pos (by omega)]; exact hb8, hfr⟩) (fun _ _ => rfl) (Nat.le_of_ble_eq_true rfl) (Nat.le_of_ble_eq_true rfl) dX13_deniesText_32
set_option maxHeartbeats 4000000 in
set_option maxRecDepth 100000 in
/-- a text is carried out -/
theorem mX13_execute (l : Launch) {E : gE} {ad : Nat → Nat} {N : Nat} {w : Nat → va_E} (kk : Nat → Nat) (hzv : gHv E kk) (b : Nat) (g kp sv bf sd ip sg mk td lv tl : Nat → Nat) (qs qc qw qd co wy : Nat) (de : Int32) (ca ln : Nat) (fa : Option Nat) (sm pa tm : Nat) (ht dr pg wt wr mo : Nat → Nat) (mc ni po dn : Nat) (hb_m : bkP N w b 12 (MDC E ad b g kp sv bf sd ip sg mk td lv tl qs qc qw qd co wy de ca ln fa sm pa tm)) (hR : mRg g ht pg wt wr mo mc ni po dn) (hht : ∀ k, k < 36 → ht k ≤ 99) (hpg : ∀ k, k < 36 → pg k ≤ 1) (hwr : ∀ k, k < 36 → wr k ≤ 3) (hm : mc ≤ 4) (hmo : ∀ k, k < mc → mo k < 36) (hqw0 : qw = 0) (hqc : qc ≤ 8) (hwy : wy < 8) (hln : ln ≤ 60) (hip : ∀ j, j < 60 → ip j < 65536) : gMi l yX13_execute (lw_ws yX13_execute cX13_execute 4 (some .int)) ({ frames := 8, cells := 0, slots := 0, locals := 181 } : Room) E ad N w [.ref (ad (b))] (fun r w' => (((rdP ln ip 60 0 0).1 = none ∧ (rnL (rdP ln ip 60 0 0).2 0 (ht, dr, pg, wt, wr, mo, mc, ni, po, dn)).1 = none ∧ r = nI (rdP ln ip 60 0 0).2.length ∧ ∃ (g' bf' mk' sd' tl' : Nat → Nat) (pa' tm' qd' : Nat), mRS g' (rnL (rdP ln ip 60 0 0).2 0 (ht, dr, pg, wt, wr, mo, mc, ni, po, dn)).2 ∧ (∀ j, j < 152 → bf' j = g j) ∧ bkP N w' b 12 (MDC E ad b g' (kpK kp qc bf') sv bf' sd' ip sg mk' td lv tl' qs (kpC qc) qw qd' 0 wy de ca 0 fa sm pa' tm')) ∨ ((rdP ln ip 60 0 0).1 = none ∧ ∃ (i : Nat) (r0 : Int32) (g' bf' mk' sd' tl' : Nat → Nat) (pa' tm' : Nat), (rnL (rdP ln ip 60 0 0).2 0 (ht, dr, pg, wt, wr, mo, mc, ni, po, dn)).1 = some (i, r0) ∧ mRS g' (ht, dr, pg, wt, wr, mo, mc, ni, po, dn) ∧ bkP N w' b 12 (MDC E ad b g' kp sv bf' sd' ip sg mk' td lv tl' qs qc qw 1 2 7 (nI i) (rnD r0) 0 fa sm pa' tm')) ∨ (∃ (q : Nat) (tl' : Nat → Nat) (pa' tm' : Nat), (rdP ln ip 60 0 0).1 = some q ∧ bkP N w' b 12 (MDC E ad b g kp sv bf sd ip sg mk td lv tl' qs qc qw 0 1 wy de ca 0 (some q) sm pa' tm'))) ∧ gFr (gIn b 12) w w') 0 0 := by
  refine Met.ofW (cc := cX13_execute) (maxL := 4) (ret := (some .int)) (by decide) rfl ?_
  intro p e s m args below meth cd s₁ B hml hv
  obtain ⟨rfl, hI, hP⟩ := hv
  obtain ⟨S, hr, hlocks⟩ := gPre (ws := []) B hml (C := RX13) rfl
  have hx := S.1
  have hb := S.2.1
  have hzk := hzv s s.heap hI.2.2.2.2
  have hS : va_S (gA E) s.heap s.heap [] := va_S.rf
  have hfr : gFr (gIn b 12) w w := gFr.rf
  have hl := lv_entry ([.ref (ad (b))]) (n := 4) (Nat.le_of_ble_eq_true rfl)
  rw [lg_entry_eq]
  generalize (lg_sl ([.ref (ad (b))]) ++ List.replicate (4 - (lg_sl ([.ref (ad (b))])).length) Slot.unset).toArray = ls at hl ⊢
  have hl : lv_has ls 4 [(0, .ref (ad (b)))] := hl
  refine lv_aload_n hx hb dX13_execute_0 rfl (lv_at hl 0 rfl) ?_
  refine g_afi (g_runV S hI hP hS (k := 0) (As := []) (rest := []) (mX13_isText l kk hzv b g kp sv bf sd ip sg mk td lv tl qs qc qw qd co wy de ca ln fa sm pa tm hb_m hln hip) q2144 q2146 q70 q100 q2147 rfl rfl (by decide +kernel) ⟨Nat.le_of_ble_eq_true rfl, Nat.le_of_ble_eq_true rfl⟩ rfl (hb_m.lt 0 (by decide)) (hb_m.2 0 (by decide)) rfl hl.1 rfl (Nat.le_of_ble_eq_true rfl) ⟨(Nat.le_of_ble_eq_true rfl), (Nat.le_of_ble_eq_true rfl)⟩ dX13_execute_1) hS (fun rz w1 H locs hq hP hS => ?_)
  obtain ⟨hq9, hf9⟩ := hq
  have hfr := hfr.trans hf9 (fun q hq => hq)
  rcases hq9 with ⟨hp1, hr9, tl9, pa9, hcs, hb9⟩ | ⟨q9, tl9, tm9, hp1, hr9, hb9⟩
  · rw [hr9]
    obtain ⟨cs, hcse⟩ : ∃ z, z = (rdP ln ip 60 0 0).2 := ⟨_, rfl⟩
    rw [← hcse] at hcs hb9
    have hlcs : cs.length ≤ 10 := by rw [hcse]; exact rdP_len hln hp1
    refine lv_istore_n (lv' := [(1, .int (nI (1))), (0, .ref (ad (b)))]) hx hb dX13_execute_4 rfl hl (by decide) rfl (fun ls hl => ?_)
    refine lv_iload_n hx hb dX13_execute_5 rfl (lv_at hl 0 rfl) ?_
    refine g_ifne S (a := 1) (by omega) (tgt := 17) dX13_execute_6 (by decide) (fun hz => ?_) (fun hz => ?_)
    · refine lv_aload_n hx hb dX13_execute_17 rfl (lv_at hl 1 rfl) ?_
      refine g_iconst S 0 dX13_execute_18 (by decide +kernel) ?_
      refine g_put S hI hP hS uX13 rfl tyX13 tyX13_ok nmX13 (fs := _) (hb9.lt 0 (by decide)) (hb9.2 0 (by decide)) 14 (by decide) q1801 rfl rfl (v := .int (nI (0))) rfl rfl (Nat.le_of_ble_eq_true rfl) dX13_execute_19 (fun H locs hP hS => ?_)
      have hP : gP E ad N (va_up _ (b) (MDC E ad b g kp sv bf sd ip sg mk td lv tl9 qs qc qw qd co wy de ca 0 fa sm pa9 cs.length 0)) H := hP
      have hb1 : bkP N (va_up _ (b) (MDC E ad b g kp sv bf sd ip sg mk td lv tl9 qs qc qw qd co wy de ca 0 fa sm pa9 cs.length 0)) b 12 (MDC E ad b g kp sv bf sd ip sg mk td lv tl9 qs qc qw qd co wy de ca 0 fa sm pa9 cs.length) := MD_setO hb9 _ _ _ _ _ _ _ _ _ _ _ _ _
      have hfr := hfr.up (p := b) (e := MDC E ad b g kp sv bf sd ip sg mk td lv tl9 qs qc qw qd co wy de ca 0 fa sm pa9 cs.length 0) (by show _ ∧ _; omega)
      refine lv_aload_n hx hb dX13_execute_22 rfl (lv_at hl 1 rfl) ?_
      refine lv_iload_n hx hb dX13_execute_23 rfl (lv_at hl 0 rfl) ?_
      refine g_ifeq S (a := 1) (by omega) (tgt := 31) dX13_execute_24 (by decide) (fun hz2 => ?_) (fun hz2 => ?_)
      · omega
      · refine g_iconst S 0 dX13_execute_27 (by decide +kernel) ?_
        refine lv_goto (tgt := 32) hx hb dX13_execute_28 (by decide) ?_
        refine g_afi (g_runV S hI hP hS (k := 1) (As := [.int (nI (0))]) (rest := []) (mX13_fails l b g kp sv bf sd ip sg mk td lv tl9 qs qc qw qd co wy de ca 0 fa sm pa9 cs.length 0 hb1 (by decide)) q1878 q1880 q49 q100 q1881 rfl rfl (by decide +kernel) ⟨Nat.le_of_ble_eq_true rfl, Nat.le_of_ble_eq_true rfl⟩ rfl (hb1.lt 0 (by decide)) (hb1.2 0 (by decide)) rfl hl.1 rfl (Nat.le_of_ble_eq_true rfl) ⟨(Nat.le_of_ble_eq_true rfl), (Nat.le_of_ble_eq_true rfl)⟩ dX13_execute_32) hS (fun rz w1 H locs hq hP hS => ?_)
        obtain ⟨hr4, hb2, hf3⟩ := hq
        rw [hr4]
        have hfr := hfr.trans hf3 (fun q hq => by (try simp only [gIn] at hq ⊢); (try dsimp only at hq ⊢); omega)
        refine g_beq S (b := decide (0 < 0)) (tgt := 40) dX13_execute_35 (by decide) (fun hfk => ?_) (fun hfk => ?_)
        · refine lv_aload_n hx hb dX13_execute_40 rfl (lv_at hl 1 rfl) ?_
          refine g_get S hI hP uX13 rfl (fs := _) (hb2.lt 0 (by decide)) (hb2.2 0 (by decide)) 0 (by decide) q1787 rfl (v := .ref (ad (b + 1))) rfl dX13_execute_41 ?_
          refine g_iconst S 0 dX13_execute_44 (by decide +kernel) ?_
          refine lv_aload_n hx hb dX13_execute_45 rfl (lv_at hl 1 rfl) ?_
          refine g_get S hI hP uX13 rfl (fs := _) (hb2.lt 0 (by decide)) (hb2.2 0 (by decide)) 3 (by decide) q1790 rfl (v := .ref (ad (b + 4))) rfl dX13_execute_46 ?_
          refine g_iconst S 0 dX13_execute_49 (by decide +kernel) ?_
          refine g_afv (g_runS S hI hP hS (k := 4) (As := [.ref (ad (b + 1)), .int (nI (0)), .ref (ad (b + 4)), .int (nI (0))]) (rest := []) (mX13_copies l (b + 1) (b + 4) (0) (0) 152 152 g bf (hb2.lt 1 (by decide)) (hb2.lt 4 (by decide)) (by omega) (hb2.2 1 (by decide)) (hb2.2 4 (by decide)) (by omega) (by omega) (by decide) (by decide)) q1894 q1895 q100 q1896 rfl rfl (by decide +kernel) ⟨Nat.le_of_ble_eq_true rfl, Nat.le_of_ble_eq_true rfl⟩ rfl hl.1 rfl (Nat.le_of_ble_eq_true rfl) ⟨(Nat.le_of_ble_eq_true rfl), (Nat.le_of_ble_eq_true rfl)⟩ dX13_execute_50) hS (fun w1 H locs hq hP hS => ?_)
          obtain hq := hq
          subst hq
          have hP : gP E ad N (va_up _ (b + 4) (MDC E ad b g kp sv (cpA g 0 bf 0 152) sd ip sg mk td lv tl9 qs qc qw 0 0 wy de ca 0 fa sm pa9 cs.length 4)) H := hP
          have hb5 : bkP N (va_up _ (b + 4) (MDC E ad b g kp sv (cpA g 0 bf 0 152) sd ip sg mk td lv tl9 qs qc qw 0 0 wy de ca 0 fa sm pa9 cs.length 4)) b 12 (MDC E ad b g kp sv (cpA g 0 bf 0 152) sd ip sg mk td lv tl9 qs qc qw 0 0 wy de ca 0 fa sm pa9 cs.length) := MD_setA3 hb2 _
          have hfr := hfr.up (p := b + 4) (e := MDC E ad b g kp sv (cpA g 0 bf 0 152) sd ip sg mk td lv tl9 qs qc qw 0 0 wy de ca 0 fa sm pa9 cs.length 4) (by show _ ∧ _; omega)
          refine lv_aload_n hx hb dX13_execute_53 rfl (lv_at hl 1 rfl) ?_
          refine g_iconst S 1 dX13_execute_54 (by decide +kernel) ?_
          refine g_put S hI hP hS uX13 rfl tyX13 tyX13_ok nmX13 (fs := _) (hb5.lt 0 (by decide)) (hb5.2 0 (by decide)) 7 (by decide) q1794 rfl rfl (v := .int (nI (1))) rfl rfl (Nat.le_of_ble_eq_true rfl) dX13_execute_55 (fun H locs hP hS => ?_)
          have hP : gP E ad N (va_up _ (b) (MDC E ad b g kp sv (cpA g 0 bf 0 152) sd ip sg mk td lv tl9 qs qc 1 0 0 wy de ca 0 fa sm pa9 cs.length 0)) H := hP
          have hb6 : bkP N (va_up _ (b) (MDC E ad b g kp sv (cpA g 0 bf 0 152) sd ip sg mk td lv tl9 qs qc 1 0 0 wy de ca 0 fa sm pa9 cs.length 0)) b 12 (MDC E ad b g kp sv (cpA g 0 bf 0 152) sd ip sg mk td lv tl9 qs qc 1 0 0 wy de ca 0 fa sm pa9 cs.length) := MD_setO hb5 _ _ _ _ _ _ _ _ _ _ _ _ _
          have hfr := hfr.up (p := b) (e := MDC E ad b g kp sv (cpA g 0 bf 0 152) sd ip sg mk td lv tl9 qs qc 1 0 0 wy de ca 0 fa sm pa9 cs.length 0) (by show _ ∧ _; omega)
          obtain ⟨bf1, hbf1⟩ : ∃ z, z = cpA g 0 bf 0 152 := ⟨_, rfl⟩
          have hbf : ∀ j, j < 152 → bf1 j = g j := fun j hj => by rw [hbf1, cpA_at0 hj, Nat.zero_add]
          rw [← hbf1] at hb6
          (try rw [← hbf1] at hP)
          (try rw [← hbf1] at hfr)
          refine g_iconst S 0 dX13_execute_58 (by decide +kernel) ?_
          refine lv_istore_n (lv' := [(2, .int (nI (0))), (1, .int (nI (1))), (0, .ref (ad (b)))]) hx hb dX13_execute_59 rfl hl (by decide) rfl (fun ls hl => ?_)
          refine g_iconst S 0 dX13_execute_60 (by decide +kernel) ?_
          refine lv_istore_n (lv' := [(3, .int (nI (0))), (2, .int (nI (0))), (1, .int (nI (1))), (0, .ref (ad (b)))]) hx hb dX13_execute_61 rfl hl (by decide) rfl (fun ls hl => ?_)
          have loop7 : ∀ (fz : Nat) (i : Nat) (gt : Int32) (g1 : Nat → Nat) (mk1 : Nat → Nat) (sd1 : Nat → Nat) (qd1 : Nat) (S1 : Sh), cs.length + 1 - i < fz → (i ≤ cs.length) → (mRS g1 S1) → (shQ S1) → (rnL cs 0 (ht, dr, pg, wt, wr, mo, mc, ni, po, dn) = rnL (cs.drop i) i S1) → ∀ (w1 : Nat → va_E) (H : Heap) (locs : List Loc), gP E ad N w1 H → va_S (gA E) s.heap H locs → bkP N w1 b 12 (MDC E ad b g1 kp sv bf1 sd1 ip sg mk1 td lv tl9 qs qc 1 qd1 0 wy de ca 0 fa sm pa9 cs.length) → gFr (gIn b 12) w w1 → ∀ (ls : Array Slot), lv_has ls 4 [(3, .int (gt)), (2, .int (nI (i))), (0, .ref (ad (b)))] → W p l e (headSpec (lw_ws yX13_execute cX13_execute 4 (some .int)) ({ frames := 8, cells := 0, slots := 0, locals := 181 } : Room)).room s m ([.ref (ad (b))] : List Value).toArray below meth cd H locs 0 0 (MQ below (va_Qi (fun r w' => (((rdP ln ip 60 0 0).1 = none ∧ (rnL (rdP ln ip 60 0 0).2 0 (ht, dr, pg, wt, wr, mo, mc, ni, po, dn)).1 = none ∧ r = nI (rdP ln ip 60 0 0).2.length ∧ ∃ (g' bf' mk' sd' tl' : Nat → Nat) (pa' tm' qd' : Nat), mRS g' (rnL (rdP ln ip 60 0 0).2 0 (ht, dr, pg, wt, wr, mo, mc, ni, po, dn)).2 ∧ (∀ j, j < 152 → bf' j = g j) ∧ bkP N w' b 12 (MDC E ad b g' (kpK kp qc bf') sv bf' sd' ip sg mk' td lv tl' qs (kpC qc) qw qd' 0 wy de ca 0 fa sm pa' tm')) ∨ ((rdP ln ip 60 0 0).1 = none ∧ ∃ (i : Nat) (r0 : Int32) (g' bf' mk' sd' tl' : Nat → Nat) (pa' tm' : Nat), (rnL (rdP ln ip 60 0 0).2 0 (ht, dr, pg, wt, wr, mo, mc, ni, po, dn)).1 = some (i, r0) ∧ mRS g' (ht, dr, pg, wt, wr, mo, mc, ni, po, dn) ∧ bkP N w' b 12 (MDC E ad b g' kp sv bf' sd' ip sg mk' td lv tl' qs qc qw 1 2 7 (nI i) (rnD r0) 0 fa sm pa' tm')) ∨ (∃ (q : Nat) (tl' : Nat → Nat) (pa' tm' : Nat), (rdP ln ip 60 0 0).1 = some q ∧ bkP N w' b 12 (MDC E ad b g kp sv bf sd ip sg mk td lv tl' qs qc qw 0 1 wy de ca 0 (some q) sm pa' tm'))) ∧ gFr (gIn b 12) w w') (gB E ad N) (gA E)) ([.ref (ad (b))] : List Value).toArray s 0 0 (gA E)) (F0 m 62 ls []) := by
            intro fz
            induction fz with
            | zero => intro i gt g1 mk1 sd1 qd1 S1 hmeas; omega
            | succ fz ih_loop7 =>
              intro i gt g1 mk1 sd1 qd1 S1 hmeas hi hR1 hQ1 hrn w1 H locs hP hS hb8 hfr ls hl
              refine lv_iload_n hx hb dX13_execute_62 rfl (lv_at hl 1 rfl) ?_
              refine lv_aload_n hx hb dX13_execute_63 rfl (lv_at hl 2 rfl) ?_
              refine g_get S hI hP uX13 rfl (fs := _) (hb8.lt 0 (by decide)) (hb8.2 0 (by decide)) 23 (by decide) q1810 rfl (v := .int (nI (cs.length))) rfl dX13_execute_64 ?_
              refine g_ge S (a := i) (b := cs.length) (by omega) (by omega) (tgt := 98) dX13_execute_67 (by decide) (fun h => ?_) (fun h => ?_)
              · have ei : i = cs.length := by omega
                have hdr : cs.drop i = [] := List.drop_eq_nil_of_le (by omega)
                rw [hdr] at hrn
                refine lv_aload_n hx hb dX13_execute_98 rfl (lv_at hl 2 rfl) ?_
                refine g_iconst S 0 dX13_execute_99 (by decide +kernel) ?_
                refine g_put S hI hP hS uX13 rfl tyX13 tyX13_ok nmX13 (fs := _) (hb8.lt 0 (by decide)) (hb8.2 0 (by decide)) 7 (by decide) q1794 rfl rfl (v := .int (nI (0))) rfl rfl (Nat.le_of_ble_eq_true rfl) dX13_execute_100 (fun H locs hP hS => ?_)
                have hP : gP E ad N (va_up _ (b) (MDC E ad b g1 kp sv bf1 sd1 ip sg mk1 td lv tl9 qs qc 0 qd1 0 wy de ca 0 fa sm pa9 cs.length 0)) H := hP
                have hb9 : bkP N (va_up _ (b) (MDC E ad b g1 kp sv bf1 sd1 ip sg mk1 td lv tl9 qs qc 0 qd1 0 wy de ca 0 fa sm pa9 cs.length 0)) b 12 (MDC E ad b g1 kp sv bf1 sd1 ip sg mk1 td lv tl9 qs qc 0 qd1 0 wy de ca 0 fa sm pa9 cs.length) := MD_setO hb8 _ _ _ _ _ _ _ _ _ _ _ _ _
                have hfr := hfr.up (p := b) (e := MDC E ad b g1 kp sv bf1 sd1 ip sg mk1 td lv tl9 qs qc 0 qd1 0 wy de ca 0 fa sm pa9 cs.length 0) (by show _ ∧ _; omega)
                refine lv_aload_n hx hb dX13_execute_103 rfl (lv_at hl 2 rfl) ?_
                refine g_get S hI hP uX13 rfl (fs := _) (hb9.lt 0 (by decide)) (hb9.2 0 (by decide)) 9 (by decide) q1796 rfl (v := .int (nI (0))) rfl dX13_execute_104 ?_
                refine g_ifle S (a := 0) (by omega) (tgt := 139) dX13_execute_107 (by decide) (fun hco2 => ?_) (fun hco2 => ?_)
                · refine lv_aload_n hx hb dX13_execute_139 rfl (lv_at hl 2 rfl) ?_
                  refine lv_aload_n hx hb dX13_execute_140 rfl (lv_at hl 2 rfl) ?_
                  refine g_get S hI hP uX13 rfl (fs := _) (hb9.lt 0 (by decide)) (hb9.2 0 (by decide)) 3 (by decide) q1790 rfl (v := .ref (ad (b + 4))) rfl dX13_execute_141 ?_
                  refine g_afv (g_runV S hI hP hS (k := 1) (As := [.ref (ad (b + 4))]) (rest := []) (mX13_keepsB l b g1 kp sv bf1 sd1 ip sg mk1 td lv tl9 qs qc 0 qd1 0 wy de ca 0 fa sm pa9 cs.length hb9 (by decide) hqc) q1890 q1892 q52 q100 q1893 rfl rfl (by decide +kernel) ⟨Nat.le_of_ble_eq_true rfl, Nat.le_of_ble_eq_true rfl⟩ rfl (hb9.lt 0 (by decide)) (hb9.2 0 (by decide)) rfl hl.1 rfl (Nat.le_of_ble_eq_true rfl) ⟨(Nat.le_of_ble_eq_true rfl), (Nat.le_of_ble_eq_true rfl)⟩ dX13_execute_144) hS (fun w1 H locs hq hP hS => ?_)
                  obtain ⟨hb10, hf11⟩ := hq
                  have hfr := hfr.trans hf11 (fun q hq => by (try simp only [gIn] at hq ⊢); (try dsimp only at hq ⊢); omega)
                  refine lv_aload_n hx hb dX13_execute_147 rfl (lv_at hl 2 rfl) ?_
                  refine g_get S hI hP uX13 rfl (fs := _) (hb10.lt 0 (by decide)) (hb10.2 0 (by decide)) 23 (by decide) q1810 rfl (v := .int (nI (cs.length))) rfl dX13_execute_148 ?_
                  exact g_iret S hr hlocks hP hS (⟨Or.inl ⟨hp1, by rw [← hcse, hrn]; rfl, by rw [← hcse], g1, bf1, _, _, _, _, _, _, by rw [← hcse, hrn]; exact hR1, hbf, by rw [hqw0]; exact hb10⟩, hfr⟩) (fun _ _ => rfl) (Nat.le_of_ble_eq_true rfl) (Nat.le_of_ble_eq_true rfl) dX13_execute_151
                · omega
              · refine lv_aload_n hx hb dX13_execute_70 rfl (lv_at hl 2 rfl) ?_
                refine g_get S hI hP uX13 rfl (fs := _) (hb8.lt 0 (by decide)) (hb8.2 0 (by decide)) 9 (by decide) q1796 rfl (v := .int (nI (0))) rfl dX13_execute_71 ?_
                refine g_ifne S (a := 0) (by omega) (tgt := 98) dX13_execute_74 (by decide) (fun hcz => ?_) (fun hcz => ?_)
                · omega
                · obtain ⟨v, t, hv10, hdr, hrl⟩ := tCs_at cs 0 i hcs h
                  rw [Nat.zero_add] at hrl
                  obtain ⟨q1, q2, q3, q4, q5⟩ := id hQ1
                  have hok : cmOk (cmO v t) := ⟨hv10, fun j e => cellV_lt e⟩
                  refine lv_aload_n hx hb dX13_execute_77 rfl (lv_at hl 2 rfl) ?_
                  refine g_iconst S 4 dX13_execute_78 (by decide +kernel) ?_
                  refine lv_iload_n hx hb dX13_execute_79 rfl (lv_at hl 1 rfl) ?_
                  refine g_imul S dX13_execute_80 ?_
                  refine g_afi (g_runV S hI hP hS (k := 1) (As := [.int (nI (4 * i))]) (rest := []) (mX13_carries l b g1 kp sv bf1 sd1 ip sg mk1 td lv tl9 qs qc 1 qd1 0 wy de ca 0 fa sm pa9 cs.length S1.1 S1.2.1 S1.2.2.1 S1.2.2.2.1 S1.2.2.2.2.1 S1.2.2.2.2.2.1 S1.2.2.2.2.2.2.1 S1.2.2.2.2.2.2.2.1 S1.2.2.2.2.2.2.2.2.1 S1.2.2.2.2.2.2.2.2.2 i v t hb8 hR1 q1 q2 q3 q4 q5 (by decide) hqc hv10 (by omega) hwy hrl) q2184 q2186 q77 q100 q2187 rfl rfl (by decide +kernel) ⟨Nat.le_of_ble_eq_true rfl, Nat.le_of_ble_eq_true rfl⟩ rfl (hb8.lt 0 (by decide)) (hb8.2 0 (by decide)) rfl hl.1 rfl (Nat.le_of_ble_eq_true rfl) ⟨(Nat.le_of_ble_eq_true rfl), (Nat.le_of_ble_eq_true rfl)⟩ dX13_execute_81) hS (fun rz w1 H locs hq hP hS => ?_)
                  obtain ⟨hq8, hf8⟩ := hq
                  have hfr := hfr.trans hf8 (fun q hq => hq)
                  rcases hq8 with ⟨e0, g8, mk8, sd8, k8, u8, qd8, hck8, hR8, hb8⟩ | ⟨hnz, co9, qd9, wy9, ca9, de9, hc0, hc4, hqd9, hwy9, hrd, hr8, hb8⟩
                  · rw [if_neg (by decide), if_neg (by decide)] at hb8
                    refine lv_istore_n (lv' := [(3, .int (rz)), (2, .int (nI (i))), (0, .ref (ad (b)))]) hx hb dX13_execute_84 rfl hl (by decide) rfl (fun ls hl => ?_)
                    refine lv_aload_n hx hb dX13_execute_85 rfl (lv_at hl 2 rfl) ?_
                    refine g_get S hI hP uX13 rfl (fs := _) (hb8.lt 0 (by decide)) (hb8.2 0 (by decide)) 9 (by decide) q1796 rfl (v := .int (nI (0))) rfl dX13_execute_86 ?_
                    refine g_ifne S (a := 0) (by omega) (tgt := 62) dX13_execute_89 (by decide) (fun hcn => ?_) (fun hcn => ?_)
                    · omega
                    · refine lv_iinc (v := nI (i + 1)) (lv' := [(2, .int (nI (i + 1))), (3, .int (rz)), (0, .ref (ad (b)))]) hx hb dX13_execute_92 hl (k := 1) rfl (g_inc _ 1 (by decide +kernel)) (by decide) rfl (fun ls hl => ?_)
                      refine lv_goto (tgt := 62) hx hb dX13_execute_95 (by decide) ?_
                      have hcan := cmK_can hck8 hok.2
                      rw [cmS_one hv10 hck8 hcan] at hR8
                      exact ih_loop7 (i + 1) (rz) (g8) (mk8) (sd8) (qd8) ((cmY (cmO v t) S1).2) (by omega) (by omega) (hR8) (cmY_q hQ1 hok e0) (by rw [hrn, hdr]; show (if _ then _ else _) = _; rw [if_pos (show cmRS (cmO v t) S1 = nI 0 from e0)]) _ _ _ hP hS hb8 hfr ls (lv_sub hl [1, 0, 2] rfl)
                  · refine lv_istore_n (lv' := [(3, .int (rz)), (2, .int (nI (i))), (0, .ref (ad (b)))]) hx hb dX13_execute_84 rfl hl (by decide) rfl (fun ls hl => ?_)
                    refine lv_aload_n hx hb dX13_execute_85 rfl (lv_at hl 2 rfl) ?_
                    refine g_get S hI hP uX13 rfl (fs := _) (hb8.lt 0 (by decide)) (hb8.2 0 (by decide)) 9 (by decide) q1796 rfl (v := .int (nI (co9))) rfl dX13_execute_86 ?_
                    refine g_ifne S (a := co9) (by omega) (tgt := 62) dX13_execute_89 (by decide) (fun hcn => ?_) (fun hcn => ?_)
                    · refine lv_iload_n hx hb dX13_execute_62 rfl (lv_at hl 1 rfl) ?_
                      refine lv_aload_n hx hb dX13_execute_63 rfl (lv_at hl 2 rfl) ?_
                      refine g_get S hI hP uX13 rfl (fs := _) (hb8.lt 0 (by decide)) (hb8.2 0 (by decide)) 23 (by decide) q1810 rfl (v := .int (nI (cs.length))) rfl dX13_execute_64 ?_
                      refine g_ge S (a := i) (b := cs.length) (by omega) (by omega) (tgt := 98) dX13_execute_67 (by decide) (fun h3 => ?_) (fun h3 => ?_)
                      · omega
                      · refine lv_aload_n hx hb dX13_execute_70 rfl (lv_at hl 2 rfl) ?_
                        refine g_get S hI hP uX13 rfl (fs := _) (hb8.lt 0 (by decide)) (hb8.2 0 (by decide)) 9 (by decide) q1796 rfl (v := .int (nI (co9))) rfl dX13_execute_71 ?_
                        refine g_ifne S (a := co9) (by omega) (tgt := 98) dX13_execute_74 (by decide) (fun h4 => ?_) (fun h4 => ?_)
                        · refine lv_aload_n hx hb dX13_execute_98 rfl (lv_at hl 2 rfl) ?_
                          refine g_iconst S 0 dX13_execute_99 (by decide +kernel) ?_
                          refine g_put S hI hP hS uX13 rfl tyX13 tyX13_ok nmX13 (fs := _) (hb8.lt 0 (by decide)) (hb8.2 0 (by decide)) 7 (by decide) q1794 rfl rfl (v := .int (nI (0))) rfl rfl (Nat.le_of_ble_eq_true rfl) dX13_execute_100 (fun H locs hP hS => ?_)
                          have hP : gP E ad N (va_up _ (b) (MDC E ad b g1 kp sv bf1 sd1 ip sg mk1 td lv tl9 qs qc 0 qd9 co9 wy9 de9 ca9 0 fa sm pa9 cs.length 0)) H := hP
                          have hb12 : bkP N (va_up _ (b) (MDC E ad b g1 kp sv bf1 sd1 ip sg mk1 td lv tl9 qs qc 0 qd9 co9 wy9 de9 ca9 0 fa sm pa9 cs.length 0)) b 12 (MDC E ad b g1 kp sv bf1 sd1 ip sg mk1 td lv tl9 qs qc 0 qd9 co9 wy9 de9 ca9 0 fa sm pa9 cs.length) := MD_setO hb8 _ _ _ _ _ _ _ _ _ _ _ _ _
                          have hfr := hfr.up (p := b) (e := MDC E ad b g1 kp sv bf1 sd1 ip sg mk1 td lv tl9 qs qc 0 qd9 co9 wy9 de9 ca9 0 fa sm pa9 cs.length 0) (by show _ ∧ _; omega)
                          refine lv_aload_n hx hb dX13_execute_103 rfl (lv_at hl 2 rfl) ?_
                          refine g_get S hI hP uX13 rfl (fs := _) (hb12.lt 0 (by decide)) (hb12.2 0 (by decide)) 9 (by decide) q1796 rfl (v := .int (nI (co9))) rfl dX13_execute_104 ?_
                          refine g_ifle S (a := co9) (by omega) (tgt := 139) dX13_execute_107 (by decide) (fun hco2 => ?_) (fun hco2 => ?_)
                          · omega
                          · refine lv_aload_n hx hb dX13_execute_110 rfl (lv_at hl 2 rfl) ?_
                            refine g_get S hI hP uX13 rfl (fs := _) (hb12.lt 0 (by decide)) (hb12.2 0 (by decide)) 3 (by decide) q1790 rfl (v := .ref (ad (b + 4))) rfl dX13_execute_111 ?_
                            refine g_iconst S 0 dX13_execute_114 (by decide +kernel) ?_
                            refine lv_aload_n hx hb dX13_execute_115 rfl (lv_at hl 2 rfl) ?_
                            refine g_get S hI hP uX13 rfl (fs := _) (hb12.lt 0 (by decide)) (hb12.2 0 (by decide)) 0 (by decide) q1787 rfl (v := .ref (ad (b + 1))) rfl dX13_execute_116 ?_
                            refine g_iconst S 0 dX13_execute_119 (by decide +kernel) ?_
                            refine g_afv (g_runS S hI hP hS (k := 4) (As := [.ref (ad (b + 4)), .int (nI (0)), .ref (ad (b + 1)), .int (nI (0))]) (rest := []) (mX13_copies l (b + 4) (b + 1) (0) (0) 152 152 bf1 g1 (hb12.lt 4 (by decide)) (hb12.lt 1 (by decide)) (by omega) (hb12.2 4 (by decide)) (hb12.2 1 (by decide)) (by omega) (by omega) (by decide) (by decide)) q1894 q1895 q100 q1896 rfl rfl (by decide +kernel) ⟨Nat.le_of_ble_eq_true rfl, Nat.le_of_ble_eq_true rfl⟩ rfl hl.1 rfl (Nat.le_of_ble_eq_true rfl) ⟨(Nat.le_of_ble_eq_true rfl), (Nat.le_of_ble_eq_true rfl)⟩ dX13_execute_120) hS (fun w1 H locs hq hP hS => ?_)
                            obtain hq := hq
                            subst hq
                            have hP : gP E ad N (va_up _ (b + 1) (MDC E ad b (cpA bf1 0 g1 0 152) kp sv bf1 sd1 ip sg mk1 td lv tl9 qs qc 0 qd9 co9 wy9 de9 ca9 0 fa sm pa9 cs.length 1)) H := hP
                            have hb13 : bkP N (va_up _ (b + 1) (MDC E ad b (cpA bf1 0 g1 0 152) kp sv bf1 sd1 ip sg mk1 td lv tl9 qs qc 0 qd9 co9 wy9 de9 ca9 0 fa sm pa9 cs.length 1)) b 12 (MDC E ad b (cpA bf1 0 g1 0 152) kp sv bf1 sd1 ip sg mk1 td lv tl9 qs qc 0 qd9 co9 wy9 de9 ca9 0 fa sm pa9 cs.length) := MD_setA0 hb12 _
                            have hfr := hfr.up (p := b + 1) (e := MDC E ad b (cpA bf1 0 g1 0 152) kp sv bf1 sd1 ip sg mk1 td lv tl9 qs qc 0 qd9 co9 wy9 de9 ca9 0 fa sm pa9 cs.length 1) (by show _ ∧ _; omega)
                            refine lv_aload_n hx hb dX13_execute_123 rfl (lv_at hl 2 rfl) ?_
                            refine lv_iload_n hx hb dX13_execute_124 rfl (lv_at hl 1 rfl) ?_
                            refine g_afi (g_runV S hI hP hS (k := 1) (As := [.int (nI (i))]) (rest := []) (mX13_deniesText l b (cpA bf1 0 g1 0 152) kp sv bf1 sd1 ip sg mk1 td lv tl9 qs qc 0 qd9 co9 wy9 de9 ca9 0 fa sm pa9 cs.length i hb13 hqd9) q2198 q2200 q78 q100 q2201 rfl rfl (by decide +kernel) ⟨Nat.le_of_ble_eq_true rfl, Nat.le_of_ble_eq_true rfl⟩ rfl (hb13.lt 0 (by decide)) (hb13.2 0 (by decide)) rfl hl.1 rfl (Nat.le_of_ble_eq_true rfl) ⟨(Nat.le_of_ble_eq_true rfl), (Nat.le_of_ble_eq_true rfl)⟩ dX13_execute_125) hS (fun rz w1 H locs hq hP hS => ?_)
                            obtain ⟨hr16, hb14, hf15⟩ := hq
                            rw [hr16]
                            have hfr := hfr.trans hf15 (fun q hq => by (try simp only [gIn] at hq ⊢); (try dsimp only at hq ⊢); omega)
                            have hRb : mRg (cpA bf1 0 g1 0 152) ht pg wt wr mo mc ni po dn := hR.cpB hm (fun j hj => by rw [cpA_at0 hj, Nat.zero_add]; exact hbf j hj)
                            rw [← hrd] at hb14
                            (try rw [← hrd] at hP)
                            (try rw [← hrd] at hfr)
                            refine lv_iload_n hx hb dX13_execute_128 rfl (lv_at hl 0 rfl) ?_
                            refine lv_if_le (tgt := 136) hx hb dX13_execute_129 (by decide) (fun hgt => ?_) (fun hgt => ?_)
                            · refine lv_iload_n hx hb dX13_execute_136 rfl (lv_at hl 0 rfl) ?_
                              refine lv_iadd hx hb dX13_execute_137 ?_
                              exact g_iret S hr hlocks hP hS (⟨Or.inr (Or.inl ⟨hp1, i, _, _, _, _, _, _, _, _, by rw [← hcse, hrn, hdr]; show (if _ then _ else _ : Option (Nat × Int32) × Sh).1 = _; rw [if_neg (show ¬ cmRS (cmO v t) S1 = nI 0 from hnz)], hRb, by rw [hqw0]; exact hb14⟩), hfr⟩) (fun _ _ => rfl) (Nat.le_of_ble_eq_true rfl) (Nat.le_of_ble_eq_true rfl) dX13_execute_138
                            · refine g_iconst S 0 dX13_execute_132 (by decide +kernel) ?_
                              refine lv_goto (tgt := 137) hx hb dX13_execute_133 (by decide) ?_
                              refine g_iadd S dX13_execute_137 ?_
                              exact g_iret S hr hlocks hP hS (⟨Or.inr (Or.inl ⟨hp1, i, _, _, _, _, _, _, _, _, by rw [← hcse, hrn, hdr]; show (if _ then _ else _ : Option (Nat × Int32) × Sh).1 = _; rw [if_neg (show ¬ cmRS (cmO v t) S1 = nI 0 from hnz)], hRb, by rw [hqw0]; exact hb14⟩), hfr⟩) (fun _ _ => rfl) (Nat.le_of_ble_eq_true rfl) (Nat.le_of_ble_eq_true rfl) dX13_execute_138
                        · omega
                    · omega
          have hQ0 : shQ (ht, dr, pg, wt, wr, mo, mc, ni, po, dn) := ⟨hht, hpg, hwr, hm, hmo⟩
          exact loop7 (cs.length + 1 - (0) + 1) (0) (0) (g) (mk) (sd) (0) ((ht, dr, pg, wt, wr, mo, mc, ni, po, dn)) (Nat.lt_succ_self _) (Nat.zero_le _) (hR) (hQ0) (rfl) _ _ _ hP hS hb6 hfr ls (lv_sub hl [0, 1, 3] rfl)
        · exact absurd hfk (by decide)
    · omega
  · rw [hr9]
    refine lv_istore_n (lv' := [(1, .int (nI (0))), (0, .ref (ad (b)))]) hx hb dX13_execute_4 rfl hl (by decide) rfl (fun ls hl => ?_)
    refine lv_iload_n hx hb dX13_execute_5 rfl (lv_at hl 0 rfl) ?_
    refine g_ifne S (a := 0) (by omega) (tgt := 17) dX13_execute_6 (by decide) (fun hz => ?_) (fun hz => ?_)
    · omega
    · refine lv_aload_n hx hb dX13_execute_9 rfl (lv_at hl 1 rfl) ?_
      refine lv_aload_n hx hb dX13_execute_10 rfl (lv_at hl 1 rfl) ?_
      refine g_get S hI hP uX13 rfl (fs := _) (hb9.lt 0 (by decide)) (hb9.2 0 (by decide)) 21 (by decide) q1808 rfl (v := .int (nI (q9))) rfl dX13_execute_11 ?_
      refine g_put S hI hP hS uX13 rfl tyX13 tyX13_ok nmX13 (fs := _) (hb9.lt 0 (by decide)) (hb9.2 0 (by decide)) 15 (by decide) q1802 rfl rfl (v := .int (nI (q9))) rfl rfl (Nat.le_of_ble_eq_true rfl) dX13_execute_14 (fun H locs hP hS => ?_)
      have hP : gP E ad N (va_up _ (b) (MDC E ad b g kp sv bf sd ip sg mk td lv tl9 qs qc qw qd co wy de ca ln (some q9) sm q9 tm9 0)) H := hP
      have hb17 : bkP N (va_up _ (b) (MDC E ad b g kp sv bf sd ip sg mk td lv tl9 qs qc qw qd co wy de ca ln (some q9) sm q9 tm9 0)) b 12 (MDC E ad b g kp sv bf sd ip sg mk td lv tl9 qs qc qw qd co wy de ca ln (some q9) sm q9 tm9) := MD_setO hb9 _ _ _ _ _ _ _ _ _ _ _ _ _
      have hfr := hfr.up (p := b) (e := MDC E ad b g kp sv bf sd ip sg mk td lv tl9 qs qc qw qd co wy de ca ln (some q9) sm q9 tm9 0) (by show _ ∧ _; omega)
      refine lv_aload_n hx hb dX13_execute_17 rfl (lv_at hl 1 rfl) ?_
      refine g_iconst S 0 dX13_execute_18 (by decide +kernel) ?_
      refine g_put S hI hP hS uX13 rfl tyX13 tyX13_ok nmX13 (fs := _) (hb17.lt 0 (by decide)) (hb17.2 0 (by decide)) 14 (by decide) q1801 rfl rfl (v := .int (nI (0))) rfl rfl (Nat.le_of_ble_eq_true rfl) dX13_execute_19 (fun H locs hP hS => ?_)
      have hP : gP E ad N (va_up _ (b) (MDC E ad b g kp sv bf sd ip sg mk td lv tl9 qs qc qw qd co wy de ca 0 (some q9) sm q9 tm9 0)) H := hP
      have hb18 : bkP N (va_up _ (b) (MDC E ad b g kp sv bf sd ip sg mk td lv tl9 qs qc qw qd co wy de ca 0 (some q9) sm q9 tm9 0)) b 12 (MDC E ad b g kp sv bf sd ip sg mk td lv tl9 qs qc qw qd co wy de ca 0 (some q9) sm q9 tm9) := MD_setO hb17 _ _ _ _ _ _ _ _ _ _ _ _ _
      have hfr := hfr.up (p := b) (e := MDC E ad b g kp sv bf sd ip sg mk td lv tl9 qs qc qw qd co wy de ca 0 (some q9) sm q9 tm9 0) (by show _ ∧ _; omega)
      refine lv_aload_n hx hb dX13_execute_22 rfl (lv_at hl 1 rfl) ?_
      refine lv_iload_n hx hb dX13_execute_23 rfl (lv_at hl 0 rfl) ?_
      refine g_ifeq S (a := 0) (by omega) (tgt := 31) dX13_execute_24 (by decide) (fun hz2 => ?_) (fun hz2 => ?_)
      · refine g_iconst S 1 dX13_execute_31 (by decide +kernel) ?_
        refine g_afi (g_runV S hI hP hS (k := 1) (As := [.int (nI (1))]) (rest := []) (mX13_fails l b g kp sv bf sd ip sg mk td lv tl9 qs qc qw qd co wy de ca 0 (some q9) sm q9 tm9 1 hb18 (by decide)) q1878 q1880 q49 q100 q1881 rfl rfl (by decide +kernel) ⟨Nat.le_of_ble_eq_true rfl, Nat.le_of_ble_eq_true rfl⟩ rfl (hb18.lt 0 (by decide)) (hb18.2 0 (by decide)) rfl hl.1 rfl (Nat.le_of_ble_eq_true rfl) ⟨(Nat.le_of_ble_eq_true rfl), (Nat.le_of_ble_eq_true rfl)⟩ dX13_execute_32) hS (fun rz w1 H locs hq hP hS => ?_)
        obtain ⟨hr21, hb19, hf20⟩ := hq
        rw [hr21]
        have hfr := hfr.trans hf20 (fun q hq => by (try simp only [gIn] at hq ⊢); (try dsimp only at hq ⊢); omega)
        refine g_beq S (b := decide (0 < 1)) (tgt := 40) dX13_execute_35 (by decide) (fun hfk => ?_) (fun hfk => ?_)
        · exact absurd hfk (by decide)
        · refine g_iconst S 0 dX13_execute_38 (by decide +kernel) ?_
          exact g_iret S hr hlocks hP hS (⟨Or.inr (Or.inr ⟨q9, _, _, _, hp1, hb19⟩), hfr⟩) (fun _ _ => rfl) (Nat.le_of_ble_eq_true rfl) (Nat.le_of_ble_eq_true rfl) dX13_execute_39
      · omega
