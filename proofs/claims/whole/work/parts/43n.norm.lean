/-! a block whose rows are known within their ranges; contracts with such a post; a copied sheet is the other one -/
theorem bkP.norm {N b n : Nat} {w C C' : Nat → va_E} (h : bkP N w b n C) (e : ∀ k, k < n → eqE (C k) (C' k)) : ∃ w', (∀ p, p < N → eqE (w p) (w' p)) ∧ bkP N w' b n C' ∧ ∀ q, ¬ (b ≤ q ∧ q < b + n) → w' q = w q := by
  refine ⟨fun q => if b ≤ q ∧ q < b + n then C' (q - b) else w q, fun p hp => ?_, ⟨h.1, fun k hk => ?_⟩, fun q hq => ?_⟩
  · show eqE (w p) (if b ≤ p ∧ p < b + n then C' (p - b) else w p)
    by_cases q : b ≤ p ∧ p < b + n
    · rw [if_pos q]
      have h1 := h.2 (p - b) (by omega)
      rw [show b + (p - b) = p by omega] at h1
      rw [h1]; exact e _ (by omega)
    · rw [if_neg q]; exact eqE.rf _
  · show (if b ≤ b + k ∧ b + k < b + n then C' (b + k - b) else w (b + k)) = C' k
    rw [if_pos ⟨by omega, by omega⟩, show b + k - b = k by omega]
  · show (if b ≤ q ∧ q < b + n then C' (q - b) else w q) = w q
    rw [if_neg hq]
theorem gMv_norm {l : Launch} {y : MethodName} {ws : List Cond} {rm : Room} {E : gE} {ad : Nat → Nat} {N : Nat} {w : Nat → va_E} {as : List Value} {post post' : (Nat → va_E) → Prop} {mc ms : Nat} (h : gMv l y ws rm E ad N w as post mc ms) (hp : ∀ w', post w' → ∃ w2, (∀ p, p < N → eqE (w' p) (w2 p)) ∧ post' w2) : gMv l y ws rm E ad N w as post' mc ms := by
  refine MetFree.mono h (fun _ _ q => q) (fun _ _ _ _ _ k => k) (fun a s o t _ q => ?_)
  obtain ⟨⟨⟨w', h1, h2, h3⟩, h4⟩, h5⟩ := q
  obtain ⟨w2, h6, h7⟩ := hp w' h2
  exact ⟨⟨⟨w2, h1, h7, gP.norm h3 h6⟩, h4⟩, h5⟩
theorem SH_norm {E : gE} {ad : Nat → Nat} {b : Nat} {ht dr pg wt wr mo ht' dr' pg' wt' wr' mo' : Nat → Nat} {mc ni po dn : Nat} (h1 : ∀ j, j < 36 → ht j = ht' j) (h2 : ∀ j, j < 36 → dr j = dr' j) (h3 : ∀ j, j < 36 → pg j = pg' j) (h4 : ∀ j, j < 36 → wt j = wt' j) (h5 : ∀ j, j < 36 → wr j = wr' j) (h6 : ∀ j, j < 4 → mo j = mo' j) : ∀ k, k < 7 → eqE (SHC E ad b ht dr pg wt wr mo mc ni po dn k) (SHC E ad b ht' dr' pg' wt' wr' mo' mc ni po dn k) := fun k hk => by
  match k, hk with
  | 0, _ => exact eqE.rf _
  | 1, _ => exact eqE.ar _ h1
  | 2, _ => exact eqE.ar _ h2
  | 3, _ => exact eqE.ar _ h3
  | 4, _ => exact eqE.ar _ h4
  | 5, _ => exact eqE.ar _ h5
  | 6, _ => exact eqE.ar _ h6
theorem mX7_copyFromN (l : Launch) {E : gE} {ad : Nat → Nat} {N : Nat} {w : Nat → va_E} (b a : Nat) (ht dr pg wt wr mo : Nat → Nat) (mc ni po dn : Nat) (ht2 dr2 pg2 wt2 wr2 mo2 : Nat → Nat) (mc2 ni2 po2 dn2 : Nat) (hb_s : bkP N w b 7 (SHC E ad b ht dr pg wt wr mo mc ni po dn)) (hb_o : bkP N w a 7 (SHC E ad a ht2 dr2 pg2 wt2 wr2 mo2 mc2 ni2 po2 dn2)) (hab : a + 7 ≤ b ∨ b + 7 ≤ a) (hpg2 : ∀ k, k < 36 → pg2 k ≤ 1) : gMv l yX7_copyFrom (lw_ws yX7_copyFrom cX7_copyFrom 3 none) ({ frames := 1, cells := 0, slots := 0, locals := 25 } : Room) E ad N w [.ref (ad b), .ref (ad a)] (fun w' => bkP N w' b 7 (SHC E ad b ht2 dr pg2 wt2 wr2 mo2 mc2 ni2 po2 dn2) ∧ gFr (gIn b 7) w w') 0 0 := by
  refine gMv_norm (mX7_copyFrom l b a ht dr pg wt wr mo mc ni po dn ht2 dr2 pg2 wt2 wr2 mo2 mc2 ni2 po2 dn2 hb_s hb_o hab hpg2) (fun w' h => ?_)
  obtain ⟨h1, h2⟩ := h
  obtain ⟨w2, g1, g2, g3⟩ := h1.norm (SH_norm (E := E) (ad := ad) (b := b) (ht' := ht2) (dr' := dr) (pg' := pg2) (wt' := wt2) (wr' := wr2) (mo' := mo2) (fun j hj => fil_in hj) (fun _ _ => rfl) (fun j hj => fil_in hj) (fun j hj => fil_in hj) (fun j hj => fil_in hj) (fun j hj => fil_in hj))
  exact ⟨w2, g1, g2, fun q hq => (g3 q hq).trans (h2 q hq)⟩
