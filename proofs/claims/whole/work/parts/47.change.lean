theorem SH_eq {E : gE} {ad ad' : Nat → Nat} {b : Nat} {ht dr pg wt wr mo : Nat → Nat} {mc ni po dn : Nat} {M : Nat} (hM : b + 7 ≤ M) (ha : ∀ p, p < M → ad p = ad' p) : ∀ k, k < 7 → SHC E ad b ht dr pg wt wr mo mc ni po dn k = SHC E ad' b ht dr pg wt wr mo mc ni po dn k := fun k hk => match k, hk with
  | 0, _ => by
    show (.inr (11, [.ref (ad (b + 1)), .ref (ad (b + 2)), .ref (ad (b + 3)), .ref (ad (b + 4)), .ref (ad (b + 5)), .ref (ad (b + 6)), .int (nI mc), .int (nI ni), .int (nI po), .int (nI dn)]) : va_E) = .inr (11, [.ref (ad' (b + 1)), .ref (ad' (b + 2)), .ref (ad' (b + 3)), .ref (ad' (b + 4)), .ref (ad' (b + 5)), .ref (ad' (b + 6)), .int (nI mc), .int (nI ni), .int (nI po), .int (nI dn)])
    rw [ha (b + 1) (by omega), ha (b + 2) (by omega), ha (b + 3) (by omega), ha (b + 4) (by omega), ha (b + 5) (by omega), ha (b + 6) (by omega)]
  | 1, _ => rfl
  | 2, _ => rfl
  | 3, _ => rfl
  | 4, _ => rfl
  | 5, _ => rfl
  | 6, _ => rfl
theorem SH_mv {E : gE} {ad ad' : Nat → Nat} {N N' b : Nat} {ht dr pg wt wr mo : Nat → Nat} {mc ni po dn : Nat} {w w' : Nat → va_E} (h : bkP N w b 7 (SHC E ad b ht dr pg wt wr mo mc ni po dn)) {M : Nat} (hM : b + 7 ≤ M) (hN : M ≤ N') (ha : ∀ p, p < M → ad p = ad' p) (hw : ∀ p, b ≤ p → p < b + 7 → w' p = w p) : bkP N' w' b 7 (SHC E ad' b ht dr pg wt wr mo mc ni po dn) :=
  ⟨by omega, fun k hk => by rw [hw _ (by omega) (by omega), h.2 k hk]; exact SH_eq hM ha k hk⟩
theorem FL_eq {E : gE} {ad ad' : Nat → Nat} {b : Nat} {re ce : Nat → Nat} {rc tc : Nat} {M : Nat} (hM : b + 3 ≤ M) (ha : ∀ p, p < M → ad p = ad' p) : ∀ k, k < 3 → FLC E ad b re ce rc tc k = FLC E ad' b re ce rc tc k := fun k hk => match k, hk with
  | 0, _ => by
    show (.inr (7, [.ref (ad (b + 1)), .ref (ad (b + 2)), .int (nI rc), .int (nI tc)]) : va_E) = .inr (7, [.ref (ad' (b + 1)), .ref (ad' (b + 2)), .int (nI rc), .int (nI tc)])
    rw [ha (b + 1) (by omega), ha (b + 2) (by omega)]
  | 1, _ => rfl
  | 2, _ => rfl
theorem FL_mv {E : gE} {ad ad' : Nat → Nat} {N N' b : Nat} {re ce : Nat → Nat} {rc tc : Nat} {w w' : Nat → va_E} (h : bkP N w b 3 (FLC E ad b re ce rc tc)) {M : Nat} (hM : b + 3 ≤ M) (hN : M ≤ N') (ha : ∀ p, p < M → ad p = ad' p) (hw : ∀ p, b ≤ p → p < b + 3 → w' p = w p) : bkP N' w' b 3 (FLC E ad' b re ce rc tc) :=
  ⟨by omega, fun k hk => by rw [hw _ (by omega) (by omega), h.2 k hk]; exact FL_eq hM ha k hk⟩
theorem CQ_eq {E : gE} {ad ad' : Nat → Nat} {b : Nat} {wa ke : Nat → Nat} {M : Nat} (hM : b + 3 ≤ M) (ha : ∀ p, p < M → ad p = ad' p) : ∀ k, k < 3 → CQC E ad b wa ke k = CQC E ad' b wa ke k := fun k hk => match k, hk with
  | 0, _ => by
    show (.inr (5, [.ref (ad (b + 1)), .ref (ad (b + 2))]) : va_E) = .inr (5, [.ref (ad' (b + 1)), .ref (ad' (b + 2))])
    rw [ha (b + 1) (by omega), ha (b + 2) (by omega)]
  | 1, _ => rfl
  | 2, _ => rfl
theorem CQ_mv {E : gE} {ad ad' : Nat → Nat} {N N' b : Nat} {wa ke : Nat → Nat} {w w' : Nat → va_E} (h : bkP N w b 3 (CQC E ad b wa ke)) {M : Nat} (hM : b + 3 ≤ M) (hN : M ≤ N') (ha : ∀ p, p < M → ad p = ad' p) (hw : ∀ p, b ≤ p → p < b + 3 → w' p = w p) : bkP N' w' b 3 (CQC E ad' b wa ke) :=
  ⟨by omega, fun k hk => by rw [hw _ (by omega) (by omega), h.2 k hk]; exact CQ_eq hM ha k hk⟩
theorem UN_eq {E : gE} {ad ad' : Nat → Nat} {b : Nat} {pa : Nat → Nat} {M : Nat} (hM : b + 2 ≤ M) (ha : ∀ p, p < M → ad p = ad' p) : ∀ k, k < 2 → UNC E ad b pa k = UNC E ad' b pa k := fun k hk => match k, hk with
  | 0, _ => by
    show (.inr (14, [.ref (ad (b + 1))]) : va_E) = .inr (14, [.ref (ad' (b + 1))])
    rw [ha (b + 1) (by omega)]
  | 1, _ => rfl
theorem UN_mv {E : gE} {ad ad' : Nat → Nat} {N N' b : Nat} {pa : Nat → Nat} {w w' : Nat → va_E} (h : bkP N w b 2 (UNC E ad b pa)) {M : Nat} (hM : b + 2 ≤ M) (hN : M ≤ N') (ha : ∀ p, p < M → ad p = ad' p) (hw : ∀ p, b ≤ p → p < b + 2 → w' p = w p) : bkP N' w' b 2 (UNC E ad' b pa) :=
  ⟨by omega, fun k hk => by rw [hw _ (by omega) (by omega), h.2 k hk]; exact UN_eq hM ha k hk⟩
theorem RG_eq {E : gE} {ad ad' : Nat → Nat} {b : Nat} {M : Nat} (hM : b + 8 ≤ M) (ha : ∀ p, p < M → ad p = ad' p) : ∀ k, k < 1 → RGC E ad b  k = RGC E ad' b  k := fun k hk => match k, hk with
  | 0, _ => by
    show (.inr (9, [.ref (ad (b + 1)), .ref (ad (b + 4)), .ref (ad (b + 6)), .ref (ad (b + 7))]) : va_E) = .inr (9, [.ref (ad' (b + 1)), .ref (ad' (b + 4)), .ref (ad' (b + 6)), .ref (ad' (b + 7))])
    rw [ha (b + 1) (by omega), ha (b + 4) (by omega), ha (b + 6) (by omega), ha (b + 7) (by omega)]
theorem RG_mv {E : gE} {ad ad' : Nat → Nat} {N N' b : Nat} {w w' : Nat → va_E} (h : bkP N w b 1 (RGC E ad b )) {M : Nat} (hM : b + 8 ≤ M) (hN : M ≤ N') (ha : ∀ p, p < M → ad p = ad' p) (hw : ∀ p, b ≤ p → p < b + 1 → w' p = w p) : bkP N' w' b 1 (RGC E ad' b ) :=
  ⟨by omega, fun k hk => by rw [hw _ (by omega) (by omega), h.2 k hk]; exact RG_eq hM ha k hk⟩
theorem RK_eq {E : gE} {ad ad' : Nat → Nat} {b : Nat} {ra rk : Nat → Nat} {M : Nat} (hM : b + 2 ≤ M) (ha : ∀ p, p < M → ad p = ad' p) : ∀ k, k < 2 → RKC E ad b ra rk k = RKC E ad' b ra rk k := fun k hk => match k, hk with
  | 0, _ => rfl
  | 1, _ => rfl
theorem RK_mv {E : gE} {ad ad' : Nat → Nat} {N N' b : Nat} {ra rk : Nat → Nat} {w w' : Nat → va_E} (h : bkP N w b 2 (RKC E ad b ra rk)) {M : Nat} (hM : b + 2 ≤ M) (hN : M ≤ N') (ha : ∀ p, p < M → ad p = ad' p) (hw : ∀ p, b ≤ p → p < b + 2 → w' p = w p) : bkP N' w' b 2 (RKC E ad' b ra rk) :=
  ⟨by omega, fun k hk => by rw [hw _ (by omega) (by omega), h.2 k hk]; exact RK_eq hM ha k hk⟩
theorem SL_eq {E : gE} {ad ad' : Nat → Nat} {b : Nat} {M : Nat} (hM : b + 5 ≤ M) (ha : ∀ p, p < M → ad p = ad' p) : ∀ k, k < 1 → SLC E ad b  k = SLC E ad' b  k := fun k hk => match k, hk with
  | 0, _ => by
    show (.inr (12, [.ref (ad (b + 1)), .ref (ad (b + 4))]) : va_E) = .inr (12, [.ref (ad' (b + 1)), .ref (ad' (b + 4))])
    rw [ha (b + 1) (by omega), ha (b + 4) (by omega)]
theorem SL_mv {E : gE} {ad ad' : Nat → Nat} {N N' b : Nat} {w w' : Nat → va_E} (h : bkP N w b 1 (SLC E ad b )) {M : Nat} (hM : b + 5 ≤ M) (hN : M ≤ N') (ha : ∀ p, p < M → ad p = ad' p) (hw : ∀ p, b ≤ p → p < b + 1 → w' p = w p) : bkP N' w' b 1 (SLC E ad' b ) :=
  ⟨by omega, fun k hk => by rw [hw _ (by omega) (by omega), h.2 k hk]; exact SL_eq hM ha k hk⟩
theorem LV_eq {E : gE} {ad ad' : Nat → Nat} {b : Nat} {lv : Nat → Nat} {M : Nat} (hM : b + 1 ≤ M) (ha : ∀ p, p < M → ad p = ad' p) : ∀ k, k < 1 → LVC E ad b lv k = LVC E ad' b lv k := fun k hk => match k, hk with
  | 0, _ => rfl
theorem LV_mv {E : gE} {ad ad' : Nat → Nat} {N N' b : Nat} {lv : Nat → Nat} {w w' : Nat → va_E} (h : bkP N w b 1 (LVC E ad b lv)) {M : Nat} (hM : b + 1 ≤ M) (hN : M ≤ N') (ha : ∀ p, p < M → ad p = ad' p) (hw : ∀ p, b ≤ p → p < b + 1 → w' p = w p) : bkP N' w' b 1 (LVC E ad' b lv) :=
  ⟨by omega, fun k hk => by rw [hw _ (by omega) (by omega), h.2 k hk]; exact LV_eq hM ha k hk⟩
theorem RT_eq {E : gE} {ad ad' : Nat → Nat} {b : Nat} {pn : Nat} {M : Nat} (hM : b + 11 ≤ M) (ha : ∀ p, p < M → ad p = ad' p) : ∀ k, k < 1 → RTC E ad b pn k = RTC E ad' b pn k := fun k hk => match k, hk with
  | 0, _ => by
    show (.inr (10, [.ref (ad (b + 1)), .ref (ad (b + 4)), .ref (ad (b + 7)), .ref (ad (b + 9)), .ref (ad (b + 10)), .int (nI pn)]) : va_E) = .inr (10, [.ref (ad' (b + 1)), .ref (ad' (b + 4)), .ref (ad' (b + 7)), .ref (ad' (b + 9)), .ref (ad' (b + 10)), .int (nI pn)])
    rw [ha (b + 1) (by omega), ha (b + 4) (by omega), ha (b + 7) (by omega), ha (b + 9) (by omega), ha (b + 10) (by omega)]
theorem RT_mv {E : gE} {ad ad' : Nat → Nat} {N N' b : Nat} {pn : Nat} {w w' : Nat → va_E} (h : bkP N w b 1 (RTC E ad b pn)) {M : Nat} (hM : b + 11 ≤ M) (hN : M ≤ N') (ha : ∀ p, p < M → ad p = ad' p) (hw : ∀ p, b ≤ p → p < b + 1 → w' p = w p) : bkP N' w' b 1 (RTC E ad' b pn) :=
  ⟨by omega, fun k hk => by rw [hw _ (by omega) (by omega), h.2 k hk]; exact RT_eq hM ha k hk⟩
theorem PR_eq {E : gE} {ad ad' : Nat → Nat} {b : Nat} {pq : Nat → Nat} {M : Nat} (hM : b + 1 ≤ M) (ha : ∀ p, p < M → ad p = ad' p) : ∀ k, k < 1 → PRC E ad b pq k = PRC E ad' b pq k := fun k hk => match k, hk with
  | 0, _ => rfl
theorem PR_mv {E : gE} {ad ad' : Nat → Nat} {N N' b : Nat} {pq : Nat → Nat} {w w' : Nat → va_E} (h : bkP N w b 1 (PRC E ad b pq)) {M : Nat} (hM : b + 1 ≤ M) (hN : M ≤ N') (ha : ∀ p, p < M → ad p = ad' p) (hw : ∀ p, b ≤ p → p < b + 1 → w' p = w p) : bkP N' w' b 1 (PRC E ad' b pq) :=
  ⟨by omega, fun k hk => by rw [hw _ (by omega) (by omega), h.2 k hk]; exact PR_eq hM ha k hk⟩
theorem DM_eq {E : gE} {ad ad' : Nat → Nat} {b : Nat} {sv : Nat} {fp : Option Nat} {dq : Option Nat} {dd : Int32} {dc : Option Nat} {M : Nat} (hM : b + 115 ≤ M) (ha : ∀ p, p < M → ad p = ad' p) : ∀ k, k < 1 → DMC E ad b sv fp dq dd dc k = DMC E ad' b sv fp dq dd dc k := fun k hk => match k, hk with
  | 0, _ => by
    show (.inr (15, [.ref (ad (b + 1)), .ref (ad (b + 8)), .ref (ad (b + 15)), .ref (ad (b + 22)), .ref (ad (b + 29)), .ref (ad (b + 87)), .ref (ad (b + 95)), .ref (ad (b + 100)), .ref (ad (b + 111)), .ref (ad (b + 114)), .int (nI sv), .int (oI fp), .int (oI dq), .int dd, .int (oI dc)]) : va_E) = .inr (15, [.ref (ad' (b + 1)), .ref (ad' (b + 8)), .ref (ad' (b + 15)), .ref (ad' (b + 22)), .ref (ad' (b + 29)), .ref (ad' (b + 87)), .ref (ad' (b + 95)), .ref (ad' (b + 100)), .ref (ad' (b + 111)), .ref (ad' (b + 114)), .int (nI sv), .int (oI fp), .int (oI dq), .int dd, .int (oI dc)])
    rw [ha (b + 1) (by omega), ha (b + 8) (by omega), ha (b + 15) (by omega), ha (b + 22) (by omega), ha (b + 29) (by omega), ha (b + 87) (by omega), ha (b + 95) (by omega), ha (b + 100) (by omega), ha (b + 111) (by omega), ha (b + 114) (by omega)]
theorem DM_mv {E : gE} {ad ad' : Nat → Nat} {N N' b : Nat} {sv : Nat} {fp : Option Nat} {dq : Option Nat} {dd : Int32} {dc : Option Nat} {w w' : Nat → va_E} (h : bkP N w b 1 (DMC E ad b sv fp dq dd dc)) {M : Nat} (hM : b + 115 ≤ M) (hN : M ≤ N') (ha : ∀ p, p < M → ad p = ad' p) (hw : ∀ p, b ≤ p → p < b + 1 → w' p = w p) : bkP N' w' b 1 (DMC E ad' b sv fp dq dd dc) :=
  ⟨by omega, fun k hk => by rw [hw _ (by omega) (by omega), h.2 k hk]; exact DM_eq hM ha k hk⟩
theorem HS_eq {E : gE} {ad ad' : Nat → Nat} {b : Nat} {pl ct : Nat} {M : Nat} (hM : b + 2 ≤ M) (ha : ∀ p, p < M → ad p = ad' p) : ∀ k, k < 1 → HSC E ad b pl ct k = HSC E ad' b pl ct k := fun k hk => match k, hk with
  | 0, _ => by
    show (.inr (8, [.ref (ad (b + 1)), .int (nI pl), .int (nI ct)]) : va_E) = .inr (8, [.ref (ad' (b + 1)), .int (nI pl), .int (nI ct)])
    rw [ha (b + 1) (by omega)]
theorem HS_mv {E : gE} {ad ad' : Nat → Nat} {N N' b : Nat} {pl ct : Nat} {w w' : Nat → va_E} (h : bkP N w b 1 (HSC E ad b pl ct)) {M : Nat} (hM : b + 2 ≤ M) (hN : M ≤ N') (ha : ∀ p, p < M → ad p = ad' p) (hw : ∀ p, b ≤ p → p < b + 1 → w' p = w p) : bkP N' w' b 1 (HSC E ad' b pl ct) :=
  ⟨by omega, fun k hk => by rw [hw _ (by omega) (by omega), h.2 k hk]; exact HS_eq hM ha k hk⟩
theorem CM_eq {E : gE} {ad ad' : Nat → Nat} {b : Nat} {kk : Nat → Nat} {vb : Nat} {o : Option Nat} {v : Int32} {M : Nat} (hM : b + 1 ≤ M) (ha : ∀ p, p < M → ad p = ad' p) : ∀ k, k < 1 → CMC E ad b kk vb o v k = CMC E ad' b kk vb o v k := fun k hk => match k, hk with
  | 0, _ => rfl
theorem CM_mv {E : gE} {ad ad' : Nat → Nat} {N N' b : Nat} {kk : Nat → Nat} {vb : Nat} {o : Option Nat} {v : Int32} {w w' : Nat → va_E} (h : bkP N w b 1 (CMC E ad b kk vb o v)) {M : Nat} (hM : b + 1 ≤ M) (hN : M ≤ N') (ha : ∀ p, p < M → ad p = ad' p) (hw : ∀ p, b ≤ p → p < b + 1 → w' p = w p) : bkP N' w' b 1 (CMC E ad' b kk vb o v) :=
  ⟨by omega, fun k hk => by rw [hw _ (by omega) (by omega), h.2 k hk]; exact CM_eq hM ha k hk⟩
theorem hsP.mv {E : gE} {ad ad' : Nat → Nat} {N N' h pl ct : Nat} {K : Nat → Sh} {w w' : Nat → va_E} (hh : hsP E ad N w h pl ct K) {M : Nat} (hM : h + 58 ≤ M) (hN : M ≤ N') (ha : ∀ p, p < M → ad p = ad' p) (hw : ∀ p, h ≤ p → p < h + 58 → w' p = w p) : hsP E ad' N' w' h pl ct K := by
  refine ⟨HS_mv hh.1 (M := M) (by omega) hN ha (fun p h1 h2 => hw p h1 (by omega)), by omega, ?_, fun j hj => SH_mv (hh.2.2.2 j hj) (M := M) (by omega) hN ha (fun p h1 h2 => hw p (by omega) (by omega))⟩
  rw [hw _ (by omega) (by omega), hh.2.2.1]
  unfold hsA
  have e : (fun j => if j < 8 then some (ad (h + 2 + 7 * j)) else none) = (fun j => if j < 8 then some (ad' (h + 2 + 7 * j)) else none) := by
    funext j
    by_cases q : j < 8
    · rw [if_pos q, if_pos q, ha _ (by omega)]
    · rw [if_neg q, if_neg q]
  rw [e]
theorem cmR_cases {ht pg wr mo : Nat → Nat} {mc vb : Nat} {o : Option Nat} {v : Int32} : cmR ht pg wr mo mc vb o v = -1 ∨ cmR ht pg wr mo mc vb o v = -2 ∨ ∃ n, n < 7 ∧ cmR ht pg wr mo mc vb o v = nI n ∧ (n = 5 → ∃ k, o = some k) := by
  have z : ∀ x : Int32, (x = -1 ∨ x = -2 ∨ ∃ n, n < 7 ∧ n ≠ 5 ∧ x = nI n) → (x = -1 ∨ x = -2 ∨ ∃ n, n < 7 ∧ x = nI n ∧ (n = 5 → ∃ k, o = some k)) := fun x h => by
    rcases h with h | h | ⟨n, h1, h2, h3⟩
    · exact Or.inl h
    · exact Or.inr (Or.inl h)
    · exact Or.inr (Or.inr ⟨n, h1, h3, fun q => absurd q h2⟩)
  unfold cmR
  split
  · apply z; unfold rfH; split
    · exact Or.inl rfl
    · split
      · exact Or.inr (Or.inl rfl)
      · split
        · exact Or.inr (Or.inr ⟨6, by decide, by decide, rfl⟩)
        · exact Or.inr (Or.inr ⟨0, by decide, by decide, rfl⟩)
  · apply z; unfold rfP; split
    · exact Or.inl rfl
    · split
      · exact Or.inr (Or.inr ⟨2, by decide, by decide, rfl⟩)
      · exact Or.inr (Or.inr ⟨0, by decide, by decide, rfl⟩)
  · apply z; unfold rfP; split
    · exact Or.inl rfl
    · split
      · exact Or.inr (Or.inr ⟨2, by decide, by decide, rfl⟩)
      · exact Or.inr (Or.inr ⟨0, by decide, by decide, rfl⟩)
  · apply z; unfold rfU; split
    · exact Or.inl rfl
    · split
      · exact Or.inr (Or.inl rfl)
      · split
        · exact Or.inr (Or.inl rfl)
        · exact Or.inr (Or.inr ⟨0, by decide, by decide, rfl⟩)
  · unfold rfM; split
    · exact Or.inl rfl
    · rename_i k
      split
      · exact Or.inr (Or.inr ⟨1, by decide, rfl, fun q => absurd q (by decide)⟩)
      · split
        · exact Or.inr (Or.inr ⟨3, by decide, rfl, fun q => absurd q (by decide)⟩)
        · split
          · exact Or.inr (Or.inr ⟨5, by decide, rfl, fun _ => ⟨k, rfl⟩⟩)
          · exact Or.inr (Or.inr ⟨0, by decide, rfl, fun q => absurd q (by decide)⟩)
  · apply z; split
    · exact Or.inr (Or.inr ⟨0, by decide, by decide, rfl⟩)
    · exact Or.inl rfl
  · unfold rfC; split
    · exact Or.inl rfl
    · rename_i k
      split
      · exact Or.inr (Or.inr ⟨5, by decide, rfl, fun _ => ⟨k, rfl⟩⟩)
      · split
        · exact Or.inr (Or.inr ⟨4, by decide, rfl, fun q => absurd q (by decide)⟩)
        · exact Or.inr (Or.inr ⟨0, by decide, rfl, fun q => absurd q (by decide)⟩)
  · exact Or.inr (Or.inr ⟨0, by decide, rfl, fun q => absurd q (by decide)⟩)
theorem nI_7 : ∀ n, n < 7 → ∀ k, k < 7 → nI n = nI k → n = k := by decide +kernel
theorem nI_7m2 : ∀ n, n < 7 → ¬ nI n = -2 := by decide +kernel
theorem nI_7m1 : ∀ n, n < 7 → ¬ nI n = -1 := by decide +kernel
/-- a command that isn't refused has its cell and its number -/
theorem cmK_of {ht pg wr mo : Nat → Nat} {mc vb : Nat} {o : Option Nat} {v : Int32} (hvb : vb < 10) (ho : ∀ k, o = some k → k < 36) (hmc : mc ≤ 4) (h0x : cmR ht pg wr mo mc vb o v = nI 0) : ∃ k u, cmK vb o v k u mc := by
  have hno : ∀ x : Nat, x < 7 → x ≠ 0 → ¬ nI x = nI 0 := fun x hx h0 q => h0 (nI_7 x hx 0 (by decide) q)
  have m1 : ¬ (-1 : Int32) = nI 0 := by decide +kernel
  have m2 : ¬ (-2 : Int32) = nI 0 := by decide +kernel
  rcases (show vb = 0 ∨ vb = 1 ∨ vb = 2 ∨ vb = 3 ∨ vb = 4 ∨ vb = 5 ∨ vb = 6 ∨ vb = 7 ∨ vb = 8 ∨ vb = 9 by omega) with rfl | rfl | rfl | rfl | rfl | rfl | rfl | rfl | rfl | rfl
  · have h : rfH ht o v = nI 0 := h0x
    unfold rfH at h; split at h
    · exact absurd h m1
    · rename_i k
      split at h
      · exact absurd h m2
      · rename_i u hu
        obtain ⟨a, b⟩ := inR_some (by decide) hu
        exact ⟨k, u, ho k rfl, by omega, fun _ => rfl, fun _ => b, fun q => absurd q (by decide), fun q => absurd q (by decide)⟩
  · have h : rfP pg o 1 = nI 0 := h0x
    unfold rfP at h; split at h
    · exact absurd h m1
    · rename_i k
      exact ⟨k, 0, ho k rfl, by decide, fun _ => rfl, fun q => absurd q (by decide), fun q => absurd q (by decide), fun q => absurd q (by decide)⟩
  · have h : rfP pg o 0 = nI 0 := h0x
    unfold rfP at h; split at h
    · exact absurd h m1
    · rename_i k
      exact ⟨k, 0, ho k rfl, by decide, fun _ => rfl, fun q => absurd q (by decide), fun q => absurd q (by decide), fun q => absurd q (by decide)⟩
  · exact ⟨0, 0, by decide, by decide, fun q => absurd q (by decide), fun q => absurd q (by decide), fun q => absurd q (by decide), fun q => absurd q (by decide)⟩
  · have h : rfU o v = nI 0 := h0x
    unfold rfU at h; split at h
    · exact absurd h m1
    · rename_i k
      split at h
      · exact absurd h m2
      · rename_i u hu
        obtain ⟨a, b⟩ := inR_some (by decide) hu
        exact ⟨k, u, ho k rfl, by omega, fun _ => rfl, fun _ => b, fun q => absurd q (by decide), fun q => absurd q (by decide)⟩
  · exact ⟨0, 0, by decide, by decide, fun q => absurd q (by decide), fun q => absurd q (by decide), fun q => absurd q (by decide), fun q => absurd q (by decide)⟩
  · have h : rfM wr mo mc o = nI 0 := h0x
    unfold rfM at h; split at h
    · exact absurd h m1
    · rename_i k
      split at h
      · exact absurd h (hno 1 (by decide) (by decide))
      · rename_i h4
        exact ⟨k, 0, ho k rfl, by decide, fun _ => rfl, fun q => absurd q (by decide), fun _ => by omega, fun q => absurd q (by decide)⟩
  · have h : (if (inR v mc).isSome = true then nI 0 else -1) = nI 0 := h0x
    by_cases q : (inR v mc).isSome = true
    · obtain ⟨u, hu⟩ := Option.isSome_iff_exists.mp q
      obtain ⟨a, b⟩ := inR_some (by omega) hu
      exact ⟨0, u, by decide, by omega, fun q => absurd q (by decide), fun _ => b, fun q => absurd q (by decide), fun _ => a⟩
    · rw [if_neg q] at h; exact absurd h m1
  · exact ⟨0, 0, by decide, by decide, fun q => absurd q (by decide), fun q => absurd q (by decide), fun q => absurd q (by decide), fun q => absurd q (by decide)⟩
  · have h : rfC wr mo mc o = nI 0 := h0x
    unfold rfC at h; split at h
    · exact absurd h m1
    · rename_i k
      exact ⟨k, 0, ho k rfl, by decide, fun _ => rfl, fun q => absurd q (by decide), fun q => absurd q (by decide), fun q => absurd q (by decide)⟩
set_option maxHeartbeats 4000000 in
set_option maxRecDepth 100000 in
/-- a command is made -/
theorem mX2_init (l : Launch) {E : gE} {ad : Nat → Nat} {N : Nat} {w : Nat → va_E} (kk : Nat → Nat) (q : Nat) (vb : Nat) (o : Option Nat) (v : Int32) (hq : q < N) (he : w q = .inr (6, [.null, .int 0, .int 0])) : gMv l yX2_init (lw_ws yX2_init cX2_init 4 none) ({ frames := 1, cells := 0, slots := 0, locals := 20 } : Room) E ad N w [.ref (ad (q)), .ref (kk vb), .int (oI (o)), .int (v)] (fun w' => bkP N w' q 1 (CMC E ad q kk vb o v) ∧ gFr (gIn q 1) w w') 0 0 := by
  refine Met.ofW (cc := cX2_init) (maxL := 4) (ret := none) (by decide) rfl ?_
  intro p e s m args below meth cd s₁ B hml hv
  obtain ⟨rfl, hI, hP⟩ := hv
  obtain ⟨S, hr, hlocks⟩ := gPre (ws := []) B hml (C := RX2) rfl
  have hx := S.1
  have hb := S.2.1
  have hS : va_S (gA E) s.heap s.heap [] := va_S.rf
  have hl := lv_entry ([.ref (ad (q)), .ref (kk vb), .int (oI (o)), .int (v)]) (n := 4) (Nat.le_of_ble_eq_true rfl)
  rw [lg_entry_eq]
  generalize (lg_sl ([.ref (ad (q)), .ref (kk vb), .int (oI (o)), .int (v)]) ++ List.replicate (4 - (lg_sl ([.ref (ad (q)), .ref (kk vb), .int (oI (o)), .int (v)])).length) Slot.unset).toArray = ls at hl ⊢
  have hl : lv_has ls 4 [(0, .ref (ad (q))), (1, .ref (kk vb)), (2, .int (oI (o))), (3, .int (v))] := hl
  have hin2 : meth.name = "<init>" := (name_of_methodNamed B.named B.method).1
  obtain ⟨w0, hw0⟩ : ∃ z, z = w := ⟨_, rfl⟩
  have hfr : gFr (gIn q 1) w w := gFr.rf
  clear hw0 w0
  refine lv_aload_n hx hb dX2_init_0 rfl (lv_at hl 0 rfl) ?_
  refine g_oinit S hl.1 q459 q129 q130 dX2_init_1 (Nat.le_of_ble_eq_true rfl) (Nat.le_of_ble_eq_true rfl) ?_
  refine lv_aload_n hx hb dX2_init_4 rfl (lv_at hl 0 rfl) ?_
  refine lv_aload_n hx hb dX2_init_5 rfl (lv_at hl 1 rfl) ?_
  refine g_putF S hI hP hS hin2 uX2 rfl tyX2 tyX2_ok nmX2 (q0 := q) (fs := [.null, .int 0, .int 0]) (by omega) he 0 (by decide) q460 rfl rfl rfl (v := .ref (kk vb)) rfl rfl (Nat.le_of_ble_eq_true rfl) dX2_init_6 (fun H locs hP hS => ?_)
  have hP : gP E ad N (va_up w (q) (.inr (6, [.ref (kk vb), .int 0, .int 0]))) H := hP
  obtain ⟨wv1, hwv1⟩ : ∃ z, z = va_up w (q) (.inr (6, [.ref (kk vb), .int 0, .int 0]) : va_E) := ⟨_, rfl⟩
  rw [← hwv1] at hP
  have he1 : wv1 (q) = .inr (6, [.ref (kk vb), .int 0, .int 0]) := by rw [hwv1, va_up_self]
  have hfr := hfr.up (p := q) (e := (.inr (6, [.ref (kk vb), .int 0, .int 0]) : va_E)) (by show _ ∧ _; omega)
  rw [← hwv1] at hfr
  refine lv_aload_n hx hb dX2_init_9 rfl (lv_at hl 0 rfl) ?_
  refine lv_iload_n hx hb dX2_init_10 rfl (lv_at hl 2 rfl) ?_
  refine g_putF S hI hP hS hin2 uX2 rfl tyX2 tyX2_ok nmX2 (q0 := q) (fs := [.ref (kk vb), .int 0, .int 0]) (by omega) he1 1 (by decide) q462 rfl rfl rfl (v := .int (oI (o))) rfl rfl (Nat.le_of_ble_eq_true rfl) dX2_init_11 (fun H locs hP hS => ?_)
  have hP : gP E ad N (va_up wv1 (q) (.inr (6, [.ref (kk vb), .int (oI (o)), .int 0]))) H := hP
  obtain ⟨wv2, hwv2⟩ : ∃ z, z = va_up wv1 (q) (.inr (6, [.ref (kk vb), .int (oI (o)), .int 0]) : va_E) := ⟨_, rfl⟩
  rw [← hwv2] at hP
  have he2 : wv2 (q) = .inr (6, [.ref (kk vb), .int (oI (o)), .int 0]) := by rw [hwv2, va_up_self]
  have hfr := hfr.up (p := q) (e := (.inr (6, [.ref (kk vb), .int (oI (o)), .int 0]) : va_E)) (by show _ ∧ _; omega)
  rw [← hwv2] at hfr
  refine lv_aload_n hx hb dX2_init_14 rfl (lv_at hl 0 rfl) ?_
  refine lv_iload_n hx hb dX2_init_15 rfl (lv_at hl 3 rfl) ?_
  refine g_putF S hI hP hS hin2 uX2 rfl tyX2 tyX2_ok nmX2 (q0 := q) (fs := [.ref (kk vb), .int (oI (o)), .int 0]) (by omega) he2 2 (by decide) q464 rfl rfl rfl (v := .int (v)) rfl rfl (Nat.le_of_ble_eq_true rfl) dX2_init_16 (fun H locs hP hS => ?_)
  have hP : gP E ad N (va_up wv2 (q) (.inr (6, [.ref (kk vb), .int (oI (o)), .int (v)]))) H := hP
  obtain ⟨wv3, hwv3⟩ : ∃ z, z = va_up wv2 (q) (.inr (6, [.ref (kk vb), .int (oI (o)), .int (v)]) : va_E) := ⟨_, rfl⟩
  rw [← hwv3] at hP
  have he3 : wv3 (q) = .inr (6, [.ref (kk vb), .int (oI (o)), .int (v)]) := by rw [hwv3, va_up_self]
  have hfr := hfr.up (p := q) (e := (.inr (6, [.ref (kk vb), .int (oI (o)), .int (v)]) : va_E)) (by show _ ∧ _; omega)
  rw [← hwv3] at hfr
  exact g_vret S hr hlocks hP hS (⟨⟨by omega, fun k hk => by rw [show k = 0 by omega]; exact he3⟩, hfr⟩) (fun _ _ => rfl) (Nat.le_of_ble_eq_true rfl) (Nat.le_of_ble_eq_true rfl) dX2_init_19
set_option maxHeartbeats 4000000 in
set_option maxRecDepth 100000 in
/-- a change, or a refusal -/
theorem mX12_change (l : Launch) {E : gE} {ad : Nat → Nat} {N : Nat} {w : Nat → va_E} (kk : Nat → Nat) (hzv : gHv E kk) (d : Nat) (sv : Nat) (fp dq : Option Nat) (dd : Int32) (dc : Option Nat) (ht dr pg wt wr mo : Nat → Nat) (mc ni po dn : Nat) (pl ct : Nat) (K : Nat → Sh) (q vb : Nat) (o : Option Nat) (v : Int32) (hb_d : bkP N w d 1 (DMC E ad d sv fp dq dd dc)) (hb_s : bkP N w (d + 1) 7 (SHC E ad (d + 1) ht dr pg wt wr mo mc ni po dn)) (hb_c : bkP N w q 1 (CMC E ad q kk vb o v)) (hlt : l.stackTraces = false) (hz : gHx E) (hdq : d + 116 ≤ q) (hh : hsP E ad N w (d + 29) pl ct K) (hpl : pl < 8) (hct : ct ≤ 8) (hvb : vb < 10) (ho : ∀ k, o = some k → k < 36) (hht : ∀ k, k < 36 → ht k ≤ 99) (hpg : ∀ k, k < 36 → pg k ≤ 1) (hwr : ∀ k, k < 36 → wr k ≤ 3) (hm : mc ≤ 4) (hmo : ∀ k, k < mc → mo k < 36) : gXi l yX12_change (lw_ws yX12_change cX12_change 3 (some .int)) ({ frames := 7, cells := 1, slots := 6, locals := 159 } : Room) E ad N w [.ref (ad (d)), .ref (ad (q))] (fun r w' => ∃ k u, cmK vb o v k u mc ∧ cmR ht pg wr mo mc vb o v = nI 0 ∧ r = (cmS vb k u ht dr pg wt wr mo mc ni po dn).1 ∧ bkP N w' (d + 1) 7 (shC E ad (d + 1) (cmS vb k u ht dr pg wt wr mo mc ni po dn).2) ∧ hsP E ad N w' (d + 29) ((pl + 1) % 8) (min (ct + 1) 8) (va_up K pl (cpS (ht, dr, pg, wt, wr, mo, mc, ni, po, dn) (K pl))) ∧ bkP N w' d 1 (DMC E ad d sv fp dq dd dc) ∧ gFr (fun q => (d + 1 ≤ q ∧ q < d + 8) ∨ (d + 29 ≤ q ∧ q < d + 87) ∨ q = d) w w') (fun xc w' => (xc = xIO ∧ cmR ht pg wr mo mc vb o v = -1 ∧ gFr (fun q => (d + 1 ≤ q ∧ q < d + 8) ∨ (d + 29 ≤ q ∧ q < d + 87) ∨ q = d) w w' ∧ bkP N w' d 1 (DMC E ad d sv fp dq dd dc) ∧ bkP N w' (d + 1) 7 (SHC E ad (d + 1) ht dr pg wt wr mo mc ni po dn) ∧ hsP E ad N w' (d + 29) pl ct K) ∨ (xc = xIA ∧ cmR ht pg wr mo mc vb o v = -2 ∧ gFr (fun q => (d + 1 ≤ q ∧ q < d + 8) ∨ (d + 29 ≤ q ∧ q < d + 87) ∨ q = d) w w' ∧ bkP N w' d 1 (DMC E ad d sv fp dq dd dc) ∧ bkP N w' (d + 1) 7 (SHC E ad (d + 1) ht dr pg wt wr mo mc ni po dn) ∧ hsP E ad N w' (d + 29) pl ct K) ∨ (xc = xUO ∧ ∃ n, 0 < n ∧ n < 7 ∧ cmR ht pg wr mo mc vb o v = nI n ∧ bkP N w' d 1 (DMC E ad d sv fp (some n) (cmT pg wr mo mc n o v) none) ∧ bkP N w' (d + 1) 7 (SHC E ad (d + 1) ht dr pg wt wr mo mc ni po dn) ∧ hsP E ad N w' (d + 29) pl ct K ∧ gFr (fun q => (d + 1 ≤ q ∧ q < d + 8) ∨ (d + 29 ≤ q ∧ q < d + 87) ∨ q = d) w w')) 1 6 := by
  refine vx_ofW (cc := cX12_change) (maxL := 3) (ret := (some .int)) (by decide) rfl ?_
  intro p e s m args below meth cd s₁ B hml htab hv
  obtain ⟨rfl, hI, hP⟩ := hv
  obtain ⟨S, hr, hlocks⟩ := gPre (ws := []) B hml (C := RX12) rfl
  have hx := S.1
  have hb := S.2.1
  have hzk := hzv s s.heap hI.2.2.2.2
  have hS : va_S (gA E) s.heap s.heap [] := va_S.rf
  have hfr : gFr (fun q => (d + 1 ≤ q ∧ q < d + 8) ∨ (d + 29 ≤ q ∧ q < d + 87) ∨ q = d) w w := gFr.rf
  have hl := lv_entry ([.ref (ad (d)), .ref (ad (q))]) (n := 3) (Nat.le_of_ble_eq_true rfl)
  rw [lg_entry_eq]
  generalize (lg_sl ([.ref (ad (d)), .ref (ad (q))]) ++ List.replicate (3 - (lg_sl ([.ref (ad (d)), .ref (ad (q))])).length) Slot.unset).toArray = ls at hl ⊢
  have hl : lv_has ls 3 [(0, .ref (ad (d))), (1, .ref (ad (q)))] := hl
  have hb_h := hh.1
  refine lv_aload_n hx hb dX12_change_0 rfl (lv_at hl 0 rfl) ?_
  refine g_get S hI hP uX12 rfl (fs := _) (hb_d.lt 0 (by decide)) (hb_d.2 0 (by decide)) 0 (by decide) q402 rfl (v := .ref (ad (d + 1))) rfl dX12_change_1 ?_
  refine lv_aload_n hx hb dX12_change_4 rfl (lv_at hl 1 rfl) ?_
  refine g_roi (g_runV S hI hP hS (k := 1) (As := [.ref (ad (q))]) (rest := []) (mX7_refusalOf l kk hzv (d + 1) ht dr pg wt wr mo mc ni po dn q vb o v hb_s hb_c hvb ho hht hpg hwr hm hmo) q477 q478 q479 q83 q480 rfl rfl (by decide +kernel) ⟨Nat.le_of_ble_eq_true rfl, Nat.le_of_ble_eq_true rfl⟩ rfl (hb_s.lt 0 (by decide)) (hb_s.2 0 (by decide)) rfl hl.1 rfl (Nat.le_of_ble_eq_true rfl) ⟨(Nat.le_of_ble_eq_true rfl), (Nat.le_of_ble_eq_true rfl)⟩ dX12_change_5) hS (fun H locs hP hS => ?_)
  refine lv_istore_n (lv' := [(2, .int (cmR ht pg wr mo mc vb o v)), (0, .ref (ad (d))), (1, .ref (ad (q)))]) hx hb dX12_change_8 rfl hl (by decide) rfl (fun ls hl => ?_)
  rcases cmR_cases (ht := ht) (pg := pg) (wr := wr) (mo := mo) (mc := mc) (vb := vb) (o := o) (v := v) with hR | hR | ⟨n, hn7, hR, hn5⟩
  · have hl : lv_has ls 3 [(2, .int ((-1))), (0, .ref (ad (d))), (1, .ref (ad (q)))] := by rw [hR] at hl; exact hl
    refine lv_iload_n hx hb dX12_change_9 rfl (lv_at hl 0 rfl) ?_
    refine lv_iconst (v := -1) hx hb dX12_change_10 (by decide +kernel) ?_
    refine lv_icmp_ne (tgt := 25) hx hb dX12_change_11 (by decide) (fun hc => ?_) (fun hc => ?_)
    · exact absurd rfl hc
    · exact g_throwW S hI hP hS hl.1 htab hlocks hlt hz (cls := "java/lang/IndexOutOfBoundsException") (text := "no such cell or moth") q521 q108 (by decide) tx_298 (by decide +kernel) dX12_change_14 dX12_change_17 dX12_change_18 dX12_change_21 dX12_change_24 (Nat.le_of_ble_eq_true rfl) (Nat.le_of_ble_eq_true rfl) (Nat.le_of_ble_eq_true rfl) (Nat.le_of_ble_eq_true rfl) (Nat.le_of_ble_eq_true rfl) (Nat.le_of_ble_eq_true rfl) (Or.inl ⟨rfl, hR, hfr, hb_d, hb_s, hh⟩)
  · have hl : lv_has ls 3 [(2, .int ((-2))), (0, .ref (ad (d))), (1, .ref (ad (q)))] := by rw [hR] at hl; exact hl
    refine lv_iload_n hx hb dX12_change_9 rfl (lv_at hl 0 rfl) ?_
    refine lv_iconst (v := -1) hx hb dX12_change_10 (by decide +kernel) ?_
    refine lv_icmp_ne (tgt := 25) hx hb dX12_change_11 (by decide) (fun hc => ?_) (fun hc => ?_)
    · refine lv_iload_n hx hb dX12_change_25 rfl (lv_at hl 0 rfl) ?_
      refine lv_bipush (v := -2) hx hb dX12_change_26 (by decide +kernel) ?_
      refine lv_icmp_ne (tgt := 42) hx hb dX12_change_28 (by decide) (fun hc2 => ?_) (fun hc2 => ?_)
      · exact absurd rfl hc2
      · exact g_throwW S hI hP hS hl.1 htab hlocks hlt hz (cls := "java/lang/IllegalArgumentException") (text := "the number is out of range") q592 q109 (by decide) tx_267 (by decide +kernel) dX12_change_31 dX12_change_34 dX12_change_35 dX12_change_38 dX12_change_41 (Nat.le_of_ble_eq_true rfl) (Nat.le_of_ble_eq_true rfl) (Nat.le_of_ble_eq_true rfl) (Nat.le_of_ble_eq_true rfl) (Nat.le_of_ble_eq_true rfl) (Nat.le_of_ble_eq_true rfl) (Or.inr (Or.inl ⟨rfl, hR, hfr, hb_d, hb_s, hh⟩))
    · exact absurd hc (by decide +kernel)
  · have hl : lv_has ls 3 [(2, .int (nI (n))), (0, .ref (ad (d))), (1, .ref (ad (q)))] := by rw [hR] at hl; exact hl
    refine lv_iload_n hx hb dX12_change_9 rfl (lv_at hl 0 rfl) ?_
    refine lv_iconst (v := -1) hx hb dX12_change_10 (by decide +kernel) ?_
    refine lv_icmp_ne (tgt := 25) hx hb dX12_change_11 (by decide) (fun hc => ?_) (fun hc => ?_)
    · refine lv_iload_n hx hb dX12_change_25 rfl (lv_at hl 0 rfl) ?_
      refine lv_bipush (v := -2) hx hb dX12_change_26 (by decide +kernel) ?_
      refine lv_icmp_ne (tgt := 42) hx hb dX12_change_28 (by decide) (fun hc2 => ?_) (fun hc2 => ?_)
      · refine lv_iload_n hx hb dX12_change_42 rfl (lv_at hl 0 rfl) ?_
        refine g_ifeq S (a := n) (by omega) (tgt := 72) dX12_change_43 (by decide) (fun hn0 => ?_) (fun hn0 => ?_)
        · rw [hn0] at hR
          obtain ⟨k, u, hck⟩ := cmK_of hvb ho hm hR
          refine lv_aload_n hx hb dX12_change_72 rfl (lv_at hl 1 rfl) ?_
          refine g_get S hI hP uX12 rfl (fs := _) (hb_d.lt 0 (by decide)) (hb_d.2 0 (by decide)) 4 (by decide) q406 rfl (v := .ref (ad (d + 29))) rfl dX12_change_73 ?_
          refine lv_aload_n hx hb dX12_change_76 rfl (lv_at hl 1 rfl) ?_
          refine g_get S hI hP uX12 rfl (fs := _) (hb_d.lt 0 (by decide)) (hb_d.2 0 (by decide)) 0 (by decide) q402 rfl (v := .ref (ad (d + 1))) rfl dX12_change_77 ?_
          refine g_afv (g_runV S hI hP hS (k := 1) (As := [.ref (ad (d + 1))]) (rest := []) (mX4_keep l (d + 29) pl ct K (d + 1) ht dr pg wt wr mo mc ni po dn hb_s hh (by omega) hpl hct hpg) q640 q641 q642 q85 q643 rfl rfl (by decide +kernel) ⟨Nat.le_of_ble_eq_true rfl, Nat.le_of_ble_eq_true rfl⟩ rfl (hb_h.lt 0 (by decide)) (hb_h.2 0 (by decide)) rfl hl.1 rfl (Nat.le_of_ble_eq_true rfl) ⟨(Nat.le_of_ble_eq_true rfl), (Nat.le_of_ble_eq_true rfl)⟩ dX12_change_80) hS (fun w1 H locs hq hP hS => ?_)
          obtain ⟨hh2, hfx⟩ := hq
          have hx_d := hb_d.fr hfx (fun k hk => by show ¬ _; (try dsimp only); omega)
          have hx_s := hb_s.fr hfx (fun k hk => by show ¬ _; (try dsimp only); omega)
          have hx_c := hb_c.fr hfx (fun k hk => by show ¬ _; (try dsimp only); omega)
          have hfr := hfr.trans hfx (fun q hq => by (try dsimp only at hq ⊢); omega)
          have hb_h2 := hh2.1
          refine lv_aload_n hx hb dX12_change_83 rfl (lv_at hl 1 rfl) ?_
          refine g_get S hI hP uX12 rfl (fs := _) (hx_d.lt 0 (by decide)) (hx_d.2 0 (by decide)) 0 (by decide) q402 rfl (v := .ref (ad (d + 1))) rfl dX12_change_84 ?_
          refine lv_aload_n hx hb dX12_change_87 rfl (lv_at hl 2 rfl) ?_
          refine g_afi (g_runV S hI hP hS (k := 1) (As := [.ref (ad (q))]) (rest := []) (mX7_carryOut l kk hzv (d + 1) ht dr pg wt wr mo mc ni po dn q vb o v k u hx_s hx_c (by omega) hvb ho hck hht hpg hwr hm hmo) q654 q655 q656 q83 q657 rfl rfl (by decide +kernel) ⟨Nat.le_of_ble_eq_true rfl, Nat.le_of_ble_eq_true rfl⟩ rfl (hx_s.lt 0 (by decide)) (hx_s.2 0 (by decide)) rfl hl.1 rfl (Nat.le_of_ble_eq_true rfl) ⟨(Nat.le_of_ble_eq_true rfl), (Nat.le_of_ble_eq_true rfl)⟩ dX12_change_88) hS (fun rz w1 H locs hq hP hS => ?_)
          obtain ⟨hr3, hb1, hf2⟩ := hq
          rw [hr3]
          have hb4 := hx_d.fr hf2 (fun k hk => by show ¬ _; (try simp only [gIn]); (try dsimp only); omega)
          have hb5 := hx_c.fr hf2 (fun k hk => by show ¬ _; (try simp only [gIn]); (try dsimp only); omega)
          have hb6 := hb_h2.fr hf2 (fun k hk => by show ¬ _; (try simp only [gIn]); (try dsimp only); omega)
          have hfr := hfr.trans hf2 (fun q hq => by (try simp only [gIn] at hq ⊢); (try dsimp only at hq ⊢); omega)
          have hf9 := hf2
          have hh3 := hh2.fr hf9 (fun q a b => by show ¬ _; simp only [gIn]; omega)
          exact vx_ret (g_iret S hr hlocks hP hS (⟨k, u, hck, hR, rfl, hb1, hh3, hb4, hfr⟩) (fun _ _ => rfl) (Nat.le_of_ble_eq_true rfl) (Nat.le_of_ble_eq_true rfl) dX12_change_91)
        · refine lv_aload_n hx hb dX12_change_46 rfl (lv_at hl 1 rfl) ?_
          refine lv_iload_n hx hb dX12_change_47 rfl (lv_at hl 0 rfl) ?_
          refine lv_aload_n hx hb dX12_change_48 rfl (lv_at hl 1 rfl) ?_
          refine g_get S hI hP uX12 rfl (fs := _) (hb_d.lt 0 (by decide)) (hb_d.2 0 (by decide)) 0 (by decide) q402 rfl (v := .ref (ad (d + 1))) rfl dX12_change_49 ?_
          refine lv_iload_n hx hb dX12_change_52 rfl (lv_at hl 0 rfl) ?_
          refine lv_aload_n hx hb dX12_change_53 rfl (lv_at hl 2 rfl) ?_
          refine g_roi (g_runV S hI hP hS (k := 2) (As := [.int (nI (n)), .ref (ad (q))]) (rest := [.int (nI (n)), .ref (ad (d))]) (mX7_detailOf l kk hzv (d + 1) ht dr pg wt wr mo mc ni po dn q vb o v n hb_s hb_c hn7 (fun h5 => (hn5 h5).imp fun k e => ⟨e, ho k e⟩) hvb ho hht hpg hwr hm hmo) q608 q609 q610 q83 q611 rfl rfl (by decide +kernel) ⟨Nat.le_of_ble_eq_true rfl, Nat.le_of_ble_eq_true rfl⟩ rfl (hb_s.lt 0 (by decide)) (hb_s.2 0 (by decide)) rfl hl.1 rfl (Nat.le_of_ble_eq_true rfl) ⟨(Nat.le_of_ble_eq_true rfl), (Nat.le_of_ble_eq_true rfl)⟩ dX12_change_54) hS (fun H locs hP hS => ?_)
          refine lv_iconst (v := -1) hx hb dX12_change_57 (by decide +kernel) ?_
          refine g_afv (g_runV S hI hP hS (k := 3) (As := [.int (nI (n)), .int (cmT pg wr mo mc n o v), .int (-1)]) (rest := []) (mX12_keepDenial l d sv fp dq dd dc (some n) (cmT pg wr mo mc n o v) none hb_d) q620 q622 q7 q82 q623 rfl rfl (by decide +kernel) ⟨Nat.le_of_ble_eq_true rfl, Nat.le_of_ble_eq_true rfl⟩ rfl (hb_d.lt 0 (by decide)) (hb_d.2 0 (by decide)) rfl hl.1 rfl (Nat.le_of_ble_eq_true rfl) ⟨(Nat.le_of_ble_eq_true rfl), (Nat.le_of_ble_eq_true rfl)⟩ dX12_change_58) hS (fun w1 H locs hq hP hS => ?_)
          obtain ⟨hb7, hf8⟩ := hq
          have hb9 := hb_s.fr hf8 (fun k hk => by show ¬ _; (try simp only [gIn]); (try dsimp only); omega)
          have hb10 := hb_c.fr hf8 (fun k hk => by show ¬ _; (try simp only [gIn]); (try dsimp only); omega)
          have hb11 := hb_h.fr hf8 (fun k hk => by show ¬ _; (try simp only [gIn]); (try dsimp only); omega)
          have hfr := hfr.trans hf8 (fun q hq => by (try simp only [gIn] at hq ⊢); (try dsimp only at hq ⊢); omega)
          have hf9 := hf8
          have hh3 := hh.fr hf9 (fun q a b => by show ¬ _; simp only [gIn]; omega)
          exact g_throwW S hI hP hS hl.1 htab hlocks hlt hz (cls := "java/lang/UnsupportedOperationException") (text := "denied") q624 q110 (by decide) tx_345 (by decide +kernel) dX12_change_61 dX12_change_64 dX12_change_65 dX12_change_68 dX12_change_71 (Nat.le_of_ble_eq_true rfl) (Nat.le_of_ble_eq_true rfl) (Nat.le_of_ble_eq_true rfl) (Nat.le_of_ble_eq_true rfl) (Nat.le_of_ble_eq_true rfl) (Nat.le_of_ble_eq_true rfl) (Or.inr (Or.inr ⟨rfl, n, hn0, hn7, hR, hb7, hb9, hh3, hfr⟩))
      · exact absurd hc2 (nI_7m2 n hn7)
    · exact absurd hc (nI_7m1 n hn7)
