/-! THE LAW's INVARIANT -/
theorem sbT.mv {E : gE} {ad ad' : Nat → Nat} {N N' q : Nat} {w w' : Nat → va_E} {tx : List Nat} (h : sbT E ad N w q tx) {M : Nat} (hM : q + 2 ≤ M) (hN : M ≤ N') (ha : ∀ p, p < M → ad p = ad' p) (hw : ∀ p, q ≤ p → p < q + 2 → w' p = w p) : sbT E ad' N' w' q tx := by
  obtain ⟨cp, mb, f, h1, h2⟩ := h
  exact ⟨cp, mb, f, SBR_mv h1 hM hN ha hw, h2⟩
theorem prsP.fr {E : gE} {ad : Nat → Nat} {N d : Nat} {w w' : Nat → va_E} {kk bf : Nat → Nat} {ln : Nat} (h : prsP E ad N w d kk bf ln) (hw : ∀ p, (d + 111 ≤ p ∧ p < d + 114) ∨ d + 130 ≤ p → w' p = w p) : prsP E ad N w' d kk bf ln := by
  obtain ⟨⟨fa, rw, cl, nm, h1⟩, md, g, nn, lp, C, h2, h3⟩ := h
  exact ⟨⟨fa, rw, cl, nm, TP_mv h1 (M := N) (by have := h1.1; have := h2.1; omega) (Nat.le_refl _) (fun _ _ => rfl) (fun p a b => hw p (by omega))⟩, md, g, nn, lp, C, AL_mv h2 (M := N) h2.1 (Nat.le_refl _) (fun _ _ => rfl) (fun p a b => hw p (by omega)), h3.mv (Nat.le_refl _) (fun _ _ => rfl) (fun p a _ => hw p (Or.inr a))⟩
/-- all of the class's world -/
def clsP (E : gE) (ad : Nat → Nat) (N : Nat) (w : Nat → va_E) (d : Nat) (kk : Nat → Nat) (S : Sh) (pl ct : Nat) (K : Nat → Sh) (sv : Nat) (Z : Sh) (fp dq : Option Nat) (dd : Int32) (dc : Option Nat) (bf : Nat → Nat) (ln : Nat) (tx : List Nat) : Prop :=
  d + 130 ≤ N ∧ corP E ad N w d S pl ct K sv Z fp dq dd dc ∧ scr E ad N w d ∧ prsP E ad N w d kk bf ln ∧ sbT E ad N w (d + 114) tx
theorem clsP.fr {E : gE} {ad : Nat → Nat} {N d : Nat} {w w' : Nat → va_E} {kk : Nat → Nat} {S : Sh} {pl ct : Nat} {K : Nat → Sh} {sv : Nat} {Z : Sh} {fp dq : Option Nat} {dd : Int32} {dc : Option Nat} {bf : Nat → Nat} {ln : Nat} {tx : List Nat} (h : clsP E ad N w d kk S pl ct K sv Z fp dq dd dc bf ln tx) (hw : ∀ p, (d ≤ p ∧ p < d + 116) ∨ d + 130 ≤ p → w' p = w p) : clsP E ad N w' d kk S pl ct K sv Z fp dq dd dc bf ln tx := by
  obtain ⟨h0, h1, h2, h3, h4⟩ := h
  exact ⟨h0, h1.mv (M := N) (by omega) (Nat.le_refl _) (fun _ _ => rfl) (fun p a b => hw p (by omega)), h2.mv (M := N) (by omega) (Nat.le_refl _) (fun _ _ => rfl) (fun p a b => hw p (by omega)), h3.fr (fun p a => hw p (by omega)), h4.mv (M := N) (by omega) (Nat.le_refl _) (fun _ _ => rfl) (fun p a b => hw p (by omega))⟩
/-- what the Model's rows say of the class's things -/
def lawD (B : Nat) (S : Sh) (pl ct : Nat) (K : Nat → Sh) (sv : Nat) (Z : Sh) (fp dq : Option Nat) (dd : Int32) (dc : Option Nat) (bf : Nat → Nat) (ln : Nat) (tx : List Nat) (g kp svr sg : Nat → Nat) (qc wy : Nat) (de : Int32) (ca sm : Nat) : Prop :=
  rowP g B S ∧ hisR kp B qc pl ct K ∧ (sv ≤ 1 ∧ (0 < sv → rowP svr B Z) ∧ ∀ k, k < 36 → Z.2.2.1 k ≤ 1) ∧ denR wy de ca dq dd dc ∧ (ln ≤ 60 ∧ ∀ k, bf k < 65536) ∧ (sm = tx.length ∧ tx.length ≤ 60 ∧ lnT sg sm = tx ∧ ∀ j, j < 60 → sg j < 128) ∧ ∀ k, fp = some k → k < 2 ^ 20
theorem lawD.le {B B' : Nat} {S : Sh} {pl ct : Nat} {K : Nat → Sh} {sv : Nat} {Z : Sh} {fp dq : Option Nat} {dd : Int32} {dc : Option Nat} {bf : Nat → Nat} {ln : Nat} {tx : List Nat} {g kp svr sg : Nat → Nat} {qc wy : Nat} {de : Int32} {ca sm : Nat} (h : lawD B S pl ct K sv Z fp dq dd dc bf ln tx g kp svr sg qc wy de ca sm) (hB : B ≤ B') : lawD B' S pl ct K sv Z fp dq dd dc bf ln tx g kp svr sg qc wy de ca sm :=
  ⟨h.1.le hB, h.2.1.le hB, ⟨h.2.2.1.1, fun z => (h.2.2.1.2.1 z).le hB, h.2.2.1.2.2⟩, h.2.2.2⟩
def lawQ (E : gE) (kk : Nat → Nat) (ad : Nat → Nat) (N : Nat) (w : Nat → va_E) (d B : Nat) (S : Sh) (pl ct : Nat) (K : Nat → Sh) (sv : Nat) (Z : Sh) (fp dq : Option Nat) (dd : Int32) (dc : Option Nat) (bf : Nat → Nat) (ln : Nat) (tx : List Nat) (g kp svr bfr sd sg mk td lv tl : Nat → Nat) (qc qd co wy : Nat) (de : Int32) (ca sm pa tm : Nat) : Prop :=
  clsP E ad N w d kk S pl ct K sv Z fp dq dd dc bf ln tx ∧ bkP N w (d + 116) 12 (MDC E ad (d + 116) g kp svr bfr sd bf sg mk td lv tl sv qc 0 qd co wy de ca ln fp sm pa tm) ∧ (∃ f, w (d + 128) = loE E f) ∧ (∃ f, w (d + 129) = doE E f) ∧ lawD B S pl ct K sv Z fp dq dd dc bf ln tx g kp svr sg qc wy de ca sm
def lawP (E : gE) (kk : Nat → Nat) (ad : Nat → Nat) (N : Nat) (w : Nat → va_E) (d B : Nat) : Prop := ∃ S pl ct K sv Z fp dq dd dc bf ln tx g kp svr bfr sd sg mk td lv tl qc qd co wy de ca sm pa tm, lawQ E kk ad N w d B S pl ct K sv Z fp dq dd dc bf ln tx g kp svr bfr sd sg mk td lv tl qc qd co wy de ca sm pa tm
section GLAW2
variable {p : Program} {l : Launch} {e : Env} {R : Room} {s : State} {m : MethodId} {args : Array Value} {below : List Frame} {meth : Method} {c : Code} {H : Heap} {locs : List Loc} {cells slots : Nat} {Q : State → Prop}
variable {cc : ByteArray} {pc nL : Nat} {ls : Array Slot} {rest st0 : List Value} {own : String} {E : gE} {ad : Nat → Nat} {N : Nat} {w : Nat → va_E}
/-- a number of the script -/
theorem g_sld (S : gFix p m c cc nL s args own) {sa L : Nat} {xs : Nat → Int32} (hX : va_X sa L xs s s.heap) (hsa : sa < s.heap.size) (hsA : ¬ gA E sa) (hS : va_S (gA E) s.heap H locs) (i : Nat) (hi : i < L) (hL : L < 2 ^ 31) (hdg : decode cc pc = .ok (.iaload, 1))
    (kk : W p l e R s m args below meth c H locs cells slots Q (F0 m (pc + 1) ls (.int (xs i) :: rest))) : W p l e R s m args below meth c H locs cells slots Q (F0 m pc ls (.int (nI i) :: .ref sa :: rest)) := by
  refine va_sld S.1 S.2.1 hX hsa hsA hS (vp_in_nI hi hL) hdg ?_
  rw [nI_clamp (Nat.lt_trans hi hL)]
  exact kk
/-- two equal longs -/
theorem g_lcmpE (S : gFix p m c cc nL s args own) {x : Int64} (hdg : decode cc pc = .ok (.lcmp, 1)) (kk : W p l e R s m args below meth c H locs cells slots Q (F0 m (pc + 1) ls (.int (nI 0) :: rest))) : W p l e R s m args below meth c H locs cells slots Q (F0 m pc ls (.long x :: .long x :: rest)) := by
  refine W.lcmp S.1 S.2.1 hdg ?_
  rw [show lg_cmp x x = nI 0 by unfold lg_cmp; rw [if_neg (show ¬ x > x from Int64.lt_irrefl), if_pos rfl]; rfl]
  exact kk
end GLAW2
