/-! THE MODEL: its one row of ints holds a sheet; rows for optional numbers against nought -/
section GMOD
variable {p : Program} {l : Launch} {e : Env} {R : Room} {s : State} {m : MethodId} {args : Array Value} {below : List Frame} {meth : Method} {c : Code} {H : Heap} {locs : List Loc} {cells slots : Nat} {Q : State → Prop}
variable {cc : ByteArray} {pc nL : Nat} {ls : Array Slot} {rest st0 : List Value} {own : String} {E : gE} {ad : Nat → Nat} {N : Nat} {w : Nat → va_E}
theorem g_oltZ {o : Option Nat} (S : gFix p m c cc nL s args own) (ho : ∀ k, o = some k → k < 2 ^ 31) {off : Int} {tgt : Nat} (hdg : decode cc pc = .ok (.ifCond .lt off, 3)) (ht : (pc : Int) + off = (tgt : Int)) (k1 : o = none → W p l e R s m args below meth c H locs cells slots Q (F0 m tgt ls rest)) (k2 : ∀ k, o = some k → W p l e R s m args below meth c H locs cells slots Q (F0 m (pc + 3) ls rest)) : W p l e R s m args below meth c H locs cells slots Q (F0 m pc ls (.int (oI o) :: rest)) := by
  cases o with
  | none => exact lv_if_lt S.1 S.2.1 hdg ht (fun _ => k1 rfl) (fun h => absurd (by decide +kernel) h)
  | some k => exact lv_if_lt S.1 S.2.1 hdg ht (fun h => absurd h (nI_pos (ho k rfl))) (fun _ => k2 k rfl)
theorem g_ogeZ {o : Option Nat} (S : gFix p m c cc nL s args own) (ho : ∀ k, o = some k → k < 2 ^ 31) {off : Int} {tgt : Nat} (hdg : decode cc pc = .ok (.ifCond .ge off, 3)) (ht : (pc : Int) + off = (tgt : Int)) (k1 : ∀ k, o = some k → W p l e R s m args below meth c H locs cells slots Q (F0 m tgt ls rest)) (k2 : o = none → W p l e R s m args below meth c H locs cells slots Q (F0 m (pc + 3) ls rest)) : W p l e R s m args below meth c H locs cells slots Q (F0 m pc ls (.int (oI o) :: rest)) := by
  cases o with
  | none => exact lv_if_ge S.1 S.2.1 hdg ht (fun h => absurd h (by decide +kernel)) (fun _ => k2 rfl)
  | some k => exact lv_if_ge S.1 S.2.1 hdg ht (fun _ => k1 k rfl) (fun h => absurd (nI_pos' (ho k rfl)) h)
end GMOD
theorem va_up_up {α : Type} (f : Nat → α) (k : Nat) (a b : α) : va_up (va_up f k a) k b = va_up f k b := by
  funext j
  by_cases h : j = k
  · subst h; rw [va_up_self, va_up_self]
  · rw [va_up_ne _ _ h, va_up_ne _ _ h, va_up_ne _ _ h]
theorem va_up_id {α : Type} (f : Nat → α) (k : Nat) : va_up f k (f k) = f := by
  funext j
  by_cases h : j = k
  · subst h; rw [va_up_self]
  · rw [va_up_ne _ _ h]
/-- n numbers of f from a on, laid into g from o on -/
def cpA (f : Nat → Nat) (a : Nat) (g : Nat → Nat) (o n : Nat) : Nat → Nat := fun j => if o ≤ j ∧ j < o + n then f (a + (j - o)) else g j
theorem cpA_0 (f : Nat → Nat) (a : Nat) (g : Nat → Nat) (o : Nat) : cpA f a g o 0 = g := by funext j; unfold cpA; rw [if_neg (by omega)]
theorem cpA_s (f : Nat → Nat) (a : Nat) (g : Nat → Nat) (o n : Nat) : va_up (cpA f a g o n) (o + n) (f (a + n)) = cpA f a g o (n + 1) := by
  funext j
  by_cases q : j = o + n
  · subst q; rw [va_up_self]; unfold cpA; rw [if_pos (by omega), show o + n - o = n by omega]
  · rw [va_up_ne _ _ q]; unfold cpA
    by_cases z : o ≤ j ∧ j < o + n
    · rw [if_pos z, if_pos (by omega)]
    · rw [if_neg z, if_neg (by omega)]
/-- the kept rows move down by one -/
def shK (kp : Nat → Nat) (n : Nat) : Nat → Nat := fun j => if j < n then kp (j + 152) else kp j
theorem shK_0 (kp : Nat → Nat) : shK kp 0 = kp := by funext j; simp [shK]
theorem shK_s (kp : Nat → Nat) (n : Nat) : va_up (shK kp n) n (kp (n + 152)) = shK kp (n + 1) := by
  funext j
  by_cases q : j = n
  · subst q; rw [va_up_self]; unfold shK; rw [if_pos (by omega)]
  · rw [va_up_ne _ _ q]; unfold shK
    by_cases z : j < n
    · rw [if_pos z, if_pos (by omega)]
    · rw [if_neg z, if_neg (by omega)]
/-- a row is kept: the kept rows, how many they are -/
def kpK (kp : Nat → Nat) (qc : Nat) (f : Nat → Nat) : Nat → Nat := if qc = 8 then cpA f 0 (shK kp 1064) 1064 152 else cpA f 0 kp (152 * qc) 152
def kpC (qc : Nat) : Nat := if qc = 8 then 8 else qc + 1
theorem in_inR {v : Int32} {k : Nat} (hk : k + 1 < 2 ^ 31) : decide (nI 0 ≤ v ∧ v ≤ nI k) = (inR v (k + 1)).isSome := by
  rcases pk_ix v (n := k + 1) hk with q | q | ⟨i, hi, rfl⟩
  · rw [inR_neg q, decide_eq_false (fun z => by
      have h1 := Int32.not_lt.mpr z.1
      rw [nI_0] at h1
      exact h1 q)]; rfl
  · rw [inR_big q, decide_eq_false (fun z => nI_ge (show k < k + 1 by omega) hk (Int32.le_trans q z.2))]; rfl
  · rw [inR_nI hi hk, decide_eq_true ⟨by rw [nI_0]; exact nI_pos' (by omega), (nI_leI (by omega) (by omega)).mpr (by omega)⟩]; rfl
theorem cell_is (x y : Int32) : (cellV x y).isSome = ((inR x 6).isSome && (inR y 6).isSome) := by
  unfold cellV
  cases inR x 6 <;> cases inR y 6 <;> rfl
theorem cell_ij {x y : Int32} {k : Nat} (h : cellV x y = some k) : ∃ i j, i < 6 ∧ j < 6 ∧ x = nI i ∧ y = nI j ∧ k = i * 6 + j := by
  unfold cellV at h
  split at h
  · rename_i i j h1 h2
    obtain ⟨a, a1⟩ := inR_some (by decide) h1
    obtain ⟨b, b1⟩ := inR_some (by decide) h2
    cases h
    exact ⟨i, j, a, b, a1, b1, rfl⟩
  · cases h
theorem cell6 {x y : Int32} {k : Nat} (h : cellV x y = some k) : nI 6 * x + y = nI k := by
  obtain ⟨i, j, hi, hj, rfl, rfl, rfl⟩ := cell_ij h
  rw [pk_mul, nI_add, Nat.mul_comm]
theorem cell6p {x y : Int32} {k a : Nat} (h : cellV x y = some k) : nI a + nI 6 * x + y = nI (a + k) := by
  rw [Int32.add_assoc, cell6 h, nI_add]
theorem bs_0 : ∀ c, c < 36 → (cellV (nI (c / 6) + (-1)) (nI (c % 6 + 0))).isSome = (nb c 0).isSome ∧ ((nb c 0).isSome = true → nI 6 * (nI (c / 6) + (-1)) + nI (c % 6 + 0) = oI (nb c 0)) := by decide +kernel
theorem bs_1 : ∀ c, c < 36 → (cellV (nI (c / 6 + 0)) (nI (c % 6 + 1))).isSome = (nb c 1).isSome ∧ ((nb c 1).isSome = true → nI (6 * (c / 6 + 0) + (c % 6 + 1)) = oI (nb c 1)) := by decide +kernel
theorem bs_2 : ∀ c, c < 36 → (cellV (nI (c / 6 + 1)) (nI (c % 6 + 0))).isSome = (nb c 2).isSome ∧ ((nb c 2).isSome = true → nI (6 * (c / 6 + 1) + (c % 6 + 0)) = oI (nb c 2)) := by decide +kernel
theorem bs_3 : ∀ c, c < 36 → (cellV (nI (c / 6 + 0)) (nI (c % 6) + (-1))).isSome = (nb c 3).isSome ∧ ((nb c 3).isSome = true → nI (6 * (c / 6 + 0)) + (nI (c % 6) + (-1)) = oI (nb c 3)) := by decide +kernel
theorem oI_none' {o : Option Nat} (h : o.isSome = false) : (-1 : Int32) = oI o := by
  cases o with
  | none => rfl
  | some k => cases h
/-- where water flows, in strictly falling heights -/
theorem lowN_lo {ht : Nat → Nat} {c : Nat} : ∀ d, lowN ht c d = c ∨ ht (lowN ht c d) < ht c
  | 0 => Or.inl rfl
  | d + 1 => by
    have h := lowN_lo (ht := ht) (c := c) d
    simp only [lowN]
    split
    · rename_i k hk
      split
      · rename_i q
        rcases h with h | h
        · rw [h] at q; exact Or.inr q
        · exact Or.inr (Nat.lt_trans q h)
      · exact h
    · exact h
theorem flow_fall {ht wr : Nat → Nat} {c k : Nat} (h : flow ht wr c = some k) : ht k < ht c := by
  unfold flow at h
  split at h
  · cases h
  · split at h
    · cases h
    · rename_i q
      cases h
      exact (lowN_lo 4).resolve_left q
abbrev nxtN (ht wr : Nat → Nat) (c : Nat) : Nat := (flow ht wr c).getD c
theorem nxtN_lt {ht wr : Nat → Nat} {c : Nat} (hc : c < 36) : nxtN ht wr c < 36 := by
  unfold nxtN
  cases h : flow ht wr c with
  | none => exact hc
  | some k => exact flow_lt hc h
theorem nxtN_eq {ht wr : Nat → Nat} {c : Nat} : nxtN ht wr c = c ↔ flow ht wr c = none := by
  unfold nxtN
  cases h : flow ht wr c with
  | none => simp
  | some k =>
    have := flow_fall h
    constructor
    · intro q
      have q2 : k = c := q
      rw [q2] at this; omega
    · intro q; cases q
/-- how many cells are lower -/
abbrev lowC (ht : Nat → Nat) (c : Nat) : Nat := cnt (fun j => decide (ht j < ht c)) 36
theorem lowC_fall {ht wr : Nat → Nat} {c k : Nat} (hc : c < 36) (h : flow ht wr c = some k) : lowC ht k < lowC ht c := by
  have h1 := flow_fall h
  have h2 : lowC ht k + 1 ≤ lowC ht c := cnt_more (p := fun j => decide (ht j < ht k)) (q := fun j => decide (ht j < ht c)) (k := k) (n := 36) (fun j _ q => decide_eq_true (by have := of_decide_eq_true q; omega)) (flow_lt hc h) (decide_eq_false (Nat.lt_irrefl _)) (decide_eq_true h1)
  omega
theorem lowC_36 {ht : Nat → Nat} {c : Nat} (hc : c < 36) : lowC ht c < 36 := cnt_lt hc (decide_eq_false (Nat.lt_irrefl _))
theorem endN_more {ht wr : Nat → Nat} : ∀ {n c : Nat}, c < 36 → lowC ht c ≤ n → endN ht wr (n + 1) c = endN ht wr n c
  | 0, c, hc, h => by
    cases e : flow ht wr c with
    | none => simp only [endN, e]
    | some k => have := lowC_fall hc e; omega
  | n + 1, c, hc, h => by
    cases e : flow ht wr c with
    | none => simp only [endN, e]
    | some k =>
      have h1 := lowC_fall hc e
      have ih := endN_more (ht := ht) (wr := wr) (n := n) (flow_lt hc e) (by omega)
      conv => lhs; unfold endN
      rw [e]
      conv => rhs; unfold endN
      rw [e]
      exact ih
theorem endN_step {ht wr : Nat → Nat} {c k : Nat} (hc : c < 36) (h : flow ht wr c = some k) : endN ht wr 36 c = endN ht wr 36 k := by
  have h1 := lowC_fall hc h
  have h2 := lowC_36 (ht := ht) hc
  rw [endN_more (n := 35) (flow_lt hc h) (by omega)]
  conv => lhs; unfold endN
  rw [h]
theorem endN_stop {ht wr : Nat → Nat} {c : Nat} (h : flow ht wr c = none) (n : Nat) : endN ht wr n c = c := by
  cases n with
  | zero => rfl
  | succ n => simp only [endN, h]
theorem endN_end {ht wr : Nat → Nat} : ∀ {n c : Nat}, c < 36 → lowC ht c ≤ n → flow ht wr (endN ht wr n c) = none
  | 0, c, hc, h => by
    cases e : flow ht wr c with
    | none => rw [endN_stop e]; exact e
    | some k => have := lowC_fall hc e; omega
  | n + 1, c, hc, h => by
    cases e : flow ht wr c with
    | none => rw [endN_stop e]; exact e
    | some k =>
      have h1 := lowC_fall hc e
      have ih := endN_end (ht := ht) (wr := wr) (n := n) (flow_lt hc e) (by omega)
      simp only [endN, e]
      exact ih
/-- the row g holds a sheet -/
def mRg (g ht pg wt wr mo : Nat → Nat) (mc ni po dn : Nat) : Prop := (∀ k, k < 36 → g (4 + k) = ht k) ∧ (∀ k, k < 36 → g (40 + k) = wr k) ∧ (∀ k, k < 36 → g (76 + k) = pg k) ∧ (∀ k, k < 36 → g (112 + k) = wt k) ∧ (∀ k, k < mc → g (148 + k) = mo k) ∧ g 3 = mc ∧ g 0 = ni ∧ g 1 = po ∧ g 2 = dn
def mRS (g : Nat → Nat) (S : Sh) : Prop := mRg g S.1 S.2.2.1 S.2.2.2.1 S.2.2.2.2.1 S.2.2.2.2.2.1 S.2.2.2.2.2.2.1 S.2.2.2.2.2.2.2.1 S.2.2.2.2.2.2.2.2.1 S.2.2.2.2.2.2.2.2.2
theorem fil_eq {f g : Nat → Nat} {i : Nat} (h : f i = g i) : fil (i + 1) f g = fil i f g := by
  funext j
  by_cases q : j = i
  · subst q; rw [fil_in (by omega), fil_out (Nat.le_refl _)]; exact h
  · by_cases z : j < i
    · rw [fil_in z, fil_in (by omega)]
    · rw [fil_out (by omega), fil_out (by omega)]
theorem cnt_pg {f : Nat → Nat} {i : Nat} (h : f i ≤ 1) : cnt (fun k => f k == 1) (i + 1) = cnt (fun k => f k == 1) i + f i := by
  rcases (show f i = 0 ∨ f i = 1 by omega) with q | q
  · rw [cnt_n (by show (f i == 1) = false; rw [q]; rfl), q, Nat.add_zero]
  · rw [cnt_y (by show (f i == 1) = true; rw [q]; rfl), q]
def MDC (E : gE) (ad : Nat → Nat) (b : Nat) (g kp sv bf sd ip sg mk td lv tl : Nat → Nat) (qs : Nat) (qc : Nat) (qw : Nat) (qd : Nat) (co : Nat) (wy : Nat) (de : Int32) (ca : Nat) (ln : Nat) (fa : Option Nat) (sm : Nat) (pa : Nat) (tm : Nat) : Nat → va_E
  | 0 => .inr (16, [.ref (ad (b + 1)), .ref (ad (b + 2)), .ref (ad (b + 3)), .ref (ad (b + 4)), .ref (ad (b + 5)), .int (nI qs), .int (nI qc), .int (nI qw), .int (nI qd), .int (nI co), .int (nI wy), .int de, .int (nI ca), .ref (ad (b + 6)), .int (nI ln), .int (oI fa), .ref (ad (b + 7)), .int (nI sm), .ref (ad (b + 8)), .ref (ad (b + 9)), .ref (ad (b + 10)), .int (nI pa), .ref (ad (b + 11)), .int (nI tm)])
  | 1 => gAr (E.2.1 0) 152 g
  | 2 => gAr (E.2.1 0) 1216 kp
  | 3 => gAr (E.2.1 0) 152 sv
  | 4 => gAr (E.2.1 0) 152 bf
  | 5 => gAr (E.2.1 0) 152 sd
  | 6 => gAr (E.2.1 0) 60 ip
  | 7 => gAr (E.2.1 2) 60 sg
  | 8 => gAr (E.2.1 0) 36 mk
  | 9 => gAr (E.2.1 0) 36 td
  | 10 => gAr (E.2.1 0) 36 lv
  | _ => gAr (E.2.1 0) 124 tl
theorem MD_setO {E : gE} {ad : Nat → Nat} {N b : Nat} {g kp sv bf sd ip sg mk td lv tl : Nat → Nat} {qs : Nat} {qc : Nat} {qw : Nat} {qd : Nat} {co : Nat} {wy : Nat} {de : Int32} {ca : Nat} {ln : Nat} {fa : Option Nat} {sm : Nat} {pa : Nat} {tm : Nat} {w : Nat → va_E} (h : bkP N w b 12 (MDC E ad b g kp sv bf sd ip sg mk td lv tl qs qc qw qd co wy de ca ln fa sm pa tm)) (qs' : Nat) (qc' : Nat) (qw' : Nat) (qd' : Nat) (co' : Nat) (wy' : Nat) (de' : Int32) (ca' : Nat) (ln' : Nat) (fa' : Option Nat) (sm' : Nat) (pa' : Nat) (tm' : Nat) : bkP N (va_up w (b) (MDC E ad b g kp sv bf sd ip sg mk td lv tl qs' qc' qw' qd' co' wy' de' ca' ln' fa' sm' pa' tm' 0)) b 12 (MDC E ad b g kp sv bf sd ip sg mk td lv tl qs' qc' qw' qd' co' wy' de' ca' ln' fa' sm' pa' tm') := (h.set 0 (by decide) _).to (fun k hk => by match k, hk with | 0, _ => rfl | 1, _ => rfl | 2, _ => rfl | 3, _ => rfl | 4, _ => rfl | 5, _ => rfl | 6, _ => rfl | 7, _ => rfl | 8, _ => rfl | 9, _ => rfl | 10, _ => rfl | 11, _ => rfl)
theorem MD_setA0 {E : gE} {ad : Nat → Nat} {N b : Nat} {g kp sv bf sd ip sg mk td lv tl : Nat → Nat} {qs : Nat} {qc : Nat} {qw : Nat} {qd : Nat} {co : Nat} {wy : Nat} {de : Int32} {ca : Nat} {ln : Nat} {fa : Option Nat} {sm : Nat} {pa : Nat} {tm : Nat} {w : Nat → va_E} (h : bkP N w b 12 (MDC E ad b g kp sv bf sd ip sg mk td lv tl qs qc qw qd co wy de ca ln fa sm pa tm)) (f : Nat → Nat) : bkP N (va_up w (b + 1) (MDC E ad b f kp sv bf sd ip sg mk td lv tl qs qc qw qd co wy de ca ln fa sm pa tm 1)) b 12 (MDC E ad b f kp sv bf sd ip sg mk td lv tl qs qc qw qd co wy de ca ln fa sm pa tm) := (h.set 1 (by decide) _).to (fun k hk => by match k, hk with | 0, _ => rfl | 1, _ => rfl | 2, _ => rfl | 3, _ => rfl | 4, _ => rfl | 5, _ => rfl | 6, _ => rfl | 7, _ => rfl | 8, _ => rfl | 9, _ => rfl | 10, _ => rfl | 11, _ => rfl)
theorem MD_setA1 {E : gE} {ad : Nat → Nat} {N b : Nat} {g kp sv bf sd ip sg mk td lv tl : Nat → Nat} {qs : Nat} {qc : Nat} {qw : Nat} {qd : Nat} {co : Nat} {wy : Nat} {de : Int32} {ca : Nat} {ln : Nat} {fa : Option Nat} {sm : Nat} {pa : Nat} {tm : Nat} {w : Nat → va_E} (h : bkP N w b 12 (MDC E ad b g kp sv bf sd ip sg mk td lv tl qs qc qw qd co wy de ca ln fa sm pa tm)) (f : Nat → Nat) : bkP N (va_up w (b + 2) (MDC E ad b g f sv bf sd ip sg mk td lv tl qs qc qw qd co wy de ca ln fa sm pa tm 2)) b 12 (MDC E ad b g f sv bf sd ip sg mk td lv tl qs qc qw qd co wy de ca ln fa sm pa tm) := (h.set 2 (by decide) _).to (fun k hk => by match k, hk with | 0, _ => rfl | 1, _ => rfl | 2, _ => rfl | 3, _ => rfl | 4, _ => rfl | 5, _ => rfl | 6, _ => rfl | 7, _ => rfl | 8, _ => rfl | 9, _ => rfl | 10, _ => rfl | 11, _ => rfl)
theorem MD_setA2 {E : gE} {ad : Nat → Nat} {N b : Nat} {g kp sv bf sd ip sg mk td lv tl : Nat → Nat} {qs : Nat} {qc : Nat} {qw : Nat} {qd : Nat} {co : Nat} {wy : Nat} {de : Int32} {ca : Nat} {ln : Nat} {fa : Option Nat} {sm : Nat} {pa : Nat} {tm : Nat} {w : Nat → va_E} (h : bkP N w b 12 (MDC E ad b g kp sv bf sd ip sg mk td lv tl qs qc qw qd co wy de ca ln fa sm pa tm)) (f : Nat → Nat) : bkP N (va_up w (b + 3) (MDC E ad b g kp f bf sd ip sg mk td lv tl qs qc qw qd co wy de ca ln fa sm pa tm 3)) b 12 (MDC E ad b g kp f bf sd ip sg mk td lv tl qs qc qw qd co wy de ca ln fa sm pa tm) := (h.set 3 (by decide) _).to (fun k hk => by match k, hk with | 0, _ => rfl | 1, _ => rfl | 2, _ => rfl | 3, _ => rfl | 4, _ => rfl | 5, _ => rfl | 6, _ => rfl | 7, _ => rfl | 8, _ => rfl | 9, _ => rfl | 10, _ => rfl | 11, _ => rfl)
theorem MD_setA3 {E : gE} {ad : Nat → Nat} {N b : Nat} {g kp sv bf sd ip sg mk td lv tl : Nat → Nat} {qs : Nat} {qc : Nat} {qw : Nat} {qd : Nat} {co : Nat} {wy : Nat} {de : Int32} {ca : Nat} {ln : Nat} {fa : Option Nat} {sm : Nat} {pa : Nat} {tm : Nat} {w : Nat → va_E} (h : bkP N w b 12 (MDC E ad b g kp sv bf sd ip sg mk td lv tl qs qc qw qd co wy de ca ln fa sm pa tm)) (f : Nat → Nat) : bkP N (va_up w (b + 4) (MDC E ad b g kp sv f sd ip sg mk td lv tl qs qc qw qd co wy de ca ln fa sm pa tm 4)) b 12 (MDC E ad b g kp sv f sd ip sg mk td lv tl qs qc qw qd co wy de ca ln fa sm pa tm) := (h.set 4 (by decide) _).to (fun k hk => by match k, hk with | 0, _ => rfl | 1, _ => rfl | 2, _ => rfl | 3, _ => rfl | 4, _ => rfl | 5, _ => rfl | 6, _ => rfl | 7, _ => rfl | 8, _ => rfl | 9, _ => rfl | 10, _ => rfl | 11, _ => rfl)
theorem MD_setA4 {E : gE} {ad : Nat → Nat} {N b : Nat} {g kp sv bf sd ip sg mk td lv tl : Nat → Nat} {qs : Nat} {qc : Nat} {qw : Nat} {qd : Nat} {co : Nat} {wy : Nat} {de : Int32} {ca : Nat} {ln : Nat} {fa : Option Nat} {sm : Nat} {pa : Nat} {tm : Nat} {w : Nat → va_E} (h : bkP N w b 12 (MDC E ad b g kp sv bf sd ip sg mk td lv tl qs qc qw qd co wy de ca ln fa sm pa tm)) (f : Nat → Nat) : bkP N (va_up w (b + 5) (MDC E ad b g kp sv bf f ip sg mk td lv tl qs qc qw qd co wy de ca ln fa sm pa tm 5)) b 12 (MDC E ad b g kp sv bf f ip sg mk td lv tl qs qc qw qd co wy de ca ln fa sm pa tm) := (h.set 5 (by decide) _).to (fun k hk => by match k, hk with | 0, _ => rfl | 1, _ => rfl | 2, _ => rfl | 3, _ => rfl | 4, _ => rfl | 5, _ => rfl | 6, _ => rfl | 7, _ => rfl | 8, _ => rfl | 9, _ => rfl | 10, _ => rfl | 11, _ => rfl)
theorem MD_setA5 {E : gE} {ad : Nat → Nat} {N b : Nat} {g kp sv bf sd ip sg mk td lv tl : Nat → Nat} {qs : Nat} {qc : Nat} {qw : Nat} {qd : Nat} {co : Nat} {wy : Nat} {de : Int32} {ca : Nat} {ln : Nat} {fa : Option Nat} {sm : Nat} {pa : Nat} {tm : Nat} {w : Nat → va_E} (h : bkP N w b 12 (MDC E ad b g kp sv bf sd ip sg mk td lv tl qs qc qw qd co wy de ca ln fa sm pa tm)) (f : Nat → Nat) : bkP N (va_up w (b + 6) (MDC E ad b g kp sv bf sd f sg mk td lv tl qs qc qw qd co wy de ca ln fa sm pa tm 6)) b 12 (MDC E ad b g kp sv bf sd f sg mk td lv tl qs qc qw qd co wy de ca ln fa sm pa tm) := (h.set 6 (by decide) _).to (fun k hk => by match k, hk with | 0, _ => rfl | 1, _ => rfl | 2, _ => rfl | 3, _ => rfl | 4, _ => rfl | 5, _ => rfl | 6, _ => rfl | 7, _ => rfl | 8, _ => rfl | 9, _ => rfl | 10, _ => rfl | 11, _ => rfl)
theorem MD_setA6 {E : gE} {ad : Nat → Nat} {N b : Nat} {g kp sv bf sd ip sg mk td lv tl : Nat → Nat} {qs : Nat} {qc : Nat} {qw : Nat} {qd : Nat} {co : Nat} {wy : Nat} {de : Int32} {ca : Nat} {ln : Nat} {fa : Option Nat} {sm : Nat} {pa : Nat} {tm : Nat} {w : Nat → va_E} (h : bkP N w b 12 (MDC E ad b g kp sv bf sd ip sg mk td lv tl qs qc qw qd co wy de ca ln fa sm pa tm)) (f : Nat → Nat) : bkP N (va_up w (b + 7) (MDC E ad b g kp sv bf sd ip f mk td lv tl qs qc qw qd co wy de ca ln fa sm pa tm 7)) b 12 (MDC E ad b g kp sv bf sd ip f mk td lv tl qs qc qw qd co wy de ca ln fa sm pa tm) := (h.set 7 (by decide) _).to (fun k hk => by match k, hk with | 0, _ => rfl | 1, _ => rfl | 2, _ => rfl | 3, _ => rfl | 4, _ => rfl | 5, _ => rfl | 6, _ => rfl | 7, _ => rfl | 8, _ => rfl | 9, _ => rfl | 10, _ => rfl | 11, _ => rfl)
theorem MD_setA7 {E : gE} {ad : Nat → Nat} {N b : Nat} {g kp sv bf sd ip sg mk td lv tl : Nat → Nat} {qs : Nat} {qc : Nat} {qw : Nat} {qd : Nat} {co : Nat} {wy : Nat} {de : Int32} {ca : Nat} {ln : Nat} {fa : Option Nat} {sm : Nat} {pa : Nat} {tm : Nat} {w : Nat → va_E} (h : bkP N w b 12 (MDC E ad b g kp sv bf sd ip sg mk td lv tl qs qc qw qd co wy de ca ln fa sm pa tm)) (f : Nat → Nat) : bkP N (va_up w (b + 8) (MDC E ad b g kp sv bf sd ip sg f td lv tl qs qc qw qd co wy de ca ln fa sm pa tm 8)) b 12 (MDC E ad b g kp sv bf sd ip sg f td lv tl qs qc qw qd co wy de ca ln fa sm pa tm) := (h.set 8 (by decide) _).to (fun k hk => by match k, hk with | 0, _ => rfl | 1, _ => rfl | 2, _ => rfl | 3, _ => rfl | 4, _ => rfl | 5, _ => rfl | 6, _ => rfl | 7, _ => rfl | 8, _ => rfl | 9, _ => rfl | 10, _ => rfl | 11, _ => rfl)
theorem MD_setA8 {E : gE} {ad : Nat → Nat} {N b : Nat} {g kp sv bf sd ip sg mk td lv tl : Nat → Nat} {qs : Nat} {qc : Nat} {qw : Nat} {qd : Nat} {co : Nat} {wy : Nat} {de : Int32} {ca : Nat} {ln : Nat} {fa : Option Nat} {sm : Nat} {pa : Nat} {tm : Nat} {w : Nat → va_E} (h : bkP N w b 12 (MDC E ad b g kp sv bf sd ip sg mk td lv tl qs qc qw qd co wy de ca ln fa sm pa tm)) (f : Nat → Nat) : bkP N (va_up w (b + 9) (MDC E ad b g kp sv bf sd ip sg mk f lv tl qs qc qw qd co wy de ca ln fa sm pa tm 9)) b 12 (MDC E ad b g kp sv bf sd ip sg mk f lv tl qs qc qw qd co wy de ca ln fa sm pa tm) := (h.set 9 (by decide) _).to (fun k hk => by match k, hk with | 0, _ => rfl | 1, _ => rfl | 2, _ => rfl | 3, _ => rfl | 4, _ => rfl | 5, _ => rfl | 6, _ => rfl | 7, _ => rfl | 8, _ => rfl | 9, _ => rfl | 10, _ => rfl | 11, _ => rfl)
theorem MD_setA9 {E : gE} {ad : Nat → Nat} {N b : Nat} {g kp sv bf sd ip sg mk td lv tl : Nat → Nat} {qs : Nat} {qc : Nat} {qw : Nat} {qd : Nat} {co : Nat} {wy : Nat} {de : Int32} {ca : Nat} {ln : Nat} {fa : Option Nat} {sm : Nat} {pa : Nat} {tm : Nat} {w : Nat → va_E} (h : bkP N w b 12 (MDC E ad b g kp sv bf sd ip sg mk td lv tl qs qc qw qd co wy de ca ln fa sm pa tm)) (f : Nat → Nat) : bkP N (va_up w (b + 10) (MDC E ad b g kp sv bf sd ip sg mk td f tl qs qc qw qd co wy de ca ln fa sm pa tm 10)) b 12 (MDC E ad b g kp sv bf sd ip sg mk td f tl qs qc qw qd co wy de ca ln fa sm pa tm) := (h.set 10 (by decide) _).to (fun k hk => by match k, hk with | 0, _ => rfl | 1, _ => rfl | 2, _ => rfl | 3, _ => rfl | 4, _ => rfl | 5, _ => rfl | 6, _ => rfl | 7, _ => rfl | 8, _ => rfl | 9, _ => rfl | 10, _ => rfl | 11, _ => rfl)
theorem MD_setA10 {E : gE} {ad : Nat → Nat} {N b : Nat} {g kp sv bf sd ip sg mk td lv tl : Nat → Nat} {qs : Nat} {qc : Nat} {qw : Nat} {qd : Nat} {co : Nat} {wy : Nat} {de : Int32} {ca : Nat} {ln : Nat} {fa : Option Nat} {sm : Nat} {pa : Nat} {tm : Nat} {w : Nat → va_E} (h : bkP N w b 12 (MDC E ad b g kp sv bf sd ip sg mk td lv tl qs qc qw qd co wy de ca ln fa sm pa tm)) (f : Nat → Nat) : bkP N (va_up w (b + 11) (MDC E ad b g kp sv bf sd ip sg mk td lv f qs qc qw qd co wy de ca ln fa sm pa tm 11)) b 12 (MDC E ad b g kp sv bf sd ip sg mk td lv f qs qc qw qd co wy de ca ln fa sm pa tm) := (h.set 11 (by decide) _).to (fun k hk => by match k, hk with | 0, _ => rfl | 1, _ => rfl | 2, _ => rfl | 3, _ => rfl | 4, _ => rfl | 5, _ => rfl | 6, _ => rfl | 7, _ => rfl | 8, _ => rfl | 9, _ => rfl | 10, _ => rfl | 11, _ => rfl)
set_option maxHeartbeats 4000000 in
set_option maxRecDepth 100000 in
/-- the code -/
theorem mX13_thrown (l : Launch) {E : gE} {ad : Nat → Nat} {N : Nat} {w : Nat → va_E} (b : Nat) (g kp sv bf sd ip sg mk td lv tl : Nat → Nat) (qs qc qw qd co wy : Nat) (de : Int32) (ca ln : Nat) (fa : Option Nat) (sm pa tm : Nat)  (hb_m : bkP N w b 12 (MDC E ad b g kp sv bf sd ip sg mk td lv tl qs qc qw qd co wy de ca ln fa sm pa tm))  : gMi l yX13_thrown (lw_ws yX13_thrown cX13_thrown 1 (some .int)) ({ frames := 0, cells := 0, slots := 0, locals := 0 } : Room) E ad N w [.ref (ad (b))] (fun r w' => r = nI co ∧ w' = w) 0 0 := by
  refine Met.ofW (cc := cX13_thrown) (maxL := 1) (ret := (some .int)) (by decide) rfl ?_
  intro p e s m args below meth cd s₁ B hml hv
  obtain ⟨rfl, hI, hP⟩ := hv
  obtain ⟨S, hr, hlocks⟩ := gPre (ws := []) B hml (C := RX13) rfl
  have hx := S.1
  have hb := S.2.1
  have hS : va_S (gA E) s.heap s.heap [] := va_S.rf
  have hl := lv_entry ([.ref (ad (b))]) (n := 1) (Nat.le_of_ble_eq_true rfl)
  rw [lg_entry_eq]
  generalize (lg_sl ([.ref (ad (b))]) ++ List.replicate (1 - (lg_sl ([.ref (ad (b))])).length) Slot.unset).toArray = ls at hl ⊢
  have hl : lv_has ls 1 [(0, .ref (ad (b)))] := hl
  refine lv_aload_n hx hb dX13_thrown_0 rfl (lv_at hl 0 rfl) ?_
  refine g_get S hI hP uX13 rfl (fs := _) (hb_m.lt 0 (by decide)) (hb_m.2 0 (by decide)) 9 (by decide) q1796 rfl (v := .int (nI (co))) rfl dX13_thrown_1 ?_
  exact g_iret S hr hlocks hP hS (⟨rfl, rfl⟩) (fun _ _ => rfl) (Nat.le_of_ble_eq_true rfl) (Nat.le_of_ble_eq_true rfl) dX13_thrown_4
set_option maxHeartbeats 4000000 in
set_option maxRecDepth 100000 in
/-- a code is kept -/
theorem mX13_fails (l : Launch) {E : gE} {ad : Nat → Nat} {N : Nat} {w : Nat → va_E} (b : Nat) (g kp sv bf sd ip sg mk td lv tl : Nat → Nat) (qs qc qw qd co wy : Nat) (de : Int32) (ca ln : Nat) (fa : Option Nat) (sm pa tm : Nat) (x : Nat) (hb_m : bkP N w b 12 (MDC E ad b g kp sv bf sd ip sg mk td lv tl qs qc qw qd co wy de ca ln fa sm pa tm)) (hx3 : x < 4) : gMi l yX13_fails (lw_ws yX13_fails cX13_fails 2 (some .boolean)) ({ frames := 0, cells := 0, slots := 0, locals := 0 } : Room) E ad N w [.ref (ad (b)), .int (nI (x))] (fun r w' => r = bI (decide (0 < x)) ∧ bkP N w' b 12 (MDC E ad b g kp sv bf sd ip sg mk td lv tl qs qc qw 0 x wy de ca ln fa sm pa tm) ∧ gFr (gIn b 12) w w') 0 0 := by
  refine Met.ofW (cc := cX13_fails) (maxL := 2) (ret := (some .boolean)) (by decide) rfl ?_
  intro p e s m args below meth cd s₁ B hml hv
  obtain ⟨rfl, hI, hP⟩ := hv
  obtain ⟨S, hr, hlocks⟩ := gPre (ws := []) B hml (C := RX13) rfl
  have hx := S.1
  have hb := S.2.1
  have hS : va_S (gA E) s.heap s.heap [] := va_S.rf
  have hfr : gFr (gIn b 12) w w := gFr.rf
  have hl := lv_entry ([.ref (ad (b)), .int (nI (x))]) (n := 2) (Nat.le_of_ble_eq_true rfl)
  rw [lg_entry_eq]
  generalize (lg_sl ([.ref (ad (b)), .int (nI (x))]) ++ List.replicate (2 - (lg_sl ([.ref (ad (b)), .int (nI (x))])).length) Slot.unset).toArray = ls at hl ⊢
  have hl : lv_has ls 2 [(0, .ref (ad (b))), (1, .int (nI (x)))] := hl
  refine lv_aload_n hx hb dX13_fails_0 rfl (lv_at hl 0 rfl) ?_
  refine lv_iload_n hx hb dX13_fails_1 rfl (lv_at hl 1 rfl) ?_
  refine g_put S hI hP hS uX13 rfl tyX13 tyX13_ok nmX13 (fs := _) (hb_m.lt 0 (by decide)) (hb_m.2 0 (by decide)) 9 (by decide) q1796 rfl rfl (v := .int (nI (x))) rfl rfl (Nat.le_of_ble_eq_true rfl) dX13_fails_2 (fun H locs hP hS => ?_)
  have hP : gP E ad N (va_up _ (b) (MDC E ad b g kp sv bf sd ip sg mk td lv tl qs qc qw qd x wy de ca ln fa sm pa tm 0)) H := hP
  have hb1 : bkP N (va_up _ (b) (MDC E ad b g kp sv bf sd ip sg mk td lv tl qs qc qw qd x wy de ca ln fa sm pa tm 0)) b 12 (MDC E ad b g kp sv bf sd ip sg mk td lv tl qs qc qw qd x wy de ca ln fa sm pa tm) := MD_setO hb_m _ _ _ _ _ _ _ _ _ _ _ _ _
  have hfr := hfr.up (p := b) (e := MDC E ad b g kp sv bf sd ip sg mk td lv tl qs qc qw qd x wy de ca ln fa sm pa tm 0) (by show _ ∧ _; omega)
  refine lv_aload_n hx hb dX13_fails_5 rfl (lv_at hl 0 rfl) ?_
  refine g_iconst S 0 dX13_fails_6 (by decide +kernel) ?_
  refine g_put S hI hP hS uX13 rfl tyX13 tyX13_ok nmX13 (fs := _) (hb1.lt 0 (by decide)) (hb1.2 0 (by decide)) 8 (by decide) q1795 rfl rfl (v := .int (nI (0))) rfl rfl (Nat.le_of_ble_eq_true rfl) dX13_fails_7 (fun H locs hP hS => ?_)
  have hP : gP E ad N (va_up _ (b) (MDC E ad b g kp sv bf sd ip sg mk td lv tl qs qc qw 0 x wy de ca ln fa sm pa tm 0)) H := hP
  have hb2 : bkP N (va_up _ (b) (MDC E ad b g kp sv bf sd ip sg mk td lv tl qs qc qw 0 x wy de ca ln fa sm pa tm 0)) b 12 (MDC E ad b g kp sv bf sd ip sg mk td lv tl qs qc qw 0 x wy de ca ln fa sm pa tm) := MD_setO hb1 _ _ _ _ _ _ _ _ _ _ _ _ _
  have hfr := hfr.up (p := b) (e := MDC E ad b g kp sv bf sd ip sg mk td lv tl qs qc qw 0 x wy de ca ln fa sm pa tm 0) (by show _ ∧ _; omega)
  refine lv_iload_n hx hb dX13_fails_10 rfl (lv_at hl 1 rfl) ?_
  refine g_ifle S (a := x) (by omega) (tgt := 18) dX13_fails_11 (by decide) (fun h => ?_) (fun h => ?_)
  · refine g_iconst S 0 dX13_fails_18 (by decide +kernel) ?_
    exact g_zret S hr hlocks (Or.inl nI_0) hP hS (⟨by rw [decide_eq_false (by omega)]; rfl, hb2, hfr⟩) (fun _ _ => rfl) (Nat.le_of_ble_eq_true rfl) (Nat.le_of_ble_eq_true rfl) dX13_fails_19
  · refine g_iconst S 1 dX13_fails_14 (by decide +kernel) ?_
    refine lv_goto (tgt := 19) hx hb dX13_fails_15 (by decide) ?_
    exact g_zret S hr hlocks (Or.inr (by decide +kernel)) hP hS (⟨by rw [decide_eq_true (by omega)]; rfl, hb2, hfr⟩) (fun _ _ => rfl) (Nat.le_of_ble_eq_true rfl) (Nat.le_of_ble_eq_true rfl) dX13_fails_19
set_option maxHeartbeats 4000000 in
set_option maxRecDepth 100000 in
/-- a denial is kept -/
theorem mX13_denies (l : Launch) {E : gE} {ad : Nat → Nat} {N : Nat} {w : Nat → va_E} (b : Nat) (g kp sv bf sd ip sg mk td lv tl : Nat → Nat) (qs qc qw qd co wy : Nat) (de : Int32) (ca ln : Nat) (fa : Option Nat) (sm pa tm : Nat) (x u : Nat) (v : Int32) (hb_m : bkP N w b 12 (MDC E ad b g kp sv bf sd ip sg mk td lv tl qs qc qw qd co wy de ca ln fa sm pa tm))  : gMi l yX13_denies (lw_ws yX13_denies cX13_denies 4 (some .int)) ({ frames := 0, cells := 0, slots := 0, locals := 0 } : Room) E ad N w [.ref (ad (b)), .int (nI (x)), .int (nI (u)), .int (v)] (fun r w' => r = nI 0 ∧ bkP N w' b 12 (MDC E ad b g kp sv bf sd ip sg mk td lv tl qs qc qw 1 x u v 0 ln fa sm pa tm) ∧ gFr (gIn b 12) w w') 0 0 := by
  refine Met.ofW (cc := cX13_denies) (maxL := 4) (ret := (some .int)) (by decide) rfl ?_
  intro p e s m args below meth cd s₁ B hml hv
  obtain ⟨rfl, hI, hP⟩ := hv
  obtain ⟨S, hr, hlocks⟩ := gPre (ws := []) B hml (C := RX13) rfl
  have hx := S.1
  have hb := S.2.1
  have hS : va_S (gA E) s.heap s.heap [] := va_S.rf
  have hfr : gFr (gIn b 12) w w := gFr.rf
  have hl := lv_entry ([.ref (ad (b)), .int (nI (x)), .int (nI (u)), .int (v)]) (n := 4) (Nat.le_of_ble_eq_true rfl)
  rw [lg_entry_eq]
  generalize (lg_sl ([.ref (ad (b)), .int (nI (x)), .int (nI (u)), .int (v)]) ++ List.replicate (4 - (lg_sl ([.ref (ad (b)), .int (nI (x)), .int (nI (u)), .int (v)])).length) Slot.unset).toArray = ls at hl ⊢
  have hl : lv_has ls 4 [(0, .ref (ad (b))), (1, .int (nI (x))), (2, .int (nI (u))), (3, .int (v))] := hl
  refine lv_aload_n hx hb dX13_denies_0 rfl (lv_at hl 0 rfl) ?_
  refine lv_iload_n hx hb dX13_denies_1 rfl (lv_at hl 1 rfl) ?_
  refine g_put S hI hP hS uX13 rfl tyX13 tyX13_ok nmX13 (fs := _) (hb_m.lt 0 (by decide)) (hb_m.2 0 (by decide)) 9 (by decide) q1796 rfl rfl (v := .int (nI (x))) rfl rfl (Nat.le_of_ble_eq_true rfl) dX13_denies_2 (fun H locs hP hS => ?_)
  have hP : gP E ad N (va_up _ (b) (MDC E ad b g kp sv bf sd ip sg mk td lv tl qs qc qw qd x wy de ca ln fa sm pa tm 0)) H := hP
  have hb1 : bkP N (va_up _ (b) (MDC E ad b g kp sv bf sd ip sg mk td lv tl qs qc qw qd x wy de ca ln fa sm pa tm 0)) b 12 (MDC E ad b g kp sv bf sd ip sg mk td lv tl qs qc qw qd x wy de ca ln fa sm pa tm) := MD_setO hb_m _ _ _ _ _ _ _ _ _ _ _ _ _
  have hfr := hfr.up (p := b) (e := MDC E ad b g kp sv bf sd ip sg mk td lv tl qs qc qw qd x wy de ca ln fa sm pa tm 0) (by show _ ∧ _; omega)
  refine lv_aload_n hx hb dX13_denies_5 rfl (lv_at hl 0 rfl) ?_
  refine g_iconst S 1 dX13_denies_6 (by decide +kernel) ?_
  refine g_put S hI hP hS uX13 rfl tyX13 tyX13_ok nmX13 (fs := _) (hb1.lt 0 (by decide)) (hb1.2 0 (by decide)) 8 (by decide) q1795 rfl rfl (v := .int (nI (1))) rfl rfl (Nat.le_of_ble_eq_true rfl) dX13_denies_7 (fun H locs hP hS => ?_)
  have hP : gP E ad N (va_up _ (b) (MDC E ad b g kp sv bf sd ip sg mk td lv tl qs qc qw 1 x wy de ca ln fa sm pa tm 0)) H := hP
  have hb2 : bkP N (va_up _ (b) (MDC E ad b g kp sv bf sd ip sg mk td lv tl qs qc qw 1 x wy de ca ln fa sm pa tm 0)) b 12 (MDC E ad b g kp sv bf sd ip sg mk td lv tl qs qc qw 1 x wy de ca ln fa sm pa tm) := MD_setO hb1 _ _ _ _ _ _ _ _ _ _ _ _ _
  have hfr := hfr.up (p := b) (e := MDC E ad b g kp sv bf sd ip sg mk td lv tl qs qc qw 1 x wy de ca ln fa sm pa tm 0) (by show _ ∧ _; omega)
  refine lv_aload_n hx hb dX13_denies_10 rfl (lv_at hl 0 rfl) ?_
  refine lv_iload_n hx hb dX13_denies_11 rfl (lv_at hl 2 rfl) ?_
  refine g_put S hI hP hS uX13 rfl tyX13 tyX13_ok nmX13 (fs := _) (hb2.lt 0 (by decide)) (hb2.2 0 (by decide)) 10 (by decide) q1797 rfl rfl (v := .int (nI (u))) rfl rfl (Nat.le_of_ble_eq_true rfl) dX13_denies_12 (fun H locs hP hS => ?_)
  have hP : gP E ad N (va_up _ (b) (MDC E ad b g kp sv bf sd ip sg mk td lv tl qs qc qw 1 x u de ca ln fa sm pa tm 0)) H := hP
  have hb3 : bkP N (va_up _ (b) (MDC E ad b g kp sv bf sd ip sg mk td lv tl qs qc qw 1 x u de ca ln fa sm pa tm 0)) b 12 (MDC E ad b g kp sv bf sd ip sg mk td lv tl qs qc qw 1 x u de ca ln fa sm pa tm) := MD_setO hb2 _ _ _ _ _ _ _ _ _ _ _ _ _
  have hfr := hfr.up (p := b) (e := MDC E ad b g kp sv bf sd ip sg mk td lv tl qs qc qw 1 x u de ca ln fa sm pa tm 0) (by show _ ∧ _; omega)
  refine lv_aload_n hx hb dX13_denies_15 rfl (lv_at hl 0 rfl) ?_
  refine lv_iload_n hx hb dX13_denies_16 rfl (lv_at hl 3 rfl) ?_
  refine g_put S hI hP hS uX13 rfl tyX13 tyX13_ok nmX13 (fs := _) (hb3.lt 0 (by decide)) (hb3.2 0 (by decide)) 11 (by decide) q1798 rfl rfl (v := .int (v)) rfl rfl (Nat.le_of_ble_eq_true rfl) dX13_denies_17 (fun H locs hP hS => ?_)
  have hP : gP E ad N (va_up _ (b) (MDC E ad b g kp sv bf sd ip sg mk td lv tl qs qc qw 1 x u v ca ln fa sm pa tm 0)) H := hP
  have hb4 : bkP N (va_up _ (b) (MDC E ad b g kp sv bf sd ip sg mk td lv tl qs qc qw 1 x u v ca ln fa sm pa tm 0)) b 12 (MDC E ad b g kp sv bf sd ip sg mk td lv tl qs qc qw 1 x u v ca ln fa sm pa tm) := MD_setO hb3 _ _ _ _ _ _ _ _ _ _ _ _ _
  have hfr := hfr.up (p := b) (e := MDC E ad b g kp sv bf sd ip sg mk td lv tl qs qc qw 1 x u v ca ln fa sm pa tm 0) (by show _ ∧ _; omega)
  refine lv_aload_n hx hb dX13_denies_20 rfl (lv_at hl 0 rfl) ?_
  refine g_iconst S 0 dX13_denies_21 (by decide +kernel) ?_
  refine g_put S hI hP hS uX13 rfl tyX13 tyX13_ok nmX13 (fs := _) (hb4.lt 0 (by decide)) (hb4.2 0 (by decide)) 12 (by decide) q1799 rfl rfl (v := .int (nI (0))) rfl rfl (Nat.le_of_ble_eq_true rfl) dX13_denies_22 (fun H locs hP hS => ?_)
  have hP : gP E ad N (va_up _ (b) (MDC E ad b g kp sv bf sd ip sg mk td lv tl qs qc qw 1 x u v 0 ln fa sm pa tm 0)) H := hP
  have hb5 : bkP N (va_up _ (b) (MDC E ad b g kp sv bf sd ip sg mk td lv tl qs qc qw 1 x u v 0 ln fa sm pa tm 0)) b 12 (MDC E ad b g kp sv bf sd ip sg mk td lv tl qs qc qw 1 x u v 0 ln fa sm pa tm) := MD_setO hb4 _ _ _ _ _ _ _ _ _ _ _ _ _
  have hfr := hfr.up (p := b) (e := MDC E ad b g kp sv bf sd ip sg mk td lv tl qs qc qw 1 x u v 0 ln fa sm pa tm 0) (by show _ ∧ _; omega)
  refine g_iconst S 0 dX13_denies_25 (by decide +kernel) ?_
  exact g_iret S hr hlocks hP hS (⟨rfl, hb5, hfr⟩) (fun _ _ => rfl) (Nat.le_of_ble_eq_true rfl) (Nat.le_of_ble_eq_true rfl) dX13_denies_26
set_option maxHeartbeats 4000000 in
set_option maxRecDepth 100000 in
/-- a number in a range -/
theorem mX13_in (l : Launch) {E : gE} {ad : Nat → Nat} {N : Nat} {w : Nat → va_E} (v x y : Int32)  : gMi l yX13_in (lw_ws yX13_in cX13_in 3 (some .boolean)) ({ frames := 0, cells := 0, slots := 0, locals := 0 } : Room) E ad N w [.int (v), .int (x), .int (y)] (fun r w' => r = bI (decide (x ≤ v ∧ v ≤ y)) ∧ w' = w) 0 0 := by
  refine Met.ofW (cc := cX13_in) (maxL := 3) (ret := (some .boolean)) (by decide) rfl ?_
  intro p e s m args below meth cd s₁ B hml hv
  obtain ⟨rfl, hI, hP⟩ := hv
  obtain ⟨S, hr, hlocks⟩ := gPre (ws := []) B hml (C := RX13) rfl
  have hx := S.1
  have hb := S.2.1
  have hS : va_S (gA E) s.heap s.heap [] := va_S.rf
  have hl := lv_entry ([.int (v), .int (x), .int (y)]) (n := 3) (Nat.le_of_ble_eq_true rfl)
  rw [lg_entry_eq]
  generalize (lg_sl ([.int (v), .int (x), .int (y)]) ++ List.replicate (3 - (lg_sl ([.int (v), .int (x), .int (y)])).length) Slot.unset).toArray = ls at hl ⊢
  have hl : lv_has ls 3 [(0, .int (v)), (1, .int (x)), (2, .int (y))] := hl
  refine lv_iload_n hx hb dX13_in_0 rfl (lv_at hl 0 rfl) ?_
  refine lv_iload_n hx hb dX13_in_1 rfl (lv_at hl 1 rfl) ?_
  refine lv_icmp_lt (tgt := 14) hx hb dX13_in_2 (by decide) (fun h1 => ?_) (fun h1 => ?_)
  · refine g_iconst S 0 dX13_in_14 (by decide +kernel) ?_
    exact g_zret S hr hlocks (Or.inl nI_0) hP hS (⟨by rw [decide_eq_false (fun q => Int32.not_lt.mpr q.1 h1)]; rfl, rfl⟩) (fun _ _ => rfl) (Nat.le_of_ble_eq_true rfl) (Nat.le_of_ble_eq_true rfl) dX13_in_15
  · refine lv_iload_n hx hb dX13_in_5 rfl (lv_at hl 0 rfl) ?_
    refine lv_iload_n hx hb dX13_in_6 rfl (lv_at hl 2 rfl) ?_
    refine lv_icmp_gt (tgt := 14) hx hb dX13_in_7 (by decide) (fun h2 => ?_) (fun h2 => ?_)
    · refine g_iconst S 0 dX13_in_14 (by decide +kernel) ?_
      exact g_zret S hr hlocks (Or.inl nI_0) hP hS (⟨by rw [decide_eq_false (fun q => Int32.not_lt.mpr q.2 h2)]; rfl, rfl⟩) (fun _ _ => rfl) (Nat.le_of_ble_eq_true rfl) (Nat.le_of_ble_eq_true rfl) dX13_in_15
    · refine g_iconst S 1 dX13_in_10 (by decide +kernel) ?_
      refine lv_goto (tgt := 15) hx hb dX13_in_11 (by decide) ?_
      exact g_zret S hr hlocks (Or.inr (by decide +kernel)) hP hS (⟨by rw [decide_eq_true ⟨Int32.not_lt.mp h1, Int32.not_lt.mp h2⟩]; rfl, rfl⟩) (fun _ _ => rfl) (Nat.le_of_ble_eq_true rfl) (Nat.le_of_ble_eq_true rfl) dX13_in_15
set_option maxHeartbeats 4000000 in
set_option maxRecDepth 100000 in
/-- a difference without its sign -/
theorem mX13_size (l : Launch) {E : gE} {ad : Nat → Nat} {N : Nat} {w : Nat → va_E} (a c : Nat) (ha : a < 2 ^ 30) (hc : c < 2 ^ 30) : gMi l yX13_size (lw_ws yX13_size cX13_size 1 (some .int)) ({ frames := 0, cells := 0, slots := 0, locals := 0 } : Room) E ad N w [.int (nI a - nI c)] (fun r w' => r = nI (dif a c) ∧ w' = w) 0 0 := by
  refine Met.ofW (cc := cX13_size) (maxL := 1) (ret := (some .int)) (by decide) rfl ?_
  intro p e s m args below meth cd s₁ B hml hv
  obtain ⟨rfl, hI, hP⟩ := hv
  obtain ⟨S, hr, hlocks⟩ := gPre (ws := []) B hml (C := RX13) rfl
  have hx := S.1
  have hb := S.2.1
  have hS : va_S (gA E) s.heap s.heap [] := va_S.rf
  have hl := lv_entry ([.int (nI a - nI c)]) (n := 1) (Nat.le_of_ble_eq_true rfl)
  rw [lg_entry_eq]
  generalize (lg_sl ([.int (nI a - nI c)]) ++ List.replicate (1 - (lg_sl ([.int (nI a - nI c)])).length) Slot.unset).toArray = ls at hl ⊢
  have hl : lv_has ls 1 [(0, .int (nI a - nI c))] := hl
  have hd := dif_abs ha hc
  refine lv_iload_n hx hb dX13_size_0 rfl (lv_at hl 0 rfl) ?_
  refine lv_if_ge (tgt := 9) hx hb dX13_size_1 (by decide) (fun h => ?_) (fun h => ?_)
  · refine lv_iload_n hx hb dX13_size_9 rfl (lv_at hl 0 rfl) ?_
    exact g_iret S hr hlocks hP hS (⟨by rw [if_pos h] at hd; exact hd, rfl⟩) (fun _ _ => rfl) (Nat.le_of_ble_eq_true rfl) (Nat.le_of_ble_eq_true rfl) dX13_size_10
  · refine lv_iload_n hx hb dX13_size_4 rfl (lv_at hl 0 rfl) ?_
    refine lv_ineg hx hb dX13_size_5 ?_
    refine lv_goto (tgt := 10) hx hb dX13_size_6 (by decide) ?_
    exact g_iret S hr hlocks hP hS (⟨by rw [if_neg h, Int32.zero_sub] at hd; exact hd, rfl⟩) (fun _ _ => rfl) (Nat.le_of_ble_eq_true rfl) (Nat.le_of_ble_eq_true rfl) dX13_size_10
set_option maxHeartbeats 4000000 in
set_option maxRecDepth 100000 in
/-- the greater of two -/
theorem mX13_greater (l : Launch) {E : gE} {ad : Nat → Nat} {N : Nat} {w : Nat → va_E} (x y : Nat) (hx3 : x < 2 ^ 31) (hy3 : y < 2 ^ 31) : gMi l yX13_greater (lw_ws yX13_greater cX13_greater 2 (some .int)) ({ frames := 0, cells := 0, slots := 0, locals := 0 } : Room) E ad N w [.int (nI (x)), .int (nI (y))] (fun r w' => r = nI (max x y) ∧ w' = w) 0 0 := by
  refine Met.ofW (cc := cX13_greater) (maxL := 2) (ret := (some .int)) (by decide) rfl ?_
  intro p e s m args below meth cd s₁ B hml hv
  obtain ⟨rfl, hI, hP⟩ := hv
  obtain ⟨S, hr, hlocks⟩ := gPre (ws := []) B hml (C := RX13) rfl
  have hx := S.1
  have hb := S.2.1
  have hS : va_S (gA E) s.heap s.heap [] := va_S.rf
  have hl := lv_entry ([.int (nI (x)), .int (nI (y))]) (n := 2) (Nat.le_of_ble_eq_true rfl)
  rw [lg_entry_eq]
  generalize (lg_sl ([.int (nI (x)), .int (nI (y))]) ++ List.replicate (2 - (lg_sl ([.int (nI (x)), .int (nI (y))])).length) Slot.unset).toArray = ls at hl ⊢
  have hl : lv_has ls 2 [(0, .int (nI (x))), (1, .int (nI (y)))] := hl
  refine lv_iload_n hx hb dX13_greater_0 rfl (lv_at hl 0 rfl) ?_
  refine lv_iload_n hx hb dX13_greater_1 rfl (lv_at hl 1 rfl) ?_
  refine g_le S (a := x) (b := y) (by omega) (by omega) (tgt := 9) dX13_greater_2 (by decide) (fun h => ?_) (fun h => ?_)
  · refine lv_iload_n hx hb dX13_greater_9 rfl (lv_at hl 1 rfl) ?_
    exact g_iret S hr hlocks hP hS (⟨by rw [Nat.max_eq_right h], rfl⟩) (fun _ _ => rfl) (Nat.le_of_ble_eq_true rfl) (Nat.le_of_ble_eq_true rfl) dX13_greater_10
  · refine lv_iload_n hx hb dX13_greater_5 rfl (lv_at hl 0 rfl) ?_
    refine lv_goto (tgt := 10) hx hb dX13_greater_6 (by decide) ?_
    exact g_iret S hr hlocks hP hS (⟨by rw [Nat.max_eq_left (by omega)], rfl⟩) (fun _ _ => rfl) (Nat.le_of_ble_eq_true rfl) (Nat.le_of_ble_eq_true rfl) dX13_greater_10
set_option maxHeartbeats 4000000 in
set_option maxRecDepth 100000 in
/-- a row is copied -/
theorem mX13_copies (l : Launch) {E : gE} {ad : Nat → Nat} {N : Nat} {w : Nat → va_E} (p1 p2 a o n1 n2 : Nat) (f1 f2 : Nat → Nat) (hp1 : p1 < N) (hp2 : p2 < N) (hpp : p1 ≠ p2) (he1 : w p1 = gAr (E.2.1 0) n1 f1) (he2 : w p2 = gAr (E.2.1 0) n2 f2) (hn1 : a + 152 ≤ n1) (hn2 : o + 152 ≤ n2) (hb1 : n1 < 2 ^ 20) (hb2 : n2 < 2 ^ 20) : gMv l yX13_copies (lw_ws yX13_copies cX13_copies 5 none) ({ frames := 0, cells := 0, slots := 0, locals := 0 } : Room) E ad N w [.ref (ad (p1)), .int (nI (a)), .ref (ad (p2)), .int (nI (o))] (fun w' => w' = va_up w p2 (gAr (E.2.1 0) n2 (cpA f1 a f2 o 152))) 0 0 := by
  refine Met.ofW (cc := cX13_copies) (maxL := 5) (ret := none) (by decide) rfl ?_
  intro p e s m args below meth cd s₁ B hml hv
  obtain ⟨rfl, hI, hP⟩ := hv
  obtain ⟨S, hr, hlocks⟩ := gPre (ws := []) B hml (C := RX13) rfl
  have hx := S.1
  have hb := S.2.1
  have hS : va_S (gA E) s.heap s.heap [] := va_S.rf
  have hl := lv_entry ([.ref (ad (p1)), .int (nI (a)), .ref (ad (p2)), .int (nI (o))]) (n := 5) (Nat.le_of_ble_eq_true rfl)
  rw [lg_entry_eq]
  generalize (lg_sl ([.ref (ad (p1)), .int (nI (a)), .ref (ad (p2)), .int (nI (o))]) ++ List.replicate (5 - (lg_sl ([.ref (ad (p1)), .int (nI (a)), .ref (ad (p2)), .int (nI (o))])).length) Slot.unset).toArray = ls at hl ⊢
  have hl : lv_has ls 5 [(0, .ref (ad (p1))), (1, .int (nI (a))), (2, .ref (ad (p2))), (3, .int (nI (o)))] := hl
  refine g_iconst S 0 dX13_copies_0 (by decide +kernel) ?_
  refine lv_istore (lv' := [(4, .int (nI (0))), (0, .ref (ad (p1))), (1, .int (nI (a))), (2, .ref (ad (p2))), (3, .int (nI (o)))]) hx hb dX13_copies_1 hl (by decide) rfl (fun ls hl => ?_)
  have loop1 : ∀ (fz : Nat) (i : Nat), 152 - i < fz → (i ≤ 152) → ∀ (w1 : Nat → va_E) (H : Heap) (locs : List Loc), gP E ad N w1 H → va_S (gA E) s.heap H locs → (w1 = va_up w p2 (gAr (E.2.1 0) n2 (cpA f1 a f2 o i))) → ∀ (ls : Array Slot), lv_has ls 5 [(4, .int (nI (i))), (0, .ref (ad (p1))), (1, .int (nI (a))), (2, .ref (ad (p2))), (3, .int (nI (o)))] → W p l e (headSpec (lw_ws yX13_copies cX13_copies 5 none) ({ frames := 0, cells := 0, slots := 0, locals := 0 } : Room)).room s m ([.ref (ad (p1)), .int (nI (a)), .ref (ad (p2)), .int (nI (o))] : List Value).toArray below meth cd H locs 0 0 (MQ below (va_Qv (fun w' => w' = va_up w p2 (gAr (E.2.1 0) n2 (cpA f1 a f2 o 152))) (gB E ad N) (gA E)) ([.ref (ad (p1)), .int (nI (a)), .ref (ad (p2)), .int (nI (o))] : List Value).toArray s 0 0 (gA E)) (F0 m 3 ls []) := by
    intro fz
    induction fz with
    | zero => intro i hmeas; omega
    | succ fz ih_loop1 =>
      intro i hmeas hi w1 H locs hP hS hw1 ls hl
      refine lv_iload hx hb dX13_copies_3 (lv_at hl 0 rfl) ?_
      refine g_sipush S 152 dX13_copies_5 (by decide +kernel) ?_
      refine g_ge S (a := i) (b := 152) (by omega) (by omega) (tgt := 29) dX13_copies_8 (by decide) (fun h => ?_) (fun h => ?_)
      · have e152 : i = 152 := by omega
        subst e152
        exact g_vret S hr hlocks hP hS (by exact hw1) (fun _ _ => rfl) (Nat.le_of_ble_eq_true rfl) (Nat.le_of_ble_eq_true rfl) dX13_copies_29
      · have hq1 : w1 p1 = gAr (E.2.1 0) n1 f1 := by rw [hw1, va_up_ne _ _ hpp]; exact he1
        have hq2 : w1 p2 = gAr (E.2.1 0) n2 (cpA f1 a f2 o i) := by rw [hw1, va_up_self]
        refine lv_aload_n hx hb dX13_copies_11 rfl (lv_at hl 3 rfl) ?_
        refine lv_iload_n hx hb dX13_copies_12 rfl (lv_at hl 4 rfl) ?_
        refine lv_iload hx hb dX13_copies_13 (lv_at hl 0 rfl) ?_
        refine g_iadd S dX13_copies_15 ?_
        refine lv_aload_n hx hb dX13_copies_16 rfl (lv_at hl 1 rfl) ?_
        refine lv_iload_n hx hb dX13_copies_17 rfl (lv_at hl 2 rfl) ?_
        refine lv_iload hx hb dX13_copies_18 (lv_at hl 0 rfl) ?_
        refine g_iadd S dX13_copies_20 ?_
        refine g_iald S hI hP (f := fun j => nI (f1 j)) hp1 hq1 (a + i) (by omega) (by omega) dX13_copies_21 ?_
        refine g_iastN S hI hP hS (f := cpA f1 a f2 o i) (x := f1 (a + i)) hp2 hq2 (o + i) (by omega) (by omega) dX13_copies_22 (fun H locs hP hS => ?_)
        refine lv_iinc (v := nI (i + 1)) (lv' := [(4, .int (nI (i + 1))), (0, .ref (ad (p1))), (1, .int (nI (a))), (2, .ref (ad (p2))), (3, .int (nI (o)))]) hx hb dX13_copies_23 hl (k := 0) rfl (g_inc _ 1 (by decide +kernel)) (by decide) rfl (fun ls hl => ?_)
        refine lv_goto (tgt := 3) hx hb dX13_copies_26 (by decide) ?_
        exact ih_loop1 (i + 1) (by omega) (by omega) _ _ _ hP hS  (by rw [hw1, va_up_up, cpA_s]) ls (lv_sub hl [0, 1, 2, 3, 4] rfl)
  exact loop1 (152 - (0) + 1) (0) (Nat.lt_succ_self _) (by omega) _ _ _ hP hS  (by rw [cpA_0, ← he2, va_up_id]) ls (lv_sub hl [0, 1, 2, 3, 4] rfl)
set_option maxHeartbeats 4000000 in
set_option maxRecDepth 100000 in
/-- a row is kept -/
theorem mX13_keeps (l : Launch) {E : gE} {ad : Nat → Nat} {N : Nat} {w : Nat → va_E} (b : Nat) (g kp sv bf sd ip sg mk td lv tl : Nat → Nat) (qs qc qw qd co wy : Nat) (de : Int32) (ca ln : Nat) (fa : Option Nat) (sm pa tm : Nat)  (hb_m : bkP N w b 12 (MDC E ad b g kp sv bf sd ip sg mk td lv tl qs qc qw qd co wy de ca ln fa sm pa tm)) (hqw : qw ≤ 1) (hqc : qc ≤ 8) : gMv l yX13_keeps (lw_ws yX13_keeps cX13_keeps 3 none) ({ frames := 1, cells := 0, slots := 0, locals := 24 } : Room) E ad N w [.ref (ad (b)), .ref (ad (b + 1))] (fun w' => bkP N w' b 12 (MDC E ad b g (if qw = 0 then kpK kp qc g else kp) sv bf sd ip sg mk td lv tl qs (if qw = 0 then kpC qc else qc) qw qd 0 wy de ca ln fa sm pa tm) ∧ gFr (gIn b 12) w w') 0 0 := by
  refine Met.ofW (cc := cX13_keeps) (maxL := 3) (ret := none) (by decide) rfl ?_
  intro p e s m args below meth cd s₁ B hml hv
  obtain ⟨rfl, hI, hP⟩ := hv
  obtain ⟨S, hr, hlocks⟩ := gPre (ws := []) B hml (C := RX13) rfl
  have hx := S.1
  have hb := S.2.1
  have hS : va_S (gA E) s.heap s.heap [] := va_S.rf
  have hfr : gFr (gIn b 12) w w := gFr.rf
  have hl := lv_entry ([.ref (ad (b)), .ref (ad (b + 1))]) (n := 3) (Nat.le_of_ble_eq_true rfl)
  rw [lg_entry_eq]
  generalize (lg_sl ([.ref (ad (b)), .ref (ad (b + 1))]) ++ List.replicate (3 - (lg_sl ([.ref (ad (b)), .ref (ad (b + 1))])).length) Slot.unset).toArray = ls at hl ⊢
  have hl : lv_has ls 3 [(0, .ref (ad (b))), (1, .ref (ad (b + 1)))] := hl
  refine lv_aload_n hx hb dX13_keeps_0 rfl (lv_at hl 0 rfl) ?_
  refine g_iconst S 0 dX13_keeps_1 (by decide +kernel) ?_
  refine g_put S hI hP hS uX13 rfl tyX13 tyX13_ok nmX13 (fs := _) (hb_m.lt 0 (by decide)) (hb_m.2 0 (by decide)) 9 (by decide) q1796 rfl rfl (v := .int (nI (0))) rfl rfl (Nat.le_of_ble_eq_true rfl) dX13_keeps_2 (fun H locs hP hS => ?_)
  have hP : gP E ad N (va_up _ (b) (MDC E ad b g kp sv bf sd ip sg mk td lv tl qs qc qw qd 0 wy de ca ln fa sm pa tm 0)) H := hP
  have hb1 : bkP N (va_up _ (b) (MDC E ad b g kp sv bf sd ip sg mk td lv tl qs qc qw qd 0 wy de ca ln fa sm pa tm 0)) b 12 (MDC E ad b g kp sv bf sd ip sg mk td lv tl qs qc qw qd 0 wy de ca ln fa sm pa tm) := MD_setO hb_m _ _ _ _ _ _ _ _ _ _ _ _ _
  have hfr := hfr.up (p := b) (e := MDC E ad b g kp sv bf sd ip sg mk td lv tl qs qc qw qd 0 wy de ca ln fa sm pa tm 0) (by show _ ∧ _; omega)
  refine lv_aload_n hx hb dX13_keeps_5 rfl (lv_at hl 0 rfl) ?_
  refine g_get S hI hP uX13 rfl (fs := _) (hb1.lt 0 (by decide)) (hb1.2 0 (by decide)) 7 (by decide) q1794 rfl (v := .int (nI (qw))) rfl dX13_keeps_6 ?_
  refine g_ifeq S (a := qw) (by omega) (tgt := 13) dX13_keeps_9 (by decide) (fun hq => ?_) (fun hq => ?_)
  · refine lv_aload_n hx hb dX13_keeps_13 rfl (lv_at hl 0 rfl) ?_
    refine g_get S hI hP uX13 rfl (fs := _) (hb1.lt 0 (by decide)) (hb1.2 0 (by decide)) 6 (by decide) q1793 rfl (v := .int (nI (qc))) rfl dX13_keeps_14 ?_
    refine g_bipush S 8 dX13_keeps_17 (by decide +kernel) ?_
    refine g_ne S (a := qc) (b := 8) (by omega) (by omega) (tgt := 63) dX13_keeps_19 (by decide) (fun h8 => ?_) (fun h8 => ?_)
    · have h8b : ¬ qc = 8 := by omega
      have hK : kpK kp qc g = cpA g 0 kp (152 * (qc)) 152 := if_neg h8b
      have hC : kpC qc = qc + 1 := if_neg h8b
      refine lv_aload_n hx hb dX13_keeps_63 rfl (lv_at hl 1 rfl) ?_
      refine g_iconst S 0 dX13_keeps_64 (by decide +kernel) ?_
      refine lv_aload_n hx hb dX13_keeps_65 rfl (lv_at hl 0 rfl) ?_
      refine g_get S hI hP uX13 rfl (fs := _) (hb1.lt 0 (by decide)) (hb1.2 0 (by decide)) 1 (by decide) q1788 rfl (v := .ref (ad (b + 2))) rfl dX13_keeps_66 ?_
      refine g_sipush S 152 dX13_keeps_69 (by decide +kernel) ?_
      refine lv_aload_n hx hb dX13_keeps_72 rfl (lv_at hl 0 rfl) ?_
      refine g_get S hI hP uX13 rfl (fs := _) (hb1.lt 0 (by decide)) (hb1.2 0 (by decide)) 6 (by decide) q1793 rfl (v := .int (nI (qc))) rfl dX13_keeps_73 ?_
      refine g_imul S dX13_keeps_76 ?_
      refine g_afv (g_runS S hI hP hS (k := 4) (As := [.ref (ad (b + 1)), .int (nI (0)), .ref (ad (b + 2)), .int (nI (152 * qc))]) (rest := []) (mX13_copies l (b + 1) (b + 2) (0) (152 * (qc)) 152 1216 g kp (hb1.lt 1 (by decide)) (hb1.lt 2 (by decide)) (by omega) (hb1.2 1 (by decide)) (hb1.2 2 (by decide)) (by omega) (by omega) (by decide) (by decide)) q1894 q1895 q100 q1896 rfl rfl (by decide +kernel) ⟨Nat.le_of_ble_eq_true rfl, Nat.le_of_ble_eq_true rfl⟩ rfl hl.1 rfl (Nat.le_of_ble_eq_true rfl) ⟨(Nat.le_of_ble_eq_true rfl), (Nat.le_of_ble_eq_true rfl)⟩ dX13_keeps_77) hS (fun w1 H locs hq hP hS => ?_)
      obtain hq := hq
      subst hq
      have hP : gP E ad N (va_up _ (b + 2) (MDC E ad b g (cpA g 0 kp (152 * (qc)) 152) sv bf sd ip sg mk td lv tl qs qc qw qd 0 wy de ca ln fa sm pa tm 2)) H := hP
      have hb2 : bkP N (va_up _ (b + 2) (MDC E ad b g (cpA g 0 kp (152 * (qc)) 152) sv bf sd ip sg mk td lv tl qs qc qw qd 0 wy de ca ln fa sm pa tm 2)) b 12 (MDC E ad b g (cpA g 0 kp (152 * (qc)) 152) sv bf sd ip sg mk td lv tl qs qc qw qd 0 wy de ca ln fa sm pa tm) := MD_setA1 hb1 _
      have hfr := hfr.up (p := b + 2) (e := MDC E ad b g (cpA g 0 kp (152 * (qc)) 152) sv bf sd ip sg mk td lv tl qs qc qw qd 0 wy de ca ln fa sm pa tm 2) (by show _ ∧ _; omega)
      refine lv_aload_n hx hb dX13_keeps_80 rfl (lv_at hl 0 rfl) ?_
      refine lv_dup hx hb dX13_keeps_81 rfl ?_
      refine g_get S hI hP uX13 rfl (fs := _) (hb2.lt 0 (by decide)) (hb2.2 0 (by decide)) 6 (by decide) q1793 rfl (v := .int (nI (qc))) rfl dX13_keeps_82 ?_
      refine g_iconst S 1 dX13_keeps_85 (by decide +kernel) ?_
      refine g_iadd S dX13_keeps_86 ?_
      refine g_put S hI hP hS uX13 rfl tyX13 tyX13_ok nmX13 (fs := _) (hb2.lt 0 (by decide)) (hb2.2 0 (by decide)) 6 (by decide) q1793 rfl rfl (v := .int (nI (qc + 1))) rfl rfl (Nat.le_of_ble_eq_true rfl) dX13_keeps_87 (fun H locs hP hS => ?_)
      have hP : gP E ad N (va_up _ (b) (MDC E ad b g (cpA g 0 kp (152 * (qc)) 152) sv bf sd ip sg mk td lv tl qs (qc + 1) qw qd 0 wy de ca ln fa sm pa tm 0)) H := hP
      have hb3 : bkP N (va_up _ (b) (MDC E ad b g (cpA g 0 kp (152 * (qc)) 152) sv bf sd ip sg mk td lv tl qs (qc + 1) qw qd 0 wy de ca ln fa sm pa tm 0)) b 12 (MDC E ad b g (cpA g 0 kp (152 * (qc)) 152) sv bf sd ip sg mk td lv tl qs (qc + 1) qw qd 0 wy de ca ln fa sm pa tm) := MD_setO hb2 _ _ _ _ _ _ _ _ _ _ _ _ _
      have hfr := hfr.up (p := b) (e := MDC E ad b g (cpA g 0 kp (152 * (qc)) 152) sv bf sd ip sg mk td lv tl qs (qc + 1) qw qd 0 wy de ca ln fa sm pa tm 0) (by show _ ∧ _; omega)
      exact g_vret S hr hlocks hP hS (⟨by rw [if_pos hq, if_pos hq, hK, hC]; exact hb3, hfr⟩) (fun _ _ => rfl) (Nat.le_of_ble_eq_true rfl) (Nat.le_of_ble_eq_true rfl) dX13_keeps_90
    · refine g_iconst S 0 dX13_keeps_22 (by decide +kernel) ?_
      refine lv_istore_n (lv' := [(2, .int (nI (0))), (0, .ref (ad (b))), (1, .ref (ad (b + 1)))]) hx hb dX13_keeps_23 rfl hl (by decide) rfl (fun ls hl => ?_)
      have loop4 : ∀ (n : Nat) (i : Nat), 1064 - i < n → (i ≤ 1064) → ∀ (w1 : Nat → va_E) (H : Heap) (locs : List Loc), gP E ad N w1 H → va_S (gA E) s.heap H locs → bkP N w1 b 12 (MDC E ad b g (shK kp i) sv bf sd ip sg mk td lv tl qs qc qw qd 0 wy de ca ln fa sm pa tm) → gFr (gIn b 12) w w1 → ∀ (ls : Array Slot), lv_has ls 3 [(2, .int (nI (i))), (0, .ref (ad (b))), (1, .ref (ad (b + 1)))] → W p l e (headSpec (lw_ws yX13_keeps cX13_keeps 3 none) ({ frames := 1, cells := 0, slots := 0, locals := 24 } : Room)).room s m ([.ref (ad (b)), .ref (ad (b + 1))] : List Value).toArray below meth cd H locs 0 0 (MQ below (va_Qv (fun w' => bkP N w' b 12 (MDC E ad b g (if qw = 0 then kpK kp qc g else kp) sv bf sd ip sg mk td lv tl qs (if qw = 0 then kpC qc else qc) qw qd 0 wy de ca ln fa sm pa tm) ∧ gFr (gIn b 12) w w') (gB E ad N) (gA E)) ([.ref (ad (b)), .ref (ad (b + 1))] : List Value).toArray s 0 0 (gA E)) (F0 m 24 ls []) := by
        intro n
        induction n with
        | zero => intro i hmeas; omega
        | succ n ih_loop4 =>
          intro i hmeas hi w1 H locs hP hS hb5 hfr ls hl
          refine lv_iload_n hx hb dX13_keeps_24 rfl (lv_at hl 0 rfl) ?_
          refine g_sipush S 1064 dX13_keeps_25 (by decide +kernel) ?_
          refine g_ge S (a := i) (b := 1064) (by omega) (by omega) (tgt := 53) dX13_keeps_28 (by decide) (fun h => ?_) (fun h => ?_)
          · have e1064 : i = 1064 := by omega
            subst e1064
            have hK : kpK kp qc g = cpA g 0 (shK kp 1064) (152 * (qc - 1)) 152 := by unfold kpK; rw [if_pos h8, show 152 * (qc - 1) = 1064 by omega]
            have hC : kpC qc = qc - 1 + 1 := by unfold kpC; rw [if_pos h8]; omega
            refine lv_aload_n hx hb dX13_keeps_53 rfl (lv_at hl 1 rfl) ?_
            refine lv_dup hx hb dX13_keeps_54 rfl ?_
            refine g_get S hI hP uX13 rfl (fs := _) (hb5.lt 0 (by decide)) (hb5.2 0 (by decide)) 6 (by decide) q1793 rfl (v := .int (nI (qc))) rfl dX13_keeps_55 ?_
            refine g_iconst S 1 dX13_keeps_58 (by decide +kernel) ?_
            refine g_isub S (by omega) dX13_keeps_59 ?_
            refine g_put S hI hP hS uX13 rfl tyX13 tyX13_ok nmX13 (fs := _) (hb5.lt 0 (by decide)) (hb5.2 0 (by decide)) 6 (by decide) q1793 rfl rfl (v := .int (nI (qc - 1))) rfl rfl (Nat.le_of_ble_eq_true rfl) dX13_keeps_60 (fun H locs hP hS => ?_)
            have hP : gP E ad N (va_up _ (b) (MDC E ad b g (shK kp 1064) sv bf sd ip sg mk td lv tl qs (qc - 1) qw qd 0 wy de ca ln fa sm pa tm 0)) H := hP
            have hb6 : bkP N (va_up _ (b) (MDC E ad b g (shK kp 1064) sv bf sd ip sg mk td lv tl qs (qc - 1) qw qd 0 wy de ca ln fa sm pa tm 0)) b 12 (MDC E ad b g (shK kp 1064) sv bf sd ip sg mk td lv tl qs (qc - 1) qw qd 0 wy de ca ln fa sm pa tm) := MD_setO hb5 _ _ _ _ _ _ _ _ _ _ _ _ _
            have hfr := hfr.up (p := b) (e := MDC E ad b g (shK kp 1064) sv bf sd ip sg mk td lv tl qs (qc - 1) qw qd 0 wy de ca ln fa sm pa tm 0) (by show _ ∧ _; omega)
            refine lv_aload_n hx hb dX13_keeps_63 rfl (lv_at hl 2 rfl) ?_
            refine g_iconst S 0 dX13_keeps_64 (by decide +kernel) ?_
            refine lv_aload_n hx hb dX13_keeps_65 rfl (lv_at hl 1 rfl) ?_
            refine g_get S hI hP uX13 rfl (fs := _) (hb6.lt 0 (by decide)) (hb6.2 0 (by decide)) 1 (by decide) q1788 rfl (v := .ref (ad (b + 2))) rfl dX13_keeps_66 ?_
            refine g_sipush S 152 dX13_keeps_69 (by decide +kernel) ?_
            refine lv_aload_n hx hb dX13_keeps_72 rfl (lv_at hl 1 rfl) ?_
            refine g_get S hI hP uX13 rfl (fs := _) (hb6.lt 0 (by decide)) (hb6.2 0 (by decide)) 6 (by decide) q1793 rfl (v := .int (nI (qc - 1))) rfl dX13_keeps_73 ?_
            refine g_imul S dX13_keeps_76 ?_
            refine g_afv (g_runS S hI hP hS (k := 4) (As := [.ref (ad (b + 1)), .int (nI (0)), .ref (ad (b + 2)), .int (nI (152 * (qc - 1)))]) (rest := []) (mX13_copies l (b + 1) (b + 2) (0) (152 * (qc - 1)) 152 1216 g (shK kp 1064) (hb6.lt 1 (by decide)) (hb6.lt 2 (by decide)) (by omega) (hb6.2 1 (by decide)) (hb6.2 2 (by decide)) (by omega) (by omega) (by decide) (by decide)) q1894 q1895 q100 q1896 rfl rfl (by decide +kernel) ⟨Nat.le_of_ble_eq_true rfl, Nat.le_of_ble_eq_true rfl⟩ rfl hl.1 rfl (Nat.le_of_ble_eq_true rfl) ⟨(Nat.le_of_ble_eq_true rfl), (Nat.le_of_ble_eq_true rfl)⟩ dX13_keeps_77) hS (fun w1 H locs hq hP hS => ?_)
            obtain hq := hq
            subst hq
            have hP : gP E ad N (va_up _ (b + 2) (MDC E ad b g (cpA g 0 (shK kp 1064) (152 * (qc - 1)) 152) sv bf sd ip sg mk td lv tl qs (qc - 1) qw qd 0 wy de ca ln fa sm pa tm 2)) H := hP
            have hb7 : bkP N (va_up _ (b + 2) (MDC E ad b g (cpA g 0 (shK kp 1064) (152 * (qc - 1)) 152) sv bf sd ip sg mk td lv tl qs (qc - 1) qw qd 0 wy de ca ln fa sm pa tm 2)) b 12 (MDC E ad b g (cpA g 0 (shK kp 1064) (152 * (qc - 1)) 152) sv bf sd ip sg mk td lv tl qs (qc - 1) qw qd 0 wy de ca ln fa sm pa tm) := MD_setA1 hb6 _
            have hfr := hfr.up (p := b + 2) (e := MDC E ad b g (cpA g 0 (shK kp 1064) (152 * (qc - 1)) 152) sv bf sd ip sg mk td lv tl qs (qc - 1) qw qd 0 wy de ca ln fa sm pa tm 2) (by show _ ∧ _; omega)
            refine lv_aload_n hx hb dX13_keeps_80 rfl (lv_at hl 1 rfl) ?_
            refine lv_dup hx hb dX13_keeps_81 rfl ?_
            refine g_get S hI hP uX13 rfl (fs := _) (hb7.lt 0 (by decide)) (hb7.2 0 (by decide)) 6 (by decide) q1793 rfl (v := .int (nI (qc - 1))) rfl dX13_keeps_82 ?_
            refine g_iconst S 1 dX13_keeps_85 (by decide +kernel) ?_
            refine g_iadd S dX13_keeps_86 ?_
            refine g_put S hI hP hS uX13 rfl tyX13 tyX13_ok nmX13 (fs := _) (hb7.lt 0 (by decide)) (hb7.2 0 (by decide)) 6 (by decide) q1793 rfl rfl (v := .int (nI (qc - 1 + 1))) rfl rfl (Nat.le_of_ble_eq_true rfl) dX13_keeps_87 (fun H locs hP hS => ?_)
            have hP : gP E ad N (va_up _ (b) (MDC E ad b g (cpA g 0 (shK kp 1064) (152 * (qc - 1)) 152) sv bf sd ip sg mk td lv tl qs (qc - 1 + 1) qw qd 0 wy de ca ln fa sm pa tm 0)) H := hP
            have hb8 : bkP N (va_up _ (b) (MDC E ad b g (cpA g 0 (shK kp 1064) (152 * (qc - 1)) 152) sv bf sd ip sg mk td lv tl qs (qc - 1 + 1) qw qd 0 wy de ca ln fa sm pa tm 0)) b 12 (MDC E ad b g (cpA g 0 (shK kp 1064) (152 * (qc - 1)) 152) sv bf sd ip sg mk td lv tl qs (qc - 1 + 1) qw qd 0 wy de ca ln fa sm pa tm) := MD_setO hb7 _ _ _ _ _ _ _ _ _ _ _ _ _
            have hfr := hfr.up (p := b) (e := MDC E ad b g (cpA g 0 (shK kp 1064) (152 * (qc - 1)) 152) sv bf sd ip sg mk td lv tl qs (qc - 1 + 1) qw qd 0 wy de ca ln fa sm pa tm 0) (by show _ ∧ _; omega)
            exact g_vret S hr hlocks hP hS (⟨by rw [if_pos hq, if_pos hq, hK, hC]; exact hb8, hfr⟩) (fun _ _ => rfl) (Nat.le_of_ble_eq_true rfl) (Nat.le_of_ble_eq_true rfl) dX13_keeps_90
          · refine lv_aload_n hx hb dX13_keeps_31 rfl (lv_at hl 1 rfl) ?_
            refine g_get S hI hP uX13 rfl (fs := _) (hb5.lt 0 (by decide)) (hb5.2 0 (by decide)) 1 (by decide) q1788 rfl (v := .ref (ad (b + 2))) rfl dX13_keeps_32 ?_
            refine lv_iload_n hx hb dX13_keeps_35 rfl (lv_at hl 0 rfl) ?_
            refine lv_aload_n hx hb dX13_keeps_36 rfl (lv_at hl 1 rfl) ?_
            refine g_get S hI hP uX13 rfl (fs := _) (hb5.lt 0 (by decide)) (hb5.2 0 (by decide)) 1 (by decide) q1788 rfl (v := .ref (ad (b + 2))) rfl dX13_keeps_37 ?_
            refine lv_iload_n hx hb dX13_keeps_40 rfl (lv_at hl 0 rfl) ?_
            refine g_sipush S 152 dX13_keeps_41 (by decide +kernel) ?_
            refine g_iadd S dX13_keeps_44 ?_
            refine g_iald S hI hP (f := fun j => nI ((shK kp i) j)) (hb5.lt 2 (by decide)) (hb5.2 2 (by decide)) (i + 152) (by omega) (by decide) dX13_keeps_45 ?_
            rw [show (shK kp i) (i + 152) = kp (i + 152) from if_neg (by omega)]
            refine g_iastN S hI hP hS (f := (shK kp i)) (x := kp (i + 152)) (hb5.lt 2 (by decide)) (hb5.2 2 (by decide)) (i) (by omega) (by decide) dX13_keeps_46 (fun H locs hP hS => ?_)
            have hP : gP E ad N (va_up _ (b + 2) (MDC E ad b g (va_up (shK kp i) i (kp (i + 152))) sv bf sd ip sg mk td lv tl qs qc qw qd 0 wy de ca ln fa sm pa tm 2)) H := hP
            have hb9 : bkP N (va_up _ (b + 2) (MDC E ad b g (va_up (shK kp i) i (kp (i + 152))) sv bf sd ip sg mk td lv tl qs qc qw qd 0 wy de ca ln fa sm pa tm 2)) b 12 (MDC E ad b g (va_up (shK kp i) i (kp (i + 152))) sv bf sd ip sg mk td lv tl qs qc qw qd 0 wy de ca ln fa sm pa tm) := MD_setA1 hb5 _
            have hfr := hfr.up (p := b + 2) (e := MDC E ad b g (va_up (shK kp i) i (kp (i + 152))) sv bf sd ip sg mk td lv tl qs qc qw qd 0 wy de ca ln fa sm pa tm 2) (by show _ ∧ _; omega)
            rw [shK_s kp i] at hb9 hP hfr
            refine lv_iinc (v := nI (i + 1)) (lv' := [(2, .int (nI (i + 1))), (0, .ref (ad (b))), (1, .ref (ad (b + 1)))]) hx hb dX13_keeps_47 hl (k := 0) rfl (g_inc _ 1 (by decide +kernel)) (by decide) rfl (fun ls hl => ?_)
            refine lv_goto (tgt := 24) hx hb dX13_keeps_50 (by decide) ?_
            exact ih_loop4 (i + 1) (by omega) (by omega) _ _ _ hP hS hb9 hfr ls (lv_sub hl [0, 1, 2] rfl)
      have hbs := hb1
      rw [← shK_0 kp] at hbs
      exact loop4 (1064 - (0) + 1) (0) (Nat.lt_succ_self _) (by omega) _ _ _ hP hS hbs hfr ls (lv_sub hl [0, 1, 2] rfl)
  · have hq1 : qw ≠ 0 := by omega
    exact g_vret S hr hlocks hP hS (⟨by rw [if_neg hq1, if_neg hq1]; exact hb1, hfr⟩) (fun _ _ => rfl) (Nat.le_of_ble_eq_true rfl) (Nat.le_of_ble_eq_true rfl) dX13_keeps_12
set_option maxHeartbeats 4000000 in
set_option maxRecDepth 100000 in
/-- a row is kept -/
theorem mX13_keepsB (l : Launch) {E : gE} {ad : Nat → Nat} {N : Nat} {w : Nat → va_E} (b : Nat) (g kp sv bf sd ip sg mk td lv tl : Nat → Nat) (qs qc qw qd co wy : Nat) (de : Int32) (ca ln : Nat) (fa : Option Nat) (sm pa tm : Nat)  (hb_m : bkP N w b 12 (MDC E ad b g kp sv bf sd ip sg mk td lv tl qs qc qw qd co wy de ca ln fa sm pa tm)) (hqw : qw ≤ 1) (hqc : qc ≤ 8) : gMv l yX13_keeps (lw_ws yX13_keeps cX13_keeps 3 none) ({ frames := 1, cells := 0, slots := 0, locals := 24 } : Room) E ad N w [.ref (ad (b)), .ref (ad (b + 4))] (fun w' => bkP N w' b 12 (MDC E ad b g (if qw = 0 then kpK kp qc bf else kp) sv bf sd ip sg mk td lv tl qs (if qw = 0 then kpC qc else qc) qw qd 0 wy de ca ln fa sm pa tm) ∧ gFr (gIn b 12) w w') 0 0 := by
  refine Met.ofW (cc := cX13_keeps) (maxL := 3) (ret := none) (by decide) rfl ?_
  intro p e s m args below meth cd s₁ B hml hv
  obtain ⟨rfl, hI, hP⟩ := hv
  obtain ⟨S, hr, hlocks⟩ := gPre (ws := []) B hml (C := RX13) rfl
  have hx := S.1
  have hb := S.2.1
  have hS : va_S (gA E) s.heap s.heap [] := va_S.rf
  have hfr : gFr (gIn b 12) w w := gFr.rf
  have hl := lv_entry ([.ref (ad (b)), .ref (ad (b + 4))]) (n := 3) (Nat.le_of_ble_eq_true rfl)
  rw [lg_entry_eq]
  generalize (lg_sl ([.ref (ad (b)), .ref (ad (b + 4))]) ++ List.replicate (3 - (lg_sl ([.ref (ad (b)), .ref (ad (b + 4))])).length) Slot.unset).toArray = ls at hl ⊢
  have hl : lv_has ls 3 [(0, .ref (ad (b))), (1, .ref (ad (b + 4)))] := hl
  refine lv_aload_n hx hb dX13_keeps_0 rfl (lv_at hl 0 rfl) ?_
  refine g_iconst S 0 dX13_keeps_1 (by decide +kernel) ?_
  refine g_put S hI hP hS uX13 rfl tyX13 tyX13_ok nmX13 (fs := _) (hb_m.lt 0 (by decide)) (hb_m.2 0 (by decide)) 9 (by decide) q1796 rfl rfl (v := .int (nI (0))) rfl rfl (Nat.le_of_ble_eq_true rfl) dX13_keeps_2 (fun H locs hP hS => ?_)
  have hP : gP E ad N (va_up _ (b) (MDC E ad b g kp sv bf sd ip sg mk td lv tl qs qc qw qd 0 wy de ca ln fa sm pa tm 0)) H := hP
  have hb1 : bkP N (va_up _ (b) (MDC E ad b g kp sv bf sd ip sg mk td lv tl qs qc qw qd 0 wy de ca ln fa sm pa tm 0)) b 12 (MDC E ad b g kp sv bf sd ip sg mk td lv tl qs qc qw qd 0 wy de ca ln fa sm pa tm) := MD_setO hb_m _ _ _ _ _ _ _ _ _ _ _ _ _
  have hfr := hfr.up (p := b) (e := MDC E ad b g kp sv bf sd ip sg mk td lv tl qs qc qw qd 0 wy de ca ln fa sm pa tm 0) (by show _ ∧ _; omega)
  refine lv_aload_n hx hb dX13_keeps_5 rfl (lv_at hl 0 rfl) ?_
  refine g_get S hI hP uX13 rfl (fs := _) (hb1.lt 0 (by decide)) (hb1.2 0 (by decide)) 7 (by decide) q1794 rfl (v := .int (nI (qw))) rfl dX13_keeps_6 ?_
  refine g_ifeq S (a := qw) (by omega) (tgt := 13) dX13_keeps_9 (by decide) (fun hq => ?_) (fun hq => ?_)
  · refine lv_aload_n hx hb dX13_keeps_13 rfl (lv_at hl 0 rfl) ?_
    refine g_get S hI hP uX13 rfl (fs := _) (hb1.lt 0 (by decide)) (hb1.2 0 (by decide)) 6 (by decide) q1793 rfl (v := .int (nI (qc))) rfl dX13_keeps_14 ?_
    refine g_bipush S 8 dX13_keeps_17 (by decide +kernel) ?_
    refine g_ne S (a := qc) (b := 8) (by omega) (by omega) (tgt := 63) dX13_keeps_19 (by decide) (fun h8 => ?_) (fun h8 => ?_)
    · have h8b : ¬ qc = 8 := by omega
      have hK : kpK kp qc bf = cpA bf 0 kp (152 * (qc)) 152 := if_neg h8b
      have hC : kpC qc = qc + 1 := if_neg h8b
      refine lv_aload_n hx hb dX13_keeps_63 rfl (lv_at hl 1 rfl) ?_
      refine g_iconst S 0 dX13_keeps_64 (by decide +kernel) ?_
      refine lv_aload_n hx hb dX13_keeps_65 rfl (lv_at hl 0 rfl) ?_
      refine g_get S hI hP uX13 rfl (fs := _) (hb1.lt 0 (by decide)) (hb1.2 0 (by decide)) 1 (by decide) q1788 rfl (v := .ref (ad (b + 2))) rfl dX13_keeps_66 ?_
      refine g_sipush S 152 dX13_keeps_69 (by decide +kernel) ?_
      refine lv_aload_n hx hb dX13_keeps_72 rfl (lv_at hl 0 rfl) ?_
      refine g_get S hI hP uX13 rfl (fs := _) (hb1.lt 0 (by decide)) (hb1.2 0 (by decide)) 6 (by decide) q1793 rfl (v := .int (nI (qc))) rfl dX13_keeps_73 ?_
      refine g_imul S dX13_keeps_76 ?_
      refine g_afv (g_runS S hI hP hS (k := 4) (As := [.ref (ad (b + 4)), .int (nI (0)), .ref (ad (b + 2)), .int (nI (152 * qc))]) (rest := []) (mX13_copies l (b + 4) (b + 2) (0) (152 * (qc)) 152 1216 bf kp (hb1.lt 4 (by decide)) (hb1.lt 2 (by decide)) (by omega) (hb1.2 4 (by decide)) (hb1.2 2 (by decide)) (by omega) (by omega) (by decide) (by decide)) q1894 q1895 q100 q1896 rfl rfl (by decide +kernel) ⟨Nat.le_of_ble_eq_true rfl, Nat.le_of_ble_eq_true rfl⟩ rfl hl.1 rfl (Nat.le_of_ble_eq_true rfl) ⟨(Nat.le_of_ble_eq_true rfl), (Nat.le_of_ble_eq_true rfl)⟩ dX13_keeps_77) hS (fun w1 H locs hq hP hS => ?_)
      obtain hq := hq
      subst hq
      have hP : gP E ad N (va_up _ (b + 2) (MDC E ad b g (cpA bf 0 kp (152 * (qc)) 152) sv bf sd ip sg mk td lv tl qs qc qw qd 0 wy de ca ln fa sm pa tm 2)) H := hP
      have hb2 : bkP N (va_up _ (b + 2) (MDC E ad b g (cpA bf 0 kp (152 * (qc)) 152) sv bf sd ip sg mk td lv tl qs qc qw qd 0 wy de ca ln fa sm pa tm 2)) b 12 (MDC E ad b g (cpA bf 0 kp (152 * (qc)) 152) sv bf sd ip sg mk td lv tl qs qc qw qd 0 wy de ca ln fa sm pa tm) := MD_setA1 hb1 _
      have hfr := hfr.up (p := b + 2) (e := MDC E ad b g (cpA bf 0 kp (152 * (qc)) 152) sv bf sd ip sg mk td lv tl qs qc qw qd 0 wy de ca ln fa sm pa tm 2) (by show _ ∧ _; omega)
      refine lv_aload_n hx hb dX13_keeps_80 rfl (lv_at hl 0 rfl) ?_
      refine lv_dup hx hb dX13_keeps_81 rfl ?_
      refine g_get S hI hP uX13 rfl (fs := _) (hb2.lt 0 (by decide)) (hb2.2 0 (by decide)) 6 (by decide) q1793 rfl (v := .int (nI (qc))) rfl dX13_keeps_82 ?_
      refine g_iconst S 1 dX13_keeps_85 (by decide +kernel) ?_
      refine g_iadd S dX13_keeps_86 ?_
      refine g_put S hI hP hS uX13 rfl tyX13 tyX13_ok nmX13 (fs := _) (hb2.lt 0 (by decide)) (hb2.2 0 (by decide)) 6 (by decide) q1793 rfl rfl (v := .int (nI (qc + 1))) rfl rfl (Nat.le_of_ble_eq_true rfl) dX13_keeps_87 (fun H locs hP hS => ?_)
      have hP : gP E ad N (va_up _ (b) (MDC E ad b g (cpA bf 0 kp (152 * (qc)) 152) sv bf sd ip sg mk td lv tl qs (qc + 1) qw qd 0 wy de ca ln fa sm pa tm 0)) H := hP
      have hb3 : bkP N (va_up _ (b) (MDC E ad b g (cpA bf 0 kp (152 * (qc)) 152) sv bf sd ip sg mk td lv tl qs (qc + 1) qw qd 0 wy de ca ln fa sm pa tm 0)) b 12 (MDC E ad b g (cpA bf 0 kp (152 * (qc)) 152) sv bf sd ip sg mk td lv tl qs (qc + 1) qw qd 0 wy de ca ln fa sm pa tm) := MD_setO hb2 _ _ _ _ _ _ _ _ _ _ _ _ _
      have hfr := hfr.up (p := b) (e := MDC E ad b g (cpA bf 0 kp (152 * (qc)) 152) sv bf sd ip sg mk td lv tl qs (qc + 1) qw qd 0 wy de ca ln fa sm pa tm 0) (by show _ ∧ _; omega)
      exact g_vret S hr hlocks hP hS (⟨by rw [if_pos hq, if_pos hq, hK, hC]; exact hb3, hfr⟩) (fun _ _ => rfl) (Nat.le_of_ble_eq_true rfl) (Nat.le_of_ble_eq_true rfl) dX13_keeps_90
    · refine g_iconst S 0 dX13_keeps_22 (by decide +kernel) ?_
      refine lv_istore_n (lv' := [(2, .int (nI (0))), (0, .ref (ad (b))), (1, .ref (ad (b + 4)))]) hx hb dX13_keeps_23 rfl hl (by decide) rfl (fun ls hl => ?_)
      have loop4 : ∀ (n : Nat) (i : Nat), 1064 - i < n → (i ≤ 1064) → ∀ (w1 : Nat → va_E) (H : Heap) (locs : List Loc), gP E ad N w1 H → va_S (gA E) s.heap H locs → bkP N w1 b 12 (MDC E ad b g (shK kp i) sv bf sd ip sg mk td lv tl qs qc qw qd 0 wy de ca ln fa sm pa tm) → gFr (gIn b 12) w w1 → ∀ (ls : Array Slot), lv_has ls 3 [(2, .int (nI (i))), (0, .ref (ad (b))), (1, .ref (ad (b + 4)))] → W p l e (headSpec (lw_ws yX13_keeps cX13_keeps 3 none) ({ frames := 1, cells := 0, slots := 0, locals := 24 } : Room)).room s m ([.ref (ad (b)), .ref (ad (b + 4))] : List Value).toArray below meth cd H locs 0 0 (MQ below (va_Qv (fun w' => bkP N w' b 12 (MDC E ad b g (if qw = 0 then kpK kp qc bf else kp) sv bf sd ip sg mk td lv tl qs (if qw = 0 then kpC qc else qc) qw qd 0 wy de ca ln fa sm pa tm) ∧ gFr (gIn b 12) w w') (gB E ad N) (gA E)) ([.ref (ad (b)), .ref (ad (b + 4))] : List Value).toArray s 0 0 (gA E)) (F0 m 24 ls []) := by
        intro n
        induction n with
        | zero => intro i hmeas; omega
        | succ n ih_loop4 =>
          intro i hmeas hi w1 H locs hP hS hb5 hfr ls hl
          refine lv_iload_n hx hb dX13_keeps_24 rfl (lv_at hl 0 rfl) ?_
          refine g_sipush S 1064 dX13_keeps_25 (by decide +kernel) ?_
          refine g_ge S (a := i) (b := 1064) (by omega) (by omega) (tgt := 53) dX13_keeps_28 (by decide) (fun h => ?_) (fun h => ?_)
          · have e1064 : i = 1064 := by omega
            subst e1064
            have hK : kpK kp qc bf = cpA bf 0 (shK kp 1064) (152 * (qc - 1)) 152 := by unfold kpK; rw [if_pos h8, show 152 * (qc - 1) = 1064 by omega]
            have hC : kpC qc = qc - 1 + 1 := by unfold kpC; rw [if_pos h8]; omega
            refine lv_aload_n hx hb dX13_keeps_53 rfl (lv_at hl 1 rfl) ?_
            refine lv_dup hx hb dX13_keeps_54 rfl ?_
            refine g_get S hI hP uX13 rfl (fs := _) (hb5.lt 0 (by decide)) (hb5.2 0 (by decide)) 6 (by decide) q1793 rfl (v := .int (nI (qc))) rfl dX13_keeps_55 ?_
            refine g_iconst S 1 dX13_keeps_58 (by decide +kernel) ?_
            refine g_isub S (by omega) dX13_keeps_59 ?_
            refine g_put S hI hP hS uX13 rfl tyX13 tyX13_ok nmX13 (fs := _) (hb5.lt 0 (by decide)) (hb5.2 0 (by decide)) 6 (by decide) q1793 rfl rfl (v := .int (nI (qc - 1))) rfl rfl (Nat.le_of_ble_eq_true rfl) dX13_keeps_60 (fun H locs hP hS => ?_)
            have hP : gP E ad N (va_up _ (b) (MDC E ad b g (shK kp 1064) sv bf sd ip sg mk td lv tl qs (qc - 1) qw qd 0 wy de ca ln fa sm pa tm 0)) H := hP
            have hb6 : bkP N (va_up _ (b) (MDC E ad b g (shK kp 1064) sv bf sd ip sg mk td lv tl qs (qc - 1) qw qd 0 wy de ca ln fa sm pa tm 0)) b 12 (MDC E ad b g (shK kp 1064) sv bf sd ip sg mk td lv tl qs (qc - 1) qw qd 0 wy de ca ln fa sm pa tm) := MD_setO hb5 _ _ _ _ _ _ _ _ _ _ _ _ _
            have hfr := hfr.up (p := b) (e := MDC E ad b g (shK kp 1064) sv bf sd ip sg mk td lv tl qs (qc - 1) qw qd 0 wy de ca ln fa sm pa tm 0) (by show _ ∧ _; omega)
            refine lv_aload_n hx hb dX13_keeps_63 rfl (lv_at hl 2 rfl) ?_
            refine g_iconst S 0 dX13_keeps_64 (by decide +kernel) ?_
            refine lv_aload_n hx hb dX13_keeps_65 rfl (lv_at hl 1 rfl) ?_
            refine g_get S hI hP uX13 rfl (fs := _) (hb6.lt 0 (by decide)) (hb6.2 0 (by decide)) 1 (by decide) q1788 rfl (v := .ref (ad (b + 2))) rfl dX13_keeps_66 ?_
            refine g_sipush S 152 dX13_keeps_69 (by decide +kernel) ?_
            refine lv_aload_n hx hb dX13_keeps_72 rfl (lv_at hl 1 rfl) ?_
            refine g_get S hI hP uX13 rfl (fs := _) (hb6.lt 0 (by decide)) (hb6.2 0 (by decide)) 6 (by decide) q1793 rfl (v := .int (nI (qc - 1))) rfl dX13_keeps_73 ?_
            refine g_imul S dX13_keeps_76 ?_
            refine g_afv (g_runS S hI hP hS (k := 4) (As := [.ref (ad (b + 4)), .int (nI (0)), .ref (ad (b + 2)), .int (nI (152 * (qc - 1)))]) (rest := []) (mX13_copies l (b + 4) (b + 2) (0) (152 * (qc - 1)) 152 1216 bf (shK kp 1064) (hb6.lt 4 (by decide)) (hb6.lt 2 (by decide)) (by omega) (hb6.2 4 (by decide)) (hb6.2 2 (by decide)) (by omega) (by omega) (by decide) (by decide)) q1894 q1895 q100 q1896 rfl rfl (by decide +kernel) ⟨Nat.le_of_ble_eq_true rfl, Nat.le_of_ble_eq_true rfl⟩ rfl hl.1 rfl (Nat.le_of_ble_eq_true rfl) ⟨(Nat.le_of_ble_eq_true rfl), (Nat.le_of_ble_eq_true rfl)⟩ dX13_keeps_77) hS (fun w1 H locs hq hP hS => ?_)
            obtain hq := hq
            subst hq
            have hP : gP E ad N (va_up _ (b + 2) (MDC E ad b g (cpA bf 0 (shK kp 1064) (152 * (qc - 1)) 152) sv bf sd ip sg mk td lv tl qs (qc - 1) qw qd 0 wy de ca ln fa sm pa tm 2)) H := hP
            have hb7 : bkP N (va_up _ (b + 2) (MDC E ad b g (cpA bf 0 (shK kp 1064) (152 * (qc - 1)) 152) sv bf sd ip sg mk td lv tl qs (qc - 1) qw qd 0 wy de ca ln fa sm pa tm 2)) b 12 (MDC E ad b g (cpA bf 0 (shK kp 1064) (152 * (qc - 1)) 152) sv bf sd ip sg mk td lv tl qs (qc - 1) qw qd 0 wy de ca ln fa sm pa tm) := MD_setA1 hb6 _
            have hfr := hfr.up (p := b + 2) (e := MDC E ad b g (cpA bf 0 (shK kp 1064) (152 * (qc - 1)) 152) sv bf sd ip sg mk td lv tl qs (qc - 1) qw qd 0 wy de ca ln fa sm pa tm 2) (by show _ ∧ _; omega)
            refine lv_aload_n hx hb dX13_keeps_80 rfl (lv_at hl 1 rfl) ?_
            refine lv_dup hx hb dX13_keeps_81 rfl ?_
            refine g_get S hI hP uX13 rfl (fs := _) (hb7.lt 0 (by decide)) (hb7.2 0 (by decide)) 6 (by decide) q1793 rfl (v := .int (nI (qc - 1))) rfl dX13_keeps_82 ?_
            refine g_iconst S 1 dX13_keeps_85 (by decide +kernel) ?_
            refine g_iadd S dX13_keeps_86 ?_
            refine g_put S hI hP hS uX13 rfl tyX13 tyX13_ok nmX13 (fs := _) (hb7.lt 0 (by decide)) (hb7.2 0 (by decide)) 6 (by decide) q1793 rfl rfl (v := .int (nI (qc - 1 + 1))) rfl rfl (Nat.le_of_ble_eq_true rfl) dX13_keeps_87 (fun H locs hP hS => ?_)
            have hP : gP E ad N (va_up _ (b) (MDC E ad b g (cpA bf 0 (shK kp 1064) (152 * (qc - 1)) 152) sv bf sd ip sg mk td lv tl qs (qc - 1 + 1) qw qd 0 wy de ca ln fa sm pa tm 0)) H := hP
            have hb8 : bkP N (va_up _ (b) (MDC E ad b g (cpA bf 0 (shK kp 1064) (152 * (qc - 1)) 152) sv bf sd ip sg mk td lv tl qs (qc - 1 + 1) qw qd 0 wy de ca ln fa sm pa tm 0)) b 12 (MDC E ad b g (cpA bf 0 (shK kp 1064) (152 * (qc - 1)) 152) sv bf sd ip sg mk td lv tl qs (qc - 1 + 1) qw qd 0 wy de ca ln fa sm pa tm) := MD_setO hb7 _ _ _ _ _ _ _ _ _ _ _ _ _
            have hfr := hfr.up (p := b) (e := MDC E ad b g (cpA bf 0 (shK kp 1064) (152 * (qc - 1)) 152) sv bf sd ip sg mk td lv tl qs (qc - 1 + 1) qw qd 0 wy de ca ln fa sm pa tm 0) (by show _ ∧ _; omega)
            exact g_vret S hr hlocks hP hS (⟨by rw [if_pos hq, if_pos hq, hK, hC]; exact hb8, hfr⟩) (fun _ _ => rfl) (Nat.le_of_ble_eq_true rfl) (Nat.le_of_ble_eq_true rfl) dX13_keeps_90
          · refine lv_aload_n hx hb dX13_keeps_31 rfl (lv_at hl 1 rfl) ?_
            refine g_get S hI hP uX13 rfl (fs := _) (hb5.lt 0 (by decide)) (hb5.2 0 (by decide)) 1 (by decide) q1788 rfl (v := .ref (ad (b + 2))) rfl dX13_keeps_32 ?_
            refine lv_iload_n hx hb dX13_keeps_35 rfl (lv_at hl 0 rfl) ?_
            refine lv_aload_n hx hb dX13_keeps_36 rfl (lv_at hl 1 rfl) ?_
            refine g_get S hI hP uX13 rfl (fs := _) (hb5.lt 0 (by decide)) (hb5.2 0 (by decide)) 1 (by decide) q1788 rfl (v := .ref (ad (b + 2))) rfl dX13_keeps_37 ?_
            refine lv_iload_n hx hb dX13_keeps_40 rfl (lv_at hl 0 rfl) ?_
            refine g_sipush S 152 dX13_keeps_41 (by decide +kernel) ?_
            refine g_iadd S dX13_keeps_44 ?_
            refine g_iald S hI hP (f := fun j => nI ((shK kp i) j)) (hb5.lt 2 (by decide)) (hb5.2 2 (by decide)) (i + 152) (by omega) (by decide) dX13_keeps_45 ?_
            rw [show (shK kp i) (i + 152) = kp (i + 152) from if_neg (by omega)]
            refine g_iastN S hI hP hS (f := (shK kp i)) (x := kp (i + 152)) (hb5.lt 2 (by decide)) (hb5.2 2 (by decide)) (i) (by omega) (by decide) dX13_keeps_46 (fun H locs hP hS => ?_)
            have hP : gP E ad N (va_up _ (b + 2) (MDC E ad b g (va_up (shK kp i) i (kp (i + 152))) sv bf sd ip sg mk td lv tl qs qc qw qd 0 wy de ca ln fa sm pa tm 2)) H := hP
            have hb9 : bkP N (va_up _ (b + 2) (MDC E ad b g (va_up (shK kp i) i (kp (i + 152))) sv bf sd ip sg mk td lv tl qs qc qw qd 0 wy de ca ln fa sm pa tm 2)) b 12 (MDC E ad b g (va_up (shK kp i) i (kp (i + 152))) sv bf sd ip sg mk td lv tl qs qc qw qd 0 wy de ca ln fa sm pa tm) := MD_setA1 hb5 _
            have hfr := hfr.up (p := b + 2) (e := MDC E ad b g (va_up (shK kp i) i (kp (i + 152))) sv bf sd ip sg mk td lv tl qs qc qw qd 0 wy de ca ln fa sm pa tm 2) (by show _ ∧ _; omega)
            rw [shK_s kp i] at hb9 hP hfr
            refine lv_iinc (v := nI (i + 1)) (lv' := [(2, .int (nI (i + 1))), (0, .ref (ad (b))), (1, .ref (ad (b + 4)))]) hx hb dX13_keeps_47 hl (k := 0) rfl (g_inc _ 1 (by decide +kernel)) (by decide) rfl (fun ls hl => ?_)
            refine lv_goto (tgt := 24) hx hb dX13_keeps_50 (by decide) ?_
            exact ih_loop4 (i + 1) (by omega) (by omega) _ _ _ hP hS hb9 hfr ls (lv_sub hl [0, 1, 2] rfl)
      have hbs := hb1
      rw [← shK_0 kp] at hbs
      exact loop4 (1064 - (0) + 1) (0) (Nat.lt_succ_self _) (by omega) _ _ _ hP hS hbs hfr ls (lv_sub hl [0, 1, 2] rfl)
  · have hq1 : qw ≠ 0 := by omega
    exact g_vret S hr hlocks hP hS (⟨by rw [if_neg hq1, if_neg hq1]; exact hb1, hfr⟩) (fun _ _ => rfl) (Nat.le_of_ble_eq_true rfl) (Nat.le_of_ble_eq_true rfl) dX13_keeps_12
set_option maxHeartbeats 4000000 in
set_option maxRecDepth 100000 in
/-- a cell -/
theorem mX13_isCell (l : Launch) {E : gE} {ad : Nat → Nat} {N : Nat} {w : Nat → va_E} (x y : Int32)  : gMi l yX13_isCell (lw_ws yX13_isCell cX13_isCell 2 (some .boolean)) ({ frames := 1, cells := 0, slots := 0, locals := 22 } : Room) E ad N w [.int (x), .int (y)] (fun r w' => r = bI (cellV x y).isSome ∧ w' = w) 0 0 := by
  refine Met.ofW (cc := cX13_isCell) (maxL := 2) (ret := (some .boolean)) (by decide) rfl ?_
  intro p e s m args below meth cd s₁ B hml hv
  obtain ⟨rfl, hI, hP⟩ := hv
  obtain ⟨S, hr, hlocks⟩ := gPre (ws := []) B hml (C := RX13) rfl
  have hx := S.1
  have hb := S.2.1
  have hS : va_S (gA E) s.heap s.heap [] := va_S.rf
  have hl := lv_entry ([.int (x), .int (y)]) (n := 2) (Nat.le_of_ble_eq_true rfl)
  rw [lg_entry_eq]
  generalize (lg_sl ([.int (x), .int (y)]) ++ List.replicate (2 - (lg_sl ([.int (x), .int (y)])).length) Slot.unset).toArray = ls at hl ⊢
  have hl : lv_has ls 2 [(0, .int (x)), (1, .int (y))] := hl
  rw [cell_is]
  refine lv_iload_n hx hb dX13_isCell_0 rfl (lv_at hl 0 rfl) ?_
  refine g_iconst S 0 dX13_isCell_1 (by decide +kernel) ?_
  refine g_iconst S 5 dX13_isCell_2 (by decide +kernel) ?_
  refine g_roi (g_runS S hI hP hS (k := 3) (As := [.int (x), .int (nI (0)), .int (nI (5))]) (rest := []) (mX13_in l x (nI (0)) (nI (5))) q1875 q1876 q100 q1877 rfl rfl (by decide +kernel) ⟨Nat.le_of_ble_eq_true rfl, Nat.le_of_ble_eq_true rfl⟩ rfl hl.1 rfl (Nat.le_of_ble_eq_true rfl) ⟨(Nat.le_of_ble_eq_true rfl), (Nat.le_of_ble_eq_true rfl)⟩ dX13_isCell_3) hS (fun H locs hP hS => ?_)
  rw [in_inR (by decide)]
  refine g_beq S (b := (inR x 6).isSome) (tgt := 22) dX13_isCell_6 (by decide) (fun h1 => ?_) (fun h1 => ?_)
  · refine g_iconst S 0 dX13_isCell_22 (by decide +kernel) ?_
    exact g_zret S hr hlocks (Or.inl nI_0) hP hS (⟨by rw [h1]; rfl, rfl⟩) (fun _ _ => rfl) (Nat.le_of_ble_eq_true rfl) (Nat.le_of_ble_eq_true rfl) dX13_isCell_23
  · refine lv_iload_n hx hb dX13_isCell_9 rfl (lv_at hl 1 rfl) ?_
    refine g_iconst S 0 dX13_isCell_10 (by decide +kernel) ?_
    refine g_iconst S 5 dX13_isCell_11 (by decide +kernel) ?_
    refine g_roi (g_runS S hI hP hS (k := 3) (As := [.int (y), .int (nI (0)), .int (nI (5))]) (rest := []) (mX13_in l y (nI (0)) (nI (5))) q1875 q1876 q100 q1877 rfl rfl (by decide +kernel) ⟨Nat.le_of_ble_eq_true rfl, Nat.le_of_ble_eq_true rfl⟩ rfl hl.1 rfl (Nat.le_of_ble_eq_true rfl) ⟨(Nat.le_of_ble_eq_true rfl), (Nat.le_of_ble_eq_true rfl)⟩ dX13_isCell_12) hS (fun H locs hP hS => ?_)
    rw [in_inR (by decide)]
    refine g_beq S (b := (inR y 6).isSome) (tgt := 22) dX13_isCell_15 (by decide) (fun h2 => ?_) (fun h2 => ?_)
    · refine g_iconst S 0 dX13_isCell_22 (by decide +kernel) ?_
      exact g_zret S hr hlocks (Or.inl nI_0) hP hS (⟨by rw [h1, h2]; rfl, rfl⟩) (fun _ _ => rfl) (Nat.le_of_ble_eq_true rfl) (Nat.le_of_ble_eq_true rfl) dX13_isCell_23
    · refine g_iconst S 1 dX13_isCell_18 (by decide +kernel) ?_
      refine lv_goto (tgt := 23) hx hb dX13_isCell_19 (by decide) ?_
      exact g_zret S hr hlocks (Or.inr (by decide +kernel)) hP hS (⟨by rw [h1, h2]; rfl, rfl⟩) (fun _ _ => rfl) (Nat.le_of_ble_eq_true rfl) (Nat.le_of_ble_eq_true rfl) dX13_isCell_23
set_option maxHeartbeats 4000000 in
set_option maxRecDepth 100000 in
/-- no cell -/
theorem mX13_isNone (l : Launch) {E : gE} {ad : Nat → Nat} {N : Nat} {w : Nat → va_E} (b : Nat) (g kp sv bf sd ip sg mk td lv tl : Nat → Nat) (qs qc qw qd co wy : Nat) (de : Int32) (ca ln : Nat) (fa : Option Nat) (sm pa tm : Nat) (x y : Int32) (hb_m : bkP N w b 12 (MDC E ad b g kp sv bf sd ip sg mk td lv tl qs qc qw qd co wy de ca ln fa sm pa tm))  : gMi l yX13_isNone (lw_ws yX13_isNone cX13_isNone 3 (some .boolean)) ({ frames := 2, cells := 0, slots := 0, locals := 43 } : Room) E ad N w [.ref (ad (b)), .int (x), .int (y)] (fun r w' => r = bI (cellV x y).isNone ∧ bkP N w' b 12 (MDC E ad b g kp sv bf sd ip sg mk td lv tl qs qc qw 0 (if (cellV x y).isSome = true then 0 else 1) wy de ca ln fa sm pa tm) ∧ gFr (gIn b 12) w w') 0 0 := by
  refine Met.ofW (cc := cX13_isNone) (maxL := 3) (ret := (some .boolean)) (by decide) rfl ?_
  intro p e s m args below meth cd s₁ B hml hv
  obtain ⟨rfl, hI, hP⟩ := hv
  obtain ⟨S, hr, hlocks⟩ := gPre (ws := []) B hml (C := RX13) rfl
  have hx := S.1
  have hb := S.2.1
  have hS : va_S (gA E) s.heap s.heap [] := va_S.rf
  have hfr : gFr (gIn b 12) w w := gFr.rf
  have hl := lv_entry ([.ref (ad (b)), .int (x), .int (y)]) (n := 3) (Nat.le_of_ble_eq_true rfl)
  rw [lg_entry_eq]
  generalize (lg_sl ([.ref (ad (b)), .int (x), .int (y)]) ++ List.replicate (3 - (lg_sl ([.ref (ad (b)), .int (x), .int (y)])).length) Slot.unset).toArray = ls at hl ⊢
  have hl : lv_has ls 3 [(0, .ref (ad (b))), (1, .int (x)), (2, .int (y))] := hl
  refine lv_aload_n hx hb dX13_isNone_0 rfl (lv_at hl 0 rfl) ?_
  refine lv_iload_n hx hb dX13_isNone_1 rfl (lv_at hl 1 rfl) ?_
  refine lv_iload_n hx hb dX13_isNone_2 rfl (lv_at hl 2 rfl) ?_
  refine g_roi (g_runS S hI hP hS (k := 2) (As := [.int (x), .int (y)]) (rest := [.ref (ad (b))]) (mX13_isCell l x y) q1872 q1873 q100 q1874 rfl rfl (by decide +kernel) ⟨Nat.le_of_ble_eq_true rfl, Nat.le_of_ble_eq_true rfl⟩ rfl hl.1 rfl (Nat.le_of_ble_eq_true rfl) ⟨(Nat.le_of_ble_eq_true rfl), (Nat.le_of_ble_eq_true rfl)⟩ dX13_isNone_3) hS (fun H locs hP hS => ?_)
  refine g_beq S (b := (cellV x y).isSome) (tgt := 13) dX13_isNone_6 (by decide) (fun h1 => ?_) (fun h1 => ?_)
  · rw [if_neg (show ¬ (cellV x y).isSome = true by rw [h1]; decide)]
    refine g_iconst S 1 dX13_isNone_13 (by decide +kernel) ?_
    refine g_afi (g_runV S hI hP hS (k := 1) (As := [.int (nI (1))]) (rest := []) (mX13_fails l b g kp sv bf sd ip sg mk td lv tl qs qc qw qd co wy de ca ln fa sm pa tm 1 hb_m (by decide)) q1878 q1880 q49 q100 q1881 rfl rfl (by decide +kernel) ⟨Nat.le_of_ble_eq_true rfl, Nat.le_of_ble_eq_true rfl⟩ rfl (hb_m.lt 0 (by decide)) (hb_m.2 0 (by decide)) rfl hl.1 rfl (Nat.le_of_ble_eq_true rfl) ⟨(Nat.le_of_ble_eq_true rfl), (Nat.le_of_ble_eq_true rfl)⟩ dX13_isNone_14) hS (fun rz w1 H locs hq hP hS => ?_)
    obtain ⟨hr3, hb1, hf2⟩ := hq
    rw [hr3]
    have hfr := hfr.trans hf2 (fun q hq => by (try simp only [gIn] at hq ⊢); (try dsimp only at hq ⊢); omega)
    exact g_zret S hr hlocks (bI_01 _) hP hS (⟨by rw [show (cellV x y).isNone = true from by cases q : cellV x y with | none => rfl | some a => rw [q] at h1; cases h1]; rfl, hb1, hfr⟩) (fun _ _ => rfl) (Nat.le_of_ble_eq_true rfl) (Nat.le_of_ble_eq_true rfl) dX13_isNone_17
  · rw [if_pos h1]
    refine g_iconst S 0 dX13_isNone_9 (by decide +kernel) ?_
    refine lv_goto (tgt := 14) hx hb dX13_isNone_10 (by decide) ?_
    refine g_afi (g_runV S hI hP hS (k := 1) (As := [.int (nI (0))]) (rest := []) (mX13_fails l b g kp sv bf sd ip sg mk td lv tl qs qc qw qd co wy de ca ln fa sm pa tm 0 hb_m (by decide)) q1878 q1880 q49 q100 q1881 rfl rfl (by decide +kernel) ⟨Nat.le_of_ble_eq_true rfl, Nat.le_of_ble_eq_true rfl⟩ rfl (hb_m.lt 0 (by decide)) (hb_m.2 0 (by decide)) rfl hl.1 rfl (Nat.le_of_ble_eq_true rfl) ⟨(Nat.le_of_ble_eq_true rfl), (Nat.le_of_ble_eq_true rfl)⟩ dX13_isNone_14) hS (fun rz w1 H locs hq hP hS => ?_)
    obtain ⟨hr6, hb4, hf5⟩ := hq
    rw [hr6]
    have hfr := hfr.trans hf5 (fun q hq => by (try simp only [gIn] at hq ⊢); (try dsimp only at hq ⊢); omega)
    exact g_zret S hr hlocks (bI_01 _) hP hS (⟨by rw [show (cellV x y).isNone = false from by cases q : cellV x y with | none => rw [q] at h1; cases h1 | some a => rfl]; rfl, hb4, hfr⟩) (fun _ _ => rfl) (Nat.le_of_ble_eq_true rfl) (Nat.le_of_ble_eq_true rfl) dX13_isNone_17
set_option maxHeartbeats 4000000 in
set_option maxRecDepth 100000 in
/-- the neighbour in a direction -/
theorem mX13_beside (l : Launch) {E : gE} {ad : Nat → Nat} {N : Nat} {w : Nat → va_E} (c d : Nat) (hc : c < 36) (hd : d < 4) : gMi l yX13_beside (lw_ws yX13_beside cX13_beside 4 (some .int)) ({ frames := 2, cells := 0, slots := 0, locals := 43 } : Room) E ad N w [.int (nI (c)), .int (nI (d))] (fun r w' => r = oI (nb c d) ∧ w' = w) 0 0 := by
  refine Met.ofW (cc := cX13_beside) (maxL := 4) (ret := (some .int)) (by decide) rfl ?_
  intro p e s m args below meth cd s₁ B hml hv
  obtain ⟨rfl, hI, hP⟩ := hv
  obtain ⟨S, hr, hlocks⟩ := gPre (ws := []) B hml (C := RX13) rfl
  have hx := S.1
  have hb := S.2.1
  have hS : va_S (gA E) s.heap s.heap [] := va_S.rf
  have hl := lv_entry ([.int (nI (c)), .int (nI (d))]) (n := 4) (Nat.le_of_ble_eq_true rfl)
  rw [lg_entry_eq]
  generalize (lg_sl ([.int (nI (c)), .int (nI (d))]) ++ List.replicate (4 - (lg_sl ([.int (nI (c)), .int (nI (d))])).length) Slot.unset).toArray = ls at hl ⊢
  have hl : lv_has ls 4 [(0, .int (nI (c))), (1, .int (nI (d)))] := hl
  rcases (show d = 0 ∨ d = 1 ∨ d = 2 ∨ d = 3 by omega) with rfl | rfl | rfl | rfl
  · refine lv_iload_n hx hb dX13_beside_0 rfl (lv_at hl 0 rfl) ?_
    refine g_bipush S 6 dX13_beside_1 (by decide +kernel) ?_
    refine g_idiv S (by omega) (by omega) (by omega) dX13_beside_3 ?_
    refine lv_iload_n hx hb dX13_beside_4 rfl (lv_at hl 1 rfl) ?_
    refine g_ifne S (a := 0) (by omega) (tgt := 12) dX13_beside_5 (by decide) (fun hd1 => ?_) (fun hd1 => ?_)
    · omega
    · refine lv_iconst (v := -1) hx hb dX13_beside_8 (by decide +kernel) ?_
      refine lv_goto (tgt := 22) hx hb dX13_beside_9 (by decide) ?_
      refine lv_iadd hx hb dX13_beside_22 ?_
      refine lv_istore_n (lv' := [(2, .int (nI (c / 6) + (-1))), (0, .int (nI (c))), (1, .int (nI (0)))]) hx hb dX13_beside_23 rfl hl (by decide) rfl (fun ls hl => ?_)
      refine lv_iload_n hx hb dX13_beside_24 rfl (lv_at hl 1 rfl) ?_
      refine g_bipush S 6 dX13_beside_25 (by decide +kernel) ?_
      refine g_irem S (by omega) (by omega) (by omega) dX13_beside_27 ?_
      refine lv_iload_n hx hb dX13_beside_28 rfl (lv_at hl 2 rfl) ?_
      refine g_iconst S 1 dX13_beside_29 (by decide +kernel) ?_
      refine g_ne S (a := 0) (b := 1) (by omega) (by omega) (tgt := 37) dX13_beside_30 (by decide) (fun hd2 => ?_) (fun hd2 => ?_)
      · refine lv_iload_n hx hb dX13_beside_37 rfl (lv_at hl 2 rfl) ?_
        refine g_iconst S 3 dX13_beside_38 (by decide +kernel) ?_
        refine g_ne S (a := 0) (b := 3) (by omega) (by omega) (tgt := 46) dX13_beside_39 (by decide) (fun hd3 => ?_) (fun hd3 => ?_)
        · refine g_iconst S 0 dX13_beside_46 (by decide +kernel) ?_
          refine g_iadd S dX13_beside_47 ?_
          refine lv_istore_n (lv' := [(3, .int (nI (c % 6 + 0))), (2, .int (nI (c / 6) + (-1))), (0, .int (nI (c))), (1, .int (nI (0)))]) hx hb dX13_beside_48 rfl hl (by decide) rfl (fun ls hl => ?_)
          refine lv_iload_n hx hb dX13_beside_49 rfl (lv_at hl 1 rfl) ?_
          refine lv_iload_n hx hb dX13_beside_50 rfl (lv_at hl 0 rfl) ?_
          obtain ⟨hs1, hs2⟩ := bs_0 c hc
          refine g_roi (g_runS S hI hP hS (k := 2) (As := [.int (nI (c / 6) + (-1)), .int (nI (c % 6 + 0))]) (rest := []) (mX13_isCell l (nI (c / 6) + (-1)) (nI (c % 6 + 0))) q1872 q1873 q100 q1874 rfl rfl (by decide +kernel) ⟨Nat.le_of_ble_eq_true rfl, Nat.le_of_ble_eq_true rfl⟩ rfl hl.1 rfl (Nat.le_of_ble_eq_true rfl) ⟨(Nat.le_of_ble_eq_true rfl), (Nat.le_of_ble_eq_true rfl)⟩ dX13_beside_51) hS (fun H locs hP hS => ?_)
          rw [hs1]
          refine g_beq S (b := (nb c 0).isSome) (tgt := 66) dX13_beside_54 (by decide) (fun hs => ?_) (fun hs => ?_)
          · refine lv_iconst (v := -1) hx hb dX13_beside_66 (by decide +kernel) ?_
            exact g_iret S hr hlocks hP hS (⟨oI_none' hs, rfl⟩) (fun _ _ => rfl) (Nat.le_of_ble_eq_true rfl) (Nat.le_of_ble_eq_true rfl) dX13_beside_67
          · refine g_bipush S 6 dX13_beside_57 (by decide +kernel) ?_
            refine lv_iload_n hx hb dX13_beside_59 rfl (lv_at hl 1 rfl) ?_
            refine lv_imul hx hb dX13_beside_60 ?_
            refine lv_iload_n hx hb dX13_beside_61 rfl (lv_at hl 0 rfl) ?_
            refine lv_iadd hx hb dX13_beside_62 ?_
            refine lv_goto (tgt := 67) hx hb dX13_beside_63 (by decide) ?_
            exact g_iret S hr hlocks hP hS (⟨hs2 hs, rfl⟩) (fun _ _ => rfl) (Nat.le_of_ble_eq_true rfl) (Nat.le_of_ble_eq_true rfl) dX13_beside_67
        · omega
      · omega
  · refine lv_iload_n hx hb dX13_beside_0 rfl (lv_at hl 0 rfl) ?_
    refine g_bipush S 6 dX13_beside_1 (by decide +kernel) ?_
    refine g_idiv S (by omega) (by omega) (by omega) dX13_beside_3 ?_
    refine lv_iload_n hx hb dX13_beside_4 rfl (lv_at hl 1 rfl) ?_
    refine g_ifne S (a := 1) (by omega) (tgt := 12) dX13_beside_5 (by decide) (fun hd4 => ?_) (fun hd4 => ?_)
    · refine lv_iload_n hx hb dX13_beside_12 rfl (lv_at hl 1 rfl) ?_
      refine g_iconst S 2 dX13_beside_13 (by decide +kernel) ?_
      refine g_ne S (a := 1) (b := 2) (by omega) (by omega) (tgt := 21) dX13_beside_14 (by decide) (fun hd5 => ?_) (fun hd5 => ?_)
      · refine g_iconst S 0 dX13_beside_21 (by decide +kernel) ?_
        refine g_iadd S dX13_beside_22 ?_
        refine lv_istore_n (lv' := [(2, .int (nI (c / 6 + 0))), (0, .int (nI (c))), (1, .int (nI (1)))]) hx hb dX13_beside_23 rfl hl (by decide) rfl (fun ls hl => ?_)
        refine lv_iload_n hx hb dX13_beside_24 rfl (lv_at hl 1 rfl) ?_
        refine g_bipush S 6 dX13_beside_25 (by decide +kernel) ?_
        refine g_irem S (by omega) (by omega) (by omega) dX13_beside_27 ?_
        refine lv_iload_n hx hb dX13_beside_28 rfl (lv_at hl 2 rfl) ?_
        refine g_iconst S 1 dX13_beside_29 (by decide +kernel) ?_
        refine g_ne S (a := 1) (b := 1) (by omega) (by omega) (tgt := 37) dX13_beside_30 (by decide) (fun hd6 => ?_) (fun hd6 => ?_)
        · omega
        · refine g_iconst S 1 dX13_beside_33 (by decide +kernel) ?_
          refine lv_goto (tgt := 47) hx hb dX13_beside_34 (by decide) ?_
          refine g_iadd S dX13_beside_47 ?_
          refine lv_istore_n (lv' := [(3, .int (nI (c % 6 + 1))), (2, .int (nI (c / 6 + 0))), (0, .int (nI (c))), (1, .int (nI (1)))]) hx hb dX13_beside_48 rfl hl (by decide) rfl (fun ls hl => ?_)
          refine lv_iload_n hx hb dX13_beside_49 rfl (lv_at hl 1 rfl) ?_
          refine lv_iload_n hx hb dX13_beside_50 rfl (lv_at hl 0 rfl) ?_
          obtain ⟨hs1, hs2⟩ := bs_1 c hc
          refine g_roi (g_runS S hI hP hS (k := 2) (As := [.int (nI (c / 6 + 0)), .int (nI (c % 6 + 1))]) (rest := []) (mX13_isCell l (nI (c / 6 + 0)) (nI (c % 6 + 1))) q1872 q1873 q100 q1874 rfl rfl (by decide +kernel) ⟨Nat.le_of_ble_eq_true rfl, Nat.le_of_ble_eq_true rfl⟩ rfl hl.1 rfl (Nat.le_of_ble_eq_true rfl) ⟨(Nat.le_of_ble_eq_true rfl), (Nat.le_of_ble_eq_true rfl)⟩ dX13_beside_51) hS (fun H locs hP hS => ?_)
          rw [hs1]
          refine g_beq S (b := (nb c 1).isSome) (tgt := 66) dX13_beside_54 (by decide) (fun hs => ?_) (fun hs => ?_)
          · refine lv_iconst (v := -1) hx hb dX13_beside_66 (by decide +kernel) ?_
            exact g_iret S hr hlocks hP hS (⟨oI_none' hs, rfl⟩) (fun _ _ => rfl) (Nat.le_of_ble_eq_true rfl) (Nat.le_of_ble_eq_true rfl) dX13_beside_67
          · refine g_bipush S 6 dX13_beside_57 (by decide +kernel) ?_
            refine lv_iload_n hx hb dX13_beside_59 rfl (lv_at hl 1 rfl) ?_
            refine g_imul S dX13_beside_60 ?_
            refine lv_iload_n hx hb dX13_beside_61 rfl (lv_at hl 0 rfl) ?_
            refine g_iadd S dX13_beside_62 ?_
            refine lv_goto (tgt := 67) hx hb dX13_beside_63 (by decide) ?_
            exact g_iret S hr hlocks hP hS (⟨hs2 hs, rfl⟩) (fun _ _ => rfl) (Nat.le_of_ble_eq_true rfl) (Nat.le_of_ble_eq_true rfl) dX13_beside_67
      · omega
    · omega
  · refine lv_iload_n hx hb dX13_beside_0 rfl (lv_at hl 0 rfl) ?_
    refine g_bipush S 6 dX13_beside_1 (by decide +kernel) ?_
    refine g_idiv S (by omega) (by omega) (by omega) dX13_beside_3 ?_
    refine lv_iload_n hx hb dX13_beside_4 rfl (lv_at hl 1 rfl) ?_
    refine g_ifne S (a := 2) (by omega) (tgt := 12) dX13_beside_5 (by decide) (fun hd7 => ?_) (fun hd7 => ?_)
    · refine lv_iload_n hx hb dX13_beside_12 rfl (lv_at hl 1 rfl) ?_
      refine g_iconst S 2 dX13_beside_13 (by decide +kernel) ?_
      refine g_ne S (a := 2) (b := 2) (by omega) (by omega) (tgt := 21) dX13_beside_14 (by decide) (fun hd8 => ?_) (fun hd8 => ?_)
      · omega
      · refine g_iconst S 1 dX13_beside_17 (by decide +kernel) ?_
        refine lv_goto (tgt := 22) hx hb dX13_beside_18 (by decide) ?_
        refine g_iadd S dX13_beside_22 ?_
        refine lv_istore_n (lv' := [(2, .int (nI (c / 6 + 1))), (0, .int (nI (c))), (1, .int (nI (2)))]) hx hb dX13_beside_23 rfl hl (by decide) rfl (fun ls hl => ?_)
        refine lv_iload_n hx hb dX13_beside_24 rfl (lv_at hl 1 rfl) ?_
        refine g_bipush S 6 dX13_beside_25 (by decide +kernel) ?_
        refine g_irem S (by omega) (by omega) (by omega) dX13_beside_27 ?_
        refine lv_iload_n hx hb dX13_beside_28 rfl (lv_at hl 2 rfl) ?_
        refine g_iconst S 1 dX13_beside_29 (by decide +kernel) ?_
        refine g_ne S (a := 2) (b := 1) (by omega) (by omega) (tgt := 37) dX13_beside_30 (by decide) (fun hd9 => ?_) (fun hd9 => ?_)
        · refine lv_iload_n hx hb dX13_beside_37 rfl (lv_at hl 2 rfl) ?_
          refine g_iconst S 3 dX13_beside_38 (by decide +kernel) ?_
          refine g_ne S (a := 2) (b := 3) (by omega) (by omega) (tgt := 46) dX13_beside_39 (by decide) (fun hd10 => ?_) (fun hd10 => ?_)
          · refine g_iconst S 0 dX13_beside_46 (by decide +kernel) ?_
            refine g_iadd S dX13_beside_47 ?_
            refine lv_istore_n (lv' := [(3, .int (nI (c % 6 + 0))), (2, .int (nI (c / 6 + 1))), (0, .int (nI (c))), (1, .int (nI (2)))]) hx hb dX13_beside_48 rfl hl (by decide) rfl (fun ls hl => ?_)
            refine lv_iload_n hx hb dX13_beside_49 rfl (lv_at hl 1 rfl) ?_
            refine lv_iload_n hx hb dX13_beside_50 rfl (lv_at hl 0 rfl) ?_
            obtain ⟨hs1, hs2⟩ := bs_2 c hc
            refine g_roi (g_runS S hI hP hS (k := 2) (As := [.int (nI (c / 6 + 1)), .int (nI (c % 6 + 0))]) (rest := []) (mX13_isCell l (nI (c / 6 + 1)) (nI (c % 6 + 0))) q1872 q1873 q100 q1874 rfl rfl (by decide +kernel) ⟨Nat.le_of_ble_eq_true rfl, Nat.le_of_ble_eq_true rfl⟩ rfl hl.1 rfl (Nat.le_of_ble_eq_true rfl) ⟨(Nat.le_of_ble_eq_true rfl), (Nat.le_of_ble_eq_true rfl)⟩ dX13_beside_51) hS (fun H locs hP hS => ?_)
            rw [hs1]
            refine g_beq S (b := (nb c 2).isSome) (tgt := 66) dX13_beside_54 (by decide) (fun hs => ?_) (fun hs => ?_)
            · refine lv_iconst (v := -1) hx hb dX13_beside_66 (by decide +kernel) ?_
              exact g_iret S hr hlocks hP hS (⟨oI_none' hs, rfl⟩) (fun _ _ => rfl) (Nat.le_of_ble_eq_true rfl) (Nat.le_of_ble_eq_true rfl) dX13_beside_67
            · refine g_bipush S 6 dX13_beside_57 (by decide +kernel) ?_
              refine lv_iload_n hx hb dX13_beside_59 rfl (lv_at hl 1 rfl) ?_
              refine g_imul S dX13_beside_60 ?_
              refine lv_iload_n hx hb dX13_beside_61 rfl (lv_at hl 0 rfl) ?_
              refine g_iadd S dX13_beside_62 ?_
              refine lv_goto (tgt := 67) hx hb dX13_beside_63 (by decide) ?_
              exact g_iret S hr hlocks hP hS (⟨hs2 hs, rfl⟩) (fun _ _ => rfl) (Nat.le_of_ble_eq_true rfl) (Nat.le_of_ble_eq_true rfl) dX13_beside_67
          · omega
        · omega
    · omega
  · refine lv_iload_n hx hb dX13_beside_0 rfl (lv_at hl 0 rfl) ?_
    refine g_bipush S 6 dX13_beside_1 (by decide +kernel) ?_
    refine g_idiv S (by omega) (by omega) (by omega) dX13_beside_3 ?_
    refine lv_iload_n hx hb dX13_beside_4 rfl (lv_at hl 1 rfl) ?_
    refine g_ifne S (a := 3) (by omega) (tgt := 12) dX13_beside_5 (by decide) (fun hd11 => ?_) (fun hd11 => ?_)
    · refine lv_iload_n hx hb dX13_beside_12 rfl (lv_at hl 1 rfl) ?_
      refine g_iconst S 2 dX13_beside_13 (by decide +kernel) ?_
      refine g_ne S (a := 3) (b := 2) (by omega) (by omega) (tgt := 21) dX13_beside_14 (by decide) (fun hd12 => ?_) (fun hd12 => ?_)
      · refine g_iconst S 0 dX13_beside_21 (by decide +kernel) ?_
        refine g_iadd S dX13_beside_22 ?_
        refine lv_istore_n (lv' := [(2, .int (nI (c / 6 + 0))), (0, .int (nI (c))), (1, .int (nI (3)))]) hx hb dX13_beside_23 rfl hl (by decide) rfl (fun ls hl => ?_)
        refine lv_iload_n hx hb dX13_beside_24 rfl (lv_at hl 1 rfl) ?_
        refine g_bipush S 6 dX13_beside_25 (by decide +kernel) ?_
        refine g_irem S (by omega) (by omega) (by omega) dX13_beside_27 ?_
        refine lv_iload_n hx hb dX13_beside_28 rfl (lv_at hl 2 rfl) ?_
        refine g_iconst S 1 dX13_beside_29 (by decide +kernel) ?_
        refine g_ne S (a := 3) (b := 1) (by omega) (by omega) (tgt := 37) dX13_beside_30 (by decide) (fun hd13 => ?_) (fun hd13 => ?_)
        · refine lv_iload_n hx hb dX13_beside_37 rfl (lv_at hl 2 rfl) ?_
          refine g_iconst S 3 dX13_beside_38 (by decide +kernel) ?_
          refine g_ne S (a := 3) (b := 3) (by omega) (by omega) (tgt := 46) dX13_beside_39 (by decide) (fun hd14 => ?_) (fun hd14 => ?_)
          · omega
          · refine lv_iconst (v := -1) hx hb dX13_beside_42 (by decide +kernel) ?_
            refine lv_goto (tgt := 47) hx hb dX13_beside_43 (by decide) ?_
            refine lv_iadd hx hb dX13_beside_47 ?_
            refine lv_istore_n (lv' := [(3, .int (nI (c % 6) + (-1))), (2, .int (nI (c / 6 + 0))), (0, .int (nI (c))), (1, .int (nI (3)))]) hx hb dX13_beside_48 rfl hl (by decide) rfl (fun ls hl => ?_)
            refine lv_iload_n hx hb dX13_beside_49 rfl (lv_at hl 1 rfl) ?_
            refine lv_iload_n hx hb dX13_beside_50 rfl (lv_at hl 0 rfl) ?_
            obtain ⟨hs1, hs2⟩ := bs_3 c hc
            refine g_roi (g_runS S hI hP hS (k := 2) (As := [.int (nI (c / 6 + 0)), .int (nI (c % 6) + (-1))]) (rest := []) (mX13_isCell l (nI (c / 6 + 0)) (nI (c % 6) + (-1))) q1872 q1873 q100 q1874 rfl rfl (by decide +kernel) ⟨Nat.le_of_ble_eq_true rfl, Nat.le_of_ble_eq_true rfl⟩ rfl hl.1 rfl (Nat.le_of_ble_eq_true rfl) ⟨(Nat.le_of_ble_eq_true rfl), (Nat.le_of_ble_eq_true rfl)⟩ dX13_beside_51) hS (fun H locs hP hS => ?_)
            rw [hs1]
            refine g_beq S (b := (nb c 3).isSome) (tgt := 66) dX13_beside_54 (by decide) (fun hs => ?_) (fun hs => ?_)
            · refine lv_iconst (v := -1) hx hb dX13_beside_66 (by decide +kernel) ?_
              exact g_iret S hr hlocks hP hS (⟨oI_none' hs, rfl⟩) (fun _ _ => rfl) (Nat.le_of_ble_eq_true rfl) (Nat.le_of_ble_eq_true rfl) dX13_beside_67
            · refine g_bipush S 6 dX13_beside_57 (by decide +kernel) ?_
              refine lv_iload_n hx hb dX13_beside_59 rfl (lv_at hl 1 rfl) ?_
              refine g_imul S dX13_beside_60 ?_
              refine lv_iload_n hx hb dX13_beside_61 rfl (lv_at hl 0 rfl) ?_
              refine lv_iadd hx hb dX13_beside_62 ?_
              refine lv_goto (tgt := 67) hx hb dX13_beside_63 (by decide) ?_
              exact g_iret S hr hlocks hP hS (⟨hs2 hs, rfl⟩) (fun _ _ => rfl) (Nat.le_of_ble_eq_true rfl) (Nat.le_of_ble_eq_true rfl) dX13_beside_67
        · omega
      · omega
    · omega
set_option maxHeartbeats 4000000 in
set_option maxRecDepth 100000 in
/-- a height -/
theorem mX13_high (l : Launch) {E : gE} {ad : Nat → Nat} {N : Nat} {w : Nat → va_E} (b : Nat) (g kp sv bf sd ip sg mk td lv tl : Nat → Nat) (qs qc qw qd co wy : Nat) (de : Int32) (ca ln : Nat) (fa : Option Nat) (sm pa tm : Nat) (c v : Nat) (hb_m : bkP N w b 12 (MDC E ad b g kp sv bf sd ip sg mk td lv tl qs qc qw qd co wy de ca ln fa sm pa tm)) (hc : c < 36) (hv : g (4 + c) = v) : gMi l yX13_high (lw_ws yX13_high cX13_high 2 (some .int)) ({ frames := 0, cells := 0, slots := 0, locals := 0 } : Room) E ad N w [.ref (ad (b)), .int (nI (c))] (fun r w' => r = nI v ∧ w' = w) 0 0 := by
  refine Met.ofW (cc := cX13_high) (maxL := 2) (ret := (some .int)) (by decide) rfl ?_
  intro p e s m args below meth cd s₁ B hml hv
  obtain ⟨rfl, hI, hP⟩ := hv
  obtain ⟨S, hr, hlocks⟩ := gPre (ws := []) B hml (C := RX13) rfl
  have hx := S.1
  have hb := S.2.1
  have hS : va_S (gA E) s.heap s.heap [] := va_S.rf
  have hl := lv_entry ([.ref (ad (b)), .int (nI (c))]) (n := 2) (Nat.le_of_ble_eq_true rfl)
  rw [lg_entry_eq]
  generalize (lg_sl ([.ref (ad (b)), .int (nI (c))]) ++ List.replicate (2 - (lg_sl ([.ref (ad (b)), .int (nI (c))])).length) Slot.unset).toArray = ls at hl ⊢
  have hl : lv_has ls 2 [(0, .ref (ad (b))), (1, .int (nI (c)))] := hl
  refine lv_aload_n hx hb dX13_high_0 rfl (lv_at hl 0 rfl) ?_
  refine g_get S hI hP uX13 rfl (fs := _) (hb_m.lt 0 (by decide)) (hb_m.2 0 (by decide)) 0 (by decide) q1787 rfl (v := .ref (ad (b + 1))) rfl dX13_high_1 ?_
  refine g_iconst S 4 dX13_high_4 (by decide +kernel) ?_
  refine lv_iload_n hx hb dX13_high_5 rfl (lv_at hl 1 rfl) ?_
  refine g_iadd S dX13_high_6 ?_
  refine g_iald S hI hP (f := fun j => nI (g j)) (hb_m.lt 1 (by decide)) (hb_m.2 1 (by decide)) (4 + c) (by omega) (by decide) dX13_high_7 ?_
  rw [hv]
  exact g_iret S hr hlocks hP hS (⟨rfl, rfl⟩) (fun _ _ => rfl) (Nat.le_of_ble_eq_true rfl) (Nat.le_of_ble_eq_true rfl) dX13_high_8
set_option maxHeartbeats 4000000 in
set_option maxRecDepth 100000 in
/-- a hole -/
theorem mX13_isHole (l : Launch) {E : gE} {ad : Nat → Nat} {N : Nat} {w : Nat → va_E} (b : Nat) (g kp sv bf sd ip sg mk td lv tl : Nat → Nat) (qs qc qw qd co wy : Nat) (de : Int32) (ca ln : Nat) (fa : Option Nat) (sm pa tm : Nat) (c v : Nat) (hb_m : bkP N w b 12 (MDC E ad b g kp sv bf sd ip sg mk td lv tl qs qc qw qd co wy de ca ln fa sm pa tm)) (hc : c < 36) (hv : g (40 + c) = v) (hv3 : v ≤ 3) : gMi l yX13_isHole (lw_ws yX13_isHole cX13_isHole 2 (some .boolean)) ({ frames := 0, cells := 0, slots := 0, locals := 0 } : Room) E ad N w [.ref (ad (b)), .int (nI (c))] (fun r w' => r = bI (decide (3 ≤ v)) ∧ w' = w) 0 0 := by
  refine Met.ofW (cc := cX13_isHole) (maxL := 2) (ret := (some .boolean)) (by decide) rfl ?_
  intro p e s m args below meth cd s₁ B hml hv
  obtain ⟨rfl, hI, hP⟩ := hv
  obtain ⟨S, hr, hlocks⟩ := gPre (ws := []) B hml (C := RX13) rfl
  have hx := S.1
  have hb := S.2.1
  have hS : va_S (gA E) s.heap s.heap [] := va_S.rf
  have hl := lv_entry ([.ref (ad (b)), .int (nI (c))]) (n := 2) (Nat.le_of_ble_eq_true rfl)
  rw [lg_entry_eq]
  generalize (lg_sl ([.ref (ad (b)), .int (nI (c))]) ++ List.replicate (2 - (lg_sl ([.ref (ad (b)), .int (nI (c))])).length) Slot.unset).toArray = ls at hl ⊢
  have hl : lv_has ls 2 [(0, .ref (ad (b))), (1, .int (nI (c)))] := hl
  refine lv_aload_n hx hb dX13_isHole_0 rfl (lv_at hl 0 rfl) ?_
  refine g_get S hI hP uX13 rfl (fs := _) (hb_m.lt 0 (by decide)) (hb_m.2 0 (by decide)) 0 (by decide) q1787 rfl (v := .ref (ad (b + 1))) rfl dX13_isHole_1 ?_
  refine g_bipush S 40 dX13_isHole_4 (by decide +kernel) ?_
  refine lv_iload_n hx hb dX13_isHole_6 rfl (lv_at hl 1 rfl) ?_
  refine g_iadd S dX13_isHole_7 ?_
  refine g_iald S hI hP (f := fun j => nI (g j)) (hb_m.lt 1 (by decide)) (hb_m.2 1 (by decide)) (40 + c) (by omega) (by decide) dX13_isHole_8 ?_
  rw [hv]
  refine g_iconst S 3 dX13_isHole_9 (by decide +kernel) ?_
  refine g_ne S (a := v) (b := 3) (by omega) (by omega) (tgt := 17) dX13_isHole_10 (by decide) (fun h => ?_) (fun h => ?_)
  · refine g_iconst S 0 dX13_isHole_17 (by decide +kernel) ?_
    exact g_zret S hr hlocks (Or.inl nI_0) hP hS (⟨by rw [decide_eq_false (by omega)]; rfl, rfl⟩) (fun _ _ => rfl) (Nat.le_of_ble_eq_true rfl) (Nat.le_of_ble_eq_true rfl) dX13_isHole_18
  · refine g_iconst S 1 dX13_isHole_13 (by decide +kernel) ?_
    refine lv_goto (tgt := 18) hx hb dX13_isHole_14 (by decide) ?_
    exact g_zret S hr hlocks (Or.inr (by decide +kernel)) hP hS (⟨by rw [decide_eq_true (by omega)]; rfl, rfl⟩) (fun _ _ => rfl) (Nat.le_of_ble_eq_true rfl) (Nat.le_of_ble_eq_true rfl) dX13_isHole_18
set_option maxHeartbeats 4000000 in
set_option maxRecDepth 100000 in
/-- the pegs -/
theorem mX13_pegs (l : Launch) {E : gE} {ad : Nat → Nat} {N : Nat} {w : Nat → va_E} (b : Nat) (g kp sv bf sd ip sg mk td lv tl : Nat → Nat) (qs qc qw qd co wy : Nat) (de : Int32) (ca ln : Nat) (fa : Option Nat) (sm pa tm : Nat) (ht dr pg wt wr mo : Nat → Nat) (mc ni po dn : Nat) (hb_m : bkP N w b 12 (MDC E ad b g kp sv bf sd ip sg mk td lv tl qs qc qw qd co wy de ca ln fa sm pa tm)) (hR : mRg g ht pg wt wr mo mc ni po dn) (hpg : ∀ k, k < 36 → pg k ≤ 1) : gMi l yX13_pegs (lw_ws yX13_pegs cX13_pegs 3 (some .int)) ({ frames := 0, cells := 0, slots := 0, locals := 0 } : Room) E ad N w [.ref (ad (b))] (fun r w' => r = nI (cnt (fun k => pg k == 1) 36) ∧ w' = w) 0 0 := by
  refine Met.ofW (cc := cX13_pegs) (maxL := 3) (ret := (some .int)) (by decide) rfl ?_
  intro p e s m args below meth cd s₁ B hml hv
  obtain ⟨rfl, hI, hP⟩ := hv
  obtain ⟨S, hr, hlocks⟩ := gPre (ws := []) B hml (C := RX13) rfl
  have hx := S.1
  have hb := S.2.1
  have hS : va_S (gA E) s.heap s.heap [] := va_S.rf
  have hl := lv_entry ([.ref (ad (b))]) (n := 3) (Nat.le_of_ble_eq_true rfl)
  rw [lg_entry_eq]
  generalize (lg_sl ([.ref (ad (b))]) ++ List.replicate (3 - (lg_sl ([.ref (ad (b))])).length) Slot.unset).toArray = ls at hl ⊢
  have hl : lv_has ls 3 [(0, .ref (ad (b)))] := hl
  obtain ⟨hgh, hgw, hgp, hgt, hgm, hg3, hg0, hg1, hg2⟩ := id hR
  refine g_iconst S 0 dX13_pegs_0 (by decide +kernel) ?_
  refine lv_istore_n (lv' := [(1, .int (nI (0))), (0, .ref (ad (b)))]) hx hb dX13_pegs_1 rfl hl (by decide) rfl (fun ls hl => ?_)
  refine g_iconst S 0 dX13_pegs_2 (by decide +kernel) ?_
  refine lv_istore_n (lv' := [(2, .int (nI (0))), (1, .int (nI (0))), (0, .ref (ad (b)))]) hx hb dX13_pegs_3 rfl hl (by decide) rfl (fun ls hl => ?_)
  have loop1 : ∀ (n : Nat) (i : Nat), 36 - i < n → (i ≤ 36) → ∀ (ls : Array Slot), lv_has ls 3 [(2, .int (nI (i))), (1, .int (nI (cnt (fun k => pg k == 1) i))), (0, .ref (ad (b)))] → W p l e (headSpec (lw_ws yX13_pegs cX13_pegs 3 (some .int)) ({ frames := 0, cells := 0, slots := 0, locals := 0 } : Room)).room s m ([.ref (ad (b))] : List Value).toArray below meth cd s.heap [] 0 0 (MQ below (va_Qi (fun r w' => r = nI (cnt (fun k => pg k == 1) 36) ∧ w' = w) (gB E ad N) (gA E)) ([.ref (ad (b))] : List Value).toArray s 0 0 (gA E)) (F0 m 4 ls []) := by
    intro n
    induction n with
    | zero => intro i hmeas; omega
    | succ n ih_loop1 =>
      intro i hmeas hi ls hl
      have hcl := cnt_le (fun k => pg k == 1) i
      refine lv_iload_n hx hb dX13_pegs_4 rfl (lv_at hl 0 rfl) ?_
      refine g_bipush S 36 dX13_pegs_5 (by decide +kernel) ?_
      refine g_ge S (a := i) (b := 36) (by omega) (by omega) (tgt := 28) dX13_pegs_7 (by decide) (fun h => ?_) (fun h => ?_)
      · have e36 : i = 36 := by omega
        subst e36
        refine lv_iload_n hx hb dX13_pegs_28 rfl (lv_at hl 1 rfl) ?_
        exact g_iret S hr hlocks hP hS (⟨rfl, rfl⟩) (fun _ _ => rfl) (Nat.le_of_ble_eq_true rfl) (Nat.le_of_ble_eq_true rfl) dX13_pegs_29
      · refine lv_iload_n hx hb dX13_pegs_10 rfl (lv_at hl 1 rfl) ?_
        refine lv_aload_n hx hb dX13_pegs_11 rfl (lv_at hl 2 rfl) ?_
        refine g_get S hI hP uX13 rfl (fs := _) (hb_m.lt 0 (by decide)) (hb_m.2 0 (by decide)) 0 (by decide) q1787 rfl (v := .ref (ad (b + 1))) rfl dX13_pegs_12 ?_
        refine g_bipush S 76 dX13_pegs_15 (by decide +kernel) ?_
        refine lv_iload_n hx hb dX13_pegs_17 rfl (lv_at hl 0 rfl) ?_
        refine g_iadd S dX13_pegs_18 ?_
        refine g_iald S hI hP (f := fun j => nI (g j)) (hb_m.lt 1 (by decide)) (hb_m.2 1 (by decide)) (76 + i) (by omega) (by decide) dX13_pegs_19 ?_
        rw [hgp i h]
        refine g_iadd S dX13_pegs_20 ?_
        refine lv_istore_n (lv' := [(1, .int (nI (cnt (fun k => pg k == 1) i + (pg i)))), (2, .int (nI (i))), (0, .ref (ad (b)))]) hx hb dX13_pegs_21 rfl hl (by decide) rfl (fun ls hl => ?_)
        refine lv_iinc (v := nI (i + 1)) (lv' := [(2, .int (nI (i + 1))), (1, .int (nI (cnt (fun k => pg k == 1) i + (pg i)))), (0, .ref (ad (b)))]) hx hb dX13_pegs_22 hl (k := 1) rfl (g_inc _ 1 (by decide +kernel)) (by decide) rfl (fun ls hl => ?_)
        refine lv_goto (tgt := 4) hx hb dX13_pegs_25 (by decide) ?_
        have hl : lv_has ls 3 [(2, .int (nI (i + 1))), (1, .int (nI (cnt (fun k => pg k == 1) (i + 1)))), (0, .ref (ad (b)))] := by rw [show cnt (fun k => pg k == 1) (i + 1) = cnt (fun k => pg k == 1) i + pg i from cnt_pg (hpg i h)]; exact hl
        exact ih_loop1 (i + 1) (by omega) (by omega) ls (lv_sub hl [0, 1, 2] rfl)
  exact loop1 (36 - (0) + 1) (0) (Nat.lt_succ_self _) (by omega) ls (lv_sub hl [0, 1, 2] rfl)
set_option maxHeartbeats 4000000 in
set_option maxRecDepth 100000 in
/-- the holes -/
theorem mX13_holesNow (l : Launch) {E : gE} {ad : Nat → Nat} {N : Nat} {w : Nat → va_E} (b : Nat) (g kp sv bf sd ip sg mk td lv tl : Nat → Nat) (qs qc qw qd co wy : Nat) (de : Int32) (ca ln : Nat) (fa : Option Nat) (sm pa tm : Nat) (ht dr pg wt wr mo : Nat → Nat) (mc ni po dn : Nat) (hb_m : bkP N w b 12 (MDC E ad b g kp sv bf sd ip sg mk td lv tl qs qc qw qd co wy de ca ln fa sm pa tm)) (hR : mRg g ht pg wt wr mo mc ni po dn) (hwr : ∀ k, k < 36 → wr k ≤ 3) : gMi l yX13_holesNow (lw_ws yX13_holesNow cX13_holesNow 3 (some .int)) ({ frames := 1, cells := 0, slots := 0, locals := 21 } : Room) E ad N w [.ref (ad (b))] (fun r w' => r = nI (cnt (fun k => decide (3 ≤ wr k)) 36) ∧ w' = w) 0 0 := by
  refine Met.ofW (cc := cX13_holesNow) (maxL := 3) (ret := (some .int)) (by decide) rfl ?_
  intro p e s m args below meth cd s₁ B hml hv
  obtain ⟨rfl, hI, hP⟩ := hv
  obtain ⟨S, hr, hlocks⟩ := gPre (ws := []) B hml (C := RX13) rfl
  have hx := S.1
  have hb := S.2.1
  have hS : va_S (gA E) s.heap s.heap [] := va_S.rf
  have hl := lv_entry ([.ref (ad (b))]) (n := 3) (Nat.le_of_ble_eq_true rfl)
  rw [lg_entry_eq]
  generalize (lg_sl ([.ref (ad (b))]) ++ List.replicate (3 - (lg_sl ([.ref (ad (b))])).length) Slot.unset).toArray = ls at hl ⊢
  have hl : lv_has ls 3 [(0, .ref (ad (b)))] := hl
  obtain ⟨hgh, hgw, hgp, hgt, hgm, hg3, hg0, hg1, hg2⟩ := id hR
  refine g_iconst S 0 dX13_holesNow_0 (by decide +kernel) ?_
  refine lv_istore_n (lv' := [(1, .int (nI (0))), (0, .ref (ad (b)))]) hx hb dX13_holesNow_1 rfl hl (by decide) rfl (fun ls hl => ?_)
  refine g_iconst S 0 dX13_holesNow_2 (by decide +kernel) ?_
  refine lv_istore_n (lv' := [(2, .int (nI (0))), (1, .int (nI (0))), (0, .ref (ad (b)))]) hx hb dX13_holesNow_3 rfl hl (by decide) rfl (fun ls hl => ?_)
  have loop1 : ∀ (n : Nat) (i : Nat), 36 - i < n → (i ≤ 36) → ∀ (H : Heap) (locs : List Loc), gP E ad N w H → va_S (gA E) s.heap H locs → ∀ (ls : Array Slot), lv_has ls 3 [(2, .int (nI (i))), (1, .int (nI (cnt (fun k => decide (3 ≤ wr k)) i))), (0, .ref (ad (b)))] → W p l e (headSpec (lw_ws yX13_holesNow cX13_holesNow 3 (some .int)) ({ frames := 1, cells := 0, slots := 0, locals := 21 } : Room)).room s m ([.ref (ad (b))] : List Value).toArray below meth cd H locs 0 0 (MQ below (va_Qi (fun r w' => r = nI (cnt (fun k => decide (3 ≤ wr k)) 36) ∧ w' = w) (gB E ad N) (gA E)) ([.ref (ad (b))] : List Value).toArray s 0 0 (gA E)) (F0 m 4 ls []) := by
    intro n
    induction n with
    | zero => intro i hmeas; omega
    | succ n ih_loop1 =>
      intro i hmeas hi H locs hP hS ls hl
      have hcl := cnt_le (fun k => decide (3 ≤ wr k)) i
      refine lv_iload_n hx hb dX13_holesNow_4 rfl (lv_at hl 0 rfl) ?_
      refine g_bipush S 36 dX13_holesNow_5 (by decide +kernel) ?_
      refine g_ge S (a := i) (b := 36) (by omega) (by omega) (tgt := 32) dX13_holesNow_7 (by decide) (fun h => ?_) (fun h => ?_)
      · have e36 : i = 36 := by omega
        subst e36
        refine lv_iload_n hx hb dX13_holesNow_32 rfl (lv_at hl 1 rfl) ?_
        exact g_iret S hr hlocks hP hS (⟨rfl, rfl⟩) (fun _ _ => rfl) (Nat.le_of_ble_eq_true rfl) (Nat.le_of_ble_eq_true rfl) dX13_holesNow_33
      · refine lv_iload_n hx hb dX13_holesNow_10 rfl (lv_at hl 1 rfl) ?_
        refine lv_aload_n hx hb dX13_holesNow_11 rfl (lv_at hl 2 rfl) ?_
        refine lv_iload_n hx hb dX13_holesNow_12 rfl (lv_at hl 0 rfl) ?_
        refine g_roi (g_runV S hI hP hS (k := 1) (As := [.int (nI (i))]) (rest := [.int (nI (cnt (fun k => decide (3 ≤ wr k)) i))]) (mX13_isHole l b g kp sv bf sd ip sg mk td lv tl qs qc qw qd co wy de ca ln fa sm pa tm i (wr i) hb_m h (hgw i h) (hwr i h)) q1968 q1970 q60 q100 q1971 rfl rfl (by decide +kernel) ⟨Nat.le_of_ble_eq_true rfl, Nat.le_of_ble_eq_true rfl⟩ rfl (hb_m.lt 0 (by decide)) (hb_m.2 0 (by decide)) rfl hl.1 rfl (Nat.le_of_ble_eq_true rfl) ⟨(Nat.le_of_ble_eq_true rfl), (Nat.le_of_ble_eq_true rfl)⟩ dX13_holesNow_13) hS (fun H locs hP hS => ?_)
        refine g_beq S (b := decide (3 ≤ wr i)) (tgt := 23) dX13_holesNow_16 (by decide) (fun h2 => ?_) (fun h2 => ?_)
        · refine g_iconst S 0 dX13_holesNow_23 (by decide +kernel) ?_
          refine g_iadd S dX13_holesNow_24 ?_
          refine lv_istore_n (lv' := [(1, .int (nI (cnt (fun k => decide (3 ≤ wr k)) i + 0))), (2, .int (nI (i))), (0, .ref (ad (b)))]) hx hb dX13_holesNow_25 rfl hl (by decide) rfl (fun ls hl => ?_)
          refine lv_iinc (v := nI (i + 1)) (lv' := [(2, .int (nI (i + 1))), (1, .int (nI (cnt (fun k => decide (3 ≤ wr k)) i + 0))), (0, .ref (ad (b)))]) hx hb dX13_holesNow_26 hl (k := 1) rfl (g_inc _ 1 (by decide +kernel)) (by decide) rfl (fun ls hl => ?_)
          refine lv_goto (tgt := 4) hx hb dX13_holesNow_29 (by decide) ?_
          have hl : lv_has ls 3 [(2, .int (nI (i + 1))), (1, .int (nI (cnt (fun k => decide (3 ≤ wr k)) (i + 1)))), (0, .ref (ad (b)))] := by rw [show cnt (fun k => decide (3 ≤ wr k)) (i + 1) = cnt (fun k => decide (3 ≤ wr k)) i + 0 from cnt_n h2]; exact hl
          exact ih_loop1 (i + 1) (by omega) (by omega) _ _ hP hS ls (lv_sub hl [0, 1, 2] rfl)
        · refine g_iconst S 1 dX13_holesNow_19 (by decide +kernel) ?_
          refine lv_goto (tgt := 24) hx hb dX13_holesNow_20 (by decide) ?_
          refine g_iadd S dX13_holesNow_24 ?_
          refine lv_istore_n (lv' := [(1, .int (nI (cnt (fun k => decide (3 ≤ wr k)) i + 1))), (2, .int (nI (i))), (0, .ref (ad (b)))]) hx hb dX13_holesNow_25 rfl hl (by decide) rfl (fun ls hl => ?_)
          refine lv_iinc (v := nI (i + 1)) (lv' := [(2, .int (nI (i + 1))), (1, .int (nI (cnt (fun k => decide (3 ≤ wr k)) i + 1))), (0, .ref (ad (b)))]) hx hb dX13_holesNow_26 hl (k := 1) rfl (g_inc _ 1 (by decide +kernel)) (by decide) rfl (fun ls hl => ?_)
          refine lv_goto (tgt := 4) hx hb dX13_holesNow_29 (by decide) ?_
          have hl : lv_has ls 3 [(2, .int (nI (i + 1))), (1, .int (nI (cnt (fun k => decide (3 ≤ wr k)) (i + 1)))), (0, .ref (ad (b)))] := by rw [show cnt (fun k => decide (3 ≤ wr k)) (i + 1) = cnt (fun k => decide (3 ≤ wr k)) i + 1 from cnt_y h2]; exact hl
          exact ih_loop1 (i + 1) (by omega) (by omega) _ _ hP hS ls (lv_sub hl [0, 1, 2] rfl)
  exact loop1 (36 - (0) + 1) (0) (Nat.lt_succ_self _) (by omega) _ _ hP hS ls (lv_sub hl [0, 1, 2] rfl)
set_option maxHeartbeats 4000000 in
set_option maxRecDepth 100000 in
/-- where water flows next -/
theorem mX13_next (l : Launch) {E : gE} {ad : Nat → Nat} {N : Nat} {w : Nat → va_E} (b : Nat) (g kp sv bf sd ip sg mk td lv tl : Nat → Nat) (qs qc qw qd co wy : Nat) (de : Int32) (ca ln : Nat) (fa : Option Nat) (sm pa tm : Nat) (ht dr pg wt wr mo : Nat → Nat) (mc ni po dn : Nat) (c : Nat) (hb_m : bkP N w b 12 (MDC E ad b g kp sv bf sd ip sg mk td lv tl qs qc qw qd co wy de ca ln fa sm pa tm)) (hc : c < 36) (hR : mRg g ht pg wt wr mo mc ni po dn) (hht : ∀ k, k < 36 → ht k ≤ 99) (hwr : ∀ k, k < 36 → wr k ≤ 3) : gMi l yX13_next (lw_ws yX13_next cX13_next 5 (some .int)) ({ frames := 3, cells := 0, slots := 0, locals := 66 } : Room) E ad N w [.ref (ad (b)), .int (nI (c))] (fun r w' => r = nI (nxtN ht wr c) ∧ w' = w) 0 0 := by
  refine Met.ofW (cc := cX13_next) (maxL := 5) (ret := (some .int)) (by decide) rfl ?_
  intro p e s m args below meth cd s₁ B hml hv
  obtain ⟨rfl, hI, hP⟩ := hv
  obtain ⟨S, hr, hlocks⟩ := gPre (ws := []) B hml (C := RX13) rfl
  have hx := S.1
  have hb := S.2.1
  have hS : va_S (gA E) s.heap s.heap [] := va_S.rf
  have hl := lv_entry ([.ref (ad (b)), .int (nI (c))]) (n := 5) (Nat.le_of_ble_eq_true rfl)
  rw [lg_entry_eq]
  generalize (lg_sl ([.ref (ad (b)), .int (nI (c))]) ++ List.replicate (5 - (lg_sl ([.ref (ad (b)), .int (nI (c))])).length) Slot.unset).toArray = ls at hl ⊢
  have hl : lv_has ls 5 [(0, .ref (ad (b))), (1, .int (nI (c)))] := hl
  obtain ⟨hgh, hgw, hgp, hgt, hgm, hg3, hg0, hg1, hg2⟩ := id hR
  by_cases hh : 3 ≤ wr c
  · refine lv_iload_n hx hb dX13_next_0 rfl (lv_at hl 1 rfl) ?_
    refine lv_istore_n (lv' := [(2, .int (nI (c))), (0, .ref (ad (b))), (1, .int (nI (c)))]) hx hb dX13_next_1 rfl hl (by decide) rfl (fun ls hl => ?_)
    refine g_iconst S 0 dX13_next_2 (by decide +kernel) ?_
    refine lv_istore_n (lv' := [(3, .int (nI (0))), (2, .int (nI (c))), (0, .ref (ad (b))), (1, .int (nI (c)))]) hx hb dX13_next_3 rfl hl (by decide) rfl (fun ls hl => ?_)
    refine lv_iload_n hx hb dX13_next_4 rfl (lv_at hl 0 rfl) ?_
    refine g_iconst S 4 dX13_next_5 (by decide +kernel) ?_
    refine g_ge S (a := 0) (b := 4) (by omega) (by omega) (tgt := 52) dX13_next_6 (by decide) (fun h0 => ?_) (fun h0 => ?_)
    · omega
    · refine lv_aload_n hx hb dX13_next_9 rfl (lv_at hl 2 rfl) ?_
      refine lv_iload_n hx hb dX13_next_10 rfl (lv_at hl 3 rfl) ?_
      refine g_roi (g_runV S hI hP hS (k := 1) (As := [.int (nI (c))]) (rest := []) (mX13_isHole l b g kp sv bf sd ip sg mk td lv tl qs qc qw qd co wy de ca ln fa sm pa tm c (wr c) hb_m hc (hgw c hc) (hwr c hc)) q1968 q1970 q60 q100 q1971 rfl rfl (by decide +kernel) ⟨Nat.le_of_ble_eq_true rfl, Nat.le_of_ble_eq_true rfl⟩ rfl (hb_m.lt 0 (by decide)) (hb_m.2 0 (by decide)) rfl hl.1 rfl (Nat.le_of_ble_eq_true rfl) ⟨(Nat.le_of_ble_eq_true rfl), (Nat.le_of_ble_eq_true rfl)⟩ dX13_next_11) hS (fun H locs hP hS => ?_)
      refine g_bne S (b := decide (3 ≤ wr c)) (tgt := 52) dX13_next_14 (by decide) (fun h2 => ?_) (fun h2 => ?_)
      · refine lv_iload_n hx hb dX13_next_52 rfl (lv_at hl 1 rfl) ?_
        exact g_iret S hr hlocks hP hS (⟨by unfold nxtN flow; rw [if_pos hh]; rfl, rfl⟩) (fun _ _ => rfl) (Nat.le_of_ble_eq_true rfl) (Nat.le_of_ble_eq_true rfl) dX13_next_53
      · exact absurd hh (of_decide_eq_false h2)
  · refine lv_iload_n hx hb dX13_next_0 rfl (lv_at hl 1 rfl) ?_
    refine lv_istore_n (lv' := [(2, .int (nI (c))), (0, .ref (ad (b))), (1, .int (nI (c)))]) hx hb dX13_next_1 rfl hl (by decide) rfl (fun ls hl => ?_)
    refine g_iconst S 0 dX13_next_2 (by decide +kernel) ?_
    refine lv_istore_n (lv' := [(3, .int (nI (0))), (2, .int (nI (c))), (0, .ref (ad (b))), (1, .int (nI (c)))]) hx hb dX13_next_3 rfl hl (by decide) rfl (fun ls hl => ?_)
    have loop1 : ∀ (n : Nat) (d : Nat), 4 - d < n → (d ≤ 4) → ∀ (H : Heap) (locs : List Loc), gP E ad N w H → va_S (gA E) s.heap H locs → ∀ (ls : Array Slot), lv_has ls 5 [(3, .int (nI (d))), (2, .int (nI (lowN ht c d))), (1, .int (nI (c))), (0, .ref (ad (b)))] → W p l e (headSpec (lw_ws yX13_next cX13_next 5 (some .int)) ({ frames := 3, cells := 0, slots := 0, locals := 66 } : Room)).room s m ([.ref (ad (b)), .int (nI (c))] : List Value).toArray below meth cd H locs 0 0 (MQ below (va_Qi (fun r w' => r = nI (nxtN ht wr c) ∧ w' = w) (gB E ad N) (gA E)) ([.ref (ad (b)), .int (nI (c))] : List Value).toArray s 0 0 (gA E)) (F0 m 4 ls []) := by
      intro n
      induction n with
      | zero => intro d hmeas; omega
      | succ n ih_loop1 =>
        intro d hmeas hd H locs hP hS ls hl
        have hlo := lowN_lt (ht := ht) hc d
        refine lv_iload_n hx hb dX13_next_4 rfl (lv_at hl 0 rfl) ?_
        refine g_iconst S 4 dX13_next_5 (by decide +kernel) ?_
        refine g_ge S (a := d) (b := 4) (by omega) (by omega) (tgt := 52) dX13_next_6 (by decide) (fun h4 => ?_) (fun h4 => ?_)
        · have e_d : d = 4 := by omega
          subst e_d
          refine lv_iload_n hx hb dX13_next_52 rfl (lv_at hl 1 rfl) ?_
          exact g_iret S hr hlocks hP hS (⟨by unfold nxtN flow; rw [if_neg hh]; by_cases q : lowN ht c 4 = c; rw [if_pos q, q]; rfl; rw [if_neg q]; rfl, rfl⟩) (fun _ _ => rfl) (Nat.le_of_ble_eq_true rfl) (Nat.le_of_ble_eq_true rfl) dX13_next_53
        · refine lv_aload_n hx hb dX13_next_9 rfl (lv_at hl 3 rfl) ?_
          refine lv_iload_n hx hb dX13_next_10 rfl (lv_at hl 2 rfl) ?_
          refine g_roi (g_runV S hI hP hS (k := 1) (As := [.int (nI (c))]) (rest := []) (mX13_isHole l b g kp sv bf sd ip sg mk td lv tl qs qc qw qd co wy de ca ln fa sm pa tm c (wr c) hb_m hc (hgw c hc) (hwr c hc)) q1968 q1970 q60 q100 q1971 rfl rfl (by decide +kernel) ⟨Nat.le_of_ble_eq_true rfl, Nat.le_of_ble_eq_true rfl⟩ rfl (hb_m.lt 0 (by decide)) (hb_m.2 0 (by decide)) rfl hl.1 rfl (Nat.le_of_ble_eq_true rfl) ⟨(Nat.le_of_ble_eq_true rfl), (Nat.le_of_ble_eq_true rfl)⟩ dX13_next_11) hS (fun H locs hP hS => ?_)
          refine g_bne S (b := decide (3 ≤ wr c)) (tgt := 52) dX13_next_14 (by decide) (fun h2 => ?_) (fun h2 => ?_)
          · exact absurd (of_decide_eq_true h2) hh
          · refine lv_iload_n hx hb dX13_next_17 rfl (lv_at hl 2 rfl) ?_
            refine lv_iload_n hx hb dX13_next_18 rfl (lv_at hl 0 rfl) ?_
            refine g_roi (g_runS S hI hP hS (k := 2) (As := [.int (nI (c)), .int (nI (d))]) (rest := []) (mX13_beside l c d hc h4) q1917 q1918 q100 q1919 rfl rfl (by decide +kernel) ⟨Nat.le_of_ble_eq_true rfl, Nat.le_of_ble_eq_true rfl⟩ rfl hl.1 rfl (Nat.le_of_ble_eq_true rfl) ⟨(Nat.le_of_ble_eq_true rfl), (Nat.le_of_ble_eq_true rfl)⟩ dX13_next_19) hS (fun H locs hP hS => ?_)
            refine lv_istore (lv' := [(4, .int (oI (nb c d))), (3, .int (nI (d))), (2, .int (nI (lowN ht c d))), (1, .int (nI (c))), (0, .ref (ad (b)))]) hx hb dX13_next_22 hl (by decide) rfl (fun ls hl => ?_)
            refine lv_iload hx hb dX13_next_24 (lv_at hl 0 rfl) ?_
            refine g_oltZ S (o := nb c d) (fun k hk => Nat.lt_trans (nb_lt hc hk) (by decide)) (tgt := 46) dX13_next_26 (by decide) (fun hn => ?_) (fun hn_k hn => ?_)
            · refine lv_iinc (v := nI (d + 1)) (lv' := [(3, .int (nI (d + 1))), (4, .int (oI (nb c d))), (2, .int (nI (lowN ht c d))), (1, .int (nI (c))), (0, .ref (ad (b)))]) hx hb dX13_next_46 hl (k := 1) rfl (g_inc _ 1 (by decide +kernel)) (by decide) rfl (fun ls hl => ?_)
              refine lv_goto (tgt := 4) hx hb dX13_next_49 (by decide) ?_
              have hl : lv_has ls 5 [(3, .int (nI (d + 1))), (4, .int (oI (nb c d))), (2, .int (nI (lowN ht c (d + 1)))), (1, .int (nI (c))), (0, .ref (ad (b)))] := by rw [show lowN ht c (d + 1) = lowN ht c d by simp [lowN, hn]]; exact hl
              exact ih_loop1 (d + 1) (by omega) (by omega) _ _ hP hS ls (lv_sub hl [0, 2, 3, 4] rfl)
            · have hk36 := nb_lt hc hn
              have z1 := hht hn_k hk36
              have z2 := hht _ hlo
              have hl : lv_has ls 5 [(4, .int (nI (hn_k))), (3, .int (nI (d))), (2, .int (nI (lowN ht c d))), (1, .int (nI (c))), (0, .ref (ad (b)))] := by rw [hn] at hl; exact hl
              refine lv_aload_n hx hb dX13_next_29 rfl (lv_at hl 4 rfl) ?_
              refine lv_iload hx hb dX13_next_30 (lv_at hl 0 rfl) ?_
              refine g_roi (g_runV S hI hP hS (k := 1) (As := [.int (nI (hn_k))]) (rest := []) (mX13_high l b g kp sv bf sd ip sg mk td lv tl qs qc qw qd co wy de ca ln fa sm pa tm hn_k (ht hn_k) hb_m hk36 (hgh hn_k hk36)) q1882 q1884 q50 q100 q1885 rfl rfl (by decide +kernel) ⟨Nat.le_of_ble_eq_true rfl, Nat.le_of_ble_eq_true rfl⟩ rfl (hb_m.lt 0 (by decide)) (hb_m.2 0 (by decide)) rfl hl.1 rfl (Nat.le_of_ble_eq_true rfl) ⟨(Nat.le_of_ble_eq_true rfl), (Nat.le_of_ble_eq_true rfl)⟩ dX13_next_32) hS (fun H locs hP hS => ?_)
              refine lv_aload_n hx hb dX13_next_35 rfl (lv_at hl 4 rfl) ?_
              refine lv_iload_n hx hb dX13_next_36 rfl (lv_at hl 2 rfl) ?_
              refine g_roi (g_runV S hI hP hS (k := 1) (As := [.int (nI (lowN ht c d))]) (rest := [.int (nI (ht hn_k))]) (mX13_high l b g kp sv bf sd ip sg mk td lv tl qs qc qw qd co wy de ca ln fa sm pa tm (lowN ht c d) (ht (lowN ht c d)) hb_m hlo (hgh _ hlo)) q1882 q1884 q50 q100 q1885 rfl rfl (by decide +kernel) ⟨Nat.le_of_ble_eq_true rfl, Nat.le_of_ble_eq_true rfl⟩ rfl (hb_m.lt 0 (by decide)) (hb_m.2 0 (by decide)) rfl hl.1 rfl (Nat.le_of_ble_eq_true rfl) ⟨(Nat.le_of_ble_eq_true rfl), (Nat.le_of_ble_eq_true rfl)⟩ dX13_next_37) hS (fun H locs hP hS => ?_)
              refine g_ge S (a := ht hn_k) (b := ht (lowN ht c d)) (by omega) (by omega) (tgt := 46) dX13_next_40 (by decide) (fun hq => ?_) (fun hq => ?_)
              · refine lv_iinc (v := nI (d + 1)) (lv' := [(3, .int (nI (d + 1))), (4, .int (nI (hn_k))), (2, .int (nI (lowN ht c d))), (1, .int (nI (c))), (0, .ref (ad (b)))]) hx hb dX13_next_46 hl (k := 1) rfl (g_inc _ 1 (by decide +kernel)) (by decide) rfl (fun ls hl => ?_)
                refine lv_goto (tgt := 4) hx hb dX13_next_49 (by decide) ?_
                have hl : lv_has ls 5 [(3, .int (nI (d + 1))), (4, .int (nI (hn_k))), (2, .int (nI (lowN ht c (d + 1)))), (1, .int (nI (c))), (0, .ref (ad (b)))] := by rw [show lowN ht c (d + 1) = lowN ht c d by simp only [lowN, hn]; rw [if_neg (by omega)]]; exact hl
                exact ih_loop1 (d + 1) (by omega) (by omega) _ _ hP hS ls (lv_sub hl [0, 2, 3, 4] rfl)
              · refine lv_iload hx hb dX13_next_43 (lv_at hl 0 rfl) ?_
                refine lv_istore_n (lv' := [(2, .int (nI (hn_k))), (4, .int (nI (hn_k))), (3, .int (nI (d))), (1, .int (nI (c))), (0, .ref (ad (b)))]) hx hb dX13_next_45 rfl hl (by decide) rfl (fun ls hl => ?_)
                refine lv_iinc (v := nI (d + 1)) (lv' := [(3, .int (nI (d + 1))), (2, .int (nI (hn_k))), (4, .int (nI (hn_k))), (1, .int (nI (c))), (0, .ref (ad (b)))]) hx hb dX13_next_46 hl (k := 2) rfl (g_inc _ 1 (by decide +kernel)) (by decide) rfl (fun ls hl => ?_)
                refine lv_goto (tgt := 4) hx hb dX13_next_49 (by decide) ?_
                have hl : lv_has ls 5 [(3, .int (nI (d + 1))), (2, .int (nI (lowN ht c (d + 1)))), (4, .int (nI (hn_k))), (1, .int (nI (c))), (0, .ref (ad (b)))] := by rw [show lowN ht c (d + 1) = hn_k by simp only [lowN, hn]; rw [if_pos hq]]; exact hl
                exact ih_loop1 (d + 1) (by omega) (by omega) _ _ hP hS ls (lv_sub hl [0, 1, 3, 4] rfl)
    exact loop1 (4 - (0) + 1) (0) (Nat.lt_succ_self _) (by omega) _ _ hP hS ls (lv_sub hl [0, 1, 3, 2] rfl)
set_option maxHeartbeats 4000000 in
set_option maxRecDepth 100000 in
/-- the end of a cell -/
theorem mX13_end (l : Launch) {E : gE} {ad : Nat → Nat} {N : Nat} {w : Nat → va_E} (b : Nat) (g kp sv bf sd ip sg mk td lv tl : Nat → Nat) (qs qc qw qd co wy : Nat) (de : Int32) (ca ln : Nat) (fa : Option Nat) (sm pa tm : Nat) (ht dr pg wt wr mo : Nat → Nat) (mc ni po dn : Nat) (c : Nat) (hb_m : bkP N w b 12 (MDC E ad b g kp sv bf sd ip sg mk td lv tl qs qc qw qd co wy de ca ln fa sm pa tm)) (hc : c < 36) (hR : mRg g ht pg wt wr mo mc ni po dn) (hht : ∀ k, k < 36 → ht k ≤ 99) (hwr : ∀ k, k < 36 → wr k ≤ 3) : gMi l yX13_end (lw_ws yX13_end cX13_end 3 (some .int)) ({ frames := 4, cells := 0, slots := 0, locals := 90 } : Room) E ad N w [.ref (ad (b)), .int (nI (c))] (fun r w' => r = nI (endN ht wr 36 c) ∧ w' = w) 0 0 := by
  refine Met.ofW (cc := cX13_end) (maxL := 3) (ret := (some .int)) (by decide) rfl ?_
  intro p e s m args below meth cd s₁ B hml hv
  obtain ⟨rfl, hI, hP⟩ := hv
  obtain ⟨S, hr, hlocks⟩ := gPre (ws := []) B hml (C := RX13) rfl
  have hx := S.1
  have hb := S.2.1
  have hS : va_S (gA E) s.heap s.heap [] := va_S.rf
  have hl := lv_entry ([.ref (ad (b)), .int (nI (c))]) (n := 3) (Nat.le_of_ble_eq_true rfl)
  rw [lg_entry_eq]
  generalize (lg_sl ([.ref (ad (b)), .int (nI (c))]) ++ List.replicate (3 - (lg_sl ([.ref (ad (b)), .int (nI (c))])).length) Slot.unset).toArray = ls at hl ⊢
  have hl : lv_has ls 3 [(0, .ref (ad (b))), (1, .int (nI (c)))] := hl
  refine lv_iload_n hx hb dX13_end_0 rfl (lv_at hl 1 rfl) ?_
  refine lv_istore_n (lv' := [(2, .int (nI (c))), (0, .ref (ad (b))), (1, .int (nI (c)))]) hx hb dX13_end_1 rfl hl (by decide) rfl (fun ls hl => ?_)
  have loop1 : ∀ (n : Nat) (u : Nat), ht u + 1 < n → (u < 36) → (endN ht wr 36 u = endN ht wr 36 c) → ∀ (H : Heap) (locs : List Loc), gP E ad N w H → va_S (gA E) s.heap H locs → ∀ (ls : Array Slot), lv_has ls 3 [(2, .int (nI (u))), (1, .int (nI (c))), (0, .ref (ad (b)))] → W p l e (headSpec (lw_ws yX13_end cX13_end 3 (some .int)) ({ frames := 4, cells := 0, slots := 0, locals := 90 } : Room)).room s m ([.ref (ad (b)), .int (nI (c))] : List Value).toArray below meth cd H locs 0 0 (MQ below (va_Qi (fun r w' => r = nI (endN ht wr 36 c) ∧ w' = w) (gB E ad N) (gA E)) ([.ref (ad (b)), .int (nI (c))] : List Value).toArray s 0 0 (gA E)) (F0 m 2 ls []) := by
    intro n
    induction n with
    | zero => intro u hmeas; omega
    | succ n ih_loop1 =>
      intro u hmeas hu he H locs hP hS ls hl
      have hn36 := nxtN_lt (ht := ht) (wr := wr) hu
      refine lv_aload_n hx hb dX13_end_2 rfl (lv_at hl 2 rfl) ?_
      refine lv_iload_n hx hb dX13_end_3 rfl (lv_at hl 0 rfl) ?_
      refine g_roi (g_runV S hI hP hS (k := 1) (As := [.int (nI (u))]) (rest := []) (mX13_next l b g kp sv bf sd ip sg mk td lv tl qs qc qw qd co wy de ca ln fa sm pa tm ht dr pg wt wr mo mc ni po dn u hb_m hu hR hht hwr) q1964 q1966 q59 q100 q1967 rfl rfl (by decide +kernel) ⟨Nat.le_of_ble_eq_true rfl, Nat.le_of_ble_eq_true rfl⟩ rfl (hb_m.lt 0 (by decide)) (hb_m.2 0 (by decide)) rfl hl.1 rfl (Nat.le_of_ble_eq_true rfl) ⟨(Nat.le_of_ble_eq_true rfl), (Nat.le_of_ble_eq_true rfl)⟩ dX13_end_4) hS (fun H locs hP hS => ?_)
      refine lv_iload_n hx hb dX13_end_7 rfl (lv_at hl 0 rfl) ?_
      refine g_eq S (a := nxtN ht wr u) (b := u) (by omega) (by omega) (tgt := 20) dX13_end_8 (by decide) (fun h => ?_) (fun h => ?_)
      · refine lv_iload_n hx hb dX13_end_20 rfl (lv_at hl 0 rfl) ?_
        exact g_iret S hr hlocks hP hS (⟨by rw [← he, endN_stop (nxtN_eq.mp h)], rfl⟩) (fun _ _ => rfl) (Nat.le_of_ble_eq_true rfl) (Nat.le_of_ble_eq_true rfl) dX13_end_21
      · refine lv_aload_n hx hb dX13_end_11 rfl (lv_at hl 2 rfl) ?_
        refine lv_iload_n hx hb dX13_end_12 rfl (lv_at hl 0 rfl) ?_
        refine g_roi (g_runV S hI hP hS (k := 1) (As := [.int (nI (u))]) (rest := []) (mX13_next l b g kp sv bf sd ip sg mk td lv tl qs qc qw qd co wy de ca ln fa sm pa tm ht dr pg wt wr mo mc ni po dn u hb_m hu hR hht hwr) q1964 q1966 q59 q100 q1967 rfl rfl (by decide +kernel) ⟨Nat.le_of_ble_eq_true rfl, Nat.le_of_ble_eq_true rfl⟩ rfl (hb_m.lt 0 (by decide)) (hb_m.2 0 (by decide)) rfl hl.1 rfl (Nat.le_of_ble_eq_true rfl) ⟨(Nat.le_of_ble_eq_true rfl), (Nat.le_of_ble_eq_true rfl)⟩ dX13_end_13) hS (fun H locs hP hS => ?_)
        refine lv_istore_n (lv' := [(2, .int (nI (nxtN ht wr u))), (1, .int (nI (c))), (0, .ref (ad (b)))]) hx hb dX13_end_16 rfl hl (by decide) rfl (fun ls hl => ?_)
        refine lv_goto (tgt := 2) hx hb dX13_end_17 (by decide) ?_
        obtain ⟨v, hv⟩ := Option.ne_none_iff_exists'.mp (fun q => h (nxtN_eq.mpr q))
        have hnv : nxtN ht wr u = v := by unfold nxtN; rw [hv]; rfl
        have hfa := flow_fall hv
        have hl : lv_has ls 3 [(2, .int (nI (v))), (1, .int (nI (c))), (0, .ref (ad (b)))] := by rw [hnv] at hl; exact hl
        exact ih_loop1 (v) (by omega) (flow_lt hu hv) ((endN_step hu hv).symm.trans he) _ _ hP hS ls (lv_sub hl [0, 1, 2] rfl)
  exact loop1 (ht (c) + 1 + 1) (c) (Nat.lt_succ_self _) (hc) (rfl) _ _ hP hS ls (lv_sub hl [0, 2, 1] rfl)
