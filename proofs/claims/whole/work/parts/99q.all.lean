/-! THE WHOLE LAW, FROM ITS ENTRY TO ITS END -/
section ALL9
variable {p : Program} {l : Launch} {e : Env} {R : Room} {s : State} {m : MethodId} {args : Array Value} {below : List Frame} {meth : Method} {c : Code} {H : Heap} {locs : List Loc} {cells slots : Nat} {Q : State → Prop}
variable {cc : ByteArray} {pc nL : Nat} {ls : Array Slot} {rest st0 : List Value} {own : String} {E : gE} {ad : Nat → Nat} {N : Nat} {w : Nat → va_E}
theorem sbn_drop {U : State} {k n : Nat} (h : s.sameButNew U locs k n) (hl : ∀ z ∈ locs, s.heap.size ≤ z.base) : s.sameButNew U [] k n := by
  obtain ⟨h1, h2, h3, h4, h5, h6⟩ := h
  refine ⟨h1, h2, h3, h4, h5, fun a c hc => ?_⟩
  obtain ⟨c9, e1, e2, e3, e4⟩ := h6 a c hc
  refine ⟨c9, e1, e2, e3, fun i _ => e4 i (fun hm => ?_)⟩
  have h7 : s.heap.size ≤ a := hl _ hm
  exact Nat.not_le_of_lt (Array.getElem?_eq_some_iff.mp hc).1 h7
theorem W_drop {g : JFrame} (hl : ∀ z ∈ locs, s.heap.size ≤ z.base) (k : W p l e R s m args below meth c H [] cells slots Q g) : W p l e R s m args below meth c H locs cells slots Q g := fun T hT X =>
  k T hT { X with same := sbn_drop X.same hl }
theorem gP_0 (H : Heap) : gP E ad 0 w H := by
  refine ⟨fun k q h => ?_, ?_⟩
  · simp [gl] at h
  · simp [va_D, gl]
theorem law_all (kk : Nat → Nat) (hlt : l.stackTraces = false) (hz : gHx E) (hzv : gHv E kk) (hn : gHn E) (S : gFix p m c cL_law 10 s args RL) (hI : gI E s s.heap) (hE : E.2.2.1 = s.heap.size) (hRf : 64 ≤ R.frames) (hRl : 2000 ≤ R.locals) (hRc : 130000 ≤ R.cells) (hRs : 1500000 ≤ R.slots) {sa L : Nat} {xs : Nat → Int32} (hX : va_X sa L xs s s.heap) (hsa : sa < s.heap.size) (hL : L ≤ 2560) (hl : lv_has ls 10 [(0, .ref (sa))])
    (kkE : ∀ (H' : Heap) (ls' : Array Slot), W p l e R s m args below meth c H' [] R.cells R.slots Q (F0 m 3003 ls' [])) : W p l e R s m args below meth c s.heap [] 0 0 Q (F0 m 0 ls []) := by
  have hsA : ¬ gA E sa := by show ¬ E.2.2.1 ≤ sa; omega
  refine law_entry kk hzv S hI (d := 0) (ad := fun _ => 0) (w := fun _ => .inr (0, [])) (gP_0 _) va_S.rf hRf hRl (by omega) (by omega) hl (fun ad' w' H' locs' cells' slots' ls' hc hs hinv hP hS hl => ?_)
  refine law_loop kk hlt hz hzv hn S hI hRf hRl hX hsa hsA hL (fun H9 locs9 cells9 slots9 ls9 hS9 hc9 hs9 => ?_) (L + 1) 0 ad' _ w' H' locs' cells' slots' ls' (by omega) (Nat.zero_le _) (by omega) (by omega) hinv hP hS hl
  exact W_drop (fun z hz => by have h9 := hS9.2.2 z hz; have h8 : E.2.2.1 ≤ z.base := h9; omega) (W.widen (k := R.cells) (n := R.slots) hc9 hs9 (kkE H9 ls9))
end ALL9
