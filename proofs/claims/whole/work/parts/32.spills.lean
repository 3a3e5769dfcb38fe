set_option maxHeartbeats 4000000 in
set_option maxRecDepth 100000 in
/-- Arrays.fill of 36 ints -/
theorem mJ7_fill_53178 (l : Launch) {E : gE} {ad : Nat → Nat} {N : Nat} {w : Nat → va_E} (f : Nat) (lv : Nat → Nat) (v : Nat) (hb_l : bkP N w f 1 (LVC E ad f lv))  : gMv l yJ7_fill_53178 (lw_ws yJ7_fill_53178 cJ7_fill_53178 4 none) ({ frames := 0, cells := 0, slots := 0, locals := 0 } : Room) E ad N w [.ref (ad (f)), .int (nI (v))] (fun w' => bkP N w' f 1 (LVC E ad f (fil 36 (fun _ => v) lv)) ∧ gFr (gIn f 1) w w') 0 0 := by
  refine Met.ofW (cc := cJ7_fill_53178) (maxL := 4) (ret := none) (by decide) rfl ?_
  intro p e s m args below meth cd s₁ B hml hv
  obtain ⟨rfl, hI, hP⟩ := hv
  obtain ⟨S, hr, hlocks⟩ := gPre (ws := []) B hml (C := RJ7) rfl
  have hx := S.1
  have hb := S.2.1
  have hS : va_S (gA E) s.heap s.heap [] := va_S.rf
  have hfr : gFr (gIn f 1) w w := gFr.rf
  have hl := lv_entry ([.ref (ad (f)), .int (nI (v))]) (n := 4) (Nat.le_of_ble_eq_true rfl)
  rw [lg_entry_eq]
  generalize (lg_sl ([.ref (ad (f)), .int (nI (v))]) ++ List.replicate (4 - (lg_sl ([.ref (ad (f)), .int (nI (v))])).length) Slot.unset).toArray = ls at hl ⊢
  have hl : lv_has ls 4 [(0, .ref (ad (f))), (1, .int (nI (v)))] := hl
  refine g_iconst S 0 dJ7_fill_53178_0 (by decide +kernel) ?_
  refine lv_istore_n (lv' := [(2, .int (nI (0))), (0, .ref (ad (f))), (1, .int (nI (v)))]) hx hb dJ7_fill_53178_1 rfl hl (by decide) rfl (fun ls hl => ?_)
  refine lv_aload_n hx hb dJ7_fill_53178_2 rfl (lv_at hl 1 rfl) ?_
  refine g_alen S hI hP (t0 := 0) (hb_l.lt 0 (by decide)) (hb_l.2 0 (by decide)) rfl dJ7_fill_53178_3 ?_
  refine lv_istore_n (lv' := [(3, .int (nI (36))), (2, .int (nI (0))), (0, .ref (ad (f))), (1, .int (nI (v)))]) hx hb dJ7_fill_53178_4 rfl hl (by decide) rfl (fun ls hl => ?_)
  have loop1 : ∀ (n : Nat) (i : Nat), 36 - i < n → (i ≤ 36) → ∀ (w1 : Nat → va_E) (H : Heap) (locs : List Loc), gP E ad N w1 H → va_S (gA E) s.heap H locs → bkP N w1 f 1 (LVC E ad f (fil i (fun _ => v) lv)) → gFr (gIn f 1) w w1 → ∀ (ls : Array Slot), lv_has ls 4 [(3, .int (nI (36))), (2, .int (nI (i))), (0, .ref (ad (f))), (1, .int (nI (v)))] → W p l e (headSpec (lw_ws yJ7_fill_53178 cJ7_fill_53178 4 none) ({ frames := 0, cells := 0, slots := 0, locals := 0 } : Room)).room s m ([.ref (ad (f)), .int (nI (v))] : List Value).toArray below meth cd H locs 0 0 (MQ below (va_Qv (fun w' => bkP N w' f 1 (LVC E ad f (fil 36 (fun _ => v) lv)) ∧ gFr (gIn f 1) w w') (gB E ad N) (gA E)) ([.ref (ad (f)), .int (nI (v))] : List Value).toArray s 0 0 (gA E)) (F0 m 5 ls []) := by
    intro n
    induction n with
    | zero => intro i hmeas; omega
    | succ n ih_loop1 =>
      intro i hmeas hi w1 H locs hP hS hb2 hfr ls hl
      refine lv_iload_n hx hb dJ7_fill_53178_5 rfl (lv_at hl 1 rfl) ?_
      refine lv_iload_n hx hb dJ7_fill_53178_6 rfl (lv_at hl 0 rfl) ?_
      refine g_ge S (a := i) (b := 36) (by omega) (by omega) (tgt := 20) dJ7_fill_53178_7 (by decide) (fun h => ?_) (fun h => ?_)
      · have ei : i = 36 := by omega
        rw [ei] at hb2
        exact g_vret S hr hlocks hP hS (⟨hb2, hfr⟩) (fun _ _ => rfl) (Nat.le_of_ble_eq_true rfl) (Nat.le_of_ble_eq_true rfl) dJ7_fill_53178_20
      · refine lv_aload_n hx hb dJ7_fill_53178_10 rfl (lv_at hl 2 rfl) ?_
        refine lv_iload_n hx hb dJ7_fill_53178_11 rfl (lv_at hl 1 rfl) ?_
        refine lv_iload_n hx hb dJ7_fill_53178_12 rfl (lv_at hl 3 rfl) ?_
        refine g_iastN S hI hP hS (f := fil i (fun _ => v) lv) (x := v) (hb2.lt 0 (by decide)) (hb2.2 0 (by decide)) (i) (h) (by decide) dJ7_fill_53178_13 (fun H locs hP hS => ?_)
        have hP : gP E ad N (va_up _ (f) (LVC E ad f (va_up (fil i (fun _ => v) lv) i v) 0)) H := hP
        have hb3 : bkP N (va_up _ (f) (LVC E ad f (va_up (fil i (fun _ => v) lv) i v) 0)) f 1 (LVC E ad f (va_up (fil i (fun _ => v) lv) i v)) := LV_setA0 hb2 _
        have hfr := hfr.up (p := f) (e := LVC E ad f (va_up (fil i (fun _ => v) lv) i v) 0) (by show _ ∧ _; omega)
        rw [fil_up (f := fun _ => v)] at hb3 hP hfr
        refine lv_iinc (v := nI (i + 1)) (lv' := [(2, .int (nI (i + 1))), (3, .int (nI (36))), (0, .ref (ad (f))), (1, .int (nI (v)))]) hx hb dJ7_fill_53178_14 hl (k := 1) rfl (g_inc _ 1 (by decide +kernel)) (by decide) rfl (fun ls hl => ?_)
        refine lv_goto (tgt := 5) hx hb dJ7_fill_53178_17 (by decide) ?_
        exact ih_loop1 (i + 1) (by omega) (by omega) _ _ _ hP hS hb3 hfr ls (lv_sub hl [1, 0, 2, 3] rfl)
  rw [← fil_0 (fun _ => v) lv] at hb_l
  exact loop1 (36 - (0) + 1) (0) (Nat.lt_succ_self _) (by omega) _ _ _ hP hS hb_l hfr ls (lv_sub hl [0, 1, 2, 3] rfl)
set_option maxHeartbeats 4000000 in
set_option maxRecDepth 100000 in
/-- a basin, climbed -/
theorem mX5_basinClimbed (l : Launch) {E : gE} {ad : Nat → Nat} {N : Nat} {w : Nat → va_E} (b : Nat) (ht dr pg wt wr mo : Nat → Nat) (mc ni po dn : Nat) (r : Nat) (re ce : Nat → Nat) (rc tc : Nat) (c : Nat) (hb_s : bkP N w b 7 (SHC E ad b ht dr pg wt wr mo mc ni po dn)) (hb_g : bkP N w r 1 (RGC E ad r )) (hb_f : bkP N w (r + 1) 3 (FLC E ad (r + 1) re ce rc tc)) (hbr : b + 7 ≤ r) (hwr : ∀ k, k < 36 → wr k ≤ 3) (hht : ∀ k, k < 36 → ht k ≤ 99) (hc : c < 36) : gMi l yX5_basinClimbed (lw_ws yX5_basinClimbed cX5_basinClimbed 7 (some .int)) ({ frames := 4, cells := 0, slots := 0, locals := 92 } : Room) E ad N w [.ref (ad (r)), .ref (ad (b)), .int (nI (c))] (fun z w' => z = nI (flF (fun a k => decide (flow ht wr k = some a)) re ce (endN ht wr 36 c)).1.2.2 ∧ bkP N w' (r + 1) 3 (FLC E ad (r + 1) (flF (fun a k => decide (flow ht wr k = some a)) re ce (endN ht wr 36 c)).1.1 (flF (fun a k => decide (flow ht wr k = some a)) re ce (endN ht wr 36 c)).1.2.1 (flF (fun a k => decide (flow ht wr k = some a)) re ce (endN ht wr 36 c)).1.2.2 (flF (fun a k => decide (flow ht wr k = some a)) re ce (endN ht wr 36 c)).2) ∧ gFr (gIn (r + 1) 3) w w') 0 0 := by
  refine Met.ofW (cc := cX5_basinClimbed) (maxL := 7) (ret := (some .int)) (by decide) rfl ?_
  intro p e s m args below meth cd s₁ B hml hv
  obtain ⟨rfl, hI, hP⟩ := hv
  obtain ⟨S, hr, hlocks⟩ := gPre (ws := []) B hml (C := RX5) rfl
  have hx := S.1
  have hb := S.2.1
  have hS : va_S (gA E) s.heap s.heap [] := va_S.rf
  have hfr : gFr (gIn (r + 1) 3) w w := gFr.rf
  have hl := lv_entry ([.ref (ad (r)), .ref (ad (b)), .int (nI (c))]) (n := 7) (Nat.le_of_ble_eq_true rfl)
  rw [lg_entry_eq]
  generalize (lg_sl ([.ref (ad (r)), .ref (ad (b)), .int (nI (c))]) ++ List.replicate (7 - (lg_sl ([.ref (ad (r)), .ref (ad (b)), .int (nI (c))])).length) Slot.unset).toArray = ls at hl ⊢
  have hl : lv_has ls 7 [(0, .ref (ad (r))), (1, .ref (ad (b))), (2, .int (nI (c)))] := hl
  have hec := endN_lt (ht := ht) (wr := wr) (n := 36) hc
  refine lv_aload_n hx hb dX5_basinClimbed_0 rfl (lv_at hl 0 rfl) ?_
  refine g_get S hI hP uX5 rfl (fs := _) (hb_g.lt 0 (by decide)) (hb_g.2 0 (by decide)) 0 (by decide) q242 rfl (v := .ref (ad (r + 1))) rfl dX5_basinClimbed_1 ?_
  refine g_afv (g_runV S hI hP hS (k := 0) (As := []) (rest := []) (mX3_dry l (r + 1) re ce rc tc hb_f) q938 q939 q940 q87 q941 rfl rfl (by decide +kernel) ⟨Nat.le_of_ble_eq_true rfl, Nat.le_of_ble_eq_true rfl⟩ rfl (hb_f.lt 0 (by decide)) (hb_f.2 0 (by decide)) rfl hl.1 rfl (Nat.le_of_ble_eq_true rfl) ⟨(Nat.le_of_ble_eq_true rfl), (Nat.le_of_ble_eq_true rfl)⟩ dX5_basinClimbed_4) hS (fun w1 H locs hq hP hS => ?_)
  obtain ⟨hb1, hf2⟩ := hq
  have hb3 := hb_s.fr hf2 (fun k hk => by show ¬ _; (try simp only [gIn]); (try dsimp only); omega)
  have hb4 := hb_g.fr hf2 (fun k hk => by show ¬ _; (try simp only [gIn]); (try dsimp only); omega)
  have hfr := hfr.trans hf2 (fun q hq => by (try simp only [gIn] at hq ⊢); (try dsimp only at hq ⊢); omega)
  have hok0 : flOk (fil 36 (fun _ => 0) re, ce, 0) := ⟨fun j hj => absurd hj (Nat.not_lt_zero j), Nat.zero_le _, fun k hk => by show fil 36 (fun _ => 0) re k ≤ 1; rw [fil_in hk]; exact Nat.zero_le _⟩
  refine lv_aload_n hx hb dX5_basinClimbed_7 rfl (lv_at hl 0 rfl) ?_
  refine g_get S hI hP uX5 rfl (fs := _) (hb4.lt 0 (by decide)) (hb4.2 0 (by decide)) 0 (by decide) q242 rfl (v := .ref (ad (r + 1))) rfl dX5_basinClimbed_8 ?_
  refine lv_aload_n hx hb dX5_basinClimbed_11 rfl (lv_at hl 1 rfl) ?_
  refine lv_iload_n hx hb dX5_basinClimbed_12 rfl (lv_at hl 2 rfl) ?_
  refine g_roi (g_runV S hI hP hS (k := 1) (As := [.int (nI (c))]) (rest := [.ref (ad (r + 1))]) (mX7_endOf l b ht dr pg wt wr mo mc ni po dn c hb3 hc hwr hht) q1024 q689 q690 q83 q691 rfl rfl (by decide +kernel) ⟨Nat.le_of_ble_eq_true rfl, Nat.le_of_ble_eq_true rfl⟩ rfl (hb3.lt 0 (by decide)) (hb3.2 0 (by decide)) rfl hl.1 rfl (Nat.le_of_ble_eq_true rfl) ⟨(Nat.le_of_ble_eq_true rfl), (Nat.le_of_ble_eq_true rfl)⟩ dX5_basinClimbed_13) hS (fun H locs hP hS => ?_)
  refine g_afv (g_runV S hI hP hS (k := 1) (As := [.int (nI (endN ht wr 36 c))]) (rest := []) (mX3_reach l (r + 1) (fil 36 (fun _ => 0) re) ce 0 0 (endN ht wr 36 c) hb1 hec hok0) q946 q947 q948 q87 q949 rfl rfl (by decide +kernel) ⟨Nat.le_of_ble_eq_true rfl, Nat.le_of_ble_eq_true rfl⟩ rfl (hb1.lt 0 (by decide)) (hb1.2 0 (by decide)) rfl hl.1 rfl (Nat.le_of_ble_eq_true rfl) ⟨(Nat.le_of_ble_eq_true rfl), (Nat.le_of_ble_eq_true rfl)⟩ dX5_basinClimbed_16) hS (fun w1 H locs hq hP hS => ?_)
  obtain ⟨hb5, hf6⟩ := hq
  have hb7 := hb3.fr hf6 (fun k hk => by show ¬ _; (try simp only [gIn]); (try dsimp only); omega)
  have hb8 := hb4.fr hf6 (fun k hk => by show ¬ _; (try simp only [gIn]); (try dsimp only); omega)
  have hfr := hfr.trans hf6 (fun q hq => by (try simp only [gIn] at hq ⊢); (try dsimp only at hq ⊢); omega)
  refine g_iconst S 0 dX5_basinClimbed_19 (by decide +kernel) ?_
  refine lv_istore_n (lv' := [(3, .int (nI (0))), (0, .ref (ad (r))), (1, .ref (ad (b))), (2, .int (nI (c)))]) hx hb dX5_basinClimbed_20 rfl hl (by decide) rfl (fun ls hl => ?_)
  obtain ⟨zf, hzf⟩ : ∃ zf, zf = (bfsG (fun a k => decide (flow ht wr k = some a)) 36 ((flR (fil 36 (fun _ => 0) re, ce, 0) (endN ht wr 36 c)), 0)) := ⟨_, rfl⟩
  have loop9 : ∀ (n : Nat) (i : Nat) (z : T3 × Nat), 36 - i < n → (i ≤ 36) → (flOk z.1) → (z.2 ≤ z.1.2.2) → (bfsG (fun a k => decide (flow ht wr k = some a)) (36 - i) z = zf) → ∀ (w1 : Nat → va_E) (H : Heap) (locs : List Loc), gP E ad N w1 H → va_S (gA E) s.heap H locs → bkP N w1 b 7 (SHC E ad b ht dr pg wt wr mo mc ni po dn) → bkP N w1 r 1 (RGC E ad r ) → bkP N w1 (r + 1) 3 (FLC E ad (r + 1) z.1.1 z.1.2.1 z.1.2.2 z.2) → gFr (gIn (r + 1) 3) w w1 → ∀ (ls : Array Slot), lv_has ls 7 [(3, .int (nI (i))), (0, .ref (ad (r))), (1, .ref (ad (b))), (2, .int (nI (c)))] → W p l e (headSpec (lw_ws yX5_basinClimbed cX5_basinClimbed 7 (some .int)) ({ frames := 4, cells := 0, slots := 0, locals := 92 } : Room)).room s m ([.ref (ad (r)), .ref (ad (b)), .int (nI (c))] : List Value).toArray below meth cd H locs 0 0 (MQ below (va_Qi (fun z w' => z = nI (flF (fun a k => decide (flow ht wr k = some a)) re ce (endN ht wr 36 c)).1.2.2 ∧ bkP N w' (r + 1) 3 (FLC E ad (r + 1) (flF (fun a k => decide (flow ht wr k = some a)) re ce (endN ht wr 36 c)).1.1 (flF (fun a k => decide (flow ht wr k = some a)) re ce (endN ht wr 36 c)).1.2.1 (flF (fun a k => decide (flow ht wr k = some a)) re ce (endN ht wr 36 c)).1.2.2 (flF (fun a k => decide (flow ht wr k = some a)) re ce (endN ht wr 36 c)).2) ∧ gFr (gIn (r + 1) 3) w w') (gB E ad N) (gA E)) ([.ref (ad (r)), .ref (ad (b)), .int (nI (c))] : List Value).toArray s 0 0 (gA E)) (F0 m 21 ls []) := by
    intro n
    induction n with
    | zero => intro i z hmeas; omega
    | succ n ih_loop9 =>
      intro i z hmeas hi hz hzt he w1 H locs hP hS hb10 hb11 hb12 hfr ls hl
      have hz1 := hz.2.1
      refine lv_iload_n hx hb dX5_basinClimbed_21 rfl (lv_at hl 0 rfl) ?_
      refine g_bipush S 36 dX5_basinClimbed_22 (by decide +kernel) ?_
      refine g_ge S (a := i) (b := 36) (by omega) (by omega) (tgt := 106) dX5_basinClimbed_24 (by decide) (fun h => ?_) (fun h => ?_)
      · have ei : 36 - i = 0 := by omega
        rw [ei, bfsG_z] at he
        rw [he] at hb12
        rw [hzf] at hb12
        refine lv_aload_n hx hb dX5_basinClimbed_106 rfl (lv_at hl 1 rfl) ?_
        refine g_get S hI hP uX5 rfl (fs := _) (hb11.lt 0 (by decide)) (hb11.2 0 (by decide)) 0 (by decide) q242 rfl (v := .ref (ad (r + 1))) rfl dX5_basinClimbed_107 ?_
        refine g_getN S hI hP uX3 rfl (fs := _) (hb12.lt 0 (by decide)) (hb12.2 0 (by decide)) 2 (by decide) q221 rfl (v := .int (nI ((flF (fun a k => decide (flow ht wr k = some a)) re ce (endN ht wr 36 c)).1.2.2))) rfl dX5_basinClimbed_110 ?_
        exact g_iret S hr hlocks hP hS (⟨rfl, hb12, hfr⟩) (fun _ _ => rfl) (Nat.le_of_ble_eq_true rfl) (Nat.le_of_ble_eq_true rfl) dX5_basinClimbed_113
      · have ei : 36 - i = (36 - (i + 1)) + 1 := by omega
        rw [ei, bfsG_s] at he
        refine lv_aload_n hx hb dX5_basinClimbed_27 rfl (lv_at hl 1 rfl) ?_
        refine g_get S hI hP uX5 rfl (fs := _) (hb11.lt 0 (by decide)) (hb11.2 0 (by decide)) 0 (by decide) q242 rfl (v := .ref (ad (r + 1))) rfl dX5_basinClimbed_28 ?_
        refine g_afi (g_runV S hI hP hS (k := 0) (As := []) (rest := []) (mX3_take l (r + 1) z.1.1 z.1.2.1 z.1.2.2 z.2 hb12 hz1 (by omega)) q950 q951 q952 q87 q953 rfl rfl (by decide +kernel) ⟨Nat.le_of_ble_eq_true rfl, Nat.le_of_ble_eq_true rfl⟩ rfl (hb12.lt 0 (by decide)) (hb12.2 0 (by decide)) rfl hl.1 rfl (Nat.le_of_ble_eq_true rfl) ⟨(Nat.le_of_ble_eq_true rfl), (Nat.le_of_ble_eq_true rfl)⟩ dX5_basinClimbed_31) hS (fun rz w1 H locs hq hP hS => ?_)
        obtain ⟨hr15, hb13, hf14⟩ := hq
        rw [hr15]
        have hb16 := hb10.fr hf14 (fun k hk => by show ¬ _; (try simp only [gIn]); (try dsimp only); omega)
        have hb17 := hb11.fr hf14 (fun k hk => by show ¬ _; (try simp only [gIn]); (try dsimp only); omega)
        have hfr := hfr.trans hf14 (fun q hq => by (try simp only [gIn] at hq ⊢); (try dsimp only at hq ⊢); omega)
        refine lv_istore (lv' := [(4, .int (oI (if z.2 < z.1.2.2 then some (z.1.2.1 z.2) else none))), (3, .int (nI (i))), (0, .ref (ad (r))), (1, .ref (ad (b))), (2, .int (nI (c)))]) hx hb dX5_basinClimbed_34 hl (by decide) rfl (fun ls hl => ?_)
        refine lv_iload hx hb dX5_basinClimbed_36 (lv_at hl 0 rfl) ?_
        refine lv_iconst (v := -1) hx hb dX5_basinClimbed_38 (by decide +kernel) ?_
        refine g_one S (o := if z.2 < z.1.2.2 then some (z.1.2.1 z.2) else none) (fun k hk => by split at hk; cases hk; have := hz.1 _ ‹_›; omega; cases hk) (tgt := 50) dX5_basinClimbed_39 (by decide) (fun hn_k hn => ?_) (fun hn => ?_)
        · have hlt : z.2 < z.1.2.2 := by by_cases q : z.2 < z.1.2.2; exact q; rw [if_neg q] at hn; cases hn
          have hkk : hn_k = z.1.2.1 z.2 := by rw [if_pos hlt] at hn; exact (Option.some.inj hn).symm
          have hk36 : hn_k < 36 := by rw [hkk]; exact hz.1 _ hlt
          rw [if_pos hlt] at he hb13
          rw [← hkk] at he
          have hl : lv_has ls 7 [(4, .int (nI (hn_k))), (3, .int (nI (i))), (0, .ref (ad (r))), (1, .ref (ad (b))), (2, .int (nI (c)))] := by rw [hn] at hl; exact hl
          refine g_iconst S 0 dX5_basinClimbed_50 (by decide +kernel) ?_
          refine lv_istore (lv' := [(5, .int (nI (0))), (4, .int (nI (hn_k))), (3, .int (nI (i))), (0, .ref (ad (r))), (1, .ref (ad (b))), (2, .int (nI (c)))]) hx hb dX5_basinClimbed_51 hl (by decide) rfl (fun ls hl => ?_)
          have loop18 : ∀ (n : Nat) (d : Nat), 4 - d < n → (d ≤ 4) → ∀ (w1 : Nat → va_E) (H : Heap) (locs : List Loc), gP E ad N w1 H → va_S (gA E) s.heap H locs → bkP N w1 b 7 (SHC E ad b ht dr pg wt wr mo mc ni po dn) → bkP N w1 r 1 (RGC E ad r ) → bkP N w1 (r + 1) 3 (FLC E ad (r + 1) ((flD (fun a k => decide (flow ht wr k = some a)) hn_k d z.1).1) ((flD (fun a k => decide (flow ht wr k = some a)) hn_k d z.1).2.1) ((flD (fun a k => decide (flow ht wr k = some a)) hn_k d z.1).2.2) (z.2 + 1)) → gFr (gIn (r + 1) 3) w w1 → ∀ (ls : Array Slot), lv_has ls 7 [(5, .int (nI (d))), (4, .int (nI (hn_k))), (3, .int (nI (i))), (0, .ref (ad (r))), (1, .ref (ad (b))), (2, .int (nI (c)))] → W p l e (headSpec (lw_ws yX5_basinClimbed cX5_basinClimbed 7 (some .int)) ({ frames := 4, cells := 0, slots := 0, locals := 92 } : Room)).room s m ([.ref (ad (r)), .ref (ad (b)), .int (nI (c))] : List Value).toArray below meth cd H locs 0 0 (MQ below (va_Qi (fun z w' => z = nI (flF (fun a k => decide (flow ht wr k = some a)) re ce (endN ht wr 36 c)).1.2.2 ∧ bkP N w' (r + 1) 3 (FLC E ad (r + 1) (flF (fun a k => decide (flow ht wr k = some a)) re ce (endN ht wr 36 c)).1.1 (flF (fun a k => decide (flow ht wr k = some a)) re ce (endN ht wr 36 c)).1.2.1 (flF (fun a k => decide (flow ht wr k = some a)) re ce (endN ht wr 36 c)).1.2.2 (flF (fun a k => decide (flow ht wr k = some a)) re ce (endN ht wr 36 c)).2) ∧ gFr (gIn (r + 1) 3) w w') (gB E ad N) (gA E)) ([.ref (ad (r)), .ref (ad (b)), .int (nI (c))] : List Value).toArray s 0 0 (gA E)) (F0 m 53 ls []) := by
            intro n
            induction n with
            | zero => intro d hmeas; omega
            | succ n ih_loop18 =>
              intro d hmeas hd w1 H locs hP hS hb19 hb20 hb21 hfr ls hl
              have hfd := flD_ok (ok := (fun a k => decide (flow ht wr k = some a))) hz hk36 d
              refine lv_iload hx hb dX5_basinClimbed_53 (lv_at hl 0 rfl) ?_
              refine g_iconst S 4 dX5_basinClimbed_55 (by decide +kernel) ?_
              refine g_ge S (a := d) (b := 4) (by omega) (by omega) (tgt := 100) dX5_basinClimbed_56 (by decide) (fun hd4 => ?_) (fun hd4 => ?_)
              · have e_d : d = 4 := by omega
                subst e_d
                refine lv_iinc (v := nI (i + 1)) (lv' := [(3, .int (nI (i + 1))), (5, .int (nI (4))), (4, .int (nI (hn_k))), (0, .ref (ad (r))), (1, .ref (ad (b))), (2, .int (nI (c)))]) hx hb dX5_basinClimbed_100 hl (k := 2) rfl (g_inc _ 1 (by decide +kernel)) (by decide) rfl (fun ls hl => ?_)
                refine lv_goto (tgt := 21) hx hb dX5_basinClimbed_103 (by decide) ?_
                exact ih_loop9 (i + 1) (((flD (fun a k => decide (flow ht wr k = some a)) hn_k 4 z.1), z.2 + 1)) (by omega) (by omega) (hfd) (flD_ge _ _ hlt) (he) _ _ _ hP hS hb19 hb20 hb21 hfr ls (lv_sub hl [0, 3, 4, 5] rfl)
              · refine lv_iload hx hb dX5_basinClimbed_59 (lv_at hl 1 rfl) ?_
                refine lv_iload hx hb dX5_basinClimbed_61 (lv_at hl 0 rfl) ?_
                refine g_roi (g_runSN S hI hP hS (k := 2) (As := [.int (nI (hn_k)), .int (nI (d))]) (rest := []) (mX12_neighbour l hn_k d hk36 hd4) q954 q675 q82 q676 rfl rfl (by decide +kernel) ⟨Nat.le_of_ble_eq_true rfl, Nat.le_of_ble_eq_true rfl⟩ rfl hl.1 rfl (Nat.le_of_ble_eq_true rfl) ⟨(Nat.le_of_ble_eq_true rfl), (Nat.le_of_ble_eq_true rfl)⟩ dX5_basinClimbed_63) hS (fun H locs hP hS => ?_)
                refine lv_istore (lv' := [(6, .int (oI (nb hn_k d))), (5, .int (nI (d))), (4, .int (nI (hn_k))), (3, .int (nI (i))), (0, .ref (ad (r))), (1, .ref (ad (b))), (2, .int (nI (c)))]) hx hb dX5_basinClimbed_66 hl (by decide) rfl (fun ls hl => ?_)
                refine lv_iload hx hb dX5_basinClimbed_68 (lv_at hl 0 rfl) ?_
                refine lv_iconst (v := -1) hx hb dX5_basinClimbed_70 (by decide +kernel) ?_
                refine g_oeq S (o := nb hn_k d) (fun k hk => Nat.lt_trans (nb_lt hk36 hk) (by decide)) (tgt := 94) dX5_basinClimbed_71 (by decide) (fun hb0 => ?_) (fun hb0_k hb0 => ?_)
                · have hde : (flD (fun a k => decide (flow ht wr k = some a)) hn_k (d + 1) z.1) = (flD (fun a k => decide (flow ht wr k = some a)) hn_k d z.1) := by simp [flD, hb0]
                  rw [← hde] at hb21
                  refine lv_iinc (v := nI (d + 1)) (lv' := [(5, .int (nI (d + 1))), (6, .int (oI (nb hn_k d))), (4, .int (nI (hn_k))), (3, .int (nI (i))), (0, .ref (ad (r))), (1, .ref (ad (b))), (2, .int (nI (c)))]) hx hb dX5_basinClimbed_94 hl (k := 1) rfl (g_inc _ 1 (by decide +kernel)) (by decide) rfl (fun ls hl => ?_)
                  refine lv_goto (tgt := 53) hx hb dX5_basinClimbed_97 (by decide) ?_
                  exact ih_loop18 (d + 1) (by omega) (by omega) _ _ _ hP hS hb19 hb20 hb21 hfr ls (lv_sub hl [0, 2, 3, 4, 5, 6] rfl)
                · have hb36 := nb_lt hk36 hb0
                  have hl : lv_has ls 7 [(6, .int (nI (hb0_k))), (5, .int (nI (d))), (4, .int (nI (hn_k))), (3, .int (nI (i))), (0, .ref (ad (r))), (1, .ref (ad (b))), (2, .int (nI (c)))] := by rw [hb0] at hl; exact hl
                  refine lv_aload_n hx hb dX5_basinClimbed_74 rfl (lv_at hl 5 rfl) ?_
                  refine lv_iload hx hb dX5_basinClimbed_75 (lv_at hl 0 rfl) ?_
                  refine g_roi (g_runV S hI hP hS (k := 1) (As := [.int (nI (hb0_k))]) (rest := []) (mX7_flowOf l b ht dr pg wt wr mo mc ni po dn hb0_k hb19 hb36 hwr hht) q738 q693 q694 q83 q695 rfl rfl (by decide +kernel) ⟨Nat.le_of_ble_eq_true rfl, Nat.le_of_ble_eq_true rfl⟩ rfl (hb19.lt 0 (by decide)) (hb19.2 0 (by decide)) rfl hl.1 rfl (Nat.le_of_ble_eq_true rfl) ⟨(Nat.le_of_ble_eq_true rfl), (Nat.le_of_ble_eq_true rfl)⟩ dX5_basinClimbed_77) hS (fun H locs hP hS => ?_)
                  refine lv_iload hx hb dX5_basinClimbed_80 (lv_at hl 2 rfl) ?_
                  refine g_onN S (o := flow ht wr hb0_k) (a := hn_k) (fun k hk => Nat.lt_trans (flow_lt hb36 hk) (by decide)) (by omega) (tgt := 94) dX5_basinClimbed_82 (by decide) (fun hv => ?_) (fun hv => ?_)
                  · have hde : (flD (fun a k => decide (flow ht wr k = some a)) hn_k (d + 1) z.1) = (flD (fun a k => decide (flow ht wr k = some a)) hn_k d z.1) := by simp only [flD, hb0]; rw [if_neg (by simpa using hv)]
                    rw [← hde] at hb21
                    refine lv_iinc (v := nI (d + 1)) (lv' := [(5, .int (nI (d + 1))), (6, .int (nI (hb0_k))), (4, .int (nI (hn_k))), (3, .int (nI (i))), (0, .ref (ad (r))), (1, .ref (ad (b))), (2, .int (nI (c)))]) hx hb dX5_basinClimbed_94 hl (k := 1) rfl (g_inc _ 1 (by decide +kernel)) (by decide) rfl (fun ls hl => ?_)
                    refine lv_goto (tgt := 53) hx hb dX5_basinClimbed_97 (by decide) ?_
                    exact ih_loop18 (d + 1) (by omega) (by omega) _ _ _ hP hS hb19 hb20 hb21 hfr ls (lv_sub hl [0, 2, 3, 4, 5, 6] rfl)
                  · refine lv_aload_n hx hb dX5_basinClimbed_85 rfl (lv_at hl 4 rfl) ?_
                    refine g_get S hI hP uX5 rfl (fs := _) (hb20.lt 0 (by decide)) (hb20.2 0 (by decide)) 0 (by decide) q242 rfl (v := .ref (ad (r + 1))) rfl dX5_basinClimbed_86 ?_
                    refine lv_iload hx hb dX5_basinClimbed_89 (lv_at hl 0 rfl) ?_
                    refine g_afv (g_runV S hI hP hS (k := 1) (As := [.int (nI (hb0_k))]) (rest := []) (mX3_reach l (r + 1) (flD (fun a k => decide (flow ht wr k = some a)) hn_k d z.1).1 (flD (fun a k => decide (flow ht wr k = some a)) hn_k d z.1).2.1 (flD (fun a k => decide (flow ht wr k = some a)) hn_k d z.1).2.2 (z.2 + 1) hb0_k hb21 hb36 hfd) q946 q947 q948 q87 q949 rfl rfl (by decide +kernel) ⟨Nat.le_of_ble_eq_true rfl, Nat.le_of_ble_eq_true rfl⟩ rfl (hb21.lt 0 (by decide)) (hb21.2 0 (by decide)) rfl hl.1 rfl (Nat.le_of_ble_eq_true rfl) ⟨(Nat.le_of_ble_eq_true rfl), (Nat.le_of_ble_eq_true rfl)⟩ dX5_basinClimbed_91) hS (fun w1 H locs hq hP hS => ?_)
                    obtain ⟨hb22, hf23⟩ := hq
                    have hb24 := hb19.fr hf23 (fun k hk => by show ¬ _; (try simp only [gIn]); (try dsimp only); omega)
                    have hb25 := hb20.fr hf23 (fun k hk => by show ¬ _; (try simp only [gIn]); (try dsimp only); omega)
                    have hfr := hfr.trans hf23 (fun q hq => by (try simp only [gIn] at hq ⊢); (try dsimp only at hq ⊢); omega)
                    have hde : (flD (fun a k => decide (flow ht wr k = some a)) hn_k (d + 1) z.1) = flR (flD (fun a k => decide (flow ht wr k = some a)) hn_k d z.1) hb0_k := by simp only [flD, hb0]; rw [if_pos (by simpa using hv)]
                    rw [← hde] at hb22
                    refine lv_iinc (v := nI (d + 1)) (lv' := [(5, .int (nI (d + 1))), (6, .int (nI (hb0_k))), (4, .int (nI (hn_k))), (3, .int (nI (i))), (0, .ref (ad (r))), (1, .ref (ad (b))), (2, .int (nI (c)))]) hx hb dX5_basinClimbed_94 hl (k := 1) rfl (g_inc _ 1 (by decide +kernel)) (by decide) rfl (fun ls hl => ?_)
                    refine lv_goto (tgt := 53) hx hb dX5_basinClimbed_97 (by decide) ?_
                    exact ih_loop18 (d + 1) (by omega) (by omega) _ _ _ hP hS hb24 hb25 hb22 hfr ls (lv_sub hl [0, 2, 3, 4, 5, 6] rfl)
          exact loop18 (4 - (0) + 1) (0) (Nat.lt_succ_self _) (by omega) _ _ _ hP hS hb16 hb17 hb13 hfr ls (lv_sub hl [0, 1, 2, 3, 4, 5] rfl)
        · have hlt : ¬ z.2 < z.1.2.2 := by intro q; rw [if_pos q] at hn; cases hn
          rw [if_neg hlt] at he hb13
          rw [he] at hb13
          rw [hzf] at hb13
          refine lv_aload_n hx hb dX5_basinClimbed_42 rfl (lv_at hl 2 rfl) ?_
          refine g_get S hI hP uX5 rfl (fs := _) (hb17.lt 0 (by decide)) (hb17.2 0 (by decide)) 0 (by decide) q242 rfl (v := .ref (ad (r + 1))) rfl dX5_basinClimbed_43 ?_
          refine g_getN S hI hP uX3 rfl (fs := _) (hb13.lt 0 (by decide)) (hb13.2 0 (by decide)) 2 (by decide) q221 rfl (v := .int (nI ((flF (fun a k => decide (flow ht wr k = some a)) re ce (endN ht wr 36 c)).1.2.2))) rfl dX5_basinClimbed_46 ?_
          exact g_iret S hr hlocks hP hS (⟨rfl, hb13, hfr⟩) (fun _ _ => rfl) (Nat.le_of_ble_eq_true rfl) (Nat.le_of_ble_eq_true rfl) dX5_basinClimbed_49
  exact loop9 (36 - (0) + 1) (0) (((flR (fil 36 (fun _ => 0) re, ce, 0) (endN ht wr 36 c)), 0)) (Nat.lt_succ_self _) (by omega) (flR_ok hok0 hec) (Nat.zero_le _) (hzf.symm) _ _ _ hP hS hb7 hb8 hb5 hfr ls (lv_sub hl [0, 1, 2, 3] rfl)
set_option maxHeartbeats 4000000 in
set_option maxRecDepth 100000 in
/-- the levels of the exits -/
theorem mX8_beginAtExits (l : Launch) {E : gE} {ad : Nat → Nat} {N : Nat} {w : Nat → va_E} (b : Nat) (ht dr pg wt wr mo : Nat → Nat) (mc ni po dn : Nat) (r : Nat) (lv : Nat → Nat) (hb_s : bkP N w b 7 (SHC E ad b ht dr pg wt wr mo mc ni po dn)) (hb_g : bkP N w r 1 (SLC E ad r )) (hb_l : bkP N w (r + 4) 1 (LVC E ad (r + 4) lv)) (hbr : b + 7 ≤ r) (hwr : ∀ k, k < 36 → wr k ≤ 3) (hht : ∀ k, k < 36 → ht k ≤ 99) : gMv l yX8_beginAtExits (lw_ws yX8_beginAtExits cX8_beginAtExits 4 none) ({ frames := 1, cells := 0, slots := 0, locals := 22 } : Room) E ad N w [.ref (ad (r)), .ref (ad (b))] (fun w' => bkP N w' (r + 4) 1 (LVC E ad (r + 4) (fil 36 (exL ht wr) lv)) ∧ gFr (gIn (r + 4) 1) w w') 0 0 := by
  refine Met.ofW (cc := cX8_beginAtExits) (maxL := 4) (ret := none) (by decide) rfl ?_
  intro p e s m args below meth cd s₁ B hml hv
  obtain ⟨rfl, hI, hP⟩ := hv
  obtain ⟨S, hr, hlocks⟩ := gPre (ws := []) B hml (C := RX8) rfl
  have hx := S.1
  have hb := S.2.1
  have hS : va_S (gA E) s.heap s.heap [] := va_S.rf
  have hfr : gFr (gIn (r + 4) 1) w w := gFr.rf
  have hl := lv_entry ([.ref (ad (r)), .ref (ad (b))]) (n := 4) (Nat.le_of_ble_eq_true rfl)
  rw [lg_entry_eq]
  generalize (lg_sl ([.ref (ad (r)), .ref (ad (b))]) ++ List.replicate (4 - (lg_sl ([.ref (ad (r)), .ref (ad (b))])).length) Slot.unset).toArray = ls at hl ⊢
  have hl : lv_has ls 4 [(0, .ref (ad (r))), (1, .ref (ad (b)))] := hl
  refine g_iconst S 0 dX8_beginAtExits_0 (by decide +kernel) ?_
  refine lv_istore_n (lv' := [(2, .int (nI (0))), (0, .ref (ad (r))), (1, .ref (ad (b)))]) hx hb dX8_beginAtExits_1 rfl hl (by decide) rfl (fun ls hl => ?_)
  have loop1 : ∀ (n : Nat) (i : Nat), 36 - i < n → (i ≤ 36) → ∀ (w1 : Nat → va_E) (H : Heap) (locs : List Loc), gP E ad N w1 H → va_S (gA E) s.heap H locs → bkP N w1 b 7 (SHC E ad b ht dr pg wt wr mo mc ni po dn) → bkP N w1 r 1 (SLC E ad r ) → bkP N w1 (r + 4) 1 (LVC E ad (r + 4) (fil i (exL ht wr) lv)) → gFr (gIn (r + 4) 1) w w1 → ∀ (ls : Array Slot), lv_has ls 4 [(2, .int (nI (i))), (0, .ref (ad (r))), (1, .ref (ad (b)))] → W p l e (headSpec (lw_ws yX8_beginAtExits cX8_beginAtExits 4 none) ({ frames := 1, cells := 0, slots := 0, locals := 22 } : Room)).room s m ([.ref (ad (r)), .ref (ad (b))] : List Value).toArray below meth cd H locs 0 0 (MQ below (va_Qv (fun w' => bkP N w' (r + 4) 1 (LVC E ad (r + 4) (fil 36 (exL ht wr) lv)) ∧ gFr (gIn (r + 4) 1) w w') (gB E ad N) (gA E)) ([.ref (ad (r)), .ref (ad (b))] : List Value).toArray s 0 0 (gA E)) (F0 m 2 ls []) := by
    intro n
    induction n with
    | zero => intro i hmeas; omega
    | succ n ih_loop1 =>
      intro i hmeas hi w1 H locs hP hS hb2 hb3 hb4 hfr ls hl
      refine lv_iload_n hx hb dX8_beginAtExits_2 rfl (lv_at hl 0 rfl) ?_
      refine g_bipush S 36 dX8_beginAtExits_3 (by decide +kernel) ?_
      refine g_ge S (a := i) (b := 36) (by omega) (by omega) (tgt := 56) dX8_beginAtExits_5 (by decide) (fun h => ?_) (fun h => ?_)
      · have ei : i = 36 := by omega
        rw [ei] at hb4
        exact g_vret S hr hlocks hP hS (⟨hb4, hfr⟩) (fun _ _ => rfl) (Nat.le_of_ble_eq_true rfl) (Nat.le_of_ble_eq_true rfl) dX8_beginAtExits_56
      · have hzi := hht i h
        refine lv_iload_n hx hb dX8_beginAtExits_8 rfl (lv_at hl 0 rfl) ?_
        refine g_roi (g_runSN S hI hP hS (k := 1) (As := [.int (nI (i))]) (rest := []) (mX12_isOnBorder l i h) q755 q756 q82 q757 rfl rfl (by decide +kernel) ⟨Nat.le_of_ble_eq_true rfl, Nat.le_of_ble_eq_true rfl⟩ rfl hl.1 rfl (Nat.le_of_ble_eq_true rfl) ⟨(Nat.le_of_ble_eq_true rfl), (Nat.le_of_ble_eq_true rfl)⟩ dX8_beginAtExits_9) hS (fun H locs hP hS => ?_)
        refine g_bne S (b := decide (i / 6 = 0 ∨ i / 6 = 5 ∨ i % 6 = 0 ∨ i % 6 = 5)) (tgt := 23) dX8_beginAtExits_12 (by decide) (fun hbo => ?_) (fun hbo => ?_)
        · have hbo := of_decide_eq_true hbo
          refine g_iconst S 1 dX8_beginAtExits_23 (by decide +kernel) ?_
          refine lv_goto (tgt := 28) hx hb dX8_beginAtExits_24 (by decide) ?_
          refine lv_istore_n (lv' := [(3, .int (nI (1))), (2, .int (nI (i))), (0, .ref (ad (r))), (1, .ref (ad (b)))]) hx hb dX8_beginAtExits_28 rfl hl (by decide) rfl (fun ls hl => ?_)
          refine lv_aload_n hx hb dX8_beginAtExits_29 rfl (lv_at hl 2 rfl) ?_
          refine g_get S hI hP uX8 rfl (fs := _) (hb3.lt 0 (by decide)) (hb3.2 0 (by decide)) 1 (by decide) q275 rfl (v := .ref (ad (r + 4))) rfl dX8_beginAtExits_30 ?_
          refine lv_iload_n hx hb dX8_beginAtExits_33 rfl (lv_at hl 1 rfl) ?_
          refine lv_iload_n hx hb dX8_beginAtExits_34 rfl (lv_at hl 0 rfl) ?_
          refine g_ifeq S (a := 1) (by omega) (tgt := 47) dX8_beginAtExits_35 (by decide) (fun hone => ?_) (fun hone => ?_)
          · exact absurd hone (by decide)
          · refine lv_aload_n hx hb dX8_beginAtExits_38 rfl (lv_at hl 3 rfl) ?_
            refine g_getN S hI hP uX7 rfl (fs := _) (hb2.lt 0 (by decide)) (hb2.2 0 (by decide)) 0 (by decide) q142 rfl (v := .ref (ad (b + 1))) rfl dX8_beginAtExits_39 ?_
            refine lv_iload_n hx hb dX8_beginAtExits_42 rfl (lv_at hl 1 rfl) ?_
            refine g_iald S hI hP (f := fun j => nI (ht j)) (hb2.lt 1 (by decide)) (hb2.2 1 (by decide)) (i) (h) (by decide) dX8_beginAtExits_43 ?_
            refine lv_goto (tgt := 49) hx hb dX8_beginAtExits_44 (by decide) ?_
            have hex : exL ht wr i = ht i := by unfold exL; rw [if_pos (Or.inl hbo)]
            have hfu := fil_up i (exL ht wr) lv
            rw [hex] at hfu
            refine g_iastN S hI hP hS (f := fil i (exL ht wr) lv) (x := ht i) (hb4.lt 0 (by decide)) (hb4.2 0 (by decide)) (i) (h) (by decide) dX8_beginAtExits_49 (fun H locs hP hS => ?_)
            have hP : gP E ad N (va_up _ (r + 4) (LVC E ad (r + 4) (va_up (fil i (exL ht wr) lv) i (ht i)) 0)) H := hP
            have hb5 : bkP N (va_up _ (r + 4) (LVC E ad (r + 4) (va_up (fil i (exL ht wr) lv) i (ht i)) 0)) (r + 4) 1 (LVC E ad (r + 4) (va_up (fil i (exL ht wr) lv) i (ht i))) := LV_setA0 hb4 _
            have hb6 := hb2.keep (p := r + 4) (e := LVC E ad (r + 4) (va_up (fil i (exL ht wr) lv) i (ht i)) 0) (by omega)
            have hb7 := hb3.keep (p := r + 4) (e := LVC E ad (r + 4) (va_up (fil i (exL ht wr) lv) i (ht i)) 0) (by omega)
            have hfr := hfr.up (p := r + 4) (e := LVC E ad (r + 4) (va_up (fil i (exL ht wr) lv) i (ht i)) 0) (by show _ ∧ _; omega)
            rw [hfu] at hb6 hb7 hb5 hP hfr
            refine lv_iinc (v := nI (i + 1)) (lv' := [(2, .int (nI (i + 1))), (3, .int (nI (1))), (0, .ref (ad (r))), (1, .ref (ad (b)))]) hx hb dX8_beginAtExits_50 hl (k := 1) rfl (g_inc _ 1 (by decide +kernel)) (by decide) rfl (fun ls hl => ?_)
            refine lv_goto (tgt := 2) hx hb dX8_beginAtExits_53 (by decide) ?_
            exact ih_loop1 (i + 1) (by omega) (by omega) _ _ _ hP hS hb6 hb7 hb5 hfr ls (lv_sub hl [0, 2, 3] rfl)
        · have hbo := of_decide_eq_false hbo
          refine lv_aload_n hx hb dX8_beginAtExits_15 rfl (lv_at hl 2 rfl) ?_
          refine lv_iload_n hx hb dX8_beginAtExits_16 rfl (lv_at hl 0 rfl) ?_
          refine g_roi (g_runV S hI hP hS (k := 1) (As := [.int (nI (i))]) (rest := []) (mX7_hasHole l b ht dr pg wt wr mo mc ni po dn i hb2 h (hwr i h)) q758 q506 q507 q83 q508 rfl rfl (by decide +kernel) ⟨Nat.le_of_ble_eq_true rfl, Nat.le_of_ble_eq_true rfl⟩ rfl (hb2.lt 0 (by decide)) (hb2.2 0 (by decide)) rfl hl.1 rfl (Nat.le_of_ble_eq_true rfl) ⟨(Nat.le_of_ble_eq_true rfl), (Nat.le_of_ble_eq_true rfl)⟩ dX8_beginAtExits_17) hS (fun H locs hP hS => ?_)
          refine g_beq S (b := decide (3 ≤ wr i)) (tgt := 27) dX8_beginAtExits_20 (by decide) (fun hho => ?_) (fun hho => ?_)
          · have hho := of_decide_eq_false hho
            refine g_iconst S 0 dX8_beginAtExits_27 (by decide +kernel) ?_
            refine lv_istore_n (lv' := [(3, .int (nI (0))), (2, .int (nI (i))), (0, .ref (ad (r))), (1, .ref (ad (b)))]) hx hb dX8_beginAtExits_28 rfl hl (by decide) rfl (fun ls hl => ?_)
            refine lv_aload_n hx hb dX8_beginAtExits_29 rfl (lv_at hl 2 rfl) ?_
            refine g_get S hI hP uX8 rfl (fs := _) (hb3.lt 0 (by decide)) (hb3.2 0 (by decide)) 1 (by decide) q275 rfl (v := .ref (ad (r + 4))) rfl dX8_beginAtExits_30 ?_
            refine lv_iload_n hx hb dX8_beginAtExits_33 rfl (lv_at hl 1 rfl) ?_
            refine lv_iload_n hx hb dX8_beginAtExits_34 rfl (lv_at hl 0 rfl) ?_
            refine g_ifeq S (a := 0) (by omega) (tgt := 47) dX8_beginAtExits_35 (by decide) (fun hone => ?_) (fun hone => ?_)
            · refine g_bipush S 100 dX8_beginAtExits_47 (by decide +kernel) ?_
              have hex : exL ht wr i = 100 := by unfold exL; rw [if_neg (fun q => q.elim hbo hho)]
              have hfu := fil_up i (exL ht wr) lv
              rw [hex] at hfu
              refine g_iastN S hI hP hS (f := fil i (exL ht wr) lv) (x := 100) (hb4.lt 0 (by decide)) (hb4.2 0 (by decide)) (i) (h) (by decide) dX8_beginAtExits_49 (fun H locs hP hS => ?_)
              have hP : gP E ad N (va_up _ (r + 4) (LVC E ad (r + 4) (va_up (fil i (exL ht wr) lv) i 100) 0)) H := hP
              have hb8 : bkP N (va_up _ (r + 4) (LVC E ad (r + 4) (va_up (fil i (exL ht wr) lv) i 100) 0)) (r + 4) 1 (LVC E ad (r + 4) (va_up (fil i (exL ht wr) lv) i 100)) := LV_setA0 hb4 _
              have hb9 := hb2.keep (p := r + 4) (e := LVC E ad (r + 4) (va_up (fil i (exL ht wr) lv) i 100) 0) (by omega)
              have hb10 := hb3.keep (p := r + 4) (e := LVC E ad (r + 4) (va_up (fil i (exL ht wr) lv) i 100) 0) (by omega)
              have hfr := hfr.up (p := r + 4) (e := LVC E ad (r + 4) (va_up (fil i (exL ht wr) lv) i 100) 0) (by show _ ∧ _; omega)
              rw [hfu] at hb9 hb10 hb8 hP hfr
              refine lv_iinc (v := nI (i + 1)) (lv' := [(2, .int (nI (i + 1))), (3, .int (nI (0))), (0, .ref (ad (r))), (1, .ref (ad (b)))]) hx hb dX8_beginAtExits_50 hl (k := 1) rfl (g_inc _ 1 (by decide +kernel)) (by decide) rfl (fun ls hl => ?_)
              refine lv_goto (tgt := 2) hx hb dX8_beginAtExits_53 (by decide) ?_
              exact ih_loop1 (i + 1) (by omega) (by omega) _ _ _ hP hS hb9 hb10 hb8 hfr ls (lv_sub hl [0, 2, 3] rfl)
            · exact absurd hone (by decide)
          · have hho := of_decide_eq_true hho
            refine g_iconst S 1 dX8_beginAtExits_23 (by decide +kernel) ?_
            refine lv_goto (tgt := 28) hx hb dX8_beginAtExits_24 (by decide) ?_
            refine lv_istore_n (lv' := [(3, .int (nI (1))), (2, .int (nI (i))), (0, .ref (ad (r))), (1, .ref (ad (b)))]) hx hb dX8_beginAtExits_28 rfl hl (by decide) rfl (fun ls hl => ?_)
            refine lv_aload_n hx hb dX8_beginAtExits_29 rfl (lv_at hl 2 rfl) ?_
            refine g_get S hI hP uX8 rfl (fs := _) (hb3.lt 0 (by decide)) (hb3.2 0 (by decide)) 1 (by decide) q275 rfl (v := .ref (ad (r + 4))) rfl dX8_beginAtExits_30 ?_
            refine lv_iload_n hx hb dX8_beginAtExits_33 rfl (lv_at hl 1 rfl) ?_
            refine lv_iload_n hx hb dX8_beginAtExits_34 rfl (lv_at hl 0 rfl) ?_
            refine g_ifeq S (a := 1) (by omega) (tgt := 47) dX8_beginAtExits_35 (by decide) (fun hone => ?_) (fun hone => ?_)
            · exact absurd hone (by decide)
            · refine lv_aload_n hx hb dX8_beginAtExits_38 rfl (lv_at hl 3 rfl) ?_
              refine g_getN S hI hP uX7 rfl (fs := _) (hb2.lt 0 (by decide)) (hb2.2 0 (by decide)) 0 (by decide) q142 rfl (v := .ref (ad (b + 1))) rfl dX8_beginAtExits_39 ?_
              refine lv_iload_n hx hb dX8_beginAtExits_42 rfl (lv_at hl 1 rfl) ?_
              refine g_iald S hI hP (f := fun j => nI (ht j)) (hb2.lt 1 (by decide)) (hb2.2 1 (by decide)) (i) (h) (by decide) dX8_beginAtExits_43 ?_
              refine lv_goto (tgt := 49) hx hb dX8_beginAtExits_44 (by decide) ?_
              have hex : exL ht wr i = ht i := by unfold exL; rw [if_pos (Or.inr hho)]
              have hfu := fil_up i (exL ht wr) lv
              rw [hex] at hfu
              refine g_iastN S hI hP hS (f := fil i (exL ht wr) lv) (x := ht i) (hb4.lt 0 (by decide)) (hb4.2 0 (by decide)) (i) (h) (by decide) dX8_beginAtExits_49 (fun H locs hP hS => ?_)
              have hP : gP E ad N (va_up _ (r + 4) (LVC E ad (r + 4) (va_up (fil i (exL ht wr) lv) i (ht i)) 0)) H := hP
              have hb11 : bkP N (va_up _ (r + 4) (LVC E ad (r + 4) (va_up (fil i (exL ht wr) lv) i (ht i)) 0)) (r + 4) 1 (LVC E ad (r + 4) (va_up (fil i (exL ht wr) lv) i (ht i))) := LV_setA0 hb4 _
              have hb12 := hb2.keep (p := r + 4) (e := LVC E ad (r + 4) (va_up (fil i (exL ht wr) lv) i (ht i)) 0) (by omega)
              have hb13 := hb3.keep (p := r + 4) (e := LVC E ad (r + 4) (va_up (fil i (exL ht wr) lv) i (ht i)) 0) (by omega)
              have hfr := hfr.up (p := r + 4) (e := LVC E ad (r + 4) (va_up (fil i (exL ht wr) lv) i (ht i)) 0) (by show _ ∧ _; omega)
              rw [hfu] at hb12 hb13 hb11 hP hfr
              refine lv_iinc (v := nI (i + 1)) (lv' := [(2, .int (nI (i + 1))), (3, .int (nI (1))), (0, .ref (ad (r))), (1, .ref (ad (b)))]) hx hb dX8_beginAtExits_50 hl (k := 1) rfl (g_inc _ 1 (by decide +kernel)) (by decide) rfl (fun ls hl => ?_)
              refine lv_goto (tgt := 2) hx hb dX8_beginAtExits_53 (by decide) ?_
              exact ih_loop1 (i + 1) (by omega) (by omega) _ _ _ hP hS hb12 hb13 hb11 hfr ls (lv_sub hl [0, 2, 3] rfl)
  rw [← fil_0 (exL ht wr) lv] at hb_l
  exact loop1 (36 - (0) + 1) (0) (Nat.lt_succ_self _) (by omega) _ _ _ hP hS hb_s hb_g hb_l hfr ls (lv_sub hl [0, 1, 2] rfl)
set_option maxHeartbeats 4000000 in
set_option maxRecDepth 100000 in
/-- the levels by a queue -/
theorem mX8_fillByQueue (l : Launch) {E : gE} {ad : Nat → Nat} {N : Nat} {w : Nat → va_E} (b : Nat) (ht dr pg wt wr mo : Nat → Nat) (mc ni po dn : Nat) (r : Nat) (lv wa ke : Nat → Nat) (hb_s : bkP N w b 7 (SHC E ad b ht dr pg wt wr mo mc ni po dn)) (hb_g : bkP N w r 1 (SLC E ad r )) (hb_q : bkP N w (r + 1) 3 (CQC E ad (r + 1) wa ke)) (hb_l : bkP N w (r + 4) 1 (LVC E ad (r + 4) lv)) (hbr : b + 7 ≤ r) (hwr : ∀ k, k < 36 → wr k ≤ 3) (hht : ∀ k, k < 36 → ht k ≤ 99) (hwa : ∀ k, k < 36 → wa k ≤ 1) (hke : ∀ k, k < 36 → ke k < 2 ^ 30) : gMv l yX8_fillByQueue (lw_ws yX8_fillByQueue cX8_fillByQueue 4 none) ({ frames := 3, cells := 0, slots := 0, locals := 69 } : Room) E ad N w [.ref (ad (r)), .ref (ad (b))] (fun w' => bkP N w' (r + 1) 3 (CQC E ad (r + 1) (qG (cdS ht) 36 ((fil 36 (exL ht wr) lv), exQ (fil 36 (exL ht wr) lv) wa ke 36)).2.1 (qG (cdS ht) 36 ((fil 36 (exL ht wr) lv), exQ (fil 36 (exL ht wr) lv) wa ke 36)).2.2) ∧ bkP N w' (r + 4) 1 (LVC E ad (r + 4) (qG (cdS ht) 36 ((fil 36 (exL ht wr) lv), exQ (fil 36 (exL ht wr) lv) wa ke 36)).1) ∧ gFr (fun q => (r + 1 ≤ q ∧ q < r + 4) ∨ q = r + 4) w w') 0 0 := by
  refine Met.ofW (cc := cX8_fillByQueue) (maxL := 4) (ret := none) (by decide) rfl ?_
  intro p e s m args below meth cd s₁ B hml hv
  obtain ⟨rfl, hI, hP⟩ := hv
  obtain ⟨S, hr, hlocks⟩ := gPre (ws := []) B hml (C := RX8) rfl
  have hx := S.1
  have hb := S.2.1
  have hS : va_S (gA E) s.heap s.heap [] := va_S.rf
  have hfr : gFr (fun q => (r + 1 ≤ q ∧ q < r + 4) ∨ q = r + 4) w w := gFr.rf
  have hl := lv_entry ([.ref (ad (r)), .ref (ad (b))]) (n := 4) (Nat.le_of_ble_eq_true rfl)
  rw [lg_entry_eq]
  generalize (lg_sl ([.ref (ad (r)), .ref (ad (b))]) ++ List.replicate (4 - (lg_sl ([.ref (ad (r)), .ref (ad (b))])).length) Slot.unset).toArray = ls at hl ⊢
  have hl : lv_has ls 4 [(0, .ref (ad (r))), (1, .ref (ad (b)))] := hl
  refine lv_aload_n hx hb dX8_fillByQueue_0 rfl (lv_at hl 0 rfl) ?_
  refine lv_aload_n hx hb dX8_fillByQueue_1 rfl (lv_at hl 1 rfl) ?_
  refine g_afv (g_runV S hI hP hS (k := 1) (As := [.ref (ad (b))]) (rest := []) (mX8_beginAtExits l b ht dr pg wt wr mo mc ni po dn r lv hb_s hb_g hb_l hbr hwr hht) q751 q753 q21 q89 q754 rfl rfl (by decide +kernel) ⟨Nat.le_of_ble_eq_true rfl, Nat.le_of_ble_eq_true rfl⟩ rfl (hb_g.lt 0 (by decide)) (hb_g.2 0 (by decide)) rfl hl.1 rfl (Nat.le_of_ble_eq_true rfl) ⟨(Nat.le_of_ble_eq_true rfl), (Nat.le_of_ble_eq_true rfl)⟩ dX8_fillByQueue_2) hS (fun w1 H locs hq hP hS => ?_)
  obtain ⟨hb1, hf2⟩ := hq
  have hb3 := hb_s.fr hf2 (fun k hk => by show ¬ _; (try simp only [gIn]); (try dsimp only); omega)
  have hb4 := hb_g.fr hf2 (fun k hk => by show ¬ _; (try simp only [gIn]); (try dsimp only); omega)
  have hb5 := hb_q.fr hf2 (fun k hk => by show ¬ _; (try simp only [gIn]); (try dsimp only); omega)
  have hfr := hfr.trans hf2 (fun q hq => by (try simp only [gIn] at hq ⊢); (try dsimp only at hq ⊢); omega)
  have hl0 : ∀ k, k < 36 → (fil 36 (exL ht wr) lv) k ≤ 100 := fun k hk => by rw [fil_in hk]; exact exL_le hht k hk
  refine g_iconst S 0 dX8_fillByQueue_5 (by decide +kernel) ?_
  refine lv_istore_n (lv' := [(2, .int (nI (0))), (0, .ref (ad (r))), (1, .ref (ad (b)))]) hx hb dX8_fillByQueue_6 rfl hl (by decide) rfl (fun ls hl => ?_)
  have loop6 : ∀ (n : Nat) (i : Nat), 36 - i < n → (i ≤ 36) → ∀ (w1 : Nat → va_E) (H : Heap) (locs : List Loc), gP E ad N w1 H → va_S (gA E) s.heap H locs → bkP N w1 b 7 (SHC E ad b ht dr pg wt wr mo mc ni po dn) → bkP N w1 r 1 (SLC E ad r ) → bkP N w1 (r + 1) 3 (CQC E ad (r + 1) ((exQ (fil 36 (exL ht wr) lv) wa ke i).1) ((exQ (fil 36 (exL ht wr) lv) wa ke i).2)) → bkP N w1 (r + 4) 1 (LVC E ad (r + 4) (fil 36 (exL ht wr) lv)) → gFr (fun q => (r + 1 ≤ q ∧ q < r + 4) ∨ q = r + 4) w w1 → ∀ (ls : Array Slot), lv_has ls 4 [(2, .int (nI (i))), (0, .ref (ad (r))), (1, .ref (ad (b)))] → W p l e (headSpec (lw_ws yX8_fillByQueue cX8_fillByQueue 4 none) ({ frames := 3, cells := 0, slots := 0, locals := 69 } : Room)).room s m ([.ref (ad (r)), .ref (ad (b))] : List Value).toArray below meth cd H locs 0 0 (MQ below (va_Qv (fun w' => bkP N w' (r + 1) 3 (CQC E ad (r + 1) (qG (cdS ht) 36 ((fil 36 (exL ht wr) lv), exQ (fil 36 (exL ht wr) lv) wa ke 36)).2.1 (qG (cdS ht) 36 ((fil 36 (exL ht wr) lv), exQ (fil 36 (exL ht wr) lv) wa ke 36)).2.2) ∧ bkP N w' (r + 4) 1 (LVC E ad (r + 4) (qG (cdS ht) 36 ((fil 36 (exL ht wr) lv), exQ (fil 36 (exL ht wr) lv) wa ke 36)).1) ∧ gFr (fun q => (r + 1 ≤ q ∧ q < r + 4) ∨ q = r + 4) w w') (gB E ad N) (gA E)) ([.ref (ad (r)), .ref (ad (b))] : List Value).toArray s 0 0 (gA E)) (F0 m 7 ls []) := by
    intro n
    induction n with
    | zero => intro i hmeas; omega
    | succ n ih_loop6 =>
      intro i hmeas hi w1 H locs hP hS hb7 hb8 hb9 hb10 hfr ls hl
      obtain ⟨hxw, hxk⟩ := exQ_ok hl0 hwa hke hi
      refine lv_iload_n hx hb dX8_fillByQueue_7 rfl (lv_at hl 0 rfl) ?_
      refine g_bipush S 36 dX8_fillByQueue_8 (by decide +kernel) ?_
      refine g_ge S (a := i) (b := 36) (by omega) (by omega) (tgt := 44) dX8_fillByQueue_10 (by decide) (fun h => ?_) (fun h => ?_)
      · have ei : i = 36 := by omega
        rw [ei] at hb9 hxw hxk
        refine g_iconst S 0 dX8_fillByQueue_44 (by decide +kernel) ?_
        refine lv_istore_n (lv' := [(2, .int (nI (0))), (0, .ref (ad (r))), (1, .ref (ad (b)))]) hx hb dX8_fillByQueue_45 rfl hl (by decide) rfl (fun ls hl => ?_)
        obtain ⟨zf, hzf⟩ : ∃ zf, zf = qG (cdS ht) 36 ((fil 36 (exL ht wr) lv), exQ (fil 36 (exL ht wr) lv) wa ke 36) := ⟨_, rfl⟩
        have loop11 : ∀ (n : Nat) (i : Nat) (z : T4), 36 - i < n → (i ≤ 36) → (t4Ok 100 z) → (qG (cdS ht) (36 - i) z = zf) → ∀ (w1 : Nat → va_E) (H : Heap) (locs : List Loc), gP E ad N w1 H → va_S (gA E) s.heap H locs → bkP N w1 b 7 (SHC E ad b ht dr pg wt wr mo mc ni po dn) → bkP N w1 r 1 (SLC E ad r ) → bkP N w1 (r + 1) 3 (CQC E ad (r + 1) z.2.1 z.2.2) → bkP N w1 (r + 4) 1 (LVC E ad (r + 4) z.1) → gFr (fun q => (r + 1 ≤ q ∧ q < r + 4) ∨ q = r + 4) w w1 → ∀ (ls : Array Slot), lv_has ls 4 [(2, .int (nI (i))), (0, .ref (ad (r))), (1, .ref (ad (b)))] → W p l e (headSpec (lw_ws yX8_fillByQueue cX8_fillByQueue 4 none) ({ frames := 3, cells := 0, slots := 0, locals := 69 } : Room)).room s m ([.ref (ad (r)), .ref (ad (b))] : List Value).toArray below meth cd H locs 0 0 (MQ below (va_Qv (fun w' => bkP N w' (r + 1) 3 (CQC E ad (r + 1) (qG (cdS ht) 36 ((fil 36 (exL ht wr) lv), exQ (fil 36 (exL ht wr) lv) wa ke 36)).2.1 (qG (cdS ht) 36 ((fil 36 (exL ht wr) lv), exQ (fil 36 (exL ht wr) lv) wa ke 36)).2.2) ∧ bkP N w' (r + 4) 1 (LVC E ad (r + 4) (qG (cdS ht) 36 ((fil 36 (exL ht wr) lv), exQ (fil 36 (exL ht wr) lv) wa ke 36)).1) ∧ gFr (fun q => (r + 1 ≤ q ∧ q < r + 4) ∨ q = r + 4) w w') (gB E ad N) (gA E)) ([.ref (ad (r)), .ref (ad (b))] : List Value).toArray s 0 0 (gA E)) (F0 m 46 ls []) := by
          intro n
          induction n with
          | zero => intro i z hmeas; omega
          | succ n ih_loop11 =>
            intro i z hmeas hi hz he w1 H locs hP hS hb12 hb13 hb14 hb15 hfr ls hl
            refine lv_iload_n hx hb dX8_fillByQueue_46 rfl (lv_at hl 0 rfl) ?_
            refine g_bipush S 36 dX8_fillByQueue_47 (by decide +kernel) ?_
            refine g_ge S (a := i) (b := 36) (by omega) (by omega) (tgt := 78) dX8_fillByQueue_49 (by decide) (fun h => ?_) (fun h => ?_)
            · have ei : 36 - i = 0 := by omega
              rw [ei, qG_z] at he
              rw [he] at hb14 hb15
              rw [hzf] at hb14 hb15
              exact g_vret S hr hlocks hP hS (⟨hb14, hb15, hfr⟩) (fun _ _ => rfl) (Nat.le_of_ble_eq_true rfl) (Nat.le_of_ble_eq_true rfl) dX8_fillByQueue_78
            · have ei : 36 - i = (36 - (i + 1)) + 1 := by omega
              rw [ei, qG_s] at he
              refine lv_aload_n hx hb dX8_fillByQueue_52 rfl (lv_at hl 1 rfl) ?_
              refine g_get S hI hP uX8 rfl (fs := _) (hb13.lt 0 (by decide)) (hb13.2 0 (by decide)) 0 (by decide) q274 rfl (v := .ref (ad (r + 1))) rfl dX8_fillByQueue_53 ?_
              refine g_afi (g_runV S hI hP hS (k := 0) (As := []) (rest := []) (mX1_take l (r + 1) z.2.1 z.2.2 hb14 hz.2.1 hz.2.2) q763 q764 q765 q90 q766 rfl rfl (by decide +kernel) ⟨Nat.le_of_ble_eq_true rfl, Nat.le_of_ble_eq_true rfl⟩ rfl (hb14.lt 0 (by decide)) (hb14.2 0 (by decide)) rfl hl.1 rfl (Nat.le_of_ble_eq_true rfl) ⟨(Nat.le_of_ble_eq_true rfl), (Nat.le_of_ble_eq_true rfl)⟩ dX8_fillByQueue_56) hS (fun rz w1 H locs hq hP hS => ?_)
              obtain ⟨hr18, hb16, hf17⟩ := hq
              rw [hr18]
              have hb19 := hb12.fr hf17 (fun k hk => by show ¬ _; (try simp only [gIn]); (try dsimp only); omega)
              have hb20 := hb13.fr hf17 (fun k hk => by show ¬ _; (try simp only [gIn]); (try dsimp only); omega)
              have hb21 := hb15.fr hf17 (fun k hk => by show ¬ _; (try simp only [gIn]); (try dsimp only); omega)
              have hfr := hfr.trans hf17 (fun q hq => by (try simp only [gIn] at hq ⊢); (try dsimp only at hq ⊢); omega)
              refine lv_istore_n (lv' := [(3, .int (oI (qmin z.2.1 z.2.2 36))), (2, .int (nI (i))), (0, .ref (ad (r))), (1, .ref (ad (b)))]) hx hb dX8_fillByQueue_59 rfl hl (by decide) rfl (fun ls hl => ?_)
              refine lv_iload_n hx hb dX8_fillByQueue_60 rfl (lv_at hl 0 rfl) ?_
              refine lv_iconst (v := -1) hx hb dX8_fillByQueue_61 (by decide +kernel) ?_
              refine g_one S (o := qmin z.2.1 z.2.2 36) (fun k hk => Nat.lt_trans (qmin_lt hk) (by decide)) (tgt := 66) dX8_fillByQueue_62 (by decide) (fun hn_k hn => ?_) (fun hn => ?_)
              · have hk36 := qmin_lt hn
                rw [hn] at he hb16
                have hl : lv_has ls 4 [(3, .int (nI (hn_k))), (2, .int (nI (i))), (0, .ref (ad (r))), (1, .ref (ad (b)))] := by rw [hn] at hl; exact hl
                have he : qG (cdS ht) (36 - (i + 1)) (spD (cdS ht) hn_k (z.1, va_up z.2.1 hn_k 0, z.2.2) 4) = zf := he
                have hq0 : bkP N _ (r + 1) 3 (CQC E ad (r + 1) (va_up z.2.1 hn_k 0) z.2.2) := hb16
                have hto := t4_take (c := hn_k) hz
                refine lv_aload_n hx hb dX8_fillByQueue_66 rfl (lv_at hl 2 rfl) ?_
                refine lv_aload_n hx hb dX8_fillByQueue_67 rfl (lv_at hl 3 rfl) ?_
                refine lv_iload_n hx hb dX8_fillByQueue_68 rfl (lv_at hl 0 rfl) ?_
                refine g_afv (g_runV S hI hP hS (k := 2) (As := [.ref (ad (b)), .int (nI (hn_k))]) (rest := []) (mX8_spread l b ht dr pg wt wr mo mc ni po dn r z.1 (va_up z.2.1 hn_k 0) z.2.2 hn_k hb19 hb20 hq0 hb21 hbr hht hk36 hto) q767 q769 q22 q89 q770 rfl rfl (by decide +kernel) ⟨Nat.le_of_ble_eq_true rfl, Nat.le_of_ble_eq_true rfl⟩ rfl (hb20.lt 0 (by decide)) (hb20.2 0 (by decide)) rfl hl.1 rfl (Nat.le_of_ble_eq_true rfl) ⟨(Nat.le_of_ble_eq_true rfl), (Nat.le_of_ble_eq_true rfl)⟩ dX8_fillByQueue_69) hS (fun w1 H locs hq hP hS => ?_)
                obtain ⟨hb22, hb23, hf24⟩ := hq
                have hb25 := hb19.fr hf24 (fun k hk => by show ¬ _; (try simp only [gIn]); (try dsimp only); omega)
                have hb26 := hb20.fr hf24 (fun k hk => by show ¬ _; (try simp only [gIn]); (try dsimp only); omega)
                have hfr := hfr.trans hf24 (fun q hq => by (try simp only [gIn] at hq ⊢); (try dsimp only at hq ⊢); omega)
                refine lv_iinc (v := nI (i + 1)) (lv' := [(2, .int (nI (i + 1))), (3, .int (nI (hn_k))), (0, .ref (ad (r))), (1, .ref (ad (b)))]) hx hb dX8_fillByQueue_72 hl (k := 1) rfl (g_inc _ 1 (by decide +kernel)) (by decide) rfl (fun ls hl => ?_)
                refine lv_goto (tgt := 46) hx hb dX8_fillByQueue_75 (by decide) ?_
                exact ih_loop11 (i + 1) ((spD (cdS ht) hn_k (z.1, va_up z.2.1 hn_k 0, z.2.2) 4)) (by omega) (by omega) (spD_ok (by decide) hk36 hto 4) (he) _ _ _ hP hS hb25 hb26 hb22 hb23 hfr ls (lv_sub hl [0, 2, 3] rfl)
              · rw [hn] at he hb16
                have he : z = zf := he
                have hq0 : bkP N _ (r + 1) 3 (CQC E ad (r + 1) z.2.1 z.2.2) := hb16
                rw [he] at hq0 hb21
                rw [hzf] at hq0 hb21
                exact g_vret S hr hlocks hP hS (⟨hq0, hb21, hfr⟩) (fun _ _ => rfl) (Nat.le_of_ble_eq_true rfl) (Nat.le_of_ble_eq_true rfl) dX8_fillByQueue_65
        exact loop11 (36 - (0) + 1) (0) (((fil 36 (exL ht wr) lv), exQ (fil 36 (exL ht wr) lv) wa ke 36)) (Nat.lt_succ_self _) (by omega) (⟨hl0, hxw, hxk⟩) (hzf.symm) _ _ _ hP hS hb7 hb8 hb9 hb10 hfr ls (lv_sub hl [0, 1, 2] rfl)
      · have hli := hl0 i h
        refine lv_aload_n hx hb dX8_fillByQueue_13 rfl (lv_at hl 1 rfl) ?_
        refine g_get S hI hP uX8 rfl (fs := _) (hb8.lt 0 (by decide)) (hb8.2 0 (by decide)) 1 (by decide) q275 rfl (v := .ref (ad (r + 4))) rfl dX8_fillByQueue_14 ?_
        refine lv_iload_n hx hb dX8_fillByQueue_17 rfl (lv_at hl 0 rfl) ?_
        refine g_iald S hI hP (f := fun j => nI ((fil 36 (exL ht wr) lv) j)) (hb10.lt 0 (by decide)) (hb10.2 0 (by decide)) (i) (h) (by decide) dX8_fillByQueue_18 ?_
        refine g_bipush S 100 dX8_fillByQueue_19 (by decide +kernel) ?_
        refine g_eq S (a := (fil 36 (exL ht wr) lv) i) (b := 100) (by omega) (by omega) (tgt := 38) dX8_fillByQueue_21 (by decide) (fun hu => ?_) (fun hu => ?_)
        · have hxe : (exQ (fil 36 (exL ht wr) lv) wa ke (i + 1)) = (exQ (fil 36 (exL ht wr) lv) wa ke i) := by simp only [exQ]; rw [if_pos hu]
          rw [← hxe] at hb9
          refine lv_iinc (v := nI (i + 1)) (lv' := [(2, .int (nI (i + 1))), (0, .ref (ad (r))), (1, .ref (ad (b)))]) hx hb dX8_fillByQueue_38 hl (k := 0) rfl (g_inc _ 1 (by decide +kernel)) (by decide) rfl (fun ls hl => ?_)
          refine lv_goto (tgt := 7) hx hb dX8_fillByQueue_41 (by decide) ?_
          exact ih_loop6 (i + 1) (by omega) (by omega) _ _ _ hP hS hb7 hb8 hb9 hb10 hfr ls (lv_sub hl [0, 1, 2] rfl)
        · have hxe : (exQ (fil 36 (exL ht wr) lv) wa ke (i + 1)) = (va_up (exQ (fil 36 (exL ht wr) lv) wa ke i).1 i 1, va_up (exQ (fil 36 (exL ht wr) lv) wa ke i).2 i ((fil 36 (exL ht wr) lv) i)) := by simp only [exQ]; rw [if_neg hu]
          refine lv_aload_n hx hb dX8_fillByQueue_24 rfl (lv_at hl 1 rfl) ?_
          refine g_get S hI hP uX8 rfl (fs := _) (hb8.lt 0 (by decide)) (hb8.2 0 (by decide)) 0 (by decide) q274 rfl (v := .ref (ad (r + 1))) rfl dX8_fillByQueue_25 ?_
          refine lv_iload_n hx hb dX8_fillByQueue_28 rfl (lv_at hl 0 rfl) ?_
          refine lv_aload_n hx hb dX8_fillByQueue_29 rfl (lv_at hl 1 rfl) ?_
          refine g_get S hI hP uX8 rfl (fs := _) (hb8.lt 0 (by decide)) (hb8.2 0 (by decide)) 1 (by decide) q275 rfl (v := .ref (ad (r + 4))) rfl dX8_fillByQueue_30 ?_
          refine lv_iload_n hx hb dX8_fillByQueue_33 rfl (lv_at hl 0 rfl) ?_
          refine g_iald S hI hP (f := fun j => nI ((fil 36 (exL ht wr) lv) j)) (hb10.lt 0 (by decide)) (hb10.2 0 (by decide)) (i) (h) (by decide) dX8_fillByQueue_34 ?_
          refine g_afv (g_runV S hI hP hS (k := 2) (As := [.int (nI (i)), .int (nI ((fil 36 (exL ht wr) lv) i))]) (rest := []) (mX1_put l (r + 1) (exQ (fil 36 (exL ht wr) lv) wa ke i).1 (exQ (fil 36 (exL ht wr) lv) wa ke i).2 i ((fil 36 (exL ht wr) lv) i) hb9 h) q759 q760 q761 q90 q762 rfl rfl (by decide +kernel) ⟨Nat.le_of_ble_eq_true rfl, Nat.le_of_ble_eq_true rfl⟩ rfl (hb9.lt 0 (by decide)) (hb9.2 0 (by decide)) rfl hl.1 rfl (Nat.le_of_ble_eq_true rfl) ⟨(Nat.le_of_ble_eq_true rfl), (Nat.le_of_ble_eq_true rfl)⟩ dX8_fillByQueue_35) hS (fun w1 H locs hq hP hS => ?_)
          obtain ⟨hb27, hf28⟩ := hq
          have hb29 := hb7.fr hf28 (fun k hk => by show ¬ _; (try simp only [gIn]); (try dsimp only); omega)
          have hb30 := hb8.fr hf28 (fun k hk => by show ¬ _; (try simp only [gIn]); (try dsimp only); omega)
          have hb31 := hb10.fr hf28 (fun k hk => by show ¬ _; (try simp only [gIn]); (try dsimp only); omega)
          have hfr := hfr.trans hf28 (fun q hq => by (try simp only [gIn] at hq ⊢); (try dsimp only at hq ⊢); omega)
          have hq9 : bkP N w1 (r + 1) 3 (CQC E ad (r + 1) (exQ (fil 36 (exL ht wr) lv) wa ke (i + 1)).1 (exQ (fil 36 (exL ht wr) lv) wa ke (i + 1)).2) := by rw [hxe]; exact hb27
          refine lv_iinc (v := nI (i + 1)) (lv' := [(2, .int (nI (i + 1))), (0, .ref (ad (r))), (1, .ref (ad (b)))]) hx hb dX8_fillByQueue_38 hl (k := 0) rfl (g_inc _ 1 (by decide +kernel)) (by decide) rfl (fun ls hl => ?_)
          refine lv_goto (tgt := 7) hx hb dX8_fillByQueue_41 (by decide) ?_
          exact ih_loop6 (i + 1) (by omega) (by omega) _ _ _ hP hS hb29 hb30 hq9 hb31 hfr ls (lv_sub hl [0, 1, 2] rfl)
  exact loop6 (36 - (0) + 1) (0) (Nat.lt_succ_self _) (by omega) _ _ _ hP hS hb3 hb4 hb5 hb1 hfr ls (lv_sub hl [0, 1, 2] rfl)
set_option maxHeartbeats 4000000 in
set_option maxRecDepth 100000 in
/-- a level by a queue -/
theorem mX8_byQueue (l : Launch) {E : gE} {ad : Nat → Nat} {N : Nat} {w : Nat → va_E} (b : Nat) (ht dr pg wt wr mo : Nat → Nat) (mc ni po dn : Nat) (r : Nat) (lv wa ke : Nat → Nat) (c : Nat) (hb_s : bkP N w b 7 (SHC E ad b ht dr pg wt wr mo mc ni po dn)) (hb_g : bkP N w r 1 (SLC E ad r )) (hb_q : bkP N w (r + 1) 3 (CQC E ad (r + 1) wa ke)) (hb_l : bkP N w (r + 4) 1 (LVC E ad (r + 4) lv)) (hbr : b + 7 ≤ r) (hwr : ∀ k, k < 36 → wr k ≤ 3) (hht : ∀ k, k < 36 → ht k ≤ 99) (hwa : ∀ k, k < 36 → wa k ≤ 1) (hke : ∀ k, k < 36 → ke k < 2 ^ 30) (hc : c < 36) : gMi l yX8_byQueue (lw_ws yX8_byQueue cX8_byQueue 3 (some .int)) ({ frames := 4, cells := 0, slots := 0, locals := 92 } : Room) E ad N w [.ref (ad (r)), .ref (ad (b)), .int (nI (c))] (fun z w' => z = nI ((qG (cdS ht) 36 ((fil 36 (exL ht wr) lv), exQ (fil 36 (exL ht wr) lv) wa ke 36)).1 c) ∧ bkP N w' (r + 1) 3 (CQC E ad (r + 1) (qG (cdS ht) 36 ((fil 36 (exL ht wr) lv), exQ (fil 36 (exL ht wr) lv) wa ke 36)).2.1 (qG (cdS ht) 36 ((fil 36 (exL ht wr) lv), exQ (fil 36 (exL ht wr) lv) wa ke 36)).2.2) ∧ bkP N w' (r + 4) 1 (LVC E ad (r + 4) (qG (cdS ht) 36 ((fil 36 (exL ht wr) lv), exQ (fil 36 (exL ht wr) lv) wa ke 36)).1) ∧ gFr (fun q => (r + 1 ≤ q ∧ q < r + 4) ∨ q = r + 4) w w') 0 0 := by
  refine Met.ofW (cc := cX8_byQueue) (maxL := 3) (ret := (some .int)) (by decide) rfl ?_
  intro p e s m args below meth cd s₁ B hml hv
  obtain ⟨rfl, hI, hP⟩ := hv
  obtain ⟨S, hr, hlocks⟩ := gPre (ws := []) B hml (C := RX8) rfl
  have hx := S.1
  have hb := S.2.1
  have hS : va_S (gA E) s.heap s.heap [] := va_S.rf
  have hfr : gFr (fun q => (r + 1 ≤ q ∧ q < r + 4) ∨ q = r + 4) w w := gFr.rf
  have hl := lv_entry ([.ref (ad (r)), .ref (ad (b)), .int (nI (c))]) (n := 3) (Nat.le_of_ble_eq_true rfl)
  rw [lg_entry_eq]
  generalize (lg_sl ([.ref (ad (r)), .ref (ad (b)), .int (nI (c))]) ++ List.replicate (3 - (lg_sl ([.ref (ad (r)), .ref (ad (b)), .int (nI (c))])).length) Slot.unset).toArray = ls at hl ⊢
  have hl : lv_has ls 3 [(0, .ref (ad (r))), (1, .ref (ad (b))), (2, .int (nI (c)))] := hl
  refine lv_aload_n hx hb dX8_byQueue_0 rfl (lv_at hl 0 rfl) ?_
  refine lv_aload_n hx hb dX8_byQueue_1 rfl (lv_at hl 1 rfl) ?_
  refine g_afv (g_runV S hI hP hS (k := 1) (As := [.ref (ad (b))]) (rest := []) (mX8_fillByQueue l b ht dr pg wt wr mo mc ni po dn r lv wa ke hb_s hb_g hb_q hb_l hbr hwr hht hwa hke) q747 q749 q20 q89 q750 rfl rfl (by decide +kernel) ⟨Nat.le_of_ble_eq_true rfl, Nat.le_of_ble_eq_true rfl⟩ rfl (hb_g.lt 0 (by decide)) (hb_g.2 0 (by decide)) rfl hl.1 rfl (Nat.le_of_ble_eq_true rfl) ⟨(Nat.le_of_ble_eq_true rfl), (Nat.le_of_ble_eq_true rfl)⟩ dX8_byQueue_2) hS (fun w1 H locs hq hP hS => ?_)
  obtain ⟨hb1, hb2, hf3⟩ := hq
  have hb4 := hb_s.fr hf3 (fun k hk => by show ¬ _; (try simp only [gIn]); (try dsimp only); omega)
  have hb5 := hb_g.fr hf3 (fun k hk => by show ¬ _; (try simp only [gIn]); (try dsimp only); omega)
  have hfr := hfr.trans hf3 (fun q hq => by (try simp only [gIn] at hq ⊢); (try dsimp only at hq ⊢); omega)
  refine lv_aload_n hx hb dX8_byQueue_5 rfl (lv_at hl 0 rfl) ?_
  refine g_get S hI hP uX8 rfl (fs := _) (hb5.lt 0 (by decide)) (hb5.2 0 (by decide)) 1 (by decide) q275 rfl (v := .ref (ad (r + 4))) rfl dX8_byQueue_6 ?_
  refine lv_iload_n hx hb dX8_byQueue_9 rfl (lv_at hl 2 rfl) ?_
  refine g_iald S hI hP (f := fun j => nI (((qG (cdS ht) 36 ((fil 36 (exL ht wr) lv), exQ (fil 36 (exL ht wr) lv) wa ke 36)).1) j)) (hb2.lt 0 (by decide)) (hb2.2 0 (by decide)) (c) (hc) (by decide) dX8_byQueue_10 ?_
  exact g_iret S hr hlocks hP hS (⟨rfl, hb1, hb2, hfr⟩) (fun _ _ => rfl) (Nat.le_of_ble_eq_true rfl) (Nat.le_of_ble_eq_true rfl) dX8_byQueue_11
set_option maxHeartbeats 4000000 in
set_option maxRecDepth 100000 in
/-- the volume of the ponds -/
theorem mX8_volume (l : Launch) {E : gE} {ad : Nat → Nat} {N : Nat} {w : Nat → va_E} (b : Nat) (ht dr pg wt wr mo : Nat → Nat) (mc ni po dn : Nat) (r : Nat) (lv wa ke : Nat → Nat) (hb_s : bkP N w b 7 (SHC E ad b ht dr pg wt wr mo mc ni po dn)) (hb_g : bkP N w r 1 (SLC E ad r )) (hb_q : bkP N w (r + 1) 3 (CQC E ad (r + 1) wa ke)) (hb_l : bkP N w (r + 4) 1 (LVC E ad (r + 4) lv)) (hbr : b + 7 ≤ r) (hwr : ∀ k, k < 36 → wr k ≤ 3) (hht : ∀ k, k < 36 → ht k ≤ 99) (hwa : ∀ k, k < 36 → wa k ≤ 1) (hke : ∀ k, k < 36 → ke k < 2 ^ 30) : gMi l yX8_volume (lw_ws yX8_volume cX8_volume 4 (some .int)) ({ frames := 4, cells := 0, slots := 0, locals := 92 } : Room) E ad N w [.ref (ad (r)), .ref (ad (b))] (fun z w' => z = volI (qG (cdS ht) 36 ((fil 36 (exL ht wr) lv), exQ (fil 36 (exL ht wr) lv) wa ke 36)).1 ht 36 ∧ bkP N w' (r + 1) 3 (CQC E ad (r + 1) (qG (cdS ht) 36 ((fil 36 (exL ht wr) lv), exQ (fil 36 (exL ht wr) lv) wa ke 36)).2.1 (qG (cdS ht) 36 ((fil 36 (exL ht wr) lv), exQ (fil 36 (exL ht wr) lv) wa ke 36)).2.2) ∧ bkP N w' (r + 4) 1 (LVC E ad (r + 4) (qG (cdS ht) 36 ((fil 36 (exL ht wr) lv), exQ (fil 36 (exL ht wr) lv) wa ke 36)).1) ∧ gFr (fun q => (r + 1 ≤ q ∧ q < r + 4) ∨ q = r + 4) w w') 0 0 := by
  refine Met.ofW (cc := cX8_volume) (maxL := 4) (ret := (some .int)) (by decide) rfl ?_
  intro p e s m args below meth cd s₁ B hml hv
  obtain ⟨rfl, hI, hP⟩ := hv
  obtain ⟨S, hr, hlocks⟩ := gPre (ws := []) B hml (C := RX8) rfl
  have hx := S.1
  have hb := S.2.1
  have hS : va_S (gA E) s.heap s.heap [] := va_S.rf
  have hfr : gFr (fun q => (r + 1 ≤ q ∧ q < r + 4) ∨ q = r + 4) w w := gFr.rf
  have hl := lv_entry ([.ref (ad (r)), .ref (ad (b))]) (n := 4) (Nat.le_of_ble_eq_true rfl)
  rw [lg_entry_eq]
  generalize (lg_sl ([.ref (ad (r)), .ref (ad (b))]) ++ List.replicate (4 - (lg_sl ([.ref (ad (r)), .ref (ad (b))])).length) Slot.unset).toArray = ls at hl ⊢
  have hl : lv_has ls 4 [(0, .ref (ad (r))), (1, .ref (ad (b)))] := hl
  refine lv_aload_n hx hb dX8_volume_0 rfl (lv_at hl 0 rfl) ?_
  refine lv_aload_n hx hb dX8_volume_1 rfl (lv_at hl 1 rfl) ?_
  refine g_afv (g_runV S hI hP hS (k := 1) (As := [.ref (ad (b))]) (rest := []) (mX8_fillByQueue l b ht dr pg wt wr mo mc ni po dn r lv wa ke hb_s hb_g hb_q hb_l hbr hwr hht hwa hke) q747 q749 q20 q89 q750 rfl rfl (by decide +kernel) ⟨Nat.le_of_ble_eq_true rfl, Nat.le_of_ble_eq_true rfl⟩ rfl (hb_g.lt 0 (by decide)) (hb_g.2 0 (by decide)) rfl hl.1 rfl (Nat.le_of_ble_eq_true rfl) ⟨(Nat.le_of_ble_eq_true rfl), (Nat.le_of_ble_eq_true rfl)⟩ dX8_volume_2) hS (fun w1 H locs hq hP hS => ?_)
  obtain ⟨hb1, hb2, hf3⟩ := hq
  have hb4 := hb_s.fr hf3 (fun k hk => by show ¬ _; (try simp only [gIn]); (try dsimp only); omega)
  have hb5 := hb_g.fr hf3 (fun k hk => by show ¬ _; (try simp only [gIn]); (try dsimp only); omega)
  have hfr := hfr.trans hf3 (fun q hq => by (try simp only [gIn] at hq ⊢); (try dsimp only at hq ⊢); omega)
  refine g_iconst S 0 dX8_volume_5 (by decide +kernel) ?_
  refine lv_istore_n (lv' := [(2, .int (nI (0))), (0, .ref (ad (r))), (1, .ref (ad (b)))]) hx hb dX8_volume_6 rfl hl (by decide) rfl (fun ls hl => ?_)
  refine g_iconst S 0 dX8_volume_7 (by decide +kernel) ?_
  refine lv_istore_n (lv' := [(3, .int (nI (0))), (2, .int (nI (0))), (0, .ref (ad (r))), (1, .ref (ad (b)))]) hx hb dX8_volume_8 rfl hl (by decide) rfl (fun ls hl => ?_)
  have hl : lv_has ls 4 [(3, .int (nI (0))), (2, .int (volI (qG (cdS ht) 36 ((fil 36 (exL ht wr) lv), exQ (fil 36 (exL ht wr) lv) wa ke 36)).1 ht 0)), (0, .ref (ad (r))), (1, .ref (ad (b)))] := by exact hl
  have loop6 : ∀ (n : Nat) (i : Nat), 36 - i < n → (i ≤ 36) → ∀ (w1 : Nat → va_E) (H : Heap) (locs : List Loc), gP E ad N w1 H → va_S (gA E) s.heap H locs → bkP N w1 b 7 (SHC E ad b ht dr pg wt wr mo mc ni po dn) → bkP N w1 r 1 (SLC E ad r ) → bkP N w1 (r + 1) 3 (CQC E ad (r + 1) ((qG (cdS ht) 36 ((fil 36 (exL ht wr) lv), exQ (fil 36 (exL ht wr) lv) wa ke 36)).2.1) ((qG (cdS ht) 36 ((fil 36 (exL ht wr) lv), exQ (fil 36 (exL ht wr) lv) wa ke 36)).2.2)) → bkP N w1 (r + 4) 1 (LVC E ad (r + 4) ((qG (cdS ht) 36 ((fil 36 (exL ht wr) lv), exQ (fil 36 (exL ht wr) lv) wa ke 36)).1)) → gFr (fun q => (r + 1 ≤ q ∧ q < r + 4) ∨ q = r + 4) w w1 → ∀ (ls : Array Slot), lv_has ls 4 [(3, .int (nI (i))), (2, .int (volI (qG (cdS ht) 36 ((fil 36 (exL ht wr) lv), exQ (fil 36 (exL ht wr) lv) wa ke 36)).1 ht i)), (0, .ref (ad (r))), (1, .ref (ad (b)))] → W p l e (headSpec (lw_ws yX8_volume cX8_volume 4 (some .int)) ({ frames := 4, cells := 0, slots := 0, locals := 92 } : Room)).room s m ([.ref (ad (r)), .ref (ad (b))] : List Value).toArray below meth cd H locs 0 0 (MQ below (va_Qi (fun z w' => z = volI (qG (cdS ht) 36 ((fil 36 (exL ht wr) lv), exQ (fil 36 (exL ht wr) lv) wa ke 36)).1 ht 36 ∧ bkP N w' (r + 1) 3 (CQC E ad (r + 1) (qG (cdS ht) 36 ((fil 36 (exL ht wr) lv), exQ (fil 36 (exL ht wr) lv) wa ke 36)).2.1 (qG (cdS ht) 36 ((fil 36 (exL ht wr) lv), exQ (fil 36 (exL ht wr) lv) wa ke 36)).2.2) ∧ bkP N w' (r + 4) 1 (LVC E ad (r + 4) (qG (cdS ht) 36 ((fil 36 (exL ht wr) lv), exQ (fil 36 (exL ht wr) lv) wa ke 36)).1) ∧ gFr (fun q => (r + 1 ≤ q ∧ q < r + 4) ∨ q = r + 4) w w') (gB E ad N) (gA E)) ([.ref (ad (r)), .ref (ad (b))] : List Value).toArray s 0 0 (gA E)) (F0 m 9 ls []) := by
    intro n
    induction n with
    | zero => intro i hmeas; omega
    | succ n ih_loop6 =>
      intro i hmeas hi w1 H locs hP hS hb7 hb8 hb9 hb10 hfr ls hl
      refine lv_iload_n hx hb dX8_volume_9 rfl (lv_at hl 0 rfl) ?_
      refine g_bipush S 36 dX8_volume_10 (by decide +kernel) ?_
      refine g_ge S (a := i) (b := 36) (by omega) (by omega) (tgt := 37) dX8_volume_12 (by decide) (fun h => ?_) (fun h => ?_)
      · have ei : i = 36 := by omega
        rw [ei] at hl
        refine lv_iload_n hx hb dX8_volume_37 rfl (lv_at hl 1 rfl) ?_
        exact g_iret S hr hlocks hP hS (⟨rfl, hb9, hb10, hfr⟩) (fun _ _ => rfl) (Nat.le_of_ble_eq_true rfl) (Nat.le_of_ble_eq_true rfl) dX8_volume_38
      · refine lv_iload_n hx hb dX8_volume_15 rfl (lv_at hl 1 rfl) ?_
        refine lv_aload_n hx hb dX8_volume_16 rfl (lv_at hl 2 rfl) ?_
        refine g_get S hI hP uX8 rfl (fs := _) (hb8.lt 0 (by decide)) (hb8.2 0 (by decide)) 1 (by decide) q275 rfl (v := .ref (ad (r + 4))) rfl dX8_volume_17 ?_
        refine lv_iload_n hx hb dX8_volume_20 rfl (lv_at hl 0 rfl) ?_
        refine g_iald S hI hP (f := fun j => nI (((qG (cdS ht) 36 ((fil 36 (exL ht wr) lv), exQ (fil 36 (exL ht wr) lv) wa ke 36)).1) j)) (hb10.lt 0 (by decide)) (hb10.2 0 (by decide)) (i) (h) (by decide) dX8_volume_21 ?_
        refine lv_aload_n hx hb dX8_volume_22 rfl (lv_at hl 3 rfl) ?_
        refine g_getN S hI hP uX7 rfl (fs := _) (hb7.lt 0 (by decide)) (hb7.2 0 (by decide)) 0 (by decide) q142 rfl (v := .ref (ad (b + 1))) rfl dX8_volume_23 ?_
        refine lv_iload_n hx hb dX8_volume_26 rfl (lv_at hl 0 rfl) ?_
        refine g_iald S hI hP (f := fun j => nI (ht j)) (hb7.lt 1 (by decide)) (hb7.2 1 (by decide)) (i) (h) (by decide) dX8_volume_27 ?_
        refine lv_isub hx hb dX8_volume_28 ?_
        refine lv_iadd hx hb dX8_volume_29 ?_
        refine lv_istore_n (lv' := [(2, .int ((volI (qG (cdS ht) 36 ((fil 36 (exL ht wr) lv), exQ (fil 36 (exL ht wr) lv) wa ke 36)).1 ht i) + (nI (((qG (cdS ht) 36 ((fil 36 (exL ht wr) lv), exQ (fil 36 (exL ht wr) lv) wa ke 36)).1) i) - nI (ht i)))), (3, .int (nI (i))), (0, .ref (ad (r))), (1, .ref (ad (b)))]) hx hb dX8_volume_30 rfl hl (by decide) rfl (fun ls hl => ?_)
        refine lv_iinc (v := nI (i + 1)) (lv' := [(3, .int (nI (i + 1))), (2, .int ((volI (qG (cdS ht) 36 ((fil 36 (exL ht wr) lv), exQ (fil 36 (exL ht wr) lv) wa ke 36)).1 ht i) + (nI (((qG (cdS ht) 36 ((fil 36 (exL ht wr) lv), exQ (fil 36 (exL ht wr) lv) wa ke 36)).1) i) - nI (ht i)))), (0, .ref (ad (r))), (1, .ref (ad (b)))]) hx hb dX8_volume_31 hl (k := 1) rfl (g_inc _ 1 (by decide +kernel)) (by decide) rfl (fun ls hl => ?_)
        refine lv_goto (tgt := 9) hx hb dX8_volume_34 (by decide) ?_
        have hl : lv_has ls 4 [(3, .int (nI (i + 1))), (2, .int (volI (qG (cdS ht) 36 ((fil 36 (exL ht wr) lv), exQ (fil 36 (exL ht wr) lv) wa ke 36)).1 ht (i + 1))), (0, .ref (ad (r))), (1, .ref (ad (b)))] := by exact hl
        exact ih_loop6 (i + 1) (by omega) (by omega) _ _ _ hP hS hb7 hb8 hb9 hb10 hfr ls (lv_sub hl [0, 1, 2, 3] rfl)
  exact loop6 (36 - (0) + 1) (0) (Nat.lt_succ_self _) (by omega) _ _ _ hP hS hb4 hb5 hb1 hb2 hfr ls (lv_sub hl [0, 1, 2, 3] rfl)
set_option maxHeartbeats 4000000 in
set_option maxRecDepth 100000 in
/-- a level by rounds -/
theorem mX8_byRounds (l : Launch) {E : gE} {ad : Nat → Nat} {N : Nat} {w : Nat → va_E} (b : Nat) (ht dr pg wt wr mo : Nat → Nat) (mc ni po dn : Nat) (r : Nat) (lv : Nat → Nat) (c : Nat) (hb_s : bkP N w b 7 (SHC E ad b ht dr pg wt wr mo mc ni po dn)) (hb_g : bkP N w r 1 (SLC E ad r )) (hb_l : bkP N w (r + 4) 1 (LVC E ad (r + 4) lv)) (hbr : b + 7 ≤ r) (hwr : ∀ k, k < 36 → wr k ≤ 3) (hht : ∀ k, k < 36 → ht k ≤ 99) (hc : c < 36) : gMi l yX8_byRounds (lw_ws yX8_byRounds cX8_byRounds 5 (some .int)) ({ frames := 3, cells := 0, slots := 0, locals := 70 } : Room) E ad N w [.ref (ad (r)), .ref (ad (b)), .int (nI (c))] (fun z w' => z = nI ((rdG (cdS ht) 36 ((fil 36 (exL ht wr) lv), true)).1 c) ∧ bkP N w' (r + 4) 1 (LVC E ad (r + 4) (rdG (cdS ht) 36 ((fil 36 (exL ht wr) lv), true)).1) ∧ gFr (gIn (r + 4) 1) w w') 0 0 := by
  refine Met.ofW (cc := cX8_byRounds) (maxL := 5) (ret := (some .int)) (by decide) rfl ?_
  intro p e s m args below meth cd s₁ B hml hv
  obtain ⟨rfl, hI, hP⟩ := hv
  obtain ⟨S, hr, hlocks⟩ := gPre (ws := []) B hml (C := RX8) rfl
  have hx := S.1
  have hb := S.2.1
  have hS : va_S (gA E) s.heap s.heap [] := va_S.rf
  have hfr : gFr (gIn (r + 4) 1) w w := gFr.rf
  have hl := lv_entry ([.ref (ad (r)), .ref (ad (b)), .int (nI (c))]) (n := 5) (Nat.le_of_ble_eq_true rfl)
  rw [lg_entry_eq]
  generalize (lg_sl ([.ref (ad (r)), .ref (ad (b)), .int (nI (c))]) ++ List.replicate (5 - (lg_sl ([.ref (ad (r)), .ref (ad (b)), .int (nI (c))])).length) Slot.unset).toArray = ls at hl ⊢
  have hl : lv_has ls 5 [(0, .ref (ad (r))), (1, .ref (ad (b))), (2, .int (nI (c)))] := hl
  refine lv_aload_n hx hb dX8_byRounds_0 rfl (lv_at hl 0 rfl) ?_
  refine lv_aload_n hx hb dX8_byRounds_1 rfl (lv_at hl 1 rfl) ?_
  refine g_afv (g_runV S hI hP hS (k := 1) (As := [.ref (ad (b))]) (rest := []) (mX8_beginAtExits l b ht dr pg wt wr mo mc ni po dn r lv hb_s hb_g hb_l hbr hwr hht) q751 q753 q21 q89 q754 rfl rfl (by decide +kernel) ⟨Nat.le_of_ble_eq_true rfl, Nat.le_of_ble_eq_true rfl⟩ rfl (hb_g.lt 0 (by decide)) (hb_g.2 0 (by decide)) rfl hl.1 rfl (Nat.le_of_ble_eq_true rfl) ⟨(Nat.le_of_ble_eq_true rfl), (Nat.le_of_ble_eq_true rfl)⟩ dX8_byRounds_2) hS (fun w1 H locs hq hP hS => ?_)
  obtain ⟨hb1, hf2⟩ := hq
  have hb3 := hb_s.fr hf2 (fun k hk => by show ¬ _; (try simp only [gIn]); (try dsimp only); omega)
  have hb4 := hb_g.fr hf2 (fun k hk => by show ¬ _; (try simp only [gIn]); (try dsimp only); omega)
  have hfr := hfr.trans hf2 (fun q hq => by (try simp only [gIn] at hq ⊢); (try dsimp only at hq ⊢); omega)
  have hl0 : ∀ k, k < 36 → (fil 36 (exL ht wr) lv) k ≤ 100 := fun k hk => by rw [fil_in hk]; exact exL_le hht k hk
  refine g_iconst S 1 dX8_byRounds_5 (by decide +kernel) ?_
  refine lv_istore_n (lv' := [(3, .int (nI (1))), (0, .ref (ad (r))), (1, .ref (ad (b))), (2, .int (nI (c)))]) hx hb dX8_byRounds_6 rfl hl (by decide) rfl (fun ls hl => ?_)
  refine g_iconst S 0 dX8_byRounds_7 (by decide +kernel) ?_
  refine lv_istore (lv' := [(4, .int (nI (0))), (3, .int (nI (1))), (0, .ref (ad (r))), (1, .ref (ad (b))), (2, .int (nI (c)))]) hx hb dX8_byRounds_8 hl (by decide) rfl (fun ls hl => ?_)
  have hl : lv_has ls 5 [(4, .int (nI (0))), (3, .int (bI (((fil 36 (exL ht wr) lv), true).2))), (0, .ref (ad (r))), (1, .ref (ad (b))), (2, .int (nI (c)))] := by exact hl
  obtain ⟨zf, hzf⟩ : ∃ zf, zf = rdG (cdS ht) 36 ((fil 36 (exL ht wr) lv), true) := ⟨_, rfl⟩
  have loop5 : ∀ (n : Nat) (i : Nat) (z : (Nat → Nat) × Bool), 36 - i < n → (i ≤ 36) → (∀ k, k < 36 → z.1 k ≤ 100) → (rdG (cdS ht) (36 - i) z = zf) → ∀ (w1 : Nat → va_E) (H : Heap) (locs : List Loc), gP E ad N w1 H → va_S (gA E) s.heap H locs → bkP N w1 b 7 (SHC E ad b ht dr pg wt wr mo mc ni po dn) → bkP N w1 r 1 (SLC E ad r ) → bkP N w1 (r + 4) 1 (LVC E ad (r + 4) z.1) → gFr (gIn (r + 4) 1) w w1 → ∀ (ls : Array Slot), lv_has ls 5 [(4, .int (nI (i))), (3, .int (bI (z.2))), (0, .ref (ad (r))), (1, .ref (ad (b))), (2, .int (nI (c)))] → W p l e (headSpec (lw_ws yX8_byRounds cX8_byRounds 5 (some .int)) ({ frames := 3, cells := 0, slots := 0, locals := 70 } : Room)).room s m ([.ref (ad (r)), .ref (ad (b)), .int (nI (c))] : List Value).toArray below meth cd H locs 0 0 (MQ below (va_Qi (fun z w' => z = nI ((rdG (cdS ht) 36 ((fil 36 (exL ht wr) lv), true)).1 c) ∧ bkP N w' (r + 4) 1 (LVC E ad (r + 4) (rdG (cdS ht) 36 ((fil 36 (exL ht wr) lv), true)).1) ∧ gFr (gIn (r + 4) 1) w w') (gB E ad N) (gA E)) ([.ref (ad (r)), .ref (ad (b)), .int (nI (c))] : List Value).toArray s 0 0 (gA E)) (F0 m 10 ls []) := by
    intro n
    induction n with
    | zero => intro i z hmeas; omega
    | succ n ih_loop5 =>
      intro i z hmeas hi hz he w1 H locs hP hS hb6 hb7 hb8 hfr ls hl
      refine lv_iload hx hb dX8_byRounds_10 (lv_at hl 0 rfl) ?_
      refine g_bipush S 36 dX8_byRounds_12 (by decide +kernel) ?_
      refine g_ge S (a := i) (b := 36) (by omega) (by omega) (tgt := 33) dX8_byRounds_14 (by decide) (fun h => ?_) (fun h => ?_)
      · have ei : 36 - i = 0 := by omega
        rw [ei, rdG_z] at he
        rw [he] at hb8
        rw [hzf] at hb8
        refine lv_aload_n hx hb dX8_byRounds_33 rfl (lv_at hl 2 rfl) ?_
        refine g_get S hI hP uX8 rfl (fs := _) (hb7.lt 0 (by decide)) (hb7.2 0 (by decide)) 1 (by decide) q275 rfl (v := .ref (ad (r + 4))) rfl dX8_byRounds_34 ?_
        refine lv_iload_n hx hb dX8_byRounds_37 rfl (lv_at hl 4 rfl) ?_
        refine g_iald S hI hP (f := fun j => nI (((rdG (cdS ht) 36 ((fil 36 (exL ht wr) lv), true)).1) j)) (hb8.lt 0 (by decide)) (hb8.2 0 (by decide)) (c) (hc) (by decide) dX8_byRounds_38 ?_
        exact g_iret S hr hlocks hP hS (⟨rfl, hb8, hfr⟩) (fun _ _ => rfl) (Nat.le_of_ble_eq_true rfl) (Nat.le_of_ble_eq_true rfl) dX8_byRounds_39
      · have ei : 36 - i = (36 - (i + 1)) + 1 := by omega
        rw [ei, rdG_s] at he
        refine lv_iload_n hx hb dX8_byRounds_17 rfl (lv_at hl 1 rfl) ?_
        refine g_beq S (b := z.2) (tgt := 33) dX8_byRounds_18 (by decide) (fun hf => ?_) (fun hf => ?_)
        · rw [if_neg (by rw [hf]; decide)] at he
          rw [he] at hb8
          rw [hzf] at hb8
          refine lv_aload_n hx hb dX8_byRounds_33 rfl (lv_at hl 2 rfl) ?_
          refine g_get S hI hP uX8 rfl (fs := _) (hb7.lt 0 (by decide)) (hb7.2 0 (by decide)) 1 (by decide) q275 rfl (v := .ref (ad (r + 4))) rfl dX8_byRounds_34 ?_
          refine lv_iload_n hx hb dX8_byRounds_37 rfl (lv_at hl 4 rfl) ?_
          refine g_iald S hI hP (f := fun j => nI (((rdG (cdS ht) 36 ((fil 36 (exL ht wr) lv), true)).1) j)) (hb8.lt 0 (by decide)) (hb8.2 0 (by decide)) (c) (hc) (by decide) dX8_byRounds_38 ?_
          exact g_iret S hr hlocks hP hS (⟨rfl, hb8, hfr⟩) (fun _ _ => rfl) (Nat.le_of_ble_eq_true rfl) (Nat.le_of_ble_eq_true rfl) dX8_byRounds_39
        · rw [if_pos hf] at he
          refine lv_aload_n hx hb dX8_byRounds_21 rfl (lv_at hl 2 rfl) ?_
          refine lv_aload_n hx hb dX8_byRounds_22 rfl (lv_at hl 3 rfl) ?_
          refine g_afi (g_runV S hI hP hS (k := 1) (As := [.ref (ad (b))]) (rest := []) (mX8_improveAll l b ht dr pg wt wr mo mc ni po dn r z.1 hb6 hb7 hb8 hbr hht hz) q1058 q1060 q28 q89 q1061 rfl rfl (by decide +kernel) ⟨Nat.le_of_ble_eq_true rfl, Nat.le_of_ble_eq_true rfl⟩ rfl (hb7.lt 0 (by decide)) (hb7.2 0 (by decide)) rfl hl.1 rfl (Nat.le_of_ble_eq_true rfl) ⟨(Nat.le_of_ble_eq_true rfl), (Nat.le_of_ble_eq_true rfl)⟩ dX8_byRounds_23) hS (fun rz w1 H locs hq hP hS => ?_)
          obtain ⟨hr11, hb9, hf10⟩ := hq
          rw [hr11]
          have hb12 := hb6.fr hf10 (fun k hk => by show ¬ _; (try simp only [gIn]); (try dsimp only); omega)
          have hb13 := hb7.fr hf10 (fun k hk => by show ¬ _; (try simp only [gIn]); (try dsimp only); omega)
          have hfr := hfr.trans hf10 (fun q hq => by (try simp only [gIn] at hq ⊢); (try dsimp only at hq ⊢); omega)
          refine lv_istore_n (lv' := [(3, .int (bI ((iaN (cdS ht) z.1 36).2))), (4, .int (nI (i))), (0, .ref (ad (r))), (1, .ref (ad (b))), (2, .int (nI (c)))]) hx hb dX8_byRounds_26 rfl hl (by decide) rfl (fun ls hl => ?_)
          refine lv_iinc (v := nI (i + 1)) (lv' := [(4, .int (nI (i + 1))), (3, .int (bI ((iaN (cdS ht) z.1 36).2))), (0, .ref (ad (r))), (1, .ref (ad (b))), (2, .int (nI (c)))]) hx hb dX8_byRounds_27 hl (k := 1) rfl (g_inc _ 1 (by decide +kernel)) (by decide) rfl (fun ls hl => ?_)
          refine lv_goto (tgt := 10) hx hb dX8_byRounds_30 (by decide) ?_
          exact ih_loop5 (i + 1) ((iaN (cdS ht) z.1 36)) (by omega) (by omega) (iaN_ok hz (Nat.le_refl _)) (he) _ _ _ hP hS hb12 hb13 hb9 hfr ls (lv_sub hl [0, 1, 2, 3, 4] rfl)
  exact loop5 (36 - (0) + 1) (0) (((fil 36 (exL ht wr) lv), true)) (Nat.lt_succ_self _) (by omega) (hl0) (hzf.symm) _ _ _ hP hS hb3 hb4 hb1 hfr ls (lv_sub hl [0, 1, 2, 3, 4] rfl)
