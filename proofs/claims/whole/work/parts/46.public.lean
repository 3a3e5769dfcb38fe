set_option maxHeartbeats 4000000 in
set_option maxRecDepth 100000 in
/-- islands -/
theorem mX12_islands (l : Launch) {E : gE} {ad : Nat → Nat} {N : Nat} {w : Nat → va_E} (d : Nat) (sv : Nat) (fp dq : Option Nat) (dd : Int32) (dc : Option Nat) (ht dr pg wt wr mo : Nat → Nat) (mc ni po dn : Nat) (re ce : Nat → Nat) (rc tc : Nat) (v : Int32) (hb_d : bkP N w d 1 (DMC E ad d sv fp dq dd dc)) (hb_s : bkP N w (d + 1) 7 (SHC E ad (d + 1) ht dr pg wt wr mo mc ni po dn)) (hb_g : bkP N w (d + 87) 1 (RGC E ad (d + 87) )) (hb_f : bkP N w (d + 88) 3 (FLC E ad (d + 88) re ce rc tc)) (hlt : l.stackTraces = false) (hz : gHx E) (hht : ∀ k, k < 36 → ht k ≤ 99) : gXi l yX12_islands (lw_ws yX12_islands cX12_islands 2 (some .int)) ({ frames := 7, cells := 1, slots := 6, locals := 110 } : Room) E ad N w [.ref (ad (d)), .int (v)] (fun r w' => (∃ lv, inR v 100 = some lv ∧ r = nI (ifN ht lv ((fil 36 (fun _ => 0) re, ce, 0), 0) 36).2) ∧ (∃ (re' ce' : Nat → Nat) (rc' tc' : Nat), bkP N w' (d + 88) 3 (FLC E ad (d + 88) re' ce' rc' tc')) ∧ gFr (gIn (d + 88) 3) w w') (fun xc w' => xc = xIA ∧ inR v 100 = none ∧ w' = w) 1 6 := by
  refine vx_ofW (cc := cX12_islands) (maxL := 2) (ret := (some .int)) (by decide) rfl ?_
  intro p e s m args below meth cd s₁ B hml htab hv
  obtain ⟨rfl, hI, hP⟩ := hv
  obtain ⟨S, hr, hlocks⟩ := gPre (ws := []) B hml (C := RX12) rfl
  have hx := S.1
  have hb := S.2.1
  have hS : va_S (gA E) s.heap s.heap [] := va_S.rf
  have hfr : gFr (gIn (d + 88) 3) w w := gFr.rf
  have hl := lv_entry ([.ref (ad (d)), .int (v)]) (n := 2) (Nat.le_of_ble_eq_true rfl)
  rw [lg_entry_eq]
  generalize (lg_sl ([.ref (ad (d)), .int (v)]) ++ List.replicate (2 - (lg_sl ([.ref (ad (d)), .int (v)])).length) Slot.unset).toArray = ls at hl ⊢
  have hl : lv_has ls 2 [(0, .ref (ad (d))), (1, .int (v))] := hl
  refine lv_iload_n hx hb dX12_islands_0 rfl (lv_at hl 1 rfl) ?_
  refine g_xafv (g_xrunS S hI hP hS (k := 1) (As := [.int (v)]) (rest := []) (mX12_requireLevel l v hlt hz) q930 q931 q82 q932 rfl rfl (by decide +kernel) ⟨(Nat.le_of_ble_eq_true rfl), (Nat.le_of_ble_eq_true rfl)⟩ rfl hl.1 rfl (Nat.le_of_ble_eq_true rfl) ⟨(Nat.le_of_ble_eq_true rfl), (Nat.le_of_ble_eq_true rfl)⟩ dX12_islands_1) hS (fun xc w1 xq ce H locs hpx hP hS hcell hcv hcl => ?_) (fun w1 H locs hq hP hS => ?_)
  · exact g_xout S hI hS htab hlocks hP hcell hcv hcl (hpx) (Nat.le_of_ble_eq_true rfl) (Nat.le_of_ble_eq_true rfl)
  · obtain ⟨lv, hlv, hwl⟩ := hq
    rw [hwl] at hP
    obtain ⟨hlv1, hvl⟩ := inR_some (by decide) hlv
    subst hvl
    refine lv_aload_n hx hb dX12_islands_4 rfl (lv_at hl 0 rfl) ?_
    refine g_get S hI hP uX12 rfl (fs := _) (hb_d.lt 0 (by decide)) (hb_d.2 0 (by decide)) 5 (by decide) q407 rfl (v := .ref (ad (d + 87))) rfl dX12_islands_5 ?_
    refine lv_aload_n hx hb dX12_islands_8 rfl (lv_at hl 0 rfl) ?_
    refine g_get S hI hP uX12 rfl (fs := _) (hb_d.lt 0 (by decide)) (hb_d.2 0 (by decide)) 0 (by decide) q402 rfl (v := .ref (ad (d + 1))) rfl dX12_islands_9 ?_
    refine lv_iload_n hx hb dX12_islands_12 rfl (lv_at hl 1 rfl) ?_
    refine g_afi (g_runV S hI hP hS (k := 2) (As := [.ref (ad (d + 1)), .int (nI (lv))]) (rest := []) (mX5_islandsFlooded l (d + 1) ht dr pg wt wr mo mc ni po dn (d + 87) re ce rc tc lv hb_s hb_g hb_f (by omega) hht (by omega)) q934 q935 q936 q86 q937 rfl rfl (by decide +kernel) ⟨Nat.le_of_ble_eq_true rfl, Nat.le_of_ble_eq_true rfl⟩ rfl (hb_g.lt 0 (by decide)) (hb_g.2 0 (by decide)) rfl hl.1 rfl (Nat.le_of_ble_eq_true rfl) ⟨(Nat.le_of_ble_eq_true rfl), (Nat.le_of_ble_eq_true rfl)⟩ dX12_islands_13) hS (fun rz w1 H locs hq hP hS => ?_)
    obtain ⟨hr3, hb1, hf2⟩ := hq
    rw [hr3]
    have hb4 := hb_d.fr hf2 (fun k hk => by show ¬ _; (try simp only [gIn]); (try dsimp only); omega)
    have hb5 := hb_s.fr hf2 (fun k hk => by show ¬ _; (try simp only [gIn]); (try dsimp only); omega)
    have hb6 := hb_g.fr hf2 (fun k hk => by show ¬ _; (try simp only [gIn]); (try dsimp only); omega)
    have hfr := hfr.trans hf2 (fun q hq => by (try simp only [gIn] at hq ⊢); (try dsimp only at hq ⊢); omega)
    exact vx_ret (g_iret S hr hlocks hP hS (⟨⟨lv, hlv, rfl⟩, ⟨_, _, _, _, hb1⟩, hfr⟩) (fun _ _ => rfl) (Nat.le_of_ble_eq_true rfl) (Nat.le_of_ble_eq_true rfl) dX12_islands_16)
set_option maxHeartbeats 4000000 in
set_option maxRecDepth 100000 in
/-- islands by unions -/
theorem mX12_islandsByUnions (l : Launch) {E : gE} {ad : Nat → Nat} {N : Nat} {w : Nat → va_E} (d : Nat) (sv : Nat) (fp dq : Option Nat) (dd : Int32) (dc : Option Nat) (ht dr pg wt wr mo : Nat → Nat) (mc ni po dn : Nat) (pa ra rk : Nat → Nat) (v : Int32) (hb_d : bkP N w d 1 (DMC E ad d sv fp dq dd dc)) (hb_s : bkP N w (d + 1) 7 (SHC E ad (d + 1) ht dr pg wt wr mo mc ni po dn)) (hb_g : bkP N w (d + 87) 1 (RGC E ad (d + 87) )) (hb_u : bkP N w (d + 91) 2 (UNC E ad (d + 91) pa)) (hb_k : bkP N w (d + 93) 2 (RKC E ad (d + 93) ra rk)) (hlt : l.stackTraces = false) (hz : gHx E) (hht : ∀ k, k < 36 → ht k ≤ 99) : gXi l yX12_islandsByUnions (lw_ws yX12_islandsByUnions cX12_islandsByUnions 2 (some .int)) ({ frames := 7, cells := 1, slots := 6, locals := 110 } : Room) E ad N w [.ref (ad (d)), .int (v)] (fun r w' => (∃ lv, inR v 100 = some lv ∧ r = (iuG ht (rankN ht rk 36) lv 36 0 (fil 36 (fun _ => 0) ra, fil 36 (fun j => j) pa, nI 0)).2.2) ∧ (∃ pa' ra' rk' : Nat → Nat, bkP N w' (d + 91) 2 (UNC E ad (d + 91) pa') ∧ bkP N w' (d + 93) 2 (RKC E ad (d + 93) ra' rk')) ∧ gFr (gIn (d + 91) 4) w w') (fun xc w' => xc = xIA ∧ inR v 100 = none ∧ w' = w) 1 6 := by
  refine vx_ofW (cc := cX12_islandsByUnions) (maxL := 2) (ret := (some .int)) (by decide) rfl ?_
  intro p e s m args below meth cd s₁ B hml htab hv
  obtain ⟨rfl, hI, hP⟩ := hv
  obtain ⟨S, hr, hlocks⟩ := gPre (ws := []) B hml (C := RX12) rfl
  have hx := S.1
  have hb := S.2.1
  have hS : va_S (gA E) s.heap s.heap [] := va_S.rf
  have hfr : gFr (gIn (d + 91) 4) w w := gFr.rf
  have hl := lv_entry ([.ref (ad (d)), .int (v)]) (n := 2) (Nat.le_of_ble_eq_true rfl)
  rw [lg_entry_eq]
  generalize (lg_sl ([.ref (ad (d)), .int (v)]) ++ List.replicate (2 - (lg_sl ([.ref (ad (d)), .int (v)])).length) Slot.unset).toArray = ls at hl ⊢
  have hl : lv_has ls 2 [(0, .ref (ad (d))), (1, .int (v))] := hl
  refine lv_iload_n hx hb dX12_islandsByUnions_0 rfl (lv_at hl 1 rfl) ?_
  refine g_xafv (g_xrunS S hI hP hS (k := 1) (As := [.int (v)]) (rest := []) (mX12_requireLevel l v hlt hz) q930 q931 q82 q932 rfl rfl (by decide +kernel) ⟨(Nat.le_of_ble_eq_true rfl), (Nat.le_of_ble_eq_true rfl)⟩ rfl hl.1 rfl (Nat.le_of_ble_eq_true rfl) ⟨(Nat.le_of_ble_eq_true rfl), (Nat.le_of_ble_eq_true rfl)⟩ dX12_islandsByUnions_1) hS (fun xc w1 xq ce H locs hpx hP hS hcell hcv hcl => ?_) (fun w1 H locs hq hP hS => ?_)
  · exact g_xout S hI hS htab hlocks hP hcell hcv hcl (hpx) (Nat.le_of_ble_eq_true rfl) (Nat.le_of_ble_eq_true rfl)
  · obtain ⟨lv, hlv, hwl⟩ := hq
    rw [hwl] at hP
    obtain ⟨hlv1, hvl⟩ := inR_some (by decide) hlv
    subst hvl
    refine lv_aload_n hx hb dX12_islandsByUnions_4 rfl (lv_at hl 0 rfl) ?_
    refine g_get S hI hP uX12 rfl (fs := _) (hb_d.lt 0 (by decide)) (hb_d.2 0 (by decide)) 5 (by decide) q407 rfl (v := .ref (ad (d + 87))) rfl dX12_islandsByUnions_5 ?_
    refine lv_aload_n hx hb dX12_islandsByUnions_8 rfl (lv_at hl 0 rfl) ?_
    refine g_get S hI hP uX12 rfl (fs := _) (hb_d.lt 0 (by decide)) (hb_d.2 0 (by decide)) 0 (by decide) q402 rfl (v := .ref (ad (d + 1))) rfl dX12_islandsByUnions_9 ?_
    refine lv_iload_n hx hb dX12_islandsByUnions_12 rfl (lv_at hl 1 rfl) ?_
    refine g_afi (g_runV S hI hP hS (k := 2) (As := [.ref (ad (d + 1)), .int (nI (lv))]) (rest := []) (mX5_islandsUnited l (d + 1) ht dr pg wt wr mo mc ni po dn (d + 87) pa ra rk lv hb_s hb_g hb_u hb_k (by omega) hht (by omega)) q962 q963 q964 q86 q965 rfl rfl (by decide +kernel) ⟨Nat.le_of_ble_eq_true rfl, Nat.le_of_ble_eq_true rfl⟩ rfl (hb_g.lt 0 (by decide)) (hb_g.2 0 (by decide)) rfl hl.1 rfl (Nat.le_of_ble_eq_true rfl) ⟨(Nat.le_of_ble_eq_true rfl), (Nat.le_of_ble_eq_true rfl)⟩ dX12_islandsByUnions_13) hS (fun rz w1 H locs hq hP hS => ?_)
    obtain ⟨hr4, hb1, hb2, hf3⟩ := hq
    rw [hr4]
    have hb5 := hb_d.fr hf3 (fun k hk => by show ¬ _; (try simp only [gIn]); (try dsimp only); omega)
    have hb6 := hb_s.fr hf3 (fun k hk => by show ¬ _; (try simp only [gIn]); (try dsimp only); omega)
    have hb7 := hb_g.fr hf3 (fun k hk => by show ¬ _; (try simp only [gIn]); (try dsimp only); omega)
    have hfr := hfr.trans hf3 (fun q hq => by (try simp only [gIn] at hq ⊢); (try dsimp only at hq ⊢); omega)
    exact vx_ret (g_iret S hr hlocks hP hS (⟨⟨lv, hlv, rfl⟩, ⟨_, _, _, hb1, hb2⟩, hfr⟩) (fun _ _ => rfl) (Nat.le_of_ble_eq_true rfl) (Nat.le_of_ble_eq_true rfl) dX12_islandsByUnions_16)
set_option maxHeartbeats 4000000 in
set_option maxRecDepth 100000 in
/-- basins -/
theorem mX12_basins (l : Launch) {E : gE} {ad : Nat → Nat} {N : Nat} {w : Nat → va_E} (d : Nat) (sv : Nat) (fp dq : Option Nat) (dd : Int32) (dc : Option Nat) (ht dr pg wt wr mo : Nat → Nat) (mc ni po dn : Nat) (hb_d : bkP N w d 1 (DMC E ad d sv fp dq dd dc)) (hb_s : bkP N w (d + 1) 7 (SHC E ad (d + 1) ht dr pg wt wr mo mc ni po dn)) (hb_g : bkP N w (d + 87) 1 (RGC E ad (d + 87) )) (hwr : ∀ k, k < 36 → wr k ≤ 3) (hht : ∀ k, k < 36 → ht k ≤ 99) : gMi l yX12_basins (lw_ws yX12_basins cX12_basins 1 (some .int)) ({ frames := 4, cells := 0, slots := 0, locals := 91 } : Room) E ad N w [.ref (ad (d))] (fun r w' => r = nI (cnt (fun k => (flow ht wr k).isNone) 36) ∧ w' = w) 0 0 := by
  refine Met.ofW (cc := cX12_basins) (maxL := 1) (ret := (some .int)) (by decide) rfl ?_
  intro p e s m args below meth cd s₁ B hml hv
  obtain ⟨rfl, hI, hP⟩ := hv
  obtain ⟨S, hr, hlocks⟩ := gPre (ws := []) B hml (C := RX12) rfl
  have hx := S.1
  have hb := S.2.1
  have hS : va_S (gA E) s.heap s.heap [] := va_S.rf
  have hl := lv_entry ([.ref (ad (d))]) (n := 1) (Nat.le_of_ble_eq_true rfl)
  rw [lg_entry_eq]
  generalize (lg_sl ([.ref (ad (d))]) ++ List.replicate (1 - (lg_sl ([.ref (ad (d))])).length) Slot.unset).toArray = ls at hl ⊢
  have hl : lv_has ls 1 [(0, .ref (ad (d)))] := hl
  refine lv_aload_n hx hb dX12_basins_0 rfl (lv_at hl 0 rfl) ?_
  refine g_get S hI hP uX12 rfl (fs := _) (hb_d.lt 0 (by decide)) (hb_d.2 0 (by decide)) 5 (by decide) q407 rfl (v := .ref (ad (d + 87))) rfl dX12_basins_1 ?_
  refine lv_aload_n hx hb dX12_basins_4 rfl (lv_at hl 0 rfl) ?_
  refine g_get S hI hP uX12 rfl (fs := _) (hb_d.lt 0 (by decide)) (hb_d.2 0 (by decide)) 0 (by decide) q402 rfl (v := .ref (ad (d + 1))) rfl dX12_basins_5 ?_
  refine g_roi (g_runV S hI hP hS (k := 1) (As := [.ref (ad (d + 1))]) (rest := []) (mX5_countBasins l (d + 1) ht dr pg wt wr mo mc ni po dn (d + 87) hb_s hb_g hwr hht) q734 q735 q736 q86 q737 rfl rfl (by decide +kernel) ⟨Nat.le_of_ble_eq_true rfl, Nat.le_of_ble_eq_true rfl⟩ rfl (hb_g.lt 0 (by decide)) (hb_g.2 0 (by decide)) rfl hl.1 rfl (Nat.le_of_ble_eq_true rfl) ⟨(Nat.le_of_ble_eq_true rfl), (Nat.le_of_ble_eq_true rfl)⟩ dX12_basins_8) hS (fun H locs hP hS => ?_)
  exact g_iret S hr hlocks hP hS (⟨rfl, rfl⟩) (fun _ _ => rfl) (Nat.le_of_ble_eq_true rfl) (Nat.le_of_ble_eq_true rfl) dX12_basins_11
set_option maxHeartbeats 4000000 in
set_option maxRecDepth 100000 in
/-- basinSize -/
theorem mX12_basinSize (l : Launch) {E : gE} {ad : Nat → Nat} {N : Nat} {w : Nat → va_E} (d : Nat) (sv : Nat) (fp dq : Option Nat) (dd : Int32) (dc : Option Nat) (ht dr pg wt wr mo : Nat → Nat) (mc ni po dn : Nat) (x y : Int32) (hb_d : bkP N w d 1 (DMC E ad d sv fp dq dd dc)) (hb_s : bkP N w (d + 1) 7 (SHC E ad (d + 1) ht dr pg wt wr mo mc ni po dn)) (hb_g : bkP N w (d + 87) 1 (RGC E ad (d + 87) )) (hlt : l.stackTraces = false) (hz : gHx E) (hwr : ∀ k, k < 36 → wr k ≤ 3) (hht : ∀ k, k < 36 → ht k ≤ 99) : gXi l yX12_basinSize (lw_ws yX12_basinSize cX12_basinSize 3 (some .int)) ({ frames := 7, cells := 1, slots := 6, locals := 117 } : Room) E ad N w [.ref (ad (d)), .int (x), .int (y)] (fun r w' => ∃ k, cellV x y = some k ∧ r = nI (cnt (fun j => endN ht wr 36 j == endN ht wr 36 k) 36) ∧ w' = w) (fun xc w' => xc = xIO ∧ (cellV x y = none) ∧ w' = w) 1 6 := by
  refine vx_ofW (cc := cX12_basinSize) (maxL := 3) (ret := (some .int)) (by decide) rfl ?_
  intro p e s m args below meth cd s₁ B hml htab hv
  obtain ⟨rfl, hI, hP⟩ := hv
  obtain ⟨S, hr, hlocks⟩ := gPre (ws := []) B hml (C := RX12) rfl
  have hx := S.1
  have hb := S.2.1
  have hS : va_S (gA E) s.heap s.heap [] := va_S.rf
  have hl := lv_entry ([.ref (ad (d)), .int (x), .int (y)]) (n := 3) (Nat.le_of_ble_eq_true rfl)
  rw [lg_entry_eq]
  generalize (lg_sl ([.ref (ad (d)), .int (x), .int (y)]) ++ List.replicate (3 - (lg_sl ([.ref (ad (d)), .int (x), .int (y)])).length) Slot.unset).toArray = ls at hl ⊢
  have hl : lv_has ls 3 [(0, .ref (ad (d))), (1, .int (x)), (2, .int (y))] := hl
  refine lv_aload_n hx hb dX12_basinSize_0 rfl (lv_at hl 0 rfl) ?_
  refine g_get S hI hP uX12 rfl (fs := _) (hb_d.lt 0 (by decide)) (hb_d.2 0 (by decide)) 5 (by decide) q407 rfl (v := .ref (ad (d + 87))) rfl dX12_basinSize_1 ?_
  refine lv_aload_n hx hb dX12_basinSize_4 rfl (lv_at hl 0 rfl) ?_
  refine g_get S hI hP uX12 rfl (fs := _) (hb_d.lt 0 (by decide)) (hb_d.2 0 (by decide)) 0 (by decide) q402 rfl (v := .ref (ad (d + 1))) rfl dX12_basinSize_5 ?_
  refine lv_iload_n hx hb dX12_basinSize_8 rfl (lv_at hl 1 rfl) ?_
  refine lv_iload_n hx hb dX12_basinSize_9 rfl (lv_at hl 2 rfl) ?_
  refine g_xafi (g_xrunS S hI hP hS (k := 2) (As := [.int (x), .int (y)]) (rest := [.ref (ad (d + 1)), .ref (ad (d + 87))]) (mX12_requiredCell l x y hlt hz) q869 q870 q82 q871 rfl rfl (by decide +kernel) ⟨(Nat.le_of_ble_eq_true rfl), (Nat.le_of_ble_eq_true rfl)⟩ rfl hl.1 rfl (Nat.le_of_ble_eq_true rfl) ⟨(Nat.le_of_ble_eq_true rfl), (Nat.le_of_ble_eq_true rfl)⟩ dX12_basinSize_10) hS (fun xc w1 xq ce H locs hpx hP hS hcell hcv hcl => ?_) (fun rz w1 H locs hq hP hS => ?_)
  · exact g_xout S hI hS htab hlocks hP hcell hcv hcl (hpx) (Nat.le_of_ble_eq_true rfl) (Nat.le_of_ble_eq_true rfl)
  · obtain ⟨k, hck, hrk, hww_k⟩ := hq
    rw [hww_k] at hP
    rw [hrk]
    have hkk := cellV_lt hck
    refine g_roi (g_runV S hI hP hS (k := 2) (As := [.ref (ad (d + 1)), .int (nI (k))]) (rest := []) (mX5_basinFollowed l (d + 1) ht dr pg wt wr mo mc ni po dn (d + 87) k hb_s hb_g hkk hwr hht) q1020 q1021 q1022 q86 q1023 rfl rfl (by decide +kernel) ⟨Nat.le_of_ble_eq_true rfl, Nat.le_of_ble_eq_true rfl⟩ rfl (hb_g.lt 0 (by decide)) (hb_g.2 0 (by decide)) rfl hl.1 rfl (Nat.le_of_ble_eq_true rfl) ⟨(Nat.le_of_ble_eq_true rfl), (Nat.le_of_ble_eq_true rfl)⟩ dX12_basinSize_13) hS (fun H locs hP hS => ?_)
    exact vx_ret (g_iret S hr hlocks hP hS (⟨k, hck, rfl, rfl⟩) (fun _ _ => rfl) (Nat.le_of_ble_eq_true rfl) (Nat.le_of_ble_eq_true rfl) dX12_basinSize_16)
set_option maxHeartbeats 4000000 in
set_option maxRecDepth 100000 in
/-- basinSizeUpwards -/
theorem mX12_basinSizeUpwards (l : Launch) {E : gE} {ad : Nat → Nat} {N : Nat} {w : Nat → va_E} (d : Nat) (sv : Nat) (fp dq : Option Nat) (dd : Int32) (dc : Option Nat) (ht dr pg wt wr mo : Nat → Nat) (mc ni po dn : Nat) (re ce : Nat → Nat) (rc tc : Nat) (x y : Int32) (hb_d : bkP N w d 1 (DMC E ad d sv fp dq dd dc)) (hb_s : bkP N w (d + 1) 7 (SHC E ad (d + 1) ht dr pg wt wr mo mc ni po dn)) (hb_g : bkP N w (d + 87) 1 (RGC E ad (d + 87) )) (hb_f : bkP N w (d + 88) 3 (FLC E ad (d + 88) re ce rc tc)) (hlt : l.stackTraces = false) (hz : gHx E) (hwr : ∀ k, k < 36 → wr k ≤ 3) (hht : ∀ k, k < 36 → ht k ≤ 99) : gXi l yX12_basinSizeUpwards (lw_ws yX12_basinSizeUpwards cX12_basinSizeUpwards 3 (some .int)) ({ frames := 7, cells := 1, slots := 6, locals := 118 } : Room) E ad N w [.ref (ad (d)), .int (x), .int (y)] (fun r w' => (∃ k, cellV x y = some k ∧ r = nI (flF (fun a j => decide (flow ht wr j = some a)) re ce (endN ht wr 36 k)).1.2.2) ∧ (∃ (re' ce' : Nat → Nat) (rc' tc' : Nat), bkP N w' (d + 88) 3 (FLC E ad (d + 88) re' ce' rc' tc')) ∧ gFr (gIn (d + 88) 3) w w') (fun xc w' => xc = xIO ∧ (cellV x y = none) ∧ w' = w) 1 6 := by
  refine vx_ofW (cc := cX12_basinSizeUpwards) (maxL := 3) (ret := (some .int)) (by decide) rfl ?_
  intro p e s m args below meth cd s₁ B hml htab hv
  obtain ⟨rfl, hI, hP⟩ := hv
  obtain ⟨S, hr, hlocks⟩ := gPre (ws := []) B hml (C := RX12) rfl
  have hx := S.1
  have hb := S.2.1
  have hS : va_S (gA E) s.heap s.heap [] := va_S.rf
  have hfr : gFr (gIn (d + 88) 3) w w := gFr.rf
  have hl := lv_entry ([.ref (ad (d)), .int (x), .int (y)]) (n := 3) (Nat.le_of_ble_eq_true rfl)
  rw [lg_entry_eq]
  generalize (lg_sl ([.ref (ad (d)), .int (x), .int (y)]) ++ List.replicate (3 - (lg_sl ([.ref (ad (d)), .int (x), .int (y)])).length) Slot.unset).toArray = ls at hl ⊢
  have hl : lv_has ls 3 [(0, .ref (ad (d))), (1, .int (x)), (2, .int (y))] := hl
  refine lv_aload_n hx hb dX12_basinSizeUpwards_0 rfl (lv_at hl 0 rfl) ?_
  refine g_get S hI hP uX12 rfl (fs := _) (hb_d.lt 0 (by decide)) (hb_d.2 0 (by decide)) 5 (by decide) q407 rfl (v := .ref (ad (d + 87))) rfl dX12_basinSizeUpwards_1 ?_
  refine lv_aload_n hx hb dX12_basinSizeUpwards_4 rfl (lv_at hl 0 rfl) ?_
  refine g_get S hI hP uX12 rfl (fs := _) (hb_d.lt 0 (by decide)) (hb_d.2 0 (by decide)) 0 (by decide) q402 rfl (v := .ref (ad (d + 1))) rfl dX12_basinSizeUpwards_5 ?_
  refine lv_iload_n hx hb dX12_basinSizeUpwards_8 rfl (lv_at hl 1 rfl) ?_
  refine lv_iload_n hx hb dX12_basinSizeUpwards_9 rfl (lv_at hl 2 rfl) ?_
  refine g_xafi (g_xrunS S hI hP hS (k := 2) (As := [.int (x), .int (y)]) (rest := [.ref (ad (d + 1)), .ref (ad (d + 87))]) (mX12_requiredCell l x y hlt hz) q869 q870 q82 q871 rfl rfl (by decide +kernel) ⟨(Nat.le_of_ble_eq_true rfl), (Nat.le_of_ble_eq_true rfl)⟩ rfl hl.1 rfl (Nat.le_of_ble_eq_true rfl) ⟨(Nat.le_of_ble_eq_true rfl), (Nat.le_of_ble_eq_true rfl)⟩ dX12_basinSizeUpwards_10) hS (fun xc w1 xq ce H locs hpx hP hS hcell hcv hcl => ?_) (fun rz w1 H locs hq hP hS => ?_)
  · exact g_xout S hI hS htab hlocks hP hcell hcv hcl (hpx) (Nat.le_of_ble_eq_true rfl) (Nat.le_of_ble_eq_true rfl)
  · obtain ⟨k, hck, hrk, hww_k⟩ := hq
    rw [hww_k] at hP
    rw [hrk]
    have hkk := cellV_lt hck
    refine g_afi (g_runV S hI hP hS (k := 2) (As := [.ref (ad (d + 1)), .int (nI (k))]) (rest := []) (mX5_basinClimbed l (d + 1) ht dr pg wt wr mo mc ni po dn (d + 87) re ce rc tc k hb_s hb_g hb_f (by omega) hwr hht hkk) q1032 q1033 q1034 q86 q1035 rfl rfl (by decide +kernel) ⟨Nat.le_of_ble_eq_true rfl, Nat.le_of_ble_eq_true rfl⟩ rfl (hb_g.lt 0 (by decide)) (hb_g.2 0 (by decide)) rfl hl.1 rfl (Nat.le_of_ble_eq_true rfl) ⟨(Nat.le_of_ble_eq_true rfl), (Nat.le_of_ble_eq_true rfl)⟩ dX12_basinSizeUpwards_13) hS (fun rz w1 H locs hq hP hS => ?_)
    obtain ⟨hr3, hb1, hf2⟩ := hq
    rw [hr3]
    have hb4 := hb_d.fr hf2 (fun k hk => by show ¬ _; (try simp only [gIn]); (try dsimp only); omega)
    have hb5 := hb_s.fr hf2 (fun k hk => by show ¬ _; (try simp only [gIn]); (try dsimp only); omega)
    have hb6 := hb_g.fr hf2 (fun k hk => by show ¬ _; (try simp only [gIn]); (try dsimp only); omega)
    have hfr := hfr.trans hf2 (fun q hq => by (try simp only [gIn] at hq ⊢); (try dsimp only at hq ⊢); omega)
    exact vx_ret (g_iret S hr hlocks hP hS (⟨⟨k, hck, rfl⟩, ⟨_, _, _, _, hb1⟩, hfr⟩) (fun _ _ => rfl) (Nat.le_of_ble_eq_true rfl) (Nat.le_of_ble_eq_true rfl) dX12_basinSizeUpwards_16)
set_option maxHeartbeats 4000000 in
set_option maxRecDepth 100000 in
/-- spillLevel -/
theorem mX12_spillLevel (l : Launch) {E : gE} {ad : Nat → Nat} {N : Nat} {w : Nat → va_E} (d : Nat) (sv : Nat) (fp dq : Option Nat) (dd : Int32) (dc : Option Nat) (ht dr pg wt wr mo : Nat → Nat) (mc ni po dn : Nat) (lv wa ke : Nat → Nat) (x y : Int32) (hb_d : bkP N w d 1 (DMC E ad d sv fp dq dd dc)) (hb_s : bkP N w (d + 1) 7 (SHC E ad (d + 1) ht dr pg wt wr mo mc ni po dn)) (hb_p : bkP N w (d + 95) 1 (SLC E ad (d + 95) )) (hb_q : bkP N w (d + 96) 3 (CQC E ad (d + 96) wa ke)) (hb_l : bkP N w (d + 99) 1 (LVC E ad (d + 99) lv)) (hlt : l.stackTraces = false) (hz : gHx E) (hwr : ∀ k, k < 36 → wr k ≤ 3) (hht : ∀ k, k < 36 → ht k ≤ 99) (hwa : ∀ k, k < 36 → wa k ≤ 1) (hke : ∀ k, k < 36 → ke k < 2 ^ 30) : gXi l yX12_spillLevel (lw_ws yX12_spillLevel cX12_spillLevel 3 (some .int)) ({ frames := 7, cells := 1, slots := 6, locals := 114 } : Room) E ad N w [.ref (ad (d)), .int (x), .int (y)] (fun r w' => (∃ k, cellV x y = some k ∧ r = nI ((qG (cdS ht) 36 (fil 36 (exL ht wr) lv, exQ (fil 36 (exL ht wr) lv) wa ke 36)).1 k)) ∧ (bkP N w' (d + 96) 3 (CQC E ad (d + 96) (qG (cdS ht) 36 (fil 36 (exL ht wr) lv, exQ (fil 36 (exL ht wr) lv) wa ke 36)).2.1 (qG (cdS ht) 36 (fil 36 (exL ht wr) lv, exQ (fil 36 (exL ht wr) lv) wa ke 36)).2.2) ∧ ∃ lv' : Nat → Nat, bkP N w' (d + 99) 1 (LVC E ad (d + 99) lv')) ∧ gFr (fun q => (d + 96 ≤ q ∧ q < d + 99) ∨ q = d + 99) w w') (fun xc w' => xc = xIO ∧ (cellV x y = none) ∧ w' = w) 1 6 := by
  refine vx_ofW (cc := cX12_spillLevel) (maxL := 3) (ret := (some .int)) (by decide) rfl ?_
  intro p e s m args below meth cd s₁ B hml htab hv
  obtain ⟨rfl, hI, hP⟩ := hv
  obtain ⟨S, hr, hlocks⟩ := gPre (ws := []) B hml (C := RX12) rfl
  have hx := S.1
  have hb := S.2.1
  have hS : va_S (gA E) s.heap s.heap [] := va_S.rf
  have hfr : gFr (fun q => (d + 96 ≤ q ∧ q < d + 99) ∨ q = d + 99) w w := gFr.rf
  have hl := lv_entry ([.ref (ad (d)), .int (x), .int (y)]) (n := 3) (Nat.le_of_ble_eq_true rfl)
  rw [lg_entry_eq]
  generalize (lg_sl ([.ref (ad (d)), .int (x), .int (y)]) ++ List.replicate (3 - (lg_sl ([.ref (ad (d)), .int (x), .int (y)])).length) Slot.unset).toArray = ls at hl ⊢
  have hl : lv_has ls 3 [(0, .ref (ad (d))), (1, .int (x)), (2, .int (y))] := hl
  refine lv_aload_n hx hb dX12_spillLevel_0 rfl (lv_at hl 0 rfl) ?_
  refine g_get S hI hP uX12 rfl (fs := _) (hb_d.lt 0 (by decide)) (hb_d.2 0 (by decide)) 6 (by decide) q408 rfl (v := .ref (ad (d + 95))) rfl dX12_spillLevel_1 ?_
  refine lv_aload_n hx hb dX12_spillLevel_4 rfl (lv_at hl 0 rfl) ?_
  refine g_get S hI hP uX12 rfl (fs := _) (hb_d.lt 0 (by decide)) (hb_d.2 0 (by decide)) 0 (by decide) q402 rfl (v := .ref (ad (d + 1))) rfl dX12_spillLevel_5 ?_
  refine lv_iload_n hx hb dX12_spillLevel_8 rfl (lv_at hl 1 rfl) ?_
  refine lv_iload_n hx hb dX12_spillLevel_9 rfl (lv_at hl 2 rfl) ?_
  refine g_xafi (g_xrunS S hI hP hS (k := 2) (As := [.int (x), .int (y)]) (rest := [.ref (ad (d + 1)), .ref (ad (d + 95))]) (mX12_requiredCell l x y hlt hz) q869 q870 q82 q871 rfl rfl (by decide +kernel) ⟨(Nat.le_of_ble_eq_true rfl), (Nat.le_of_ble_eq_true rfl)⟩ rfl hl.1 rfl (Nat.le_of_ble_eq_true rfl) ⟨(Nat.le_of_ble_eq_true rfl), (Nat.le_of_ble_eq_true rfl)⟩ dX12_spillLevel_10) hS (fun xc w1 xq ce H locs hpx hP hS hcell hcv hcl => ?_) (fun rz w1 H locs hq hP hS => ?_)
  · exact g_xout S hI hS htab hlocks hP hcell hcv hcl (hpx) (Nat.le_of_ble_eq_true rfl) (Nat.le_of_ble_eq_true rfl)
  · obtain ⟨k, hck, hrk, hww_k⟩ := hq
    rw [hww_k] at hP
    rw [hrk]
    have hkk := cellV_lt hck
    refine g_afi (g_runV S hI hP hS (k := 2) (As := [.ref (ad (d + 1)), .int (nI (k))]) (rest := []) (mX8_byQueue l (d + 1) ht dr pg wt wr mo mc ni po dn (d + 95) lv wa ke k hb_s hb_p hb_q hb_l (by omega) hwr hht hwa hke hkk) q1043 q1044 q1045 q89 q1046 rfl rfl (by decide +kernel) ⟨Nat.le_of_ble_eq_true rfl, Nat.le_of_ble_eq_true rfl⟩ rfl (hb_p.lt 0 (by decide)) (hb_p.2 0 (by decide)) rfl hl.1 rfl (Nat.le_of_ble_eq_true rfl) ⟨(Nat.le_of_ble_eq_true rfl), (Nat.le_of_ble_eq_true rfl)⟩ dX12_spillLevel_13) hS (fun rz w1 H locs hq hP hS => ?_)
    obtain ⟨hr4, hb1, hb2, hf3⟩ := hq
    rw [hr4]
    have hb5 := hb_d.fr hf3 (fun k hk => by show ¬ _; (try simp only [gIn]); (try dsimp only); omega)
    have hb6 := hb_s.fr hf3 (fun k hk => by show ¬ _; (try simp only [gIn]); (try dsimp only); omega)
    have hb7 := hb_p.fr hf3 (fun k hk => by show ¬ _; (try simp only [gIn]); (try dsimp only); omega)
    have hfr := hfr.trans hf3 (fun q hq => by (try simp only [gIn] at hq ⊢); (try dsimp only at hq ⊢); omega)
    exact vx_ret (g_iret S hr hlocks hP hS (⟨⟨k, hck, rfl⟩, ⟨hb1, _, hb2⟩, hfr⟩) (fun _ _ => rfl) (Nat.le_of_ble_eq_true rfl) (Nat.le_of_ble_eq_true rfl) dX12_spillLevel_16)
set_option maxHeartbeats 4000000 in
set_option maxRecDepth 100000 in
/-- pondVolume -/
theorem mX12_pondVolume (l : Launch) {E : gE} {ad : Nat → Nat} {N : Nat} {w : Nat → va_E} (d : Nat) (sv : Nat) (fp dq : Option Nat) (dd : Int32) (dc : Option Nat) (ht dr pg wt wr mo : Nat → Nat) (mc ni po dn : Nat) (lv wa ke : Nat → Nat) (hb_d : bkP N w d 1 (DMC E ad d sv fp dq dd dc)) (hb_s : bkP N w (d + 1) 7 (SHC E ad (d + 1) ht dr pg wt wr mo mc ni po dn)) (hb_p : bkP N w (d + 95) 1 (SLC E ad (d + 95) )) (hb_q : bkP N w (d + 96) 3 (CQC E ad (d + 96) wa ke)) (hb_l : bkP N w (d + 99) 1 (LVC E ad (d + 99) lv)) (hwr : ∀ k, k < 36 → wr k ≤ 3) (hht : ∀ k, k < 36 → ht k ≤ 99) (hwa : ∀ k, k < 36 → wa k ≤ 1) (hke : ∀ k, k < 36 → ke k < 2 ^ 30) : gMi l yX12_pondVolume (lw_ws yX12_pondVolume cX12_pondVolume 1 (some .int)) ({ frames := 5, cells := 0, slots := 0, locals := 115 } : Room) E ad N w [.ref (ad (d))] (fun r w' => r = volI (qG (cdS ht) 36 (fil 36 (exL ht wr) lv, exQ (fil 36 (exL ht wr) lv) wa ke 36)).1 ht 36 ∧ (bkP N w' (d + 96) 3 (CQC E ad (d + 96) (qG (cdS ht) 36 (fil 36 (exL ht wr) lv, exQ (fil 36 (exL ht wr) lv) wa ke 36)).2.1 (qG (cdS ht) 36 (fil 36 (exL ht wr) lv, exQ (fil 36 (exL ht wr) lv) wa ke 36)).2.2) ∧ ∃ lv' : Nat → Nat, bkP N w' (d + 99) 1 (LVC E ad (d + 99) lv')) ∧ gFr (fun q => (d + 96 ≤ q ∧ q < d + 99) ∨ q = d + 99) w w') 0 0 := by
  refine Met.ofW (cc := cX12_pondVolume) (maxL := 1) (ret := (some .int)) (by decide) rfl ?_
  intro p e s m args below meth cd s₁ B hml hv
  obtain ⟨rfl, hI, hP⟩ := hv
  obtain ⟨S, hr, hlocks⟩ := gPre (ws := []) B hml (C := RX12) rfl
  have hx := S.1
  have hb := S.2.1
  have hS : va_S (gA E) s.heap s.heap [] := va_S.rf
  have hfr : gFr (fun q => (d + 96 ≤ q ∧ q < d + 99) ∨ q = d + 99) w w := gFr.rf
  have hl := lv_entry ([.ref (ad (d))]) (n := 1) (Nat.le_of_ble_eq_true rfl)
  rw [lg_entry_eq]
  generalize (lg_sl ([.ref (ad (d))]) ++ List.replicate (1 - (lg_sl ([.ref (ad (d))])).length) Slot.unset).toArray = ls at hl ⊢
  have hl : lv_has ls 1 [(0, .ref (ad (d)))] := hl
  refine lv_aload_n hx hb dX12_pondVolume_0 rfl (lv_at hl 0 rfl) ?_
  refine g_get S hI hP uX12 rfl (fs := _) (hb_d.lt 0 (by decide)) (hb_d.2 0 (by decide)) 6 (by decide) q408 rfl (v := .ref (ad (d + 95))) rfl dX12_pondVolume_1 ?_
  refine lv_aload_n hx hb dX12_pondVolume_4 rfl (lv_at hl 0 rfl) ?_
  refine g_get S hI hP uX12 rfl (fs := _) (hb_d.lt 0 (by decide)) (hb_d.2 0 (by decide)) 0 (by decide) q402 rfl (v := .ref (ad (d + 1))) rfl dX12_pondVolume_5 ?_
  refine g_afi (g_runV S hI hP hS (k := 1) (As := [.ref (ad (d + 1))]) (rest := []) (mX8_volume l (d + 1) ht dr pg wt wr mo mc ni po dn (d + 95) lv wa ke hb_s hb_p hb_q hb_l (by omega) hwr hht hwa hke) q743 q744 q745 q89 q746 rfl rfl (by decide +kernel) ⟨Nat.le_of_ble_eq_true rfl, Nat.le_of_ble_eq_true rfl⟩ rfl (hb_p.lt 0 (by decide)) (hb_p.2 0 (by decide)) rfl hl.1 rfl (Nat.le_of_ble_eq_true rfl) ⟨(Nat.le_of_ble_eq_true rfl), (Nat.le_of_ble_eq_true rfl)⟩ dX12_pondVolume_8) hS (fun rz w1 H locs hq hP hS => ?_)
  obtain ⟨hr4, hb1, hb2, hf3⟩ := hq
  rw [hr4]
  have hb5 := hb_d.fr hf3 (fun k hk => by show ¬ _; (try simp only [gIn]); (try dsimp only); omega)
  have hb6 := hb_s.fr hf3 (fun k hk => by show ¬ _; (try simp only [gIn]); (try dsimp only); omega)
  have hb7 := hb_p.fr hf3 (fun k hk => by show ¬ _; (try simp only [gIn]); (try dsimp only); omega)
  have hfr := hfr.trans hf3 (fun q hq => by (try simp only [gIn] at hq ⊢); (try dsimp only at hq ⊢); omega)
  exact g_iret S hr hlocks hP hS (⟨rfl, ⟨hb1, _, hb2⟩, hfr⟩) (fun _ _ => rfl) (Nat.le_of_ble_eq_true rfl) (Nat.le_of_ble_eq_true rfl) dX12_pondVolume_11
set_option maxHeartbeats 4000000 in
set_option maxRecDepth 100000 in
/-- spillLevelByRounds -/
theorem mX12_spillLevelByRounds (l : Launch) {E : gE} {ad : Nat → Nat} {N : Nat} {w : Nat → va_E} (d : Nat) (sv : Nat) (fp dq : Option Nat) (dd : Int32) (dc : Option Nat) (ht dr pg wt wr mo : Nat → Nat) (mc ni po dn : Nat) (lv : Nat → Nat) (x y : Int32) (hb_d : bkP N w d 1 (DMC E ad d sv fp dq dd dc)) (hb_s : bkP N w (d + 1) 7 (SHC E ad (d + 1) ht dr pg wt wr mo mc ni po dn)) (hb_p : bkP N w (d + 95) 1 (SLC E ad (d + 95) )) (hb_l : bkP N w (d + 99) 1 (LVC E ad (d + 99) lv)) (hlt : l.stackTraces = false) (hz : gHx E) (hwr : ∀ k, k < 36 → wr k ≤ 3) (hht : ∀ k, k < 36 → ht k ≤ 99) : gXi l yX12_spillLevelByRounds (lw_ws yX12_spillLevelByRounds cX12_spillLevelByRounds 3 (some .int)) ({ frames := 7, cells := 1, slots := 6, locals := 112 } : Room) E ad N w [.ref (ad (d)), .int (x), .int (y)] (fun r w' => (∃ k, cellV x y = some k ∧ r = nI ((rdG (cdS ht) 36 (fil 36 (exL ht wr) lv, true)).1 k)) ∧ (∃ lv' : Nat → Nat, bkP N w' (d + 99) 1 (LVC E ad (d + 99) lv')) ∧ gFr (gIn (d + 99) 1) w w') (fun xc w' => xc = xIO ∧ (cellV x y = none) ∧ w' = w) 1 6 := by
  refine vx_ofW (cc := cX12_spillLevelByRounds) (maxL := 3) (ret := (some .int)) (by decide) rfl ?_
  intro p e s m args below meth cd s₁ B hml htab hv
  obtain ⟨rfl, hI, hP⟩ := hv
  obtain ⟨S, hr, hlocks⟩ := gPre (ws := []) B hml (C := RX12) rfl
  have hx := S.1
  have hb := S.2.1
  have hS : va_S (gA E) s.heap s.heap [] := va_S.rf
  have hfr : gFr (gIn (d + 99) 1) w w := gFr.rf
  have hl := lv_entry ([.ref (ad (d)), .int (x), .int (y)]) (n := 3) (Nat.le_of_ble_eq_true rfl)
  rw [lg_entry_eq]
  generalize (lg_sl ([.ref (ad (d)), .int (x), .int (y)]) ++ List.replicate (3 - (lg_sl ([.ref (ad (d)), .int (x), .int (y)])).length) Slot.unset).toArray = ls at hl ⊢
  have hl : lv_has ls 3 [(0, .ref (ad (d))), (1, .int (x)), (2, .int (y))] := hl
  refine lv_aload_n hx hb dX12_spillLevelByRounds_0 rfl (lv_at hl 0 rfl) ?_
  refine g_get S hI hP uX12 rfl (fs := _) (hb_d.lt 0 (by decide)) (hb_d.2 0 (by decide)) 6 (by decide) q408 rfl (v := .ref (ad (d + 95))) rfl dX12_spillLevelByRounds_1 ?_
  refine lv_aload_n hx hb dX12_spillLevelByRounds_4 rfl (lv_at hl 0 rfl) ?_
  refine g_get S hI hP uX12 rfl (fs := _) (hb_d.lt 0 (by decide)) (hb_d.2 0 (by decide)) 0 (by decide) q402 rfl (v := .ref (ad (d + 1))) rfl dX12_spillLevelByRounds_5 ?_
  refine lv_iload_n hx hb dX12_spillLevelByRounds_8 rfl (lv_at hl 1 rfl) ?_
  refine lv_iload_n hx hb dX12_spillLevelByRounds_9 rfl (lv_at hl 2 rfl) ?_
  refine g_xafi (g_xrunS S hI hP hS (k := 2) (As := [.int (x), .int (y)]) (rest := [.ref (ad (d + 1)), .ref (ad (d + 95))]) (mX12_requiredCell l x y hlt hz) q869 q870 q82 q871 rfl rfl (by decide +kernel) ⟨(Nat.le_of_ble_eq_true rfl), (Nat.le_of_ble_eq_true rfl)⟩ rfl hl.1 rfl (Nat.le_of_ble_eq_true rfl) ⟨(Nat.le_of_ble_eq_true rfl), (Nat.le_of_ble_eq_true rfl)⟩ dX12_spillLevelByRounds_10) hS (fun xc w1 xq ce H locs hpx hP hS hcell hcv hcl => ?_) (fun rz w1 H locs hq hP hS => ?_)
  · exact g_xout S hI hS htab hlocks hP hcell hcv hcl (hpx) (Nat.le_of_ble_eq_true rfl) (Nat.le_of_ble_eq_true rfl)
  · obtain ⟨k, hck, hrk, hww_k⟩ := hq
    rw [hww_k] at hP
    rw [hrk]
    have hkk := cellV_lt hck
    refine g_afi (g_runV S hI hP hS (k := 2) (As := [.ref (ad (d + 1)), .int (nI (k))]) (rest := []) (mX8_byRounds l (d + 1) ht dr pg wt wr mo mc ni po dn (d + 95) lv k hb_s hb_p hb_l (by omega) hwr hht hkk) q1054 q1055 q1056 q89 q1057 rfl rfl (by decide +kernel) ⟨Nat.le_of_ble_eq_true rfl, Nat.le_of_ble_eq_true rfl⟩ rfl (hb_p.lt 0 (by decide)) (hb_p.2 0 (by decide)) rfl hl.1 rfl (Nat.le_of_ble_eq_true rfl) ⟨(Nat.le_of_ble_eq_true rfl), (Nat.le_of_ble_eq_true rfl)⟩ dX12_spillLevelByRounds_13) hS (fun rz w1 H locs hq hP hS => ?_)
    obtain ⟨hr3, hb1, hf2⟩ := hq
    rw [hr3]
    have hb4 := hb_d.fr hf2 (fun k hk => by show ¬ _; (try simp only [gIn]); (try dsimp only); omega)
    have hb5 := hb_s.fr hf2 (fun k hk => by show ¬ _; (try simp only [gIn]); (try dsimp only); omega)
    have hb6 := hb_p.fr hf2 (fun k hk => by show ¬ _; (try simp only [gIn]); (try dsimp only); omega)
    have hfr := hfr.trans hf2 (fun q hq => by (try simp only [gIn] at hq ⊢); (try dsimp only at hq ⊢); omega)
    exact vx_ret (g_iret S hr hlocks hP hS (⟨⟨k, hck, rfl⟩, ⟨_, hb1⟩, hfr⟩) (fun _ _ => rfl) (Nat.le_of_ble_eq_true rfl) (Nat.le_of_ble_eq_true rfl) dX12_spillLevelByRounds_16)
set_option maxHeartbeats 4000000 in
set_option maxRecDepth 100000 in
/-- routeCost -/
theorem mX12_routeCost (l : Launch) {E : gE} {ad : Nat → Nat} {N : Nat} {w : Nat → va_E} (d : Nat) (sv : Nat) (fp dq : Option Nat) (dd : Int32) (dc : Option Nat) (ht dr pg wt wr mo : Nat → Nat) (mc ni po dn : Nat) (pn : Nat) (lv wa ke : Nat → Nat) (x y x2 y2 : Int32) (hb_d : bkP N w d 1 (DMC E ad d sv fp dq dd dc)) (hb_s : bkP N w (d + 1) 7 (SHC E ad (d + 1) ht dr pg wt wr mo mc ni po dn)) (hb_r : bkP N w (d + 100) 1 (RTC E ad (d + 100) pn)) (hb_q : bkP N w (d + 101) 3 (CQC E ad (d + 101) wa ke)) (hb_l : bkP N w (d + 109) 1 (LVC E ad (d + 109) lv)) (hlt : l.stackTraces = false) (hz : gHx E) (hwr : ∀ k, k < 36 → wr k ≤ 3) (hht : ∀ k, k < 36 → ht k ≤ 99) (hwa : ∀ k, k < 36 → wa k ≤ 1) (hke : ∀ k, k < 36 → ke k < 2 ^ 30) : gXi l yX12_routeCost (lw_ws yX12_routeCost cX12_routeCost 7 (some .int)) ({ frames := 7, cells := 3, slots := 18, locals := 116 } : Room) E ad N w [.ref (ad (d)), .int (x), .int (y), .int (x2), .int (y2)] (fun r w' => (∃ a b1, cellV x y = some a ∧ cellV x2 y2 = some b1 ∧ r = (if 3 ≤ wr a then -1 else if 3 ≤ wr b1 then -1 else kcI ((qG (cdR ht wr) 36 ((va_up (fil 36 (fun _ => 1000000) lv) a 0), va_up wa a 1, va_up ke a 0)).1 b1)) ∧ r ≠ -1 ∧ (∃ lv' wa' ke' : Nat → Nat, (if 3 ≤ wr a ∨ 3 ≤ wr b1 then wa' = wa ∧ ke' = ke else wa' = (qG (cdR ht wr) 36 ((va_up (fil 36 (fun _ => 1000000) lv) a 0), va_up wa a 1, va_up ke a 0)).2.1 ∧ ke' = (qG (cdR ht wr) 36 ((va_up (fil 36 (fun _ => 1000000) lv) a 0), va_up wa a 1, va_up ke a 0)).2.2) ∧ bkP N w' (d + 101) 3 (CQC E ad (d + 101) wa' ke') ∧ bkP N w' (d + 109) 1 (LVC E ad (d + 109) lv'))) ∧ gFr (fun q => (d + 101 ≤ q ∧ q < d + 104) ∨ q = d + 109) w w') (fun xc w' => (xc = xIO ∧ (cellV x y = none ∨ cellV x2 y2 = none) ∧ w' = w) ∨ (xc = xNS ∧ (∃ a b1, cellV x y = some a ∧ cellV x2 y2 = some b1 ∧ (if 3 ≤ wr a then -1 else if 3 ≤ wr b1 then -1 else kcI ((qG (cdR ht wr) 36 ((va_up (fil 36 (fun _ => 1000000) lv) a 0), va_up wa a 1, va_up ke a 0)).1 b1)) = -1 ∧ (∃ lv' wa' ke' : Nat → Nat, (if 3 ≤ wr a ∨ 3 ≤ wr b1 then wa' = wa ∧ ke' = ke else wa' = (qG (cdR ht wr) 36 ((va_up (fil 36 (fun _ => 1000000) lv) a 0), va_up wa a 1, va_up ke a 0)).2.1 ∧ ke' = (qG (cdR ht wr) 36 ((va_up (fil 36 (fun _ => 1000000) lv) a 0), va_up wa a 1, va_up ke a 0)).2.2) ∧ bkP N w' (d + 101) 3 (CQC E ad (d + 101) wa' ke') ∧ bkP N w' (d + 109) 1 (LVC E ad (d + 109) lv'))) ∧ gFr (fun q => (d + 101 ≤ q ∧ q < d + 104) ∨ q = d + 109) w w')) 3 18 := by
  refine vx_ofW (cc := cX12_routeCost) (maxL := 7) (ret := (some .int)) (by decide) rfl ?_
  intro p e s m args below meth cd s₁ B hml htab hv
  obtain ⟨rfl, hI, hP⟩ := hv
  obtain ⟨S, hr, hlocks⟩ := gPre (ws := []) B hml (C := RX12) rfl
  have hx := S.1
  have hb := S.2.1
  have hS : va_S (gA E) s.heap s.heap [] := va_S.rf
  have hfr : gFr (fun q => (d + 101 ≤ q ∧ q < d + 104) ∨ q = d + 109) w w := gFr.rf
  have hl := lv_entry ([.ref (ad (d)), .int (x), .int (y), .int (x2), .int (y2)]) (n := 7) (Nat.le_of_ble_eq_true rfl)
  rw [lg_entry_eq]
  generalize (lg_sl ([.ref (ad (d)), .int (x), .int (y), .int (x2), .int (y2)]) ++ List.replicate (7 - (lg_sl ([.ref (ad (d)), .int (x), .int (y), .int (x2), .int (y2)])).length) Slot.unset).toArray = ls at hl ⊢
  have hl : lv_has ls 7 [(0, .ref (ad (d))), (1, .int (x)), (2, .int (y)), (3, .int (x2)), (4, .int (y2))] := hl
  refine lv_iload_n hx hb dX12_routeCost_0 rfl (lv_at hl 1 rfl) ?_
  refine lv_iload_n hx hb dX12_routeCost_1 rfl (lv_at hl 2 rfl) ?_
  refine g_xafi (g_xrunS S hI hP hS (k := 2) (As := [.int (x), .int (y)]) (rest := []) (mX12_requiredCell l x y hlt hz) q869 q870 q82 q871 rfl rfl (by decide +kernel) ⟨(Nat.le_of_ble_eq_true rfl), (Nat.le_of_ble_eq_true rfl)⟩ rfl hl.1 rfl (Nat.le_of_ble_eq_true rfl) ⟨(Nat.le_of_ble_eq_true rfl), (Nat.le_of_ble_eq_true rfl)⟩ dX12_routeCost_2) hS (fun xc w1 xq ce H locs hpx hP hS hcell hcv hcl => ?_) (fun rz w1 H locs hq hP hS => ?_)
  · exact g_xout S hI hS htab hlocks hP hcell hcv hcl (Or.inl ⟨hpx.1, Or.inl hpx.2.1, hpx.2.2⟩) (Nat.le_of_ble_eq_true rfl) (Nat.le_of_ble_eq_true rfl)
  · obtain ⟨a, hca, hra, hww_a⟩ := hq
    rw [hww_a] at hP
    rw [hra]
    have hka := cellV_lt hca
    refine lv_istore (lv' := [(5, .int (nI (a))), (0, .ref (ad (d))), (1, .int (x)), (2, .int (y)), (3, .int (x2)), (4, .int (y2))]) hx hb dX12_routeCost_5 hl (by decide) rfl (fun ls hl => ?_)
    refine lv_iload_n hx hb dX12_routeCost_7 rfl (lv_at hl 4 rfl) ?_
    refine lv_iload hx hb dX12_routeCost_8 (lv_at hl 5 rfl) ?_
    refine g_xafi (g_xrunS S hI hP hS (k := 2) (As := [.int (x2), .int (y2)]) (rest := []) (mX12_requiredCell l x2 y2 hlt hz) q869 q870 q82 q871 rfl rfl (by decide +kernel) ⟨(Nat.le_of_ble_eq_true rfl), (Nat.le_of_ble_eq_true rfl)⟩ rfl hl.1 rfl (Nat.le_of_ble_eq_true rfl) ⟨(Nat.le_of_ble_eq_true rfl), (Nat.le_of_ble_eq_true rfl)⟩ dX12_routeCost_10) hS (fun xc w1 xq ce H locs hpx hP hS hcell hcv hcl => ?_) (fun rz w1 H locs hq hP hS => ?_)
    · exact g_xout S hI hS htab hlocks hP hcell hcv hcl (Or.inl ⟨hpx.1, Or.inr hpx.2.1, hpx.2.2⟩) (Nat.le_of_ble_eq_true rfl) (Nat.le_of_ble_eq_true rfl)
    · obtain ⟨b1, hcb1, hrb1, hww_b1⟩ := hq
      rw [hww_b1] at hP
      rw [hrb1]
      have hkb1 := cellV_lt hcb1
      refine lv_istore (lv' := [(6, .int (nI (b1))), (5, .int (nI (a))), (0, .ref (ad (d))), (1, .int (x)), (2, .int (y)), (3, .int (x2)), (4, .int (y2))]) hx hb dX12_routeCost_13 hl (by decide) rfl (fun ls hl => ?_)
      refine lv_aload_n hx hb dX12_routeCost_15 rfl (lv_at hl 2 rfl) ?_
      refine g_get S hI hP uX12 rfl (fs := _) (hb_d.lt 0 (by decide)) (hb_d.2 0 (by decide)) 7 (by decide) q409 rfl (v := .ref (ad (d + 100))) rfl dX12_routeCost_16 ?_
      refine lv_aload_n hx hb dX12_routeCost_19 rfl (lv_at hl 2 rfl) ?_
      refine g_get S hI hP uX12 rfl (fs := _) (hb_d.lt 0 (by decide)) (hb_d.2 0 (by decide)) 0 (by decide) q402 rfl (v := .ref (ad (d + 1))) rfl dX12_routeCost_20 ?_
      refine lv_iload hx hb dX12_routeCost_23 (lv_at hl 1 rfl) ?_
      refine lv_iload hx hb dX12_routeCost_25 (lv_at hl 0 rfl) ?_
      refine g_afi (g_runV S hI hP hS (k := 3) (As := [.ref (ad (d + 1)), .int (nI (a)), .int (nI (b1))]) (rest := []) (mX6_costByQueue l (d + 1) ht dr pg wt wr mo mc ni po dn (d + 100) pn lv wa ke a b1 hb_s hb_r hb_q hb_l (by omega) hwr hht hwa hke hka hkb1) q1069 q1070 q1071 q91 q1072 rfl rfl (by decide +kernel) ⟨Nat.le_of_ble_eq_true rfl, Nat.le_of_ble_eq_true rfl⟩ rfl (hb_r.lt 0 (by decide)) (hb_r.2 0 (by decide)) rfl hl.1 rfl (Nat.le_of_ble_eq_true rfl) ⟨(Nat.le_of_ble_eq_true rfl), (Nat.le_of_ble_eq_true rfl)⟩ dX12_routeCost_27) hS (fun rz w1 H locs hq hP hS => ?_)
      obtain ⟨hrq, hex, hfx⟩ := hq
      rw [hrq]
      have hfr := hfr.trans hfx (fun q hq => by (try simp only [gIn] at hq ⊢); (try dsimp only at hq ⊢); omega)
      refine g_xafi (g_xrunS S hI hP hS (k := 1) (As := [.int ((if 3 ≤ wr a then -1 else if 3 ≤ wr b1 then -1 else kcI ((qG (cdR ht wr) 36 ((va_up (fil 36 (fun _ => 1000000) lv) a 0), va_up wa a 1, va_up ke a 0)).1 b1)))]) (rest := []) (mX12_requiredOfRoute l ((if 3 ≤ wr a then -1 else if 3 ≤ wr b1 then -1 else kcI ((qG (cdR ht wr) 36 ((va_up (fil 36 (fun _ => 1000000) lv) a 0), va_up wa a 1, va_up ke a 0)).1 b1))) hlt hz) q1098 q1099 q82 q1100 rfl rfl (by decide +kernel) ⟨(Nat.le_of_ble_eq_true rfl), (Nat.le_of_ble_eq_true rfl)⟩ rfl hl.1 rfl (Nat.le_of_ble_eq_true rfl) ⟨(Nat.le_of_ble_eq_true rfl), (Nat.le_of_ble_eq_true rfl)⟩ dX12_routeCost_30) hS (fun xc w1 xq ce H locs hpx hP hS hcell hcv hcl => ?_) (fun rz w1 H locs hq hP hS => ?_)
      · exact g_xout S hI hS htab hlocks hP hcell hcv hcl (Or.inr ⟨hpx.1, ⟨a, b1, hca, hcb1, hpx.2.1, by rw [hpx.2.2]; exact hex⟩, by rw [hpx.2.2]; exact hfr⟩) (Nat.le_of_ble_eq_true rfl) (Nat.le_of_ble_eq_true rfl)
      · obtain ⟨hrz, hrn, hww⟩ := hq
        rw [hww] at hP
        rw [hrz]
        exact vx_ret (g_iret S hr hlocks hP hS (⟨⟨a, b1, hca, hcb1, rfl, hrn, hex⟩, hfr⟩) (fun _ _ => rfl) (Nat.le_of_ble_eq_true rfl) (Nat.le_of_ble_eq_true rfl) dX12_routeCost_33)
set_option maxHeartbeats 4000000 in
set_option maxRecDepth 100000 in
/-- routeCostByRounds -/
theorem mX12_routeCostByRounds (l : Launch) {E : gE} {ad : Nat → Nat} {N : Nat} {w : Nat → va_E} (d : Nat) (sv : Nat) (fp dq : Option Nat) (dd : Int32) (dc : Option Nat) (ht dr pg wt wr mo : Nat → Nat) (mc ni po dn : Nat) (pn : Nat) (lv : Nat → Nat) (x y x2 y2 : Int32) (hb_d : bkP N w d 1 (DMC E ad d sv fp dq dd dc)) (hb_s : bkP N w (d + 1) 7 (SHC E ad (d + 1) ht dr pg wt wr mo mc ni po dn)) (hb_r : bkP N w (d + 100) 1 (RTC E ad (d + 100) pn)) (hb_l : bkP N w (d + 109) 1 (LVC E ad (d + 109) lv)) (hlt : l.stackTraces = false) (hz : gHx E) (hwr : ∀ k, k < 36 → wr k ≤ 3) (hht : ∀ k, k < 36 → ht k ≤ 99) : gXi l yX12_routeCostByRounds (lw_ws yX12_routeCostByRounds cX12_routeCostByRounds 7 (some .int)) ({ frames := 7, cells := 3, slots := 18, locals := 117 } : Room) E ad N w [.ref (ad (d)), .int (x), .int (y), .int (x2), .int (y2)] (fun r w' => (∃ a b1, cellV x y = some a ∧ cellV x2 y2 = some b1 ∧ r = (if 3 ≤ wr a then -1 else if 3 ≤ wr b1 then -1 else kcI ((rdG (cdR ht wr) 36 ((va_up (fil 36 (fun _ => 1000000) lv) a 0), true)).1 b1)) ∧ r ≠ -1 ∧ (∃ lv' : Nat → Nat, bkP N w' (d + 109) 1 (LVC E ad (d + 109) lv'))) ∧ gFr (gIn (d + 109) 1) w w') (fun xc w' => (xc = xIO ∧ (cellV x y = none ∨ cellV x2 y2 = none) ∧ w' = w) ∨ (xc = xNS ∧ (∃ a b1, cellV x y = some a ∧ cellV x2 y2 = some b1 ∧ (if 3 ≤ wr a then -1 else if 3 ≤ wr b1 then -1 else kcI ((rdG (cdR ht wr) 36 ((va_up (fil 36 (fun _ => 1000000) lv) a 0), true)).1 b1)) = -1 ∧ (∃ lv' : Nat → Nat, bkP N w' (d + 109) 1 (LVC E ad (d + 109) lv'))) ∧ gFr (gIn (d + 109) 1) w w')) 3 18 := by
  refine vx_ofW (cc := cX12_routeCostByRounds) (maxL := 7) (ret := (some .int)) (by decide) rfl ?_
  intro p e s m args below meth cd s₁ B hml htab hv
  obtain ⟨rfl, hI, hP⟩ := hv
  obtain ⟨S, hr, hlocks⟩ := gPre (ws := []) B hml (C := RX12) rfl
  have hx := S.1
  have hb := S.2.1
  have hS : va_S (gA E) s.heap s.heap [] := va_S.rf
  have hfr : gFr (gIn (d + 109) 1) w w := gFr.rf
  have hl := lv_entry ([.ref (ad (d)), .int (x), .int (y), .int (x2), .int (y2)]) (n := 7) (Nat.le_of_ble_eq_true rfl)
  rw [lg_entry_eq]
  generalize (lg_sl ([.ref (ad (d)), .int (x), .int (y), .int (x2), .int (y2)]) ++ List.replicate (7 - (lg_sl ([.ref (ad (d)), .int (x), .int (y), .int (x2), .int (y2)])).length) Slot.unset).toArray = ls at hl ⊢
  have hl : lv_has ls 7 [(0, .ref (ad (d))), (1, .int (x)), (2, .int (y)), (3, .int (x2)), (4, .int (y2))] := hl
  refine lv_iload_n hx hb dX12_routeCostByRounds_0 rfl (lv_at hl 1 rfl) ?_
  refine lv_iload_n hx hb dX12_routeCostByRounds_1 rfl (lv_at hl 2 rfl) ?_
  refine g_xafi (g_xrunS S hI hP hS (k := 2) (As := [.int (x), .int (y)]) (rest := []) (mX12_requiredCell l x y hlt hz) q869 q870 q82 q871 rfl rfl (by decide +kernel) ⟨(Nat.le_of_ble_eq_true rfl), (Nat.le_of_ble_eq_true rfl)⟩ rfl hl.1 rfl (Nat.le_of_ble_eq_true rfl) ⟨(Nat.le_of_ble_eq_true rfl), (Nat.le_of_ble_eq_true rfl)⟩ dX12_routeCostByRounds_2) hS (fun xc w1 xq ce H locs hpx hP hS hcell hcv hcl => ?_) (fun rz w1 H locs hq hP hS => ?_)
  · exact g_xout S hI hS htab hlocks hP hcell hcv hcl (Or.inl ⟨hpx.1, Or.inl hpx.2.1, hpx.2.2⟩) (Nat.le_of_ble_eq_true rfl) (Nat.le_of_ble_eq_true rfl)
  · obtain ⟨a, hca, hra, hww_a⟩ := hq
    rw [hww_a] at hP
    rw [hra]
    have hka := cellV_lt hca
    refine lv_istore (lv' := [(5, .int (nI (a))), (0, .ref (ad (d))), (1, .int (x)), (2, .int (y)), (3, .int (x2)), (4, .int (y2))]) hx hb dX12_routeCostByRounds_5 hl (by decide) rfl (fun ls hl => ?_)
    refine lv_iload_n hx hb dX12_routeCostByRounds_7 rfl (lv_at hl 4 rfl) ?_
    refine lv_iload hx hb dX12_routeCostByRounds_8 (lv_at hl 5 rfl) ?_
    refine g_xafi (g_xrunS S hI hP hS (k := 2) (As := [.int (x2), .int (y2)]) (rest := []) (mX12_requiredCell l x2 y2 hlt hz) q869 q870 q82 q871 rfl rfl (by decide +kernel) ⟨(Nat.le_of_ble_eq_true rfl), (Nat.le_of_ble_eq_true rfl)⟩ rfl hl.1 rfl (Nat.le_of_ble_eq_true rfl) ⟨(Nat.le_of_ble_eq_true rfl), (Nat.le_of_ble_eq_true rfl)⟩ dX12_routeCostByRounds_10) hS (fun xc w1 xq ce H locs hpx hP hS hcell hcv hcl => ?_) (fun rz w1 H locs hq hP hS => ?_)
    · exact g_xout S hI hS htab hlocks hP hcell hcv hcl (Or.inl ⟨hpx.1, Or.inr hpx.2.1, hpx.2.2⟩) (Nat.le_of_ble_eq_true rfl) (Nat.le_of_ble_eq_true rfl)
    · obtain ⟨b1, hcb1, hrb1, hww_b1⟩ := hq
      rw [hww_b1] at hP
      rw [hrb1]
      have hkb1 := cellV_lt hcb1
      refine lv_istore (lv' := [(6, .int (nI (b1))), (5, .int (nI (a))), (0, .ref (ad (d))), (1, .int (x)), (2, .int (y)), (3, .int (x2)), (4, .int (y2))]) hx hb dX12_routeCostByRounds_13 hl (by decide) rfl (fun ls hl => ?_)
      refine lv_aload_n hx hb dX12_routeCostByRounds_15 rfl (lv_at hl 2 rfl) ?_
      refine g_get S hI hP uX12 rfl (fs := _) (hb_d.lt 0 (by decide)) (hb_d.2 0 (by decide)) 7 (by decide) q409 rfl (v := .ref (ad (d + 100))) rfl dX12_routeCostByRounds_16 ?_
      refine lv_aload_n hx hb dX12_routeCostByRounds_19 rfl (lv_at hl 2 rfl) ?_
      refine g_get S hI hP uX12 rfl (fs := _) (hb_d.lt 0 (by decide)) (hb_d.2 0 (by decide)) 0 (by decide) q402 rfl (v := .ref (ad (d + 1))) rfl dX12_routeCostByRounds_20 ?_
      refine lv_iload hx hb dX12_routeCostByRounds_23 (lv_at hl 1 rfl) ?_
      refine lv_iload hx hb dX12_routeCostByRounds_25 (lv_at hl 0 rfl) ?_
      refine g_afi (g_runV S hI hP hS (k := 3) (As := [.ref (ad (d + 1)), .int (nI (a)), .int (nI (b1))]) (rest := []) (mX6_costByRounds l (d + 1) ht dr pg wt wr mo mc ni po dn (d + 100) pn lv a b1 hb_s hb_r hb_l (by omega) hwr hht hka hkb1) q1109 q1110 q1111 q91 q1112 rfl rfl (by decide +kernel) ⟨Nat.le_of_ble_eq_true rfl, Nat.le_of_ble_eq_true rfl⟩ rfl (hb_r.lt 0 (by decide)) (hb_r.2 0 (by decide)) rfl hl.1 rfl (Nat.le_of_ble_eq_true rfl) ⟨(Nat.le_of_ble_eq_true rfl), (Nat.le_of_ble_eq_true rfl)⟩ dX12_routeCostByRounds_27) hS (fun rz w1 H locs hq hP hS => ?_)
      obtain ⟨hrq, hex, hfx⟩ := hq
      rw [hrq]
      have hfr := hfr.trans hfx (fun q hq => by (try simp only [gIn] at hq ⊢); (try dsimp only at hq ⊢); omega)
      refine g_xafi (g_xrunS S hI hP hS (k := 1) (As := [.int ((if 3 ≤ wr a then -1 else if 3 ≤ wr b1 then -1 else kcI ((rdG (cdR ht wr) 36 ((va_up (fil 36 (fun _ => 1000000) lv) a 0), true)).1 b1)))]) (rest := []) (mX12_requiredOfRoute l ((if 3 ≤ wr a then -1 else if 3 ≤ wr b1 then -1 else kcI ((rdG (cdR ht wr) 36 ((va_up (fil 36 (fun _ => 1000000) lv) a 0), true)).1 b1))) hlt hz) q1098 q1099 q82 q1100 rfl rfl (by decide +kernel) ⟨(Nat.le_of_ble_eq_true rfl), (Nat.le_of_ble_eq_true rfl)⟩ rfl hl.1 rfl (Nat.le_of_ble_eq_true rfl) ⟨(Nat.le_of_ble_eq_true rfl), (Nat.le_of_ble_eq_true rfl)⟩ dX12_routeCostByRounds_30) hS (fun xc w1 xq ce H locs hpx hP hS hcell hcv hcl => ?_) (fun rz w1 H locs hq hP hS => ?_)
      · exact g_xout S hI hS htab hlocks hP hcell hcv hcl (Or.inr ⟨hpx.1, ⟨a, b1, hca, hcb1, hpx.2.1, by rw [hpx.2.2]; exact hex⟩, by rw [hpx.2.2]; exact hfr⟩) (Nat.le_of_ble_eq_true rfl) (Nat.le_of_ble_eq_true rfl)
      · obtain ⟨hrz, hrn, hww⟩ := hq
        rw [hww] at hP
        rw [hrz]
        exact vx_ret (g_iret S hr hlocks hP hS (⟨⟨a, b1, hca, hcb1, rfl, hrn, hex⟩, hfr⟩) (fun _ _ => rfl) (Nat.le_of_ble_eq_true rfl) (Nat.le_of_ble_eq_true rfl) dX12_routeCostByRounds_33)
set_option maxHeartbeats 4000000 in
set_option maxRecDepth 100000 in
/-- steepestStep -/
theorem mX12_steepestStep (l : Launch) {E : gE} {ad : Nat → Nat} {N : Nat} {w : Nat → va_E} (d : Nat) (sv : Nat) (fp dq : Option Nat) (dd : Int32) (dc : Option Nat) (ht dr pg wt wr mo : Nat → Nat) (mc ni po dn : Nat) (pn : Nat) (pa pq : Nat → Nat) (x y x2 y2 : Int32) (hb_d : bkP N w d 1 (DMC E ad d sv fp dq dd dc)) (hb_s : bkP N w (d + 1) 7 (SHC E ad (d + 1) ht dr pg wt wr mo mc ni po dn)) (hb_r : bkP N w (d + 100) 1 (RTC E ad (d + 100) pn)) (hb_u : bkP N w (d + 107) 2 (UNC E ad (d + 107) pa)) (hb_p : bkP N w (d + 110) 1 (PRC E ad (d + 110) pq)) (hlt : l.stackTraces = false) (hz : gHx E) (hwr : ∀ k, k < 36 → wr k ≤ 3) (hht : ∀ k, k < 36 → ht k ≤ 99) : gXi l yX12_steepestStep (lw_ws yX12_steepestStep cX12_steepestStep 7 (some .int)) ({ frames := 7, cells := 3, slots := 18, locals := 118 } : Room) E ad N w [.ref (ad (d)), .int (x), .int (y), .int (x2), .int (y2)] (fun r w' => (∃ a b1, cellV x y = some a ∧ cellV x2 y2 = some b1 ∧ r = (if 3 ≤ wr a then -1 else if 3 ≤ wr b1 then -1 else if a = b1 then nI 0 else (suG (prN ht wr pq 36).1 (prN ht wr pq 36).2 a b1 60 0 (fil 36 (fun j => j) pa)).2) ∧ r ≠ -1 ∧ (∃ (pn' : Nat) (pa' pq' : Nat → Nat), bkP N w' (d + 100) 1 (RTC E ad (d + 100) pn') ∧ bkP N w' (d + 107) 2 (UNC E ad (d + 107) pa') ∧ bkP N w' (d + 110) 1 (PRC E ad (d + 110) pq'))) ∧ gFr (fun q => (d + 107 ≤ q ∧ q < d + 109) ∨ q = d + 100 ∨ q = d + 110) w w') (fun xc w' => (xc = xIO ∧ (cellV x y = none ∨ cellV x2 y2 = none) ∧ w' = w) ∨ (xc = xNS ∧ (∃ a b1, cellV x y = some a ∧ cellV x2 y2 = some b1 ∧ (if 3 ≤ wr a then -1 else if 3 ≤ wr b1 then -1 else if a = b1 then nI 0 else (suG (prN ht wr pq 36).1 (prN ht wr pq 36).2 a b1 60 0 (fil 36 (fun j => j) pa)).2) = -1 ∧ (∃ (pn' : Nat) (pa' pq' : Nat → Nat), bkP N w' (d + 100) 1 (RTC E ad (d + 100) pn') ∧ bkP N w' (d + 107) 2 (UNC E ad (d + 107) pa') ∧ bkP N w' (d + 110) 1 (PRC E ad (d + 110) pq'))) ∧ gFr (fun q => (d + 107 ≤ q ∧ q < d + 109) ∨ q = d + 100 ∨ q = d + 110) w w')) 3 18 := by
  refine vx_ofW (cc := cX12_steepestStep) (maxL := 7) (ret := (some .int)) (by decide) rfl ?_
  intro p e s m args below meth cd s₁ B hml htab hv
  obtain ⟨rfl, hI, hP⟩ := hv
  obtain ⟨S, hr, hlocks⟩ := gPre (ws := []) B hml (C := RX12) rfl
  have hx := S.1
  have hb := S.2.1
  have hS : va_S (gA E) s.heap s.heap [] := va_S.rf
  have hfr : gFr (fun q => (d + 107 ≤ q ∧ q < d + 109) ∨ q = d + 100 ∨ q = d + 110) w w := gFr.rf
  have hl := lv_entry ([.ref (ad (d)), .int (x), .int (y), .int (x2), .int (y2)]) (n := 7) (Nat.le_of_ble_eq_true rfl)
  rw [lg_entry_eq]
  generalize (lg_sl ([.ref (ad (d)), .int (x), .int (y), .int (x2), .int (y2)]) ++ List.replicate (7 - (lg_sl ([.ref (ad (d)), .int (x), .int (y), .int (x2), .int (y2)])).length) Slot.unset).toArray = ls at hl ⊢
  have hl : lv_has ls 7 [(0, .ref (ad (d))), (1, .int (x)), (2, .int (y)), (3, .int (x2)), (4, .int (y2))] := hl
  refine lv_iload_n hx hb dX12_steepestStep_0 rfl (lv_at hl 1 rfl) ?_
  refine lv_iload_n hx hb dX12_steepestStep_1 rfl (lv_at hl 2 rfl) ?_
  refine g_xafi (g_xrunS S hI hP hS (k := 2) (As := [.int (x), .int (y)]) (rest := []) (mX12_requiredCell l x y hlt hz) q869 q870 q82 q871 rfl rfl (by decide +kernel) ⟨(Nat.le_of_ble_eq_true rfl), (Nat.le_of_ble_eq_true rfl)⟩ rfl hl.1 rfl (Nat.le_of_ble_eq_true rfl) ⟨(Nat.le_of_ble_eq_true rfl), (Nat.le_of_ble_eq_true rfl)⟩ dX12_steepestStep_2) hS (fun xc w1 xq ce H locs hpx hP hS hcell hcv hcl => ?_) (fun rz w1 H locs hq hP hS => ?_)
  · exact g_xout S hI hS htab hlocks hP hcell hcv hcl (Or.inl ⟨hpx.1, Or.inl hpx.2.1, hpx.2.2⟩) (Nat.le_of_ble_eq_true rfl) (Nat.le_of_ble_eq_true rfl)
  · obtain ⟨a, hca, hra, hww_a⟩ := hq
    rw [hww_a] at hP
    rw [hra]
    have hka := cellV_lt hca
    refine lv_istore (lv' := [(5, .int (nI (a))), (0, .ref (ad (d))), (1, .int (x)), (2, .int (y)), (3, .int (x2)), (4, .int (y2))]) hx hb dX12_steepestStep_5 hl (by decide) rfl (fun ls hl => ?_)
    refine lv_iload_n hx hb dX12_steepestStep_7 rfl (lv_at hl 4 rfl) ?_
    refine lv_iload hx hb dX12_steepestStep_8 (lv_at hl 5 rfl) ?_
    refine g_xafi (g_xrunS S hI hP hS (k := 2) (As := [.int (x2), .int (y2)]) (rest := []) (mX12_requiredCell l x2 y2 hlt hz) q869 q870 q82 q871 rfl rfl (by decide +kernel) ⟨(Nat.le_of_ble_eq_true rfl), (Nat.le_of_ble_eq_true rfl)⟩ rfl hl.1 rfl (Nat.le_of_ble_eq_true rfl) ⟨(Nat.le_of_ble_eq_true rfl), (Nat.le_of_ble_eq_true rfl)⟩ dX12_steepestStep_10) hS (fun xc w1 xq ce H locs hpx hP hS hcell hcv hcl => ?_) (fun rz w1 H locs hq hP hS => ?_)
    · exact g_xout S hI hS htab hlocks hP hcell hcv hcl (Or.inl ⟨hpx.1, Or.inr hpx.2.1, hpx.2.2⟩) (Nat.le_of_ble_eq_true rfl) (Nat.le_of_ble_eq_true rfl)
    · obtain ⟨b1, hcb1, hrb1, hww_b1⟩ := hq
      rw [hww_b1] at hP
      rw [hrb1]
      have hkb1 := cellV_lt hcb1
      refine lv_istore (lv' := [(6, .int (nI (b1))), (5, .int (nI (a))), (0, .ref (ad (d))), (1, .int (x)), (2, .int (y)), (3, .int (x2)), (4, .int (y2))]) hx hb dX12_steepestStep_13 hl (by decide) rfl (fun ls hl => ?_)
      refine lv_aload_n hx hb dX12_steepestStep_15 rfl (lv_at hl 2 rfl) ?_
      refine g_get S hI hP uX12 rfl (fs := _) (hb_d.lt 0 (by decide)) (hb_d.2 0 (by decide)) 7 (by decide) q409 rfl (v := .ref (ad (d + 100))) rfl dX12_steepestStep_16 ?_
      refine lv_aload_n hx hb dX12_steepestStep_19 rfl (lv_at hl 2 rfl) ?_
      refine g_get S hI hP uX12 rfl (fs := _) (hb_d.lt 0 (by decide)) (hb_d.2 0 (by decide)) 0 (by decide) q402 rfl (v := .ref (ad (d + 1))) rfl dX12_steepestStep_20 ?_
      refine lv_iload hx hb dX12_steepestStep_23 (lv_at hl 1 rfl) ?_
      refine lv_iload hx hb dX12_steepestStep_25 (lv_at hl 0 rfl) ?_
      refine g_afi (g_runV S hI hP hS (k := 3) (As := [.ref (ad (d + 1)), .int (nI (a)), .int (nI (b1))]) (rest := []) (mX6_stepByUnions l (d + 1) ht dr pg wt wr mo mc ni po dn (d + 100) pn pa pq a b1 hb_s hb_r hb_u hb_p (by omega) hwr hht hka hkb1) q1124 q1125 q1126 q91 q1127 rfl rfl (by decide +kernel) ⟨Nat.le_of_ble_eq_true rfl, Nat.le_of_ble_eq_true rfl⟩ rfl (hb_r.lt 0 (by decide)) (hb_r.2 0 (by decide)) rfl hl.1 rfl (Nat.le_of_ble_eq_true rfl) ⟨(Nat.le_of_ble_eq_true rfl), (Nat.le_of_ble_eq_true rfl)⟩ dX12_steepestStep_27) hS (fun rz w1 H locs hq hP hS => ?_)
      obtain ⟨hrq, hex, hfx⟩ := hq
      rw [hrq]
      have hfr := hfr.trans hfx (fun q hq => by (try simp only [gIn] at hq ⊢); (try dsimp only at hq ⊢); omega)
      refine g_xafi (g_xrunS S hI hP hS (k := 1) (As := [.int ((if 3 ≤ wr a then -1 else if 3 ≤ wr b1 then -1 else if a = b1 then nI 0 else (suG (prN ht wr pq 36).1 (prN ht wr pq 36).2 a b1 60 0 (fil 36 (fun j => j) pa)).2))]) (rest := []) (mX12_requiredOfRoute l ((if 3 ≤ wr a then -1 else if 3 ≤ wr b1 then -1 else if a = b1 then nI 0 else (suG (prN ht wr pq 36).1 (prN ht wr pq 36).2 a b1 60 0 (fil 36 (fun j => j) pa)).2)) hlt hz) q1098 q1099 q82 q1100 rfl rfl (by decide +kernel) ⟨(Nat.le_of_ble_eq_true rfl), (Nat.le_of_ble_eq_true rfl)⟩ rfl hl.1 rfl (Nat.le_of_ble_eq_true rfl) ⟨(Nat.le_of_ble_eq_true rfl), (Nat.le_of_ble_eq_true rfl)⟩ dX12_steepestStep_30) hS (fun xc w1 xq ce H locs hpx hP hS hcell hcv hcl => ?_) (fun rz w1 H locs hq hP hS => ?_)
      · exact g_xout S hI hS htab hlocks hP hcell hcv hcl (Or.inr ⟨hpx.1, ⟨a, b1, hca, hcb1, hpx.2.1, by rw [hpx.2.2]; exact hex⟩, by rw [hpx.2.2]; exact hfr⟩) (Nat.le_of_ble_eq_true rfl) (Nat.le_of_ble_eq_true rfl)
      · obtain ⟨hrz, hrn, hww⟩ := hq
        rw [hww] at hP
        rw [hrz]
        exact vx_ret (g_iret S hr hlocks hP hS (⟨⟨a, b1, hca, hcb1, rfl, hrn, hex⟩, hfr⟩) (fun _ _ => rfl) (Nat.le_of_ble_eq_true rfl) (Nat.le_of_ble_eq_true rfl) dX12_steepestStep_33)
set_option maxHeartbeats 4000000 in
set_option maxRecDepth 100000 in
/-- steepestStepByHalving -/
theorem mX12_steepestStepByHalving (l : Launch) {E : gE} {ad : Nat → Nat} {N : Nat} {w : Nat → va_E} (d : Nat) (sv : Nat) (fp dq : Option Nat) (dd : Int32) (dc : Option Nat) (ht dr pg wt wr mo : Nat → Nat) (mc ni po dn : Nat) (pn : Nat) (re ce : Nat → Nat) (rc tc : Nat) (x y x2 y2 : Int32) (hb_d : bkP N w d 1 (DMC E ad d sv fp dq dd dc)) (hb_s : bkP N w (d + 1) 7 (SHC E ad (d + 1) ht dr pg wt wr mo mc ni po dn)) (hb_r : bkP N w (d + 100) 1 (RTC E ad (d + 100) pn)) (hb_f : bkP N w (d + 104) 3 (FLC E ad (d + 104) re ce rc tc)) (hlt : l.stackTraces = false) (hz : gHx E) (hwr : ∀ k, k < 36 → wr k ≤ 3) (hht : ∀ k, k < 36 → ht k ≤ 99) : gXi l yX12_steepestStepByHalving (lw_ws yX12_steepestStepByHalving cX12_steepestStepByHalving 7 (some .int)) ({ frames := 7, cells := 3, slots := 18, locals := 112 } : Room) E ad N w [.ref (ad (d)), .int (x), .int (y), .int (x2), .int (y2)] (fun r w' => (∃ a b1, cellV x y = some a ∧ cellV x2 y2 = some b1 ∧ r = (if 3 ≤ wr a then -1 else if 3 ≤ wr b1 then -1 else if ldB (ldOk ht wr 99) a b1 = true then nI (hvG ht wr a b1 7 0 99) else -1) ∧ r ≠ -1 ∧ (∃ (re' ce' : Nat → Nat) (rc' tc' : Nat), bkP N w' (d + 104) 3 (FLC E ad (d + 104) re' ce' rc' tc'))) ∧ gFr (gIn (d + 104) 3) w w') (fun xc w' => (xc = xIO ∧ (cellV x y = none ∨ cellV x2 y2 = none) ∧ w' = w) ∨ (xc = xNS ∧ (∃ a b1, cellV x y = some a ∧ cellV x2 y2 = some b1 ∧ (if 3 ≤ wr a then -1 else if 3 ≤ wr b1 then -1 else if ldB (ldOk ht wr 99) a b1 = true then nI (hvG ht wr a b1 7 0 99) else -1) = -1 ∧ (∃ (re' ce' : Nat → Nat) (rc' tc' : Nat), bkP N w' (d + 104) 3 (FLC E ad (d + 104) re' ce' rc' tc'))) ∧ gFr (gIn (d + 104) 3) w w')) 3 18 := by
  refine vx_ofW (cc := cX12_steepestStepByHalving) (maxL := 7) (ret := (some .int)) (by decide) rfl ?_
  intro p e s m args below meth cd s₁ B hml htab hv
  obtain ⟨rfl, hI, hP⟩ := hv
  obtain ⟨S, hr, hlocks⟩ := gPre (ws := []) B hml (C := RX12) rfl
  have hx := S.1
  have hb := S.2.1
  have hS : va_S (gA E) s.heap s.heap [] := va_S.rf
  have hfr : gFr (gIn (d + 104) 3) w w := gFr.rf
  have hl := lv_entry ([.ref (ad (d)), .int (x), .int (y), .int (x2), .int (y2)]) (n := 7) (Nat.le_of_ble_eq_true rfl)
  rw [lg_entry_eq]
  generalize (lg_sl ([.ref (ad (d)), .int (x), .int (y), .int (x2), .int (y2)]) ++ List.replicate (7 - (lg_sl ([.ref (ad (d)), .int (x), .int (y), .int (x2), .int (y2)])).length) Slot.unset).toArray = ls at hl ⊢
  have hl : lv_has ls 7 [(0, .ref (ad (d))), (1, .int (x)), (2, .int (y)), (3, .int (x2)), (4, .int (y2))] := hl
  refine lv_iload_n hx hb dX12_steepestStepByHalving_0 rfl (lv_at hl 1 rfl) ?_
  refine lv_iload_n hx hb dX12_steepestStepByHalving_1 rfl (lv_at hl 2 rfl) ?_
  refine g_xafi (g_xrunS S hI hP hS (k := 2) (As := [.int (x), .int (y)]) (rest := []) (mX12_requiredCell l x y hlt hz) q869 q870 q82 q871 rfl rfl (by decide +kernel) ⟨(Nat.le_of_ble_eq_true rfl), (Nat.le_of_ble_eq_true rfl)⟩ rfl hl.1 rfl (Nat.le_of_ble_eq_true rfl) ⟨(Nat.le_of_ble_eq_true rfl), (Nat.le_of_ble_eq_true rfl)⟩ dX12_steepestStepByHalving_2) hS (fun xc w1 xq ce H locs hpx hP hS hcell hcv hcl => ?_) (fun rz w1 H locs hq hP hS => ?_)
  · exact g_xout S hI hS htab hlocks hP hcell hcv hcl (Or.inl ⟨hpx.1, Or.inl hpx.2.1, hpx.2.2⟩) (Nat.le_of_ble_eq_true rfl) (Nat.le_of_ble_eq_true rfl)
  · obtain ⟨a, hca, hra, hww_a⟩ := hq
    rw [hww_a] at hP
    rw [hra]
    have hka := cellV_lt hca
    refine lv_istore (lv' := [(5, .int (nI (a))), (0, .ref (ad (d))), (1, .int (x)), (2, .int (y)), (3, .int (x2)), (4, .int (y2))]) hx hb dX12_steepestStepByHalving_5 hl (by decide) rfl (fun ls hl => ?_)
    refine lv_iload_n hx hb dX12_steepestStepByHalving_7 rfl (lv_at hl 4 rfl) ?_
    refine lv_iload hx hb dX12_steepestStepByHalving_8 (lv_at hl 5 rfl) ?_
    refine g_xafi (g_xrunS S hI hP hS (k := 2) (As := [.int (x2), .int (y2)]) (rest := []) (mX12_requiredCell l x2 y2 hlt hz) q869 q870 q82 q871 rfl rfl (by decide +kernel) ⟨(Nat.le_of_ble_eq_true rfl), (Nat.le_of_ble_eq_true rfl)⟩ rfl hl.1 rfl (Nat.le_of_ble_eq_true rfl) ⟨(Nat.le_of_ble_eq_true rfl), (Nat.le_of_ble_eq_true rfl)⟩ dX12_steepestStepByHalving_10) hS (fun xc w1 xq ce H locs hpx hP hS hcell hcv hcl => ?_) (fun rz w1 H locs hq hP hS => ?_)
    · exact g_xout S hI hS htab hlocks hP hcell hcv hcl (Or.inl ⟨hpx.1, Or.inr hpx.2.1, hpx.2.2⟩) (Nat.le_of_ble_eq_true rfl) (Nat.le_of_ble_eq_true rfl)
    · obtain ⟨b1, hcb1, hrb1, hww_b1⟩ := hq
      rw [hww_b1] at hP
      rw [hrb1]
      have hkb1 := cellV_lt hcb1
      refine lv_istore (lv' := [(6, .int (nI (b1))), (5, .int (nI (a))), (0, .ref (ad (d))), (1, .int (x)), (2, .int (y)), (3, .int (x2)), (4, .int (y2))]) hx hb dX12_steepestStepByHalving_13 hl (by decide) rfl (fun ls hl => ?_)
      refine lv_aload_n hx hb dX12_steepestStepByHalving_15 rfl (lv_at hl 2 rfl) ?_
      refine g_get S hI hP uX12 rfl (fs := _) (hb_d.lt 0 (by decide)) (hb_d.2 0 (by decide)) 7 (by decide) q409 rfl (v := .ref (ad (d + 100))) rfl dX12_steepestStepByHalving_16 ?_
      refine lv_aload_n hx hb dX12_steepestStepByHalving_19 rfl (lv_at hl 2 rfl) ?_
      refine g_get S hI hP uX12 rfl (fs := _) (hb_d.lt 0 (by decide)) (hb_d.2 0 (by decide)) 0 (by decide) q402 rfl (v := .ref (ad (d + 1))) rfl dX12_steepestStepByHalving_20 ?_
      refine lv_iload hx hb dX12_steepestStepByHalving_23 (lv_at hl 1 rfl) ?_
      refine lv_iload hx hb dX12_steepestStepByHalving_25 (lv_at hl 0 rfl) ?_
      refine g_afi (g_runV S hI hP hS (k := 3) (As := [.ref (ad (d + 1)), .int (nI (a)), .int (nI (b1))]) (rest := []) (mX6_stepByHalving l (d + 1) ht dr pg wt wr mo mc ni po dn (d + 100) pn re ce rc tc a b1 hb_s hb_r hb_f (by omega) hwr hht hka hkb1) q1146 q1147 q1148 q91 q1149 rfl rfl (by decide +kernel) ⟨Nat.le_of_ble_eq_true rfl, Nat.le_of_ble_eq_true rfl⟩ rfl (hb_r.lt 0 (by decide)) (hb_r.2 0 (by decide)) rfl hl.1 rfl (Nat.le_of_ble_eq_true rfl) ⟨(Nat.le_of_ble_eq_true rfl), (Nat.le_of_ble_eq_true rfl)⟩ dX12_steepestStepByHalving_27) hS (fun rz w1 H locs hq hP hS => ?_)
      obtain ⟨hrq, hex, hfx⟩ := hq
      rw [hrq]
      have hfr := hfr.trans hfx (fun q hq => by (try simp only [gIn] at hq ⊢); (try dsimp only at hq ⊢); omega)
      refine g_xafi (g_xrunS S hI hP hS (k := 1) (As := [.int ((if 3 ≤ wr a then -1 else if 3 ≤ wr b1 then -1 else if ldB (ldOk ht wr 99) a b1 = true then nI (hvG ht wr a b1 7 0 99) else -1))]) (rest := []) (mX12_requiredOfRoute l ((if 3 ≤ wr a then -1 else if 3 ≤ wr b1 then -1 else if ldB (ldOk ht wr 99) a b1 = true then nI (hvG ht wr a b1 7 0 99) else -1)) hlt hz) q1098 q1099 q82 q1100 rfl rfl (by decide +kernel) ⟨(Nat.le_of_ble_eq_true rfl), (Nat.le_of_ble_eq_true rfl)⟩ rfl hl.1 rfl (Nat.le_of_ble_eq_true rfl) ⟨(Nat.le_of_ble_eq_true rfl), (Nat.le_of_ble_eq_true rfl)⟩ dX12_steepestStepByHalving_30) hS (fun xc w1 xq ce H locs hpx hP hS hcell hcv hcl => ?_) (fun rz w1 H locs hq hP hS => ?_)
      · exact g_xout S hI hS htab hlocks hP hcell hcv hcl (Or.inr ⟨hpx.1, ⟨a, b1, hca, hcb1, hpx.2.1, by rw [hpx.2.2]; exact hex⟩, by rw [hpx.2.2]; exact hfr⟩) (Nat.le_of_ble_eq_true rfl) (Nat.le_of_ble_eq_true rfl)
      · obtain ⟨hrz, hrn, hww⟩ := hq
        rw [hww] at hP
        rw [hrz]
        exact vx_ret (g_iret S hr hlocks hP hS (⟨⟨a, b1, hca, hcb1, rfl, hrn, hex⟩, hfr⟩) (fun _ _ => rfl) (Nat.le_of_ble_eq_true rfl) (Nat.le_of_ble_eq_true rfl) dX12_steepestStepByHalving_33)
set_option maxHeartbeats 4000000 in
set_option maxRecDepth 100000 in
/-- nightsUntilHole -/
theorem mX12_nightsUntilHole (l : Launch) {E : gE} {ad : Nat → Nat} {N : Nat} {w : Nat → va_E} (d : Nat) (sv : Nat) (fp dq : Option Nat) (dd : Int32) (dc : Option Nat) (ht dr pg wt wr mo : Nat → Nat) (mc ni po dn : Nat) (htt drt pgt wtt wrt mot : Nat → Nat) (mct nit pot dnt : Nat) (x y : Int32) (hb_d : bkP N w d 1 (DMC E ad d sv fp dq dd dc)) (hb_s : bkP N w (d + 1) 7 (SHC E ad (d + 1) ht dr pg wt wr mo mc ni po dn)) (hb_t : bkP N w (d + 22) 7 (SHC E ad (d + 22) htt drt pgt wtt wrt mot mct nit pot dnt)) (hlt : l.stackTraces = false) (hz : gHx E) (hht : ∀ k, k < 36 → ht k ≤ 99) (hpg : ∀ k, k < 36 → pg k ≤ 1) (hwr : ∀ k, k < 36 → wr k ≤ 3) (hm : mc ≤ 4) (hmo : ∀ k, k < mc → mo k < 36) : gXi l yX12_nightsUntilHole (lw_ws yX12_nightsUntilHole cX12_nightsUntilHole 5 (some .int)) ({ frames := 7, cells := 2, slots := 12, locals := 112 } : Room) E ad N w [.ref (ad (d)), .int (x), .int (y)] (fun r w' => (∃ k, cellV x y = some k ∧ ∃ i, fstN (fun i => decide (3 ≤ (ngN (ht, drt, pg, wt, wr, mo, mc, ni, po, dn) i).2.2.2.2.1 k)) 31 = some i ∧ r = nI i) ∧ (∃ st : Sh, bkP N w' (d + 22) 7 (shC E ad (d + 22) st)) ∧ gFr (gIn (d + 22) 7) w w') (fun xc w' => (xc = xIO ∧ cellV x y = none ∧ w' = w) ∨ (xc = xNS ∧ (∃ k, cellV x y = some k ∧ fstN (fun i => decide (3 ≤ (ngN (ht, drt, pg, wt, wr, mo, mc, ni, po, dn) i).2.2.2.2.1 k)) 31 = none) ∧ (∃ st : Sh, bkP N w' (d + 22) 7 (shC E ad (d + 22) st)) ∧ gFr (gIn (d + 22) 7) w w')) 2 12 := by
  refine vx_ofW (cc := cX12_nightsUntilHole) (maxL := 5) (ret := (some .int)) (by decide) rfl ?_
  intro p e s m args below meth cd s₁ B hml htab hv
  obtain ⟨rfl, hI, hP⟩ := hv
  obtain ⟨S, hr, hlocks⟩ := gPre (ws := []) B hml (C := RX12) rfl
  have hx := S.1
  have hb := S.2.1
  have hS : va_S (gA E) s.heap s.heap [] := va_S.rf
  have hfr : gFr (gIn (d + 22) 7) w w := gFr.rf
  have hl := lv_entry ([.ref (ad (d)), .int (x), .int (y)]) (n := 5) (Nat.le_of_ble_eq_true rfl)
  rw [lg_entry_eq]
  generalize (lg_sl ([.ref (ad (d)), .int (x), .int (y)]) ++ List.replicate (5 - (lg_sl ([.ref (ad (d)), .int (x), .int (y)])).length) Slot.unset).toArray = ls at hl ⊢
  have hl : lv_has ls 5 [(0, .ref (ad (d))), (1, .int (x)), (2, .int (y))] := hl
  refine lv_iload_n hx hb dX12_nightsUntilHole_0 rfl (lv_at hl 1 rfl) ?_
  refine lv_iload_n hx hb dX12_nightsUntilHole_1 rfl (lv_at hl 2 rfl) ?_
  refine g_xafi (g_xrunS S hI hP hS (k := 2) (As := [.int (x), .int (y)]) (rest := []) (mX12_requiredCell l x y hlt hz) q869 q870 q82 q871 rfl rfl (by decide +kernel) ⟨(Nat.le_of_ble_eq_true rfl), (Nat.le_of_ble_eq_true rfl)⟩ rfl hl.1 rfl (Nat.le_of_ble_eq_true rfl) ⟨(Nat.le_of_ble_eq_true rfl), (Nat.le_of_ble_eq_true rfl)⟩ dX12_nightsUntilHole_2) hS (fun xc w1 xq ce H locs hpx hP hS hcell hcv hcl => ?_) (fun rz w1 H locs hq hP hS => ?_)
  · exact g_xout S hI hS htab hlocks hP hcell hcv hcl (Or.inl hpx) (Nat.le_of_ble_eq_true rfl) (Nat.le_of_ble_eq_true rfl)
  · obtain ⟨k, hck, hrk, hww_k⟩ := hq
    rw [hww_k] at hP
    rw [hrk]
    have hkk := cellV_lt hck
    have hT0 : shOk (smN wt 36) (ht, drt, pg, wt, wr, mo, mc, ni, po, dn) := ⟨hht, hpg, Nat.le_refl _, hwr, hm, hmo⟩
    refine lv_istore_n (lv' := [(3, .int (nI (k))), (0, .ref (ad (d))), (1, .int (x)), (2, .int (y))]) hx hb dX12_nightsUntilHole_5 rfl hl (by decide) rfl (fun ls hl => ?_)
    refine lv_aload_n hx hb dX12_nightsUntilHole_6 rfl (lv_at hl 1 rfl) ?_
    refine g_get S hI hP uX12 rfl (fs := _) (hb_d.lt 0 (by decide)) (hb_d.2 0 (by decide)) 3 (by decide) q405 rfl (v := .ref (ad (d + 22))) rfl dX12_nightsUntilHole_7 ?_
    refine lv_aload_n hx hb dX12_nightsUntilHole_10 rfl (lv_at hl 1 rfl) ?_
    refine g_get S hI hP uX12 rfl (fs := _) (hb_d.lt 0 (by decide)) (hb_d.2 0 (by decide)) 0 (by decide) q402 rfl (v := .ref (ad (d + 1))) rfl dX12_nightsUntilHole_11 ?_
    refine g_afv (g_runV S hI hP hS (k := 1) (As := [.ref (ad (d + 1))]) (rest := []) (mX7_copyFromN l (d + 22) (d + 1) htt drt pgt wtt wrt mot mct nit pot dnt ht dr pg wt wr mo mc ni po dn hb_t hb_s (by omega) hpg) q831 q645 q646 q83 q647 rfl rfl (by decide +kernel) ⟨Nat.le_of_ble_eq_true rfl, Nat.le_of_ble_eq_true rfl⟩ rfl (hb_t.lt 0 (by decide)) (hb_t.2 0 (by decide)) rfl hl.1 rfl (Nat.le_of_ble_eq_true rfl) ⟨(Nat.le_of_ble_eq_true rfl), (Nat.le_of_ble_eq_true rfl)⟩ dX12_nightsUntilHole_14) hS (fun w1 H locs hq hP hS => ?_)
    obtain ⟨hb1, hf2⟩ := hq
    have hb3 := hb_d.fr hf2 (fun k hk => by show ¬ _; (try simp only [gIn]); (try dsimp only); omega)
    have hb4 := hb_s.fr hf2 (fun k hk => by show ¬ _; (try simp only [gIn]); (try dsimp only); omega)
    have hfr := hfr.trans hf2 (fun q hq => by (try simp only [gIn] at hq ⊢); (try dsimp only at hq ⊢); omega)
    refine g_iconst S 0 dX12_nightsUntilHole_17 (by decide +kernel) ?_
    refine lv_istore (lv' := [(4, .int (nI (0))), (3, .int (nI (k))), (0, .ref (ad (d))), (1, .int (x)), (2, .int (y))]) hx hb dX12_nightsUntilHole_18 hl (by decide) rfl (fun ls hl => ?_)
    have loop5 : ∀ (n : Nat) (i : Nat), 31 - i < n → (i ≤ 31) → (∀ j, j < i → (fun i => decide (3 ≤ (ngN (ht, drt, pg, wt, wr, mo, mc, ni, po, dn) i).2.2.2.2.1 k)) j = false) → ∀ (w1 : Nat → va_E) (H : Heap) (locs : List Loc), gP E ad N w1 H → va_S (gA E) s.heap H locs → bkP N w1 d 1 (DMC E ad d sv fp dq dd dc) → bkP N w1 (d + 1) 7 (SHC E ad (d + 1) ht dr pg wt wr mo mc ni po dn) → bkP N w1 (d + 22) 7 (SHC E ad (d + 22) ((ngN (ht, drt, pg, wt, wr, mo, mc, ni, po, dn) i).1) ((ngN (ht, drt, pg, wt, wr, mo, mc, ni, po, dn) i).2.1) ((ngN (ht, drt, pg, wt, wr, mo, mc, ni, po, dn) i).2.2.1) ((ngN (ht, drt, pg, wt, wr, mo, mc, ni, po, dn) i).2.2.2.1) ((ngN (ht, drt, pg, wt, wr, mo, mc, ni, po, dn) i).2.2.2.2.1) ((ngN (ht, drt, pg, wt, wr, mo, mc, ni, po, dn) i).2.2.2.2.2.1) ((ngN (ht, drt, pg, wt, wr, mo, mc, ni, po, dn) i).2.2.2.2.2.2.1) ((ngN (ht, drt, pg, wt, wr, mo, mc, ni, po, dn) i).2.2.2.2.2.2.2.1) ((ngN (ht, drt, pg, wt, wr, mo, mc, ni, po, dn) i).2.2.2.2.2.2.2.2.1) ((ngN (ht, drt, pg, wt, wr, mo, mc, ni, po, dn) i).2.2.2.2.2.2.2.2.2)) → gFr (gIn (d + 22) 7) w w1 → ∀ (ls : Array Slot), lv_has ls 5 [(4, .int (nI (i))), (3, .int (nI (k))), (0, .ref (ad (d))), (1, .int (x)), (2, .int (y))] → W p l e (headSpec (lw_ws yX12_nightsUntilHole cX12_nightsUntilHole 5 (some .int)) ({ frames := 7, cells := 2, slots := 12, locals := 112 } : Room)).room s m ([.ref (ad (d)), .int (x), .int (y)] : List Value).toArray below meth cd H locs 1 6 (vx_MQ below (va_Qi (fun r w' => (∃ k, cellV x y = some k ∧ ∃ i, fstN (fun i => decide (3 ≤ (ngN (ht, drt, pg, wt, wr, mo, mc, ni, po, dn) i).2.2.2.2.1 k)) 31 = some i ∧ r = nI i) ∧ (∃ st : Sh, bkP N w' (d + 22) 7 (shC E ad (d + 22) st)) ∧ gFr (gIn (d + 22) 7) w w') (gB E ad N) (gA E)) (gXC E ad N (fun xc w' => (xc = xIO ∧ cellV x y = none ∧ w' = w) ∨ (xc = xNS ∧ (∃ k, cellV x y = some k ∧ fstN (fun i => decide (3 ≤ (ngN (ht, drt, pg, wt, wr, mo, mc, ni, po, dn) i).2.2.2.2.1 k)) 31 = none) ∧ (∃ st : Sh, bkP N w' (d + 22) 7 (shC E ad (d + 22) st)) ∧ gFr (gIn (d + 22) 7) w w'))) ([.ref (ad (d)), .int (x), .int (y)] : List Value).toArray s 2 12 (gA E)) (F0 m 20 ls []) := by
      intro n
      induction n with
      | zero => intro i hmeas; omega
      | succ n ih_loop5 =>
        intro i hmeas hi hno w1 H locs hP hS hb6 hb7 hb8 hfr ls hl
        obtain ⟨g1, g2, g3, g4, g5, g6⟩ := ngN_ok hT0 i
        refine lv_iload hx hb dX12_nightsUntilHole_20 (lv_at hl 0 rfl) ?_
        refine g_bipush S 30 dX12_nightsUntilHole_22 (by decide +kernel) ?_
        refine g_gt S (a := i) (b := 30) (by omega) (by omega) (tgt := 55) dX12_nightsUntilHole_24 (by decide) (fun h30 => ?_) (fun h30 => ?_)
        · have ei : i = 31 := by omega
          subst ei
          exact g_throwN S hI hP hS hl.1 htab hlocks hlt hz (text := "no hole within 30 nights") q892 q113 (by decide) tn_221 dX12_nightsUntilHole_55 dX12_nightsUntilHole_58 dX12_nightsUntilHole_59 dX12_nightsUntilHole_61 dX12_nightsUntilHole_64 (Nat.le_of_ble_eq_true rfl) (Nat.le_of_ble_eq_true rfl) (Nat.le_of_ble_eq_true rfl) (Nat.le_of_ble_eq_true rfl) (Nat.le_of_ble_eq_true rfl) (Nat.le_of_ble_eq_true rfl) (Or.inr ⟨rfl, ⟨k, hck, fstN_none.mpr hno⟩, ⟨_, hb8⟩, hfr⟩)
        · refine lv_aload_n hx hb dX12_nightsUntilHole_27 rfl (lv_at hl 2 rfl) ?_
          refine g_get S hI hP uX12 rfl (fs := _) (hb6.lt 0 (by decide)) (hb6.2 0 (by decide)) 3 (by decide) q405 rfl (v := .ref (ad (d + 22))) rfl dX12_nightsUntilHole_28 ?_
          refine lv_iload_n hx hb dX12_nightsUntilHole_31 rfl (lv_at hl 1 rfl) ?_
          refine g_roi (g_runV S hI hP hS (k := 1) (As := [.int (nI (k))]) (rest := []) (mX7_hasHole l (d + 22) ((ngN (ht, drt, pg, wt, wr, mo, mc, ni, po, dn) i).1) ((ngN (ht, drt, pg, wt, wr, mo, mc, ni, po, dn) i).2.1) ((ngN (ht, drt, pg, wt, wr, mo, mc, ni, po, dn) i).2.2.1) ((ngN (ht, drt, pg, wt, wr, mo, mc, ni, po, dn) i).2.2.2.1) ((ngN (ht, drt, pg, wt, wr, mo, mc, ni, po, dn) i).2.2.2.2.1) ((ngN (ht, drt, pg, wt, wr, mo, mc, ni, po, dn) i).2.2.2.2.2.1) ((ngN (ht, drt, pg, wt, wr, mo, mc, ni, po, dn) i).2.2.2.2.2.2.1) ((ngN (ht, drt, pg, wt, wr, mo, mc, ni, po, dn) i).2.2.2.2.2.2.2.1) ((ngN (ht, drt, pg, wt, wr, mo, mc, ni, po, dn) i).2.2.2.2.2.2.2.2.1) ((ngN (ht, drt, pg, wt, wr, mo, mc, ni, po, dn) i).2.2.2.2.2.2.2.2.2) k hb8 hkk (g4 k hkk)) q1218 q506 q507 q83 q508 rfl rfl (by decide +kernel) ⟨Nat.le_of_ble_eq_true rfl, Nat.le_of_ble_eq_true rfl⟩ rfl (hb8.lt 0 (by decide)) (hb8.2 0 (by decide)) rfl hl.1 rfl (Nat.le_of_ble_eq_true rfl) ⟨(Nat.le_of_ble_eq_true rfl), (Nat.le_of_ble_eq_true rfl)⟩ dX12_nightsUntilHole_32) hS (fun H locs hP hS => ?_)
          refine g_beq S (b := decide (3 ≤ (ngN (ht, drt, pg, wt, wr, mo, mc, ni, po, dn) i).2.2.2.2.1 k)) (tgt := 41) dX12_nightsUntilHole_35 (by decide) (fun hh => ?_) (fun hh => ?_)
          · refine lv_aload_n hx hb dX12_nightsUntilHole_41 rfl (lv_at hl 2 rfl) ?_
            refine g_get S hI hP uX12 rfl (fs := _) (hb6.lt 0 (by decide)) (hb6.2 0 (by decide)) 3 (by decide) q405 rfl (v := .ref (ad (d + 22))) rfl dX12_nightsUntilHole_42 ?_
            refine g_afi (g_runV S hI hP hS (k := 0) (As := []) (rest := []) (mX7_letNightPass l (d + 22) ((ngN (ht, drt, pg, wt, wr, mo, mc, ni, po, dn) i).1) ((ngN (ht, drt, pg, wt, wr, mo, mc, ni, po, dn) i).2.1) ((ngN (ht, drt, pg, wt, wr, mo, mc, ni, po, dn) i).2.2.1) ((ngN (ht, drt, pg, wt, wr, mo, mc, ni, po, dn) i).2.2.2.1) ((ngN (ht, drt, pg, wt, wr, mo, mc, ni, po, dn) i).2.2.2.2.1) ((ngN (ht, drt, pg, wt, wr, mo, mc, ni, po, dn) i).2.2.2.2.2.1) ((ngN (ht, drt, pg, wt, wr, mo, mc, ni, po, dn) i).2.2.2.2.2.2.1) ((ngN (ht, drt, pg, wt, wr, mo, mc, ni, po, dn) i).2.2.2.2.2.2.2.1) ((ngN (ht, drt, pg, wt, wr, mo, mc, ni, po, dn) i).2.2.2.2.2.2.2.2.1) ((ngN (ht, drt, pg, wt, wr, mo, mc, ni, po, dn) i).2.2.2.2.2.2.2.2.2) hb8 g4 g1 g5 g6) q1219 q709 q710 q83 q711 rfl rfl (by decide +kernel) ⟨Nat.le_of_ble_eq_true rfl, Nat.le_of_ble_eq_true rfl⟩ rfl (hb8.lt 0 (by decide)) (hb8.2 0 (by decide)) rfl hl.1 rfl (Nat.le_of_ble_eq_true rfl) ⟨(Nat.le_of_ble_eq_true rfl), (Nat.le_of_ble_eq_true rfl)⟩ dX12_nightsUntilHole_45) hS (fun rz w1 H locs hq hP hS => ?_)
            obtain ⟨hr11, hb9, hf10⟩ := hq
            rw [hr11]
            have hb12 := hb6.fr hf10 (fun k hk => by show ¬ _; (try simp only [gIn]); (try dsimp only); omega)
            have hb13 := hb7.fr hf10 (fun k hk => by show ¬ _; (try simp only [gIn]); (try dsimp only); omega)
            have hfr := hfr.trans hf10 (fun q hq => by (try simp only [gIn] at hq ⊢); (try dsimp only at hq ⊢); omega)
            refine lv_pop hx hb dX12_nightsUntilHole_48 rfl ?_
            refine lv_iinc (v := nI (i + 1)) (lv' := [(4, .int (nI (i + 1))), (3, .int (nI (k))), (0, .ref (ad (d))), (1, .int (x)), (2, .int (y))]) hx hb dX12_nightsUntilHole_49 hl (k := 0) rfl (g_inc _ 1 (by decide +kernel)) (by decide) rfl (fun ls hl => ?_)
            refine lv_goto (tgt := 20) hx hb dX12_nightsUntilHole_52 (by decide) ?_
            exact ih_loop5 (i + 1) (by omega) (by omega) (fun j hj => by by_cases q : j = i; rw [q]; exact hh; exact hno j (by omega)) _ _ _ hP hS hb12 hb13 hb9 hfr ls (lv_sub hl [0, 1, 2, 3, 4] rfl)
          · refine lv_iload hx hb dX12_nightsUntilHole_38 (lv_at hl 0 rfl) ?_
            exact vx_ret (g_iret S hr hlocks hP hS (⟨⟨k, hck, i, fstN_some.mpr ⟨by omega, hh, hno⟩, rfl⟩, ⟨_, hb8⟩, hfr⟩) (fun _ _ => rfl) (Nat.le_of_ble_eq_true rfl) (Nat.le_of_ble_eq_true rfl) dX12_nightsUntilHole_40)
    exact loop5 (31 - (0) + 1) (0) (Nat.lt_succ_self _) (by omega) (fun j hj => absurd hj (Nat.not_lt_zero _)) _ _ _ hP hS hb3 hb4 hb1 hfr ls (lv_sub hl [0, 1, 2, 3, 4] rfl)
set_option maxHeartbeats 4000000 in
set_option maxRecDepth 100000 in
/-- denial -/
theorem mX12_denial (l : Launch) {E : gE} {ad : Nat → Nat} {N : Nat} {w : Nat → va_E} (d : Nat) (sv : Nat) (fp dq : Option Nat) (dd : Int32) (dc : Option Nat) (hb_d : bkP N w d 1 (DMC E ad d sv fp dq dd dc)) (hlt : l.stackTraces = false) (hz : gHx E) (hdq : ∀ k, dq = some k → k < 2 ^ 31) : gXi l yX12_denial (lw_ws yX12_denial cX12_denial 1 (some .int)) ({ frames := 7, cells := 1, slots := 6, locals := 110 } : Room) E ad N w [.ref (ad (d))] (fun r w' => (∃ k, dq = some k) ∧ r = oI dq ∧ w' = w) (fun xc w' => xc = xNS ∧ dq = none ∧ w' = w) 1 6 := by
  refine vx_ofW (cc := cX12_denial) (maxL := 1) (ret := (some .int)) (by decide) rfl ?_
  intro p e s m args below meth cd s₁ B hml htab hv
  obtain ⟨rfl, hI, hP⟩ := hv
  obtain ⟨S, hr, hlocks⟩ := gPre (ws := []) B hml (C := RX12) rfl
  have hx := S.1
  have hb := S.2.1
  have hS : va_S (gA E) s.heap s.heap [] := va_S.rf
  have hl := lv_entry ([.ref (ad (d))]) (n := 1) (Nat.le_of_ble_eq_true rfl)
  rw [lg_entry_eq]
  generalize (lg_sl ([.ref (ad (d))]) ++ List.replicate (1 - (lg_sl ([.ref (ad (d))])).length) Slot.unset).toArray = ls at hl ⊢
  have hl : lv_has ls 1 [(0, .ref (ad (d)))] := hl
  refine lv_aload_n hx hb dX12_denial_0 rfl (lv_at hl 0 rfl) ?_
  refine g_xafv (g_xrunV S hI hP hS (k := 0) (As := []) (rest := []) (mX12_requireDenial l d sv fp dq dd dc hb_d hlt hz hdq) q1737 q1739 q47 q82 q1740 rfl rfl (by decide +kernel) ⟨(Nat.le_of_ble_eq_true rfl), (Nat.le_of_ble_eq_true rfl)⟩ rfl (hb_d.lt 0 (by decide)) (hb_d.2 0 (by decide)) rfl hl.1 rfl (Nat.le_of_ble_eq_true rfl) ⟨(Nat.le_of_ble_eq_true rfl), (Nat.le_of_ble_eq_true rfl)⟩ dX12_denial_1) hS (fun xc w1 xq ce H locs hpx hP hS hcell hcv hcl => ?_) (fun w1 H locs hq hP hS => ?_)
  · exact g_xout S hI hS htab hlocks hP hcell hcv hcl (hpx) (Nat.le_of_ble_eq_true rfl) (Nat.le_of_ble_eq_true rfl)
  · obtain ⟨hk, hww⟩ := hq
    rw [hww] at hP
    refine lv_aload_n hx hb dX12_denial_4 rfl (lv_at hl 0 rfl) ?_
    refine g_get S hI hP uX12 rfl (fs := _) (hb_d.lt 0 (by decide)) (hb_d.2 0 (by decide)) 12 (by decide) q414 rfl (v := .int (oI (dq))) rfl dX12_denial_5 ?_
    exact vx_ret (g_iret S hr hlocks hP hS (⟨hk, rfl, rfl⟩) (fun _ _ => rfl) (Nat.le_of_ble_eq_true rfl) (Nat.le_of_ble_eq_true rfl) dX12_denial_8)
set_option maxHeartbeats 4000000 in
set_option maxRecDepth 100000 in
/-- denialDetail -/
theorem mX12_denialDetail (l : Launch) {E : gE} {ad : Nat → Nat} {N : Nat} {w : Nat → va_E} (d : Nat) (sv : Nat) (fp dq : Option Nat) (dd : Int32) (dc : Option Nat) (hb_d : bkP N w d 1 (DMC E ad d sv fp dq dd dc)) (hlt : l.stackTraces = false) (hz : gHx E) (hdq : ∀ k, dq = some k → k < 2 ^ 31) : gXi l yX12_denialDetail (lw_ws yX12_denialDetail cX12_denialDetail 1 (some .int)) ({ frames := 7, cells := 1, slots := 6, locals := 110 } : Room) E ad N w [.ref (ad (d))] (fun r w' => (∃ k, dq = some k) ∧ r = dd ∧ w' = w) (fun xc w' => xc = xNS ∧ dq = none ∧ w' = w) 1 6 := by
  refine vx_ofW (cc := cX12_denialDetail) (maxL := 1) (ret := (some .int)) (by decide) rfl ?_
  intro p e s m args below meth cd s₁ B hml htab hv
  obtain ⟨rfl, hI, hP⟩ := hv
  obtain ⟨S, hr, hlocks⟩ := gPre (ws := []) B hml (C := RX12) rfl
  have hx := S.1
  have hb := S.2.1
  have hS : va_S (gA E) s.heap s.heap [] := va_S.rf
  have hl := lv_entry ([.ref (ad (d))]) (n := 1) (Nat.le_of_ble_eq_true rfl)
  rw [lg_entry_eq]
  generalize (lg_sl ([.ref (ad (d))]) ++ List.replicate (1 - (lg_sl ([.ref (ad (d))])).length) Slot.unset).toArray = ls at hl ⊢
  have hl : lv_has ls 1 [(0, .ref (ad (d)))] := hl
  refine lv_aload_n hx hb dX12_denialDetail_0 rfl (lv_at hl 0 rfl) ?_
  refine g_xafv (g_xrunV S hI hP hS (k := 0) (As := []) (rest := []) (mX12_requireDenial l d sv fp dq dd dc hb_d hlt hz hdq) q1737 q1739 q47 q82 q1740 rfl rfl (by decide +kernel) ⟨(Nat.le_of_ble_eq_true rfl), (Nat.le_of_ble_eq_true rfl)⟩ rfl (hb_d.lt 0 (by decide)) (hb_d.2 0 (by decide)) rfl hl.1 rfl (Nat.le_of_ble_eq_true rfl) ⟨(Nat.le_of_ble_eq_true rfl), (Nat.le_of_ble_eq_true rfl)⟩ dX12_denialDetail_1) hS (fun xc w1 xq ce H locs hpx hP hS hcell hcv hcl => ?_) (fun w1 H locs hq hP hS => ?_)
  · exact g_xout S hI hS htab hlocks hP hcell hcv hcl (hpx) (Nat.le_of_ble_eq_true rfl) (Nat.le_of_ble_eq_true rfl)
  · obtain ⟨hk, hww⟩ := hq
    rw [hww] at hP
    refine lv_aload_n hx hb dX12_denialDetail_4 rfl (lv_at hl 0 rfl) ?_
    refine g_get S hI hP uX12 rfl (fs := _) (hb_d.lt 0 (by decide)) (hb_d.2 0 (by decide)) 13 (by decide) q415 rfl (v := .int (dd)) rfl dX12_denialDetail_5 ?_
    exact vx_ret (g_iret S hr hlocks hP hS (⟨hk, rfl, rfl⟩) (fun _ _ => rfl) (Nat.le_of_ble_eq_true rfl) (Nat.le_of_ble_eq_true rfl) dX12_denialDetail_8)
set_option maxHeartbeats 4000000 in
set_option maxRecDepth 100000 in
/-- denialCause -/
theorem mX12_denialCause (l : Launch) {E : gE} {ad : Nat → Nat} {N : Nat} {w : Nat → va_E} (d : Nat) (sv : Nat) (fp dq : Option Nat) (dd : Int32) (dc : Option Nat) (hb_d : bkP N w d 1 (DMC E ad d sv fp dq dd dc)) (hlt : l.stackTraces = false) (hz : gHx E) (hdq : ∀ k, dc = some k → k < 2 ^ 31) : gXi l yX12_denialCause (lw_ws yX12_denialCause cX12_denialCause 1 (some .int)) ({ frames := 6, cells := 1, slots := 6, locals := 90 } : Room) E ad N w [.ref (ad (d))] (fun r w' => ∃ k, dc = some k ∧ r = nI k ∧ w' = w) (fun xc w' => xc = xNS ∧ dc = none ∧ w' = w) 1 6 := by
  refine vx_ofW (cc := cX12_denialCause) (maxL := 1) (ret := (some .int)) (by decide) rfl ?_
  intro p e s m args below meth cd s₁ B hml htab hv
  obtain ⟨rfl, hI, hP⟩ := hv
  obtain ⟨S, hr, hlocks⟩ := gPre (ws := []) B hml (C := RX12) rfl
  have hx := S.1
  have hb := S.2.1
  have hS : va_S (gA E) s.heap s.heap [] := va_S.rf
  have hl := lv_entry ([.ref (ad (d))]) (n := 1) (Nat.le_of_ble_eq_true rfl)
  rw [lg_entry_eq]
  generalize (lg_sl ([.ref (ad (d))]) ++ List.replicate (1 - (lg_sl ([.ref (ad (d))])).length) Slot.unset).toArray = ls at hl ⊢
  have hl : lv_has ls 1 [(0, .ref (ad (d)))] := hl
  refine lv_aload_n hx hb dX12_denialCause_0 rfl (lv_at hl 0 rfl) ?_
  refine g_get S hI hP uX12 rfl (fs := _) (hb_d.lt 0 (by decide)) (hb_d.2 0 (by decide)) 14 (by decide) q416 rfl (v := .int (oI (dc))) rfl dX12_denialCause_1 ?_
  refine lv_iconst (v := -1) hx hb dX12_denialCause_4 (by decide +kernel) ?_
  refine g_one S (o := dc) (hdq) (tgt := 19) dX12_denialCause_5 (by decide) (fun hn_k hn => ?_) (fun hn => ?_)
  · refine lv_aload_n hx hb dX12_denialCause_19 rfl (lv_at hl 0 rfl) ?_
    refine g_get S hI hP uX12 rfl (fs := _) (hb_d.lt 0 (by decide)) (hb_d.2 0 (by decide)) 14 (by decide) q416 rfl (v := .int (oI (dc))) rfl dX12_denialCause_20 ?_
    exact vx_ret (g_iret S hr hlocks hP hS (⟨hn_k, hn, by rw [hn]; rfl, rfl⟩) (fun _ _ => rfl) (Nat.le_of_ble_eq_true rfl) (Nat.le_of_ble_eq_true rfl) dX12_denialCause_23)
  · exact g_throwNW S hI hP hS hl.1 htab hlocks hlt hz (text := "there is no cause") q892 q113 (by decide) tn_221 dX12_denialCause_8 dX12_denialCause_11 dX12_denialCause_12 dX12_denialCause_15 dX12_denialCause_18 (Nat.le_of_ble_eq_true rfl) (Nat.le_of_ble_eq_true rfl) (Nat.le_of_ble_eq_true rfl) (Nat.le_of_ble_eq_true rfl) (Nat.le_of_ble_eq_true rfl) (Nat.le_of_ble_eq_true rfl) (⟨rfl, hn, rfl⟩)
set_option maxHeartbeats 4000000 in
set_option maxRecDepth 100000 in
/-- faultPosition -/
theorem mX12_faultPosition (l : Launch) {E : gE} {ad : Nat → Nat} {N : Nat} {w : Nat → va_E} (d : Nat) (sv : Nat) (fp dq : Option Nat) (dd : Int32) (dc : Option Nat) (hb_d : bkP N w d 1 (DMC E ad d sv fp dq dd dc)) (hlt : l.stackTraces = false) (hz : gHx E) (hdq : ∀ k, fp = some k → k < 2 ^ 31) : gXi l yX12_faultPosition (lw_ws yX12_faultPosition cX12_faultPosition 1 (some .int)) ({ frames := 6, cells := 1, slots := 6, locals := 90 } : Room) E ad N w [.ref (ad (d))] (fun r w' => ∃ k, fp = some k ∧ r = nI k ∧ w' = w) (fun xc w' => xc = xNS ∧ fp = none ∧ w' = w) 1 6 := by
  refine vx_ofW (cc := cX12_faultPosition) (maxL := 1) (ret := (some .int)) (by decide) rfl ?_
  intro p e s m args below meth cd s₁ B hml htab hv
  obtain ⟨rfl, hI, hP⟩ := hv
  obtain ⟨S, hr, hlocks⟩ := gPre (ws := []) B hml (C := RX12) rfl
  have hx := S.1
  have hb := S.2.1
  have hS : va_S (gA E) s.heap s.heap [] := va_S.rf
  have hl := lv_entry ([.ref (ad (d))]) (n := 1) (Nat.le_of_ble_eq_true rfl)
  rw [lg_entry_eq]
  generalize (lg_sl ([.ref (ad (d))]) ++ List.replicate (1 - (lg_sl ([.ref (ad (d))])).length) Slot.unset).toArray = ls at hl ⊢
  have hl : lv_has ls 1 [(0, .ref (ad (d)))] := hl
  refine lv_aload_n hx hb dX12_faultPosition_0 rfl (lv_at hl 0 rfl) ?_
  refine g_get S hI hP uX12 rfl (fs := _) (hb_d.lt 0 (by decide)) (hb_d.2 0 (by decide)) 11 (by decide) q413 rfl (v := .int (oI (fp))) rfl dX12_faultPosition_1 ?_
  refine lv_iconst (v := -1) hx hb dX12_faultPosition_4 (by decide +kernel) ?_
  refine g_one S (o := fp) (hdq) (tgt := 19) dX12_faultPosition_5 (by decide) (fun hn_k hn => ?_) (fun hn => ?_)
  · refine lv_aload_n hx hb dX12_faultPosition_19 rfl (lv_at hl 0 rfl) ?_
    refine g_get S hI hP uX12 rfl (fs := _) (hb_d.lt 0 (by decide)) (hb_d.2 0 (by decide)) 11 (by decide) q413 rfl (v := .int (oI (fp))) rfl dX12_faultPosition_20 ?_
    exact vx_ret (g_iret S hr hlocks hP hS (⟨hn_k, hn, by rw [hn]; rfl, rfl⟩) (fun _ _ => rfl) (Nat.le_of_ble_eq_true rfl) (Nat.le_of_ble_eq_true rfl) dX12_faultPosition_23)
  · exact g_throwNW S hI hP hS hl.1 htab hlocks hlt hz (text := "no fault position was kept yet") q892 q113 (by decide) tn_221 dX12_faultPosition_8 dX12_faultPosition_11 dX12_faultPosition_12 dX12_faultPosition_15 dX12_faultPosition_18 (Nat.le_of_ble_eq_true rfl) (Nat.le_of_ble_eq_true rfl) (Nat.le_of_ble_eq_true rfl) (Nat.le_of_ble_eq_true rfl) (Nat.le_of_ble_eq_true rfl) (Nat.le_of_ble_eq_true rfl) (⟨rfl, hn, rfl⟩)
set_option maxHeartbeats 4000000 in
set_option maxRecDepth 100000 in
/-- undo -/
theorem mX12_undo (l : Launch) {E : gE} {ad : Nat → Nat} {N : Nat} {w : Nat → va_E} (d : Nat) (sv : Nat) (fp dq : Option Nat) (dd : Int32) (dc : Option Nat) (ht dr pg wt wr mo : Nat → Nat) (mc ni po dn : Nat) (pl ct : Nat) (K : Nat → Sh) (hb_d : bkP N w d 1 (DMC E ad d sv fp dq dd dc)) (hb_s : bkP N w (d + 1) 7 (SHC E ad (d + 1) ht dr pg wt wr mo mc ni po dn)) (hlt : l.stackTraces = false) (hz : gHx E) (hh : hsP E ad N w (d + 29) pl ct K) (hpl : pl < 8) (hct : ct ≤ 8) (hK : ∀ j, j < 8 → ∃ B, shOk B (K j)) : gXi l yX12_undo (lw_ws yX12_undo cX12_undo 1 (some .int)) ({ frames := 6, cells := 1, slots := 6, locals := 90 } : Room) E ad N w [.ref (ad (d))] (fun r w' => 0 < ct ∧ r = nI (ct - 1) ∧ hsP E ad N w' (d + 29) ((pl + 8 - 1) % 8) (ct - 1) K ∧ bkP N w' (d + 1) 7 (shC E ad (d + 1) (cpS (K ((pl + 8 - 1) % 8)) (ht, dr, pg, wt, wr, mo, mc, ni, po, dn))) ∧ gFr (fun q => (d + 29 ≤ q ∧ q < d + 87) ∨ (d + 1 ≤ q ∧ q < d + 8)) w w') (fun xc w' => xc = xIS ∧ ct = 0 ∧ hsP E ad N w' (d + 29) pl ct K ∧ bkP N w' (d + 1) 7 (SHC E ad (d + 1) ht dr pg wt wr mo mc ni po dn) ∧ gFr (fun q => (d + 29 ≤ q ∧ q < d + 87) ∨ (d + 1 ≤ q ∧ q < d + 8)) w w') 1 6 := by
  refine vx_ofW (cc := cX12_undo) (maxL := 1) (ret := (some .int)) (by decide) rfl ?_
  intro p e s m args below meth cd s₁ B hml htab hv
  obtain ⟨rfl, hI, hP⟩ := hv
  obtain ⟨S, hr, hlocks⟩ := gPre (ws := []) B hml (C := RX12) rfl
  have hx := S.1
  have hb := S.2.1
  have hS : va_S (gA E) s.heap s.heap [] := va_S.rf
  have hfr : gFr (fun q => (d + 29 ≤ q ∧ q < d + 87) ∨ (d + 1 ≤ q ∧ q < d + 8)) w w := gFr.rf
  have hl := lv_entry ([.ref (ad (d))]) (n := 1) (Nat.le_of_ble_eq_true rfl)
  rw [lg_entry_eq]
  generalize (lg_sl ([.ref (ad (d))]) ++ List.replicate (1 - (lg_sl ([.ref (ad (d))])).length) Slot.unset).toArray = ls at hl ⊢
  have hl : lv_has ls 1 [(0, .ref (ad (d)))] := hl
  have hb_h := hh.1
  refine lv_aload_n hx hb dX12_undo_0 rfl (lv_at hl 0 rfl) ?_
  refine g_get S hI hP uX12 rfl (fs := _) (hb_d.lt 0 (by decide)) (hb_d.2 0 (by decide)) 4 (by decide) q406 rfl (v := .ref (ad (d + 29))) rfl dX12_undo_1 ?_
  refine lv_aload_n hx hb dX12_undo_4 rfl (lv_at hl 0 rfl) ?_
  refine g_get S hI hP uX12 rfl (fs := _) (hb_d.lt 0 (by decide)) (hb_d.2 0 (by decide)) 0 (by decide) q402 rfl (v := .ref (ad (d + 1))) rfl dX12_undo_5 ?_
  refine g_afi (g_runV S hI hP hS (k := 1) (As := [.ref (ad (d + 1))]) (rest := []) (mX4_takeBack l (d + 29) pl ct K (d + 1) ht dr pg wt wr mo mc ni po dn hb_s hh (by omega) hpl hct hK) q1764 q1765 q1766 q85 q1767 rfl rfl (by decide +kernel) ⟨Nat.le_of_ble_eq_true rfl, Nat.le_of_ble_eq_true rfl⟩ rfl (hb_h.lt 0 (by decide)) (hb_h.2 0 (by decide)) rfl hl.1 rfl (Nat.le_of_ble_eq_true rfl) ⟨(Nat.le_of_ble_eq_true rfl), (Nat.le_of_ble_eq_true rfl)⟩ dX12_undo_8) hS (fun rz w1 H locs hq hP hS => ?_)
  obtain ⟨hrq, hh2, hs2, hfx⟩ := hq
  rw [hrq]
  have hd2 := hb_d.fr hfx (fun k hk => by show ¬ _; (try dsimp only); omega)
  have hfr := hfr.trans hfx (fun q hq => by (try dsimp only at hq ⊢); omega)
  refine g_bne S (b := !decide (ct = 0)) (tgt := 25) dX12_undo_11 (by decide) (fun hzz => ?_) (fun hzz => ?_)
  · have hz0 : ¬ ct = 0 := by simpa using hzz
    rw [if_neg hz0] at hh2 hs2
    have hb_h2 := hh2.1
    refine lv_aload_n hx hb dX12_undo_25 rfl (lv_at hl 0 rfl) ?_
    refine g_get S hI hP uX12 rfl (fs := _) (hd2.lt 0 (by decide)) (hd2.2 0 (by decide)) 4 (by decide) q406 rfl (v := .ref (ad (d + 29))) rfl dX12_undo_26 ?_
    refine g_getN S hI hP uX4 rfl (fs := _) (hb_h2.lt 0 (by decide)) (hb_h2.2 0 (by decide)) 2 (by decide) q196 rfl (v := .int (nI (ct - 1))) rfl dX12_undo_29 ?_
    exact vx_ret (g_iret S hr hlocks hP hS (⟨by omega, rfl, hh2, hs2, hfr⟩) (fun _ _ => rfl) (Nat.le_of_ble_eq_true rfl) (Nat.le_of_ble_eq_true rfl) dX12_undo_32)
  · have hz0 : ct = 0 := by simpa using hzz
    rw [if_pos hz0, show ct - 1 = ct by omega] at hh2
    rw [if_pos hz0] at hs2
    exact g_throwW S hI hP hS hl.1 htab hlocks hlt hz (cls := "java/lang/IllegalStateException") (text := "no change can be undone") q1245 q114 (by decide) tx_253 (by decide +kernel) dX12_undo_14 dX12_undo_17 dX12_undo_18 dX12_undo_21 dX12_undo_24 (Nat.le_of_ble_eq_true rfl) (Nat.le_of_ble_eq_true rfl) (Nat.le_of_ble_eq_true rfl) (Nat.le_of_ble_eq_true rfl) (Nat.le_of_ble_eq_true rfl) (Nat.le_of_ble_eq_true rfl) (⟨rfl, hz0, hh2, hs2, hfr⟩)
set_option maxHeartbeats 4000000 in
set_option maxRecDepth 100000 in
/-- undoCount -/
theorem mX12_undoCount (l : Launch) {E : gE} {ad : Nat → Nat} {N : Nat} {w : Nat → va_E} (d : Nat) (sv : Nat) (fp dq : Option Nat) (dd : Int32) (dc : Option Nat) (pl ct : Nat) (K : Nat → Sh) (hb_d : bkP N w d 1 (DMC E ad d sv fp dq dd dc)) (hh : hsP E ad N w (d + 29) pl ct K) : gMi l yX12_undoCount (lw_ws yX12_undoCount cX12_undoCount 1 (some .int)) ({ frames := 0, cells := 0, slots := 0, locals := 0 } : Room) E ad N w [.ref (ad (d))] (fun r w' => r = nI ct ∧ w' = w) 0 0 := by
  refine Met.ofW (cc := cX12_undoCount) (maxL := 1) (ret := (some .int)) (by decide) rfl ?_
  intro p e s m args below meth cd s₁ B hml hv
  obtain ⟨rfl, hI, hP⟩ := hv
  obtain ⟨S, hr, hlocks⟩ := gPre (ws := []) B hml (C := RX12) rfl
  have hx := S.1
  have hb := S.2.1
  have hS : va_S (gA E) s.heap s.heap [] := va_S.rf
  have hl := lv_entry ([.ref (ad (d))]) (n := 1) (Nat.le_of_ble_eq_true rfl)
  rw [lg_entry_eq]
  generalize (lg_sl ([.ref (ad (d))]) ++ List.replicate (1 - (lg_sl ([.ref (ad (d))])).length) Slot.unset).toArray = ls at hl ⊢
  have hl : lv_has ls 1 [(0, .ref (ad (d)))] := hl
  have hb_h := hh.1
  refine lv_aload_n hx hb dX12_undoCount_0 rfl (lv_at hl 0 rfl) ?_
  refine g_get S hI hP uX12 rfl (fs := _) (hb_d.lt 0 (by decide)) (hb_d.2 0 (by decide)) 4 (by decide) q406 rfl (v := .ref (ad (d + 29))) rfl dX12_undoCount_1 ?_
  refine g_getN S hI hP uX4 rfl (fs := _) (hb_h.lt 0 (by decide)) (hb_h.2 0 (by decide)) 2 (by decide) q196 rfl (v := .int (nI (ct))) rfl dX12_undoCount_4 ?_
  exact g_iret S hr hlocks hP hS (⟨rfl, rfl⟩) (fun _ _ => rfl) (Nat.le_of_ble_eq_true rfl) (Nat.le_of_ble_eq_true rfl) dX12_undoCount_7
set_option maxHeartbeats 4000000 in
set_option maxRecDepth 100000 in
/-- saveSnapshot -/
theorem mX12_saveSnapshot (l : Launch) {E : gE} {ad : Nat → Nat} {N : Nat} {w : Nat → va_E} (d : Nat) (sv : Nat) (fp dq : Option Nat) (dd : Int32) (dc : Option Nat) (ht dr pg wt wr mo : Nat → Nat) (mc ni po dn : Nat) (htn drn pgn wtn wrn mon : Nat → Nat) (mcn nin pon dnn : Nat) (hb_d : bkP N w d 1 (DMC E ad d sv fp dq dd dc)) (hb_s : bkP N w (d + 1) 7 (SHC E ad (d + 1) ht dr pg wt wr mo mc ni po dn)) (hb_n : bkP N w (d + 8) 7 (SHC E ad (d + 8) htn drn pgn wtn wrn mon mcn nin pon dnn)) (hpg : ∀ k, k < 36 → pg k ≤ 1) : gMi l yX12_saveSnapshot (lw_ws yX12_saveSnapshot cX12_saveSnapshot 1 (some .int)) ({ frames := 2, cells := 0, slots := 0, locals := 47 } : Room) E ad N w [.ref (ad (d))] (fun r w' => r = nI mc ∧ bkP N w' d 1 (DMC E ad d 1 fp dq dd dc) ∧ bkP N w' (d + 8) 7 (shC E ad (d + 8) (ht, drn, pg, wt, wr, mo, mc, ni, po, dn)) ∧ gFr (fun q => q = d ∨ (d + 8 ≤ q ∧ q < d + 15)) w w') 0 0 := by
  refine Met.ofW (cc := cX12_saveSnapshot) (maxL := 1) (ret := (some .int)) (by decide) rfl ?_
  intro p e s m args below meth cd s₁ B hml hv
  obtain ⟨rfl, hI, hP⟩ := hv
  obtain ⟨S, hr, hlocks⟩ := gPre (ws := []) B hml (C := RX12) rfl
  have hx := S.1
  have hb := S.2.1
  have hS : va_S (gA E) s.heap s.heap [] := va_S.rf
  have hfr : gFr (fun q => q = d ∨ (d + 8 ≤ q ∧ q < d + 15)) w w := gFr.rf
  have hl := lv_entry ([.ref (ad (d))]) (n := 1) (Nat.le_of_ble_eq_true rfl)
  rw [lg_entry_eq]
  generalize (lg_sl ([.ref (ad (d))]) ++ List.replicate (1 - (lg_sl ([.ref (ad (d))])).length) Slot.unset).toArray = ls at hl ⊢
  have hl : lv_has ls 1 [(0, .ref (ad (d)))] := hl
  refine lv_aload_n hx hb dX12_saveSnapshot_0 rfl (lv_at hl 0 rfl) ?_
  refine g_get S hI hP uX12 rfl (fs := _) (hb_d.lt 0 (by decide)) (hb_d.2 0 (by decide)) 1 (by decide) q403 rfl (v := .ref (ad (d + 8))) rfl dX12_saveSnapshot_1 ?_
  refine lv_aload_n hx hb dX12_saveSnapshot_4 rfl (lv_at hl 0 rfl) ?_
  refine g_get S hI hP uX12 rfl (fs := _) (hb_d.lt 0 (by decide)) (hb_d.2 0 (by decide)) 0 (by decide) q402 rfl (v := .ref (ad (d + 1))) rfl dX12_saveSnapshot_5 ?_
  refine g_afv (g_runV S hI hP hS (k := 1) (As := [.ref (ad (d + 1))]) (rest := []) (mX7_copyFromN l (d + 8) (d + 1) htn drn pgn wtn wrn mon mcn nin pon dnn ht dr pg wt wr mo mc ni po dn hb_n hb_s (by omega) hpg) q831 q645 q646 q83 q647 rfl rfl (by decide +kernel) ⟨Nat.le_of_ble_eq_true rfl, Nat.le_of_ble_eq_true rfl⟩ rfl (hb_n.lt 0 (by decide)) (hb_n.2 0 (by decide)) rfl hl.1 rfl (Nat.le_of_ble_eq_true rfl) ⟨(Nat.le_of_ble_eq_true rfl), (Nat.le_of_ble_eq_true rfl)⟩ dX12_saveSnapshot_8) hS (fun w1 H locs hq hP hS => ?_)
  obtain ⟨hb1, hf2⟩ := hq
  have hb3 := hb_d.fr hf2 (fun k hk => by show ¬ _; (try simp only [gIn]); (try dsimp only); omega)
  have hb4 := hb_s.fr hf2 (fun k hk => by show ¬ _; (try simp only [gIn]); (try dsimp only); omega)
  have hfr := hfr.trans hf2 (fun q hq => by (try simp only [gIn] at hq ⊢); (try dsimp only at hq ⊢); omega)
  refine lv_aload_n hx hb dX12_saveSnapshot_11 rfl (lv_at hl 0 rfl) ?_
  refine g_iconst S 1 dX12_saveSnapshot_12 (by decide +kernel) ?_
  refine g_put S hI hP hS uX12 rfl tyX12 tyX12_ok nmX12 (fs := _) (hb3.lt 0 (by decide)) (hb3.2 0 (by decide)) 10 (by decide) q412 rfl rfl (v := .int (nI (1))) rfl rfl (Nat.le_of_ble_eq_true rfl) dX12_saveSnapshot_13 (fun H locs hP hS => ?_)
  have hP : gP E ad N (va_up _ (d) (DMC E ad d 1 fp dq dd dc 0)) H := hP
  have hb5 : bkP N (va_up _ (d) (DMC E ad d 1 fp dq dd dc 0)) d 1 (DMC E ad d 1 fp dq dd dc) := DM_setO hb3 _ _ _ _ _
  have hb6 := hb4.keep (p := d) (e := DMC E ad d 1 fp dq dd dc 0) (by omega)
  have hb7 := hb1.keep (p := d) (e := DMC E ad d 1 fp dq dd dc 0) (by omega)
  have hfr := hfr.up (p := d) (e := DMC E ad d 1 fp dq dd dc 0) (by show _ ∨ _; omega)
  refine lv_aload_n hx hb dX12_saveSnapshot_16 rfl (lv_at hl 0 rfl) ?_
  refine g_get S hI hP uX12 rfl (fs := _) (hb5.lt 0 (by decide)) (hb5.2 0 (by decide)) 0 (by decide) q402 rfl (v := .ref (ad (d + 1))) rfl dX12_saveSnapshot_17 ?_
  refine g_getN S hI hP uX7 rfl (fs := _) (hb6.lt 0 (by decide)) (hb6.2 0 (by decide)) 6 (by decide) q154 rfl (v := .int (nI (mc))) rfl dX12_saveSnapshot_20 ?_
  exact g_iret S hr hlocks hP hS (⟨rfl, hb5, hb7, hfr⟩) (fun _ _ => rfl) (Nat.le_of_ble_eq_true rfl) (Nat.le_of_ble_eq_true rfl) dX12_saveSnapshot_23
set_option maxHeartbeats 4000000 in
set_option maxRecDepth 100000 in
/-- restoreSnapshot -/
theorem mX12_restoreSnapshot (l : Launch) {E : gE} {ad : Nat → Nat} {N : Nat} {w : Nat → va_E} (d : Nat) (sv : Nat) (fp dq : Option Nat) (dd : Int32) (dc : Option Nat) (ht dr pg wt wr mo : Nat → Nat) (mc ni po dn : Nat) (htn drn pgn wtn wrn mon : Nat → Nat) (mcn nin pon dnn : Nat) (pl ct : Nat) (K : Nat → Sh) (hb_d : bkP N w d 1 (DMC E ad d sv fp dq dd dc)) (hb_s : bkP N w (d + 1) 7 (SHC E ad (d + 1) ht dr pg wt wr mo mc ni po dn)) (hb_n : bkP N w (d + 8) 7 (SHC E ad (d + 8) htn drn pgn wtn wrn mon mcn nin pon dnn)) (hlt : l.stackTraces = false) (hz : gHx E) (hh : hsP E ad N w (d + 29) pl ct K) (hsv : sv ≤ 1) (hpgn : ∀ k, k < 36 → pgn k ≤ 1) : gXi l yX12_restoreSnapshot (lw_ws yX12_restoreSnapshot cX12_restoreSnapshot 1 (some .int)) ({ frames := 6, cells := 1, slots := 6, locals := 90 } : Room) E ad N w [.ref (ad (d))] (fun r w' => 0 < sv ∧ r = nI mcn ∧ bkP N w' (d + 1) 7 (shC E ad (d + 1) (htn, dr, pgn, wtn, wrn, mon, mcn, nin, pon, dnn)) ∧ hsP E ad N w' (d + 29) pl 0 K ∧ gFr (fun q => (d + 1 ≤ q ∧ q < d + 8) ∨ (d + 29 ≤ q ∧ q < d + 87)) w w') (fun xc w' => xc = xIS ∧ sv = 0 ∧ w' = w) 1 6 := by
  refine vx_ofW (cc := cX12_restoreSnapshot) (maxL := 1) (ret := (some .int)) (by decide) rfl ?_
  intro p e s m args below meth cd s₁ B hml htab hv
  obtain ⟨rfl, hI, hP⟩ := hv
  obtain ⟨S, hr, hlocks⟩ := gPre (ws := []) B hml (C := RX12) rfl
  have hx := S.1
  have hb := S.2.1
  have hS : va_S (gA E) s.heap s.heap [] := va_S.rf
  have hfr : gFr (fun q => (d + 1 ≤ q ∧ q < d + 8) ∨ (d + 29 ≤ q ∧ q < d + 87)) w w := gFr.rf
  have hl := lv_entry ([.ref (ad (d))]) (n := 1) (Nat.le_of_ble_eq_true rfl)
  rw [lg_entry_eq]
  generalize (lg_sl ([.ref (ad (d))]) ++ List.replicate (1 - (lg_sl ([.ref (ad (d))])).length) Slot.unset).toArray = ls at hl ⊢
  have hl : lv_has ls 1 [(0, .ref (ad (d)))] := hl
  have hb_h := hh.1
  refine lv_aload_n hx hb dX12_restoreSnapshot_0 rfl (lv_at hl 0 rfl) ?_
  refine g_get S hI hP uX12 rfl (fs := _) (hb_d.lt 0 (by decide)) (hb_d.2 0 (by decide)) 10 (by decide) q412 rfl (v := .int (nI (sv))) rfl dX12_restoreSnapshot_1 ?_
  refine g_ifne S (a := sv) (by omega) (tgt := 18) dX12_restoreSnapshot_4 (by decide) (fun hzz => ?_) (fun hzz => ?_)
  · refine lv_aload_n hx hb dX12_restoreSnapshot_18 rfl (lv_at hl 0 rfl) ?_
    refine g_get S hI hP uX12 rfl (fs := _) (hb_d.lt 0 (by decide)) (hb_d.2 0 (by decide)) 0 (by decide) q402 rfl (v := .ref (ad (d + 1))) rfl dX12_restoreSnapshot_19 ?_
    refine lv_aload_n hx hb dX12_restoreSnapshot_22 rfl (lv_at hl 0 rfl) ?_
    refine g_get S hI hP uX12 rfl (fs := _) (hb_d.lt 0 (by decide)) (hb_d.2 0 (by decide)) 1 (by decide) q403 rfl (v := .ref (ad (d + 8))) rfl dX12_restoreSnapshot_23 ?_
    refine g_afv (g_runV S hI hP hS (k := 1) (As := [.ref (ad (d + 8))]) (rest := []) (mX7_copyFromN l (d + 1) (d + 8) ht dr pg wt wr mo mc ni po dn htn drn pgn wtn wrn mon mcn nin pon dnn hb_s hb_n (by omega) hpgn) q831 q645 q646 q83 q647 rfl rfl (by decide +kernel) ⟨Nat.le_of_ble_eq_true rfl, Nat.le_of_ble_eq_true rfl⟩ rfl (hb_s.lt 0 (by decide)) (hb_s.2 0 (by decide)) rfl hl.1 rfl (Nat.le_of_ble_eq_true rfl) ⟨(Nat.le_of_ble_eq_true rfl), (Nat.le_of_ble_eq_true rfl)⟩ dX12_restoreSnapshot_26) hS (fun w1 H locs hq hP hS => ?_)
    obtain ⟨hb1, hf2⟩ := hq
    have hb3 := hb_d.fr hf2 (fun k hk => by show ¬ _; (try simp only [gIn]); (try dsimp only); omega)
    have hb4 := hb_n.fr hf2 (fun k hk => by show ¬ _; (try simp only [gIn]); (try dsimp only); omega)
    have hb5 := hb_h.fr hf2 (fun k hk => by show ¬ _; (try simp only [gIn]); (try dsimp only); omega)
    have hfr := hfr.trans hf2 (fun q hq => by (try simp only [gIn] at hq ⊢); (try dsimp only at hq ⊢); omega)
    have hf0 : gFr (gIn (d + 1) 7) w w1 := by assumption
    have hh1 := hh.fr hf0 (fun q a b => by show ¬ _; simp only [gIn]; omega)
    refine lv_aload_n hx hb dX12_restoreSnapshot_29 rfl (lv_at hl 0 rfl) ?_
    refine g_get S hI hP uX12 rfl (fs := _) (hb3.lt 0 (by decide)) (hb3.2 0 (by decide)) 4 (by decide) q406 rfl (v := .ref (ad (d + 29))) rfl dX12_restoreSnapshot_30 ?_
    refine g_afv (g_runV S hI hP hS (k := 0) (As := []) (rest := []) (mX4_forget l (d + 29) pl ct K hh1) q1777 q1778 q1779 q85 q1780 rfl rfl (by decide +kernel) ⟨Nat.le_of_ble_eq_true rfl, Nat.le_of_ble_eq_true rfl⟩ rfl (hb5.lt 0 (by decide)) (hb5.2 0 (by decide)) rfl hl.1 rfl (Nat.le_of_ble_eq_true rfl) ⟨(Nat.le_of_ble_eq_true rfl), (Nat.le_of_ble_eq_true rfl)⟩ dX12_restoreSnapshot_33) hS (fun w1 H locs hq hP hS => ?_)
    obtain ⟨hh2, hfx⟩ := hq
    have hx_d := hb3.fr hfx (fun k hk => by show ¬ _; (try dsimp only); omega)
    have hx_s := hb1.fr hfx (fun k hk => by show ¬ _; (try dsimp only); omega)
    have hx_n := hb4.fr hfx (fun k hk => by show ¬ _; (try dsimp only); omega)
    have hfr := hfr.trans hfx (fun q hq => by (try dsimp only at hq ⊢); omega)
    refine lv_aload_n hx hb dX12_restoreSnapshot_36 rfl (lv_at hl 0 rfl) ?_
    refine g_get S hI hP uX12 rfl (fs := _) (hx_d.lt 0 (by decide)) (hx_d.2 0 (by decide)) 0 (by decide) q402 rfl (v := .ref (ad (d + 1))) rfl dX12_restoreSnapshot_37 ?_
    refine g_getN S hI hP uX7 rfl (fs := _) (hx_s.lt 0 (by decide)) (hx_s.2 0 (by decide)) 6 (by decide) q154 rfl (v := .int (nI (mcn))) rfl dX12_restoreSnapshot_40 ?_
    exact vx_ret (g_iret S hr hlocks hP hS (⟨hzz, rfl, hx_s, hh2, hfr⟩) (fun _ _ => rfl) (Nat.le_of_ble_eq_true rfl) (Nat.le_of_ble_eq_true rfl) dX12_restoreSnapshot_43)
  · exact g_throwW S hI hP hS hl.1 htab hlocks hlt hz (cls := "java/lang/IllegalStateException") (text := "there is no snapshot") q1245 q114 (by decide) tx_253 (by decide +kernel) dX12_restoreSnapshot_7 dX12_restoreSnapshot_10 dX12_restoreSnapshot_11 dX12_restoreSnapshot_14 dX12_restoreSnapshot_17 (Nat.le_of_ble_eq_true rfl) (Nat.le_of_ble_eq_true rfl) (Nat.le_of_ble_eq_true rfl) (Nat.le_of_ble_eq_true rfl) (Nat.le_of_ble_eq_true rfl) (Nat.le_of_ble_eq_true rfl) (⟨rfl, hzz, rfl⟩)
