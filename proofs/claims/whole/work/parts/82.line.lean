/-! A ROW OF THE MAP AS A LINE -/
def numT (x : Nat) : List Nat := if x < 10 then [48 + x] else [48 + x / 10, 48 + x % 10]
def cndT (b : Bool) (x : Nat) : List Nat := if b = true then [x] else []
theorem numT_len (x : Nat) : (numT x).length = ndg x := by unfold numT ndg; split <;> rfl
theorem cndT_len (b : Bool) (x : Nat) : (cndT b x).length ≤ 1 := by unfold cndT; split; exact Nat.le_refl _; exact Nat.zero_le _
theorem lnT_num {f g : Nat → Nat} {n x : Nat} (h : ∀ j, j < n → g j = f j) (h1 : x < 10 → g n = 48 + x) (h2 : 10 ≤ x → g n = 48 + x / 10 ∧ g (n + 1) = 48 + x % 10) : lnT g (n + ndg x) = lnT f n ++ numT x := by
  unfold numT ndg
  by_cases q : x < 10
  · rw [if_pos q, if_pos q]; exact lnT_one h (h1 q)
  · rw [if_neg q, if_neg q]
    obtain ⟨a, b⟩ := h2 (by omega)
    rw [show n + 2 = (n + 1) + 1 from rfl, lnT_one (f := g) (fun _ _ => rfl) b, lnT_one h a]
    simp
/-- the line holds a text -/
def sbT (E : gE) (ad : Nat → Nat) (N : Nat) (w : Nat → va_E) (q : Nat) (tx : List Nat) : Prop := ∃ cp mb f, sbR E ad N w q cp mb tx.length f ∧ lnT f tx.length = tx
/-- a cell's signs -/
def celT (ht pg wt wr mo : Nat → Nat) (mc k : Nat) : List Nat := numT (ht k) ++ (cndT (decide (pg k = 1)) 94 ++ (cndT (decide (0 < wt k)) 126 ++ (cndT (decide (3 ≤ wr k)) 111 ++ cndT (fstN (fun j => mo j == k) mc).isSome 109)))
theorem celT_len (ht pg wt wr mo : Nat → Nat) (mc k : Nat) : 1 ≤ (celT ht pg wt wr mo mc k).length ∧ (celT ht pg wt wr mo mc k).length ≤ 6 := by
  have h0 := numT_len (ht k)
  have h1 := cndT_len (decide (pg k = 1)) 94
  have h2 := cndT_len (decide (0 < wt k)) 126
  have h3 := cndT_len (decide (3 ≤ wr k)) 111
  have h4 := cndT_len (fstN (fun j => mo j == k) mc).isSome 109
  have h5 := ndg_b (ht k)
  unfold celT
  simp only [List.length_append]
  omega
def rowT (ht pg wt wr mo : Nat → Nat) (mc b : Nat) : Nat → List Nat
  | 0 => []
  | n + 1 => rowT ht pg wt wr mo mc b n ++ (cndT (decide (0 < n)) 32 ++ celT ht pg wt wr mo mc (b + n))
theorem cellV_0 {v : Int32} {k : Nat} (h : cellV v (nI 0) = some k) : k ≤ 30 := by
  unfold cellV at h
  rw [inR_nI (show 0 < 6 by decide) (by decide)] at h
  split at h
  · rename_i i j h1 h2
    have a := (inR_some (by decide) h1).1
    cases h2; cases h; omega
  · cases h
theorem rowT_len (ht pg wt wr mo : Nat → Nat) (mc b : Nat) : ∀ n, (rowT ht pg wt wr mo mc b n).length ≤ 7 * n
  | 0 => Nat.le_refl _
  | n + 1 => by
    have h1 := rowT_len ht pg wt wr mo mc b n
    have h2 := cndT_len (decide (0 < n)) 32
    have h3 := celT_len ht pg wt wr mo mc (b + n)
    simp only [rowT, List.length_append]
    omega
set_option maxHeartbeats 4000000 in
set_option maxRecDepth 100000 in
/-- a cell's signs are written -/
theorem mX12_writeCell (l : Launch) {E : gE} {ad : Nat → Nat} {N : Nat} {w : Nat → va_E} (kk : Nat → Nat) (hzv : gHv E kk) (d : Nat) (sv : Nat) (fp dq : Option Nat) (dd : Int32) (dc : Option Nat) (ht dr pg wt wr mo : Nat → Nat) (mc ni po dn : Nat) (tx : List Nat) (k : Nat) (hb_d : bkP N w d 1 (DMC E ad d sv fp dq dd dc)) (hb_s : bkP N w (d + 1) 7 (SHC E ad (d + 1) ht dr pg wt wr mo mc ni po dn)) (hT : sbT E ad N w (d + 114) tx) (hdN : d + 115 < N) (hkk : k < 36) (htl : tx.length + 6 ≤ 60) (hwt : ∀ k, k < 36 → wt k < 2 ^ 31) (hht : ∀ k, k < 36 → ht k ≤ 99) (hpg : ∀ k, k < 36 → pg k ≤ 1) (hwr : ∀ k, k < 36 → wr k ≤ 3) (hm : mc ≤ 4) (hmo : ∀ k, k < mc → mo k < 36) : gUv l yX12_writeCell (lw_ws yX12_writeCell cX12_writeCell 2 none) ({ frames := 6, cells := 5, slots := 350, locals := 135 } : Room) E ad N w [.ref (ad (d)), .int (nI (k))] (fun ad' N' w' => sbG ad N w (d + 114) ad' N' w' ∧ sbT E ad' N' w' (d + 114) (tx ++ celT ht pg wt wr mo mc k)) 5 350 := by
  refine Met.ofW (cc := cX12_writeCell) (maxL := 2) (ret := none) (by decide) rfl ?_
  intro p e s m args below meth cd s₁ B hml hv
  obtain ⟨rfl, hI, hP⟩ := hv
  obtain ⟨S, hr, hlocks⟩ := gPre (ws := []) B hml (C := RX12) rfl
  have hx := S.1
  have hb := S.2.1
  have hzk := hzv s s.heap hI.2.2.2.2
  have hS : va_S (gA E) s.heap s.heap [] := va_S.rf
  have hl := lv_entry ([.ref (ad (d)), .int (nI (k))]) (n := 2) (Nat.le_of_ble_eq_true rfl)
  rw [lg_entry_eq]
  generalize (lg_sl ([.ref (ad (d)), .int (nI (k))]) ++ List.replicate (2 - (lg_sl ([.ref (ad (d)), .int (nI (k))])).length) Slot.unset).toArray = ls at hl ⊢
  have hl : lv_has ls 2 [(0, .ref (ad (d))), (1, .int (nI (k)))] := hl
  have hht9 := hht k hkk
  have hpg1 := hpg k hkk
  have hwr3 := hwr k hkk
  have hnl := numT_len (ht k)
  have hnd := ndg_b (ht k)
  refine lv_aload_n hx hb dX12_writeCell_0 rfl (lv_at hl 0 rfl) ?_
  refine g_get S hI hP uX12 rfl (fs := _) (hb_d.lt 0 (by decide)) (hb_d.2 0 (by decide)) 9 (by decide) q411 rfl (v := .ref (ad (d + 114))) rfl dX12_writeCell_1 ?_
  refine lv_aload_n hx hb dX12_writeCell_4 rfl (lv_at hl 0 rfl) ?_
  refine g_get S hI hP uX12 rfl (fs := _) (hb_d.lt 0 (by decide)) (hb_d.2 0 (by decide)) 0 (by decide) q402 rfl (v := .ref (ad (d + 1))) rfl dX12_writeCell_5 ?_
  refine g_getN S hI hP uX7 rfl (fs := _) (hb_s.lt 0 (by decide)) (hb_s.2 0 (by decide)) 0 (by decide) q143 rfl (v := .ref (ad (d + 2))) rfl dX12_writeCell_8 ?_
  refine lv_iload_n hx hb dX12_writeCell_11 rfl (lv_at hl 1 rfl) ?_
  refine g_iald S hI hP (f := fun j => nI (ht j)) (hb_s.lt 1 (by decide)) (hb_s.2 1 (by decide)) (k) (hkk) (by decide) dX12_writeCell_12 ?_
  obtain ⟨cp1, mb1, f1, hR1, hf1⟩ := hT
  refine g_uafr (g_runV S hI hP hS (k := 1) (As := [.int (nI (ht k))]) (rest := []) (mJ4_append_bf812 l kk hzv (d + 114) cp1 mb1 tx.length f1 (ht k) hR1 (by omega) (by omega)) q1709 q1556 q1557 q97 q1558 rfl rfl (by decide +kernel) ⟨(Nat.le_of_ble_eq_true rfl), (Nat.le_of_ble_eq_true rfl)⟩ rfl (hR1.1.lt 0 (by decide)) (hR1.1.2 0 (by decide)) rfl hl.1 rfl (Nat.le_of_ble_eq_true rfl) ⟨(Nat.le_of_ble_eq_true rfl), (Nat.le_of_ble_eq_true rfl)⟩ dX12_writeCell_13) hS (fun rz ad1 N1 w1 H locs hq hP hS => ?_)
  obtain ⟨hr2, hGn, cp2, mb2, f2, hR2, hff2, hfx2⟩ := hq
  have hG1 := sbG.rf.trans hGn
  obtain ⟨hN2, ha2, hw2⟩ := id hGn
  have hN2 := hN2.symm
  subst hN2
  have hadL1 : ∀ p, p ≤ d + 114 → ad1 p = ad p := fun p hp => ha2 p (by omega) (by omega)
  have hnl_1 : ((tx ++ numT (ht k)) : List Nat).length = (tx : List Nat).length + ndg (ht k) := by rw [List.length_append, numT_len]
  have hT1 : sbT E ad1 N w1 (d + 114) (tx ++ numT (ht k)) := ⟨cp2, mb2, f2, by rw [hnl_1]; exact hR2, by rw [hnl_1]; rw [(lnT_num hff2 hfx2.1 hfx2.2), hf1]⟩
  have hlen1 : ((tx ++ numT (ht k)) : List Nat).length ≤ tx.length + 2 := by rw [hnl_1]; omega
  have hb1 := DM_mv hb_d (w' := w1) (N' := N) (M := d + 115) (by omega) (by omega) (fun p hp => (hadL1 p (by omega)).symm) (fun p h1 h2 => hw2 p (by omega) (by omega) (by omega))
  have hb2 := SH_mv hb_s (w' := w1) (N' := N) (M := d + 115) (by omega) (by omega) (fun p hp => (hadL1 p (by omega)).symm) (fun p h1 h2 => hw2 p (by omega) (by omega) (by omega))
  have hl : lv_has ls 2 [(0, .ref (ad1 (d))), (1, .int (nI (k)))] := by rw [hadL1 (d) (by omega)]; exact hl
  refine lv_pop hx hb dX12_writeCell_16 rfl ?_
  refine lv_aload_n hx hb dX12_writeCell_17 rfl (lv_at hl 0 rfl) ?_
  refine g_get S hI hP uX12 rfl (fs := _) (hb1.lt 0 (by decide)) (hb1.2 0 (by decide)) 0 (by decide) q402 rfl (v := .ref (ad1 (d + 1))) rfl dX12_writeCell_18 ?_
  refine g_getN S hI hP uX7 rfl (fs := _) (hb2.lt 0 (by decide)) (hb2.2 0 (by decide)) 2 (by decide) q146 rfl (v := .ref (ad1 (d + 4))) rfl dX12_writeCell_21 ?_
  refine lv_iload_n hx hb dX12_writeCell_24 rfl (lv_at hl 1 rfl) ?_
  refine g_zald S hI hP (f := fun j => nI (pg j)) (hb2.lt 3 (by decide)) (hb2.2 3 (by decide)) (k) (hkk) (by decide) dX12_writeCell_25 ?_
  refine g_ifeq S (a := pg k) (by omega) (tgt := 39) dX12_writeCell_26 (by decide) (fun hz0 => ?_) (fun hz0 => ?_)
  · have hc0 : cndT (decide (pg k = 1)) 94 = [] := by rw [decide_eq_false (show ¬ pg k = 1 by omega)]; rfl
    refine lv_aload_n hx hb dX12_writeCell_39 rfl (lv_at hl 0 rfl) ?_
    refine g_get S hI hP uX12 rfl (fs := _) (hb1.lt 0 (by decide)) (hb1.2 0 (by decide)) 0 (by decide) q402 rfl (v := .ref (ad1 (d + 1))) rfl dX12_writeCell_40 ?_
    refine g_getN S hI hP uX7 rfl (fs := _) (hb2.lt 0 (by decide)) (hb2.2 0 (by decide)) 3 (by decide) q148 rfl (v := .ref (ad1 (d + 5))) rfl dX12_writeCell_43 ?_
    refine lv_iload_n hx hb dX12_writeCell_46 rfl (lv_at hl 1 rfl) ?_
    refine g_iald S hI hP (f := fun j => nI (wt j)) (hb2.lt 4 (by decide)) (hb2.2 4 (by decide)) (k) (hkk) (by decide) dX12_writeCell_47 ?_
    have hwtk := hwt k hkk
    refine g_ifle S (a := wt k) (by omega) (tgt := 61) dX12_writeCell_48 (by decide) (fun hz1 => ?_) (fun hz1 => ?_)
    · have hc1 : cndT (decide (0 < wt k)) 126 = [] := by rw [decide_eq_false (show ¬ 0 < wt k by omega)]; rfl
      refine lv_aload_n hx hb dX12_writeCell_61 rfl (lv_at hl 0 rfl) ?_
      refine g_get S hI hP uX12 rfl (fs := _) (hb1.lt 0 (by decide)) (hb1.2 0 (by decide)) 0 (by decide) q402 rfl (v := .ref (ad1 (d + 1))) rfl dX12_writeCell_62 ?_
      refine lv_iload_n hx hb dX12_writeCell_65 rfl (lv_at hl 1 rfl) ?_
      refine g_roi (g_runV S hI hP hS (k := 1) (As := [.int (nI (k))]) (rest := []) (mX7_hasHole l (d + 1) ht dr pg wt wr mo mc ni po dn k hb2 hkk hwr3) q1218 q506 q507 q83 q508 rfl rfl (by decide +kernel) ⟨Nat.le_of_ble_eq_true rfl, Nat.le_of_ble_eq_true rfl⟩ rfl (hb2.lt 0 (by decide)) (hb2.2 0 (by decide)) rfl hl.1 rfl (Nat.le_of_ble_eq_true rfl) ⟨(Nat.le_of_ble_eq_true rfl), (Nat.le_of_ble_eq_true rfl)⟩ dX12_writeCell_66) hS (fun H locs hP hS => ?_)
      refine g_beq S (b := decide (3 ≤ wr k)) (tgt := 82) dX12_writeCell_69 (by decide) (fun hz2 => ?_) (fun hz2 => ?_)
      · have hc2 : cndT (decide (3 ≤ wr k)) 111 = [] := by rw [hz2]; rfl
        refine lv_aload_n hx hb dX12_writeCell_82 rfl (lv_at hl 0 rfl) ?_
        refine g_get S hI hP uX12 rfl (fs := _) (hb1.lt 0 (by decide)) (hb1.2 0 (by decide)) 0 (by decide) q402 rfl (v := .ref (ad1 (d + 1))) rfl dX12_writeCell_83 ?_
        refine lv_iload_n hx hb dX12_writeCell_86 rfl (lv_at hl 1 rfl) ?_
        refine g_roi (g_runV S hI hP hS (k := 1) (As := [.int (nI (k))]) (rest := []) (mX7_mothOn l (d + 1) ht dr pg wt wr mo mc ni po dn k hb2 hkk hm hmo) q1710 q510 q511 q83 q512 rfl rfl (by decide +kernel) ⟨Nat.le_of_ble_eq_true rfl, Nat.le_of_ble_eq_true rfl⟩ rfl (hb2.lt 0 (by decide)) (hb2.2 0 (by decide)) rfl hl.1 rfl (Nat.le_of_ble_eq_true rfl) ⟨(Nat.le_of_ble_eq_true rfl), (Nat.le_of_ble_eq_true rfl)⟩ dX12_writeCell_87) hS (fun H locs hP hS => ?_)
        refine lv_iconst (v := -1) hx hb dX12_writeCell_90 (by decide +kernel) ?_
        refine g_oeq S (o := fstN (fun j => mo j == k) mc) (fun j hj => by have := fstN_lt hj; omega) (tgt := 104) dX12_writeCell_91 (by decide) (fun hz3 => ?_) (fun hz3_k hz3 => ?_)
        · have hc3 : cndT (fstN (fun j => mo j == k) mc).isSome 109 = [] := by rw [hz3]; rfl
          exact g_uvret S hr hlocks hP hS (⟨hG1, by rw [show tx ++ celT ht pg wt wr mo mc k = (tx ++ numT (ht k)) by unfold celT; rw [hc0, hc1, hc2, hc3]; simp only [List.append_assoc, List.nil_append, List.append_nil, List.cons_append]]; exact hT1⟩) (Nat.le_of_ble_eq_true rfl) (Nat.le_of_ble_eq_true rfl) dX12_writeCell_104
        · have hc3 : cndT (fstN (fun j => mo j == k) mc).isSome 109 = [109] := by rw [hz3]; rfl
          refine lv_aload_n hx hb dX12_writeCell_94 rfl (lv_at hl 0 rfl) ?_
          refine g_get S hI hP uX12 rfl (fs := _) (hb1.lt 0 (by decide)) (hb1.2 0 (by decide)) 9 (by decide) q411 rfl (v := .ref (ad1 (d + 114))) rfl dX12_writeCell_95 ?_
          refine g_bipush S 109 dX12_writeCell_98 (by decide +kernel) ?_
          obtain ⟨cp1, mb1, f1, hR1, hf1⟩ := hT1
          refine g_uafr (g_runV S hI hP hS (k := 1) (As := [.int (nI (109))]) (rest := []) (mJ4_append_cf468 l kk hzv (d + 114) cp1 mb1 (tx ++ numT (ht k)).length f1 (109) hR1 (by decide) (by omega)) q1692 q1693 q1694 q97 q1695 rfl rfl (by decide +kernel) ⟨(Nat.le_of_ble_eq_true rfl), (Nat.le_of_ble_eq_true rfl)⟩ rfl (hR1.1.lt 0 (by decide)) (hR1.1.2 0 (by decide)) rfl hl.1 rfl (Nat.le_of_ble_eq_true rfl) ⟨(Nat.le_of_ble_eq_true rfl), (Nat.le_of_ble_eq_true rfl)⟩ dX12_writeCell_100) hS (fun rz ad5 N5 w5 H locs hq hP hS => ?_)
          obtain ⟨hr2, hGn, cp2, mb2, f2, hR2, hff2, hfx2⟩ := hq
          have hG5 := hG1.trans hGn
          obtain ⟨hN2, ha2, hw2⟩ := id hGn
          have hN2 := hN2.symm
          subst hN2
          have hadL5 : ∀ p, p ≤ d + 114 → ad5 p = ad1 p := fun p hp => ha2 p (by omega) (by omega)
          have hnl_5 : (((tx ++ numT (ht k)) ++ [109]) : List Nat).length = ((tx ++ numT (ht k)) : List Nat).length + 1 := by rw [List.length_append]; rfl
          have hT5 : sbT E ad5 N w5 (d + 114) ((tx ++ numT (ht k)) ++ [109]) := ⟨cp2, mb2, f2, by rw [hnl_5]; exact hR2, by rw [hnl_5]; rw [(lnT_one hff2 hfx2), hf1]⟩
          have hlen5 : (((tx ++ numT (ht k)) ++ [109]) : List Nat).length ≤ tx.length + 3 := by rw [hnl_5]; omega
          have hb3 := DM_mv hb1 (w' := w5) (N' := N) (M := d + 115) (by omega) (by omega) (fun p hp => (hadL5 p (by omega)).symm) (fun p h1 h2 => hw2 p (by omega) (by omega) (by omega))
          have hb4 := SH_mv hb2 (w' := w5) (N' := N) (M := d + 115) (by omega) (by omega) (fun p hp => (hadL5 p (by omega)).symm) (fun p h1 h2 => hw2 p (by omega) (by omega) (by omega))
          have hl : lv_has ls 2 [(0, .ref (ad5 (d))), (1, .int (nI (k)))] := by rw [hadL5 (d) (by omega)]; exact hl
          refine lv_pop hx hb dX12_writeCell_103 rfl ?_
          exact g_uvret S hr hlocks hP hS (⟨hG5, by rw [show tx ++ celT ht pg wt wr mo mc k = ((tx ++ numT (ht k)) ++ [109]) by unfold celT; rw [hc0, hc1, hc2, hc3]; simp only [List.append_assoc, List.nil_append, List.append_nil, List.cons_append]]; exact hT5⟩) (Nat.le_of_ble_eq_true rfl) (Nat.le_of_ble_eq_true rfl) dX12_writeCell_104
      · have hc2 : cndT (decide (3 ≤ wr k)) 111 = [111] := by rw [hz2]; rfl
        refine lv_aload_n hx hb dX12_writeCell_72 rfl (lv_at hl 0 rfl) ?_
        refine g_get S hI hP uX12 rfl (fs := _) (hb1.lt 0 (by decide)) (hb1.2 0 (by decide)) 9 (by decide) q411 rfl (v := .ref (ad1 (d + 114))) rfl dX12_writeCell_73 ?_
        refine g_bipush S 111 dX12_writeCell_76 (by decide +kernel) ?_
        obtain ⟨cp1, mb1, f1, hR1, hf1⟩ := hT1
        refine g_uafr (g_runV S hI hP hS (k := 1) (As := [.int (nI (111))]) (rest := []) (mJ4_append_cf468 l kk hzv (d + 114) cp1 mb1 (tx ++ numT (ht k)).length f1 (111) hR1 (by decide) (by omega)) q1692 q1693 q1694 q97 q1695 rfl rfl (by decide +kernel) ⟨(Nat.le_of_ble_eq_true rfl), (Nat.le_of_ble_eq_true rfl)⟩ rfl (hR1.1.lt 0 (by decide)) (hR1.1.2 0 (by decide)) rfl hl.1 rfl (Nat.le_of_ble_eq_true rfl) ⟨(Nat.le_of_ble_eq_true rfl), (Nat.le_of_ble_eq_true rfl)⟩ dX12_writeCell_78) hS (fun rz ad4 N4 w4 H locs hq hP hS => ?_)
        obtain ⟨hr2, hGn, cp2, mb2, f2, hR2, hff2, hfx2⟩ := hq
        have hG4 := hG1.trans hGn
        obtain ⟨hN2, ha2, hw2⟩ := id hGn
        have hN2 := hN2.symm
        subst hN2
        have hadL4 : ∀ p, p ≤ d + 114 → ad4 p = ad1 p := fun p hp => ha2 p (by omega) (by omega)
        have hnl_4 : (((tx ++ numT (ht k)) ++ [111]) : List Nat).length = ((tx ++ numT (ht k)) : List Nat).length + 1 := by rw [List.length_append]; rfl
        have hT4 : sbT E ad4 N w4 (d + 114) ((tx ++ numT (ht k)) ++ [111]) := ⟨cp2, mb2, f2, by rw [hnl_4]; exact hR2, by rw [hnl_4]; rw [(lnT_one hff2 hfx2), hf1]⟩
        have hlen4 : (((tx ++ numT (ht k)) ++ [111]) : List Nat).length ≤ tx.length + 3 := by rw [hnl_4]; omega
        have hb5 := DM_mv hb1 (w' := w4) (N' := N) (M := d + 115) (by omega) (by omega) (fun p hp => (hadL4 p (by omega)).symm) (fun p h1 h2 => hw2 p (by omega) (by omega) (by omega))
        have hb6 := SH_mv hb2 (w' := w4) (N' := N) (M := d + 115) (by omega) (by omega) (fun p hp => (hadL4 p (by omega)).symm) (fun p h1 h2 => hw2 p (by omega) (by omega) (by omega))
        have hl : lv_has ls 2 [(0, .ref (ad4 (d))), (1, .int (nI (k)))] := by rw [hadL4 (d) (by omega)]; exact hl
        refine lv_pop hx hb dX12_writeCell_81 rfl ?_
        refine lv_aload_n hx hb dX12_writeCell_82 rfl (lv_at hl 0 rfl) ?_
        refine g_get S hI hP uX12 rfl (fs := _) (hb5.lt 0 (by decide)) (hb5.2 0 (by decide)) 0 (by decide) q402 rfl (v := .ref (ad4 (d + 1))) rfl dX12_writeCell_83 ?_
        refine lv_iload_n hx hb dX12_writeCell_86 rfl (lv_at hl 1 rfl) ?_
        refine g_roi (g_runV S hI hP hS (k := 1) (As := [.int (nI (k))]) (rest := []) (mX7_mothOn l (d + 1) ht dr pg wt wr mo mc ni po dn k hb6 hkk hm hmo) q1710 q510 q511 q83 q512 rfl rfl (by decide +kernel) ⟨Nat.le_of_ble_eq_true rfl, Nat.le_of_ble_eq_true rfl⟩ rfl (hb6.lt 0 (by decide)) (hb6.2 0 (by decide)) rfl hl.1 rfl (Nat.le_of_ble_eq_true rfl) ⟨(Nat.le_of_ble_eq_true rfl), (Nat.le_of_ble_eq_true rfl)⟩ dX12_writeCell_87) hS (fun H locs hP hS => ?_)
        refine lv_iconst (v := -1) hx hb dX12_writeCell_90 (by decide +kernel) ?_
        refine g_oeq S (o := fstN (fun j => mo j == k) mc) (fun j hj => by have := fstN_lt hj; omega) (tgt := 104) dX12_writeCell_91 (by decide) (fun hz3 => ?_) (fun hz3_k hz3 => ?_)
        · have hc3 : cndT (fstN (fun j => mo j == k) mc).isSome 109 = [] := by rw [hz3]; rfl
          exact g_uvret S hr hlocks hP hS (⟨hG4, by rw [show tx ++ celT ht pg wt wr mo mc k = ((tx ++ numT (ht k)) ++ [111]) by unfold celT; rw [hc0, hc1, hc2, hc3]; simp only [List.append_assoc, List.nil_append, List.append_nil, List.cons_append]]; exact hT4⟩) (Nat.le_of_ble_eq_true rfl) (Nat.le_of_ble_eq_true rfl) dX12_writeCell_104
        · have hc3 : cndT (fstN (fun j => mo j == k) mc).isSome 109 = [109] := by rw [hz3]; rfl
          refine lv_aload_n hx hb dX12_writeCell_94 rfl (lv_at hl 0 rfl) ?_
          refine g_get S hI hP uX12 rfl (fs := _) (hb5.lt 0 (by decide)) (hb5.2 0 (by decide)) 9 (by decide) q411 rfl (v := .ref (ad4 (d + 114))) rfl dX12_writeCell_95 ?_
          refine g_bipush S 109 dX12_writeCell_98 (by decide +kernel) ?_
          obtain ⟨cp1, mb1, f1, hR1, hf1⟩ := hT4
          refine g_uafr (g_runV S hI hP hS (k := 1) (As := [.int (nI (109))]) (rest := []) (mJ4_append_cf468 l kk hzv (d + 114) cp1 mb1 ((tx ++ numT (ht k)) ++ [111]).length f1 (109) hR1 (by decide) (by omega)) q1692 q1693 q1694 q97 q1695 rfl rfl (by decide +kernel) ⟨(Nat.le_of_ble_eq_true rfl), (Nat.le_of_ble_eq_true rfl)⟩ rfl (hR1.1.lt 0 (by decide)) (hR1.1.2 0 (by decide)) rfl hl.1 rfl (Nat.le_of_ble_eq_true rfl) ⟨(Nat.le_of_ble_eq_true rfl), (Nat.le_of_ble_eq_true rfl)⟩ dX12_writeCell_100) hS (fun rz ad5 N5 w5 H locs hq hP hS => ?_)
          obtain ⟨hr2, hGn, cp2, mb2, f2, hR2, hff2, hfx2⟩ := hq
          have hG5 := hG4.trans hGn
          obtain ⟨hN2, ha2, hw2⟩ := id hGn
          have hN2 := hN2.symm
          subst hN2
          have hadL5 : ∀ p, p ≤ d + 114 → ad5 p = ad4 p := fun p hp => ha2 p (by omega) (by omega)
          have hnl_5 : ((((tx ++ numT (ht k)) ++ [111]) ++ [109]) : List Nat).length = (((tx ++ numT (ht k)) ++ [111]) : List Nat).length + 1 := by rw [List.length_append]; rfl
          have hT5 : sbT E ad5 N w5 (d + 114) (((tx ++ numT (ht k)) ++ [111]) ++ [109]) := ⟨cp2, mb2, f2, by rw [hnl_5]; exact hR2, by rw [hnl_5]; rw [(lnT_one hff2 hfx2), hf1]⟩
          have hlen5 : ((((tx ++ numT (ht k)) ++ [111]) ++ [109]) : List Nat).length ≤ tx.length + 4 := by rw [hnl_5]; omega
          have hb7 := DM_mv hb5 (w' := w5) (N' := N) (M := d + 115) (by omega) (by omega) (fun p hp => (hadL5 p (by omega)).symm) (fun p h1 h2 => hw2 p (by omega) (by omega) (by omega))
          have hb8 := SH_mv hb6 (w' := w5) (N' := N) (M := d + 115) (by omega) (by omega) (fun p hp => (hadL5 p (by omega)).symm) (fun p h1 h2 => hw2 p (by omega) (by omega) (by omega))
          have hl : lv_has ls 2 [(0, .ref (ad5 (d))), (1, .int (nI (k)))] := by rw [hadL5 (d) (by omega)]; exact hl
          refine lv_pop hx hb dX12_writeCell_103 rfl ?_
          exact g_uvret S hr hlocks hP hS (⟨hG5, by rw [show tx ++ celT ht pg wt wr mo mc k = (((tx ++ numT (ht k)) ++ [111]) ++ [109]) by unfold celT; rw [hc0, hc1, hc2, hc3]; simp only [List.append_assoc, List.nil_append, List.append_nil, List.cons_append]]; exact hT5⟩) (Nat.le_of_ble_eq_true rfl) (Nat.le_of_ble_eq_true rfl) dX12_writeCell_104
    · have hc1 : cndT (decide (0 < wt k)) 126 = [126] := by rw [decide_eq_true (show 0 < wt k by omega)]; rfl
      refine lv_aload_n hx hb dX12_writeCell_51 rfl (lv_at hl 0 rfl) ?_
      refine g_get S hI hP uX12 rfl (fs := _) (hb1.lt 0 (by decide)) (hb1.2 0 (by decide)) 9 (by decide) q411 rfl (v := .ref (ad1 (d + 114))) rfl dX12_writeCell_52 ?_
      refine g_bipush S 126 dX12_writeCell_55 (by decide +kernel) ?_
      obtain ⟨cp1, mb1, f1, hR1, hf1⟩ := hT1
      refine g_uafr (g_runV S hI hP hS (k := 1) (As := [.int (nI (126))]) (rest := []) (mJ4_append_cf468 l kk hzv (d + 114) cp1 mb1 (tx ++ numT (ht k)).length f1 (126) hR1 (by decide) (by omega)) q1692 q1693 q1694 q97 q1695 rfl rfl (by decide +kernel) ⟨(Nat.le_of_ble_eq_true rfl), (Nat.le_of_ble_eq_true rfl)⟩ rfl (hR1.1.lt 0 (by decide)) (hR1.1.2 0 (by decide)) rfl hl.1 rfl (Nat.le_of_ble_eq_true rfl) ⟨(Nat.le_of_ble_eq_true rfl), (Nat.le_of_ble_eq_true rfl)⟩ dX12_writeCell_57) hS (fun rz ad3 N3 w3 H locs hq hP hS => ?_)
      obtain ⟨hr2, hGn, cp2, mb2, f2, hR2, hff2, hfx2⟩ := hq
      have hG3 := hG1.trans hGn
      obtain ⟨hN2, ha2, hw2⟩ := id hGn
      have hN2 := hN2.symm
      subst hN2
      have hadL3 : ∀ p, p ≤ d + 114 → ad3 p = ad1 p := fun p hp => ha2 p (by omega) (by omega)
      have hnl_3 : (((tx ++ numT (ht k)) ++ [126]) : List Nat).length = ((tx ++ numT (ht k)) : List Nat).length + 1 := by rw [List.length_append]; rfl
      have hT3 : sbT E ad3 N w3 (d + 114) ((tx ++ numT (ht k)) ++ [126]) := ⟨cp2, mb2, f2, by rw [hnl_3]; exact hR2, by rw [hnl_3]; rw [(lnT_one hff2 hfx2), hf1]⟩
      have hlen3 : (((tx ++ numT (ht k)) ++ [126]) : List Nat).length ≤ tx.length + 3 := by rw [hnl_3]; omega
      have hb9 := DM_mv hb1 (w' := w3) (N' := N) (M := d + 115) (by omega) (by omega) (fun p hp => (hadL3 p (by omega)).symm) (fun p h1 h2 => hw2 p (by omega) (by omega) (by omega))
      have hb10 := SH_mv hb2 (w' := w3) (N' := N) (M := d + 115) (by omega) (by omega) (fun p hp => (hadL3 p (by omega)).symm) (fun p h1 h2 => hw2 p (by omega) (by omega) (by omega))
      have hl : lv_has ls 2 [(0, .ref (ad3 (d))), (1, .int (nI (k)))] := by rw [hadL3 (d) (by omega)]; exact hl
      refine lv_pop hx hb dX12_writeCell_60 rfl ?_
      refine lv_aload_n hx hb dX12_writeCell_61 rfl (lv_at hl 0 rfl) ?_
      refine g_get S hI hP uX12 rfl (fs := _) (hb9.lt 0 (by decide)) (hb9.2 0 (by decide)) 0 (by decide) q402 rfl (v := .ref (ad3 (d + 1))) rfl dX12_writeCell_62 ?_
      refine lv_iload_n hx hb dX12_writeCell_65 rfl (lv_at hl 1 rfl) ?_
      refine g_roi (g_runV S hI hP hS (k := 1) (As := [.int (nI (k))]) (rest := []) (mX7_hasHole l (d + 1) ht dr pg wt wr mo mc ni po dn k hb10 hkk hwr3) q1218 q506 q507 q83 q508 rfl rfl (by decide +kernel) ⟨Nat.le_of_ble_eq_true rfl, Nat.le_of_ble_eq_true rfl⟩ rfl (hb10.lt 0 (by decide)) (hb10.2 0 (by decide)) rfl hl.1 rfl (Nat.le_of_ble_eq_true rfl) ⟨(Nat.le_of_ble_eq_true rfl), (Nat.le_of_ble_eq_true rfl)⟩ dX12_writeCell_66) hS (fun H locs hP hS => ?_)
      refine g_beq S (b := decide (3 ≤ wr k)) (tgt := 82) dX12_writeCell_69 (by decide) (fun hz2 => ?_) (fun hz2 => ?_)
      · have hc2 : cndT (decide (3 ≤ wr k)) 111 = [] := by rw [hz2]; rfl
        refine lv_aload_n hx hb dX12_writeCell_82 rfl (lv_at hl 0 rfl) ?_
        refine g_get S hI hP uX12 rfl (fs := _) (hb9.lt 0 (by decide)) (hb9.2 0 (by decide)) 0 (by decide) q402 rfl (v := .ref (ad3 (d + 1))) rfl dX12_writeCell_83 ?_
        refine lv_iload_n hx hb dX12_writeCell_86 rfl (lv_at hl 1 rfl) ?_
        refine g_roi (g_runV S hI hP hS (k := 1) (As := [.int (nI (k))]) (rest := []) (mX7_mothOn l (d + 1) ht dr pg wt wr mo mc ni po dn k hb10 hkk hm hmo) q1710 q510 q511 q83 q512 rfl rfl (by decide +kernel) ⟨Nat.le_of_ble_eq_true rfl, Nat.le_of_ble_eq_true rfl⟩ rfl (hb10.lt 0 (by decide)) (hb10.2 0 (by decide)) rfl hl.1 rfl (Nat.le_of_ble_eq_true rfl) ⟨(Nat.le_of_ble_eq_true rfl), (Nat.le_of_ble_eq_true rfl)⟩ dX12_writeCell_87) hS (fun H locs hP hS => ?_)
        refine lv_iconst (v := -1) hx hb dX12_writeCell_90 (by decide +kernel) ?_
        refine g_oeq S (o := fstN (fun j => mo j == k) mc) (fun j hj => by have := fstN_lt hj; omega) (tgt := 104) dX12_writeCell_91 (by decide) (fun hz3 => ?_) (fun hz3_k hz3 => ?_)
        · have hc3 : cndT (fstN (fun j => mo j == k) mc).isSome 109 = [] := by rw [hz3]; rfl
          exact g_uvret S hr hlocks hP hS (⟨hG3, by rw [show tx ++ celT ht pg wt wr mo mc k = ((tx ++ numT (ht k)) ++ [126]) by unfold celT; rw [hc0, hc1, hc2, hc3]; simp only [List.append_assoc, List.nil_append, List.append_nil, List.cons_append]]; exact hT3⟩) (Nat.le_of_ble_eq_true rfl) (Nat.le_of_ble_eq_true rfl) dX12_writeCell_104
        · have hc3 : cndT (fstN (fun j => mo j == k) mc).isSome 109 = [109] := by rw [hz3]; rfl
          refine lv_aload_n hx hb dX12_writeCell_94 rfl (lv_at hl 0 rfl) ?_
          refine g_get S hI hP uX12 rfl (fs := _) (hb9.lt 0 (by decide)) (hb9.2 0 (by decide)) 9 (by decide) q411 rfl (v := .ref (ad3 (d + 114))) rfl dX12_writeCell_95 ?_
          refine g_bipush S 109 dX12_writeCell_98 (by decide +kernel) ?_
          obtain ⟨cp1, mb1, f1, hR1, hf1⟩ := hT3
          refine g_uafr (g_runV S hI hP hS (k := 1) (As := [.int (nI (109))]) (rest := []) (mJ4_append_cf468 l kk hzv (d + 114) cp1 mb1 ((tx ++ numT (ht k)) ++ [126]).length f1 (109) hR1 (by decide) (by omega)) q1692 q1693 q1694 q97 q1695 rfl rfl (by decide +kernel) ⟨(Nat.le_of_ble_eq_true rfl), (Nat.le_of_ble_eq_true rfl)⟩ rfl (hR1.1.lt 0 (by decide)) (hR1.1.2 0 (by decide)) rfl hl.1 rfl (Nat.le_of_ble_eq_true rfl) ⟨(Nat.le_of_ble_eq_true rfl), (Nat.le_of_ble_eq_true rfl)⟩ dX12_writeCell_100) hS (fun rz ad5 N5 w5 H locs hq hP hS => ?_)
          obtain ⟨hr2, hGn, cp2, mb2, f2, hR2, hff2, hfx2⟩ := hq
          have hG5 := hG3.trans hGn
          obtain ⟨hN2, ha2, hw2⟩ := id hGn
          have hN2 := hN2.symm
          subst hN2
          have hadL5 : ∀ p, p ≤ d + 114 → ad5 p = ad3 p := fun p hp => ha2 p (by omega) (by omega)
          have hnl_5 : ((((tx ++ numT (ht k)) ++ [126]) ++ [109]) : List Nat).length = (((tx ++ numT (ht k)) ++ [126]) : List Nat).length + 1 := by rw [List.length_append]; rfl
          have hT5 : sbT E ad5 N w5 (d + 114) (((tx ++ numT (ht k)) ++ [126]) ++ [109]) := ⟨cp2, mb2, f2, by rw [hnl_5]; exact hR2, by rw [hnl_5]; rw [(lnT_one hff2 hfx2), hf1]⟩
          have hlen5 : ((((tx ++ numT (ht k)) ++ [126]) ++ [109]) : List Nat).length ≤ tx.length + 4 := by rw [hnl_5]; omega
          have hb11 := DM_mv hb9 (w' := w5) (N' := N) (M := d + 115) (by omega) (by omega) (fun p hp => (hadL5 p (by omega)).symm) (fun p h1 h2 => hw2 p (by omega) (by omega) (by omega))
          have hb12 := SH_mv hb10 (w' := w5) (N' := N) (M := d + 115) (by omega) (by omega) (fun p hp => (hadL5 p (by omega)).symm) (fun p h1 h2 => hw2 p (by omega) (by omega) (by omega))
          have hl : lv_has ls 2 [(0, .ref (ad5 (d))), (1, .int (nI (k)))] := by rw [hadL5 (d) (by omega)]; exact hl
          refine lv_pop hx hb dX12_writeCell_103 rfl ?_
          exact g_uvret S hr hlocks hP hS (⟨hG5, by rw [show tx ++ celT ht pg wt wr mo mc k = (((tx ++ numT (ht k)) ++ [126]) ++ [109]) by unfold celT; rw [hc0, hc1, hc2, hc3]; simp only [List.append_assoc, List.nil_append, List.append_nil, List.cons_append]]; exact hT5⟩) (Nat.le_of_ble_eq_true rfl) (Nat.le_of_ble_eq_true rfl) dX12_writeCell_104
      · have hc2 : cndT (decide (3 ≤ wr k)) 111 = [111] := by rw [hz2]; rfl
        refine lv_aload_n hx hb dX12_writeCell_72 rfl (lv_at hl 0 rfl) ?_
        refine g_get S hI hP uX12 rfl (fs := _) (hb9.lt 0 (by decide)) (hb9.2 0 (by decide)) 9 (by decide) q411 rfl (v := .ref (ad3 (d + 114))) rfl dX12_writeCell_73 ?_
        refine g_bipush S 111 dX12_writeCell_76 (by decide +kernel) ?_
        obtain ⟨cp1, mb1, f1, hR1, hf1⟩ := hT3
        refine g_uafr (g_runV S hI hP hS (k := 1) (As := [.int (nI (111))]) (rest := []) (mJ4_append_cf468 l kk hzv (d + 114) cp1 mb1 ((tx ++ numT (ht k)) ++ [126]).length f1 (111) hR1 (by decide) (by omega)) q1692 q1693 q1694 q97 q1695 rfl rfl (by decide +kernel) ⟨(Nat.le_of_ble_eq_true rfl), (Nat.le_of_ble_eq_true rfl)⟩ rfl (hR1.1.lt 0 (by decide)) (hR1.1.2 0 (by decide)) rfl hl.1 rfl (Nat.le_of_ble_eq_true rfl) ⟨(Nat.le_of_ble_eq_true rfl), (Nat.le_of_ble_eq_true rfl)⟩ dX12_writeCell_78) hS (fun rz ad4 N4 w4 H locs hq hP hS => ?_)
        obtain ⟨hr2, hGn, cp2, mb2, f2, hR2, hff2, hfx2⟩ := hq
        have hG4 := hG3.trans hGn
        obtain ⟨hN2, ha2, hw2⟩ := id hGn
        have hN2 := hN2.symm
        subst hN2
        have hadL4 : ∀ p, p ≤ d + 114 → ad4 p = ad3 p := fun p hp => ha2 p (by omega) (by omega)
        have hnl_4 : ((((tx ++ numT (ht k)) ++ [126]) ++ [111]) : List Nat).length = (((tx ++ numT (ht k)) ++ [126]) : List Nat).length + 1 := by rw [List.length_append]; rfl
        have hT4 : sbT E ad4 N w4 (d + 114) (((tx ++ numT (ht k)) ++ [126]) ++ [111]) := ⟨cp2, mb2, f2, by rw [hnl_4]; exact hR2, by rw [hnl_4]; rw [(lnT_one hff2 hfx2), hf1]⟩
        have hlen4 : ((((tx ++ numT (ht k)) ++ [126]) ++ [111]) : List Nat).length ≤ tx.length + 4 := by rw [hnl_4]; omega
        have hb13 := DM_mv hb9 (w' := w4) (N' := N) (M := d + 115) (by omega) (by omega) (fun p hp => (hadL4 p (by omega)).symm) (fun p h1 h2 => hw2 p (by omega) (by omega) (by omega))
        have hb14 := SH_mv hb10 (w' := w4) (N' := N) (M := d + 115) (by omega) (by omega) (fun p hp => (hadL4 p (by omega)).symm) (fun p h1 h2 => hw2 p (by omega) (by omega) (by omega))
        have hl : lv_has ls 2 [(0, .ref (ad4 (d))), (1, .int (nI (k)))] := by rw [hadL4 (d) (by omega)]; exact hl
        refine lv_pop hx hb dX12_writeCell_81 rfl ?_
        refine lv_aload_n hx hb dX12_writeCell_82 rfl (lv_at hl 0 rfl) ?_
        refine g_get S hI hP uX12 rfl (fs := _) (hb13.lt 0 (by decide)) (hb13.2 0 (by decide)) 0 (by decide) q402 rfl (v := .ref (ad4 (d + 1))) rfl dX12_writeCell_83 ?_
        refine lv_iload_n hx hb dX12_writeCell_86 rfl (lv_at hl 1 rfl) ?_
        refine g_roi (g_runV S hI hP hS (k := 1) (As := [.int (nI (k))]) (rest := []) (mX7_mothOn l (d + 1) ht dr pg wt wr mo mc ni po dn k hb14 hkk hm hmo) q1710 q510 q511 q83 q512 rfl rfl (by decide +kernel) ⟨Nat.le_of_ble_eq_true rfl, Nat.le_of_ble_eq_true rfl⟩ rfl (hb14.lt 0 (by decide)) (hb14.2 0 (by decide)) rfl hl.1 rfl (Nat.le_of_ble_eq_true rfl) ⟨(Nat.le_of_ble_eq_true rfl), (Nat.le_of_ble_eq_true rfl)⟩ dX12_writeCell_87) hS (fun H locs hP hS => ?_)
        refine lv_iconst (v := -1) hx hb dX12_writeCell_90 (by decide +kernel) ?_
        refine g_oeq S (o := fstN (fun j => mo j == k) mc) (fun j hj => by have := fstN_lt hj; omega) (tgt := 104) dX12_writeCell_91 (by decide) (fun hz3 => ?_) (fun hz3_k hz3 => ?_)
        · have hc3 : cndT (fstN (fun j => mo j == k) mc).isSome 109 = [] := by rw [hz3]; rfl
          exact g_uvret S hr hlocks hP hS (⟨hG4, by rw [show tx ++ celT ht pg wt wr mo mc k = (((tx ++ numT (ht k)) ++ [126]) ++ [111]) by unfold celT; rw [hc0, hc1, hc2, hc3]; simp only [List.append_assoc, List.nil_append, List.append_nil, List.cons_append]]; exact hT4⟩) (Nat.le_of_ble_eq_true rfl) (Nat.le_of_ble_eq_true rfl) dX12_writeCell_104
        · have hc3 : cndT (fstN (fun j => mo j == k) mc).isSome 109 = [109] := by rw [hz3]; rfl
          refine lv_aload_n hx hb dX12_writeCell_94 rfl (lv_at hl 0 rfl) ?_
          refine g_get S hI hP uX12 rfl (fs := _) (hb13.lt 0 (by decide)) (hb13.2 0 (by decide)) 9 (by decide) q411 rfl (v := .ref (ad4 (d + 114))) rfl dX12_writeCell_95 ?_
          refine g_bipush S 109 dX12_writeCell_98 (by decide +kernel) ?_
          obtain ⟨cp1, mb1, f1, hR1, hf1⟩ := hT4
          refine g_uafr (g_runV S hI hP hS (k := 1) (As := [.int (nI (109))]) (rest := []) (mJ4_append_cf468 l kk hzv (d + 114) cp1 mb1 (((tx ++ numT (ht k)) ++ [126]) ++ [111]).length f1 (109) hR1 (by decide) (by omega)) q1692 q1693 q1694 q97 q1695 rfl rfl (by decide +kernel) ⟨(Nat.le_of_ble_eq_true rfl), (Nat.le_of_ble_eq_true rfl)⟩ rfl (hR1.1.lt 0 (by decide)) (hR1.1.2 0 (by decide)) rfl hl.1 rfl (Nat.le_of_ble_eq_true rfl) ⟨(Nat.le_of_ble_eq_true rfl), (Nat.le_of_ble_eq_true rfl)⟩ dX12_writeCell_100) hS (fun rz ad5 N5 w5 H locs hq hP hS => ?_)
          obtain ⟨hr2, hGn, cp2, mb2, f2, hR2, hff2, hfx2⟩ := hq
          have hG5 := hG4.trans hGn
          obtain ⟨hN2, ha2, hw2⟩ := id hGn
          have hN2 := hN2.symm
          subst hN2
          have hadL5 : ∀ p, p ≤ d + 114 → ad5 p = ad4 p := fun p hp => ha2 p (by omega) (by omega)
          have hnl_5 : (((((tx ++ numT (ht k)) ++ [126]) ++ [111]) ++ [109]) : List Nat).length = ((((tx ++ numT (ht k)) ++ [126]) ++ [111]) : List Nat).length + 1 := by rw [List.length_append]; rfl
          have hT5 : sbT E ad5 N w5 (d + 114) ((((tx ++ numT (ht k)) ++ [126]) ++ [111]) ++ [109]) := ⟨cp2, mb2, f2, by rw [hnl_5]; exact hR2, by rw [hnl_5]; rw [(lnT_one hff2 hfx2), hf1]⟩
          have hlen5 : (((((tx ++ numT (ht k)) ++ [126]) ++ [111]) ++ [109]) : List Nat).length ≤ tx.length + 5 := by rw [hnl_5]; omega
          have hb15 := DM_mv hb13 (w' := w5) (N' := N) (M := d + 115) (by omega) (by omega) (fun p hp => (hadL5 p (by omega)).symm) (fun p h1 h2 => hw2 p (by omega) (by omega) (by omega))
          have hb16 := SH_mv hb14 (w' := w5) (N' := N) (M := d + 115) (by omega) (by omega) (fun p hp => (hadL5 p (by omega)).symm) (fun p h1 h2 => hw2 p (by omega) (by omega) (by omega))
          have hl : lv_has ls 2 [(0, .ref (ad5 (d))), (1, .int (nI (k)))] := by rw [hadL5 (d) (by omega)]; exact hl
          refine lv_pop hx hb dX12_writeCell_103 rfl ?_
          exact g_uvret S hr hlocks hP hS (⟨hG5, by rw [show tx ++ celT ht pg wt wr mo mc k = ((((tx ++ numT (ht k)) ++ [126]) ++ [111]) ++ [109]) by unfold celT; rw [hc0, hc1, hc2, hc3]; simp only [List.append_assoc, List.nil_append, List.append_nil, List.cons_append]]; exact hT5⟩) (Nat.le_of_ble_eq_true rfl) (Nat.le_of_ble_eq_true rfl) dX12_writeCell_104
  · have hc0 : cndT (decide (pg k = 1)) 94 = [94] := by rw [decide_eq_true (show pg k = 1 by omega)]; rfl
    refine lv_aload_n hx hb dX12_writeCell_29 rfl (lv_at hl 0 rfl) ?_
    refine g_get S hI hP uX12 rfl (fs := _) (hb1.lt 0 (by decide)) (hb1.2 0 (by decide)) 9 (by decide) q411 rfl (v := .ref (ad1 (d + 114))) rfl dX12_writeCell_30 ?_
    refine g_bipush S 94 dX12_writeCell_33 (by decide +kernel) ?_
    obtain ⟨cp1, mb1, f1, hR1, hf1⟩ := hT1
    refine g_uafr (g_runV S hI hP hS (k := 1) (As := [.int (nI (94))]) (rest := []) (mJ4_append_cf468 l kk hzv (d + 114) cp1 mb1 (tx ++ numT (ht k)).length f1 (94) hR1 (by decide) (by omega)) q1692 q1693 q1694 q97 q1695 rfl rfl (by decide +kernel) ⟨(Nat.le_of_ble_eq_true rfl), (Nat.le_of_ble_eq_true rfl)⟩ rfl (hR1.1.lt 0 (by decide)) (hR1.1.2 0 (by decide)) rfl hl.1 rfl (Nat.le_of_ble_eq_true rfl) ⟨(Nat.le_of_ble_eq_true rfl), (Nat.le_of_ble_eq_true rfl)⟩ dX12_writeCell_35) hS (fun rz ad2 N2 w2 H locs hq hP hS => ?_)
    obtain ⟨hr2, hGn, cp2, mb2, f2, hR2, hff2, hfx2⟩ := hq
    have hG2 := hG1.trans hGn
    obtain ⟨hN2, ha2, hw2⟩ := id hGn
    have hN2 := hN2.symm
    subst hN2
    have hadL2 : ∀ p, p ≤ d + 114 → ad2 p = ad1 p := fun p hp => ha2 p (by omega) (by omega)
    have hnl_2 : (((tx ++ numT (ht k)) ++ [94]) : List Nat).length = ((tx ++ numT (ht k)) : List Nat).length + 1 := by rw [List.length_append]; rfl
    have hT2 : sbT E ad2 N w2 (d + 114) ((tx ++ numT (ht k)) ++ [94]) := ⟨cp2, mb2, f2, by rw [hnl_2]; exact hR2, by rw [hnl_2]; rw [(lnT_one hff2 hfx2), hf1]⟩
    have hlen2 : (((tx ++ numT (ht k)) ++ [94]) : List Nat).length ≤ tx.length + 3 := by rw [hnl_2]; omega
    have hb17 := DM_mv hb1 (w' := w2) (N' := N) (M := d + 115) (by omega) (by omega) (fun p hp => (hadL2 p (by omega)).symm) (fun p h1 h2 => hw2 p (by omega) (by omega) (by omega))
    have hb18 := SH_mv hb2 (w' := w2) (N' := N) (M := d + 115) (by omega) (by omega) (fun p hp => (hadL2 p (by omega)).symm) (fun p h1 h2 => hw2 p (by omega) (by omega) (by omega))
    have hl : lv_has ls 2 [(0, .ref (ad2 (d))), (1, .int (nI (k)))] := by rw [hadL2 (d) (by omega)]; exact hl
    refine lv_pop hx hb dX12_writeCell_38 rfl ?_
    refine lv_aload_n hx hb dX12_writeCell_39 rfl (lv_at hl 0 rfl) ?_
    refine g_get S hI hP uX12 rfl (fs := _) (hb17.lt 0 (by decide)) (hb17.2 0 (by decide)) 0 (by decide) q402 rfl (v := .ref (ad2 (d + 1))) rfl dX12_writeCell_40 ?_
    refine g_getN S hI hP uX7 rfl (fs := _) (hb18.lt 0 (by decide)) (hb18.2 0 (by decide)) 3 (by decide) q148 rfl (v := .ref (ad2 (d + 5))) rfl dX12_writeCell_43 ?_
    refine lv_iload_n hx hb dX12_writeCell_46 rfl (lv_at hl 1 rfl) ?_
    refine g_iald S hI hP (f := fun j => nI (wt j)) (hb18.lt 4 (by decide)) (hb18.2 4 (by decide)) (k) (hkk) (by decide) dX12_writeCell_47 ?_
    have hwtk := hwt k hkk
    refine g_ifle S (a := wt k) (by omega) (tgt := 61) dX12_writeCell_48 (by decide) (fun hz1 => ?_) (fun hz1 => ?_)
    · have hc1 : cndT (decide (0 < wt k)) 126 = [] := by rw [decide_eq_false (show ¬ 0 < wt k by omega)]; rfl
      refine lv_aload_n hx hb dX12_writeCell_61 rfl (lv_at hl 0 rfl) ?_
      refine g_get S hI hP uX12 rfl (fs := _) (hb17.lt 0 (by decide)) (hb17.2 0 (by decide)) 0 (by decide) q402 rfl (v := .ref (ad2 (d + 1))) rfl dX12_writeCell_62 ?_
      refine lv_iload_n hx hb dX12_writeCell_65 rfl (lv_at hl 1 rfl) ?_
      refine g_roi (g_runV S hI hP hS (k := 1) (As := [.int (nI (k))]) (rest := []) (mX7_hasHole l (d + 1) ht dr pg wt wr mo mc ni po dn k hb18 hkk hwr3) q1218 q506 q507 q83 q508 rfl rfl (by decide +kernel) ⟨Nat.le_of_ble_eq_true rfl, Nat.le_of_ble_eq_true rfl⟩ rfl (hb18.lt 0 (by decide)) (hb18.2 0 (by decide)) rfl hl.1 rfl (Nat.le_of_ble_eq_true rfl) ⟨(Nat.le_of_ble_eq_true rfl), (Nat.le_of_ble_eq_true rfl)⟩ dX12_writeCell_66) hS (fun H locs hP hS => ?_)
      refine g_beq S (b := decide (3 ≤ wr k)) (tgt := 82) dX12_writeCell_69 (by decide) (fun hz2 => ?_) (fun hz2 => ?_)
      · have hc2 : cndT (decide (3 ≤ wr k)) 111 = [] := by rw [hz2]; rfl
        refine lv_aload_n hx hb dX12_writeCell_82 rfl (lv_at hl 0 rfl) ?_
        refine g_get S hI hP uX12 rfl (fs := _) (hb17.lt 0 (by decide)) (hb17.2 0 (by decide)) 0 (by decide) q402 rfl (v := .ref (ad2 (d + 1))) rfl dX12_writeCell_83 ?_
        refine lv_iload_n hx hb dX12_writeCell_86 rfl (lv_at hl 1 rfl) ?_
        refine g_roi (g_runV S hI hP hS (k := 1) (As := [.int (nI (k))]) (rest := []) (mX7_mothOn l (d + 1) ht dr pg wt wr mo mc ni po dn k hb18 hkk hm hmo) q1710 q510 q511 q83 q512 rfl rfl (by decide +kernel) ⟨Nat.le_of_ble_eq_true rfl, Nat.le_of_ble_eq_true rfl⟩ rfl (hb18.lt 0 (by decide)) (hb18.2 0 (by decide)) rfl hl.1 rfl (Nat.le_of_ble_eq_true rfl) ⟨(Nat.le_of_ble_eq_true rfl), (Nat.le_of_ble_eq_true rfl)⟩ dX12_writeCell_87) hS (fun H locs hP hS => ?_)
        refine lv_iconst (v := -1) hx hb dX12_writeCell_90 (by decide +kernel) ?_
        refine g_oeq S (o := fstN (fun j => mo j == k) mc) (fun j hj => by have := fstN_lt hj; omega) (tgt := 104) dX12_writeCell_91 (by decide) (fun hz3 => ?_) (fun hz3_k hz3 => ?_)
        · have hc3 : cndT (fstN (fun j => mo j == k) mc).isSome 109 = [] := by rw [hz3]; rfl
          exact g_uvret S hr hlocks hP hS (⟨hG2, by rw [show tx ++ celT ht pg wt wr mo mc k = ((tx ++ numT (ht k)) ++ [94]) by unfold celT; rw [hc0, hc1, hc2, hc3]; simp only [List.append_assoc, List.nil_append, List.append_nil, List.cons_append]]; exact hT2⟩) (Nat.le_of_ble_eq_true rfl) (Nat.le_of_ble_eq_true rfl) dX12_writeCell_104
        · have hc3 : cndT (fstN (fun j => mo j == k) mc).isSome 109 = [109] := by rw [hz3]; rfl
          refine lv_aload_n hx hb dX12_writeCell_94 rfl (lv_at hl 0 rfl) ?_
          refine g_get S hI hP uX12 rfl (fs := _) (hb17.lt 0 (by decide)) (hb17.2 0 (by decide)) 9 (by decide) q411 rfl (v := .ref (ad2 (d + 114))) rfl dX12_writeCell_95 ?_
          refine g_bipush S 109 dX12_writeCell_98 (by decide +kernel) ?_
          obtain ⟨cp1, mb1, f1, hR1, hf1⟩ := hT2
          refine g_uafr (g_runV S hI hP hS (k := 1) (As := [.int (nI (109))]) (rest := []) (mJ4_append_cf468 l kk hzv (d + 114) cp1 mb1 ((tx ++ numT (ht k)) ++ [94]).length f1 (109) hR1 (by decide) (by omega)) q1692 q1693 q1694 q97 q1695 rfl rfl (by decide +kernel) ⟨(Nat.le_of_ble_eq_true rfl), (Nat.le_of_ble_eq_true rfl)⟩ rfl (hR1.1.lt 0 (by decide)) (hR1.1.2 0 (by decide)) rfl hl.1 rfl (Nat.le_of_ble_eq_true rfl) ⟨(Nat.le_of_ble_eq_true rfl), (Nat.le_of_ble_eq_true rfl)⟩ dX12_writeCell_100) hS (fun rz ad5 N5 w5 H locs hq hP hS => ?_)
          obtain ⟨hr2, hGn, cp2, mb2, f2, hR2, hff2, hfx2⟩ := hq
          have hG5 := hG2.trans hGn
          obtain ⟨hN2, ha2, hw2⟩ := id hGn
          have hN2 := hN2.symm
          subst hN2
          have hadL5 : ∀ p, p ≤ d + 114 → ad5 p = ad2 p := fun p hp => ha2 p (by omega) (by omega)
          have hnl_5 : ((((tx ++ numT (ht k)) ++ [94]) ++ [109]) : List Nat).length = (((tx ++ numT (ht k)) ++ [94]) : List Nat).length + 1 := by rw [List.length_append]; rfl
          have hT5 : sbT E ad5 N w5 (d + 114) (((tx ++ numT (ht k)) ++ [94]) ++ [109]) := ⟨cp2, mb2, f2, by rw [hnl_5]; exact hR2, by rw [hnl_5]; rw [(lnT_one hff2 hfx2), hf1]⟩
          have hlen5 : ((((tx ++ numT (ht k)) ++ [94]) ++ [109]) : List Nat).length ≤ tx.length + 4 := by rw [hnl_5]; omega
          have hb19 := DM_mv hb17 (w' := w5) (N' := N) (M := d + 115) (by omega) (by omega) (fun p hp => (hadL5 p (by omega)).symm) (fun p h1 h2 => hw2 p (by omega) (by omega) (by omega))
          have hb20 := SH_mv hb18 (w' := w5) (N' := N) (M := d + 115) (by omega) (by omega) (fun p hp => (hadL5 p (by omega)).symm) (fun p h1 h2 => hw2 p (by omega) (by omega) (by omega))
          have hl : lv_has ls 2 [(0, .ref (ad5 (d))), (1, .int (nI (k)))] := by rw [hadL5 (d) (by omega)]; exact hl
          refine lv_pop hx hb dX12_writeCell_103 rfl ?_
          exact g_uvret S hr hlocks hP hS (⟨hG5, by rw [show tx ++ celT ht pg wt wr mo mc k = (((tx ++ numT (ht k)) ++ [94]) ++ [109]) by unfold celT; rw [hc0, hc1, hc2, hc3]; simp only [List.append_assoc, List.nil_append, List.append_nil, List.cons_append]]; exact hT5⟩) (Nat.le_of_ble_eq_true rfl) (Nat.le_of_ble_eq_true rfl) dX12_writeCell_104
      · have hc2 : cndT (decide (3 ≤ wr k)) 111 = [111] := by rw [hz2]; rfl
        refine lv_aload_n hx hb dX12_writeCell_72 rfl (lv_at hl 0 rfl) ?_
        refine g_get S hI hP uX12 rfl (fs := _) (hb17.lt 0 (by decide)) (hb17.2 0 (by decide)) 9 (by decide) q411 rfl (v := .ref (ad2 (d + 114))) rfl dX12_writeCell_73 ?_
        refine g_bipush S 111 dX12_writeCell_76 (by decide +kernel) ?_
        obtain ⟨cp1, mb1, f1, hR1, hf1⟩ := hT2
        refine g_uafr (g_runV S hI hP hS (k := 1) (As := [.int (nI (111))]) (rest := []) (mJ4_append_cf468 l kk hzv (d + 114) cp1 mb1 ((tx ++ numT (ht k)) ++ [94]).length f1 (111) hR1 (by decide) (by omega)) q1692 q1693 q1694 q97 q1695 rfl rfl (by decide +kernel) ⟨(Nat.le_of_ble_eq_true rfl), (Nat.le_of_ble_eq_true rfl)⟩ rfl (hR1.1.lt 0 (by decide)) (hR1.1.2 0 (by decide)) rfl hl.1 rfl (Nat.le_of_ble_eq_true rfl) ⟨(Nat.le_of_ble_eq_true rfl), (Nat.le_of_ble_eq_true rfl)⟩ dX12_writeCell_78) hS (fun rz ad4 N4 w4 H locs hq hP hS => ?_)
        obtain ⟨hr2, hGn, cp2, mb2, f2, hR2, hff2, hfx2⟩ := hq
        have hG4 := hG2.trans hGn
        obtain ⟨hN2, ha2, hw2⟩ := id hGn
        have hN2 := hN2.symm
        subst hN2
        have hadL4 : ∀ p, p ≤ d + 114 → ad4 p = ad2 p := fun p hp => ha2 p (by omega) (by omega)
        have hnl_4 : ((((tx ++ numT (ht k)) ++ [94]) ++ [111]) : List Nat).length = (((tx ++ numT (ht k)) ++ [94]) : List Nat).length + 1 := by rw [List.length_append]; rfl
        have hT4 : sbT E ad4 N w4 (d + 114) (((tx ++ numT (ht k)) ++ [94]) ++ [111]) := ⟨cp2, mb2, f2, by rw [hnl_4]; exact hR2, by rw [hnl_4]; rw [(lnT_one hff2 hfx2), hf1]⟩
        have hlen4 : ((((tx ++ numT (ht k)) ++ [94]) ++ [111]) : List Nat).length ≤ tx.length + 4 := by rw [hnl_4]; omega
        have hb21 := DM_mv hb17 (w' := w4) (N' := N) (M := d + 115) (by omega) (by omega) (fun p hp => (hadL4 p (by omega)).symm) (fun p h1 h2 => hw2 p (by omega) (by omega) (by omega))
        have hb22 := SH_mv hb18 (w' := w4) (N' := N) (M := d + 115) (by omega) (by omega) (fun p hp => (hadL4 p (by omega)).symm) (fun p h1 h2 => hw2 p (by omega) (by omega) (by omega))
        have hl : lv_has ls 2 [(0, .ref (ad4 (d))), (1, .int (nI (k)))] := by rw [hadL4 (d) (by omega)]; exact hl
        refine lv_pop hx hb dX12_writeCell_81 rfl ?_
        refine lv_aload_n hx hb dX12_writeCell_82 rfl (lv_at hl 0 rfl) ?_
        refine g_get S hI hP uX12 rfl (fs := _) (hb21.lt 0 (by decide)) (hb21.2 0 (by decide)) 0 (by decide) q402 rfl (v := .ref (ad4 (d + 1))) rfl dX12_writeCell_83 ?_
        refine lv_iload_n hx hb dX12_writeCell_86 rfl (lv_at hl 1 rfl) ?_
        refine g_roi (g_runV S hI hP hS (k := 1) (As := [.int (nI (k))]) (rest := []) (mX7_mothOn l (d + 1) ht dr pg wt wr mo mc ni po dn k hb22 hkk hm hmo) q1710 q510 q511 q83 q512 rfl rfl (by decide +kernel) ⟨Nat.le_of_ble_eq_true rfl, Nat.le_of_ble_eq_true rfl⟩ rfl (hb22.lt 0 (by decide)) (hb22.2 0 (by decide)) rfl hl.1 rfl (Nat.le_of_ble_eq_true rfl) ⟨(Nat.le_of_ble_eq_true rfl), (Nat.le_of_ble_eq_true rfl)⟩ dX12_writeCell_87) hS (fun H locs hP hS => ?_)
        refine lv_iconst (v := -1) hx hb dX12_writeCell_90 (by decide +kernel) ?_
        refine g_oeq S (o := fstN (fun j => mo j == k) mc) (fun j hj => by have := fstN_lt hj; omega) (tgt := 104) dX12_writeCell_91 (by decide) (fun hz3 => ?_) (fun hz3_k hz3 => ?_)
        · have hc3 : cndT (fstN (fun j => mo j == k) mc).isSome 109 = [] := by rw [hz3]; rfl
          exact g_uvret S hr hlocks hP hS (⟨hG4, by rw [show tx ++ celT ht pg wt wr mo mc k = (((tx ++ numT (ht k)) ++ [94]) ++ [111]) by unfold celT; rw [hc0, hc1, hc2, hc3]; simp only [List.append_assoc, List.nil_append, List.append_nil, List.cons_append]]; exact hT4⟩) (Nat.le_of_ble_eq_true rfl) (Nat.le_of_ble_eq_true rfl) dX12_writeCell_104
        · have hc3 : cndT (fstN (fun j => mo j == k) mc).isSome 109 = [109] := by rw [hz3]; rfl
          refine lv_aload_n hx hb dX12_writeCell_94 rfl (lv_at hl 0 rfl) ?_
          refine g_get S hI hP uX12 rfl (fs := _) (hb21.lt 0 (by decide)) (hb21.2 0 (by decide)) 9 (by decide) q411 rfl (v := .ref (ad4 (d + 114))) rfl dX12_writeCell_95 ?_
          refine g_bipush S 109 dX12_writeCell_98 (by decide +kernel) ?_
          obtain ⟨cp1, mb1, f1, hR1, hf1⟩ := hT4
          refine g_uafr (g_runV S hI hP hS (k := 1) (As := [.int (nI (109))]) (rest := []) (mJ4_append_cf468 l kk hzv (d + 114) cp1 mb1 (((tx ++ numT (ht k)) ++ [94]) ++ [111]).length f1 (109) hR1 (by decide) (by omega)) q1692 q1693 q1694 q97 q1695 rfl rfl (by decide +kernel) ⟨(Nat.le_of_ble_eq_true rfl), (Nat.le_of_ble_eq_true rfl)⟩ rfl (hR1.1.lt 0 (by decide)) (hR1.1.2 0 (by decide)) rfl hl.1 rfl (Nat.le_of_ble_eq_true rfl) ⟨(Nat.le_of_ble_eq_true rfl), (Nat.le_of_ble_eq_true rfl)⟩ dX12_writeCell_100) hS (fun rz ad5 N5 w5 H locs hq hP hS => ?_)
          obtain ⟨hr2, hGn, cp2, mb2, f2, hR2, hff2, hfx2⟩ := hq
          have hG5 := hG4.trans hGn
          obtain ⟨hN2, ha2, hw2⟩ := id hGn
          have hN2 := hN2.symm
          subst hN2
          have hadL5 : ∀ p, p ≤ d + 114 → ad5 p = ad4 p := fun p hp => ha2 p (by omega) (by omega)
          have hnl_5 : (((((tx ++ numT (ht k)) ++ [94]) ++ [111]) ++ [109]) : List Nat).length = ((((tx ++ numT (ht k)) ++ [94]) ++ [111]) : List Nat).length + 1 := by rw [List.length_append]; rfl
          have hT5 : sbT E ad5 N w5 (d + 114) ((((tx ++ numT (ht k)) ++ [94]) ++ [111]) ++ [109]) := ⟨cp2, mb2, f2, by rw [hnl_5]; exact hR2, by rw [hnl_5]; rw [(lnT_one hff2 hfx2), hf1]⟩
          have hlen5 : (((((tx ++ numT (ht k)) ++ [94]) ++ [111]) ++ [109]) : List Nat).length ≤ tx.length + 5 := by rw [hnl_5]; omega
          have hb23 := DM_mv hb21 (w' := w5) (N' := N) (M := d + 115) (by omega) (by omega) (fun p hp => (hadL5 p (by omega)).symm) (fun p h1 h2 => hw2 p (by omega) (by omega) (by omega))
          have hb24 := SH_mv hb22 (w' := w5) (N' := N) (M := d + 115) (by omega) (by omega) (fun p hp => (hadL5 p (by omega)).symm) (fun p h1 h2 => hw2 p (by omega) (by omega) (by omega))
          have hl : lv_has ls 2 [(0, .ref (ad5 (d))), (1, .int (nI (k)))] := by rw [hadL5 (d) (by omega)]; exact hl
          refine lv_pop hx hb dX12_writeCell_103 rfl ?_
          exact g_uvret S hr hlocks hP hS (⟨hG5, by rw [show tx ++ celT ht pg wt wr mo mc k = ((((tx ++ numT (ht k)) ++ [94]) ++ [111]) ++ [109]) by unfold celT; rw [hc0, hc1, hc2, hc3]; simp only [List.append_assoc, List.nil_append, List.append_nil, List.cons_append]]; exact hT5⟩) (Nat.le_of_ble_eq_true rfl) (Nat.le_of_ble_eq_true rfl) dX12_writeCell_104
    · have hc1 : cndT (decide (0 < wt k)) 126 = [126] := by rw [decide_eq_true (show 0 < wt k by omega)]; rfl
      refine lv_aload_n hx hb dX12_writeCell_51 rfl (lv_at hl 0 rfl) ?_
      refine g_get S hI hP uX12 rfl (fs := _) (hb17.lt 0 (by decide)) (hb17.2 0 (by decide)) 9 (by decide) q411 rfl (v := .ref (ad2 (d + 114))) rfl dX12_writeCell_52 ?_
      refine g_bipush S 126 dX12_writeCell_55 (by decide +kernel) ?_
      obtain ⟨cp1, mb1, f1, hR1, hf1⟩ := hT2
      refine g_uafr (g_runV S hI hP hS (k := 1) (As := [.int (nI (126))]) (rest := []) (mJ4_append_cf468 l kk hzv (d + 114) cp1 mb1 ((tx ++ numT (ht k)) ++ [94]).length f1 (126) hR1 (by decide) (by omega)) q1692 q1693 q1694 q97 q1695 rfl rfl (by decide +kernel) ⟨(Nat.le_of_ble_eq_true rfl), (Nat.le_of_ble_eq_true rfl)⟩ rfl (hR1.1.lt 0 (by decide)) (hR1.1.2 0 (by decide)) rfl hl.1 rfl (Nat.le_of_ble_eq_true rfl) ⟨(Nat.le_of_ble_eq_true rfl), (Nat.le_of_ble_eq_true rfl)⟩ dX12_writeCell_57) hS (fun rz ad3 N3 w3 H locs hq hP hS => ?_)
      obtain ⟨hr2, hGn, cp2, mb2, f2, hR2, hff2, hfx2⟩ := hq
      have hG3 := hG2.trans hGn
      obtain ⟨hN2, ha2, hw2⟩ := id hGn
      have hN2 := hN2.symm
      subst hN2
      have hadL3 : ∀ p, p ≤ d + 114 → ad3 p = ad2 p := fun p hp => ha2 p (by omega) (by omega)
      have hnl_3 : ((((tx ++ numT (ht k)) ++ [94]) ++ [126]) : List Nat).length = (((tx ++ numT (ht k)) ++ [94]) : List Nat).length + 1 := by rw [List.length_append]; rfl
      have hT3 : sbT E ad3 N w3 (d + 114) (((tx ++ numT (ht k)) ++ [94]) ++ [126]) := ⟨cp2, mb2, f2, by rw [hnl_3]; exact hR2, by rw [hnl_3]; rw [(lnT_one hff2 hfx2), hf1]⟩
      have hlen3 : ((((tx ++ numT (ht k)) ++ [94]) ++ [126]) : List Nat).length ≤ tx.length + 4 := by rw [hnl_3]; omega
      have hb25 := DM_mv hb17 (w' := w3) (N' := N) (M := d + 115) (by omega) (by omega) (fun p hp => (hadL3 p (by omega)).symm) (fun p h1 h2 => hw2 p (by omega) (by omega) (by omega))
      have hb26 := SH_mv hb18 (w' := w3) (N' := N) (M := d + 115) (by omega) (by omega) (fun p hp => (hadL3 p (by omega)).symm) (fun p h1 h2 => hw2 p (by omega) (by omega) (by omega))
      have hl : lv_has ls 2 [(0, .ref (ad3 (d))), (1, .int (nI (k)))] := by rw [hadL3 (d) (by omega)]; exact hl
      refine lv_pop hx hb dX12_writeCell_60 rfl ?_
      refine lv_aload_n hx hb dX12_writeCell_61 rfl (lv_at hl 0 rfl) ?_
      refine g_get S hI hP uX12 rfl (fs := _) (hb25.lt 0 (by decide)) (hb25.2 0 (by decide)) 0 (by decide) q402 rfl (v := .ref (ad3 (d + 1))) rfl dX12_writeCell_62 ?_
      refine lv_iload_n hx hb dX12_writeCell_65 rfl (lv_at hl 1 rfl) ?_
      refine g_roi (g_runV S hI hP hS (k := 1) (As := [.int (nI (k))]) (rest := []) (mX7_hasHole l (d + 1) ht dr pg wt wr mo mc ni po dn k hb26 hkk hwr3) q1218 q506 q507 q83 q508 rfl rfl (by decide +kernel) ⟨Nat.le_of_ble_eq_true rfl, Nat.le_of_ble_eq_true rfl⟩ rfl (hb26.lt 0 (by decide)) (hb26.2 0 (by decide)) rfl hl.1 rfl (Nat.le_of_ble_eq_true rfl) ⟨(Nat.le_of_ble_eq_true rfl), (Nat.le_of_ble_eq_true rfl)⟩ dX12_writeCell_66) hS (fun H locs hP hS => ?_)
      refine g_beq S (b := decide (3 ≤ wr k)) (tgt := 82) dX12_writeCell_69 (by decide) (fun hz2 => ?_) (fun hz2 => ?_)
      · have hc2 : cndT (decide (3 ≤ wr k)) 111 = [] := by rw [hz2]; rfl
        refine lv_aload_n hx hb dX12_writeCell_82 rfl (lv_at hl 0 rfl) ?_
        refine g_get S hI hP uX12 rfl (fs := _) (hb25.lt 0 (by decide)) (hb25.2 0 (by decide)) 0 (by decide) q402 rfl (v := .ref (ad3 (d + 1))) rfl dX12_writeCell_83 ?_
        refine lv_iload_n hx hb dX12_writeCell_86 rfl (lv_at hl 1 rfl) ?_
        refine g_roi (g_runV S hI hP hS (k := 1) (As := [.int (nI (k))]) (rest := []) (mX7_mothOn l (d + 1) ht dr pg wt wr mo mc ni po dn k hb26 hkk hm hmo) q1710 q510 q511 q83 q512 rfl rfl (by decide +kernel) ⟨Nat.le_of_ble_eq_true rfl, Nat.le_of_ble_eq_true rfl⟩ rfl (hb26.lt 0 (by decide)) (hb26.2 0 (by decide)) rfl hl.1 rfl (Nat.le_of_ble_eq_true rfl) ⟨(Nat.le_of_ble_eq_true rfl), (Nat.le_of_ble_eq_true rfl)⟩ dX12_writeCell_87) hS (fun H locs hP hS => ?_)
        refine lv_iconst (v := -1) hx hb dX12_writeCell_90 (by decide +kernel) ?_
        refine g_oeq S (o := fstN (fun j => mo j == k) mc) (fun j hj => by have := fstN_lt hj; omega) (tgt := 104) dX12_writeCell_91 (by decide) (fun hz3 => ?_) (fun hz3_k hz3 => ?_)
        · have hc3 : cndT (fstN (fun j => mo j == k) mc).isSome 109 = [] := by rw [hz3]; rfl
          exact g_uvret S hr hlocks hP hS (⟨hG3, by rw [show tx ++ celT ht pg wt wr mo mc k = (((tx ++ numT (ht k)) ++ [94]) ++ [126]) by unfold celT; rw [hc0, hc1, hc2, hc3]; simp only [List.append_assoc, List.nil_append, List.append_nil, List.cons_append]]; exact hT3⟩) (Nat.le_of_ble_eq_true rfl) (Nat.le_of_ble_eq_true rfl) dX12_writeCell_104
        · have hc3 : cndT (fstN (fun j => mo j == k) mc).isSome 109 = [109] := by rw [hz3]; rfl
          refine lv_aload_n hx hb dX12_writeCell_94 rfl (lv_at hl 0 rfl) ?_
          refine g_get S hI hP uX12 rfl (fs := _) (hb25.lt 0 (by decide)) (hb25.2 0 (by decide)) 9 (by decide) q411 rfl (v := .ref (ad3 (d + 114))) rfl dX12_writeCell_95 ?_
          refine g_bipush S 109 dX12_writeCell_98 (by decide +kernel) ?_
          obtain ⟨cp1, mb1, f1, hR1, hf1⟩ := hT3
          refine g_uafr (g_runV S hI hP hS (k := 1) (As := [.int (nI (109))]) (rest := []) (mJ4_append_cf468 l kk hzv (d + 114) cp1 mb1 (((tx ++ numT (ht k)) ++ [94]) ++ [126]).length f1 (109) hR1 (by decide) (by omega)) q1692 q1693 q1694 q97 q1695 rfl rfl (by decide +kernel) ⟨(Nat.le_of_ble_eq_true rfl), (Nat.le_of_ble_eq_true rfl)⟩ rfl (hR1.1.lt 0 (by decide)) (hR1.1.2 0 (by decide)) rfl hl.1 rfl (Nat.le_of_ble_eq_true rfl) ⟨(Nat.le_of_ble_eq_true rfl), (Nat.le_of_ble_eq_true rfl)⟩ dX12_writeCell_100) hS (fun rz ad5 N5 w5 H locs hq hP hS => ?_)
          obtain ⟨hr2, hGn, cp2, mb2, f2, hR2, hff2, hfx2⟩ := hq
          have hG5 := hG3.trans hGn
          obtain ⟨hN2, ha2, hw2⟩ := id hGn
          have hN2 := hN2.symm
          subst hN2
          have hadL5 : ∀ p, p ≤ d + 114 → ad5 p = ad3 p := fun p hp => ha2 p (by omega) (by omega)
          have hnl_5 : (((((tx ++ numT (ht k)) ++ [94]) ++ [126]) ++ [109]) : List Nat).length = ((((tx ++ numT (ht k)) ++ [94]) ++ [126]) : List Nat).length + 1 := by rw [List.length_append]; rfl
          have hT5 : sbT E ad5 N w5 (d + 114) ((((tx ++ numT (ht k)) ++ [94]) ++ [126]) ++ [109]) := ⟨cp2, mb2, f2, by rw [hnl_5]; exact hR2, by rw [hnl_5]; rw [(lnT_one hff2 hfx2), hf1]⟩
          have hlen5 : (((((tx ++ numT (ht k)) ++ [94]) ++ [126]) ++ [109]) : List Nat).length ≤ tx.length + 5 := by rw [hnl_5]; omega
          have hb27 := DM_mv hb25 (w' := w5) (N' := N) (M := d + 115) (by omega) (by omega) (fun p hp => (hadL5 p (by omega)).symm) (fun p h1 h2 => hw2 p (by omega) (by omega) (by omega))
          have hb28 := SH_mv hb26 (w' := w5) (N' := N) (M := d + 115) (by omega) (by omega) (fun p hp => (hadL5 p (by omega)).symm) (fun p h1 h2 => hw2 p (by omega) (by omega) (by omega))
          have hl : lv_has ls 2 [(0, .ref (ad5 (d))), (1, .int (nI (k)))] := by rw [hadL5 (d) (by omega)]; exact hl
          refine lv_pop hx hb dX12_writeCell_103 rfl ?_
          exact g_uvret S hr hlocks hP hS (⟨hG5, by rw [show tx ++ celT ht pg wt wr mo mc k = ((((tx ++ numT (ht k)) ++ [94]) ++ [126]) ++ [109]) by unfold celT; rw [hc0, hc1, hc2, hc3]; simp only [List.append_assoc, List.nil_append, List.append_nil, List.cons_append]]; exact hT5⟩) (Nat.le_of_ble_eq_true rfl) (Nat.le_of_ble_eq_true rfl) dX12_writeCell_104
      · have hc2 : cndT (decide (3 ≤ wr k)) 111 = [111] := by rw [hz2]; rfl
        refine lv_aload_n hx hb dX12_writeCell_72 rfl (lv_at hl 0 rfl) ?_
        refine g_get S hI hP uX12 rfl (fs := _) (hb25.lt 0 (by decide)) (hb25.2 0 (by decide)) 9 (by decide) q411 rfl (v := .ref (ad3 (d + 114))) rfl dX12_writeCell_73 ?_
        refine g_bipush S 111 dX12_writeCell_76 (by decide +kernel) ?_
        obtain ⟨cp1, mb1, f1, hR1, hf1⟩ := hT3
        refine g_uafr (g_runV S hI hP hS (k := 1) (As := [.int (nI (111))]) (rest := []) (mJ4_append_cf468 l kk hzv (d + 114) cp1 mb1 (((tx ++ numT (ht k)) ++ [94]) ++ [126]).length f1 (111) hR1 (by decide) (by omega)) q1692 q1693 q1694 q97 q1695 rfl rfl (by decide +kernel) ⟨(Nat.le_of_ble_eq_true rfl), (Nat.le_of_ble_eq_true rfl)⟩ rfl (hR1.1.lt 0 (by decide)) (hR1.1.2 0 (by decide)) rfl hl.1 rfl (Nat.le_of_ble_eq_true rfl) ⟨(Nat.le_of_ble_eq_true rfl), (Nat.le_of_ble_eq_true rfl)⟩ dX12_writeCell_78) hS (fun rz ad4 N4 w4 H locs hq hP hS => ?_)
        obtain ⟨hr2, hGn, cp2, mb2, f2, hR2, hff2, hfx2⟩ := hq
        have hG4 := hG3.trans hGn
        obtain ⟨hN2, ha2, hw2⟩ := id hGn
        have hN2 := hN2.symm
        subst hN2
        have hadL4 : ∀ p, p ≤ d + 114 → ad4 p = ad3 p := fun p hp => ha2 p (by omega) (by omega)
        have hnl_4 : (((((tx ++ numT (ht k)) ++ [94]) ++ [126]) ++ [111]) : List Nat).length = ((((tx ++ numT (ht k)) ++ [94]) ++ [126]) : List Nat).length + 1 := by rw [List.length_append]; rfl
        have hT4 : sbT E ad4 N w4 (d + 114) ((((tx ++ numT (ht k)) ++ [94]) ++ [126]) ++ [111]) := ⟨cp2, mb2, f2, by rw [hnl_4]; exact hR2, by rw [hnl_4]; rw [(lnT_one hff2 hfx2), hf1]⟩
        have hlen4 : (((((tx ++ numT (ht k)) ++ [94]) ++ [126]) ++ [111]) : List Nat).length ≤ tx.length + 5 := by rw [hnl_4]; omega
        have hb29 := DM_mv hb25 (w' := w4) (N' := N) (M := d + 115) (by omega) (by omega) (fun p hp => (hadL4 p (by omega)).symm) (fun p h1 h2 => hw2 p (by omega) (by omega) (by omega))
        have hb30 := SH_mv hb26 (w' := w4) (N' := N) (M := d + 115) (by omega) (by omega) (fun p hp => (hadL4 p (by omega)).symm) (fun p h1 h2 => hw2 p (by omega) (by omega) (by omega))
        have hl : lv_has ls 2 [(0, .ref (ad4 (d))), (1, .int (nI (k)))] := by rw [hadL4 (d) (by omega)]; exact hl
        refine lv_pop hx hb dX12_writeCell_81 rfl ?_
        refine lv_aload_n hx hb dX12_writeCell_82 rfl (lv_at hl 0 rfl) ?_
        refine g_get S hI hP uX12 rfl (fs := _) (hb29.lt 0 (by decide)) (hb29.2 0 (by decide)) 0 (by decide) q402 rfl (v := .ref (ad4 (d + 1))) rfl dX12_writeCell_83 ?_
        refine lv_iload_n hx hb dX12_writeCell_86 rfl (lv_at hl 1 rfl) ?_
        refine g_roi (g_runV S hI hP hS (k := 1) (As := [.int (nI (k))]) (rest := []) (mX7_mothOn l (d + 1) ht dr pg wt wr mo mc ni po dn k hb30 hkk hm hmo) q1710 q510 q511 q83 q512 rfl rfl (by decide +kernel) ⟨Nat.le_of_ble_eq_true rfl, Nat.le_of_ble_eq_true rfl⟩ rfl (hb30.lt 0 (by decide)) (hb30.2 0 (by decide)) rfl hl.1 rfl (Nat.le_of_ble_eq_true rfl) ⟨(Nat.le_of_ble_eq_true rfl), (Nat.le_of_ble_eq_true rfl)⟩ dX12_writeCell_87) hS (fun H locs hP hS => ?_)
        refine lv_iconst (v := -1) hx hb dX12_writeCell_90 (by decide +kernel) ?_
        refine g_oeq S (o := fstN (fun j => mo j == k) mc) (fun j hj => by have := fstN_lt hj; omega) (tgt := 104) dX12_writeCell_91 (by decide) (fun hz3 => ?_) (fun hz3_k hz3 => ?_)
        · have hc3 : cndT (fstN (fun j => mo j == k) mc).isSome 109 = [] := by rw [hz3]; rfl
          exact g_uvret S hr hlocks hP hS (⟨hG4, by rw [show tx ++ celT ht pg wt wr mo mc k = ((((tx ++ numT (ht k)) ++ [94]) ++ [126]) ++ [111]) by unfold celT; rw [hc0, hc1, hc2, hc3]; simp only [List.append_assoc, List.nil_append, List.append_nil, List.cons_append]]; exact hT4⟩) (Nat.le_of_ble_eq_true rfl) (Nat.le_of_ble_eq_true rfl) dX12_writeCell_104
        · have hc3 : cndT (fstN (fun j => mo j == k) mc).isSome 109 = [109] := by rw [hz3]; rfl
          refine lv_aload_n hx hb dX12_writeCell_94 rfl (lv_at hl 0 rfl) ?_
          refine g_get S hI hP uX12 rfl (fs := _) (hb29.lt 0 (by decide)) (hb29.2 0 (by decide)) 9 (by decide) q411 rfl (v := .ref (ad4 (d + 114))) rfl dX12_writeCell_95 ?_
          refine g_bipush S 109 dX12_writeCell_98 (by decide +kernel) ?_
          obtain ⟨cp1, mb1, f1, hR1, hf1⟩ := hT4
          refine g_uafr (g_runV S hI hP hS (k := 1) (As := [.int (nI (109))]) (rest := []) (mJ4_append_cf468 l kk hzv (d + 114) cp1 mb1 ((((tx ++ numT (ht k)) ++ [94]) ++ [126]) ++ [111]).length f1 (109) hR1 (by decide) (by omega)) q1692 q1693 q1694 q97 q1695 rfl rfl (by decide +kernel) ⟨(Nat.le_of_ble_eq_true rfl), (Nat.le_of_ble_eq_true rfl)⟩ rfl (hR1.1.lt 0 (by decide)) (hR1.1.2 0 (by decide)) rfl hl.1 rfl (Nat.le_of_ble_eq_true rfl) ⟨(Nat.le_of_ble_eq_true rfl), (Nat.le_of_ble_eq_true rfl)⟩ dX12_writeCell_100) hS (fun rz ad5 N5 w5 H locs hq hP hS => ?_)
          obtain ⟨hr2, hGn, cp2, mb2, f2, hR2, hff2, hfx2⟩ := hq
          have hG5 := hG4.trans hGn
          obtain ⟨hN2, ha2, hw2⟩ := id hGn
          have hN2 := hN2.symm
          subst hN2
          have hadL5 : ∀ p, p ≤ d + 114 → ad5 p = ad4 p := fun p hp => ha2 p (by omega) (by omega)
          have hnl_5 : ((((((tx ++ numT (ht k)) ++ [94]) ++ [126]) ++ [111]) ++ [109]) : List Nat).length = (((((tx ++ numT (ht k)) ++ [94]) ++ [126]) ++ [111]) : List Nat).length + 1 := by rw [List.length_append]; rfl
          have hT5 : sbT E ad5 N w5 (d + 114) (((((tx ++ numT (ht k)) ++ [94]) ++ [126]) ++ [111]) ++ [109]) := ⟨cp2, mb2, f2, by rw [hnl_5]; exact hR2, by rw [hnl_5]; rw [(lnT_one hff2 hfx2), hf1]⟩
          have hlen5 : ((((((tx ++ numT (ht k)) ++ [94]) ++ [126]) ++ [111]) ++ [109]) : List Nat).length ≤ tx.length + 6 := by rw [hnl_5]; omega
          have hb31 := DM_mv hb29 (w' := w5) (N' := N) (M := d + 115) (by omega) (by omega) (fun p hp => (hadL5 p (by omega)).symm) (fun p h1 h2 => hw2 p (by omega) (by omega) (by omega))
          have hb32 := SH_mv hb30 (w' := w5) (N' := N) (M := d + 115) (by omega) (by omega) (fun p hp => (hadL5 p (by omega)).symm) (fun p h1 h2 => hw2 p (by omega) (by omega) (by omega))
          have hl : lv_has ls 2 [(0, .ref (ad5 (d))), (1, .int (nI (k)))] := by rw [hadL5 (d) (by omega)]; exact hl
          refine lv_pop hx hb dX12_writeCell_103 rfl ?_
          exact g_uvret S hr hlocks hP hS (⟨hG5, by rw [show tx ++ celT ht pg wt wr mo mc k = (((((tx ++ numT (ht k)) ++ [94]) ++ [126]) ++ [111]) ++ [109]) by unfold celT; rw [hc0, hc1, hc2, hc3]; simp only [List.append_assoc, List.nil_append, List.append_nil, List.cons_append]]; exact hT5⟩) (Nat.le_of_ble_eq_true rfl) (Nat.le_of_ble_eq_true rfl) dX12_writeCell_104
set_option maxHeartbeats 4000000 in
set_option maxRecDepth 100000 in
/-- a row is written -/
theorem mX12_writeRow (l : Launch) {E : gE} {ad : Nat → Nat} {N : Nat} {w : Nat → va_E} (kk : Nat → Nat) (hzv : gHv E kk) (d : Nat) (sv : Nat) (fp dq : Option Nat) (dd : Int32) (dc : Option Nat) (ht dr pg wt wr mo : Nat → Nat) (mc ni po dn : Nat) (tx : List Nat) (v : Int32) (hb_d : bkP N w d 1 (DMC E ad d sv fp dq dd dc)) (hb_s : bkP N w (d + 1) 7 (SHC E ad (d + 1) ht dr pg wt wr mo mc ni po dn)) (hlt : l.stackTraces = false) (hz : gHx E) (hT : sbT E ad N w (d + 114) tx) (hdN : d + 115 < N) (htl : tx.length ≤ 60) (hwt : ∀ k, k < 36 → wt k < 2 ^ 31) (hht : ∀ k, k < 36 → ht k ≤ 99) (hpg : ∀ k, k < 36 → pg k ≤ 1) (hwr : ∀ k, k < 36 → wr k ≤ 3) (hm : mc ≤ 4) (hmo : ∀ k, k < mc → mo k < 36) : gUXi l yX12_writeRow (lw_ws yX12_writeRow cX12_writeRow 4 (some .int)) ({ frames := 7, cells := 40, slots := 2600, locals := 156 } : Room) E ad N w [.ref (ad (d)), .int (v)] (fun r ad' N' w' => ∃ k, cellV v (nI 0) = some k ∧ r = nI (rowT ht pg wt wr mo mc k 6).length ∧ sbG ad N w (d + 114) ad' N' w' ∧ sbT E ad' N' w' (d + 114) (rowT ht pg wt wr mo mc k 6)) (fun xc ad' N' w' => xc = xIO ∧ cellV v (nI 0) = none ∧ ad' = ad ∧ N' = N ∧ w' = w) 40 2600 := by
  refine vx_ofW (cc := cX12_writeRow) (maxL := 4) (ret := (some .int)) (by decide) rfl ?_
  intro p e s m args below meth cd s₁ B hml htab hv
  obtain ⟨rfl, hI, hP⟩ := hv
  obtain ⟨S, hr, hlocks⟩ := gPre (ws := []) B hml (C := RX12) rfl
  have hx := S.1
  have hb := S.2.1
  have hzk := hzv s s.heap hI.2.2.2.2
  have hS : va_S (gA E) s.heap s.heap [] := va_S.rf
  have hl := lv_entry ([.ref (ad (d)), .int (v)]) (n := 4) (Nat.le_of_ble_eq_true rfl)
  rw [lg_entry_eq]
  generalize (lg_sl ([.ref (ad (d)), .int (v)]) ++ List.replicate (4 - (lg_sl ([.ref (ad (d)), .int (v)])).length) Slot.unset).toArray = ls at hl ⊢
  have hl : lv_has ls 4 [(0, .ref (ad (d))), (1, .int (v))] := hl
  refine lv_iload_n hx hb dX12_writeRow_0 rfl (lv_at hl 1 rfl) ?_
  refine g_iconst S 0 dX12_writeRow_1 (by decide +kernel) ?_
  refine g_xafi (g_xrunS S hI hP hS (k := 2) (As := [.int (v), .int (nI (0))]) (rest := []) (mX12_requiredCell l v (nI (0)) hlt hz) q869 q870 q82 q871 rfl rfl (by decide +kernel) ⟨(Nat.le_of_ble_eq_true rfl), (Nat.le_of_ble_eq_true rfl)⟩ rfl hl.1 rfl (Nat.le_of_ble_eq_true rfl) ⟨(Nat.le_of_ble_eq_true rfl), (Nat.le_of_ble_eq_true rfl)⟩ dX12_writeRow_2) hS (fun xc w1 xq ce H locs hpx hP hS hcell hcv hcl => ?_) (fun rz w1 H locs hq hP hS => ?_)
  · obtain ⟨hpx1, hpx2, hpx3⟩ := hpx
    rw [hpx3] at hP
    exact g_uxout S hI hS htab hlocks hP hcell hcv hcl (⟨hpx1, hpx2, rfl, rfl, rfl⟩) (Nat.le_of_ble_eq_true rfl) (Nat.le_of_ble_eq_true rfl)
  · obtain ⟨k, hck, hrk, hww⟩ := hq
    rw [hww] at hP
    rw [hrk]
    have hk := cellV_lt hck
    have hk0 : k ≤ 30 := cellV_0 hck
    refine lv_istore_n (lv' := [(2, .int (nI (k))), (0, .ref (ad (d))), (1, .int (v))]) hx hb dX12_writeRow_5 rfl hl (by decide) rfl (fun ls hl => ?_)
    refine lv_aload_n hx hb dX12_writeRow_6 rfl (lv_at hl 1 rfl) ?_
    refine g_get S hI hP uX12 rfl (fs := _) (hb_d.lt 0 (by decide)) (hb_d.2 0 (by decide)) 9 (by decide) q411 rfl (v := .ref (ad (d + 114))) rfl dX12_writeRow_7 ?_
    refine g_iconst S 0 dX12_writeRow_10 (by decide +kernel) ?_
    obtain ⟨cp1, mb1, f1, hR1, hf1⟩ := hT
    refine g_uafv (g_runV S hI hP hS (k := 1) (As := [.int (nI (0))]) (rest := []) (mJ4_setLength_d00df l kk hzv (d + 114) cp1 mb1 tx.length f1 hR1 (by omega)) q1454 q1455 q1456 q97 q1457 rfl rfl (by decide +kernel) ⟨(Nat.le_of_ble_eq_true rfl), (Nat.le_of_ble_eq_true rfl)⟩ rfl (hR1.1.lt 0 (by decide)) (hR1.1.2 0 (by decide)) rfl hl.1 rfl (Nat.le_of_ble_eq_true rfl) ⟨(Nat.le_trans (m := 40) (by omega) (Nat.le_of_ble_eq_true rfl)), (Nat.le_trans (m := 2600) (by omega) (Nat.le_of_ble_eq_true rfl))⟩ dX12_writeRow_11) hS (fun ad1 N1 w1 H locs hq hP hS => ?_)
    obtain ⟨hG1, cp2, mb2, f2, hR2⟩ := hq
    obtain ⟨hN2, ha2, hw2⟩ := id hG1
    have hN2 := hN2.symm
    subst hN2
    have hadL1 : ∀ p, p ≤ d + 114 → ad1 p = ad p := fun p hp => ha2 p (by omega) (by omega)
    have hT1 : sbT E ad1 N w1 (d + 114) [] := ⟨cp2, mb2, f2, hR2, rfl⟩
    have hb1 := DM_mv hb_d (w' := w1) (N' := N) (M := d + 115) (by omega) (by omega) (fun p hp => (hadL1 p (by omega)).symm) (fun p h1 h2 => hw2 p (by omega) (by omega) (by omega))
    have hb2 := SH_mv hb_s (w' := w1) (N' := N) (M := d + 115) (by omega) (by omega) (fun p hp => (hadL1 p (by omega)).symm) (fun p h1 h2 => hw2 p (by omega) (by omega) (by omega))
    have hl : lv_has ls 4 [(2, .int (nI (k))), (0, .ref (ad1 (d))), (1, .int (v))] := by rw [hadL1 (d) (by omega)]; exact hl
    refine g_iconst S 0 dX12_writeRow_14 (by decide +kernel) ?_
    refine lv_istore_n (lv' := [(3, .int (nI (0))), (2, .int (nI (k))), (0, .ref (ad1 (d))), (1, .int (v))]) hx hb dX12_writeRow_15 rfl hl (by decide) rfl (fun ls hl => ?_)
    have rowl : ∀ (fz : Nat) (i : Nat) (ad5 : Nat → Nat), 7 - i < fz → (i ≤ 6) → ∀ (w1 : Nat → va_E) (H : Heap) (locs : List Loc), gP E ad5 N w1 H → va_S (gA E) s.heap H locs → bkP N w1 d 1 (DMC E ad5 d sv fp dq dd dc) → bkP N w1 (d + 1) 7 (SHC E ad5 (d + 1) ht dr pg wt wr mo mc ni po dn) → (sbT E ad5 N w1 (d + 114) (rowT ht pg wt wr mo mc k i)) → (sbG ad N w (d + 114) ad5 N w1) → ∀ (ls : Array Slot), lv_has ls 4 [(3, .int (nI (i))), (2, .int (nI (k))), (0, .ref (ad5 (d)))] → W p l e (headSpec (lw_ws yX12_writeRow cX12_writeRow 4 (some .int)) ({ frames := 7, cells := 40, slots := 2600, locals := 156 } : Room)).room s m ([.ref (ad (d)), .int (v)] : List Value).toArray below meth cd H locs (1 + 1 + 6 * i) (6 + 70 + 420 * i) (vx_MQ below (gQUi E (fun r ad' N' w' => ∃ k, cellV v (nI 0) = some k ∧ r = nI (rowT ht pg wt wr mo mc k 6).length ∧ sbG ad N w (d + 114) ad' N' w' ∧ sbT E ad' N' w' (d + 114) (rowT ht pg wt wr mo mc k 6))) (gXU E (fun xc ad' N' w' => xc = xIO ∧ cellV v (nI 0) = none ∧ ad' = ad ∧ N' = N ∧ w' = w)) ([.ref (ad (d)), .int (v)] : List Value).toArray s 40 2600 (gA E)) (F0 m 16 ls []) := by
      intro fz
      induction fz with
      | zero => intro i ad5 hmeas; omega
      | succ fz ih_rowl =>
        intro i ad5 hmeas hi w1 H locs hP hS hb3 hb4 hT5 hG5 ls hl
        have hrl := rowT_len ht pg wt wr mo mc k i
        refine lv_iload_n hx hb dX12_writeRow_16 rfl (lv_at hl 0 rfl) ?_
        refine g_bipush S 6 dX12_writeRow_17 (by decide +kernel) ?_
        refine g_ge S (a := i) (b := 6) (by omega) (by omega) (tgt := 49) dX12_writeRow_19 (by decide) (fun h => ?_) (fun h => ?_)
        · have e6 : i = 6 := by omega
          subst e6
          refine lv_aload_n hx hb dX12_writeRow_49 rfl (lv_at hl 2 rfl) ?_
          refine g_get S hI hP uX12 rfl (fs := _) (hb3.lt 0 (by decide)) (hb3.2 0 (by decide)) 9 (by decide) q411 rfl (v := .ref (ad5 (d + 114))) rfl dX12_writeRow_50 ?_
          obtain ⟨cp1, mb1, f1, hR1, hf1⟩ := id hT5
          refine g_roi (g_runV S hI hP hS (k := 0) (As := []) (rest := []) (mJ4_length_8abf5 l (d + 114) (ad5 (d + 114 + 1)) mb1 (rowT ht pg wt wr mo mc k 6).length hR1.1) q1711 q1602 q2263 q97 q1603 rfl rfl (by decide +kernel) ⟨(Nat.le_of_ble_eq_true rfl), (Nat.le_of_ble_eq_true rfl)⟩ rfl (hR1.1.lt 0 (by decide)) (hR1.1.2 0 (by decide)) rfl hl.1 rfl (Nat.le_of_ble_eq_true rfl) ⟨(Nat.le_trans (m := 40) (by omega) (Nat.le_of_ble_eq_true rfl)), (Nat.le_trans (m := 2600) (by omega) (Nat.le_of_ble_eq_true rfl))⟩ dX12_writeRow_53) hS (fun H locs hP hS => ?_)
          exact vx_ret (g_uiret S hr hlocks hP hS (⟨k, hck, rfl, hG5, hT5⟩) (Nat.le_of_ble_eq_true rfl) (Nat.le_of_ble_eq_true rfl) dX12_writeRow_56)
        · refine lv_iload_n hx hb dX12_writeRow_22 rfl (lv_at hl 0 rfl) ?_
          refine g_ifle S (a := i) (by omega) (tgt := 36) dX12_writeRow_23 (by decide) (fun h3 => ?_) (fun h3 => ?_)
          · have hi0 : i = 0 := by omega
            refine lv_aload_n hx hb dX12_writeRow_36 rfl (lv_at hl 2 rfl) ?_
            refine lv_iload_n hx hb dX12_writeRow_37 rfl (lv_at hl 1 rfl) ?_
            refine lv_iload_n hx hb dX12_writeRow_38 rfl (lv_at hl 0 rfl) ?_
            refine g_iadd S dX12_writeRow_39 ?_
            refine g_uafv (g_runV S hI hP hS (k := 1) (As := [.int (nI (k + i))]) (rest := []) (mX12_writeCell l kk hzv d sv fp dq dd dc ht dr pg wt wr mo mc ni po dn (rowT ht pg wt wr mo mc k i) (k + i) hb3 hb4 hT5 hdN (by omega) (by omega) hwt hht hpg hwr hm hmo) q1705 q1707 q46 q82 q1708 rfl rfl (by decide +kernel) ⟨(Nat.le_of_ble_eq_true rfl), (Nat.le_of_ble_eq_true rfl)⟩ rfl (hb3.lt 0 (by decide)) (hb3.2 0 (by decide)) rfl hl.1 rfl (Nat.le_of_ble_eq_true rfl) ⟨(Nat.le_trans (m := 40) (by omega) (Nat.le_of_ble_eq_true rfl)), (Nat.le_trans (m := 2600) (by omega) (Nat.le_of_ble_eq_true rfl))⟩ dX12_writeRow_40) hS (fun ad6 N6 w6 H locs hq hP hS => ?_)
            obtain ⟨hG6, hT6⟩ := hq
            have hG7 := hG5.trans hG6
            obtain ⟨hN2, ha2, hw2⟩ := id hG6
            have hN2 := hN2.symm
            subst hN2
            have hadL6 : ∀ p, p ≤ d + 114 → ad6 p = ad5 p := fun p hp => ha2 p (by omega) (by omega)
            have hb5 := DM_mv hb3 (w' := w6) (N' := N) (M := d + 115) (by omega) (by omega) (fun p hp => (hadL6 p (by omega)).symm) (fun p h1 h2 => hw2 p (by omega) (by omega) (by omega))
            have hb6 := SH_mv hb4 (w' := w6) (N' := N) (M := d + 115) (by omega) (by omega) (fun p hp => (hadL6 p (by omega)).symm) (fun p h1 h2 => hw2 p (by omega) (by omega) (by omega))
            have hl : lv_has ls 4 [(3, .int (nI (i))), (2, .int (nI (k))), (0, .ref (ad6 (d)))] := by rw [hadL6 (d) (by omega)]; exact hl
            refine lv_iinc (v := nI (i + 1)) (lv' := [(3, .int (nI (i + 1))), (2, .int (nI (k))), (0, .ref (ad6 (d)))]) hx hb dX12_writeRow_43 hl (k := 0) rfl (g_inc _ 1 (by decide +kernel)) (by decide) rfl (fun ls hl => ?_)
            refine lv_goto (tgt := 16) hx hb dX12_writeRow_46 (by decide) ?_
            refine W.widen (k := 1 + 1 + 6 * (i + 1)) (n := 6 + 70 + 420 * (i + 1)) (by omega) (by omega) ?_
            exact ih_rowl (i + 1) (ad6) (by omega) (by omega) _ _ _ hP hS hb5 hb6 (by rw [show rowT ht pg wt wr mo mc k (i + 1) = (rowT ht pg wt wr mo mc k i) ++ celT ht pg wt wr mo mc (k + i) by show rowT ht pg wt wr mo mc k i ++ (cndT (decide (0 < i)) 32 ++ _) = _; rw [decide_eq_false (show ¬ 0 < i by omega)]; rfl]; exact hT6) (hG7) ls (lv_sub hl [0, 1, 2] rfl)
          · refine lv_aload_n hx hb dX12_writeRow_26 rfl (lv_at hl 2 rfl) ?_
            refine g_get S hI hP uX12 rfl (fs := _) (hb3.lt 0 (by decide)) (hb3.2 0 (by decide)) 9 (by decide) q411 rfl (v := .ref (ad5 (d + 114))) rfl dX12_writeRow_27 ?_
            refine g_bipush S 32 dX12_writeRow_30 (by decide +kernel) ?_
            obtain ⟨cp1, mb1, f1, hR1, hf1⟩ := id hT5
            refine g_uafr (g_runV S hI hP hS (k := 1) (As := [.int (nI (32))]) (rest := []) (mJ4_append_cf468 l kk hzv (d + 114) cp1 mb1 (rowT ht pg wt wr mo mc k i).length f1 (32) hR1 (by decide) (by omega)) q1692 q1693 q1694 q97 q1695 rfl rfl (by decide +kernel) ⟨(Nat.le_of_ble_eq_true rfl), (Nat.le_of_ble_eq_true rfl)⟩ rfl (hR1.1.lt 0 (by decide)) (hR1.1.2 0 (by decide)) rfl hl.1 rfl (Nat.le_of_ble_eq_true rfl) ⟨(Nat.le_trans (m := 40) (by omega) (Nat.le_of_ble_eq_true rfl)), (Nat.le_trans (m := 2600) (by omega) (Nat.le_of_ble_eq_true rfl))⟩ dX12_writeRow_32) hS (fun rz ad4 N4 w4 H locs hq hP hS => ?_)
            obtain ⟨hr2, hG2, cp2, mb2, f2, hR2, hff2, hfx2⟩ := hq
            have hG4 := hG5.trans hG2
            obtain ⟨hN2, ha2, hw2⟩ := id hG2
            have hN2 := hN2.symm
            subst hN2
            have hadL4 : ∀ p, p ≤ d + 114 → ad4 p = ad5 p := fun p hp => ha2 p (by omega) (by omega)
            have hnl4 : ((rowT ht pg wt wr mo mc k i ++ [32]) : List Nat).length = (rowT ht pg wt wr mo mc k i).length + 1 := by rw [List.length_append]; rfl
            have hT4 : sbT E ad4 N w4 (d + 114) (rowT ht pg wt wr mo mc k i ++ [32]) := ⟨cp2, mb2, f2, by rw [hnl4]; exact hR2, by rw [hnl4]; rw [(lnT_one hff2 hfx2), hf1]⟩
            have hb7 := DM_mv hb3 (w' := w4) (N' := N) (M := d + 115) (by omega) (by omega) (fun p hp => (hadL4 p (by omega)).symm) (fun p h1 h2 => hw2 p (by omega) (by omega) (by omega))
            have hb8 := SH_mv hb4 (w' := w4) (N' := N) (M := d + 115) (by omega) (by omega) (fun p hp => (hadL4 p (by omega)).symm) (fun p h1 h2 => hw2 p (by omega) (by omega) (by omega))
            have hl : lv_has ls 4 [(3, .int (nI (i))), (2, .int (nI (k))), (0, .ref (ad4 (d)))] := by rw [hadL4 (d) (by omega)]; exact hl
            refine lv_pop hx hb dX12_writeRow_35 rfl ?_
            refine lv_aload_n hx hb dX12_writeRow_36 rfl (lv_at hl 2 rfl) ?_
            refine lv_iload_n hx hb dX12_writeRow_37 rfl (lv_at hl 1 rfl) ?_
            refine lv_iload_n hx hb dX12_writeRow_38 rfl (lv_at hl 0 rfl) ?_
            refine g_iadd S dX12_writeRow_39 ?_
            refine g_uafv (g_runV S hI hP hS (k := 1) (As := [.int (nI (k + i))]) (rest := []) (mX12_writeCell l kk hzv d sv fp dq dd dc ht dr pg wt wr mo mc ni po dn (rowT ht pg wt wr mo mc k i ++ [32]) (k + i) hb7 hb8 hT4 hdN (by omega) (by omega) hwt hht hpg hwr hm hmo) q1705 q1707 q46 q82 q1708 rfl rfl (by decide +kernel) ⟨(Nat.le_of_ble_eq_true rfl), (Nat.le_of_ble_eq_true rfl)⟩ rfl (hb7.lt 0 (by decide)) (hb7.2 0 (by decide)) rfl hl.1 rfl (Nat.le_of_ble_eq_true rfl) ⟨(Nat.le_trans (m := 40) (by omega) (Nat.le_of_ble_eq_true rfl)), (Nat.le_trans (m := 2600) (by omega) (Nat.le_of_ble_eq_true rfl))⟩ dX12_writeRow_40) hS (fun ad6 N6 w6 H locs hq hP hS => ?_)
            obtain ⟨hG6, hT6⟩ := hq
            have hG7 := hG4.trans hG6
            obtain ⟨hN2, ha2, hw2⟩ := id hG6
            have hN2 := hN2.symm
            subst hN2
            have hadL6 : ∀ p, p ≤ d + 114 → ad6 p = ad4 p := fun p hp => ha2 p (by omega) (by omega)
            have hb9 := DM_mv hb7 (w' := w6) (N' := N) (M := d + 115) (by omega) (by omega) (fun p hp => (hadL6 p (by omega)).symm) (fun p h1 h2 => hw2 p (by omega) (by omega) (by omega))
            have hb10 := SH_mv hb8 (w' := w6) (N' := N) (M := d + 115) (by omega) (by omega) (fun p hp => (hadL6 p (by omega)).symm) (fun p h1 h2 => hw2 p (by omega) (by omega) (by omega))
            have hl : lv_has ls 4 [(3, .int (nI (i))), (2, .int (nI (k))), (0, .ref (ad6 (d)))] := by rw [hadL6 (d) (by omega)]; exact hl
            refine lv_iinc (v := nI (i + 1)) (lv' := [(3, .int (nI (i + 1))), (2, .int (nI (k))), (0, .ref (ad6 (d)))]) hx hb dX12_writeRow_43 hl (k := 0) rfl (g_inc _ 1 (by decide +kernel)) (by decide) rfl (fun ls hl => ?_)
            refine lv_goto (tgt := 16) hx hb dX12_writeRow_46 (by decide) ?_
            refine W.widen (k := 1 + 1 + 6 * (i + 1)) (n := 6 + 70 + 420 * (i + 1)) (by omega) (by omega) ?_
            exact ih_rowl (i + 1) (ad6) (by omega) (by omega) _ _ _ hP hS hb9 hb10 (by rw [show rowT ht pg wt wr mo mc k (i + 1) = (rowT ht pg wt wr mo mc k i ++ [32]) ++ celT ht pg wt wr mo mc (k + i) by show rowT ht pg wt wr mo mc k i ++ (cndT (decide (0 < i)) 32 ++ _) = _; rw [decide_eq_true (show 0 < i by omega)]; show rowT ht pg wt wr mo mc k i ++ ([32] ++ _) = _; rw [List.append_assoc]]; exact hT6) (hG7) ls (lv_sub hl [0, 1, 2] rfl)
    exact rowl (7 - 0 + 1) (0) (ad1) (Nat.lt_succ_self _) (by omega) _ _ _ hP hS hb1 hb2 (hT1) (hG1) ls (lv_sub hl [0, 1, 2] rfl)
set_option maxHeartbeats 4000000 in
set_option maxRecDepth 100000 in
/-- a sign of the line -/
theorem mX12_lineCharacter (l : Launch) {E : gE} {ad : Nat → Nat} {N : Nat} {w : Nat → va_E} (kk : Nat → Nat) (hzv : gHv E kk) (d : Nat) (sv : Nat) (fp dq : Option Nat) (dd : Int32) (dc : Option Nat) (tx : List Nat) (v : Int32) (hb_d : bkP N w d 1 (DMC E ad d sv fp dq dd dc)) (hlt : l.stackTraces = false) (hz : gHx E) (hT : sbT E ad N w (d + 114) tx) (hdN : d + 115 < N) (htl : tx.length ≤ 60) : gXi l yX12_lineCharacter (lw_ws yX12_lineCharacter cX12_lineCharacter 2 (some .char)) ({ frames := 6, cells := 1, slots := 6, locals := 90 } : Room) E ad N w [.ref (ad (d)), .int (v)] (fun r w' => ∃ i, inR v tx.length = some i ∧ r = nI (tx.getD i 0) ∧ w' = w) (fun xc w' => xc = xIO ∧ (inR v tx.length = none) ∧ w' = w) 1 6 := by
  refine vx_ofW (cc := cX12_lineCharacter) (maxL := 2) (ret := (some .char)) (by decide) rfl ?_
  intro p e s m args below meth cd s₁ B hml htab hv
  obtain ⟨rfl, hI, hP⟩ := hv
  obtain ⟨S, hr, hlocks⟩ := gPre (ws := []) B hml (C := RX12) rfl
  have hx := S.1
  have hb := S.2.1
  have hzk := hzv s s.heap hI.2.2.2.2
  have hS : va_S (gA E) s.heap s.heap [] := va_S.rf
  have hl := lv_entry ([.ref (ad (d)), .int (v)]) (n := 2) (Nat.le_of_ble_eq_true rfl)
  rw [lg_entry_eq]
  generalize (lg_sl ([.ref (ad (d)), .int (v)]) ++ List.replicate (2 - (lg_sl ([.ref (ad (d)), .int (v)])).length) Slot.unset).toArray = ls at hl ⊢
  have hl : lv_has ls 2 [(0, .ref (ad (d))), (1, .int (v))] := hl
  obtain ⟨cp1, mb1, f1, hR1, hf1⟩ := hT
  refine lv_iload_n hx hb dX12_lineCharacter_0 rfl (lv_at hl 1 rfl) ?_
  rcases pk_ix v (n := tx.length) (by omega) with hv0 | hv0 | ⟨u, hu, hvu⟩
  · refine lv_if_lt (tgt := 15) hx hb dX12_lineCharacter_1 (by decide) (fun hc => ?_) (fun hc => ?_)
    · exact g_throwW S hI hP hS hl.1 htab hlocks hlt hz (cls := "java/lang/IndexOutOfBoundsException") (text := "no such character") q521 q108 (by decide) tx_298 (by decide +kernel) dX12_lineCharacter_15 dX12_lineCharacter_18 dX12_lineCharacter_19 dX12_lineCharacter_22 dX12_lineCharacter_25 (Nat.le_of_ble_eq_true rfl) (Nat.le_of_ble_eq_true rfl) (Nat.le_of_ble_eq_true rfl) (Nat.le_of_ble_eq_true rfl) (Nat.le_of_ble_eq_true rfl) (Nat.le_of_ble_eq_true rfl) (⟨rfl, inR_neg hv0, rfl⟩)
    · exact absurd hv0 hc
  · have hv1 : ¬ v < 0 := fun q => nI_pos (n := tx.length) (by omega) (Int32.lt_of_le_of_lt hv0 q)
    refine lv_if_lt (tgt := 15) hx hb dX12_lineCharacter_1 (by decide) (fun hc => ?_) (fun hc => ?_)
    · exact absurd hc hv1
    · refine lv_iload_n hx hb dX12_lineCharacter_4 rfl (lv_at hl 1 rfl) ?_
      refine lv_aload_n hx hb dX12_lineCharacter_5 rfl (lv_at hl 0 rfl) ?_
      refine g_get S hI hP uX12 rfl (fs := _) (hb_d.lt 0 (by decide)) (hb_d.2 0 (by decide)) 9 (by decide) q411 rfl (v := .ref (ad (d + 114))) rfl dX12_lineCharacter_6 ?_
      refine g_roi (g_runV S hI hP hS (k := 0) (As := []) (rest := [.int (v)]) (mJ4_length_8abf5 l (d + 114) (ad (d + 114 + 1)) mb1 tx.length hR1.1) q1711 q1602 q2263 q97 q1603 rfl rfl (by decide +kernel) ⟨(Nat.le_of_ble_eq_true rfl), (Nat.le_of_ble_eq_true rfl)⟩ rfl (hR1.1.lt 0 (by decide)) (hR1.1.2 0 (by decide)) rfl hl.1 rfl (Nat.le_of_ble_eq_true rfl) ⟨(Nat.le_of_ble_eq_true rfl), (Nat.le_of_ble_eq_true rfl)⟩ dX12_lineCharacter_9) hS (fun H locs hP hS => ?_)
      refine lv_icmp_lt (tgt := 26) hx hb dX12_lineCharacter_12 (by decide) (fun hc2 => ?_) (fun hc2 => ?_)
      · exact absurd (Int32.lt_of_le_of_lt hv0 hc2) Int32.lt_irrefl
      · exact g_throwW S hI hP hS hl.1 htab hlocks hlt hz (cls := "java/lang/IndexOutOfBoundsException") (text := "no such character") q521 q108 (by decide) tx_298 (by decide +kernel) dX12_lineCharacter_15 dX12_lineCharacter_18 dX12_lineCharacter_19 dX12_lineCharacter_22 dX12_lineCharacter_25 (Nat.le_of_ble_eq_true rfl) (Nat.le_of_ble_eq_true rfl) (Nat.le_of_ble_eq_true rfl) (Nat.le_of_ble_eq_true rfl) (Nat.le_of_ble_eq_true rfl) (Nat.le_of_ble_eq_true rfl) (⟨rfl, inR_big hv0, rfl⟩)
  · subst hvu
    refine g_iflt S (a := u) (by omega) (tgt := 15) dX12_lineCharacter_1 (by decide) ?_
    refine lv_iload_n hx hb dX12_lineCharacter_4 rfl (lv_at hl 1 rfl) ?_
    refine lv_aload_n hx hb dX12_lineCharacter_5 rfl (lv_at hl 0 rfl) ?_
    refine g_get S hI hP uX12 rfl (fs := _) (hb_d.lt 0 (by decide)) (hb_d.2 0 (by decide)) 9 (by decide) q411 rfl (v := .ref (ad (d + 114))) rfl dX12_lineCharacter_6 ?_
    refine g_roi (g_runV S hI hP hS (k := 0) (As := []) (rest := [.int (nI (u))]) (mJ4_length_8abf5 l (d + 114) (ad (d + 114 + 1)) mb1 tx.length hR1.1) q1711 q1602 q2263 q97 q1603 rfl rfl (by decide +kernel) ⟨(Nat.le_of_ble_eq_true rfl), (Nat.le_of_ble_eq_true rfl)⟩ rfl (hR1.1.lt 0 (by decide)) (hR1.1.2 0 (by decide)) rfl hl.1 rfl (Nat.le_of_ble_eq_true rfl) ⟨(Nat.le_of_ble_eq_true rfl), (Nat.le_of_ble_eq_true rfl)⟩ dX12_lineCharacter_9) hS (fun H locs hP hS => ?_)
    refine g_lt S (a := u) (b := tx.length) (by omega) (by omega) (tgt := 26) dX12_lineCharacter_12 (by decide) (fun hc => ?_) (fun hc => ?_)
    · refine lv_aload_n hx hb dX12_lineCharacter_26 rfl (lv_at hl 0 rfl) ?_
      refine g_get S hI hP uX12 rfl (fs := _) (hb_d.lt 0 (by decide)) (hb_d.2 0 (by decide)) 9 (by decide) q411 rfl (v := .ref (ad (d + 114))) rfl dX12_lineCharacter_27 ?_
      refine lv_iload_n hx hb dX12_lineCharacter_30 rfl (lv_at hl 1 rfl) ?_
      refine g_roi (g_runV S hI hP hS (k := 1) (As := [.int (nI (u))]) (rest := []) (mJ4_charAt_5068e l kk hzv (d + 114) cp1 mb1 tx.length f1 u hR1 hu) q1720 q1721 q1722 q97 q1723 rfl rfl (by decide +kernel) ⟨(Nat.le_of_ble_eq_true rfl), (Nat.le_of_ble_eq_true rfl)⟩ rfl (hR1.1.lt 0 (by decide)) (hR1.1.2 0 (by decide)) rfl hl.1 rfl (Nat.le_of_ble_eq_true rfl) ⟨(Nat.le_of_ble_eq_true rfl), (Nat.le_of_ble_eq_true rfl)⟩ dX12_lineCharacter_31) hS (fun H locs hP hS => ?_)
      have hfu := hR1.2.2.2.2.2 u (Nat.lt_of_lt_of_le hu hR1.2.2.2.2.1)
      exact vx_ret (g_cret S hr hlocks (⟨f1 u, by omega, rfl⟩) hP hS (⟨u, inR_nI hu (by omega), by have h9 := lnT_get (f := f1) (n := tx.length) hu; rw [hf1] at h9; rw [h9], rfl⟩) (fun _ _ => rfl) (Nat.le_of_ble_eq_true rfl) (Nat.le_of_ble_eq_true rfl) dX12_lineCharacter_34)
    · omega
