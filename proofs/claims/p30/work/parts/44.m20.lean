set_option maxHeartbeats 2500000 in
set_option maxRecDepth 100000 in
theorem k_X7_isWithin (l : Launch) (D : va_G) (cs : Nat → ClassId) (v lo hi : Int32) : Met l yX7_isWithin wsX7_isWithin ({ frames := 0, cells := 0, slots := 0, locals := 0 } : Room) (PcK D cs [.int (v), .int (lo), .int (hi)] (fun H => True)) (QcP (some (.int (bI (wiB v lo hi))))) 0 0 nowhere := by
  refine kx_met (cc := cX7_isWithin) (maxL := 3) (ret := (some .boolean)) (by decide) rfl (Nat.le_of_ble_eq_true rfl) ?_
  intro p en s m args below meth c hx hb hml hrt hts hown hlk hK hN hP ls hl
  have hl : lv_has ls 3 [(0, .int (v)), (1, .int (lo)), (2, .int (hi))] := hl
  refine lv_iload_n hx hb dX7_isWithin_0 rfl (lv_at hl 0 rfl) ?_
  refine lv_iload_n hx hb dX7_isWithin_1 rfl (lv_at hl 1 rfl) ?_
  refine lv_icmp_lt (tgt := 14) hx hb dX7_isWithin_2 (by decide) (fun c_1 => ?_) (fun c_1 => ?_)
  · refine lv_iconst (v := nI 0) hx hb dX7_isWithin_14 (by decide) ?_
    exact kx_zretP hx hb hrt hlk (by first | rw [wi_lo (by assumption)]; rfl | rw [wi_hi (by assumption)]; rfl | rw [wi_in (by assumption) (by assumption)]; rfl) dX7_isWithin_15
  · refine lv_iload_n hx hb dX7_isWithin_5 rfl (lv_at hl 0 rfl) ?_
    refine lv_iload_n hx hb dX7_isWithin_6 rfl (lv_at hl 2 rfl) ?_
    refine lv_icmp_gt (tgt := 14) hx hb dX7_isWithin_7 (by decide) (fun c_2 => ?_) (fun c_2 => ?_)
    · refine lv_iconst (v := nI 0) hx hb dX7_isWithin_14 (by decide) ?_
      exact kx_zretP hx hb hrt hlk (by first | rw [wi_lo (by assumption)]; rfl | rw [wi_hi (by assumption)]; rfl | rw [wi_in (by assumption) (by assumption)]; rfl) dX7_isWithin_15
    · refine lv_iconst (v := nI 1) hx hb dX7_isWithin_10 (by decide) ?_
      refine lv_goto (tgt := 15) hx hb dX7_isWithin_11 (by decide) ?_
      exact kx_zretP hx hb hrt hlk (by first | rw [wi_lo (by assumption)]; rfl | rw [wi_hi (by assumption)]; rfl | rw [wi_in (by assumption) (by assumption)]; rfl) dX7_isWithin_15
set_option maxHeartbeats 2500000 in
set_option maxRecDepth 100000 in
theorem k_X7_isCell (l : Launch) (D : va_G) (cs : Nat → ClassId) (x : Int32) : Met l yX7_isCell wsX7_isCell ({ frames := 1, cells := 0, slots := 0, locals := 22 } : Room) (PcK D cs [.int (x)] (fun H => True)) (QcP (some (.int (bI (wiB x (nI 0) (nI 47)))))) 0 0 nowhere := by
  refine kx_met (cc := cX7_isCell) (maxL := 1) (ret := (some .boolean)) (by decide) rfl (Nat.le_of_ble_eq_true rfl) ?_
  intro p en s m args below meth c hx hb hml hrt hts hown hlk hK hN hP ls hl
  have hl : lv_has ls 1 [(0, .int (x))] := hl
  refine lv_iload_n hx hb dX7_isCell_0 rfl (lv_at hl 0 rfl) ?_
  refine lv_iconst (v := nI 0) hx hb dX7_isCell_1 (by decide) ?_
  refine lv_bipush (v := nI 47) hx hb dX7_isCell_2 (by decide) ?_
  refine kx_retP (va_runS (As := [.int (x), .int (nI (0)), .int (nI (47))]) (rest := []) ⟨hx, hb, hml, hown, hts⟩ (k_X7_isWithin l D cs x (nI (0)) (nI (47))) (cwS 3 hts gX7_isCell_X7_isWithin rfl rfl rfl (by decide +kernel) ⟨Nat.le_of_ble_eq_true rfl, Nat.le_of_ble_eq_true rfl⟩) (kx_preS hK hN trivial) rfl rfl hl.1 rfl (lv_room (Nat.le_of_ble_eq_true rfl)) dX7_isCell_4 ⟨Nat.le_of_ble_eq_true rfl, Nat.le_of_ble_eq_true rfl⟩) ?_
  exact kx_zretP hx hb hrt hlk (by first | rfl | simp [*]) dX7_isCell_7
set_option maxHeartbeats 2500000 in
set_option maxRecDepth 100000 in
theorem k_X4_cellAt (l : Launch) (D : va_G) (cs : Nat → ClassId) (q : Nat) (e : Nat → Int32) (g : Nat → Int64) (r k : Nat) (hI : Inv e) (hr : r < Rn e) (hk : k < 1000) : Met l yX4_cellAt wsX4_cellAt ({ frames := 0, cells := 0, slots := 0, locals := 0 } : Room) (PcK D cs [.ref (q + 5 + r), .int (nI (k))] (fun H => StC D cs q e g H)) (QcP (some (.int (nI (rF e r + k % rL e r))))) 0 0 nowhere := by
  refine kx_met (cc := cX4_cellAt) (maxL := 2) (ret := (some .int)) (by decide) rfl (Nat.le_of_ble_eq_true rfl) ?_
  intro p en s m args below meth c hx hb hml hrt hts hown hlk hK hN hP ls hl
  have hl : lv_has ls 2 [(0, .ref (q + 5 + r)), (1, .int (nI (k)))] := hl
  have hinX4 : ∀ w ∈ wsX40, w ∈ wsX4_cellAt := by decide +kernel
  have hM := hP
  have h24 := hI.M24
  have h6 := hI.R6
  have hl2 := hI.l2 hr
  have hl16 := hI.l16 hr
  refine lv_aload_n hx hb dX4_cellAt_0 rfl (lv_at hl 0 rfl) ?_
  refine kx_get (v := .int (e (56 + 4 * r + 1))) hx hb hts hinX4 hown hK (hM.rg (r := r) (by omega)) rfl 1 (by decide) (by decide +kernel) rfl dX4_cellAt_1 ?_
  refine kx_ci (x := e (56 + 4 * r + 1)) (y := nI (rL e r)) (Inv.r1 hI (by first | assumption | omega)) ?_
  refine lv_iconst (v := nI 2) hx hb dX4_cellAt_4 (by decide) ?_
  refine kn_icmp_ge (tgt := 13) hx hb dX4_cellAt_5 (by decide) (by omega) (by decide) (fun c9 => ?_) (fun c9 => ?_)
  · refine lv_aload_n hx hb dX4_cellAt_13 rfl (lv_at hl 0 rfl) ?_
    refine kx_get (v := .int (e (56 + 4 * r + 0))) hx hb hts hinX4 hown hK (hM.rg (r := r) (by omega)) rfl 0 (by decide) (by decide +kernel) rfl dX4_cellAt_14 ?_
    refine kx_ci (x := e (56 + 4 * r + 0)) (y := nI (rF e r)) (Inv.r0 hI (by first | assumption | omega)) ?_
    refine lv_iload_n hx hb dX4_cellAt_17 rfl (lv_at hl 1 rfl) ?_
    refine lv_aload_n hx hb dX4_cellAt_18 rfl (lv_at hl 0 rfl) ?_
    refine kx_get (v := .int (e (56 + 4 * r + 1))) hx hb hts hinX4 hown hK (hM.rg (r := r) (by omega)) rfl 1 (by decide) (by decide +kernel) rfl dX4_cellAt_19 ?_
    refine kx_ci (x := e (56 + 4 * r + 1)) (y := nI (rL e r)) (Inv.r1 hI (by first | assumption | omega)) ?_
    refine kn_rem hx hb (by omega) (by omega) (by omega) dX4_cellAt_22 ?_
    refine kn_add hx hb dX4_cellAt_23 ?_
    exact kx_iretP hx hb hrt hlk (by first | rfl | simp [*]) dX4_cellAt_24
  · exact absurd hl2 c9
set_option maxHeartbeats 2500000 in
set_option maxRecDepth 100000 in
theorem k_X4_cellsFrom (l : Launch) (D : va_G) (cs : Nat → ClassId) (q : Nat) (e : Nat → Int32) (g : Nat → Int64) (r pl n0 : Nat) (hI : Inv e) (hr : r < Rn e) (hpl : pl < 500) (hn : n0 < 100) : Met l yX4_cellsFrom wsX4_cellsFrom ({ frames := 1, cells := 0, slots := 0, locals := 21 } : Room) (PcK D cs [.ref (q + 5 + r), .int (nI (pl)), .int (nI (n0))] (fun H => StC D cs q e g H)) (QcP (some (.long (lN (cfN e r pl n0))))) 0 0 nowhere := by
  refine kx_met (cc := cX4_cellsFrom) (maxL := 6) (ret := (some .long)) (by decide) rfl (Nat.le_of_ble_eq_true rfl) ?_
  intro p en s m args below meth c hx hb hml hrt hts hown hlk hK hN hP ls hl
  have hl : lv_has ls 6 [(0, .ref (q + 5 + r)), (1, .int (nI (pl))), (2, .int (nI (n0)))] := hl
  have hM := hP
  have h24 := hI.M24
  have h6 := hI.R6
  refine lv_lconst (v := lN 0) hx hb dX4_cellsFrom_0 rfl ?_
  refine lv_lstore_n (lv' := [(3, .long (lN (0))), (0, .ref (q + 5 + r)), (1, .int (nI (pl))), (2, .int (nI (n0)))]) hx hb dX4_cellsFrom_1 rfl hl (by decide) rfl (fun ls hl => ?_)
  refine lv_iconst (v := nI 0) hx hb dX4_cellsFrom_2 (by decide) ?_
  refine lv_istore (lv' := [(5, .int (nI (0))), (3, .long (lN (0))), (0, .ref (q + 5 + r)), (1, .int (nI (pl))), (2, .int (nI (n0)))]) hx hb dX4_cellsFrom_3 hl (by decide) rfl (fun ls hl => ?_)
  have J5 : ∀ (fu5 : Nat) (k : Nat) (ls : Array Slot), (n0 - k) < fu5 → (k ≤ n0) → lv_has ls 6 [(0, .ref (q + 5 + r)), (1, .int (nI (pl))), (2, .int (nI (n0))), (3, .long (lN (cfN e r pl k))), (5, .int (nI (k)))] → W p l en ({ frames := 1, cells := 0, slots := 0, locals := 21 } : Room) s m args below meth c s.heap [] 0 0 (MQ below (QcP (some (.long (lN (cfN e r pl n0))))) args s 0 0 nowhere) (F0 m 5 ls []) := by
    intro fu5; induction fu5 with
    | zero => intro k ls hmu5 hk hl; exact absurd hmu5 (Nat.not_lt_zero _)
    | succ fu5 ih5 =>
      intro k ls hmu5 hk hl
      refine lv_iload hx hb dX4_cellsFrom_5 (lv_at hl 4 rfl) ?_
      refine lv_iload_n hx hb dX4_cellsFrom_7 rfl (lv_at hl 2 rfl) ?_
      refine kn_icmp_ge (tgt := 30) hx hb dX4_cellsFrom_8 (by decide) (by omega) (by omega) (fun c_1 => ?_) (fun c_1 => ?_)
      · refine lv_lload_n hx hb dX4_cellsFrom_30 rfl (lv_at hl 3 rfl) ?_
        exact kx_lretP hx hb hrt hlk (by rw [show k = n0 by omega]) dX4_cellsFrom_31
      · refine lv_lload_n hx hb dX4_cellsFrom_11 rfl (lv_at hl 3 rfl) ?_
        refine lv_lconst (v := lN 1) hx hb dX4_cellsFrom_12 rfl ?_
        refine lv_aload_n hx hb dX4_cellsFrom_13 rfl (lv_at hl 0 rfl) ?_
        refine lv_iload_n hx hb dX4_cellsFrom_14 rfl (lv_at hl 1 rfl) ?_
        refine lv_iload hx hb dX4_cellsFrom_15 (lv_at hl 4 rfl) ?_
        refine kn_add hx hb dX4_cellsFrom_17 ?_
        refine kx_retP (va_runV (As := [.int (nI (pl + k))]) (rest := [.long (lN (1)), .long (lN (cfN e r pl k))]) ⟨hx, hb, hml, hown, hts⟩ (k_X4_cellAt l D cs q e g r (pl + k) hI (by first | assumption | omega) (by first | assumption | omega)) (cwV 1 hts gX4_cellsFrom_X4_cellAt rfl rfl rfl (by decide +kernel) ⟨Nat.le_of_ble_eq_true rfl, Nat.le_of_ble_eq_true rfl⟩) (kx_preV hK hN (hM.rg (r := r) (by omega)) rfl hM) rfl rfl hl.1 rfl (lv_room (Nat.le_of_ble_eq_true rfl)) dX4_cellsFrom_18 ⟨Nat.le_of_ble_eq_true rfl, Nat.le_of_ble_eq_true rfl⟩) ?_
        have h48 := rg48 hI hr (pl + k)
        refine kl_bit hx hb (by omega) dX4_cellsFrom_21 ?_
        refine kl_or hx hb dX4_cellsFrom_22 ?_
        refine kx_cl (x := lN ((cfN e r pl k) ||| (2 ^ (rF e r + (pl + k) % rL e r)))) (y := lN (cfN e r pl (k + 1))) rfl ?_
        refine lv_lstore_n (lv' := [(3, .long (lN (cfN e r pl (k + 1)))), (0, .ref (q + 5 + r)), (1, .int (nI (pl))), (2, .int (nI (n0))), (5, .int (nI (k)))]) hx hb dX4_cellsFrom_23 rfl hl (by decide) rfl (fun ls hl => ?_)
        refine lv_iinc (v := nI (k + 1)) (lv' := [(5, .int (nI (k + 1))), (3, .long (lN (cfN e r pl (k + 1)))), (0, .ref (q + 5 + r)), (1, .int (nI (pl))), (2, .int (nI (n0)))]) (k := 4) hx hb dX4_cellsFrom_24 hl rfl (nI_add _ _) (by decide) rfl (fun ls hl => ?_)
        refine lv_goto (tgt := 5) hx hb dX4_cellsFrom_27 (by decide) ?_
        exact ih5 (k + 1) _ (by omega) (by omega) (lv_sub hl [2, 3, 4, 1, 0] rfl)
  exact J5 _ 0 _ (Nat.lt_succ_self _) (by omega) (lv_sub hl [2, 3, 4, 1, 0] rfl)
set_option maxHeartbeats 2500000 in
set_option maxRecDepth 100000 in
theorem k_X3_holds (l : Launch) (D : va_G) (cs : Nat → ClassId) (q : Nat) (e : Nat → Int32) (g : Nat → Int64) (mv : Nat) (hI : Inv e) (hm : mv < Mn e) : Met l yX3_holds wsX3_holds ({ frames := 0, cells := 0, slots := 0, locals := 0 } : Room) (PcK D cs [.ref (q + 11 + 2 * mv)] (fun H => StC D cs q e g H)) (QcP (some (.int (bI (hpB e mv))))) 0 0 nowhere := by
  refine kx_met (cc := cX3_holds) (maxL := 1) (ret := (some .boolean)) (by decide) rfl (Nat.le_of_ble_eq_true rfl) ?_
  intro p en s m args below meth c hx hb hml hrt hts hown hlk hK hN hP ls hl
  have hl : lv_has ls 1 [(0, .ref (q + 11 + 2 * mv))] := hl
  have hinX3 : ∀ w ∈ wsX30, w ∈ wsX3_holds := by decide +kernel
  have hM := hP
  have h24 := hI.M24
  have h6 := hI.R6
  have hs3 := hI.s3 hm
  have hc16 := hI.c16 hm
  have hwc := hI.wc hm
  refine lv_aload_n hx hb dX3_holds_0 rfl (lv_at hl 0 rfl) ?_
  refine kx_get (v := .int (e (80 + 10 * mv + 5))) hx hb hts hinX3 hown hK (hM.mv (m := mv) (by omega)) rfl 7 (by decide) (by decide +kernel) rfl dX3_holds_1 ?_
  refine kx_ci (x := e (80 + 10 * mv + 5)) (y := nI (mS e mv)) (Inv.m5 hI (by first | assumption | omega)) ?_
  refine lv_iconst (v := nI 1) hx hb dX3_holds_4 (by decide) ?_
  refine kn_icmp_eq (tgt := 16) hx hb dX3_holds_5 (by decide) (by omega) (by decide) (fun c_1 => ?_) (fun c_1 => ?_)
  · refine lv_iconst (v := nI 1) hx hb dX3_holds_16 (by decide) ?_
    refine lv_goto (tgt := 21) hx hb dX3_holds_17 (by decide) ?_
    exact kx_zretP hx hb hrt hlk (by first | (simp [hpB, bI_t, bI_f, *]; done) | (exfalso; omega) | (exfalso; simp_all; done)) dX3_holds_21
  · refine lv_aload_n hx hb dX3_holds_8 rfl (lv_at hl 0 rfl) ?_
    refine kx_get (v := .int (e (80 + 10 * mv + 5))) hx hb hts hinX3 hown hK (hM.mv (m := mv) (by omega)) rfl 7 (by decide) (by decide +kernel) rfl dX3_holds_9 ?_
    refine kx_ci (x := e (80 + 10 * mv + 5)) (y := nI (mS e mv)) (Inv.m5 hI (by first | assumption | omega)) ?_
    refine lv_iconst (v := nI 2) hx hb dX3_holds_12 (by decide) ?_
    refine kn_icmp_ne (tgt := 20) hx hb dX3_holds_13 (by decide) (by omega) (by decide) (fun c_2 => ?_) (fun c_2 => ?_)
    · refine lv_iconst (v := nI 0) hx hb dX3_holds_20 (by decide) ?_
      exact kx_zretP hx hb hrt hlk (by first | (simp [hpB, bI_t, bI_f, *]; done) | (exfalso; omega) | (exfalso; simp_all; done)) dX3_holds_21
    · refine lv_iconst (v := nI 1) hx hb dX3_holds_16 (by decide) ?_
      refine lv_goto (tgt := 21) hx hb dX3_holds_17 (by decide) ?_
      exact kx_zretP hx hb hrt hlk (by first | (simp [hpB, bI_t, bI_f, *]; done) | (exfalso; omega) | (exfalso; simp_all; done)) dX3_holds_21
set_option maxHeartbeats 2500000 in
set_option maxRecDepth 100000 in
theorem k_X3_part (l : Launch) (D : va_G) (cs : Nat → ClassId) (q : Nat) (e : Nat → Int32) (g : Nat → Int64) (mv w : Nat) (hm24 : mv < 24) (hw : w < 10) : Met l yX3_part wsX3_part ({ frames := 0, cells := 0, slots := 0, locals := 0 } : Room) (PcK D cs [.ref (q + 11 + 2 * mv), .int (nI (w))] (fun H => StC D cs q e g H)) (QcP (some (.int (e (80 + 10 * mv + w))))) 0 0 nowhere := by
  refine kx_met (cc := cX3_part) (maxL := 2) (ret := (some .int)) (by decide) rfl (Nat.le_of_ble_eq_true rfl) ?_
  intro p en s m args below meth c hx hb hml hrt hts hown hlk hK hN hP ls hl
  have hl : lv_has ls 2 [(0, .ref (q + 11 + 2 * mv)), (1, .int (nI (w)))] := hl
  have hinX3 : ∀ w ∈ wsX30, w ∈ wsX3_part := by decide +kernel
  have hM := hP
  refine lv_iload_n hx hb dX3_part_0 rfl (lv_at hl 1 rfl) ?_
  rcases (show w = 0 ∨ w = 1 ∨ w = 2 ∨ w = 3 ∨ w = 4 ∨ w = 5 ∨ w = 6 ∨ w = 7 ∨ w = 8 ∨ w = 9 by omega) with rfl | rfl | rfl | rfl | rfl | rfl | rfl | rfl | rfl | rfl
  · refine lv_tableIn (off := 51) (tgt := 52) hx hb dX3_part_1 (by decide) (by decide) (by rfl) (by decide) ?_
    refine lv_aload_n hx hb dX3_part_52 rfl (lv_at hl 0 rfl) ?_
    refine kx_get (v := .int (e (80 + 10 * mv + 0))) hx hb hts hinX3 hown hK (hM.mv (m := mv) (by omega)) rfl 0 (by decide) (by decide +kernel) rfl dX3_part_53 ?_
    exact kx_iretP hx hb hrt hlk rfl dX3_part_56
  · refine lv_tableIn (off := 56) (tgt := 57) hx hb dX3_part_1 (by decide) (by decide) (by rfl) (by decide) ?_
    refine lv_aload_n hx hb dX3_part_57 rfl (lv_at hl 0 rfl) ?_
    refine kx_get (v := .int (e (80 + 10 * mv + 1))) hx hb hts hinX3 hown hK (hM.mv (m := mv) (by omega)) rfl 1 (by decide) (by decide +kernel) rfl dX3_part_58 ?_
    exact kx_iretP hx hb hrt hlk rfl dX3_part_61
  · refine lv_tableIn (off := 61) (tgt := 62) hx hb dX3_part_1 (by decide) (by decide) (by rfl) (by decide) ?_
    refine lv_aload_n hx hb dX3_part_62 rfl (lv_at hl 0 rfl) ?_
    refine kx_get (v := .int (e (80 + 10 * mv + 2))) hx hb hts hinX3 hown hK (hM.mv (m := mv) (by omega)) rfl 2 (by decide) (by decide +kernel) rfl dX3_part_63 ?_
    exact kx_iretP hx hb hrt hlk rfl dX3_part_66
  · refine lv_tableIn (off := 66) (tgt := 67) hx hb dX3_part_1 (by decide) (by decide) (by rfl) (by decide) ?_
    refine lv_aload_n hx hb dX3_part_67 rfl (lv_at hl 0 rfl) ?_
    refine kx_get (v := .int (e (80 + 10 * mv + 3))) hx hb hts hinX3 hown hK (hM.mv (m := mv) (by omega)) rfl 3 (by decide) (by decide +kernel) rfl dX3_part_68 ?_
    exact kx_iretP hx hb hrt hlk rfl dX3_part_71
  · refine lv_tableIn (off := 71) (tgt := 72) hx hb dX3_part_1 (by decide) (by decide) (by rfl) (by decide) ?_
    refine lv_aload_n hx hb dX3_part_72 rfl (lv_at hl 0 rfl) ?_
    refine kx_get (v := .int (e (80 + 10 * mv + 4))) hx hb hts hinX3 hown hK (hM.mv (m := mv) (by omega)) rfl 4 (by decide) (by decide +kernel) rfl dX3_part_73 ?_
    exact kx_iretP hx hb hrt hlk rfl dX3_part_76
  · refine lv_tableIn (off := 76) (tgt := 77) hx hb dX3_part_1 (by decide) (by decide) (by rfl) (by decide) ?_
    refine lv_aload_n hx hb dX3_part_77 rfl (lv_at hl 0 rfl) ?_
    refine kx_get (v := .int (e (80 + 10 * mv + 5))) hx hb hts hinX3 hown hK (hM.mv (m := mv) (by omega)) rfl 7 (by decide) (by decide +kernel) rfl dX3_part_78 ?_
    exact kx_iretP hx hb hrt hlk rfl dX3_part_81
  · refine lv_tableIn (off := 81) (tgt := 82) hx hb dX3_part_1 (by decide) (by decide) (by rfl) (by decide) ?_
    refine lv_aload_n hx hb dX3_part_82 rfl (lv_at hl 0 rfl) ?_
    refine kx_get (v := .int (e (80 + 10 * mv + 6))) hx hb hts hinX3 hown hK (hM.mv (m := mv) (by omega)) rfl 8 (by decide) (by decide +kernel) rfl dX3_part_83 ?_
    exact kx_iretP hx hb hrt hlk rfl dX3_part_86
  · refine lv_tableIn (off := 86) (tgt := 87) hx hb dX3_part_1 (by decide) (by decide) (by rfl) (by decide) ?_
    refine lv_aload_n hx hb dX3_part_87 rfl (lv_at hl 0 rfl) ?_
    refine kx_get (v := .int (e (80 + 10 * mv + 7))) hx hb hts hinX3 hown hK (hM.mv (m := mv) (by omega)) rfl 9 (by decide) (by decide +kernel) rfl dX3_part_88 ?_
    exact kx_iretP hx hb hrt hlk rfl dX3_part_91
  · refine lv_tableIn (off := 91) (tgt := 92) hx hb dX3_part_1 (by decide) (by decide) (by rfl) (by decide) ?_
    refine lv_aload_n hx hb dX3_part_92 rfl (lv_at hl 0 rfl) ?_
    refine kx_get (v := .int (e (80 + 10 * mv + 8))) hx hb hts hinX3 hown hK (hM.mv (m := mv) (by omega)) rfl 10 (by decide) (by decide +kernel) rfl dX3_part_93 ?_
    exact kx_iretP hx hb hrt hlk rfl dX3_part_96
  · refine lv_tableOut (tgt := 97) hx hb dX3_part_1 (by decide) (by decide) ?_
    refine lv_aload_n hx hb dX3_part_97 rfl (lv_at hl 0 rfl) ?_
    refine kx_get (v := .int (e (80 + 10 * mv + 9))) hx hb hts hinX3 hown hK (hM.mv (m := mv) (by omega)) rfl 11 (by decide) (by decide +kernel) rfl dX3_part_98 ?_
    exact kx_iretP hx hb hrt hlk rfl dX3_part_101
set_option maxHeartbeats 2500000 in
set_option maxRecDepth 100000 in
theorem k_X3_countHostages (l : Launch) (D : va_G) (cs : Nat → ClassId) (q : Nat) (e : Nat → Int32) (g : Nat → Int64) (mv : Nat) (hI : Inv e) (hm : mv < Mn e) : Met l yX3_countHostages wsX3_countHostages ({ frames := 0, cells := 0, slots := 0, locals := 0 } : Room) (PcK D cs [.ref (q + 11 + 2 * mv)] (fun H => StC D cs q e g H)) (QcP (some (.int (nI (hgN e mv))))) 0 0 nowhere := by
  refine kx_met (cc := cX3_countHostages) (maxL := 1) (ret := (some .int)) (by decide) rfl (Nat.le_of_ble_eq_true rfl) ?_
  intro p en s m args below meth c hx hb hml hrt hts hown hlk hK hN hP ls hl
  have hl : lv_has ls 1 [(0, .ref (q + 11 + 2 * mv))] := hl
  have hinX3 : ∀ w ∈ wsX30, w ∈ wsX3_countHostages := by decide +kernel
  have hM := hP
  have h24 := hI.M24
  have h6 := hI.R6
  have hs3 := hI.s3 hm
  have hc16 := hI.c16 hm
  have hwc := hI.wc hm
  refine lv_aload_n hx hb dX3_countHostages_0 rfl (lv_at hl 0 rfl) ?_
  refine kx_get (v := .int (e (80 + 10 * mv + 5))) hx hb hts hinX3 hown hK (hM.mv (m := mv) (by omega)) rfl 7 (by decide) (by decide +kernel) rfl dX3_countHostages_1 ?_
  refine kx_ci (x := e (80 + 10 * mv + 5)) (y := nI (mS e mv)) (Inv.m5 hI (by first | assumption | omega)) ?_
  refine lv_iconst (v := nI 1) hx hb dX3_countHostages_4 (by decide) ?_
  refine kn_icmp_ne (tgt := 20) hx hb dX3_countHostages_5 (by decide) (by omega) (by decide) (fun c_1 => ?_) (fun c_1 => ?_)
  · refine lv_iconst (v := nI 0) hx hb dX3_countHostages_20 (by decide) ?_
    exact kx_iretP hx hb hrt hlk (congrArg nI (by first | (simp [hgN, *]; done) | (exfalso; omega) | (exfalso; simp_all; done))) dX3_countHostages_21
  · refine lv_aload_n hx hb dX3_countHostages_8 rfl (lv_at hl 0 rfl) ?_
    refine kx_get (v := .int (e (80 + 10 * mv + 4))) hx hb hts hinX3 hown hK (hM.mv (m := mv) (by omega)) rfl 4 (by decide) (by decide +kernel) rfl dX3_countHostages_9 ?_
    refine kx_ci (x := e (80 + 10 * mv + 4)) (y := nI (mC e mv)) (Inv.m4 hI (by first | assumption | omega)) ?_
    refine lv_aload_n hx hb dX3_countHostages_12 rfl (lv_at hl 0 rfl) ?_
    refine kx_get (v := .int (e (80 + 10 * mv + 6))) hx hb hts hinX3 hown hK (hM.mv (m := mv) (by omega)) rfl 8 (by decide) (by decide +kernel) rfl dX3_countHostages_13 ?_
    refine kx_ci (x := e (80 + 10 * mv + 6)) (y := nI (mW e mv)) (Inv.m6 hI (by first | assumption | omega)) ?_
    refine kn_sub hx hb (by omega) dX3_countHostages_16 ?_
    refine lv_goto (tgt := 21) hx hb dX3_countHostages_17 (by decide) ?_
    exact kx_iretP hx hb hrt hlk (congrArg nI (by first | (simp [hgN, *]; done) | (exfalso; omega) | (exfalso; simp_all; done))) dX3_countHostages_21
set_option maxHeartbeats 2500000 in
set_option maxRecDepth 100000 in
theorem k_X3_hostageAt (l : Launch) (D : va_G) (cs : Nat → ClassId) (q : Nat) (e : Nat → Int32) (g : Nat → Int64) (mv : Nat) (x : Int32) (hI : Inv e) (hm : mv < Mn e) : Met l yX3_hostageAt wsX3_hostageAt ({ frames := 1, cells := 0, slots := 0, locals := 20 } : Room) (PcK D cs [.ref (q + 11 + 2 * mv), .int (x)] (fun H => StC D cs q e g H)) (QcP (some (.int (hxI e mv x)))) 0 0 nowhere := by
  refine kx_met (cc := cX3_hostageAt) (maxL := 2) (ret := (some .int)) (by decide) rfl (Nat.le_of_ble_eq_true rfl) ?_
  intro p en s m args below meth c hx hb hml hrt hts hown hlk hK hN hP ls hl
  have hl : lv_has ls 2 [(0, .ref (q + 11 + 2 * mv)), (1, .int (x))] := hl
  have hinX3 : ∀ w ∈ wsX30, w ∈ wsX3_hostageAt := by decide +kernel
  have hM := hP
  have h24 := hI.M24
  have h6 := hI.R6
  have hs3 := hI.s3 hm
  have hc16 := hI.c16 hm
  have hwc := hI.wc hm
  have hgl := hgN_le e mv
  refine lv_iload_n hx hb dX3_hostageAt_0 rfl (lv_at hl 1 rfl) ?_
  refine lv_if_lt (tgt := 12) hx hb dX3_hostageAt_1 (by decide) (fun hx0 => ?_) (fun hx0 => ?_)
  · refine lv_sipush (v := -1000) hx hb dX3_hostageAt_12 (by decide) ?_
    exact kx_iretP hx hb hrt hlk (by unfold hxI; first | rw [if_pos hx0] | (rw [if_neg hx0, nn_nI hk]; unfold hsI; rw [if_neg (by omega)])) dX3_hostageAt_15
  · obtain ⟨k, hk, rfl⟩ := nI_of hx0
    refine lv_iload_n hx hb dX3_hostageAt_4 rfl (lv_at hl 1 rfl) ?_
    refine lv_aload_n hx hb dX3_hostageAt_5 rfl (lv_at hl 0 rfl) ?_
    refine kx_retP (va_runV (As := []) (rest := [.int (nI (k))]) ⟨hx, hb, hml, hown, hts⟩ (k_X3_countHostages l D cs q e g mv hI (by first | assumption | omega)) (cwV 0 hts gX3_hostageAt_X3_countHostages rfl rfl rfl (by decide +kernel) ⟨Nat.le_of_ble_eq_true rfl, Nat.le_of_ble_eq_true rfl⟩) (kx_preV hK hN (hM.mv (m := mv) (by omega)) rfl hM) rfl rfl hl.1 rfl (lv_room (Nat.le_of_ble_eq_true rfl)) dX3_hostageAt_6 ⟨Nat.le_of_ble_eq_true rfl, Nat.le_of_ble_eq_true rfl⟩) ?_
    refine kn_icmp_lt (tgt := 16) hx hb dX3_hostageAt_9 (by decide) (by omega) (by omega) (fun c_1 => ?_) (fun c_1 => ?_)
    · refine lv_aload_n hx hb dX3_hostageAt_16 rfl (lv_at hl 0 rfl) ?_
      refine kx_get (v := .ref (q + 12 + 2 * mv)) hx hb hts hinX3 hown hK (hM.mv (m := mv) (by omega)) rfl 12 (by decide) (by decide +kernel) rfl dX3_hostageAt_17 ?_
      refine lv_aload_n hx hb dX3_hostageAt_20 rfl (lv_at hl 0 rfl) ?_
      refine kx_get (v := .int (e (80 + 10 * mv + 6))) hx hb hts hinX3 hown hK (hM.mv (m := mv) (by omega)) rfl 8 (by decide) (by decide +kernel) rfl dX3_hostageAt_21 ?_
      refine kx_ci (x := e (80 + 10 * mv + 6)) (y := nI (mW e mv)) (Inv.m6 hI (by first | assumption | omega)) ?_
      refine lv_iload_n hx hb dX3_hostageAt_24 rfl (lv_at hl 1 rfl) ?_
      refine kn_add hx hb dX3_hostageAt_25 ?_
      refine kx_iald (i := mW e mv + k) hx hb hK (hM.tk (m := mv) (by omega)) 0 rfl (by omega) (by decide) dX3_hostageAt_26 ?_
      exact kx_iretP hx hb hrt hlk (by unfold hxI; rw [if_neg hx0, nn_nI hk]; unfold hsI; rw [if_pos (by omega)]; exact congrArg e (by omega)) dX3_hostageAt_27
    · refine lv_sipush (v := -1000) hx hb dX3_hostageAt_12 (by decide) ?_
      exact kx_iretP hx hb hrt hlk (by unfold hxI; first | rw [if_pos hx0] | (rw [if_neg hx0, nn_nI hk]; unfold hsI; rw [if_neg (by omega)])) dX3_hostageAt_15
set_option maxHeartbeats 2500000 in
set_option maxRecDepth 100000 in
theorem k_X3_waitsBehind (l : Launch) (D : va_G) (cs : Nat → ClassId) (q : Nat) (e : Nat → Int32) (g : Nat → Int64) (lt er : Nat) (hI : Inv e) (hG : Msk e g) (hm : lt < Mn e) (hm2 : er < Mn e) : Met l yX3_waitsBehind wsX3_waitsBehind ({ frames := 0, cells := 0, slots := 0, locals := 0 } : Room) (PcK D cs [.ref (q + 11 + 2 * lt), .ref (q + 11 + 2 * er)] (fun H => StC D cs q e g H)) (QcP (some (.int (bI (wmB e lt er))))) 0 0 nowhere := by
  refine kx_met (cc := cX3_waitsBehind) (maxL := 2) (ret := (some .boolean)) (by decide) rfl (Nat.le_of_ble_eq_true rfl) ?_
  intro p en s m args below meth c hx hb hml hrt hts hown hlk hK hN hP ls hl
  have hl : lv_has ls 2 [(0, .ref (q + 11 + 2 * lt)), (1, .ref (q + 11 + 2 * er))] := hl
  have hinX3 : ∀ w ∈ wsX30, w ∈ wsX3_waitsBehind := by decide +kernel
  have hM := hP
  have h24 := hI.M24
  have h6 := hI.R6
  have hs3 := hI.s3 hm2
  have hb0 := csN_lt hI hm false
  have hb1 := csN_lt hI hm true
  have hb2 := csN_lt hI hm2 false
  have hb3 := csN_lt hI hm2 true
  refine lv_aload_n hx hb dX3_waitsBehind_0 rfl (lv_at hl 1 rfl) ?_
  refine kx_get (v := .int (e (80 + 10 * er + 5))) hx hb hts hinX3 hown hK (hM.mv (m := er) (by omega)) rfl 7 (by decide) (by decide +kernel) rfl dX3_waitsBehind_1 ?_
  refine kx_ci (x := e (80 + 10 * er + 5)) (y := nI (mS e er)) (Inv.m5 hI (by first | assumption | omega)) ?_
  refine lv_iconst (v := nI 3) hx hb dX3_waitsBehind_4 (by decide) ?_
  refine kn_icmp_eq (tgt := 24) hx hb dX3_waitsBehind_5 (by decide) (by omega) (by decide) (fun c_1 => ?_) (fun c_1 => ?_)
  · refine lv_aload_n hx hb dX3_waitsBehind_24 rfl (lv_at hl 1 rfl) ?_
    refine kx_get (v := .int (e (80 + 10 * er + 5))) hx hb hts hinX3 hown hK (hM.mv (m := er) (by omega)) rfl 7 (by decide) (by decide +kernel) rfl dX3_waitsBehind_25 ?_
    refine kx_ci (x := e (80 + 10 * er + 5)) (y := nI (mS e er)) (Inv.m5 hI (by first | assumption | omega)) ?_
    refine lv_iconst (v := nI 1) hx hb dX3_waitsBehind_28 (by decide) ?_
    refine kn_icmp_gt (tgt := 55) hx hb dX3_waitsBehind_29 (by decide) (by omega) (by decide) (fun c_2 => ?_) (fun c_2 => ?_)
    · refine lv_iconst (v := nI 0) hx hb dX3_waitsBehind_55 (by decide) ?_
      exact kx_zretP hx hb hrt hlk (by first | exact (wmB_t (Or.inl ⟨by assumption, by assumption⟩)).symm | exact (wmB_t (Or.inr ⟨by omega, by assumption⟩)).symm | exact wmB_f (by first | exact Or.inl (by assumption) | exact Or.inr (by assumption)) (by first | exact Or.inl (by omega) | exact Or.inr (by assumption))) dX3_waitsBehind_56
    · refine lv_aload_n hx hb dX3_waitsBehind_32 rfl (lv_at hl 1 rfl) ?_
      refine kx_get (v := .long (g (2 * er + 1))) hx hb hts hinX3 hown hK (hM.mv (m := er) (by omega)) rfl 6 (by decide) (by decide +kernel) rfl dX3_waitsBehind_33 ?_
      refine kx_cl (x := g (2 * er + 1)) (y := lN (csN e true er)) (hG er (by first | assumption | omega)).2 ?_
      refine lv_aload_n hx hb dX3_waitsBehind_36 rfl (lv_at hl 0 rfl) ?_
      refine kx_get (v := .long (g (2 * lt))) hx hb hts hinX3 hown hK (hM.mv (m := lt) (by omega)) rfl 5 (by decide) (by decide +kernel) rfl dX3_waitsBehind_37 ?_
      refine kx_cl (x := g (2 * lt)) (y := lN (csN e false lt)) (hG lt (by first | assumption | omega)).1 ?_
      refine lv_aload_n hx hb dX3_waitsBehind_40 rfl (lv_at hl 0 rfl) ?_
      refine kx_get (v := .long (g (2 * lt + 1))) hx hb hts hinX3 hown hK (hM.mv (m := lt) (by omega)) rfl 6 (by decide) (by decide +kernel) rfl dX3_waitsBehind_41 ?_
      refine kx_cl (x := g (2 * lt + 1)) (y := lN (csN e true lt)) (hG lt (by first | assumption | omega)).2 ?_
      refine kl_or hx hb dX3_waitsBehind_44 ?_
      refine kl_and hx hb dX3_waitsBehind_45 ?_
      refine lv_lconst (v := lN 0) hx hb dX3_waitsBehind_46 rfl ?_
      refine W.lcmp hx hb dX3_waitsBehind_47 ?_
      refine kl_eq (tgt := 55) hx hb (and_lt (Nat.lt_of_lt_of_le hb3 (by decide))) (by decide) dX3_waitsBehind_48 (by decide) (fun c_3 => ?_) (fun c_3 => ?_)
      · refine lv_iconst (v := nI 0) hx hb dX3_waitsBehind_55 (by decide) ?_
        exact kx_zretP hx hb hrt hlk (by first | exact (wmB_t (Or.inl ⟨by assumption, by assumption⟩)).symm | exact (wmB_t (Or.inr ⟨by omega, by assumption⟩)).symm | exact wmB_f (by first | exact Or.inl (by assumption) | exact Or.inr (by assumption)) (by first | exact Or.inl (by omega) | exact Or.inr (by assumption))) dX3_waitsBehind_56
      · refine lv_iconst (v := nI 1) hx hb dX3_waitsBehind_51 (by decide) ?_
        refine lv_goto (tgt := 56) hx hb dX3_waitsBehind_52 (by decide) ?_
        exact kx_zretP hx hb hrt hlk (by first | exact (wmB_t (Or.inl ⟨by assumption, by assumption⟩)).symm | exact (wmB_t (Or.inr ⟨by omega, by assumption⟩)).symm | exact wmB_f (by first | exact Or.inl (by assumption) | exact Or.inr (by assumption)) (by first | exact Or.inl (by omega) | exact Or.inr (by assumption))) dX3_waitsBehind_56
  · refine lv_aload_n hx hb dX3_waitsBehind_8 rfl (lv_at hl 1 rfl) ?_
    refine kx_get (v := .long (g (2 * er))) hx hb hts hinX3 hown hK (hM.mv (m := er) (by omega)) rfl 5 (by decide) (by decide +kernel) rfl dX3_waitsBehind_9 ?_
    refine kx_cl (x := g (2 * er)) (y := lN (csN e false er)) (hG er (by first | assumption | omega)).1 ?_
    refine lv_aload_n hx hb dX3_waitsBehind_12 rfl (lv_at hl 0 rfl) ?_
    refine kx_get (v := .long (g (2 * lt + 1))) hx hb hts hinX3 hown hK (hM.mv (m := lt) (by omega)) rfl 6 (by decide) (by decide +kernel) rfl dX3_waitsBehind_13 ?_
    refine kx_cl (x := g (2 * lt + 1)) (y := lN (csN e true lt)) (hG lt (by first | assumption | omega)).2 ?_
    refine kl_and hx hb dX3_waitsBehind_16 ?_
    refine lv_lconst (v := lN 0) hx hb dX3_waitsBehind_17 rfl ?_
    refine W.lcmp hx hb dX3_waitsBehind_18 ?_
    refine kl_eq (tgt := 24) hx hb (and_lt (Nat.lt_of_lt_of_le hb2 (by decide))) (by decide) dX3_waitsBehind_19 (by decide) (fun c_4 => ?_) (fun c_4 => ?_)
    · refine lv_aload_n hx hb dX3_waitsBehind_24 rfl (lv_at hl 1 rfl) ?_
      refine kx_get (v := .int (e (80 + 10 * er + 5))) hx hb hts hinX3 hown hK (hM.mv (m := er) (by omega)) rfl 7 (by decide) (by decide +kernel) rfl dX3_waitsBehind_25 ?_
      refine kx_ci (x := e (80 + 10 * er + 5)) (y := nI (mS e er)) (Inv.m5 hI (by first | assumption | omega)) ?_
      refine lv_iconst (v := nI 1) hx hb dX3_waitsBehind_28 (by decide) ?_
      refine kn_icmp_gt (tgt := 55) hx hb dX3_waitsBehind_29 (by decide) (by omega) (by decide) (fun c_5 => ?_) (fun c_5 => ?_)
      · refine lv_iconst (v := nI 0) hx hb dX3_waitsBehind_55 (by decide) ?_
        exact kx_zretP hx hb hrt hlk (by first | exact (wmB_t (Or.inl ⟨by assumption, by assumption⟩)).symm | exact (wmB_t (Or.inr ⟨by omega, by assumption⟩)).symm | exact wmB_f (by first | exact Or.inl (by assumption) | exact Or.inr (by assumption)) (by first | exact Or.inl (by omega) | exact Or.inr (by assumption))) dX3_waitsBehind_56
      · refine lv_aload_n hx hb dX3_waitsBehind_32 rfl (lv_at hl 1 rfl) ?_
        refine kx_get (v := .long (g (2 * er + 1))) hx hb hts hinX3 hown hK (hM.mv (m := er) (by omega)) rfl 6 (by decide) (by decide +kernel) rfl dX3_waitsBehind_33 ?_
        refine kx_cl (x := g (2 * er + 1)) (y := lN (csN e true er)) (hG er (by first | assumption | omega)).2 ?_
        refine lv_aload_n hx hb dX3_waitsBehind_36 rfl (lv_at hl 0 rfl) ?_
        refine kx_get (v := .long (g (2 * lt))) hx hb hts hinX3 hown hK (hM.mv (m := lt) (by omega)) rfl 5 (by decide) (by decide +kernel) rfl dX3_waitsBehind_37 ?_
        refine kx_cl (x := g (2 * lt)) (y := lN (csN e false lt)) (hG lt (by first | assumption | omega)).1 ?_
        refine lv_aload_n hx hb dX3_waitsBehind_40 rfl (lv_at hl 0 rfl) ?_
        refine kx_get (v := .long (g (2 * lt + 1))) hx hb hts hinX3 hown hK (hM.mv (m := lt) (by omega)) rfl 6 (by decide) (by decide +kernel) rfl dX3_waitsBehind_41 ?_
        refine kx_cl (x := g (2 * lt + 1)) (y := lN (csN e true lt)) (hG lt (by first | assumption | omega)).2 ?_
        refine kl_or hx hb dX3_waitsBehind_44 ?_
        refine kl_and hx hb dX3_waitsBehind_45 ?_
        refine lv_lconst (v := lN 0) hx hb dX3_waitsBehind_46 rfl ?_
        refine W.lcmp hx hb dX3_waitsBehind_47 ?_
        refine kl_eq (tgt := 55) hx hb (and_lt (Nat.lt_of_lt_of_le hb3 (by decide))) (by decide) dX3_waitsBehind_48 (by decide) (fun c_6 => ?_) (fun c_6 => ?_)
        · refine lv_iconst (v := nI 0) hx hb dX3_waitsBehind_55 (by decide) ?_
          exact kx_zretP hx hb hrt hlk (by first | exact (wmB_t (Or.inl ⟨by assumption, by assumption⟩)).symm | exact (wmB_t (Or.inr ⟨by omega, by assumption⟩)).symm | exact wmB_f (by first | exact Or.inl (by assumption) | exact Or.inr (by assumption)) (by first | exact Or.inl (by omega) | exact Or.inr (by assumption))) dX3_waitsBehind_56
        · refine lv_iconst (v := nI 1) hx hb dX3_waitsBehind_51 (by decide) ?_
          refine lv_goto (tgt := 56) hx hb dX3_waitsBehind_52 (by decide) ?_
          exact kx_zretP hx hb hrt hlk (by first | exact (wmB_t (Or.inl ⟨by assumption, by assumption⟩)).symm | exact (wmB_t (Or.inr ⟨by omega, by assumption⟩)).symm | exact wmB_f (by first | exact Or.inl (by assumption) | exact Or.inr (by assumption)) (by first | exact Or.inl (by omega) | exact Or.inr (by assumption))) dX3_waitsBehind_56
    · refine lv_iconst (v := nI 1) hx hb dX3_waitsBehind_22 (by decide) ?_
      exact kx_zretP hx hb hrt hlk (by first | exact (wmB_t (Or.inl ⟨by assumption, by assumption⟩)).symm | exact (wmB_t (Or.inr ⟨by omega, by assumption⟩)).symm | exact wmB_f (by first | exact Or.inl (by assumption) | exact Or.inr (by assumption)) (by first | exact Or.inl (by omega) | exact Or.inr (by assumption))) dX3_waitsBehind_23
set_option maxHeartbeats 2500000 in
set_option maxRecDepth 100000 in
theorem k_X5_hasRing (l : Launch) (D : va_G) (cs : Nat → ClassId) (q : Nat) (e : Nat → Int32) (g : Nat → Int64) (x : Int32) (hI : Inv e) : Met l yX5_hasRing wsX5_hasRing ({ frames := 0, cells := 0, slots := 0, locals := 0 } : Room) (PcK D cs [.ref (q), .int (x)] (fun H => StC D cs q e g H)) (QcP (some (.int (bI (lsB x (Rn e)))))) 0 0 nowhere := by
  refine kx_met (cc := cX5_hasRing) (maxL := 2) (ret := (some .boolean)) (by decide) rfl (Nat.le_of_ble_eq_true rfl) ?_
  intro p en s m args below meth c hx hb hml hrt hts hown hlk hK hN hP ls hl
  have hl : lv_has ls 2 [(0, .ref (q)), (1, .int (x))] := hl
  have hinX5 : ∀ w ∈ wsX50, w ∈ wsX5_hasRing := by decide +kernel
  have hM := hP
  have h24 := hI.M24
  have h6 := hI.R6
  refine lv_iload_n hx hb dX5_hasRing_0 rfl (lv_at hl 1 rfl) ?_
  refine lv_if_lt (tgt := 16) hx hb dX5_hasRing_1 (by decide) (fun ha => ?_) (fun ha => ?_)
  · refine lv_iconst (v := nI 0) hx hb dX5_hasRing_16 (by decide) ?_
    exact kx_zretP hx hb hrt hlk (by first | rw [ls_lo ha]; rfl | rw [ls_hi (by omega) hb9]; rfl | rw [ls_in (by omega) ha hb9]; rfl) dX5_hasRing_17
  · refine lv_iload_n hx hb dX5_hasRing_4 rfl (lv_at hl 1 rfl) ?_
    refine lv_aload_n hx hb dX5_hasRing_5 rfl (lv_at hl 0 rfl) ?_
    refine kx_get (v := .int (e 3)) hx hb hts hinX5 hown hK hM.obj rfl 4 (by decide) (by decide +kernel) rfl dX5_hasRing_6 ?_
    refine kx_ci (x := e 3) (y := nI (Rn e)) (Inv.z3 hI) ?_
    refine lv_icmp_ge (tgt := 16) hx hb dX5_hasRing_9 (by decide) (fun hb9 => ?_) (fun hb9 => ?_)
    · refine lv_iconst (v := nI 0) hx hb dX5_hasRing_16 (by decide) ?_
      exact kx_zretP hx hb hrt hlk (by first | rw [ls_lo ha]; rfl | rw [ls_hi (by omega) hb9]; rfl | rw [ls_in (by omega) ha hb9]; rfl) dX5_hasRing_17
    · refine lv_iconst (v := nI 1) hx hb dX5_hasRing_12 (by decide) ?_
      refine lv_goto (tgt := 17) hx hb dX5_hasRing_13 (by decide) ?_
      exact kx_zretP hx hb hrt hlk (by first | rw [ls_lo ha]; rfl | rw [ls_hi (by omega) hb9]; rfl | rw [ls_in (by omega) ha hb9]; rfl) dX5_hasRing_17
set_option maxHeartbeats 2500000 in
set_option maxRecDepth 100000 in
theorem k_X5_isCopiedTo (l : Launch) (D : va_G) (cs : Nat → ClassId) (q : Nat) (e : Nat → Int32) (g : Nat → Int64) (mv r : Nat) (hI : Inv e) (hm : mv < Mn e) (hr : r < 100) : Met l yX5_isCopiedTo wsX5_isCopiedTo ({ frames := 0, cells := 0, slots := 0, locals := 0 } : Room) (PcK D cs [.ref (q + 11 + 2 * mv), .int (nI (r))] (fun H => StC D cs q e g H)) (QcP (some (.int (bI (isC e r mv))))) 0 0 nowhere := by
  refine kx_met (cc := cX5_isCopiedTo) (maxL := 2) (ret := (some .boolean)) (by decide) rfl (Nat.le_of_ble_eq_true rfl) ?_
  intro p en s m args below meth c hx hb hml hrt hts hown hlk hK hN hP ls hl
  have hl : lv_has ls 2 [(0, .ref (q + 11 + 2 * mv)), (1, .int (nI (r)))] := hl
  have hinX3 : ∀ w ∈ wsX30, w ∈ wsX5_isCopiedTo := by decide +kernel
  have hM := hP
  have h24 := hI.M24
  have h6 := hI.R6
  have hs3 := hI.s3 hm
  have hc16 := hI.c16 hm
  have hwc := hI.wc hm
  have hmt := hI.mt hm
  refine lv_aload_n hx hb dX5_isCopiedTo_0 rfl (lv_at hl 0 rfl) ?_
  refine kx_get (v := .int (e (80 + 10 * mv + 5))) hx hb hts hinX3 hown hK (hM.mv (m := mv) (by omega)) rfl 7 (by decide) (by decide +kernel) rfl dX5_isCopiedTo_1 ?_
  refine kx_ci (x := e (80 + 10 * mv + 5)) (y := nI (mS e mv)) (Inv.m5 hI (by first | assumption | omega)) ?_
  refine lv_iconst (v := nI 2) hx hb dX5_isCopiedTo_4 (by decide) ?_
  refine kn_icmp_ne (tgt := 20) hx hb dX5_isCopiedTo_5 (by decide) (by omega) (by decide) (fun c_1 => ?_) (fun c_1 => ?_)
  · refine lv_iconst (v := nI 0) hx hb dX5_isCopiedTo_20 (by decide) ?_
    exact kx_zretP hx hb hrt hlk (by first | (simp [isC, bI_t, bI_f, *]; done) | (exfalso; omega) | (exfalso; simp_all; done)) dX5_isCopiedTo_21
  · refine lv_aload_n hx hb dX5_isCopiedTo_8 rfl (lv_at hl 0 rfl) ?_
    refine kx_get (v := .int (e (80 + 10 * mv + 2))) hx hb hts hinX3 hown hK (hM.mv (m := mv) (by omega)) rfl 2 (by decide) (by decide +kernel) rfl dX5_isCopiedTo_9 ?_
    refine kx_ci (x := e (80 + 10 * mv + 2)) (y := nI (mT e mv)) (Inv.m2 hI (by first | assumption | omega)) ?_
    refine lv_iload_n hx hb dX5_isCopiedTo_12 rfl (lv_at hl 1 rfl) ?_
    refine kn_icmp_ne (tgt := 20) hx hb dX5_isCopiedTo_13 (by decide) (by omega) (by omega) (fun c_2 => ?_) (fun c_2 => ?_)
    · refine lv_iconst (v := nI 0) hx hb dX5_isCopiedTo_20 (by decide) ?_
      exact kx_zretP hx hb hrt hlk (by first | (simp [isC, bI_t, bI_f, *]; done) | (exfalso; omega) | (exfalso; simp_all; done)) dX5_isCopiedTo_21
    · refine lv_iconst (v := nI 1) hx hb dX5_isCopiedTo_16 (by decide) ?_
      refine lv_goto (tgt := 21) hx hb dX5_isCopiedTo_17 (by decide) ?_
      exact kx_zretP hx hb hrt hlk (by first | (simp [isC, bI_t, bI_f, *]; done) | (exfalso; omega) | (exfalso; simp_all; done)) dX5_isCopiedTo_21
set_option maxHeartbeats 2500000 in
set_option maxRecDepth 100000 in
theorem k_X5_countIn (l : Launch) (D : va_G) (cs : Nat → ClassId) (q : Nat) (e : Nat → Int32) (g : Nat → Int64) (w : Nat) (hI : Inv e) (hw : w < 4) : Met l yX5_countIn wsX5_countIn ({ frames := 0, cells := 0, slots := 0, locals := 0 } : Room) (PcK D cs [.ref (q), .int (nI (w))] (fun H => StC D cs q e g H)) (QcP (some (.int (nI (msN e w))))) 0 0 nowhere := by
  refine kx_met (cc := cX5_countIn) (maxL := 4) (ret := (some .int)) (by decide) rfl (Nat.le_of_ble_eq_true rfl) ?_
  intro p en s m args below meth c hx hb hml hrt hts hown hlk hK hN hP ls hl
  have hl : lv_has ls 4 [(0, .ref (q)), (1, .int (nI (w)))] := hl
  have hinX3 : ∀ w ∈ wsX30, w ∈ wsX5_countIn := by decide +kernel
  have hinX5 : ∀ w ∈ wsX50, w ∈ wsX5_countIn := by decide +kernel
  have hM := hP
  have h24 := hI.M24
  have h6 := hI.R6
  refine lv_iconst (v := nI 0) hx hb dX5_countIn_0 (by decide) ?_
  refine lv_istore_n (lv' := [(2, .int (nI (0))), (0, .ref (q)), (1, .int (nI (w)))]) hx hb dX5_countIn_1 rfl hl (by decide) rfl (fun ls hl => ?_)
  refine lv_iconst (v := nI 0) hx hb dX5_countIn_2 (by decide) ?_
  refine lv_istore_n (lv' := [(3, .int (nI (0))), (2, .int (nI (0))), (0, .ref (q)), (1, .int (nI (w)))]) hx hb dX5_countIn_3 rfl hl (by decide) rfl (fun ls hl => ?_)
  have J4 : ∀ (fu4 : Nat) (k : Nat) (ls : Array Slot), (Mn e - k) < fu4 → (k ≤ Mn e) → lv_has ls 4 [(0, .ref (q)), (1, .int (nI (w))), (2, .int (nI (msK e w k))), (3, .int (nI (k)))] → W p l en ({ frames := 0, cells := 0, slots := 0, locals := 0 } : Room) s m args below meth c s.heap [] 0 0 (MQ below (QcP (some (.int (nI (msN e w))))) args s 0 0 nowhere) (F0 m 4 ls []) := by
    intro fu4; induction fu4 with
    | zero => intro k ls hmu4 hk hl; exact absurd hmu4 (Nat.not_lt_zero _)
    | succ fu4 ih4 =>
      intro k ls hmu4 hk hl
      refine lv_iload_n hx hb dX5_countIn_4 rfl (lv_at hl 3 rfl) ?_
      refine lv_aload_n hx hb dX5_countIn_5 rfl (lv_at hl 0 rfl) ?_
      refine kx_get (v := .int (e 4)) hx hb hts hinX5 hown hK hM.obj rfl 5 (by decide) (by decide +kernel) rfl dX5_countIn_6 ?_
      refine kx_ci (x := e 4) (y := nI (Mn e)) (Inv.z4 hI) ?_
      refine kn_icmp_ge (tgt := 34) hx hb dX5_countIn_9 (by decide) (by omega) (by omega) (fun c_1 => ?_) (fun c_1 => ?_)
      · refine lv_iload_n hx hb dX5_countIn_34 rfl (lv_at hl 2 rfl) ?_
        exact kx_iretP hx hb hrt hlk (by rw [show k = Mn e by omega]; rfl) dX5_countIn_35
      · have hkM : k < Mn e := by omega
        have hs3 := hI.s3 hkM
        have hmt := hI.mt hkM
        have hmf := hI.mf hkM
        refine lv_aload_n hx hb dX5_countIn_12 rfl (lv_at hl 0 rfl) ?_
        refine kx_get (v := .ref (q + 3)) hx hb hts hinX5 hown hK hM.obj rfl 2 (by decide) (by decide +kernel) rfl dX5_countIn_13 ?_
        refine lv_iload_n hx hb dX5_countIn_16 rfl (lv_at hl 3 rfl) ?_
        refine kx_aald (i := k) hx hb hK hM.moves 3 rfl (by omega) (by decide) rfl dX5_countIn_17 ?_
        refine kx_get (v := .int (e (80 + 10 * k + 5))) hx hb hts hinX3 hown hK (hM.mv (m := k) (by omega)) rfl 7 (by decide) (by decide +kernel) rfl dX5_countIn_18 ?_
        refine kx_ci (x := e (80 + 10 * k + 5)) (y := nI (mS e k)) (Inv.m5 hI (by first | assumption | omega)) ?_
        refine lv_iload_n hx hb dX5_countIn_21 rfl (lv_at hl 1 rfl) ?_
        refine kn_icmp_ne (tgt := 28) hx hb dX5_countIn_22 (by decide) (by omega) (by omega) (fun c_2 => ?_) (fun c_2 => ?_)
        · refine lv_iinc (v := nI (k + 1)) (lv' := [(3, .int (nI (k + 1))), (0, .ref (q)), (1, .int (nI (w))), (2, .int (nI (msK e w k)))]) (k := 3) hx hb dX5_countIn_28 hl rfl (nI_add _ _) (by decide) rfl (fun ls hl => ?_)
          refine lv_goto (tgt := 4) hx hb dX5_countIn_31 (by decide) ?_
          have hl : lv_has ls 4 [(3, .int (nI (k + 1))), (0, .ref (q)), (1, .int (nI (w))), (2, .int (nI (msK e w (k + 1))))] := by rw [show (msK e w (k + 1)) = (msK e w k) from (by rw [msK_s]; first | (simp [*]; done) | (exfalso; omega) | (exfalso; simp_all; done))]; exact hl
          exact ih4 (k + 1) _ (by omega) (by omega) (lv_sub hl [1, 2, 3, 0] rfl)
        · refine lv_iinc (v := nI (msK e w k + 1)) (lv' := [(2, .int (nI (msK e w k + 1))), (0, .ref (q)), (1, .int (nI (w))), (3, .int (nI (k)))]) (k := 2) hx hb dX5_countIn_25 hl rfl (nI_add _ _) (by decide) rfl (fun ls hl => ?_)
          refine lv_iinc (v := nI (k + 1)) (lv' := [(3, .int (nI (k + 1))), (2, .int (nI (msK e w k + 1))), (0, .ref (q)), (1, .int (nI (w)))]) (k := 3) hx hb dX5_countIn_28 hl rfl (nI_add _ _) (by decide) rfl (fun ls hl => ?_)
          refine lv_goto (tgt := 4) hx hb dX5_countIn_31 (by decide) ?_
          have hl : lv_has ls 4 [(3, .int (nI (k + 1))), (2, .int (nI (msK e w (k + 1)))), (0, .ref (q)), (1, .int (nI (w)))] := by rw [show (msK e w (k + 1)) = (msK e w k + 1) from (by rw [msK_s]; first | (simp [*]; done) | (exfalso; omega) | (exfalso; simp_all; done))]; exact hl
          exact ih4 (k + 1) _ (by omega) (by omega) (lv_sub hl [2, 3, 1, 0] rfl)
  exact J4 _ 0 _ (Nat.lt_succ_self _) (by omega) (lv_sub hl [2, 3, 1, 0] rfl)
set_option maxHeartbeats 2500000 in
set_option maxRecDepth 100000 in
theorem k_X5_countCopiedTo (l : Launch) (D : va_G) (cs : Nat → ClassId) (q : Nat) (e : Nat → Int32) (g : Nat → Int64) (r : Nat) (hI : Inv e) (hr : r < Rn e) : Met l yX5_countCopiedTo wsX5_countCopiedTo ({ frames := 1, cells := 0, slots := 0, locals := 21 } : Room) (PcK D cs [.ref (q), .int (nI (r))] (fun H => StC D cs q e g H)) (QcP (some (.int (nI (cpN e r))))) 0 0 nowhere := by
  refine kx_met (cc := cX5_countCopiedTo) (maxL := 4) (ret := (some .int)) (by decide) rfl (Nat.le_of_ble_eq_true rfl) ?_
  intro p en s m args below meth c hx hb hml hrt hts hown hlk hK hN hP ls hl
  have hl : lv_has ls 4 [(0, .ref (q)), (1, .int (nI (r)))] := hl
  have hinX5 : ∀ w ∈ wsX50, w ∈ wsX5_countCopiedTo := by decide +kernel
  have hM := hP
  have h24 := hI.M24
  have h6 := hI.R6
  refine lv_iconst (v := nI 0) hx hb dX5_countCopiedTo_0 (by decide) ?_
  refine lv_istore_n (lv' := [(2, .int (nI (0))), (0, .ref (q)), (1, .int (nI (r)))]) hx hb dX5_countCopiedTo_1 rfl hl (by decide) rfl (fun ls hl => ?_)
  refine lv_iconst (v := nI 0) hx hb dX5_countCopiedTo_2 (by decide) ?_
  refine lv_istore_n (lv' := [(3, .int (nI (0))), (2, .int (nI (0))), (0, .ref (q)), (1, .int (nI (r)))]) hx hb dX5_countCopiedTo_3 rfl hl (by decide) rfl (fun ls hl => ?_)
  have J4 : ∀ (fu4 : Nat) (k : Nat) (ls : Array Slot), (Mn e - k) < fu4 → (k ≤ Mn e) → lv_has ls 4 [(0, .ref (q)), (1, .int (nI (r))), (2, .int (nI (cpK e r k))), (3, .int (nI (k)))] → W p l en ({ frames := 1, cells := 0, slots := 0, locals := 21 } : Room) s m args below meth c s.heap [] 0 0 (MQ below (QcP (some (.int (nI (cpN e r))))) args s 0 0 nowhere) (F0 m 4 ls []) := by
    intro fu4; induction fu4 with
    | zero => intro k ls hmu4 hk hl; exact absurd hmu4 (Nat.not_lt_zero _)
    | succ fu4 ih4 =>
      intro k ls hmu4 hk hl
      refine lv_iload_n hx hb dX5_countCopiedTo_4 rfl (lv_at hl 3 rfl) ?_
      refine lv_aload_n hx hb dX5_countCopiedTo_5 rfl (lv_at hl 0 rfl) ?_
      refine kx_get (v := .int (e 4)) hx hb hts hinX5 hown hK hM.obj rfl 5 (by decide) (by decide +kernel) rfl dX5_countCopiedTo_6 ?_
      refine kx_ci (x := e 4) (y := nI (Mn e)) (Inv.z4 hI) ?_
      refine kn_icmp_ge (tgt := 34) hx hb dX5_countCopiedTo_9 (by decide) (by omega) (by omega) (fun c_1 => ?_) (fun c_1 => ?_)
      · refine lv_iload_n hx hb dX5_countCopiedTo_34 rfl (lv_at hl 2 rfl) ?_
        exact kx_iretP hx hb hrt hlk (by rw [show k = Mn e by omega]; rfl) dX5_countCopiedTo_35
      · have hkM : k < Mn e := by omega
        have hs3 := hI.s3 hkM
        have hmt := hI.mt hkM
        have hmf := hI.mf hkM
        refine lv_aload_n hx hb dX5_countCopiedTo_12 rfl (lv_at hl 0 rfl) ?_
        refine kx_get (v := .ref (q + 3)) hx hb hts hinX5 hown hK hM.obj rfl 2 (by decide) (by decide +kernel) rfl dX5_countCopiedTo_13 ?_
        refine lv_iload_n hx hb dX5_countCopiedTo_16 rfl (lv_at hl 3 rfl) ?_
        refine kx_aald (i := k) hx hb hK hM.moves 3 rfl (by omega) (by decide) rfl dX5_countCopiedTo_17 ?_
        refine lv_iload_n hx hb dX5_countCopiedTo_18 rfl (lv_at hl 1 rfl) ?_
        refine kx_retP (va_runS (As := [.ref (q + 11 + 2 * k), .int (nI (r))]) (rest := []) ⟨hx, hb, hml, hown, hts⟩ (k_X5_isCopiedTo l D cs q e g k r hI (by first | assumption | omega) (by first | assumption | omega)) (cwS 2 hts gX5_countCopiedTo_X5_isCopiedTo rfl rfl rfl (by decide +kernel) ⟨Nat.le_of_ble_eq_true rfl, Nat.le_of_ble_eq_true rfl⟩) (kx_preS hK hN hM) rfl rfl hl.1 rfl (lv_room (Nat.le_of_ble_eq_true rfl)) dX5_countCopiedTo_19 ⟨Nat.le_of_ble_eq_true rfl, Nat.le_of_ble_eq_true rfl⟩) ?_
        refine kb_if_eq (tgt := 28) hx hb dX5_countCopiedTo_22 (by decide) (fun hic => ?_) (fun hic => ?_)
        · refine lv_iinc (v := nI (k + 1)) (lv' := [(3, .int (nI (k + 1))), (0, .ref (q)), (1, .int (nI (r))), (2, .int (nI (cpK e r k)))]) (k := 3) hx hb dX5_countCopiedTo_28 hl rfl (nI_add _ _) (by decide) rfl (fun ls hl => ?_)
          refine lv_goto (tgt := 4) hx hb dX5_countCopiedTo_31 (by decide) ?_
          have hl : lv_has ls 4 [(3, .int (nI (k + 1))), (0, .ref (q)), (1, .int (nI (r))), (2, .int (nI (cpK e r (k + 1))))] := by rw [show (cpK e r (k + 1)) = (cpK e r k) from (by rw [cpK_s]; simp only [isC, Bool.and_eq_true, Bool.and_eq_false_iff, decide_eq_true_eq, decide_eq_false_iff_not] at hic; first | rw [if_pos hic] | rw [if_neg (by omega), Nat.add_zero])]; exact hl
          exact ih4 (k + 1) _ (by omega) (by omega) (lv_sub hl [1, 2, 3, 0] rfl)
        · refine lv_iinc (v := nI (cpK e r k + 1)) (lv' := [(2, .int (nI (cpK e r k + 1))), (0, .ref (q)), (1, .int (nI (r))), (3, .int (nI (k)))]) (k := 2) hx hb dX5_countCopiedTo_25 hl rfl (nI_add _ _) (by decide) rfl (fun ls hl => ?_)
          refine lv_iinc (v := nI (k + 1)) (lv' := [(3, .int (nI (k + 1))), (2, .int (nI (cpK e r k + 1))), (0, .ref (q)), (1, .int (nI (r)))]) (k := 3) hx hb dX5_countCopiedTo_28 hl rfl (nI_add _ _) (by decide) rfl (fun ls hl => ?_)
          refine lv_goto (tgt := 4) hx hb dX5_countCopiedTo_31 (by decide) ?_
          have hl : lv_has ls 4 [(3, .int (nI (k + 1))), (2, .int (nI (cpK e r (k + 1)))), (0, .ref (q)), (1, .int (nI (r)))] := by rw [show (cpK e r (k + 1)) = (cpK e r k + 1) from (by rw [cpK_s]; simp only [isC, Bool.and_eq_true, Bool.and_eq_false_iff, decide_eq_true_eq, decide_eq_false_iff_not] at hic; first | rw [if_pos hic] | rw [if_neg (by omega), Nat.add_zero])]; exact hl
          exact ih4 (k + 1) _ (by omega) (by omega) (lv_sub hl [2, 3, 1, 0] rfl)
  exact J4 _ 0 _ (Nat.lt_succ_self _) (by omega) (lv_sub hl [2, 3, 1, 0] rfl)
set_option maxHeartbeats 2500000 in
set_option maxRecDepth 100000 in
theorem k_X5_heldCells (l : Launch) (D : va_G) (cs : Nat → ClassId) (q : Nat) (e : Nat → Int32) (g : Nat → Int64) (hI : Inv e) (hG : Msk e g) : Met l yX5_heldCells wsX5_heldCells ({ frames := 1, cells := 0, slots := 0, locals := 20 } : Room) (PcK D cs [.ref (q)] (fun H => StC D cs q e g H)) (QcP (some (.long (lN (hdN e))))) 0 0 nowhere := by
  refine kx_met (cc := cX5_heldCells) (maxL := 4) (ret := (some .long)) (by decide) rfl (Nat.le_of_ble_eq_true rfl) ?_
  intro p en s m args below meth c hx hb hml hrt hts hown hlk hK hN hP ls hl
  have hl : lv_has ls 4 [(0, .ref (q))] := hl
  have hinX3 : ∀ w ∈ wsX30, w ∈ wsX5_heldCells := by decide +kernel
  have hinX5 : ∀ w ∈ wsX50, w ∈ wsX5_heldCells := by decide +kernel
  have hM := hP
  have h24 := hI.M24
  have h6 := hI.R6
  refine lv_lconst (v := lN 0) hx hb dX5_heldCells_0 rfl ?_
  refine lv_lstore_n (lv' := [(1, .long (lN (0))), (0, .ref (q))]) hx hb dX5_heldCells_1 rfl hl (by decide) rfl (fun ls hl => ?_)
  refine lv_iconst (v := nI 0) hx hb dX5_heldCells_2 (by decide) ?_
  refine lv_istore_n (lv' := [(3, .int (nI (0))), (1, .long (lN (0))), (0, .ref (q))]) hx hb dX5_heldCells_3 rfl hl (by decide) rfl (fun ls hl => ?_)
  have J4 : ∀ (fu4 : Nat) (k : Nat) (ls : Array Slot), (Mn e - k) < fu4 → (k ≤ Mn e) → lv_has ls 4 [(0, .ref (q)), (1, .long (lN (hdK e k))), (3, .int (nI (k)))] → W p l en ({ frames := 1, cells := 0, slots := 0, locals := 20 } : Room) s m args below meth c s.heap [] 0 0 (MQ below (QcP (some (.long (lN (hdN e))))) args s 0 0 nowhere) (F0 m 4 ls []) := by
    intro fu4; induction fu4 with
    | zero => intro k ls hmu4 hk hl; exact absurd hmu4 (Nat.not_lt_zero _)
    | succ fu4 ih4 =>
      intro k ls hmu4 hk hl
      refine lv_iload_n hx hb dX5_heldCells_4 rfl (lv_at hl 2 rfl) ?_
      refine lv_aload_n hx hb dX5_heldCells_5 rfl (lv_at hl 0 rfl) ?_
      refine kx_get (v := .int (e 4)) hx hb hts hinX5 hown hK hM.obj rfl 5 (by decide) (by decide +kernel) rfl dX5_heldCells_6 ?_
      refine kx_ci (x := e 4) (y := nI (Mn e)) (Inv.z4 hI) ?_
      refine kn_icmp_ge (tgt := 42) hx hb dX5_heldCells_9 (by decide) (by omega) (by omega) (fun c_1 => ?_) (fun c_1 => ?_)
      · refine lv_lload_n hx hb dX5_heldCells_42 rfl (lv_at hl 1 rfl) ?_
        exact kx_lretP hx hb hrt hlk (by rw [show k = Mn e by omega]; rfl) dX5_heldCells_43
      · have hkM : k < Mn e := by omega
        have hs3 := hI.s3 hkM
        have hmt := hI.mt hkM
        have hmf := hI.mf hkM
        refine lv_aload_n hx hb dX5_heldCells_12 rfl (lv_at hl 0 rfl) ?_
        refine kx_get (v := .ref (q + 3)) hx hb hts hinX5 hown hK hM.obj rfl 2 (by decide) (by decide +kernel) rfl dX5_heldCells_13 ?_
        refine lv_iload_n hx hb dX5_heldCells_16 rfl (lv_at hl 2 rfl) ?_
        refine kx_aald (i := k) hx hb hK hM.moves 3 rfl (by omega) (by decide) rfl dX5_heldCells_17 ?_
        refine kx_retP (va_runV (As := []) (rest := []) ⟨hx, hb, hml, hown, hts⟩ (k_X3_holds l D cs q e g k hI (by first | assumption | omega)) (cwV 0 hts gX5_heldCells_X3_holds rfl rfl rfl (by decide +kernel) ⟨Nat.le_of_ble_eq_true rfl, Nat.le_of_ble_eq_true rfl⟩) (kx_preV hK hN (hM.mv (m := k) (by omega)) rfl hM) rfl rfl hl.1 rfl (lv_room (Nat.le_of_ble_eq_true rfl)) dX5_heldCells_18 ⟨Nat.le_of_ble_eq_true rfl, Nat.le_of_ble_eq_true rfl⟩) ?_
        refine kb_if_eq (tgt := 36) hx hb dX5_heldCells_21 (by decide) (fun hhp => ?_) (fun hhp => ?_)
        · refine lv_iinc (v := nI (k + 1)) (lv' := [(3, .int (nI (k + 1))), (0, .ref (q)), (1, .long (lN (hdK e k)))]) (k := 2) hx hb dX5_heldCells_36 hl rfl (nI_add _ _) (by decide) rfl (fun ls hl => ?_)
          refine lv_goto (tgt := 4) hx hb dX5_heldCells_39 (by decide) ?_
          have hl : lv_has ls 4 [(3, .int (nI (k + 1))), (0, .ref (q)), (1, .long (lN (hdK e (k + 1))))] := by rw [show (hdK e (k + 1)) = (hdK e k) from (by rw [hdK_s]; simp [*])]; exact hl
          exact ih4 (k + 1) _ (by omega) (by omega) (lv_sub hl [1, 2, 0] rfl)
        · refine lv_lload_n hx hb dX5_heldCells_24 rfl (lv_at hl 1 rfl) ?_
          refine lv_aload_n hx hb dX5_heldCells_25 rfl (lv_at hl 0 rfl) ?_
          refine kx_get (v := .ref (q + 3)) hx hb hts hinX5 hown hK hM.obj rfl 2 (by decide) (by decide +kernel) rfl dX5_heldCells_26 ?_
          refine lv_iload_n hx hb dX5_heldCells_29 rfl (lv_at hl 2 rfl) ?_
          refine kx_aald (i := k) hx hb hK hM.moves 3 rfl (by omega) (by decide) rfl dX5_heldCells_30 ?_
          refine kx_get (v := .long (g (2 * k))) hx hb hts hinX3 hown hK (hM.mv (m := k) (by omega)) rfl 5 (by decide) (by decide +kernel) rfl dX5_heldCells_31 ?_
          refine kx_cl (x := g (2 * k)) (y := lN (csN e false k)) (hG k (by first | assumption | omega)).1 ?_
          refine kl_or hx hb dX5_heldCells_34 ?_
          refine lv_lstore_n (lv' := [(1, .long (lN ((hdK e k) ||| (csN e false k)))), (0, .ref (q)), (3, .int (nI (k)))]) hx hb dX5_heldCells_35 rfl hl (by decide) rfl (fun ls hl => ?_)
          refine lv_iinc (v := nI (k + 1)) (lv' := [(3, .int (nI (k + 1))), (1, .long (lN ((hdK e k) ||| (csN e false k)))), (0, .ref (q))]) (k := 2) hx hb dX5_heldCells_36 hl rfl (nI_add _ _) (by decide) rfl (fun ls hl => ?_)
          refine lv_goto (tgt := 4) hx hb dX5_heldCells_39 (by decide) ?_
          have hl : lv_has ls 4 [(3, .int (nI (k + 1))), (1, .long (lN (hdK e (k + 1)))), (0, .ref (q))] := by rw [show (hdK e (k + 1)) = ((hdK e k) ||| (csN e false k)) from (by rw [hdK_s]; simp [*])]; exact hl
          exact ih4 (k + 1) _ (by omega) (by omega) (lv_sub hl [2, 1, 0] rfl)
  exact J4 _ 0 _ (Nat.lt_succ_self _) (by omega) (lv_sub hl [2, 1, 0] rfl)
set_option maxHeartbeats 2500000 in
set_option maxRecDepth 100000 in
theorem k_X5_sumOf (l : Launch) (D : va_G) (cs : Nat → ClassId) (q : Nat) (e : Nat → Int32) (g : Nat → Int64) (f n0 : Nat) (hf : f + n0 ≤ 48) : Met l yX5_sumOf wsX5_sumOf ({ frames := 0, cells := 0, slots := 0, locals := 0 } : Room) (PcK D cs [.ref (q), .int (nI (f)), .int (nI (n0))] (fun H => StC D cs q e g H)) (QcP (some (.int (smK e f n0)))) 0 0 nowhere := by
  refine kx_met (cc := cX5_sumOf) (maxL := 5) (ret := (some .int)) (by decide) rfl (Nat.le_of_ble_eq_true rfl) ?_
  intro p en s m args below meth c hx hb hml hrt hts hown hlk hK hN hP ls hl
  have hl : lv_has ls 5 [(0, .ref (q)), (1, .int (nI (f))), (2, .int (nI (n0)))] := hl
  have hinX5 : ∀ w ∈ wsX50, w ∈ wsX5_sumOf := by decide +kernel
  have hM := hP
  refine lv_iconst (v := nI 0) hx hb dX5_sumOf_0 (by decide) ?_
  refine lv_istore_n (lv' := [(3, .int (nI (0))), (0, .ref (q)), (1, .int (nI (f))), (2, .int (nI (n0)))]) hx hb dX5_sumOf_1 rfl hl (by decide) rfl (fun ls hl => ?_)
  refine lv_iload_n hx hb dX5_sumOf_2 rfl (lv_at hl 2 rfl) ?_
  refine lv_istore (lv' := [(4, .int (nI (f))), (3, .int (nI (0))), (0, .ref (q)), (1, .int (nI (f))), (2, .int (nI (n0)))]) hx hb dX5_sumOf_3 hl (by decide) rfl (fun ls hl => ?_)
  have J5 : ∀ (fu5 : Nat) (k : Nat) (ls : Array Slot), (n0 - k) < fu5 → (k ≤ n0) → lv_has ls 5 [(0, .ref (q)), (1, .int (nI (f))), (2, .int (nI (n0))), (3, .int (smK e f k)), (4, .int (nI (f + k)))] → W p l en ({ frames := 0, cells := 0, slots := 0, locals := 0 } : Room) s m args below meth c s.heap [] 0 0 (MQ below (QcP (some (.int (smK e f n0)))) args s 0 0 nowhere) (F0 m 5 ls []) := by
    intro fu5; induction fu5 with
    | zero => intro k ls hmu5 hk hl; exact absurd hmu5 (Nat.not_lt_zero _)
    | succ fu5 ih5 =>
      intro k ls hmu5 hk hl
      refine lv_iload hx hb dX5_sumOf_5 (lv_at hl 4 rfl) ?_
      refine lv_iload_n hx hb dX5_sumOf_7 rfl (lv_at hl 1 rfl) ?_
      refine lv_iload_n hx hb dX5_sumOf_8 rfl (lv_at hl 2 rfl) ?_
      refine kn_add hx hb dX5_sumOf_9 ?_
      refine kn_icmp_ge (tgt := 36) hx hb dX5_sumOf_10 (by decide) (by omega) (by omega) (fun c_1 => ?_) (fun c_1 => ?_)
      · refine lv_iload_n hx hb dX5_sumOf_36 rfl (lv_at hl 3 rfl) ?_
        exact kx_iretP hx hb hrt hlk (by rw [show k = n0 by omega]) dX5_sumOf_37
      · refine lv_iload hx hb dX5_sumOf_13 (lv_at hl 4 rfl) ?_
        refine lv_bipush (v := nI 48) hx hb dX5_sumOf_15 (by decide) ?_
        refine kn_icmp_ge (tgt := 36) hx hb dX5_sumOf_17 (by decide) (by omega) (by decide) (fun c_2 => ?_) (fun c_2 => ?_)
        · omega
        · refine lv_iload_n hx hb dX5_sumOf_20 rfl (lv_at hl 3 rfl) ?_
          refine lv_aload_n hx hb dX5_sumOf_21 rfl (lv_at hl 0 rfl) ?_
          refine kx_get (v := .ref (q + 1)) hx hb hts hinX5 hown hK hM.obj rfl 0 (by decide) (by decide +kernel) rfl dX5_sumOf_22 ?_
          refine lv_iload hx hb dX5_sumOf_25 (lv_at hl 4 rfl) ?_
          refine kx_iald (i := f + k) hx hb hK hM.cells 0 rfl (by omega) (by decide) dX5_sumOf_27 ?_
          refine lv_iadd hx hb dX5_sumOf_28 ?_
          refine kx_ci (x := (smK e f k) + (e (8 + (f + k)))) (y := smK e f (k + 1)) (congrArg (fun w => smK e f k + e w) (by omega)) ?_
          refine lv_istore_n (lv' := [(3, .int (smK e f (k + 1))), (0, .ref (q)), (1, .int (nI (f))), (2, .int (nI (n0))), (4, .int (nI (f + k)))]) hx hb dX5_sumOf_29 rfl hl (by decide) rfl (fun ls hl => ?_)
          refine lv_iinc (v := nI (f + k + 1)) (lv' := [(4, .int (nI (f + k + 1))), (3, .int (smK e f (k + 1))), (0, .ref (q)), (1, .int (nI (f))), (2, .int (nI (n0)))]) (k := 4) hx hb dX5_sumOf_30 hl rfl (nI_add _ _) (by decide) rfl (fun ls hl => ?_)
          refine lv_goto (tgt := 5) hx hb dX5_sumOf_33 (by decide) ?_
          exact ih5 (k + 1) _ (by omega) (by omega) (lv_sub hl [2, 3, 4, 1, 0] rfl)
  exact J5 _ 0 _ (Nat.lt_succ_self _) (by omega) (lv_sub hl [2, 3, 4, 1, 0] rfl)
set_option maxHeartbeats 2500000 in
set_option maxRecDepth 100000 in
theorem k_X5_barOf (l : Launch) (D : va_G) (cs : Nat → ClassId) (q : Nat) (e : Nat → Int32) (g : Nat → Int64) (x : Nat) (hI : Inv e) (hG : Msk e g) (hx48 : x < 48) : Met l yX5_barOf wsX5_barOf ({ frames := 2, cells := 0, slots := 0, locals := 43 } : Room) (PcK D cs [.ref (q), .int (nI (x))] (fun H => StC D cs q e g H)) (QcP (some (.int (nI (barN e x))))) 0 0 nowhere := by
  refine kx_met (cc := cX5_barOf) (maxL := 10) (ret := (some .int)) (by decide) rfl (Nat.le_of_ble_eq_true rfl) ?_
  intro p en s m args below meth c hx hb hml hrt hts hown hlk hK hN hP ls hl
  have hl : lv_has ls 10 [(0, .ref (q)), (1, .int (nI (x)))] := hl
  have hinX3 : ∀ w ∈ wsX30, w ∈ wsX5_barOf := by decide +kernel
  have hinX5 : ∀ w ∈ wsX50, w ∈ wsX5_barOf := by decide +kernel
  have hM := hP
  have h24 := hI.M24
  have h6 := hI.R6
  have haw := aw_lt hI (Mn e) (Nat.le_refl _)
  refine lv_lconst (v := lN 1) hx hb dX5_barOf_0 rfl ?_
  refine lv_iload_n hx hb dX5_barOf_1 rfl (lv_at hl 1 rfl) ?_
  refine kl_bit hx hb (by omega) dX5_barOf_2 ?_
  refine lv_lstore_n (lv' := [(2, .long (lN (2 ^ x))), (0, .ref (q)), (1, .int (nI (x)))]) hx hb dX5_barOf_3 rfl hl (by decide) rfl (fun ls hl => ?_)
  refine lv_aload_n hx hb dX5_barOf_4 rfl (lv_at hl 1 rfl) ?_
  refine kx_retP (va_runV (As := []) (rest := []) ⟨hx, hb, hml, hown, hts⟩ (k_X5_heldCells l D cs q e g hI hG) (cwV 0 hts gX5_barOf_X5_heldCells rfl rfl rfl (by decide +kernel) ⟨Nat.le_of_ble_eq_true rfl, Nat.le_of_ble_eq_true rfl⟩) (kx_preV hK hN hM.obj rfl hM) rfl rfl hl.1 rfl (lv_room (Nat.le_of_ble_eq_true rfl)) dX5_barOf_5 ⟨Nat.le_of_ble_eq_true rfl, Nat.le_of_ble_eq_true rfl⟩) ?_
  refine lv_lload_n hx hb dX5_barOf_8 rfl (lv_at hl 0 rfl) ?_
  refine kl_and hx hb dX5_barOf_9 ?_
  refine lv_lconst (v := lN 0) hx hb dX5_barOf_10 rfl ?_
  refine W.lcmp hx hb dX5_barOf_11 ?_
  refine kl_eq (tgt := 17) hx hb (and_lt (Nat.lt_of_lt_of_le haw.2.2 (by decide))) (by decide) dX5_barOf_12 (by decide) (fun c12 => ?_) (fun c12 => ?_)
  · refine lv_lconst (v := lN 0) hx hb dX5_barOf_17 rfl ?_
    refine lv_lstore (lv' := [(4, .long (lN (0))), (2, .long (lN (2 ^ x))), (0, .ref (q)), (1, .int (nI (x)))]) hx hb dX5_barOf_18 hl (by decide) rfl (fun ls hl => ?_)
    refine lv_lconst (v := lN 0) hx hb dX5_barOf_20 rfl ?_
    refine lv_lstore (lv' := [(6, .long (lN (0))), (4, .long (lN (0))), (2, .long (lN (2 ^ x))), (0, .ref (q)), (1, .int (nI (x)))]) hx hb dX5_barOf_21 hl (by decide) rfl (fun ls hl => ?_)
    refine lv_iconst (v := nI 0) hx hb dX5_barOf_23 (by decide) ?_
    refine lv_istore (lv' := [(8, .int (nI (0))), (6, .long (lN (0))), (4, .long (lN (0))), (2, .long (lN (2 ^ x))), (0, .ref (q)), (1, .int (nI (x)))]) hx hb dX5_barOf_24 hl (by decide) rfl (fun ls hl => ?_)
    have J26 : ∀ (fu26 : Nat) (k : Nat) (ls : Array Slot), (Mn e - k) < fu26 → (k ≤ Mn e) → lv_has ls 10 [(0, .ref (q)), (1, .int (nI (x))), (2, .long (lN (2 ^ x))), (4, .long (lN (awK e k))), (6, .long (lN (owK e k))), (8, .int (nI (k)))] → W p l en ({ frames := 2, cells := 0, slots := 0, locals := 43 } : Room) s m args below meth c s.heap [] 0 0 (MQ below (QcP (some (.int (nI (barN e x))))) args s 0 0 nowhere) (F0 m 26 ls []) := by
      intro fu26; induction fu26 with
      | zero => intro k ls hmu26 hk hl; exact absurd hmu26 (Nat.not_lt_zero _)
      | succ fu26 ih26 =>
        intro k ls hmu26 hk hl
        refine lv_iload hx hb dX5_barOf_26 (lv_at hl 5 rfl) ?_
        refine lv_aload_n hx hb dX5_barOf_28 rfl (lv_at hl 0 rfl) ?_
        refine kx_get (v := .int (e 4)) hx hb hts hinX5 hown hK hM.obj rfl 5 (by decide) (by decide +kernel) rfl dX5_barOf_29 ?_
        refine kx_ci (x := e 4) (y := nI (Mn e)) (Inv.z4 hI) ?_
        refine kn_icmp_ge (tgt := 93) hx hb dX5_barOf_32 (by decide) (by omega) (by omega) (fun c_1 => ?_) (fun c_1 => ?_)
        · have hkk : k = Mn e := by omega
          subst hkk
          refine lv_lload hx hb dX5_barOf_93 (lv_at hl 3 rfl) ?_
          refine lv_lload_n hx hb dX5_barOf_95 rfl (lv_at hl 2 rfl) ?_
          refine kl_and hx hb dX5_barOf_96 ?_
          refine lv_lconst (v := lN 0) hx hb dX5_barOf_97 rfl ?_
          refine W.lcmp hx hb dX5_barOf_98 ?_
          refine kl_eq (tgt := 104) hx hb (and_lt (Nat.lt_of_lt_of_le haw.1 (by decide))) (by decide) dX5_barOf_99 (by decide) (fun c99 => ?_) (fun c99 => ?_)
          · refine lv_lload hx hb dX5_barOf_104 (lv_at hl 4 rfl) ?_
            refine lv_lload_n hx hb dX5_barOf_106 rfl (lv_at hl 2 rfl) ?_
            refine kl_and hx hb dX5_barOf_107 ?_
            refine lv_lconst (v := lN 0) hx hb dX5_barOf_108 rfl ?_
            refine W.lcmp hx hb dX5_barOf_109 ?_
            refine kl_eq (tgt := 117) hx hb (and_lt (Nat.lt_of_lt_of_le haw.2.1 (by decide))) (by decide) dX5_barOf_110 (by decide) (fun c110 => ?_) (fun c110 => ?_)
            · refine lv_iconst (v := nI 0) hx hb dX5_barOf_117 (by decide) ?_
              exact kx_iretP hx hb hrt hlk (congrArg nI (by unfold barN; rw [if_neg (fun q => q c12), if_neg (fun q => q c99)]; first | rw [if_pos c110] | rw [if_neg (fun q => q c110)])) dX5_barOf_118
            · refine lv_iconst (v := nI 3) hx hb dX5_barOf_113 (by decide) ?_
              refine lv_goto (tgt := 118) hx hb dX5_barOf_114 (by decide) ?_
              exact kx_iretP hx hb hrt hlk (congrArg nI (by unfold barN; rw [if_neg (fun q => q c12), if_neg (fun q => q c99)]; first | rw [if_pos c110] | rw [if_neg (fun q => q c110)])) dX5_barOf_118
          · refine lv_iconst (v := nI 2) hx hb dX5_barOf_102 (by decide) ?_
            exact kx_iretP hx hb hrt hlk (congrArg nI (by unfold barN; rw [if_neg (fun q => q c12), if_pos c99])) dX5_barOf_103
        · have hkM : k < Mn e := by omega
          have hs3 := hI.s3 hkM
          have hmt := hI.mt hkM
          have hmf := hI.mf hkM
          refine lv_aload_n hx hb dX5_barOf_35 rfl (lv_at hl 0 rfl) ?_
          refine kx_get (v := .ref (q + 3)) hx hb hts hinX5 hown hK hM.obj rfl 2 (by decide) (by decide +kernel) rfl dX5_barOf_36 ?_
          refine lv_iload hx hb dX5_barOf_39 (lv_at hl 5 rfl) ?_
          refine kx_aald (i := k) hx hb hK hM.moves 3 rfl (by omega) (by decide) rfl dX5_barOf_41 ?_
          refine lv_astore (lv' := [(9, .ref (q + 11 + 2 * k)), (0, .ref (q)), (1, .int (nI (x))), (2, .long (lN (2 ^ x))), (4, .long (lN (awK e k))), (6, .long (lN (owK e k))), (8, .int (nI (k)))]) hx hb dX5_barOf_42 hl (by decide) rfl (fun ls hl => ?_)
          refine lv_aload hx hb dX5_barOf_44 (lv_at hl 0 rfl) ?_
          refine kx_get (v := .int (e (80 + 10 * k + 5))) hx hb hts hinX3 hown hK (hM.mv (m := k) (by omega)) rfl 7 (by decide) (by decide +kernel) rfl dX5_barOf_46 ?_
          refine kx_ci (x := e (80 + 10 * k + 5)) (y := nI (mS e k)) (Inv.m5 hI (by first | assumption | omega)) ?_
          refine kn_if_ne (tgt := 68) hx hb dX5_barOf_49 (by decide) (by omega) (fun c_2 => ?_) (fun c_2 => ?_)
          · refine lv_aload hx hb dX5_barOf_68 (lv_at hl 0 rfl) ?_
            refine kx_get (v := .int (e (80 + 10 * k + 5))) hx hb hts hinX3 hown hK (hM.mv (m := k) (by omega)) rfl 7 (by decide) (by decide +kernel) rfl dX5_barOf_70 ?_
            refine kx_ci (x := e (80 + 10 * k + 5)) (y := nI (mS e k)) (Inv.m5 hI (by first | assumption | omega)) ?_
            refine lv_iconst (v := nI 1) hx hb dX5_barOf_73 (by decide) ?_
            refine kn_icmp_ne (tgt := 87) hx hb dX5_barOf_74 (by decide) (by omega) (by decide) (fun c_3 => ?_) (fun c_3 => ?_)
            · refine lv_iinc (v := nI (k + 1)) (lv' := [(8, .int (nI (k + 1))), (9, .ref (q + 11 + 2 * k)), (0, .ref (q)), (1, .int (nI (x))), (2, .long (lN (2 ^ x))), (4, .long (lN (awK e k))), (6, .long (lN (owK e k)))]) (k := 6) hx hb dX5_barOf_87 hl rfl (nI_add _ _) (by decide) rfl (fun ls hl => ?_)
              refine lv_goto (tgt := 26) hx hb dX5_barOf_90 (by decide) ?_
              have hl : lv_has ls 10 [(8, .int (nI (k + 1))), (9, .ref (q + 11 + 2 * k)), (0, .ref (q)), (1, .int (nI (x))), (2, .long (lN (2 ^ x))), (4, .long (lN (awK e (k + 1)))), (6, .long (lN (owK e k)))] := by rw [show (awK e (k + 1)) = (awK e k) from (by rw [awK_s]; first | (simp [*]; done) | (exfalso; omega))]; exact hl
              have hl : lv_has ls 10 [(8, .int (nI (k + 1))), (9, .ref (q + 11 + 2 * k)), (0, .ref (q)), (1, .int (nI (x))), (2, .long (lN (2 ^ x))), (4, .long (lN (awK e (k + 1)))), (6, .long (lN (owK e (k + 1))))] := by rw [show (owK e (k + 1)) = (owK e k) from (by rw [owK_s]; first | (simp [*]; done) | (exfalso; omega))]; exact hl
              exact ih26 (k + 1) _ (by omega) (by omega) (lv_sub hl [2, 3, 4, 5, 6, 0] rfl)
            · refine lv_lload hx hb dX5_barOf_77 (lv_at hl 5 rfl) ?_
              refine lv_aload hx hb dX5_barOf_79 (lv_at hl 0 rfl) ?_
              refine kx_get (v := .long (g (2 * k + 1))) hx hb hts hinX3 hown hK (hM.mv (m := k) (by omega)) rfl 6 (by decide) (by decide +kernel) rfl dX5_barOf_81 ?_
              refine kx_cl (x := g (2 * k + 1)) (y := lN (csN e true k)) (hG k (by first | assumption | omega)).2 ?_
              refine kl_or hx hb dX5_barOf_84 ?_
              refine lv_lstore (lv' := [(6, .long (lN ((owK e k) ||| (csN e true k)))), (9, .ref (q + 11 + 2 * k)), (0, .ref (q)), (1, .int (nI (x))), (2, .long (lN (2 ^ x))), (4, .long (lN (awK e k))), (8, .int (nI (k)))]) hx hb dX5_barOf_85 hl (by decide) rfl (fun ls hl => ?_)
              refine lv_iinc (v := nI (k + 1)) (lv' := [(8, .int (nI (k + 1))), (6, .long (lN ((owK e k) ||| (csN e true k)))), (9, .ref (q + 11 + 2 * k)), (0, .ref (q)), (1, .int (nI (x))), (2, .long (lN (2 ^ x))), (4, .long (lN (awK e k)))]) (k := 6) hx hb dX5_barOf_87 hl rfl (nI_add _ _) (by decide) rfl (fun ls hl => ?_)
              refine lv_goto (tgt := 26) hx hb dX5_barOf_90 (by decide) ?_
              have hl : lv_has ls 10 [(8, .int (nI (k + 1))), (6, .long (lN ((owK e k) ||| (csN e true k)))), (9, .ref (q + 11 + 2 * k)), (0, .ref (q)), (1, .int (nI (x))), (2, .long (lN (2 ^ x))), (4, .long (lN (awK e (k + 1))))] := by rw [show (awK e (k + 1)) = (awK e k) from (by rw [awK_s]; first | (simp [*]; done) | (exfalso; omega))]; exact hl
              have hl : lv_has ls 10 [(8, .int (nI (k + 1))), (6, .long (lN (owK e (k + 1)))), (9, .ref (q + 11 + 2 * k)), (0, .ref (q)), (1, .int (nI (x))), (2, .long (lN (2 ^ x))), (4, .long (lN (awK e (k + 1))))] := by rw [show (owK e (k + 1)) = ((owK e k) ||| (csN e true k)) from (by rw [owK_s]; first | (simp [*]; done) | (exfalso; omega))]; exact hl
              exact ih26 (k + 1) _ (by omega) (by omega) (lv_sub hl [3, 4, 5, 6, 1, 0] rfl)
          · refine lv_lload hx hb dX5_barOf_52 (lv_at hl 4 rfl) ?_
            refine lv_aload hx hb dX5_barOf_54 (lv_at hl 0 rfl) ?_
            refine kx_get (v := .long (g (2 * k))) hx hb hts hinX3 hown hK (hM.mv (m := k) (by omega)) rfl 5 (by decide) (by decide +kernel) rfl dX5_barOf_56 ?_
            refine kx_cl (x := g (2 * k)) (y := lN (csN e false k)) (hG k (by first | assumption | omega)).1 ?_
            refine lv_aload hx hb dX5_barOf_59 (lv_at hl 0 rfl) ?_
            refine kx_get (v := .long (g (2 * k + 1))) hx hb hts hinX3 hown hK (hM.mv (m := k) (by omega)) rfl 6 (by decide) (by decide +kernel) rfl dX5_barOf_61 ?_
            refine kx_cl (x := g (2 * k + 1)) (y := lN (csN e true k)) (hG k (by first | assumption | omega)).2 ?_
            refine kl_or hx hb dX5_barOf_64 ?_
            refine kl_or hx hb dX5_barOf_65 ?_
            refine lv_lstore (lv' := [(4, .long (lN ((awK e k) ||| ((csN e false k) ||| (csN e true k))))), (9, .ref (q + 11 + 2 * k)), (0, .ref (q)), (1, .int (nI (x))), (2, .long (lN (2 ^ x))), (6, .long (lN (owK e k))), (8, .int (nI (k)))]) hx hb dX5_barOf_66 hl (by decide) rfl (fun ls hl => ?_)
            refine lv_aload hx hb dX5_barOf_68 (lv_at hl 1 rfl) ?_
            refine kx_get (v := .int (e (80 + 10 * k + 5))) hx hb hts hinX3 hown hK (hM.mv (m := k) (by omega)) rfl 7 (by decide) (by decide +kernel) rfl dX5_barOf_70 ?_
            refine kx_ci (x := e (80 + 10 * k + 5)) (y := nI (mS e k)) (Inv.m5 hI (by first | assumption | omega)) ?_
            refine lv_iconst (v := nI 1) hx hb dX5_barOf_73 (by decide) ?_
            refine kn_icmp_ne (tgt := 87) hx hb dX5_barOf_74 (by decide) (by omega) (by decide) (fun c_4 => ?_) (fun c_4 => ?_)
            · refine lv_iinc (v := nI (k + 1)) (lv' := [(8, .int (nI (k + 1))), (4, .long (lN ((awK e k) ||| ((csN e false k) ||| (csN e true k))))), (9, .ref (q + 11 + 2 * k)), (0, .ref (q)), (1, .int (nI (x))), (2, .long (lN (2 ^ x))), (6, .long (lN (owK e k)))]) (k := 6) hx hb dX5_barOf_87 hl rfl (nI_add _ _) (by decide) rfl (fun ls hl => ?_)
              refine lv_goto (tgt := 26) hx hb dX5_barOf_90 (by decide) ?_
              have hl : lv_has ls 10 [(8, .int (nI (k + 1))), (4, .long (lN (awK e (k + 1)))), (9, .ref (q + 11 + 2 * k)), (0, .ref (q)), (1, .int (nI (x))), (2, .long (lN (2 ^ x))), (6, .long (lN (owK e k)))] := by rw [show (awK e (k + 1)) = ((awK e k) ||| ((csN e false k) ||| (csN e true k))) from (by rw [awK_s]; first | (simp [*]; done) | (exfalso; omega))]; exact hl
              have hl : lv_has ls 10 [(8, .int (nI (k + 1))), (4, .long (lN (awK e (k + 1)))), (9, .ref (q + 11 + 2 * k)), (0, .ref (q)), (1, .int (nI (x))), (2, .long (lN (2 ^ x))), (6, .long (lN (owK e (k + 1))))] := by rw [show (owK e (k + 1)) = (owK e k) from (by rw [owK_s]; first | (simp [*]; done) | (exfalso; omega))]; exact hl
              exact ih26 (k + 1) _ (by omega) (by omega) (lv_sub hl [3, 4, 5, 1, 6, 0] rfl)
            · refine lv_lload hx hb dX5_barOf_77 (lv_at hl 5 rfl) ?_
              refine lv_aload hx hb dX5_barOf_79 (lv_at hl 1 rfl) ?_
              refine kx_get (v := .long (g (2 * k + 1))) hx hb hts hinX3 hown hK (hM.mv (m := k) (by omega)) rfl 6 (by decide) (by decide +kernel) rfl dX5_barOf_81 ?_
              refine kx_cl (x := g (2 * k + 1)) (y := lN (csN e true k)) (hG k (by first | assumption | omega)).2 ?_
              refine kl_or hx hb dX5_barOf_84 ?_
              refine lv_lstore (lv' := [(6, .long (lN ((owK e k) ||| (csN e true k)))), (4, .long (lN ((awK e k) ||| ((csN e false k) ||| (csN e true k))))), (9, .ref (q + 11 + 2 * k)), (0, .ref (q)), (1, .int (nI (x))), (2, .long (lN (2 ^ x))), (8, .int (nI (k)))]) hx hb dX5_barOf_85 hl (by decide) rfl (fun ls hl => ?_)
              refine lv_iinc (v := nI (k + 1)) (lv' := [(8, .int (nI (k + 1))), (6, .long (lN ((owK e k) ||| (csN e true k)))), (4, .long (lN ((awK e k) ||| ((csN e false k) ||| (csN e true k))))), (9, .ref (q + 11 + 2 * k)), (0, .ref (q)), (1, .int (nI (x))), (2, .long (lN (2 ^ x)))]) (k := 6) hx hb dX5_barOf_87 hl rfl (nI_add _ _) (by decide) rfl (fun ls hl => ?_)
              refine lv_goto (tgt := 26) hx hb dX5_barOf_90 (by decide) ?_
              have hl : lv_has ls 10 [(8, .int (nI (k + 1))), (6, .long (lN ((owK e k) ||| (csN e true k)))), (4, .long (lN (awK e (k + 1)))), (9, .ref (q + 11 + 2 * k)), (0, .ref (q)), (1, .int (nI (x))), (2, .long (lN (2 ^ x)))] := by rw [show (awK e (k + 1)) = ((awK e k) ||| ((csN e false k) ||| (csN e true k))) from (by rw [awK_s]; first | (simp [*]; done) | (exfalso; omega))]; exact hl
              have hl : lv_has ls 10 [(8, .int (nI (k + 1))), (6, .long (lN (owK e (k + 1)))), (4, .long (lN (awK e (k + 1)))), (9, .ref (q + 11 + 2 * k)), (0, .ref (q)), (1, .int (nI (x))), (2, .long (lN (2 ^ x)))] := by rw [show (owK e (k + 1)) = ((owK e k) ||| (csN e true k)) from (by rw [owK_s]; first | (simp [*]; done) | (exfalso; omega))]; exact hl
              exact ih26 (k + 1) _ (by omega) (by omega) (lv_sub hl [4, 5, 6, 2, 1, 0] rfl)
    exact J26 _ 0 _ (Nat.lt_succ_self _) (by omega) (lv_sub hl [4, 5, 3, 2, 1, 0] rfl)
  · refine lv_iconst (v := nI 1) hx hb dX5_barOf_15 (by decide) ?_
    exact kx_iretP hx hb hrt hlk (congrArg nI (by unfold barN; rw [if_pos c12])) dX5_barOf_16
set_option maxHeartbeats 2500000 in
set_option maxRecDepth 100000 in
theorem k_X5_waitedFor (l : Launch) (D : va_G) (cs : Nat → ClassId) (q : Nat) (e : Nat → Int32) (g : Nat → Int64) (mv : Nat) (hI : Inv e) (hG : Msk e g) (hm : mv < Mn e) : Met l yX5_waitedFor wsX5_waitedFor ({ frames := 1, cells := 0, slots := 0, locals := 21 } : Room) (PcK D cs [.ref (q), .int (nI (mv))] (fun H => StC D cs q e g H)) (QcP (some (.int (nI (woN e mv))))) 0 0 nowhere := by
  refine kx_met (cc := cX5_waitedFor) (maxL := 5) (ret := (some .int)) (by decide) rfl (Nat.le_of_ble_eq_true rfl) ?_
  intro p en s m args below meth c hx hb hml hrt hts hown hlk hK hN hP ls hl
  have hl : lv_has ls 5 [(0, .ref (q)), (1, .int (nI (mv)))] := hl
  have hinX3 : ∀ w ∈ wsX30, w ∈ wsX5_waitedFor := by decide +kernel
  have hinX5 : ∀ w ∈ wsX50, w ∈ wsX5_waitedFor := by decide +kernel
  have hM := hP
  have h24 := hI.M24
  have h6 := hI.R6
  have hs3 := hI.s3 hm
  have hc16 := hI.c16 hm
  have hwc := hI.wc hm
  refine lv_aload_n hx hb dX5_waitedFor_0 rfl (lv_at hl 0 rfl) ?_
  refine kx_get (v := .ref (q + 3)) hx hb hts hinX5 hown hK hM.obj rfl 2 (by decide) (by decide +kernel) rfl dX5_waitedFor_1 ?_
  refine lv_iload_n hx hb dX5_waitedFor_4 rfl (lv_at hl 1 rfl) ?_
  refine kx_aald (i := mv) hx hb hK hM.moves 3 rfl (by omega) (by decide) rfl dX5_waitedFor_5 ?_
  refine lv_astore_n (lv' := [(2, .ref (q + 11 + 2 * mv)), (0, .ref (q)), (1, .int (nI (mv)))]) hx hb dX5_waitedFor_6 rfl hl (by decide) rfl (fun ls hl => ?_)
  refine lv_aload_n hx hb dX5_waitedFor_7 rfl (lv_at hl 0 rfl) ?_
  refine kx_get (v := .int (e (80 + 10 * mv + 5))) hx hb hts hinX3 hown hK (hM.mv (m := mv) (by omega)) rfl 7 (by decide) (by decide +kernel) rfl dX5_waitedFor_8 ?_
  refine kx_ci (x := e (80 + 10 * mv + 5)) (y := nI (mS e mv)) (Inv.m5 hI (by first | assumption | omega)) ?_
  refine kn_if_eq (tgt := 16) hx hb dX5_waitedFor_11 (by decide) (by omega) (fun c_1 => ?_) (fun c_1 => ?_)
  · refine lv_iconst (v := nI 0) hx hb dX5_waitedFor_16 (by decide) ?_
    refine lv_istore_n (lv' := [(3, .int (nI (0))), (2, .ref (q + 11 + 2 * mv)), (0, .ref (q)), (1, .int (nI (mv)))]) hx hb dX5_waitedFor_17 rfl hl (by decide) rfl (fun ls hl => ?_)
    refine lv_iconst (v := nI 0) hx hb dX5_waitedFor_18 (by decide) ?_
    refine lv_istore (lv' := [(4, .int (nI (0))), (3, .int (nI (0))), (2, .ref (q + 11 + 2 * mv)), (0, .ref (q)), (1, .int (nI (mv)))]) hx hb dX5_waitedFor_19 hl (by decide) rfl (fun ls hl => ?_)
    have J21 : ∀ (fu21 : Nat) (k : Nat) (ls : Array Slot), (mv - k) < fu21 → (k ≤ mv) → lv_has ls 5 [(0, .ref (q)), (1, .int (nI (mv))), (2, .ref (q + 11 + 2 * mv)), (3, .int (nI (woK e mv k))), (4, .int (nI (k)))] → W p l en ({ frames := 1, cells := 0, slots := 0, locals := 21 } : Room) s m args below meth c s.heap [] 0 0 (MQ below (QcP (some (.int (nI (woN e mv))))) args s 0 0 nowhere) (F0 m 21 ls []) := by
      intro fu21; induction fu21 with
      | zero => intro k ls hmu21 hk hl; exact absurd hmu21 (Nat.not_lt_zero _)
      | succ fu21 ih21 =>
        intro k ls hmu21 hk hl
        refine lv_iload hx hb dX5_waitedFor_21 (lv_at hl 4 rfl) ?_
        refine lv_iload_n hx hb dX5_waitedFor_23 rfl (lv_at hl 1 rfl) ?_
        refine kn_icmp_ge (tgt := 54) hx hb dX5_waitedFor_24 (by decide) (by omega) (by omega) (fun c_2 => ?_) (fun c_2 => ?_)
        · refine lv_iload_n hx hb dX5_waitedFor_54 rfl (lv_at hl 3 rfl) ?_
          exact kx_iretP hx hb hrt hlk (by rw [show k = mv by omega]; unfold woN; rw [if_pos (by assumption)]) dX5_waitedFor_55
        · refine lv_aload_n hx hb dX5_waitedFor_27 rfl (lv_at hl 2 rfl) ?_
          refine lv_aload_n hx hb dX5_waitedFor_28 rfl (lv_at hl 0 rfl) ?_
          refine kx_get (v := .ref (q + 3)) hx hb hts hinX5 hown hK hM.obj rfl 2 (by decide) (by decide +kernel) rfl dX5_waitedFor_29 ?_
          refine lv_iload hx hb dX5_waitedFor_32 (lv_at hl 4 rfl) ?_
          refine kx_aald (i := k) hx hb hK hM.moves 3 rfl (by omega) (by decide) rfl dX5_waitedFor_34 ?_
          refine kx_retP (va_runV (As := [.ref (q + 11 + 2 * k)]) (rest := []) ⟨hx, hb, hml, hown, hts⟩ (k_X3_waitsBehind l D cs q e g mv k hI hG (by first | assumption | omega) (by omega)) (cwV 1 hts gX5_waitedFor_X3_waitsBehind rfl rfl rfl (by decide +kernel) ⟨Nat.le_of_ble_eq_true rfl, Nat.le_of_ble_eq_true rfl⟩) (kx_preV hK hN (hM.mv (m := mv) (by omega)) rfl hM) rfl rfl hl.1 rfl (lv_room (Nat.le_of_ble_eq_true rfl)) dX5_waitedFor_35 ⟨Nat.le_of_ble_eq_true rfl, Nat.le_of_ble_eq_true rfl⟩) ?_
          refine kb_if_eq (tgt := 48) hx hb dX5_waitedFor_38 (by decide) (fun hwb => ?_) (fun hwb => ?_)
          · refine lv_iinc (v := nI (k + 1)) (lv' := [(4, .int (nI (k + 1))), (0, .ref (q)), (1, .int (nI (mv))), (2, .ref (q + 11 + 2 * mv)), (3, .int (nI (woK e mv k)))]) (k := 4) hx hb dX5_waitedFor_48 hl rfl (nI_add _ _) (by decide) rfl (fun ls hl => ?_)
            refine lv_goto (tgt := 21) hx hb dX5_waitedFor_51 (by decide) ?_
            have hs9 := hI.s3 (m := k) (by omega)
            have hl : lv_has ls 5 [(4, .int (nI (k + 1))), (0, .ref (q)), (1, .int (nI (mv))), (2, .ref (q + 11 + 2 * mv)), (3, .int (nI (woK e mv (k + 1))))] := by rw [show (woK e mv (k + 1)) = (woK e mv k) from (by rw [woK_s, ← wmB_is hs9]; simp [*])]; exact hl
            exact ih21 (k + 1) _ (by omega) (by omega) (lv_sub hl [1, 2, 3, 4, 0] rfl)
          · refine lv_iload_n hx hb dX5_waitedFor_41 rfl (lv_at hl 3 rfl) ?_
            refine lv_iconst (v := nI 1) hx hb dX5_waitedFor_42 (by decide) ?_
            refine lv_iload hx hb dX5_waitedFor_43 (lv_at hl 4 rfl) ?_
            refine kn_bit hx hb (by omega) dX5_waitedFor_45 ?_
            refine kn_or hx hb dX5_waitedFor_46 ?_
            refine lv_istore_n (lv' := [(3, .int (nI ((woK e mv k) ||| (2 ^ k)))), (0, .ref (q)), (1, .int (nI (mv))), (2, .ref (q + 11 + 2 * mv)), (4, .int (nI (k)))]) hx hb dX5_waitedFor_47 rfl hl (by decide) rfl (fun ls hl => ?_)
            refine lv_iinc (v := nI (k + 1)) (lv' := [(4, .int (nI (k + 1))), (3, .int (nI ((woK e mv k) ||| (2 ^ k)))), (0, .ref (q)), (1, .int (nI (mv))), (2, .ref (q + 11 + 2 * mv))]) (k := 4) hx hb dX5_waitedFor_48 hl rfl (nI_add _ _) (by decide) rfl (fun ls hl => ?_)
            refine lv_goto (tgt := 21) hx hb dX5_waitedFor_51 (by decide) ?_
            have hs9 := hI.s3 (m := k) (by omega)
            have hl : lv_has ls 5 [(4, .int (nI (k + 1))), (3, .int (nI (woK e mv (k + 1)))), (0, .ref (q)), (1, .int (nI (mv))), (2, .ref (q + 11 + 2 * mv))] := by rw [show (woK e mv (k + 1)) = ((woK e mv k) ||| (2 ^ k)) from (by rw [woK_s, ← wmB_is hs9]; simp [*])]; exact hl
            exact ih21 (k + 1) _ (by omega) (by omega) (lv_sub hl [2, 3, 4, 1, 0] rfl)
    exact J21 _ 0 _ (Nat.lt_succ_self _) (by omega) (lv_sub hl [3, 4, 2, 1, 0] rfl)
  · refine lv_iconst (v := nI 0) hx hb dX5_waitedFor_14 (by decide) ?_
    exact kx_iretP hx hb hrt hlk (congrArg nI (by first | (simp [woN, *]; done) | (exfalso; omega) | (exfalso; simp_all; done))) dX5_waitedFor_15
