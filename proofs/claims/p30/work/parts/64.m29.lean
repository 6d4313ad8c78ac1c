set_option maxHeartbeats 2500000 in
set_option maxRecDepth 100000 in
theorem k_J13_bitCount_95d88 (l : Launch) (D : va_G) (cs : Nat → ClassId) (z : Nat) (hz : z < 2 ^ 48) : Met l yJ13_bitCount_95d88 wsJ13_bitCount_95d88 ({ frames := 0, cells := 0, slots := 0, locals := 0 } : Room) (PcK D cs [.long (lN (z))] (fun H => True)) (QcP (some (.int (nI (ppK z 48))))) 0 0 nowhere := by
  refine kx_met (cc := cJ13_bitCount_95d88) (maxL := 2) (ret := (some .int)) (by decide) rfl (Nat.le_of_ble_eq_true rfl) ?_
  intro p en s m args below meth c hx hb hml hrt hts hown hlk hK hN hP ls hl
  have hl : lv_has ls 2 [(0, .long (lN (z)))] := hl
  refine lv_lload_n hx hb dJ13_bitCount_95d88_0 rfl (lv_at hl 0 rfl) ?_
  refine lv_lload_n hx hb dJ13_bitCount_95d88_1 rfl (lv_at hl 0 rfl) ?_
  refine lv_iconst (v := nI 1) hx hb dJ13_bitCount_95d88_2 (by decide) ?_
  refine kl_ushr hx hb (by omega) (by decide) dJ13_bitCount_95d88_3 ?_
  refine lv_ldc2 (v := lN 6148914691236517205) hx hb hown (hts (.constantLong RJ13 314 (lN 6148914691236517205)) (by decide +kernel)) dJ13_bitCount_95d88_4 ?_
  refine kl_and hx hb dJ13_bitCount_95d88_7 ?_
  refine kl_sub hx hb (Nat.le_trans Nat.and_le_left (Nat.div_le_self _ _)) dJ13_bitCount_95d88_8 ?_
  refine lv_lstore_n (lv' := [(0, .long (lN (z - ((z / 2 ^ 1) &&& 6148914691236517205))))]) hx hb dJ13_bitCount_95d88_9 rfl hl (by decide) rfl (fun ls hl => ?_)
  obtain ⟨x1, hx1⟩ : ∃ x1, x1 = z - ((z / 2 ^ 1) &&& 6148914691236517205) := ⟨_, rfl⟩
  rw [← hx1] at hl
  have hl : lv_has ls 2 [(0, .long (lN (x1)))] := hl
  have bx1 : x1 < 2 ^ 48 := (by omega)
  refine lv_lload_n hx hb dJ13_bitCount_95d88_10 rfl (lv_at hl 0 rfl) ?_
  refine lv_ldc2 (v := lN 3689348814741910323) hx hb hown (hts (.constantLong RJ13 316 (lN 3689348814741910323)) (by decide +kernel)) dJ13_bitCount_95d88_11 ?_
  refine kl_and hx hb dJ13_bitCount_95d88_14 ?_
  refine lv_lload_n hx hb dJ13_bitCount_95d88_15 rfl (lv_at hl 0 rfl) ?_
  refine lv_iconst (v := nI 2) hx hb dJ13_bitCount_95d88_16 (by decide) ?_
  refine kl_ushr hx hb (by omega) (by decide) dJ13_bitCount_95d88_17 ?_
  refine lv_ldc2 (v := lN 3689348814741910323) hx hb hown (hts (.constantLong RJ13 316 (lN 3689348814741910323)) (by decide +kernel)) dJ13_bitCount_95d88_18 ?_
  refine kl_and hx hb dJ13_bitCount_95d88_21 ?_
  refine kl_add hx hb dJ13_bitCount_95d88_22 ?_
  refine lv_lstore_n (lv' := [(0, .long (lN ((x1 &&& 3689348814741910323) + ((x1 / 2 ^ 2) &&& 3689348814741910323))))]) hx hb dJ13_bitCount_95d88_23 rfl hl (by decide) rfl (fun ls hl => ?_)
  obtain ⟨x2, hx2⟩ : ∃ x2, x2 = (x1 &&& 3689348814741910323) + ((x1 / 2 ^ 2) &&& 3689348814741910323) := ⟨_, rfl⟩
  rw [← hx2] at hl
  have hl : lv_has ls 2 [(0, .long (lN (x2)))] := hl
  have bx2 : x2 < 2 ^ 49 := (by have q1 : x1 &&& 3689348814741910323 ≤ x1 := Nat.and_le_left; have q2 : x1 / 2 ^ 2 &&& 3689348814741910323 ≤ x1 / 2 ^ 2 := Nat.and_le_left; omega)
  refine lv_lload_n hx hb dJ13_bitCount_95d88_24 rfl (lv_at hl 0 rfl) ?_
  refine lv_lload_n hx hb dJ13_bitCount_95d88_25 rfl (lv_at hl 0 rfl) ?_
  refine lv_iconst (v := nI 4) hx hb dJ13_bitCount_95d88_26 (by decide) ?_
  refine kl_ushr hx hb (by omega) (by decide) dJ13_bitCount_95d88_27 ?_
  refine kl_add hx hb dJ13_bitCount_95d88_28 ?_
  refine lv_ldc2 (v := lN 1085102592571150095) hx hb hown (hts (.constantLong RJ13 318 (lN 1085102592571150095)) (by decide +kernel)) dJ13_bitCount_95d88_29 ?_
  refine kl_and hx hb dJ13_bitCount_95d88_32 ?_
  refine lv_lstore_n (lv' := [(0, .long (lN ((x2 + (x2 / 2 ^ 4)) &&& 1085102592571150095)))]) hx hb dJ13_bitCount_95d88_33 rfl hl (by decide) rfl (fun ls hl => ?_)
  obtain ⟨x3, hx3⟩ : ∃ x3, x3 = (x2 + (x2 / 2 ^ 4)) &&& 1085102592571150095 := ⟨_, rfl⟩
  rw [← hx3] at hl
  have hl : lv_has ls 2 [(0, .long (lN (x3)))] := hl
  have bx3 : x3 < 2 ^ 50 := (by have q1 : (x2 + x2 / 2 ^ 4) &&& 1085102592571150095 ≤ x2 + x2 / 2 ^ 4 := Nat.and_le_left; omega)
  refine lv_lload_n hx hb dJ13_bitCount_95d88_34 rfl (lv_at hl 0 rfl) ?_
  refine lv_lload_n hx hb dJ13_bitCount_95d88_35 rfl (lv_at hl 0 rfl) ?_
  refine lv_bipush (v := nI 8) hx hb dJ13_bitCount_95d88_36 (by decide) ?_
  refine kl_ushr hx hb (by omega) (by decide) dJ13_bitCount_95d88_38 ?_
  refine kl_add hx hb dJ13_bitCount_95d88_39 ?_
  refine lv_lstore_n (lv' := [(0, .long (lN (x3 + (x3 / 2 ^ 8))))]) hx hb dJ13_bitCount_95d88_40 rfl hl (by decide) rfl (fun ls hl => ?_)
  obtain ⟨x4, hx4⟩ : ∃ x4, x4 = x3 + (x3 / 2 ^ 8) := ⟨_, rfl⟩
  rw [← hx4] at hl
  have hl : lv_has ls 2 [(0, .long (lN (x4)))] := hl
  have bx4 : x4 < 2 ^ 51 := (by omega)
  refine lv_lload_n hx hb dJ13_bitCount_95d88_41 rfl (lv_at hl 0 rfl) ?_
  refine lv_lload_n hx hb dJ13_bitCount_95d88_42 rfl (lv_at hl 0 rfl) ?_
  refine lv_bipush (v := nI 16) hx hb dJ13_bitCount_95d88_43 (by decide) ?_
  refine kl_ushr hx hb (by omega) (by decide) dJ13_bitCount_95d88_45 ?_
  refine kl_add hx hb dJ13_bitCount_95d88_46 ?_
  refine lv_lstore_n (lv' := [(0, .long (lN (x4 + (x4 / 2 ^ 16))))]) hx hb dJ13_bitCount_95d88_47 rfl hl (by decide) rfl (fun ls hl => ?_)
  obtain ⟨x5, hx5⟩ : ∃ x5, x5 = x4 + (x4 / 2 ^ 16) := ⟨_, rfl⟩
  rw [← hx5] at hl
  have hl : lv_has ls 2 [(0, .long (lN (x5)))] := hl
  have bx5 : x5 < 2 ^ 52 := (by omega)
  refine lv_lload_n hx hb dJ13_bitCount_95d88_48 rfl (lv_at hl 0 rfl) ?_
  refine lv_lload_n hx hb dJ13_bitCount_95d88_49 rfl (lv_at hl 0 rfl) ?_
  refine lv_bipush (v := nI 32) hx hb dJ13_bitCount_95d88_50 (by decide) ?_
  refine kl_ushr hx hb (by omega) (by decide) dJ13_bitCount_95d88_52 ?_
  refine kl_add hx hb dJ13_bitCount_95d88_53 ?_
  refine lv_lstore_n (lv' := [(0, .long (lN (x5 + (x5 / 2 ^ 32))))]) hx hb dJ13_bitCount_95d88_54 rfl hl (by decide) rfl (fun ls hl => ?_)
  obtain ⟨x6, hx6⟩ : ∃ x6, x6 = x5 + (x5 / 2 ^ 32) := ⟨_, rfl⟩
  rw [← hx6] at hl
  have hl : lv_has ls 2 [(0, .long (lN (x6)))] := hl
  have bx6 : x6 < 2 ^ 53 := (by omega)
  have hpop : x6 = popN z := by rw [hx6, hx5, hx4, hx3, hx2, hx1]; rfl
  refine lv_lload_n hx hb dJ13_bitCount_95d88_55 rfl (lv_at hl 0 rfl) ?_
  refine kl_l2i hx hb dJ13_bitCount_95d88_56 ?_
  refine lv_bipush (v := nI 127) hx hb dJ13_bitCount_95d88_57 (by decide) ?_
  refine kn_and hx hb dJ13_bitCount_95d88_59 ?_
  exact kx_iretP hx hb hrt hlk (by rw [hpop, (popN_is hz).1]) dJ13_bitCount_95d88_60
set_option maxHeartbeats 2500000 in
set_option maxRecDepth 100000 in
theorem k_X5_wholePart (l : Launch) (D : va_G) (cs : Nat → ClassId) (q : Nat) (e : Nat → Int32) (g : Nat → Int64) (w : Nat) (hI : Inv e) (hG : Msk e g) (hw : w < 14) : Met l yX5_wholePart wsX5_wholePart ({ frames := 2, cells := 0, slots := 0, locals := 43 } : Room) (PcK D cs [.ref (q), .int (nI (w))] (fun H => StC D cs q e g H)) (QcP (some (.int (wvI e w)))) 0 0 nowhere := by
  refine kx_met (cc := cX5_wholePart) (maxL := 2) (ret := (some .int)) (by decide) rfl (Nat.le_of_ble_eq_true rfl) ?_
  intro p en s m args below meth c hx hb hml hrt hts hown hlk hK hN hP ls hl
  have hl : lv_has ls 2 [(0, .ref (q)), (1, .int (nI (w)))] := hl
  have hinX5 : ∀ w ∈ wsX50, w ∈ wsX5_wholePart := by decide +kernel
  have hM := hP
  have h24 := hI.M24
  have h6 := hI.R6
  have hhd := hdN_is hI
  have hhl := hcN_lt e
  refine lv_iload_n hx hb dX5_wholePart_0 rfl (lv_at hl 1 rfl) ?_
  rcases (show w = 0 ∨ w = 1 ∨ w = 2 ∨ w = 3 ∨ w = 4 ∨ w = 5 ∨ w = 6 ∨ w = 7 ∨ w = 8 ∨ w = 9 ∨ w = 10 ∨ w = 11 ∨ w = 12 ∨ w = 13 by omega) with rfl | rfl | rfl | rfl | rfl | rfl | rfl | rfl | rfl | rfl | rfl | rfl | rfl | rfl
  · refine lv_tableIn (off := 67) (tgt := 68) hx hb dX5_wholePart_1 (by decide) (by decide) (by rfl) (by decide) ?_
    refine lv_aload_n hx hb dX5_wholePart_68 rfl (lv_at hl 0 rfl) ?_
    refine kx_get (v := .int (e 3)) hx hb hts hinX5 hown hK hM.obj rfl 4 (by decide) (by decide +kernel) rfl dX5_wholePart_69 ?_
    refine kx_ci (x := e 3) (y := nI (Rn e)) (Inv.z3 hI) ?_
    exact kx_iretP hx hb hrt hlk (by simp [wvI]) dX5_wholePart_72
  · refine lv_tableIn (off := 72) (tgt := 73) hx hb dX5_wholePart_1 (by decide) (by decide) (by rfl) (by decide) ?_
    refine lv_aload_n hx hb dX5_wholePart_73 rfl (lv_at hl 0 rfl) ?_
    refine kx_get (v := .int (e 4)) hx hb hts hinX5 hown hK hM.obj rfl 5 (by decide) (by decide +kernel) rfl dX5_wholePart_74 ?_
    refine kx_ci (x := e 4) (y := nI (Mn e)) (Inv.z4 hI) ?_
    exact kx_iretP hx hb hrt hlk (by simp [wvI]) dX5_wholePart_77
  · refine lv_tableIn (off := 77) (tgt := 78) hx hb dX5_wholePart_1 (by decide) (by decide) (by rfl) (by decide) ?_
    refine lv_aload_n hx hb dX5_wholePart_78 rfl (lv_at hl 0 rfl) ?_
    refine lv_iload_n hx hb dX5_wholePart_79 rfl (lv_at hl 1 rfl) ?_
    refine lv_iconst (v := nI 2) hx hb dX5_wholePart_80 (by decide) ?_
    refine kn_sub hx hb (by omega) dX5_wholePart_81 ?_
    refine kx_retP (va_runV (As := [.int (nI (2 - 2))]) (rest := []) ⟨hx, hb, hml, hown, hts⟩ (k_X5_countIn l D cs q e g (2 - 2) hI (by decide)) (cwV 1 hts gX5_wholePart_X5_countIn rfl rfl rfl (by decide +kernel) ⟨Nat.le_of_ble_eq_true rfl, Nat.le_of_ble_eq_true rfl⟩) (kx_preV hK hN hM.obj rfl hM) rfl rfl hl.1 rfl (lv_room (Nat.le_of_ble_eq_true rfl)) dX5_wholePart_82 ⟨Nat.le_of_ble_eq_true rfl, Nat.le_of_ble_eq_true rfl⟩) ?_
    exact kx_iretP hx hb hrt hlk (by simp [wvI]) dX5_wholePart_85
  · refine lv_tableIn (off := 77) (tgt := 78) hx hb dX5_wholePart_1 (by decide) (by decide) (by rfl) (by decide) ?_
    refine lv_aload_n hx hb dX5_wholePart_78 rfl (lv_at hl 0 rfl) ?_
    refine lv_iload_n hx hb dX5_wholePart_79 rfl (lv_at hl 1 rfl) ?_
    refine lv_iconst (v := nI 2) hx hb dX5_wholePart_80 (by decide) ?_
    refine kn_sub hx hb (by omega) dX5_wholePart_81 ?_
    refine kx_retP (va_runV (As := [.int (nI (3 - 2))]) (rest := []) ⟨hx, hb, hml, hown, hts⟩ (k_X5_countIn l D cs q e g (3 - 2) hI (by decide)) (cwV 1 hts gX5_wholePart_X5_countIn rfl rfl rfl (by decide +kernel) ⟨Nat.le_of_ble_eq_true rfl, Nat.le_of_ble_eq_true rfl⟩) (kx_preV hK hN hM.obj rfl hM) rfl rfl hl.1 rfl (lv_room (Nat.le_of_ble_eq_true rfl)) dX5_wholePart_82 ⟨Nat.le_of_ble_eq_true rfl, Nat.le_of_ble_eq_true rfl⟩) ?_
    exact kx_iretP hx hb hrt hlk (by simp [wvI]) dX5_wholePart_85
  · refine lv_tableIn (off := 77) (tgt := 78) hx hb dX5_wholePart_1 (by decide) (by decide) (by rfl) (by decide) ?_
    refine lv_aload_n hx hb dX5_wholePart_78 rfl (lv_at hl 0 rfl) ?_
    refine lv_iload_n hx hb dX5_wholePart_79 rfl (lv_at hl 1 rfl) ?_
    refine lv_iconst (v := nI 2) hx hb dX5_wholePart_80 (by decide) ?_
    refine kn_sub hx hb (by omega) dX5_wholePart_81 ?_
    refine kx_retP (va_runV (As := [.int (nI (4 - 2))]) (rest := []) ⟨hx, hb, hml, hown, hts⟩ (k_X5_countIn l D cs q e g (4 - 2) hI (by decide)) (cwV 1 hts gX5_wholePart_X5_countIn rfl rfl rfl (by decide +kernel) ⟨Nat.le_of_ble_eq_true rfl, Nat.le_of_ble_eq_true rfl⟩) (kx_preV hK hN hM.obj rfl hM) rfl rfl hl.1 rfl (lv_room (Nat.le_of_ble_eq_true rfl)) dX5_wholePart_82 ⟨Nat.le_of_ble_eq_true rfl, Nat.le_of_ble_eq_true rfl⟩) ?_
    exact kx_iretP hx hb hrt hlk (by simp [wvI]) dX5_wholePart_85
  · refine lv_tableIn (off := 77) (tgt := 78) hx hb dX5_wholePart_1 (by decide) (by decide) (by rfl) (by decide) ?_
    refine lv_aload_n hx hb dX5_wholePart_78 rfl (lv_at hl 0 rfl) ?_
    refine lv_iload_n hx hb dX5_wholePart_79 rfl (lv_at hl 1 rfl) ?_
    refine lv_iconst (v := nI 2) hx hb dX5_wholePart_80 (by decide) ?_
    refine kn_sub hx hb (by omega) dX5_wholePart_81 ?_
    refine kx_retP (va_runV (As := [.int (nI (5 - 2))]) (rest := []) ⟨hx, hb, hml, hown, hts⟩ (k_X5_countIn l D cs q e g (5 - 2) hI (by decide)) (cwV 1 hts gX5_wholePart_X5_countIn rfl rfl rfl (by decide +kernel) ⟨Nat.le_of_ble_eq_true rfl, Nat.le_of_ble_eq_true rfl⟩) (kx_preV hK hN hM.obj rfl hM) rfl rfl hl.1 rfl (lv_room (Nat.le_of_ble_eq_true rfl)) dX5_wholePart_82 ⟨Nat.le_of_ble_eq_true rfl, Nat.le_of_ble_eq_true rfl⟩) ?_
    exact kx_iretP hx hb hrt hlk (by simp [wvI]) dX5_wholePart_85
  · refine lv_tableIn (off := 85) (tgt := 86) hx hb dX5_wholePart_1 (by decide) (by decide) (by rfl) (by decide) ?_
    refine lv_aload_n hx hb dX5_wholePart_86 rfl (lv_at hl 0 rfl) ?_
    refine kx_get (v := .int (e 1)) hx hb hts hinX5 hown hK hM.obj rfl 6 (by decide) (by decide +kernel) rfl dX5_wholePart_87 ?_
    refine kx_ci (x := e 1) (y := nI (Sp e)) (Inv.z1 hI) ?_
    exact kx_iretP hx hb hrt hlk (by simp [wvI]) dX5_wholePart_90
  · refine lv_tableIn (off := 90) (tgt := 91) hx hb dX5_wholePart_1 (by decide) (by decide) (by rfl) (by decide) ?_
    refine lv_aload_n hx hb dX5_wholePart_91 rfl (lv_at hl 0 rfl) ?_
    refine kx_get (v := .int (e 2)) hx hb hts hinX5 hown hK hM.obj rfl 7 (by decide) (by decide +kernel) rfl dX5_wholePart_92 ?_
    exact kx_iretP hx hb hrt hlk (by simp [wvI]) dX5_wholePart_95
  · refine lv_tableIn (off := 95) (tgt := 96) hx hb dX5_wholePart_1 (by decide) (by decide) (by rfl) (by decide) ?_
    refine lv_aload_n hx hb dX5_wholePart_96 rfl (lv_at hl 0 rfl) ?_
    refine kx_get (v := .int (e 0)) hx hb hts hinX5 hown hK hM.obj rfl 8 (by decide) (by decide +kernel) rfl dX5_wholePart_97 ?_
    exact kx_iretP hx hb hrt hlk (by simp [wvI]) dX5_wholePart_100
  · refine lv_tableIn (off := 100) (tgt := 101) hx hb dX5_wholePart_1 (by decide) (by decide) (by rfl) (by decide) ?_
    refine lv_aload_n hx hb dX5_wholePart_101 rfl (lv_at hl 0 rfl) ?_
    refine kx_retP (va_runV (As := []) (rest := []) ⟨hx, hb, hml, hown, hts⟩ (k_X5_heldCells l D cs q e g hI hG) (cwV 0 hts gX5_wholePart_X5_heldCells rfl rfl rfl (by decide +kernel) ⟨Nat.le_of_ble_eq_true rfl, Nat.le_of_ble_eq_true rfl⟩) (kx_preV hK hN hM.obj rfl hM) rfl rfl hl.1 rfl (lv_room (Nat.le_of_ble_eq_true rfl)) dX5_wholePart_102 ⟨Nat.le_of_ble_eq_true rfl, Nat.le_of_ble_eq_true rfl⟩) ?_
    refine kx_retP (va_runS (As := [.long (lN (hdN e))]) (rest := []) ⟨hx, hb, hml, hown, hts⟩ (k_J13_bitCount_95d88 l D cs (hdN e) (by rw [hhd]; exact hhl)) (va_cwS 1 hts gX5_wholePart_J13_bitCount_95d88 rfl rfl rfl (by decide +kernel) ⟨Nat.le_of_ble_eq_true rfl, Nat.le_of_ble_eq_true rfl⟩) (kx_preS hK hN trivial) rfl rfl hl.1 rfl (lv_room (Nat.le_of_ble_eq_true rfl)) dX5_wholePart_105 ⟨Nat.le_of_ble_eq_true rfl, Nat.le_of_ble_eq_true rfl⟩) ?_
    exact kx_iretP hx hb hrt hlk (by simp [wvI, hhd]) dX5_wholePart_108
  · refine lv_tableIn (off := 108) (tgt := 109) hx hb dX5_wholePart_1 (by decide) (by decide) (by rfl) (by decide) ?_
    refine lv_aload_n hx hb dX5_wholePart_109 rfl (lv_at hl 0 rfl) ?_
    refine kx_get (v := .int (e 5)) hx hb hts hinX5 hown hK hM.obj rfl 9 (by decide) (by decide +kernel) rfl dX5_wholePart_110 ?_
    exact kx_iretP hx hb hrt hlk (by simp [wvI]) dX5_wholePart_113
  · refine lv_tableIn (off := 113) (tgt := 114) hx hb dX5_wholePart_1 (by decide) (by decide) (by rfl) (by decide) ?_
    refine lv_aload_n hx hb dX5_wholePart_114 rfl (lv_at hl 0 rfl) ?_
    refine kx_get (v := .int (e 6)) hx hb hts hinX5 hown hK hM.obj rfl 10 (by decide) (by decide +kernel) rfl dX5_wholePart_115 ?_
    exact kx_iretP hx hb hrt hlk (by simp [wvI]) dX5_wholePart_118
  · refine lv_tableIn (off := 118) (tgt := 119) hx hb dX5_wholePart_1 (by decide) (by decide) (by rfl) (by decide) ?_
    refine lv_aload_n hx hb dX5_wholePart_119 rfl (lv_at hl 0 rfl) ?_
    refine kx_get (v := .int (e 7)) hx hb hts hinX5 hown hK hM.obj rfl 11 (by decide) (by decide +kernel) rfl dX5_wholePart_120 ?_
    exact kx_iretP hx hb hrt hlk (by simp [wvI]) dX5_wholePart_123
  · refine lv_tableOut (tgt := 124) hx hb dX5_wholePart_1 (by decide) (by decide) ?_
    refine lv_aload_n hx hb dX5_wholePart_124 rfl (lv_at hl 0 rfl) ?_
    refine lv_iconst (v := nI 0) hx hb dX5_wholePart_125 (by decide) ?_
    refine lv_bipush (v := nI 48) hx hb dX5_wholePart_126 (by decide) ?_
    refine kx_retP (va_runV (As := [.int (nI (0)), .int (nI (48))]) (rest := []) ⟨hx, hb, hml, hown, hts⟩ (k_X5_sumOf l D cs q e g 0 48 (by first | assumption | omega)) (cwV 2 hts gX5_wholePart_X5_sumOf rfl rfl rfl (by decide +kernel) ⟨Nat.le_of_ble_eq_true rfl, Nat.le_of_ble_eq_true rfl⟩) (kx_preV hK hN hM.obj rfl hM) rfl rfl hl.1 rfl (lv_room (Nat.le_of_ble_eq_true rfl)) dX5_wholePart_128 ⟨Nat.le_of_ble_eq_true rfl, Nat.le_of_ble_eq_true rfl⟩) ?_
    exact kx_iretP hx hb hrt hlk (by simp [wvI]) dX5_wholePart_131
