set_option maxHeartbeats 2500000 in
set_option maxRecDepth 100000 in
theorem k_X7_requireCellT (l : Launch) (D : va_G) (cs : Nat → ClassId) (w : Int32) (hw : wiB w (nI 0) (nI 47) = false) (L : Nat) (hl9 : l.stackTraces = false) : vx_Met l yX7_requireCell wsX7_requireCell ({ frames := 6, cells := 1, slots := 6, locals := 82 } : Room) (PcX D cs L [.int (w)] (fun H => True)) QcF (XCh ("java/lang/IndexOutOfBoundsException")) 1 6 nowhere := by
  refine kx_metX (cc := cX7_requireCell) (maxL := 1) (ret := none) (by decide) rfl (Nat.le_of_ble_eq_true rfl) ?_
  intro p en s m args below meth c hx hb hml hrt hts hown hlk hK hN hX hT hP ls hl
  have hl : lv_has ls 1 [(0, .int (w))] := hl
  refine lv_iload_n hx hb dX7_requireCell_0 rfl (lv_at hl 0 rfl) ?_
  refine kx_retP (va_runS (As := [.int (w)]) (rest := []) ⟨hx, hb, hml, hown, hts⟩ (k_X7_isCell l D cs w) (cwS 1 hts gX7_requireCell_X7_isCell rfl rfl rfl (by decide +kernel) ⟨Nat.le_of_ble_eq_true rfl, Nat.le_of_ble_eq_true rfl⟩) (kx_preS hK hN trivial) rfl rfl hl.1 rfl (lv_room (Nat.le_of_ble_eq_true rfl)) dX7_requireCell_1 ⟨Nat.le_of_ble_eq_true rfl, Nat.le_of_ble_eq_true rfl⟩) ?_
  refine kb_if_ne (tgt := 18) hx hb dX7_requireCell_4 (by decide) (fun c4 => ?_) (fun c4 => ?_)
  · exact absurd (hw.symm.trans c4) (by decide)
  · obtain ⟨sa, hstr⟩ := hX.2.2.1 (273, "no such cell") (by decide)
    exact vx_throwSW (own := RX7) (ik := 109) (A := fun x => L ≤ x) hx hb hl9 hown (by decide +kernel) (by decide +kernel) (hts (.classLink RX7 109 "java/lang/IndexOutOfBoundsException") (by decide +kernel)) (hts (.initialized "java/lang/IndexOutOfBoundsException") (by decide +kernel)) hstr (vx_hat (B := xkB "java/lang/IndexOutOfBoundsException") (fun w hw => hts w ((by decide +kernel : ∀ w ∈ (vx_atS RX7 113 "java/lang/IndexOutOfBoundsException" ["java/lang/RuntimeException", "java/lang/Exception"]).filter goodWord, w ∈ wsX7_requireCell) w hw)) (by rw [xk_a]; exact fun w h => h) (hX.bad (X := "java/lang/IndexOutOfBoundsException") (by decide))) (by intro w hw; rcases List.mem_cons.mp hw with rfl | hw; rfl; rcases List.mem_cons.mp hw with rfl | hw; rfl; exact xg_a w hw) hX.2.2.2.1 hX.2.2.2.2 va_S.rf (hl.1.trans hml.symm) dX7_requireCell_7 dX7_requireCell_10 dX7_requireCell_11 dX7_requireCell_14 dX7_requireCell_17 (fun x hx => (hT x hx).elim) (Nat.le_of_ble_eq_true rfl) (Nat.le_of_ble_eq_true rfl) (Nat.le_of_ble_eq_true rfl) (Nat.le_of_ble_eq_true rfl) hlk (fun t hal hsz hq => ⟨rfl, hsz, fun q h1 _ => hq q h1⟩) (fun z hz => nomatch hz) (Nat.le_refl _) (Nat.le_refl _)
set_option maxHeartbeats 2500000 in
set_option maxRecDepth 100000 in
theorem k_X7_requireRangeT (l : Launch) (D : va_G) (cs : Nat → ClassId) (v : Int32) (w : Nat) (hw : wiB v (nI 0) (nI w) = false) (L : Nat) (hl9 : l.stackTraces = false) : vx_Met l yX7_requireRange wsX7_requireRange ({ frames := 6, cells := 1, slots := 6, locals := 82 } : Room) (PcX D cs L [.int (v), .int (nI (w))] (fun H => True)) QcF (XCh ("java/lang/IllegalArgumentException")) 1 6 nowhere := by
  refine kx_metX (cc := cX7_requireRange) (maxL := 2) (ret := none) (by decide) rfl (Nat.le_of_ble_eq_true rfl) ?_
  intro p en s m args below meth c hx hb hml hrt hts hown hlk hK hN hX hT hP ls hl
  have hl : lv_has ls 2 [(0, .int (v)), (1, .int (nI (w)))] := hl
  refine lv_iload_n hx hb dX7_requireRange_0 rfl (lv_at hl 0 rfl) ?_
  refine lv_iconst (v := nI 0) hx hb dX7_requireRange_1 (by decide) ?_
  refine lv_iload_n hx hb dX7_requireRange_2 rfl (lv_at hl 1 rfl) ?_
  refine kx_retP (va_runS (As := [.int (v), .int (nI (0)), .int (nI (w))]) (rest := []) ⟨hx, hb, hml, hown, hts⟩ (k_X7_isWithin l D cs v (nI (0)) (nI (w))) (cwS 3 hts gX7_requireRange_X7_isWithin rfl rfl rfl (by decide +kernel) ⟨Nat.le_of_ble_eq_true rfl, Nat.le_of_ble_eq_true rfl⟩) (kx_preS hK hN trivial) rfl rfl hl.1 rfl (lv_room (Nat.le_of_ble_eq_true rfl)) dX7_requireRange_3 ⟨Nat.le_of_ble_eq_true rfl, Nat.le_of_ble_eq_true rfl⟩) ?_
  refine kb_if_ne (tgt := 20) hx hb dX7_requireRange_6 (by decide) (fun c6 => ?_) (fun c6 => ?_)
  · exact absurd (hw.symm.trans c6) (by decide)
  · obtain ⟨sa, hstr⟩ := hX.2.2.1 (266, "out of range") (by decide)
    exact vx_throwSW (own := RX7) (ik := 135) (A := fun x => L ≤ x) hx hb hl9 hown (by decide +kernel) (by decide +kernel) (hts (.classLink RX7 135 "java/lang/IllegalArgumentException") (by decide +kernel)) (hts (.initialized "java/lang/IllegalArgumentException") (by decide +kernel)) hstr (vx_hat (B := xkB "java/lang/IllegalArgumentException") (fun w hw => hts w ((by decide +kernel : ∀ w ∈ (vx_atS RX7 139 "java/lang/IllegalArgumentException" ["java/lang/RuntimeException", "java/lang/Exception"]).filter goodWord, w ∈ wsX7_requireRange) w hw)) (by rw [xk_b]; exact fun w h => h) (hX.bad (X := "java/lang/IllegalArgumentException") (by decide))) (by intro w hw; rcases List.mem_cons.mp hw with rfl | hw; rfl; rcases List.mem_cons.mp hw with rfl | hw; rfl; exact xg_b w hw) hX.2.2.2.1 hX.2.2.2.2 va_S.rf (hl.1.trans hml.symm) dX7_requireRange_9 dX7_requireRange_12 dX7_requireRange_13 dX7_requireRange_16 dX7_requireRange_19 (fun x hx => (hT x hx).elim) (Nat.le_of_ble_eq_true rfl) (Nat.le_of_ble_eq_true rfl) (Nat.le_of_ble_eq_true rfl) (Nat.le_of_ble_eq_true rfl) hlk (fun t hal hsz hq => ⟨rfl, hsz, fun q h1 _ => hq q h1⟩) (fun z hz => nomatch hz) (Nat.le_refl _) (Nat.le_refl _)
set_option maxHeartbeats 2500000 in
set_option maxRecDepth 100000 in
theorem k_X7_refuseT1 (l : Launch) (D : va_G) (cs : Nat → ClassId)  (L : Nat) (hl9 : l.stackTraces = false) : vx_Met l yX7_refuse wsX7_refuse ({ frames := 6, cells := 1, slots := 6, locals := 82 } : Room) (PcX D cs L [.int (nI (1))] (fun H => True)) QcF (XCh ("java/lang/IndexOutOfBoundsException")) 1 6 nowhere := by
  refine kx_metX (cc := cX7_refuse) (maxL := 1) (ret := none) (by decide) rfl (Nat.le_of_ble_eq_true rfl) ?_
  intro p en s m args below meth c hx hb hml hrt hts hown hlk hK hN hX hT hP ls hl
  have hl : lv_has ls 1 [(0, .int (nI (1)))] := hl
  refine lv_iload_n hx hb dX7_refuse_0 rfl (lv_at hl 0 rfl) ?_
  refine lv_iconst (v := nI 1) hx hb dX7_refuse_1 (by decide) ?_
  refine kn_icmp_ne (tgt := 16) hx hb dX7_refuse_2 (by decide) (by decide) (by decide) (fun c2 => ?_) (fun c2 => ?_)
  · exact absurd c2 (by decide)
  · obtain ⟨sa, hstr⟩ := hX.2.2.1 (264, "no such ring or cell") (by decide)
    exact vx_throwSW (own := RX7) (ik := 109) (A := fun x => L ≤ x) hx hb hl9 hown (by decide +kernel) (by decide +kernel) (hts (.classLink RX7 109 "java/lang/IndexOutOfBoundsException") (by decide +kernel)) (hts (.initialized "java/lang/IndexOutOfBoundsException") (by decide +kernel)) hstr (vx_hat (B := xkB "java/lang/IndexOutOfBoundsException") (fun w hw => hts w ((by decide +kernel : ∀ w ∈ (vx_atS RX7 113 "java/lang/IndexOutOfBoundsException" ["java/lang/RuntimeException", "java/lang/Exception"]).filter goodWord, w ∈ wsX7_refuse) w hw)) (by rw [xk_a]; exact fun w h => h) (hX.bad (X := "java/lang/IndexOutOfBoundsException") (by decide))) (by intro w hw; rcases List.mem_cons.mp hw with rfl | hw; rfl; rcases List.mem_cons.mp hw with rfl | hw; rfl; exact xg_a w hw) hX.2.2.2.1 hX.2.2.2.2 va_S.rf (hl.1.trans hml.symm) dX7_refuse_5 dX7_refuse_8 dX7_refuse_9 dX7_refuse_12 dX7_refuse_15 (fun x hx => (hT x hx).elim) (Nat.le_of_ble_eq_true rfl) (Nat.le_of_ble_eq_true rfl) (Nat.le_of_ble_eq_true rfl) (Nat.le_of_ble_eq_true rfl) hlk (fun t hal hsz hq => ⟨rfl, hsz, fun q h1 _ => hq q h1⟩) (fun z hz => nomatch hz) (Nat.le_refl _) (Nat.le_refl _)
set_option maxHeartbeats 2500000 in
set_option maxRecDepth 100000 in
theorem k_X7_refuseT2 (l : Launch) (D : va_G) (cs : Nat → ClassId)  (L : Nat) (hl9 : l.stackTraces = false) : vx_Met l yX7_refuse wsX7_refuse ({ frames := 6, cells := 1, slots := 6, locals := 82 } : Room) (PcX D cs L [.int (nI (2))] (fun H => True)) QcF (XCh ("java/lang/IllegalArgumentException")) 1 6 nowhere := by
  refine kx_metX (cc := cX7_refuse) (maxL := 1) (ret := none) (by decide) rfl (Nat.le_of_ble_eq_true rfl) ?_
  intro p en s m args below meth c hx hb hml hrt hts hown hlk hK hN hX hT hP ls hl
  have hl : lv_has ls 1 [(0, .int (nI (2)))] := hl
  refine lv_iload_n hx hb dX7_refuse_0 rfl (lv_at hl 0 rfl) ?_
  refine lv_iconst (v := nI 1) hx hb dX7_refuse_1 (by decide) ?_
  refine kn_icmp_ne (tgt := 16) hx hb dX7_refuse_2 (by decide) (by decide) (by decide) (fun c2 => ?_) (fun c2 => ?_)
  · refine lv_iload_n hx hb dX7_refuse_16 rfl (lv_at hl 0 rfl) ?_
    refine lv_iconst (v := nI 2) hx hb dX7_refuse_17 (by decide) ?_
    refine kn_icmp_ne (tgt := 32) hx hb dX7_refuse_18 (by decide) (by decide) (by decide) (fun c18 => ?_) (fun c18 => ?_)
    · exact absurd c18 (by decide)
    · obtain ⟨sa, hstr⟩ := hX.2.2.1 (266, "out of range") (by decide)
      exact vx_throwSW (own := RX7) (ik := 135) (A := fun x => L ≤ x) hx hb hl9 hown (by decide +kernel) (by decide +kernel) (hts (.classLink RX7 135 "java/lang/IllegalArgumentException") (by decide +kernel)) (hts (.initialized "java/lang/IllegalArgumentException") (by decide +kernel)) hstr (vx_hat (B := xkB "java/lang/IllegalArgumentException") (fun w hw => hts w ((by decide +kernel : ∀ w ∈ (vx_atS RX7 139 "java/lang/IllegalArgumentException" ["java/lang/RuntimeException", "java/lang/Exception"]).filter goodWord, w ∈ wsX7_refuse) w hw)) (by rw [xk_b]; exact fun w h => h) (hX.bad (X := "java/lang/IllegalArgumentException") (by decide))) (by intro w hw; rcases List.mem_cons.mp hw with rfl | hw; rfl; rcases List.mem_cons.mp hw with rfl | hw; rfl; exact xg_b w hw) hX.2.2.2.1 hX.2.2.2.2 va_S.rf (hl.1.trans hml.symm) dX7_refuse_21 dX7_refuse_24 dX7_refuse_25 dX7_refuse_28 dX7_refuse_31 (fun x hx => (hT x hx).elim) (Nat.le_of_ble_eq_true rfl) (Nat.le_of_ble_eq_true rfl) (Nat.le_of_ble_eq_true rfl) (Nat.le_of_ble_eq_true rfl) hlk (fun t hal hsz hq => ⟨rfl, hsz, fun q h1 _ => hq q h1⟩) (fun z hz => nomatch hz) (Nat.le_refl _) (Nat.le_refl _)
  · exact absurd c2 (by decide)
set_option maxHeartbeats 2500000 in
set_option maxRecDepth 100000 in
theorem k_X7_refuseT3 (l : Launch) (D : va_G) (cs : Nat → ClassId)  (L : Nat) (hl9 : l.stackTraces = false) : vx_Met l yX7_refuse wsX7_refuse ({ frames := 6, cells := 1, slots := 6, locals := 82 } : Room) (PcX D cs L [.int (nI (3))] (fun H => True)) QcF (XCh ("java/lang/IllegalStateException")) 1 6 nowhere := by
  refine kx_metX (cc := cX7_refuse) (maxL := 1) (ret := none) (by decide) rfl (Nat.le_of_ble_eq_true rfl) ?_
  intro p en s m args below meth c hx hb hml hrt hts hown hlk hK hN hX hT hP ls hl
  have hl : lv_has ls 1 [(0, .int (nI (3)))] := hl
  refine lv_iload_n hx hb dX7_refuse_0 rfl (lv_at hl 0 rfl) ?_
  refine lv_iconst (v := nI 1) hx hb dX7_refuse_1 (by decide) ?_
  refine kn_icmp_ne (tgt := 16) hx hb dX7_refuse_2 (by decide) (by decide) (by decide) (fun c2 => ?_) (fun c2 => ?_)
  · refine lv_iload_n hx hb dX7_refuse_16 rfl (lv_at hl 0 rfl) ?_
    refine lv_iconst (v := nI 2) hx hb dX7_refuse_17 (by decide) ?_
    refine kn_icmp_ne (tgt := 32) hx hb dX7_refuse_18 (by decide) (by decide) (by decide) (fun c18 => ?_) (fun c18 => ?_)
    · refine lv_iload_n hx hb dX7_refuse_32 rfl (lv_at hl 0 rfl) ?_
      refine lv_iconst (v := nI 3) hx hb dX7_refuse_33 (by decide) ?_
      refine kn_icmp_ne (tgt := 48) hx hb dX7_refuse_34 (by decide) (by decide) (by decide) (fun c34 => ?_) (fun c34 => ?_)
      · exact absurd c34 (by decide)
      · obtain ⟨sa, hstr⟩ := hX.2.2.1 (268, "not as things stand") (by decide)
        exact vx_throwSW (own := RX7) (ik := 185) (A := fun x => L ≤ x) hx hb hl9 hown (by decide +kernel) (by decide +kernel) (hts (.classLink RX7 185 "java/lang/IllegalStateException") (by decide +kernel)) (hts (.initialized "java/lang/IllegalStateException") (by decide +kernel)) hstr (vx_hat (B := xkB "java/lang/IllegalStateException") (fun w hw => hts w ((by decide +kernel : ∀ w ∈ (vx_atS RX7 189 "java/lang/IllegalStateException" ["java/lang/RuntimeException", "java/lang/Exception"]).filter goodWord, w ∈ wsX7_refuse) w hw)) (by rw [xk_c]; exact fun w h => h) (hX.bad (X := "java/lang/IllegalStateException") (by decide))) (by intro w hw; rcases List.mem_cons.mp hw with rfl | hw; rfl; rcases List.mem_cons.mp hw with rfl | hw; rfl; exact xg_c w hw) hX.2.2.2.1 hX.2.2.2.2 va_S.rf (hl.1.trans hml.symm) dX7_refuse_37 dX7_refuse_40 dX7_refuse_41 dX7_refuse_44 dX7_refuse_47 (fun x hx => (hT x hx).elim) (Nat.le_of_ble_eq_true rfl) (Nat.le_of_ble_eq_true rfl) (Nat.le_of_ble_eq_true rfl) (Nat.le_of_ble_eq_true rfl) hlk (fun t hal hsz hq => ⟨rfl, hsz, fun q h1 _ => hq q h1⟩) (fun z hz => nomatch hz) (Nat.le_refl _) (Nat.le_refl _)
    · exact absurd c18 (by decide)
  · exact absurd c2 (by decide)
set_option maxHeartbeats 2500000 in
set_option maxRecDepth 100000 in
theorem k_X7_requireMoveT (l : Launch) (D : va_G) (cs : Nat → ClassId) (x : Nat) (e : Nat → Int32) (g : Nat → Int64) (e1 : Nat → Int32) (g1 : Nat → Int64) (nx cn : Nat) (se : Nat → Nat → Int32) (sg : Nat → Nat → Int64) (b nn : Nat → Int32) (wd ln pa : Nat) (ft : Int32) (hI : Inv e) (y : Int32) (hw : lsB y (Mn e) = false) (L : Nat) (hL : L ≤ x) (hl9 : l.stackTraces = false) : vx_Met l yX7_requireMove wsX7_requireMove ({ frames := 6, cells := 1, slots := 6, locals := 82 } : Room) (PcX D cs L [.ref (x), .int (y)] (fun H => HrC D cs x e g e1 g1 nx cn se sg b nn wd ln pa ft H)) QcF (XCh ("java/lang/IndexOutOfBoundsException")) 1 6 nowhere := by
  refine kx_metX (cc := cX7_requireMove) (maxL := 2) (ret := none) (by decide) rfl (Nat.le_of_ble_eq_true rfl) ?_
  intro p en s m args below meth c hx hb hml hrt hts hown hlk hK hN hX hT hP ls hl
  have hl : lv_has ls 2 [(0, .ref (x)), (1, .int (y))] := hl
  have hinX5 : ∀ w ∈ wsX50, w ∈ wsX7_requireMove := by decide +kernel
  have hinX7 : ∀ w ∈ wsX70, w ∈ wsX7_requireMove := by decide +kernel
  obtain ⟨hWro, hM, hM2, hWhi, hWto, hWtb, hWtn⟩ := hP
  have h24 := hI.M24
  have h6 := hI.R6
  refine lv_iload_n hx hb dX7_requireMove_0 rfl (lv_at hl 1 rfl) ?_
  refine lv_if_lt (tgt := 15) hx hb dX7_requireMove_1 (by decide) (fun c4 => ?_) (fun c4 => ?_)
  · obtain ⟨sa, hstr⟩ := hX.2.2.1 (275, "no such move") (by decide)
    exact vx_throwSW (own := RX7) (ik := 109) (A := fun x => L ≤ x) hx hb hl9 hown (by decide +kernel) (by decide +kernel) (hts (.classLink RX7 109 "java/lang/IndexOutOfBoundsException") (by decide +kernel)) (hts (.initialized "java/lang/IndexOutOfBoundsException") (by decide +kernel)) hstr (vx_hat (B := xkB "java/lang/IndexOutOfBoundsException") (fun w hw => hts w ((by decide +kernel : ∀ w ∈ (vx_atS RX7 113 "java/lang/IndexOutOfBoundsException" ["java/lang/RuntimeException", "java/lang/Exception"]).filter goodWord, w ∈ wsX7_requireMove) w hw)) (by rw [xk_a]; exact fun w h => h) (hX.bad (X := "java/lang/IndexOutOfBoundsException") (by decide))) (by intro w hw; rcases List.mem_cons.mp hw with rfl | hw; rfl; rcases List.mem_cons.mp hw with rfl | hw; rfl; exact xg_a w hw) hX.2.2.2.1 hX.2.2.2.2 va_S.rf (hl.1.trans hml.symm) dX7_requireMove_15 dX7_requireMove_18 dX7_requireMove_19 dX7_requireMove_22 dX7_requireMove_25 (fun x hx => (hT x hx).elim) (Nat.le_of_ble_eq_true rfl) (Nat.le_of_ble_eq_true rfl) (Nat.le_of_ble_eq_true rfl) (Nat.le_of_ble_eq_true rfl) hlk (fun t hal hsz hq => ⟨rfl, hsz, fun q h1 _ => hq q h1⟩) (fun z hz => nomatch hz) (Nat.le_refl _) (Nat.le_refl _)
  · refine lv_iload_n hx hb dX7_requireMove_4 rfl (lv_at hl 1 rfl) ?_
    refine lv_aload_n hx hb dX7_requireMove_5 rfl (lv_at hl 0 rfl) ?_
    refine kx_get (v := .ref (x + 1)) hx hb hts hinX7 hown hK hWro rfl 0 (by decide) (by decide +kernel) rfl dX7_requireMove_6 ?_
    refine kx_get (v := .int (e 4)) hx hb hts hinX5 hown hK hM.obj rfl 5 (by decide) (by decide +kernel) rfl dX7_requireMove_9 ?_
    refine kx_ci (x := e 4) (y := nI (Mn e)) (Inv.z4 hI) ?_
    refine lv_icmp_lt (tgt := 26) hx hb dX7_requireMove_12 (by decide) (fun c12 => ?_) (fun c12 => ?_)
    · exact absurd (hw.symm.trans (ls_in (by omega) c4 (i_nle.mpr c12))) (by decide)
    · obtain ⟨sa, hstr⟩ := hX.2.2.1 (275, "no such move") (by decide)
      exact vx_throwSW (own := RX7) (ik := 109) (A := fun x => L ≤ x) hx hb hl9 hown (by decide +kernel) (by decide +kernel) (hts (.classLink RX7 109 "java/lang/IndexOutOfBoundsException") (by decide +kernel)) (hts (.initialized "java/lang/IndexOutOfBoundsException") (by decide +kernel)) hstr (vx_hat (B := xkB "java/lang/IndexOutOfBoundsException") (fun w hw => hts w ((by decide +kernel : ∀ w ∈ (vx_atS RX7 113 "java/lang/IndexOutOfBoundsException" ["java/lang/RuntimeException", "java/lang/Exception"]).filter goodWord, w ∈ wsX7_requireMove) w hw)) (by rw [xk_a]; exact fun w h => h) (hX.bad (X := "java/lang/IndexOutOfBoundsException") (by decide))) (by intro w hw; rcases List.mem_cons.mp hw with rfl | hw; rfl; rcases List.mem_cons.mp hw with rfl | hw; rfl; exact xg_a w hw) hX.2.2.2.1 hX.2.2.2.2 va_S.rf (hl.1.trans hml.symm) dX7_requireMove_15 dX7_requireMove_18 dX7_requireMove_19 dX7_requireMove_22 dX7_requireMove_25 (fun x hx => (hT x hx).elim) (Nat.le_of_ble_eq_true rfl) (Nat.le_of_ble_eq_true rfl) (Nat.le_of_ble_eq_true rfl) (Nat.le_of_ble_eq_true rfl) hlk (fun t hal hsz hq => ⟨rfl, hsz, fun q h1 _ => hq q h1⟩) (fun z hz => nomatch hz) (Nat.le_refl _) (Nat.le_refl _)
set_option maxHeartbeats 2500000 in
set_option maxRecDepth 100000 in
theorem k_X7_addRingT1 (l : Launch) (D : va_G) (cs : Nat → ClassId) (x : Nat) (e : Nat → Int32) (g : Nat → Int64) (e1 : Nat → Int32) (g1 : Nat → Int64) (nx cn : Nat) (se : Nat → Nat → Int32) (sg : Nat → Nat → Int64) (b nn : Nat → Int32) (wd ln pa : Nat) (ft : Int32) (f n0 pt : Int32) (hI : Inv e) (hw : wrg e f n0 pt = 1) (L : Nat) (hL : L ≤ x) (hl9 : l.stackTraces = false) : vx_Met l yX7_addRing wsX7_addRing ({ frames := 7, cells := 1, slots := 6, locals := 112 } : Room) (PcX D cs L [.ref (x), .int (f), .int (n0), .int (pt)] (fun H => HrC D cs x e g e1 g1 nx cn se sg b nn wd ln pa ft H)) QcF (XCh ("java/lang/IndexOutOfBoundsException")) 1 6 nowhere := by
  refine kx_metX (cc := cX7_addRing) (maxL := 4) (ret := (some .int)) (by decide) rfl (Nat.le_of_ble_eq_true rfl) ?_
  intro p en s m args below meth c hx hb hml hrt hts hown hlk hK hN hX hT hP ls hl
  have hl : lv_has ls 4 [(0, .ref (x)), (1, .int (f)), (2, .int (n0)), (3, .int (pt))] := hl
  have hinX7 : ∀ w ∈ wsX70, w ∈ wsX7_addRing := by decide +kernel
  obtain ⟨hWro, hM, hM2, hWhi, hWto, hWtb, hWtn⟩ := hP
  have h24 := hI.M24
  have h6 := hI.R6
  refine lv_aload_n hx hb dX7_addRing_0 rfl (lv_at hl 0 rfl) ?_
  refine kx_get (v := .ref (x + 1)) hx hb hts hinX7 hown hK hWro rfl 0 (by decide) (by decide +kernel) rfl dX7_addRing_1 ?_
  refine lv_iload_n hx hb dX7_addRing_4 rfl (lv_at hl 1 rfl) ?_
  refine lv_iload_n hx hb dX7_addRing_5 rfl (lv_at hl 2 rfl) ?_
  refine lv_iload_n hx hb dX7_addRing_6 rfl (lv_at hl 3 rfl) ?_
  refine kx_retP (va_runV (As := [.int (f), .int (n0), .int (pt)]) (rest := []) ⟨hx, hb, hml, hown, hts⟩ (k_X5_ringRefusal l D cs (x + 1) e g f n0 pt hI) (cwV 3 hts gX7_addRing_X5_ringRefusal rfl rfl rfl (by decide +kernel) ⟨Nat.le_of_ble_eq_true rfl, Nat.le_of_ble_eq_true rfl⟩) (kx_preV hK hN hM.obj rfl hM) rfl rfl hl.1 rfl (lv_room (Nat.le_of_ble_eq_true rfl)) dX7_addRing_7 ⟨Nat.le_of_ble_eq_true rfl, Nat.le_of_ble_eq_true rfl⟩) ?_
  refine kx_ci (x := nI (wrg e f n0 pt)) (y := nI (1)) (congrArg nI hw) ?_
  exact kx_retT (vx_runS (As := [.int (nI (1))]) (rest := []) ⟨hx, hb, hml, hown, hts⟩ (k_X7_refuseT1 l D cs L (by first | assumption | omega)) (cwS 1 hts gX7_addRing_X7_refuse rfl rfl rfl (by decide +kernel) ⟨Nat.le_of_ble_eq_true rfl, Nat.le_of_ble_eq_true rfl⟩) (kx_preXS hK hN hX trivial) rfl rfl hl.1 rfl (lv_room (Nat.le_of_ble_eq_true rfl)) dX7_addRing_10 ⟨Nat.le_of_ble_eq_true rfl, Nat.le_of_ble_eq_true rfl⟩) hlk hT
set_option maxHeartbeats 2500000 in
set_option maxRecDepth 100000 in
theorem k_X7_addRingT2 (l : Launch) (D : va_G) (cs : Nat → ClassId) (x : Nat) (e : Nat → Int32) (g : Nat → Int64) (e1 : Nat → Int32) (g1 : Nat → Int64) (nx cn : Nat) (se : Nat → Nat → Int32) (sg : Nat → Nat → Int64) (b nn : Nat → Int32) (wd ln pa : Nat) (ft : Int32) (f n0 pt : Int32) (hI : Inv e) (hw : wrg e f n0 pt = 2) (L : Nat) (hL : L ≤ x) (hl9 : l.stackTraces = false) : vx_Met l yX7_addRing wsX7_addRing ({ frames := 7, cells := 1, slots := 6, locals := 112 } : Room) (PcX D cs L [.ref (x), .int (f), .int (n0), .int (pt)] (fun H => HrC D cs x e g e1 g1 nx cn se sg b nn wd ln pa ft H)) QcF (XCh ("java/lang/IllegalArgumentException")) 1 6 nowhere := by
  refine kx_metX (cc := cX7_addRing) (maxL := 4) (ret := (some .int)) (by decide) rfl (Nat.le_of_ble_eq_true rfl) ?_
  intro p en s m args below meth c hx hb hml hrt hts hown hlk hK hN hX hT hP ls hl
  have hl : lv_has ls 4 [(0, .ref (x)), (1, .int (f)), (2, .int (n0)), (3, .int (pt))] := hl
  have hinX7 : ∀ w ∈ wsX70, w ∈ wsX7_addRing := by decide +kernel
  obtain ⟨hWro, hM, hM2, hWhi, hWto, hWtb, hWtn⟩ := hP
  have h24 := hI.M24
  have h6 := hI.R6
  refine lv_aload_n hx hb dX7_addRing_0 rfl (lv_at hl 0 rfl) ?_
  refine kx_get (v := .ref (x + 1)) hx hb hts hinX7 hown hK hWro rfl 0 (by decide) (by decide +kernel) rfl dX7_addRing_1 ?_
  refine lv_iload_n hx hb dX7_addRing_4 rfl (lv_at hl 1 rfl) ?_
  refine lv_iload_n hx hb dX7_addRing_5 rfl (lv_at hl 2 rfl) ?_
  refine lv_iload_n hx hb dX7_addRing_6 rfl (lv_at hl 3 rfl) ?_
  refine kx_retP (va_runV (As := [.int (f), .int (n0), .int (pt)]) (rest := []) ⟨hx, hb, hml, hown, hts⟩ (k_X5_ringRefusal l D cs (x + 1) e g f n0 pt hI) (cwV 3 hts gX7_addRing_X5_ringRefusal rfl rfl rfl (by decide +kernel) ⟨Nat.le_of_ble_eq_true rfl, Nat.le_of_ble_eq_true rfl⟩) (kx_preV hK hN hM.obj rfl hM) rfl rfl hl.1 rfl (lv_room (Nat.le_of_ble_eq_true rfl)) dX7_addRing_7 ⟨Nat.le_of_ble_eq_true rfl, Nat.le_of_ble_eq_true rfl⟩) ?_
  refine kx_ci (x := nI (wrg e f n0 pt)) (y := nI (2)) (congrArg nI hw) ?_
  exact kx_retT (vx_runS (As := [.int (nI (2))]) (rest := []) ⟨hx, hb, hml, hown, hts⟩ (k_X7_refuseT2 l D cs L (by first | assumption | omega)) (cwS 1 hts gX7_addRing_X7_refuse rfl rfl rfl (by decide +kernel) ⟨Nat.le_of_ble_eq_true rfl, Nat.le_of_ble_eq_true rfl⟩) (kx_preXS hK hN hX trivial) rfl rfl hl.1 rfl (lv_room (Nat.le_of_ble_eq_true rfl)) dX7_addRing_10 ⟨Nat.le_of_ble_eq_true rfl, Nat.le_of_ble_eq_true rfl⟩) hlk hT
set_option maxHeartbeats 2500000 in
set_option maxRecDepth 100000 in
theorem k_X7_addRingT3 (l : Launch) (D : va_G) (cs : Nat → ClassId) (x : Nat) (e : Nat → Int32) (g : Nat → Int64) (e1 : Nat → Int32) (g1 : Nat → Int64) (nx cn : Nat) (se : Nat → Nat → Int32) (sg : Nat → Nat → Int64) (b nn : Nat → Int32) (wd ln pa : Nat) (ft : Int32) (f n0 pt : Int32) (hI : Inv e) (hw : wrg e f n0 pt = 3) (L : Nat) (hL : L ≤ x) (hl9 : l.stackTraces = false) : vx_Met l yX7_addRing wsX7_addRing ({ frames := 7, cells := 1, slots := 6, locals := 112 } : Room) (PcX D cs L [.ref (x), .int (f), .int (n0), .int (pt)] (fun H => HrC D cs x e g e1 g1 nx cn se sg b nn wd ln pa ft H)) QcF (XCh ("java/lang/IllegalStateException")) 1 6 nowhere := by
  refine kx_metX (cc := cX7_addRing) (maxL := 4) (ret := (some .int)) (by decide) rfl (Nat.le_of_ble_eq_true rfl) ?_
  intro p en s m args below meth c hx hb hml hrt hts hown hlk hK hN hX hT hP ls hl
  have hl : lv_has ls 4 [(0, .ref (x)), (1, .int (f)), (2, .int (n0)), (3, .int (pt))] := hl
  have hinX7 : ∀ w ∈ wsX70, w ∈ wsX7_addRing := by decide +kernel
  obtain ⟨hWro, hM, hM2, hWhi, hWto, hWtb, hWtn⟩ := hP
  have h24 := hI.M24
  have h6 := hI.R6
  refine lv_aload_n hx hb dX7_addRing_0 rfl (lv_at hl 0 rfl) ?_
  refine kx_get (v := .ref (x + 1)) hx hb hts hinX7 hown hK hWro rfl 0 (by decide) (by decide +kernel) rfl dX7_addRing_1 ?_
  refine lv_iload_n hx hb dX7_addRing_4 rfl (lv_at hl 1 rfl) ?_
  refine lv_iload_n hx hb dX7_addRing_5 rfl (lv_at hl 2 rfl) ?_
  refine lv_iload_n hx hb dX7_addRing_6 rfl (lv_at hl 3 rfl) ?_
  refine kx_retP (va_runV (As := [.int (f), .int (n0), .int (pt)]) (rest := []) ⟨hx, hb, hml, hown, hts⟩ (k_X5_ringRefusal l D cs (x + 1) e g f n0 pt hI) (cwV 3 hts gX7_addRing_X5_ringRefusal rfl rfl rfl (by decide +kernel) ⟨Nat.le_of_ble_eq_true rfl, Nat.le_of_ble_eq_true rfl⟩) (kx_preV hK hN hM.obj rfl hM) rfl rfl hl.1 rfl (lv_room (Nat.le_of_ble_eq_true rfl)) dX7_addRing_7 ⟨Nat.le_of_ble_eq_true rfl, Nat.le_of_ble_eq_true rfl⟩) ?_
  refine kx_ci (x := nI (wrg e f n0 pt)) (y := nI (3)) (congrArg nI hw) ?_
  exact kx_retT (vx_runS (As := [.int (nI (3))]) (rest := []) ⟨hx, hb, hml, hown, hts⟩ (k_X7_refuseT3 l D cs L (by first | assumption | omega)) (cwS 1 hts gX7_addRing_X7_refuse rfl rfl rfl (by decide +kernel) ⟨Nat.le_of_ble_eq_true rfl, Nat.le_of_ble_eq_true rfl⟩) (kx_preXS hK hN hX trivial) rfl rfl hl.1 rfl (lv_room (Nat.le_of_ble_eq_true rfl)) dX7_addRing_10 ⟨Nat.le_of_ble_eq_true rfl, Nat.le_of_ble_eq_true rfl⟩) hlk hT
set_option maxHeartbeats 2500000 in
set_option maxRecDepth 100000 in
theorem k_X7_setPatienceT1 (l : Launch) (D : va_G) (cs : Nat → ClassId) (x : Nat) (e : Nat → Int32) (g : Nat → Int64) (e1 : Nat → Int32) (g1 : Nat → Int64) (nx cn : Nat) (se : Nat → Nat → Int32) (sg : Nat → Nat → Int64) (b nn : Nat → Int32) (wd ln pa : Nat) (ft : Int32) (r v : Int32) (hI : Inv e) (hw : wpt e r v = 1) (L : Nat) (hL : L ≤ x) (hl9 : l.stackTraces = false) : vx_Met l yX7_setPatience wsX7_setPatience ({ frames := 7, cells := 1, slots := 6, locals := 112 } : Room) (PcX D cs L [.ref (x), .int (r), .int (v)] (fun H => HrC D cs x e g e1 g1 nx cn se sg b nn wd ln pa ft H)) QcF (XCh ("java/lang/IndexOutOfBoundsException")) 1 6 nowhere := by
  refine kx_metX (cc := cX7_setPatience) (maxL := 3) (ret := (some .int)) (by decide) rfl (Nat.le_of_ble_eq_true rfl) ?_
  intro p en s m args below meth c hx hb hml hrt hts hown hlk hK hN hX hT hP ls hl
  have hl : lv_has ls 3 [(0, .ref (x)), (1, .int (r)), (2, .int (v))] := hl
  have hinX7 : ∀ w ∈ wsX70, w ∈ wsX7_setPatience := by decide +kernel
  obtain ⟨hWro, hM, hM2, hWhi, hWto, hWtb, hWtn⟩ := hP
  have h24 := hI.M24
  have h6 := hI.R6
  refine lv_aload_n hx hb dX7_setPatience_0 rfl (lv_at hl 0 rfl) ?_
  refine kx_get (v := .ref (x + 1)) hx hb hts hinX7 hown hK hWro rfl 0 (by decide) (by decide +kernel) rfl dX7_setPatience_1 ?_
  refine lv_iload_n hx hb dX7_setPatience_4 rfl (lv_at hl 1 rfl) ?_
  refine lv_iload_n hx hb dX7_setPatience_5 rfl (lv_at hl 2 rfl) ?_
  refine kx_retP (va_runV (As := [.int (r), .int (v)]) (rest := []) ⟨hx, hb, hml, hown, hts⟩ (k_X5_patienceRefusal l D cs (x + 1) e g r v hI) (cwV 2 hts gX7_setPatience_X5_patienceRefusal rfl rfl rfl (by decide +kernel) ⟨Nat.le_of_ble_eq_true rfl, Nat.le_of_ble_eq_true rfl⟩) (kx_preV hK hN hM.obj rfl hM) rfl rfl hl.1 rfl (lv_room (Nat.le_of_ble_eq_true rfl)) dX7_setPatience_6 ⟨Nat.le_of_ble_eq_true rfl, Nat.le_of_ble_eq_true rfl⟩) ?_
  refine kx_ci (x := nI (wpt e r v)) (y := nI (1)) (congrArg nI hw) ?_
  exact kx_retT (vx_runS (As := [.int (nI (1))]) (rest := []) ⟨hx, hb, hml, hown, hts⟩ (k_X7_refuseT1 l D cs L (by first | assumption | omega)) (cwS 1 hts gX7_setPatience_X7_refuse rfl rfl rfl (by decide +kernel) ⟨Nat.le_of_ble_eq_true rfl, Nat.le_of_ble_eq_true rfl⟩) (kx_preXS hK hN hX trivial) rfl rfl hl.1 rfl (lv_room (Nat.le_of_ble_eq_true rfl)) dX7_setPatience_9 ⟨Nat.le_of_ble_eq_true rfl, Nat.le_of_ble_eq_true rfl⟩) hlk hT
set_option maxHeartbeats 2500000 in
set_option maxRecDepth 100000 in
theorem k_X7_setPatienceT2 (l : Launch) (D : va_G) (cs : Nat → ClassId) (x : Nat) (e : Nat → Int32) (g : Nat → Int64) (e1 : Nat → Int32) (g1 : Nat → Int64) (nx cn : Nat) (se : Nat → Nat → Int32) (sg : Nat → Nat → Int64) (b nn : Nat → Int32) (wd ln pa : Nat) (ft : Int32) (r v : Int32) (hI : Inv e) (hw : wpt e r v = 2) (L : Nat) (hL : L ≤ x) (hl9 : l.stackTraces = false) : vx_Met l yX7_setPatience wsX7_setPatience ({ frames := 7, cells := 1, slots := 6, locals := 112 } : Room) (PcX D cs L [.ref (x), .int (r), .int (v)] (fun H => HrC D cs x e g e1 g1 nx cn se sg b nn wd ln pa ft H)) QcF (XCh ("java/lang/IllegalArgumentException")) 1 6 nowhere := by
  refine kx_metX (cc := cX7_setPatience) (maxL := 3) (ret := (some .int)) (by decide) rfl (Nat.le_of_ble_eq_true rfl) ?_
  intro p en s m args below meth c hx hb hml hrt hts hown hlk hK hN hX hT hP ls hl
  have hl : lv_has ls 3 [(0, .ref (x)), (1, .int (r)), (2, .int (v))] := hl
  have hinX7 : ∀ w ∈ wsX70, w ∈ wsX7_setPatience := by decide +kernel
  obtain ⟨hWro, hM, hM2, hWhi, hWto, hWtb, hWtn⟩ := hP
  have h24 := hI.M24
  have h6 := hI.R6
  refine lv_aload_n hx hb dX7_setPatience_0 rfl (lv_at hl 0 rfl) ?_
  refine kx_get (v := .ref (x + 1)) hx hb hts hinX7 hown hK hWro rfl 0 (by decide) (by decide +kernel) rfl dX7_setPatience_1 ?_
  refine lv_iload_n hx hb dX7_setPatience_4 rfl (lv_at hl 1 rfl) ?_
  refine lv_iload_n hx hb dX7_setPatience_5 rfl (lv_at hl 2 rfl) ?_
  refine kx_retP (va_runV (As := [.int (r), .int (v)]) (rest := []) ⟨hx, hb, hml, hown, hts⟩ (k_X5_patienceRefusal l D cs (x + 1) e g r v hI) (cwV 2 hts gX7_setPatience_X5_patienceRefusal rfl rfl rfl (by decide +kernel) ⟨Nat.le_of_ble_eq_true rfl, Nat.le_of_ble_eq_true rfl⟩) (kx_preV hK hN hM.obj rfl hM) rfl rfl hl.1 rfl (lv_room (Nat.le_of_ble_eq_true rfl)) dX7_setPatience_6 ⟨Nat.le_of_ble_eq_true rfl, Nat.le_of_ble_eq_true rfl⟩) ?_
  refine kx_ci (x := nI (wpt e r v)) (y := nI (2)) (congrArg nI hw) ?_
  exact kx_retT (vx_runS (As := [.int (nI (2))]) (rest := []) ⟨hx, hb, hml, hown, hts⟩ (k_X7_refuseT2 l D cs L (by first | assumption | omega)) (cwS 1 hts gX7_setPatience_X7_refuse rfl rfl rfl (by decide +kernel) ⟨Nat.le_of_ble_eq_true rfl, Nat.le_of_ble_eq_true rfl⟩) (kx_preXS hK hN hX trivial) rfl rfl hl.1 rfl (lv_room (Nat.le_of_ble_eq_true rfl)) dX7_setPatience_9 ⟨Nat.le_of_ble_eq_true rfl, Nat.le_of_ble_eq_true rfl⟩) hlk hT
set_option maxHeartbeats 2500000 in
set_option maxRecDepth 100000 in
theorem k_X7_setPatienceT3 (l : Launch) (D : va_G) (cs : Nat → ClassId) (x : Nat) (e : Nat → Int32) (g : Nat → Int64) (e1 : Nat → Int32) (g1 : Nat → Int64) (nx cn : Nat) (se : Nat → Nat → Int32) (sg : Nat → Nat → Int64) (b nn : Nat → Int32) (wd ln pa : Nat) (ft : Int32) (r v : Int32) (hI : Inv e) (hw : wpt e r v = 3) (L : Nat) (hL : L ≤ x) (hl9 : l.stackTraces = false) : vx_Met l yX7_setPatience wsX7_setPatience ({ frames := 7, cells := 1, slots := 6, locals := 112 } : Room) (PcX D cs L [.ref (x), .int (r), .int (v)] (fun H => HrC D cs x e g e1 g1 nx cn se sg b nn wd ln pa ft H)) QcF (XCh ("java/lang/IllegalStateException")) 1 6 nowhere := by
  refine kx_metX (cc := cX7_setPatience) (maxL := 3) (ret := (some .int)) (by decide) rfl (Nat.le_of_ble_eq_true rfl) ?_
  intro p en s m args below meth c hx hb hml hrt hts hown hlk hK hN hX hT hP ls hl
  have hl : lv_has ls 3 [(0, .ref (x)), (1, .int (r)), (2, .int (v))] := hl
  have hinX7 : ∀ w ∈ wsX70, w ∈ wsX7_setPatience := by decide +kernel
  obtain ⟨hWro, hM, hM2, hWhi, hWto, hWtb, hWtn⟩ := hP
  have h24 := hI.M24
  have h6 := hI.R6
  refine lv_aload_n hx hb dX7_setPatience_0 rfl (lv_at hl 0 rfl) ?_
  refine kx_get (v := .ref (x + 1)) hx hb hts hinX7 hown hK hWro rfl 0 (by decide) (by decide +kernel) rfl dX7_setPatience_1 ?_
  refine lv_iload_n hx hb dX7_setPatience_4 rfl (lv_at hl 1 rfl) ?_
  refine lv_iload_n hx hb dX7_setPatience_5 rfl (lv_at hl 2 rfl) ?_
  refine kx_retP (va_runV (As := [.int (r), .int (v)]) (rest := []) ⟨hx, hb, hml, hown, hts⟩ (k_X5_patienceRefusal l D cs (x + 1) e g r v hI) (cwV 2 hts gX7_setPatience_X5_patienceRefusal rfl rfl rfl (by decide +kernel) ⟨Nat.le_of_ble_eq_true rfl, Nat.le_of_ble_eq_true rfl⟩) (kx_preV hK hN hM.obj rfl hM) rfl rfl hl.1 rfl (lv_room (Nat.le_of_ble_eq_true rfl)) dX7_setPatience_6 ⟨Nat.le_of_ble_eq_true rfl, Nat.le_of_ble_eq_true rfl⟩) ?_
  refine kx_ci (x := nI (wpt e r v)) (y := nI (3)) (congrArg nI hw) ?_
  exact kx_retT (vx_runS (As := [.int (nI (3))]) (rest := []) ⟨hx, hb, hml, hown, hts⟩ (k_X7_refuseT3 l D cs L (by first | assumption | omega)) (cwS 1 hts gX7_setPatience_X7_refuse rfl rfl rfl (by decide +kernel) ⟨Nat.le_of_ble_eq_true rfl, Nat.le_of_ble_eq_true rfl⟩) (kx_preXS hK hN hX trivial) rfl rfl hl.1 rfl (lv_room (Nat.le_of_ble_eq_true rfl)) dX7_setPatience_9 ⟨Nat.le_of_ble_eq_true rfl, Nat.le_of_ble_eq_true rfl⟩) hlk hT
set_option maxHeartbeats 2500000 in
set_option maxRecDepth 100000 in
theorem k_X7_setT1 (l : Launch) (D : va_G) (cs : Nat → ClassId) (x : Nat) (e : Nat → Int32) (g : Nat → Int64) (e1 : Nat → Int32) (g1 : Nat → Int64) (nx cn : Nat) (se : Nat → Nat → Int32) (sg : Nat → Nat → Int64) (b nn : Nat → Int32) (wd ln pa : Nat) (ft : Int32) (w0 v : Int32) (hw : c12 (wse w0 v) = 1) (L : Nat) (hL : L ≤ x) (hl9 : l.stackTraces = false) : vx_Met l yX7_set wsX7_set ({ frames := 7, cells := 1, slots := 6, locals := 112 } : Room) (PcX D cs L [.ref (x), .int (w0), .int (v)] (fun H => HrC D cs x e g e1 g1 nx cn se sg b nn wd ln pa ft H)) QcF (XCh ("java/lang/IndexOutOfBoundsException")) 1 6 nowhere := by
  refine kx_metX (cc := cX7_set) (maxL := 3) (ret := (some .int)) (by decide) rfl (Nat.le_of_ble_eq_true rfl) ?_
  intro p en s m args below meth c hx hb hml hrt hts hown hlk hK hN hX hT hP ls hl
  have hl : lv_has ls 3 [(0, .ref (x)), (1, .int (w0)), (2, .int (v))] := hl
  have hinX7 : ∀ w ∈ wsX70, w ∈ wsX7_set := by decide +kernel
  obtain ⟨hWro, hM, hM2, hWhi, hWto, hWtb, hWtn⟩ := hP
  refine lv_iload_n hx hb dX7_set_0 rfl (lv_at hl 1 rfl) ?_
  refine lv_iload_n hx hb dX7_set_1 rfl (lv_at hl 2 rfl) ?_
  refine kx_retP (va_runS (As := [.int (w0), .int (v)]) (rest := []) ⟨hx, hb, hml, hown, hts⟩ (k_X5_settingRefusal l D cs w0 v) (va_cwS 2 hts gX7_set_X5_settingRefusal rfl rfl rfl (by decide +kernel) ⟨Nat.le_of_ble_eq_true rfl, Nat.le_of_ble_eq_true rfl⟩) (kx_preS hK hN trivial) rfl rfl hl.1 rfl (lv_room (Nat.le_of_ble_eq_true rfl)) dX7_set_2 ⟨Nat.le_of_ble_eq_true rfl, Nat.le_of_ble_eq_true rfl⟩) ?_
  refine kx_ci (x := nI (c12 (wse w0 v))) (y := nI (1)) (congrArg nI hw) ?_
  exact kx_retT (vx_runS (As := [.int (nI (1))]) (rest := []) ⟨hx, hb, hml, hown, hts⟩ (k_X7_refuseT1 l D cs L (by first | assumption | omega)) (cwS 1 hts gX7_set_X7_refuse rfl rfl rfl (by decide +kernel) ⟨Nat.le_of_ble_eq_true rfl, Nat.le_of_ble_eq_true rfl⟩) (kx_preXS hK hN hX trivial) rfl rfl hl.1 rfl (lv_room (Nat.le_of_ble_eq_true rfl)) dX7_set_5 ⟨Nat.le_of_ble_eq_true rfl, Nat.le_of_ble_eq_true rfl⟩) hlk hT
set_option maxHeartbeats 2500000 in
set_option maxRecDepth 100000 in
theorem k_X7_setT2 (l : Launch) (D : va_G) (cs : Nat → ClassId) (x : Nat) (e : Nat → Int32) (g : Nat → Int64) (e1 : Nat → Int32) (g1 : Nat → Int64) (nx cn : Nat) (se : Nat → Nat → Int32) (sg : Nat → Nat → Int64) (b nn : Nat → Int32) (wd ln pa : Nat) (ft : Int32) (w0 v : Int32) (hw : c12 (wse w0 v) = 2) (L : Nat) (hL : L ≤ x) (hl9 : l.stackTraces = false) : vx_Met l yX7_set wsX7_set ({ frames := 7, cells := 1, slots := 6, locals := 112 } : Room) (PcX D cs L [.ref (x), .int (w0), .int (v)] (fun H => HrC D cs x e g e1 g1 nx cn se sg b nn wd ln pa ft H)) QcF (XCh ("java/lang/IllegalArgumentException")) 1 6 nowhere := by
  refine kx_metX (cc := cX7_set) (maxL := 3) (ret := (some .int)) (by decide) rfl (Nat.le_of_ble_eq_true rfl) ?_
  intro p en s m args below meth c hx hb hml hrt hts hown hlk hK hN hX hT hP ls hl
  have hl : lv_has ls 3 [(0, .ref (x)), (1, .int (w0)), (2, .int (v))] := hl
  have hinX7 : ∀ w ∈ wsX70, w ∈ wsX7_set := by decide +kernel
  obtain ⟨hWro, hM, hM2, hWhi, hWto, hWtb, hWtn⟩ := hP
  refine lv_iload_n hx hb dX7_set_0 rfl (lv_at hl 1 rfl) ?_
  refine lv_iload_n hx hb dX7_set_1 rfl (lv_at hl 2 rfl) ?_
  refine kx_retP (va_runS (As := [.int (w0), .int (v)]) (rest := []) ⟨hx, hb, hml, hown, hts⟩ (k_X5_settingRefusal l D cs w0 v) (va_cwS 2 hts gX7_set_X5_settingRefusal rfl rfl rfl (by decide +kernel) ⟨Nat.le_of_ble_eq_true rfl, Nat.le_of_ble_eq_true rfl⟩) (kx_preS hK hN trivial) rfl rfl hl.1 rfl (lv_room (Nat.le_of_ble_eq_true rfl)) dX7_set_2 ⟨Nat.le_of_ble_eq_true rfl, Nat.le_of_ble_eq_true rfl⟩) ?_
  refine kx_ci (x := nI (c12 (wse w0 v))) (y := nI (2)) (congrArg nI hw) ?_
  exact kx_retT (vx_runS (As := [.int (nI (2))]) (rest := []) ⟨hx, hb, hml, hown, hts⟩ (k_X7_refuseT2 l D cs L (by first | assumption | omega)) (cwS 1 hts gX7_set_X7_refuse rfl rfl rfl (by decide +kernel) ⟨Nat.le_of_ble_eq_true rfl, Nat.le_of_ble_eq_true rfl⟩) (kx_preXS hK hN hX trivial) rfl rfl hl.1 rfl (lv_room (Nat.le_of_ble_eq_true rfl)) dX7_set_5 ⟨Nat.le_of_ble_eq_true rfl, Nat.le_of_ble_eq_true rfl⟩) hlk hT
set_option maxHeartbeats 2500000 in
set_option maxRecDepth 100000 in
theorem k_X7_setT3 (l : Launch) (D : va_G) (cs : Nat → ClassId) (x : Nat) (e : Nat → Int32) (g : Nat → Int64) (e1 : Nat → Int32) (g1 : Nat → Int64) (nx cn : Nat) (se : Nat → Nat → Int32) (sg : Nat → Nat → Int64) (b nn : Nat → Int32) (wd ln pa : Nat) (ft : Int32) (w0 v : Int32) (hw : c12 (wse w0 v) = 3) (L : Nat) (hL : L ≤ x) (hl9 : l.stackTraces = false) : vx_Met l yX7_set wsX7_set ({ frames := 7, cells := 1, slots := 6, locals := 112 } : Room) (PcX D cs L [.ref (x), .int (w0), .int (v)] (fun H => HrC D cs x e g e1 g1 nx cn se sg b nn wd ln pa ft H)) QcF (XCh ("java/lang/IllegalStateException")) 1 6 nowhere := by
  refine kx_metX (cc := cX7_set) (maxL := 3) (ret := (some .int)) (by decide) rfl (Nat.le_of_ble_eq_true rfl) ?_
  intro p en s m args below meth c hx hb hml hrt hts hown hlk hK hN hX hT hP ls hl
  have hl : lv_has ls 3 [(0, .ref (x)), (1, .int (w0)), (2, .int (v))] := hl
  have hinX7 : ∀ w ∈ wsX70, w ∈ wsX7_set := by decide +kernel
  obtain ⟨hWro, hM, hM2, hWhi, hWto, hWtb, hWtn⟩ := hP
  refine lv_iload_n hx hb dX7_set_0 rfl (lv_at hl 1 rfl) ?_
  refine lv_iload_n hx hb dX7_set_1 rfl (lv_at hl 2 rfl) ?_
  refine kx_retP (va_runS (As := [.int (w0), .int (v)]) (rest := []) ⟨hx, hb, hml, hown, hts⟩ (k_X5_settingRefusal l D cs w0 v) (va_cwS 2 hts gX7_set_X5_settingRefusal rfl rfl rfl (by decide +kernel) ⟨Nat.le_of_ble_eq_true rfl, Nat.le_of_ble_eq_true rfl⟩) (kx_preS hK hN trivial) rfl rfl hl.1 rfl (lv_room (Nat.le_of_ble_eq_true rfl)) dX7_set_2 ⟨Nat.le_of_ble_eq_true rfl, Nat.le_of_ble_eq_true rfl⟩) ?_
  refine kx_ci (x := nI (c12 (wse w0 v))) (y := nI (3)) (congrArg nI hw) ?_
  exact kx_retT (vx_runS (As := [.int (nI (3))]) (rest := []) ⟨hx, hb, hml, hown, hts⟩ (k_X7_refuseT3 l D cs L (by first | assumption | omega)) (cwS 1 hts gX7_set_X7_refuse rfl rfl rfl (by decide +kernel) ⟨Nat.le_of_ble_eq_true rfl, Nat.le_of_ble_eq_true rfl⟩) (kx_preXS hK hN hX trivial) rfl rfl hl.1 rfl (lv_room (Nat.le_of_ble_eq_true rfl)) dX7_set_5 ⟨Nat.le_of_ble_eq_true rfl, Nat.le_of_ble_eq_true rfl⟩) hlk hT
set_option maxHeartbeats 2500000 in
set_option maxRecDepth 100000 in
theorem k_X7_writeT1 (l : Launch) (D : va_G) (cs : Nat → ClassId) (x : Nat) (e : Nat → Int32) (g : Nat → Int64) (e1 : Nat → Int32) (g1 : Nat → Int64) (nx cn : Nat) (se : Nat → Nat → Int32) (sg : Nat → Nat → Int64) (b nn : Nat → Int32) (wd ln pa : Nat) (ft : Int32) (y v : Int32) (hI : Inv e) (hG : Msk e g) (hw : wwr e y v = 1) (L : Nat) (hL : L ≤ x) (hl9 : l.stackTraces = false) : vx_Met l yX7_write wsX7_write ({ frames := 7, cells := 1, slots := 6, locals := 112 } : Room) (PcX D cs L [.ref (x), .int (y), .int (v)] (fun H => HrC D cs x e g e1 g1 nx cn se sg b nn wd ln pa ft H)) QcF (XCh ("java/lang/IndexOutOfBoundsException")) 1 6 nowhere := by
  refine kx_metX (cc := cX7_write) (maxL := 3) (ret := (some .int)) (by decide) rfl (Nat.le_of_ble_eq_true rfl) ?_
  intro p en s m args below meth c hx hb hml hrt hts hown hlk hK hN hX hT hP ls hl
  have hl : lv_has ls 3 [(0, .ref (x)), (1, .int (y)), (2, .int (v))] := hl
  have hinX7 : ∀ w ∈ wsX70, w ∈ wsX7_write := by decide +kernel
  obtain ⟨hWro, hM, hM2, hWhi, hWto, hWtb, hWtn⟩ := hP
  have h24 := hI.M24
  have h6 := hI.R6
  refine lv_aload_n hx hb dX7_write_0 rfl (lv_at hl 0 rfl) ?_
  refine kx_get (v := .ref (x + 1)) hx hb hts hinX7 hown hK hWro rfl 0 (by decide) (by decide +kernel) rfl dX7_write_1 ?_
  refine lv_iload_n hx hb dX7_write_4 rfl (lv_at hl 1 rfl) ?_
  refine lv_iload_n hx hb dX7_write_5 rfl (lv_at hl 2 rfl) ?_
  refine kx_retP (va_runV (As := [.int (y), .int (v)]) (rest := []) ⟨hx, hb, hml, hown, hts⟩ (k_X5_valueRefusal l D cs (x + 1) e g y v hI hG) (cwV 2 hts gX7_write_X5_valueRefusal rfl rfl rfl (by decide +kernel) ⟨Nat.le_of_ble_eq_true rfl, Nat.le_of_ble_eq_true rfl⟩) (kx_preV hK hN hM.obj rfl hM) rfl rfl hl.1 rfl (lv_room (Nat.le_of_ble_eq_true rfl)) dX7_write_6 ⟨Nat.le_of_ble_eq_true rfl, Nat.le_of_ble_eq_true rfl⟩) ?_
  refine kx_ci (x := nI (wwr e y v)) (y := nI (1)) (congrArg nI hw) ?_
  exact kx_retT (vx_runS (As := [.int (nI (1))]) (rest := []) ⟨hx, hb, hml, hown, hts⟩ (k_X7_refuseT1 l D cs L (by first | assumption | omega)) (cwS 1 hts gX7_write_X7_refuse rfl rfl rfl (by decide +kernel) ⟨Nat.le_of_ble_eq_true rfl, Nat.le_of_ble_eq_true rfl⟩) (kx_preXS hK hN hX trivial) rfl rfl hl.1 rfl (lv_room (Nat.le_of_ble_eq_true rfl)) dX7_write_9 ⟨Nat.le_of_ble_eq_true rfl, Nat.le_of_ble_eq_true rfl⟩) hlk hT
set_option maxHeartbeats 2500000 in
set_option maxRecDepth 100000 in
theorem k_X7_writeT2 (l : Launch) (D : va_G) (cs : Nat → ClassId) (x : Nat) (e : Nat → Int32) (g : Nat → Int64) (e1 : Nat → Int32) (g1 : Nat → Int64) (nx cn : Nat) (se : Nat → Nat → Int32) (sg : Nat → Nat → Int64) (b nn : Nat → Int32) (wd ln pa : Nat) (ft : Int32) (y v : Int32) (hI : Inv e) (hG : Msk e g) (hw : wwr e y v = 2) (L : Nat) (hL : L ≤ x) (hl9 : l.stackTraces = false) : vx_Met l yX7_write wsX7_write ({ frames := 7, cells := 1, slots := 6, locals := 112 } : Room) (PcX D cs L [.ref (x), .int (y), .int (v)] (fun H => HrC D cs x e g e1 g1 nx cn se sg b nn wd ln pa ft H)) QcF (XCh ("java/lang/IllegalArgumentException")) 1 6 nowhere := by
  refine kx_metX (cc := cX7_write) (maxL := 3) (ret := (some .int)) (by decide) rfl (Nat.le_of_ble_eq_true rfl) ?_
  intro p en s m args below meth c hx hb hml hrt hts hown hlk hK hN hX hT hP ls hl
  have hl : lv_has ls 3 [(0, .ref (x)), (1, .int (y)), (2, .int (v))] := hl
  have hinX7 : ∀ w ∈ wsX70, w ∈ wsX7_write := by decide +kernel
  obtain ⟨hWro, hM, hM2, hWhi, hWto, hWtb, hWtn⟩ := hP
  have h24 := hI.M24
  have h6 := hI.R6
  refine lv_aload_n hx hb dX7_write_0 rfl (lv_at hl 0 rfl) ?_
  refine kx_get (v := .ref (x + 1)) hx hb hts hinX7 hown hK hWro rfl 0 (by decide) (by decide +kernel) rfl dX7_write_1 ?_
  refine lv_iload_n hx hb dX7_write_4 rfl (lv_at hl 1 rfl) ?_
  refine lv_iload_n hx hb dX7_write_5 rfl (lv_at hl 2 rfl) ?_
  refine kx_retP (va_runV (As := [.int (y), .int (v)]) (rest := []) ⟨hx, hb, hml, hown, hts⟩ (k_X5_valueRefusal l D cs (x + 1) e g y v hI hG) (cwV 2 hts gX7_write_X5_valueRefusal rfl rfl rfl (by decide +kernel) ⟨Nat.le_of_ble_eq_true rfl, Nat.le_of_ble_eq_true rfl⟩) (kx_preV hK hN hM.obj rfl hM) rfl rfl hl.1 rfl (lv_room (Nat.le_of_ble_eq_true rfl)) dX7_write_6 ⟨Nat.le_of_ble_eq_true rfl, Nat.le_of_ble_eq_true rfl⟩) ?_
  refine kx_ci (x := nI (wwr e y v)) (y := nI (2)) (congrArg nI hw) ?_
  exact kx_retT (vx_runS (As := [.int (nI (2))]) (rest := []) ⟨hx, hb, hml, hown, hts⟩ (k_X7_refuseT2 l D cs L (by first | assumption | omega)) (cwS 1 hts gX7_write_X7_refuse rfl rfl rfl (by decide +kernel) ⟨Nat.le_of_ble_eq_true rfl, Nat.le_of_ble_eq_true rfl⟩) (kx_preXS hK hN hX trivial) rfl rfl hl.1 rfl (lv_room (Nat.le_of_ble_eq_true rfl)) dX7_write_9 ⟨Nat.le_of_ble_eq_true rfl, Nat.le_of_ble_eq_true rfl⟩) hlk hT
set_option maxHeartbeats 2500000 in
set_option maxRecDepth 100000 in
theorem k_X7_writeT3 (l : Launch) (D : va_G) (cs : Nat → ClassId) (x : Nat) (e : Nat → Int32) (g : Nat → Int64) (e1 : Nat → Int32) (g1 : Nat → Int64) (nx cn : Nat) (se : Nat → Nat → Int32) (sg : Nat → Nat → Int64) (b nn : Nat → Int32) (wd ln pa : Nat) (ft : Int32) (y v : Int32) (hI : Inv e) (hG : Msk e g) (hw : wwr e y v = 3) (L : Nat) (hL : L ≤ x) (hl9 : l.stackTraces = false) : vx_Met l yX7_write wsX7_write ({ frames := 7, cells := 1, slots := 6, locals := 112 } : Room) (PcX D cs L [.ref (x), .int (y), .int (v)] (fun H => HrC D cs x e g e1 g1 nx cn se sg b nn wd ln pa ft H)) QcF (XCh ("java/lang/IllegalStateException")) 1 6 nowhere := by
  refine kx_metX (cc := cX7_write) (maxL := 3) (ret := (some .int)) (by decide) rfl (Nat.le_of_ble_eq_true rfl) ?_
  intro p en s m args below meth c hx hb hml hrt hts hown hlk hK hN hX hT hP ls hl
  have hl : lv_has ls 3 [(0, .ref (x)), (1, .int (y)), (2, .int (v))] := hl
  have hinX7 : ∀ w ∈ wsX70, w ∈ wsX7_write := by decide +kernel
  obtain ⟨hWro, hM, hM2, hWhi, hWto, hWtb, hWtn⟩ := hP
  have h24 := hI.M24
  have h6 := hI.R6
  refine lv_aload_n hx hb dX7_write_0 rfl (lv_at hl 0 rfl) ?_
  refine kx_get (v := .ref (x + 1)) hx hb hts hinX7 hown hK hWro rfl 0 (by decide) (by decide +kernel) rfl dX7_write_1 ?_
  refine lv_iload_n hx hb dX7_write_4 rfl (lv_at hl 1 rfl) ?_
  refine lv_iload_n hx hb dX7_write_5 rfl (lv_at hl 2 rfl) ?_
  refine kx_retP (va_runV (As := [.int (y), .int (v)]) (rest := []) ⟨hx, hb, hml, hown, hts⟩ (k_X5_valueRefusal l D cs (x + 1) e g y v hI hG) (cwV 2 hts gX7_write_X5_valueRefusal rfl rfl rfl (by decide +kernel) ⟨Nat.le_of_ble_eq_true rfl, Nat.le_of_ble_eq_true rfl⟩) (kx_preV hK hN hM.obj rfl hM) rfl rfl hl.1 rfl (lv_room (Nat.le_of_ble_eq_true rfl)) dX7_write_6 ⟨Nat.le_of_ble_eq_true rfl, Nat.le_of_ble_eq_true rfl⟩) ?_
  refine kx_ci (x := nI (wwr e y v)) (y := nI (3)) (congrArg nI hw) ?_
  exact kx_retT (vx_runS (As := [.int (nI (3))]) (rest := []) ⟨hx, hb, hml, hown, hts⟩ (k_X7_refuseT3 l D cs L (by first | assumption | omega)) (cwS 1 hts gX7_write_X7_refuse rfl rfl rfl (by decide +kernel) ⟨Nat.le_of_ble_eq_true rfl, Nat.le_of_ble_eq_true rfl⟩) (kx_preXS hK hN hX trivial) rfl rfl hl.1 rfl (lv_room (Nat.le_of_ble_eq_true rfl)) dX7_write_9 ⟨Nat.le_of_ble_eq_true rfl, Nat.le_of_ble_eq_true rfl⟩) hlk hT
set_option maxHeartbeats 2500000 in
set_option maxRecDepth 100000 in
theorem k_X7_moveT1 (l : Launch) (D : va_G) (cs : Nat → ClassId) (x : Nat) (e : Nat → Int32) (g : Nat → Int64) (e1 : Nat → Int32) (g1 : Nat → Int64) (nx cn : Nat) (se : Nat → Nat → Int32) (sg : Nat → Nat → Int64) (b nn : Nat → Int32) (wd ln pa : Nat) (ft : Int32) (f fp t tp n0 : Int32) (hI : Inv e) (hw : wmv e f fp t tp n0 = 1) (L : Nat) (hL : L ≤ x) (hl9 : l.stackTraces = false) : vx_Met l yX7_move wsX7_move ({ frames := 7, cells := 1, slots := 6, locals := 112 } : Room) (PcX D cs L [.ref (x), .int (f), .int (fp), .int (t), .int (tp), .int (n0)] (fun H => HrC D cs x e g e1 g1 nx cn se sg b nn wd ln pa ft H)) QcF (XCh ("java/lang/IndexOutOfBoundsException")) 1 6 nowhere := by
  refine kx_metX (cc := cX7_move) (maxL := 6) (ret := (some .int)) (by decide) rfl (Nat.le_of_ble_eq_true rfl) ?_
  intro p en s m args below meth c hx hb hml hrt hts hown hlk hK hN hX hT hP ls hl
  have hl : lv_has ls 6 [(0, .ref (x)), (1, .int (f)), (2, .int (fp)), (3, .int (t)), (4, .int (tp)), (5, .int (n0))] := hl
  have hinX7 : ∀ w ∈ wsX70, w ∈ wsX7_move := by decide +kernel
  obtain ⟨hWro, hM, hM2, hWhi, hWto, hWtb, hWtn⟩ := hP
  have h24 := hI.M24
  have h6 := hI.R6
  refine lv_aload_n hx hb dX7_move_0 rfl (lv_at hl 0 rfl) ?_
  refine kx_get (v := .ref (x + 1)) hx hb hts hinX7 hown hK hWro rfl 0 (by decide) (by decide +kernel) rfl dX7_move_1 ?_
  refine lv_iload_n hx hb dX7_move_4 rfl (lv_at hl 1 rfl) ?_
  refine lv_iload_n hx hb dX7_move_5 rfl (lv_at hl 2 rfl) ?_
  refine lv_iload_n hx hb dX7_move_6 rfl (lv_at hl 3 rfl) ?_
  refine lv_iload hx hb dX7_move_7 (lv_at hl 4 rfl) ?_
  refine lv_iload hx hb dX7_move_9 (lv_at hl 5 rfl) ?_
  refine kx_retP (va_runV (As := [.int (f), .int (fp), .int (t), .int (tp), .int (n0)]) (rest := []) ⟨hx, hb, hml, hown, hts⟩ (k_X5_moveRefusal l D cs (x + 1) e g f fp t tp n0 hI) (cwV 5 hts gX7_move_X5_moveRefusal rfl rfl rfl (by decide +kernel) ⟨Nat.le_of_ble_eq_true rfl, Nat.le_of_ble_eq_true rfl⟩) (kx_preV hK hN hM.obj rfl hM) rfl rfl hl.1 rfl (lv_room (Nat.le_of_ble_eq_true rfl)) dX7_move_11 ⟨Nat.le_of_ble_eq_true rfl, Nat.le_of_ble_eq_true rfl⟩) ?_
  refine kx_ci (x := nI (wmv e f fp t tp n0)) (y := nI (1)) (congrArg nI hw) ?_
  exact kx_retT (vx_runS (As := [.int (nI (1))]) (rest := []) ⟨hx, hb, hml, hown, hts⟩ (k_X7_refuseT1 l D cs L (by first | assumption | omega)) (cwS 1 hts gX7_move_X7_refuse rfl rfl rfl (by decide +kernel) ⟨Nat.le_of_ble_eq_true rfl, Nat.le_of_ble_eq_true rfl⟩) (kx_preXS hK hN hX trivial) rfl rfl hl.1 rfl (lv_room (Nat.le_of_ble_eq_true rfl)) dX7_move_14 ⟨Nat.le_of_ble_eq_true rfl, Nat.le_of_ble_eq_true rfl⟩) hlk hT
set_option maxHeartbeats 2500000 in
set_option maxRecDepth 100000 in
theorem k_X7_moveT2 (l : Launch) (D : va_G) (cs : Nat → ClassId) (x : Nat) (e : Nat → Int32) (g : Nat → Int64) (e1 : Nat → Int32) (g1 : Nat → Int64) (nx cn : Nat) (se : Nat → Nat → Int32) (sg : Nat → Nat → Int64) (b nn : Nat → Int32) (wd ln pa : Nat) (ft : Int32) (f fp t tp n0 : Int32) (hI : Inv e) (hw : wmv e f fp t tp n0 = 2) (L : Nat) (hL : L ≤ x) (hl9 : l.stackTraces = false) : vx_Met l yX7_move wsX7_move ({ frames := 7, cells := 1, slots := 6, locals := 112 } : Room) (PcX D cs L [.ref (x), .int (f), .int (fp), .int (t), .int (tp), .int (n0)] (fun H => HrC D cs x e g e1 g1 nx cn se sg b nn wd ln pa ft H)) QcF (XCh ("java/lang/IllegalArgumentException")) 1 6 nowhere := by
  refine kx_metX (cc := cX7_move) (maxL := 6) (ret := (some .int)) (by decide) rfl (Nat.le_of_ble_eq_true rfl) ?_
  intro p en s m args below meth c hx hb hml hrt hts hown hlk hK hN hX hT hP ls hl
  have hl : lv_has ls 6 [(0, .ref (x)), (1, .int (f)), (2, .int (fp)), (3, .int (t)), (4, .int (tp)), (5, .int (n0))] := hl
  have hinX7 : ∀ w ∈ wsX70, w ∈ wsX7_move := by decide +kernel
  obtain ⟨hWro, hM, hM2, hWhi, hWto, hWtb, hWtn⟩ := hP
  have h24 := hI.M24
  have h6 := hI.R6
  refine lv_aload_n hx hb dX7_move_0 rfl (lv_at hl 0 rfl) ?_
  refine kx_get (v := .ref (x + 1)) hx hb hts hinX7 hown hK hWro rfl 0 (by decide) (by decide +kernel) rfl dX7_move_1 ?_
  refine lv_iload_n hx hb dX7_move_4 rfl (lv_at hl 1 rfl) ?_
  refine lv_iload_n hx hb dX7_move_5 rfl (lv_at hl 2 rfl) ?_
  refine lv_iload_n hx hb dX7_move_6 rfl (lv_at hl 3 rfl) ?_
  refine lv_iload hx hb dX7_move_7 (lv_at hl 4 rfl) ?_
  refine lv_iload hx hb dX7_move_9 (lv_at hl 5 rfl) ?_
  refine kx_retP (va_runV (As := [.int (f), .int (fp), .int (t), .int (tp), .int (n0)]) (rest := []) ⟨hx, hb, hml, hown, hts⟩ (k_X5_moveRefusal l D cs (x + 1) e g f fp t tp n0 hI) (cwV 5 hts gX7_move_X5_moveRefusal rfl rfl rfl (by decide +kernel) ⟨Nat.le_of_ble_eq_true rfl, Nat.le_of_ble_eq_true rfl⟩) (kx_preV hK hN hM.obj rfl hM) rfl rfl hl.1 rfl (lv_room (Nat.le_of_ble_eq_true rfl)) dX7_move_11 ⟨Nat.le_of_ble_eq_true rfl, Nat.le_of_ble_eq_true rfl⟩) ?_
  refine kx_ci (x := nI (wmv e f fp t tp n0)) (y := nI (2)) (congrArg nI hw) ?_
  exact kx_retT (vx_runS (As := [.int (nI (2))]) (rest := []) ⟨hx, hb, hml, hown, hts⟩ (k_X7_refuseT2 l D cs L (by first | assumption | omega)) (cwS 1 hts gX7_move_X7_refuse rfl rfl rfl (by decide +kernel) ⟨Nat.le_of_ble_eq_true rfl, Nat.le_of_ble_eq_true rfl⟩) (kx_preXS hK hN hX trivial) rfl rfl hl.1 rfl (lv_room (Nat.le_of_ble_eq_true rfl)) dX7_move_14 ⟨Nat.le_of_ble_eq_true rfl, Nat.le_of_ble_eq_true rfl⟩) hlk hT
set_option maxHeartbeats 2500000 in
set_option maxRecDepth 100000 in
theorem k_X7_moveT3 (l : Launch) (D : va_G) (cs : Nat → ClassId) (x : Nat) (e : Nat → Int32) (g : Nat → Int64) (e1 : Nat → Int32) (g1 : Nat → Int64) (nx cn : Nat) (se : Nat → Nat → Int32) (sg : Nat → Nat → Int64) (b nn : Nat → Int32) (wd ln pa : Nat) (ft : Int32) (f fp t tp n0 : Int32) (hI : Inv e) (hw : wmv e f fp t tp n0 = 3) (L : Nat) (hL : L ≤ x) (hl9 : l.stackTraces = false) : vx_Met l yX7_move wsX7_move ({ frames := 7, cells := 1, slots := 6, locals := 112 } : Room) (PcX D cs L [.ref (x), .int (f), .int (fp), .int (t), .int (tp), .int (n0)] (fun H => HrC D cs x e g e1 g1 nx cn se sg b nn wd ln pa ft H)) QcF (XCh ("java/lang/IllegalStateException")) 1 6 nowhere := by
  refine kx_metX (cc := cX7_move) (maxL := 6) (ret := (some .int)) (by decide) rfl (Nat.le_of_ble_eq_true rfl) ?_
  intro p en s m args below meth c hx hb hml hrt hts hown hlk hK hN hX hT hP ls hl
  have hl : lv_has ls 6 [(0, .ref (x)), (1, .int (f)), (2, .int (fp)), (3, .int (t)), (4, .int (tp)), (5, .int (n0))] := hl
  have hinX7 : ∀ w ∈ wsX70, w ∈ wsX7_move := by decide +kernel
  obtain ⟨hWro, hM, hM2, hWhi, hWto, hWtb, hWtn⟩ := hP
  have h24 := hI.M24
  have h6 := hI.R6
  refine lv_aload_n hx hb dX7_move_0 rfl (lv_at hl 0 rfl) ?_
  refine kx_get (v := .ref (x + 1)) hx hb hts hinX7 hown hK hWro rfl 0 (by decide) (by decide +kernel) rfl dX7_move_1 ?_
  refine lv_iload_n hx hb dX7_move_4 rfl (lv_at hl 1 rfl) ?_
  refine lv_iload_n hx hb dX7_move_5 rfl (lv_at hl 2 rfl) ?_
  refine lv_iload_n hx hb dX7_move_6 rfl (lv_at hl 3 rfl) ?_
  refine lv_iload hx hb dX7_move_7 (lv_at hl 4 rfl) ?_
  refine lv_iload hx hb dX7_move_9 (lv_at hl 5 rfl) ?_
  refine kx_retP (va_runV (As := [.int (f), .int (fp), .int (t), .int (tp), .int (n0)]) (rest := []) ⟨hx, hb, hml, hown, hts⟩ (k_X5_moveRefusal l D cs (x + 1) e g f fp t tp n0 hI) (cwV 5 hts gX7_move_X5_moveRefusal rfl rfl rfl (by decide +kernel) ⟨Nat.le_of_ble_eq_true rfl, Nat.le_of_ble_eq_true rfl⟩) (kx_preV hK hN hM.obj rfl hM) rfl rfl hl.1 rfl (lv_room (Nat.le_of_ble_eq_true rfl)) dX7_move_11 ⟨Nat.le_of_ble_eq_true rfl, Nat.le_of_ble_eq_true rfl⟩) ?_
  refine kx_ci (x := nI (wmv e f fp t tp n0)) (y := nI (3)) (congrArg nI hw) ?_
  exact kx_retT (vx_runS (As := [.int (nI (3))]) (rest := []) ⟨hx, hb, hml, hown, hts⟩ (k_X7_refuseT3 l D cs L (by first | assumption | omega)) (cwS 1 hts gX7_move_X7_refuse rfl rfl rfl (by decide +kernel) ⟨Nat.le_of_ble_eq_true rfl, Nat.le_of_ble_eq_true rfl⟩) (kx_preXS hK hN hX trivial) rfl rfl hl.1 rfl (lv_room (Nat.le_of_ble_eq_true rfl)) dX7_move_14 ⟨Nat.le_of_ble_eq_true rfl, Nat.le_of_ble_eq_true rfl⟩) hlk hT
set_option maxHeartbeats 2500000 in
set_option maxRecDepth 100000 in
theorem k_X7_signT1 (l : Launch) (D : va_G) (cs : Nat → ClassId) (x : Nat) (e : Nat → Int32) (g : Nat → Int64) (e1 : Nat → Int32) (g1 : Nat → Int64) (nx cn : Nat) (se : Nat → Nat → Int32) (sg : Nat → Nat → Int64) (b nn : Nat → Int32) (wd ln pa : Nat) (ft : Int32) (r : Int32) (hI : Inv e) (hw : c23 (wsg e r) = 1) (L : Nat) (hL : L ≤ x) (hl9 : l.stackTraces = false) : vx_Met l yX7_sign wsX7_sign ({ frames := 7, cells := 1, slots := 6, locals := 112 } : Room) (PcX D cs L [.ref (x), .int (r)] (fun H => HrC D cs x e g e1 g1 nx cn se sg b nn wd ln pa ft H)) QcF (XCh ("java/lang/IndexOutOfBoundsException")) 1 6 nowhere := by
  refine kx_metX (cc := cX7_sign) (maxL := 2) (ret := (some .int)) (by decide) rfl (Nat.le_of_ble_eq_true rfl) ?_
  intro p en s m args below meth c hx hb hml hrt hts hown hlk hK hN hX hT hP ls hl
  have hl : lv_has ls 2 [(0, .ref (x)), (1, .int (r))] := hl
  have hinX7 : ∀ w ∈ wsX70, w ∈ wsX7_sign := by decide +kernel
  obtain ⟨hWro, hM, hM2, hWhi, hWto, hWtb, hWtn⟩ := hP
  have h24 := hI.M24
  have h6 := hI.R6
  refine lv_aload_n hx hb dX7_sign_0 rfl (lv_at hl 0 rfl) ?_
  refine kx_get (v := .ref (x + 1)) hx hb hts hinX7 hown hK hWro rfl 0 (by decide) (by decide +kernel) rfl dX7_sign_1 ?_
  refine lv_iload_n hx hb dX7_sign_4 rfl (lv_at hl 1 rfl) ?_
  refine kx_retP (va_runV (As := [.int (r)]) (rest := []) ⟨hx, hb, hml, hown, hts⟩ (k_X5_signRefusal l D cs (x + 1) e g r hI) (cwV 1 hts gX7_sign_X5_signRefusal rfl rfl rfl (by decide +kernel) ⟨Nat.le_of_ble_eq_true rfl, Nat.le_of_ble_eq_true rfl⟩) (kx_preV hK hN hM.obj rfl hM) rfl rfl hl.1 rfl (lv_room (Nat.le_of_ble_eq_true rfl)) dX7_sign_5 ⟨Nat.le_of_ble_eq_true rfl, Nat.le_of_ble_eq_true rfl⟩) ?_
  refine kx_ci (x := nI (c23 (wsg e r))) (y := nI (1)) (congrArg nI hw) ?_
  exact kx_retT (vx_runS (As := [.int (nI (1))]) (rest := []) ⟨hx, hb, hml, hown, hts⟩ (k_X7_refuseT1 l D cs L (by first | assumption | omega)) (cwS 1 hts gX7_sign_X7_refuse rfl rfl rfl (by decide +kernel) ⟨Nat.le_of_ble_eq_true rfl, Nat.le_of_ble_eq_true rfl⟩) (kx_preXS hK hN hX trivial) rfl rfl hl.1 rfl (lv_room (Nat.le_of_ble_eq_true rfl)) dX7_sign_8 ⟨Nat.le_of_ble_eq_true rfl, Nat.le_of_ble_eq_true rfl⟩) hlk hT
set_option maxHeartbeats 2500000 in
set_option maxRecDepth 100000 in
theorem k_X7_signT2 (l : Launch) (D : va_G) (cs : Nat → ClassId) (x : Nat) (e : Nat → Int32) (g : Nat → Int64) (e1 : Nat → Int32) (g1 : Nat → Int64) (nx cn : Nat) (se : Nat → Nat → Int32) (sg : Nat → Nat → Int64) (b nn : Nat → Int32) (wd ln pa : Nat) (ft : Int32) (r : Int32) (hI : Inv e) (hw : c23 (wsg e r) = 2) (L : Nat) (hL : L ≤ x) (hl9 : l.stackTraces = false) : vx_Met l yX7_sign wsX7_sign ({ frames := 7, cells := 1, slots := 6, locals := 112 } : Room) (PcX D cs L [.ref (x), .int (r)] (fun H => HrC D cs x e g e1 g1 nx cn se sg b nn wd ln pa ft H)) QcF (XCh ("java/lang/IllegalArgumentException")) 1 6 nowhere := by
  refine kx_metX (cc := cX7_sign) (maxL := 2) (ret := (some .int)) (by decide) rfl (Nat.le_of_ble_eq_true rfl) ?_
  intro p en s m args below meth c hx hb hml hrt hts hown hlk hK hN hX hT hP ls hl
  have hl : lv_has ls 2 [(0, .ref (x)), (1, .int (r))] := hl
  have hinX7 : ∀ w ∈ wsX70, w ∈ wsX7_sign := by decide +kernel
  obtain ⟨hWro, hM, hM2, hWhi, hWto, hWtb, hWtn⟩ := hP
  have h24 := hI.M24
  have h6 := hI.R6
  refine lv_aload_n hx hb dX7_sign_0 rfl (lv_at hl 0 rfl) ?_
  refine kx_get (v := .ref (x + 1)) hx hb hts hinX7 hown hK hWro rfl 0 (by decide) (by decide +kernel) rfl dX7_sign_1 ?_
  refine lv_iload_n hx hb dX7_sign_4 rfl (lv_at hl 1 rfl) ?_
  refine kx_retP (va_runV (As := [.int (r)]) (rest := []) ⟨hx, hb, hml, hown, hts⟩ (k_X5_signRefusal l D cs (x + 1) e g r hI) (cwV 1 hts gX7_sign_X5_signRefusal rfl rfl rfl (by decide +kernel) ⟨Nat.le_of_ble_eq_true rfl, Nat.le_of_ble_eq_true rfl⟩) (kx_preV hK hN hM.obj rfl hM) rfl rfl hl.1 rfl (lv_room (Nat.le_of_ble_eq_true rfl)) dX7_sign_5 ⟨Nat.le_of_ble_eq_true rfl, Nat.le_of_ble_eq_true rfl⟩) ?_
  refine kx_ci (x := nI (c23 (wsg e r))) (y := nI (2)) (congrArg nI hw) ?_
  exact kx_retT (vx_runS (As := [.int (nI (2))]) (rest := []) ⟨hx, hb, hml, hown, hts⟩ (k_X7_refuseT2 l D cs L (by first | assumption | omega)) (cwS 1 hts gX7_sign_X7_refuse rfl rfl rfl (by decide +kernel) ⟨Nat.le_of_ble_eq_true rfl, Nat.le_of_ble_eq_true rfl⟩) (kx_preXS hK hN hX trivial) rfl rfl hl.1 rfl (lv_room (Nat.le_of_ble_eq_true rfl)) dX7_sign_8 ⟨Nat.le_of_ble_eq_true rfl, Nat.le_of_ble_eq_true rfl⟩) hlk hT
set_option maxHeartbeats 2500000 in
set_option maxRecDepth 100000 in
theorem k_X7_signT3 (l : Launch) (D : va_G) (cs : Nat → ClassId) (x : Nat) (e : Nat → Int32) (g : Nat → Int64) (e1 : Nat → Int32) (g1 : Nat → Int64) (nx cn : Nat) (se : Nat → Nat → Int32) (sg : Nat → Nat → Int64) (b nn : Nat → Int32) (wd ln pa : Nat) (ft : Int32) (r : Int32) (hI : Inv e) (hw : c23 (wsg e r) = 3) (L : Nat) (hL : L ≤ x) (hl9 : l.stackTraces = false) : vx_Met l yX7_sign wsX7_sign ({ frames := 7, cells := 1, slots := 6, locals := 112 } : Room) (PcX D cs L [.ref (x), .int (r)] (fun H => HrC D cs x e g e1 g1 nx cn se sg b nn wd ln pa ft H)) QcF (XCh ("java/lang/IllegalStateException")) 1 6 nowhere := by
  refine kx_metX (cc := cX7_sign) (maxL := 2) (ret := (some .int)) (by decide) rfl (Nat.le_of_ble_eq_true rfl) ?_
  intro p en s m args below meth c hx hb hml hrt hts hown hlk hK hN hX hT hP ls hl
  have hl : lv_has ls 2 [(0, .ref (x)), (1, .int (r))] := hl
  have hinX7 : ∀ w ∈ wsX70, w ∈ wsX7_sign := by decide +kernel
  obtain ⟨hWro, hM, hM2, hWhi, hWto, hWtb, hWtn⟩ := hP
  have h24 := hI.M24
  have h6 := hI.R6
  refine lv_aload_n hx hb dX7_sign_0 rfl (lv_at hl 0 rfl) ?_
  refine kx_get (v := .ref (x + 1)) hx hb hts hinX7 hown hK hWro rfl 0 (by decide) (by decide +kernel) rfl dX7_sign_1 ?_
  refine lv_iload_n hx hb dX7_sign_4 rfl (lv_at hl 1 rfl) ?_
  refine kx_retP (va_runV (As := [.int (r)]) (rest := []) ⟨hx, hb, hml, hown, hts⟩ (k_X5_signRefusal l D cs (x + 1) e g r hI) (cwV 1 hts gX7_sign_X5_signRefusal rfl rfl rfl (by decide +kernel) ⟨Nat.le_of_ble_eq_true rfl, Nat.le_of_ble_eq_true rfl⟩) (kx_preV hK hN hM.obj rfl hM) rfl rfl hl.1 rfl (lv_room (Nat.le_of_ble_eq_true rfl)) dX7_sign_5 ⟨Nat.le_of_ble_eq_true rfl, Nat.le_of_ble_eq_true rfl⟩) ?_
  refine kx_ci (x := nI (c23 (wsg e r))) (y := nI (3)) (congrArg nI hw) ?_
  exact kx_retT (vx_runS (As := [.int (nI (3))]) (rest := []) ⟨hx, hb, hml, hown, hts⟩ (k_X7_refuseT3 l D cs L (by first | assumption | omega)) (cwS 1 hts gX7_sign_X7_refuse rfl rfl rfl (by decide +kernel) ⟨Nat.le_of_ble_eq_true rfl, Nat.le_of_ble_eq_true rfl⟩) (kx_preXS hK hN hX trivial) rfl rfl hl.1 rfl (lv_room (Nat.le_of_ble_eq_true rfl)) dX7_sign_8 ⟨Nat.le_of_ble_eq_true rfl, Nat.le_of_ble_eq_true rfl⟩) hlk hT
set_option maxHeartbeats 2500000 in
set_option maxRecDepth 100000 in
theorem k_X7_strikeT1 (l : Launch) (D : va_G) (cs : Nat → ClassId) (x : Nat) (e : Nat → Int32) (g : Nat → Int64) (e1 : Nat → Int32) (g1 : Nat → Int64) (nx cn : Nat) (se : Nat → Nat → Int32) (sg : Nat → Nat → Int64) (b nn : Nat → Int32) (wd ln pa : Nat) (ft : Int32) (r : Int32) (y : Bool) (hI : Inv e) (hw : c23 (wst e r (bI y)) = 1) (L : Nat) (hL : L ≤ x) (hl9 : l.stackTraces = false) : vx_Met l yX7_strike wsX7_strike ({ frames := 7, cells := 1, slots := 6, locals := 112 } : Room) (PcX D cs L [.ref (x), .int (r), .int (bI (y))] (fun H => HrC D cs x e g e1 g1 nx cn se sg b nn wd ln pa ft H)) QcF (XCh ("java/lang/IndexOutOfBoundsException")) 1 6 nowhere := by
  refine kx_metX (cc := cX7_strike) (maxL := 3) (ret := (some .int)) (by decide) rfl (Nat.le_of_ble_eq_true rfl) ?_
  intro p en s m args below meth c hx hb hml hrt hts hown hlk hK hN hX hT hP ls hl
  have hl : lv_has ls 3 [(0, .ref (x)), (1, .int (r)), (2, .int (bI (y)))] := hl
  have hinX7 : ∀ w ∈ wsX70, w ∈ wsX7_strike := by decide +kernel
  obtain ⟨hWro, hM, hM2, hWhi, hWto, hWtb, hWtn⟩ := hP
  have h24 := hI.M24
  have h6 := hI.R6
  refine lv_aload_n hx hb dX7_strike_0 rfl (lv_at hl 0 rfl) ?_
  refine kx_get (v := .ref (x + 1)) hx hb hts hinX7 hown hK hWro rfl 0 (by decide) (by decide +kernel) rfl dX7_strike_1 ?_
  refine lv_iload_n hx hb dX7_strike_4 rfl (lv_at hl 1 rfl) ?_
  refine lv_iload_n hx hb dX7_strike_5 rfl (lv_at hl 2 rfl) ?_
  refine kx_retP (va_runV (As := [.int (r), .int (bI (y))]) (rest := []) ⟨hx, hb, hml, hown, hts⟩ (k_X5_strikeRefusal l D cs (x + 1) e g r y hI) (cwV 2 hts gX7_strike_X5_strikeRefusal rfl rfl rfl (by decide +kernel) ⟨Nat.le_of_ble_eq_true rfl, Nat.le_of_ble_eq_true rfl⟩) (kx_preV hK hN hM.obj rfl hM) rfl rfl hl.1 rfl (lv_room (Nat.le_of_ble_eq_true rfl)) dX7_strike_6 ⟨Nat.le_of_ble_eq_true rfl, Nat.le_of_ble_eq_true rfl⟩) ?_
  refine kx_ci (x := nI (c23 (wst e r (bI y)))) (y := nI (1)) (congrArg nI hw) ?_
  exact kx_retT (vx_runS (As := [.int (nI (1))]) (rest := []) ⟨hx, hb, hml, hown, hts⟩ (k_X7_refuseT1 l D cs L (by first | assumption | omega)) (cwS 1 hts gX7_strike_X7_refuse rfl rfl rfl (by decide +kernel) ⟨Nat.le_of_ble_eq_true rfl, Nat.le_of_ble_eq_true rfl⟩) (kx_preXS hK hN hX trivial) rfl rfl hl.1 rfl (lv_room (Nat.le_of_ble_eq_true rfl)) dX7_strike_9 ⟨Nat.le_of_ble_eq_true rfl, Nat.le_of_ble_eq_true rfl⟩) hlk hT
set_option maxHeartbeats 2500000 in
set_option maxRecDepth 100000 in
theorem k_X7_strikeT2 (l : Launch) (D : va_G) (cs : Nat → ClassId) (x : Nat) (e : Nat → Int32) (g : Nat → Int64) (e1 : Nat → Int32) (g1 : Nat → Int64) (nx cn : Nat) (se : Nat → Nat → Int32) (sg : Nat → Nat → Int64) (b nn : Nat → Int32) (wd ln pa : Nat) (ft : Int32) (r : Int32) (y : Bool) (hI : Inv e) (hw : c23 (wst e r (bI y)) = 2) (L : Nat) (hL : L ≤ x) (hl9 : l.stackTraces = false) : vx_Met l yX7_strike wsX7_strike ({ frames := 7, cells := 1, slots := 6, locals := 112 } : Room) (PcX D cs L [.ref (x), .int (r), .int (bI (y))] (fun H => HrC D cs x e g e1 g1 nx cn se sg b nn wd ln pa ft H)) QcF (XCh ("java/lang/IllegalArgumentException")) 1 6 nowhere := by
  refine kx_metX (cc := cX7_strike) (maxL := 3) (ret := (some .int)) (by decide) rfl (Nat.le_of_ble_eq_true rfl) ?_
  intro p en s m args below meth c hx hb hml hrt hts hown hlk hK hN hX hT hP ls hl
  have hl : lv_has ls 3 [(0, .ref (x)), (1, .int (r)), (2, .int (bI (y)))] := hl
  have hinX7 : ∀ w ∈ wsX70, w ∈ wsX7_strike := by decide +kernel
  obtain ⟨hWro, hM, hM2, hWhi, hWto, hWtb, hWtn⟩ := hP
  have h24 := hI.M24
  have h6 := hI.R6
  refine lv_aload_n hx hb dX7_strike_0 rfl (lv_at hl 0 rfl) ?_
  refine kx_get (v := .ref (x + 1)) hx hb hts hinX7 hown hK hWro rfl 0 (by decide) (by decide +kernel) rfl dX7_strike_1 ?_
  refine lv_iload_n hx hb dX7_strike_4 rfl (lv_at hl 1 rfl) ?_
  refine lv_iload_n hx hb dX7_strike_5 rfl (lv_at hl 2 rfl) ?_
  refine kx_retP (va_runV (As := [.int (r), .int (bI (y))]) (rest := []) ⟨hx, hb, hml, hown, hts⟩ (k_X5_strikeRefusal l D cs (x + 1) e g r y hI) (cwV 2 hts gX7_strike_X5_strikeRefusal rfl rfl rfl (by decide +kernel) ⟨Nat.le_of_ble_eq_true rfl, Nat.le_of_ble_eq_true rfl⟩) (kx_preV hK hN hM.obj rfl hM) rfl rfl hl.1 rfl (lv_room (Nat.le_of_ble_eq_true rfl)) dX7_strike_6 ⟨Nat.le_of_ble_eq_true rfl, Nat.le_of_ble_eq_true rfl⟩) ?_
  refine kx_ci (x := nI (c23 (wst e r (bI y)))) (y := nI (2)) (congrArg nI hw) ?_
  exact kx_retT (vx_runS (As := [.int (nI (2))]) (rest := []) ⟨hx, hb, hml, hown, hts⟩ (k_X7_refuseT2 l D cs L (by first | assumption | omega)) (cwS 1 hts gX7_strike_X7_refuse rfl rfl rfl (by decide +kernel) ⟨Nat.le_of_ble_eq_true rfl, Nat.le_of_ble_eq_true rfl⟩) (kx_preXS hK hN hX trivial) rfl rfl hl.1 rfl (lv_room (Nat.le_of_ble_eq_true rfl)) dX7_strike_9 ⟨Nat.le_of_ble_eq_true rfl, Nat.le_of_ble_eq_true rfl⟩) hlk hT
set_option maxHeartbeats 2500000 in
set_option maxRecDepth 100000 in
theorem k_X7_strikeT3 (l : Launch) (D : va_G) (cs : Nat → ClassId) (x : Nat) (e : Nat → Int32) (g : Nat → Int64) (e1 : Nat → Int32) (g1 : Nat → Int64) (nx cn : Nat) (se : Nat → Nat → Int32) (sg : Nat → Nat → Int64) (b nn : Nat → Int32) (wd ln pa : Nat) (ft : Int32) (r : Int32) (y : Bool) (hI : Inv e) (hw : c23 (wst e r (bI y)) = 3) (L : Nat) (hL : L ≤ x) (hl9 : l.stackTraces = false) : vx_Met l yX7_strike wsX7_strike ({ frames := 7, cells := 1, slots := 6, locals := 112 } : Room) (PcX D cs L [.ref (x), .int (r), .int (bI (y))] (fun H => HrC D cs x e g e1 g1 nx cn se sg b nn wd ln pa ft H)) QcF (XCh ("java/lang/IllegalStateException")) 1 6 nowhere := by
  refine kx_metX (cc := cX7_strike) (maxL := 3) (ret := (some .int)) (by decide) rfl (Nat.le_of_ble_eq_true rfl) ?_
  intro p en s m args below meth c hx hb hml hrt hts hown hlk hK hN hX hT hP ls hl
  have hl : lv_has ls 3 [(0, .ref (x)), (1, .int (r)), (2, .int (bI (y)))] := hl
  have hinX7 : ∀ w ∈ wsX70, w ∈ wsX7_strike := by decide +kernel
  obtain ⟨hWro, hM, hM2, hWhi, hWto, hWtb, hWtn⟩ := hP
  have h24 := hI.M24
  have h6 := hI.R6
  refine lv_aload_n hx hb dX7_strike_0 rfl (lv_at hl 0 rfl) ?_
  refine kx_get (v := .ref (x + 1)) hx hb hts hinX7 hown hK hWro rfl 0 (by decide) (by decide +kernel) rfl dX7_strike_1 ?_
  refine lv_iload_n hx hb dX7_strike_4 rfl (lv_at hl 1 rfl) ?_
  refine lv_iload_n hx hb dX7_strike_5 rfl (lv_at hl 2 rfl) ?_
  refine kx_retP (va_runV (As := [.int (r), .int (bI (y))]) (rest := []) ⟨hx, hb, hml, hown, hts⟩ (k_X5_strikeRefusal l D cs (x + 1) e g r y hI) (cwV 2 hts gX7_strike_X5_strikeRefusal rfl rfl rfl (by decide +kernel) ⟨Nat.le_of_ble_eq_true rfl, Nat.le_of_ble_eq_true rfl⟩) (kx_preV hK hN hM.obj rfl hM) rfl rfl hl.1 rfl (lv_room (Nat.le_of_ble_eq_true rfl)) dX7_strike_6 ⟨Nat.le_of_ble_eq_true rfl, Nat.le_of_ble_eq_true rfl⟩) ?_
  refine kx_ci (x := nI (c23 (wst e r (bI y)))) (y := nI (3)) (congrArg nI hw) ?_
  exact kx_retT (vx_runS (As := [.int (nI (3))]) (rest := []) ⟨hx, hb, hml, hown, hts⟩ (k_X7_refuseT3 l D cs L (by first | assumption | omega)) (cwS 1 hts gX7_strike_X7_refuse rfl rfl rfl (by decide +kernel) ⟨Nat.le_of_ble_eq_true rfl, Nat.le_of_ble_eq_true rfl⟩) (kx_preXS hK hN hX trivial) rfl rfl hl.1 rfl (lv_room (Nat.le_of_ble_eq_true rfl)) dX7_strike_9 ⟨Nat.le_of_ble_eq_true rfl, Nat.le_of_ble_eq_true rfl⟩) hlk hT
set_option maxHeartbeats 2500000 in
set_option maxRecDepth 100000 in
theorem k_X7_passT1 (l : Launch) (D : va_G) (cs : Nat → ClassId) (x : Nat) (e : Nat → Int32) (g : Nat → Int64) (e1 : Nat → Int32) (g1 : Nat → Int64) (nx cn : Nat) (se : Nat → Nat → Int32) (sg : Nat → Nat → Int64) (b nn : Nat → Int32) (wd ln pa : Nat) (ft : Int32) (n0 : Int32) (hw : c12 (wtk e n0) = 1) (L : Nat) (hL : L ≤ x) (hl9 : l.stackTraces = false) : vx_Met l yX7_pass wsX7_pass ({ frames := 7, cells := 1, slots := 6, locals := 112 } : Room) (PcX D cs L [.ref (x), .int (n0)] (fun H => HrC D cs x e g e1 g1 nx cn se sg b nn wd ln pa ft H)) QcF (XCh ("java/lang/IndexOutOfBoundsException")) 1 6 nowhere := by
  refine kx_metX (cc := cX7_pass) (maxL := 2) (ret := (some .int)) (by decide) rfl (Nat.le_of_ble_eq_true rfl) ?_
  intro p en s m args below meth c hx hb hml hrt hts hown hlk hK hN hX hT hP ls hl
  have hl : lv_has ls 2 [(0, .ref (x)), (1, .int (n0))] := hl
  have hinX7 : ∀ w ∈ wsX70, w ∈ wsX7_pass := by decide +kernel
  obtain ⟨hWro, hM, hM2, hWhi, hWto, hWtb, hWtn⟩ := hP
  refine lv_aload_n hx hb dX7_pass_0 rfl (lv_at hl 0 rfl) ?_
  refine kx_get (v := .ref (x + 1)) hx hb hts hinX7 hown hK hWro rfl 0 (by decide) (by decide +kernel) rfl dX7_pass_1 ?_
  refine lv_iload_n hx hb dX7_pass_4 rfl (lv_at hl 1 rfl) ?_
  refine kx_retP (va_runV (As := [.int (n0)]) (rest := []) ⟨hx, hb, hml, hown, hts⟩ (k_X5_passRefusal l D cs (x + 1) e g n0) (cwV 1 hts gX7_pass_X5_passRefusal rfl rfl rfl (by decide +kernel) ⟨Nat.le_of_ble_eq_true rfl, Nat.le_of_ble_eq_true rfl⟩) (kx_preV hK hN hM.obj rfl hM) rfl rfl hl.1 rfl (lv_room (Nat.le_of_ble_eq_true rfl)) dX7_pass_5 ⟨Nat.le_of_ble_eq_true rfl, Nat.le_of_ble_eq_true rfl⟩) ?_
  refine kx_ci (x := nI (c12 (wtk e n0))) (y := nI (1)) (congrArg nI hw) ?_
  exact kx_retT (vx_runS (As := [.int (nI (1))]) (rest := []) ⟨hx, hb, hml, hown, hts⟩ (k_X7_refuseT1 l D cs L (by first | assumption | omega)) (cwS 1 hts gX7_pass_X7_refuse rfl rfl rfl (by decide +kernel) ⟨Nat.le_of_ble_eq_true rfl, Nat.le_of_ble_eq_true rfl⟩) (kx_preXS hK hN hX trivial) rfl rfl hl.1 rfl (lv_room (Nat.le_of_ble_eq_true rfl)) dX7_pass_8 ⟨Nat.le_of_ble_eq_true rfl, Nat.le_of_ble_eq_true rfl⟩) hlk hT
set_option maxHeartbeats 2500000 in
set_option maxRecDepth 100000 in
theorem k_X7_passT2 (l : Launch) (D : va_G) (cs : Nat → ClassId) (x : Nat) (e : Nat → Int32) (g : Nat → Int64) (e1 : Nat → Int32) (g1 : Nat → Int64) (nx cn : Nat) (se : Nat → Nat → Int32) (sg : Nat → Nat → Int64) (b nn : Nat → Int32) (wd ln pa : Nat) (ft : Int32) (n0 : Int32) (hw : c12 (wtk e n0) = 2) (L : Nat) (hL : L ≤ x) (hl9 : l.stackTraces = false) : vx_Met l yX7_pass wsX7_pass ({ frames := 7, cells := 1, slots := 6, locals := 112 } : Room) (PcX D cs L [.ref (x), .int (n0)] (fun H => HrC D cs x e g e1 g1 nx cn se sg b nn wd ln pa ft H)) QcF (XCh ("java/lang/IllegalArgumentException")) 1 6 nowhere := by
  refine kx_metX (cc := cX7_pass) (maxL := 2) (ret := (some .int)) (by decide) rfl (Nat.le_of_ble_eq_true rfl) ?_
  intro p en s m args below meth c hx hb hml hrt hts hown hlk hK hN hX hT hP ls hl
  have hl : lv_has ls 2 [(0, .ref (x)), (1, .int (n0))] := hl
  have hinX7 : ∀ w ∈ wsX70, w ∈ wsX7_pass := by decide +kernel
  obtain ⟨hWro, hM, hM2, hWhi, hWto, hWtb, hWtn⟩ := hP
  refine lv_aload_n hx hb dX7_pass_0 rfl (lv_at hl 0 rfl) ?_
  refine kx_get (v := .ref (x + 1)) hx hb hts hinX7 hown hK hWro rfl 0 (by decide) (by decide +kernel) rfl dX7_pass_1 ?_
  refine lv_iload_n hx hb dX7_pass_4 rfl (lv_at hl 1 rfl) ?_
  refine kx_retP (va_runV (As := [.int (n0)]) (rest := []) ⟨hx, hb, hml, hown, hts⟩ (k_X5_passRefusal l D cs (x + 1) e g n0) (cwV 1 hts gX7_pass_X5_passRefusal rfl rfl rfl (by decide +kernel) ⟨Nat.le_of_ble_eq_true rfl, Nat.le_of_ble_eq_true rfl⟩) (kx_preV hK hN hM.obj rfl hM) rfl rfl hl.1 rfl (lv_room (Nat.le_of_ble_eq_true rfl)) dX7_pass_5 ⟨Nat.le_of_ble_eq_true rfl, Nat.le_of_ble_eq_true rfl⟩) ?_
  refine kx_ci (x := nI (c12 (wtk e n0))) (y := nI (2)) (congrArg nI hw) ?_
  exact kx_retT (vx_runS (As := [.int (nI (2))]) (rest := []) ⟨hx, hb, hml, hown, hts⟩ (k_X7_refuseT2 l D cs L (by first | assumption | omega)) (cwS 1 hts gX7_pass_X7_refuse rfl rfl rfl (by decide +kernel) ⟨Nat.le_of_ble_eq_true rfl, Nat.le_of_ble_eq_true rfl⟩) (kx_preXS hK hN hX trivial) rfl rfl hl.1 rfl (lv_room (Nat.le_of_ble_eq_true rfl)) dX7_pass_8 ⟨Nat.le_of_ble_eq_true rfl, Nat.le_of_ble_eq_true rfl⟩) hlk hT
set_option maxHeartbeats 2500000 in
set_option maxRecDepth 100000 in
theorem k_X7_passT3 (l : Launch) (D : va_G) (cs : Nat → ClassId) (x : Nat) (e : Nat → Int32) (g : Nat → Int64) (e1 : Nat → Int32) (g1 : Nat → Int64) (nx cn : Nat) (se : Nat → Nat → Int32) (sg : Nat → Nat → Int64) (b nn : Nat → Int32) (wd ln pa : Nat) (ft : Int32) (n0 : Int32) (hw : c12 (wtk e n0) = 3) (L : Nat) (hL : L ≤ x) (hl9 : l.stackTraces = false) : vx_Met l yX7_pass wsX7_pass ({ frames := 7, cells := 1, slots := 6, locals := 112 } : Room) (PcX D cs L [.ref (x), .int (n0)] (fun H => HrC D cs x e g e1 g1 nx cn se sg b nn wd ln pa ft H)) QcF (XCh ("java/lang/IllegalStateException")) 1 6 nowhere := by
  refine kx_metX (cc := cX7_pass) (maxL := 2) (ret := (some .int)) (by decide) rfl (Nat.le_of_ble_eq_true rfl) ?_
  intro p en s m args below meth c hx hb hml hrt hts hown hlk hK hN hX hT hP ls hl
  have hl : lv_has ls 2 [(0, .ref (x)), (1, .int (n0))] := hl
  have hinX7 : ∀ w ∈ wsX70, w ∈ wsX7_pass := by decide +kernel
  obtain ⟨hWro, hM, hM2, hWhi, hWto, hWtb, hWtn⟩ := hP
  refine lv_aload_n hx hb dX7_pass_0 rfl (lv_at hl 0 rfl) ?_
  refine kx_get (v := .ref (x + 1)) hx hb hts hinX7 hown hK hWro rfl 0 (by decide) (by decide +kernel) rfl dX7_pass_1 ?_
  refine lv_iload_n hx hb dX7_pass_4 rfl (lv_at hl 1 rfl) ?_
  refine kx_retP (va_runV (As := [.int (n0)]) (rest := []) ⟨hx, hb, hml, hown, hts⟩ (k_X5_passRefusal l D cs (x + 1) e g n0) (cwV 1 hts gX7_pass_X5_passRefusal rfl rfl rfl (by decide +kernel) ⟨Nat.le_of_ble_eq_true rfl, Nat.le_of_ble_eq_true rfl⟩) (kx_preV hK hN hM.obj rfl hM) rfl rfl hl.1 rfl (lv_room (Nat.le_of_ble_eq_true rfl)) dX7_pass_5 ⟨Nat.le_of_ble_eq_true rfl, Nat.le_of_ble_eq_true rfl⟩) ?_
  refine kx_ci (x := nI (c12 (wtk e n0))) (y := nI (3)) (congrArg nI hw) ?_
  exact kx_retT (vx_runS (As := [.int (nI (3))]) (rest := []) ⟨hx, hb, hml, hown, hts⟩ (k_X7_refuseT3 l D cs L (by first | assumption | omega)) (cwS 1 hts gX7_pass_X7_refuse rfl rfl rfl (by decide +kernel) ⟨Nat.le_of_ble_eq_true rfl, Nat.le_of_ble_eq_true rfl⟩) (kx_preXS hK hN hX trivial) rfl rfl hl.1 rfl (lv_room (Nat.le_of_ble_eq_true rfl)) dX7_pass_8 ⟨Nat.le_of_ble_eq_true rfl, Nat.le_of_ble_eq_true rfl⟩) hlk hT
set_option maxHeartbeats 2500000 in
set_option maxRecDepth 100000 in
theorem k_X7_cellT (l : Launch) (D : va_G) (cs : Nat → ClassId) (x : Nat) (e : Nat → Int32) (g : Nat → Int64) (e1 : Nat → Int32) (g1 : Nat → Int64) (nx cn : Nat) (se : Nat → Nat → Int32) (sg : Nat → Nat → Int64) (b nn : Nat → Int32) (wd ln pa : Nat) (ft : Int32) (w : Int32) (hw : wiB w (nI 0) (nI 47) = false) (L : Nat) (hL : L ≤ x) (hl9 : l.stackTraces = false) : vx_Met l yX7_cell wsX7_cell ({ frames := 7, cells := 1, slots := 6, locals := 102 } : Room) (PcX D cs L [.ref (x), .int (w)] (fun H => HrC D cs x e g e1 g1 nx cn se sg b nn wd ln pa ft H)) QcF (XCh ("java/lang/IndexOutOfBoundsException")) 1 6 nowhere := by
  refine kx_metX (cc := cX7_cell) (maxL := 2) (ret := (some .int)) (by decide) rfl (Nat.le_of_ble_eq_true rfl) ?_
  intro p en s m args below meth c hx hb hml hrt hts hown hlk hK hN hX hT hP ls hl
  have hl : lv_has ls 2 [(0, .ref (x)), (1, .int (w))] := hl
  have hinX5 : ∀ w ∈ wsX50, w ∈ wsX7_cell := by decide +kernel
  have hinX7 : ∀ w ∈ wsX70, w ∈ wsX7_cell := by decide +kernel
  obtain ⟨hWro, hM, hM2, hWhi, hWto, hWtb, hWtn⟩ := hP
  refine lv_iload_n hx hb dX7_cell_0 rfl (lv_at hl 1 rfl) ?_
  exact kx_retT (vx_runS (As := [.int (w)]) (rest := []) ⟨hx, hb, hml, hown, hts⟩ (k_X7_requireCellT l D cs w hw L (by first | assumption | omega)) (cwS 1 hts gX7_cell_X7_requireCell rfl rfl rfl (by decide +kernel) ⟨Nat.le_of_ble_eq_true rfl, Nat.le_of_ble_eq_true rfl⟩) (kx_preXS hK hN hX trivial) rfl rfl hl.1 rfl (lv_room (Nat.le_of_ble_eq_true rfl)) dX7_cell_1 ⟨Nat.le_of_ble_eq_true rfl, Nat.le_of_ble_eq_true rfl⟩) hlk hT
set_option maxHeartbeats 2500000 in
set_option maxRecDepth 100000 in
theorem k_X7_reasonT (l : Launch) (D : va_G) (cs : Nat → ClassId) (x : Nat) (e : Nat → Int32) (g : Nat → Int64) (e1 : Nat → Int32) (g1 : Nat → Int64) (nx cn : Nat) (se : Nat → Nat → Int32) (sg : Nat → Nat → Int64) (b nn : Nat → Int32) (wd ln pa : Nat) (ft : Int32) (w : Int32) (hw : wiB w (nI 0) (nI 47) = false) (L : Nat) (hL : L ≤ x) (hl9 : l.stackTraces = false) : vx_Met l yX7_reason wsX7_reason ({ frames := 7, cells := 1, slots := 6, locals := 102 } : Room) (PcX D cs L [.ref (x), .int (w)] (fun H => HrC D cs x e g e1 g1 nx cn se sg b nn wd ln pa ft H)) QcF (XCh ("java/lang/IndexOutOfBoundsException")) 1 6 nowhere := by
  refine kx_metX (cc := cX7_reason) (maxL := 2) (ret := (some .int)) (by decide) rfl (Nat.le_of_ble_eq_true rfl) ?_
  intro p en s m args below meth c hx hb hml hrt hts hown hlk hK hN hX hT hP ls hl
  have hl : lv_has ls 2 [(0, .ref (x)), (1, .int (w))] := hl
  have hinX7 : ∀ w ∈ wsX70, w ∈ wsX7_reason := by decide +kernel
  obtain ⟨hWro, hM, hM2, hWhi, hWto, hWtb, hWtn⟩ := hP
  refine lv_iload_n hx hb dX7_reason_0 rfl (lv_at hl 1 rfl) ?_
  exact kx_retT (vx_runS (As := [.int (w)]) (rest := []) ⟨hx, hb, hml, hown, hts⟩ (k_X7_requireCellT l D cs w hw L (by first | assumption | omega)) (cwS 1 hts gX7_reason_X7_requireCell rfl rfl rfl (by decide +kernel) ⟨Nat.le_of_ble_eq_true rfl, Nat.le_of_ble_eq_true rfl⟩) (kx_preXS hK hN hX trivial) rfl rfl hl.1 rfl (lv_room (Nat.le_of_ble_eq_true rfl)) dX7_reason_1 ⟨Nat.le_of_ble_eq_true rfl, Nat.le_of_ble_eq_true rfl⟩) hlk hT
set_option maxHeartbeats 2500000 in
set_option maxRecDepth 100000 in
theorem k_X7_finalValueT (l : Launch) (D : va_G) (cs : Nat → ClassId) (x : Nat) (e : Nat → Int32) (g : Nat → Int64) (e1 : Nat → Int32) (g1 : Nat → Int64) (nx cn : Nat) (se : Nat → Nat → Int32) (sg : Nat → Nat → Int64) (b nn : Nat → Int32) (wd ln pa : Nat) (ft : Int32) (w : Int32) (hw : wiB w (nI 0) (nI 47) = false) (L : Nat) (hL : L ≤ x) (hl9 : l.stackTraces = false) : vx_Met l yX7_finalValue wsX7_finalValue ({ frames := 7, cells := 1, slots := 6, locals := 111 } : Room) (PcX D cs L [.ref (x), .int (w)] (fun H => HrC D cs x e g e1 g1 nx cn se sg b nn wd ln pa ft H)) QcF (XCh ("java/lang/IndexOutOfBoundsException")) 1 6 nowhere := by
  refine kx_metX (cc := cX7_finalValue) (maxL := 2) (ret := (some .int)) (by decide) rfl (Nat.le_of_ble_eq_true rfl) ?_
  intro p en s m args below meth c hx hb hml hrt hts hown hlk hK hN hX hT hP ls hl
  have hl : lv_has ls 2 [(0, .ref (x)), (1, .int (w))] := hl
  have hinX5 : ∀ w ∈ wsX50, w ∈ wsX7_finalValue := by decide +kernel
  have hinX7 : ∀ w ∈ wsX70, w ∈ wsX7_finalValue := by decide +kernel
  obtain ⟨hWro, hM, hM2, hWhi, hWto, hWtb, hWtn⟩ := hP
  refine lv_iload_n hx hb dX7_finalValue_0 rfl (lv_at hl 1 rfl) ?_
  exact kx_retT (vx_runS (As := [.int (w)]) (rest := []) ⟨hx, hb, hml, hown, hts⟩ (k_X7_requireCellT l D cs w hw L (by first | assumption | omega)) (cwS 1 hts gX7_finalValue_X7_requireCell rfl rfl rfl (by decide +kernel) ⟨Nat.le_of_ble_eq_true rfl, Nat.le_of_ble_eq_true rfl⟩) (kx_preXS hK hN hX trivial) rfl rfl hl.1 rfl (lv_room (Nat.le_of_ble_eq_true rfl)) dX7_finalValue_1 ⟨Nat.le_of_ble_eq_true rfl, Nat.le_of_ble_eq_true rfl⟩) hlk hT
set_option maxHeartbeats 2500000 in
set_option maxRecDepth 100000 in
theorem k_X7_ringT1 (l : Launch) (D : va_G) (cs : Nat → ClassId) (x : Nat) (e : Nat → Int32) (g : Nat → Int64) (e1 : Nat → Int32) (g1 : Nat → Int64) (nx cn : Nat) (se : Nat → Nat → Int32) (sg : Nat → Nat → Int64) (b nn : Nat → Int32) (wd ln pa : Nat) (ft : Int32) (r w : Int32) (hI : Inv e) (hw : lsB r (Rn e) = false) (L : Nat) (hL : L ≤ x) (hl9 : l.stackTraces = false) : vx_Met l yX7_ring wsX7_ring ({ frames := 6, cells := 1, slots := 6, locals := 82 } : Room) (PcX D cs L [.ref (x), .int (r), .int (w)] (fun H => HrC D cs x e g e1 g1 nx cn se sg b nn wd ln pa ft H)) QcF (XCh ("java/lang/IndexOutOfBoundsException")) 1 6 nowhere := by
  refine kx_metX (cc := cX7_ring) (maxL := 3) (ret := (some .int)) (by decide) rfl (Nat.le_of_ble_eq_true rfl) ?_
  intro p en s m args below meth c hx hb hml hrt hts hown hlk hK hN hX hT hP ls hl
  have hl : lv_has ls 3 [(0, .ref (x)), (1, .int (r)), (2, .int (w))] := hl
  have hinX7 : ∀ w ∈ wsX70, w ∈ wsX7_ring := by decide +kernel
  obtain ⟨hWro, hM, hM2, hWhi, hWto, hWtb, hWtn⟩ := hP
  have h24 := hI.M24
  have h6 := hI.R6
  refine lv_aload_n hx hb dX7_ring_0 rfl (lv_at hl 0 rfl) ?_
  refine kx_get (v := .ref (x + 1)) hx hb hts hinX7 hown hK hWro rfl 0 (by decide) (by decide +kernel) rfl dX7_ring_1 ?_
  refine lv_iload_n hx hb dX7_ring_4 rfl (lv_at hl 1 rfl) ?_
  refine kx_retP (va_runV (As := [.int (r)]) (rest := []) ⟨hx, hb, hml, hown, hts⟩ (k_X5_hasRing l D cs (x + 1) e g r hI) (cwV 1 hts gX7_ring_X5_hasRing rfl rfl rfl (by decide +kernel) ⟨Nat.le_of_ble_eq_true rfl, Nat.le_of_ble_eq_true rfl⟩) (kx_preV hK hN hM.obj rfl hM) rfl rfl hl.1 rfl (lv_room (Nat.le_of_ble_eq_true rfl)) dX7_ring_5 ⟨Nat.le_of_ble_eq_true rfl, Nat.le_of_ble_eq_true rfl⟩) ?_
  refine kb_if_ne (tgt := 21) hx hb dX7_ring_8 (by decide) (fun c8 => ?_) (fun c8 => ?_)
  · exact absurd (hw.symm.trans c8) (by decide)
  · obtain ⟨sa, hstr⟩ := hX.2.2.1 (111, "no such ring") (by decide)
    exact vx_throwS (own := RX7) (ik := 109) (A := fun x => L ≤ x) hx hb hl9 hown (by decide +kernel) (by decide +kernel) (hts (.classLink RX7 109 "java/lang/IndexOutOfBoundsException") (by decide +kernel)) (hts (.initialized "java/lang/IndexOutOfBoundsException") (by decide +kernel)) hstr (vx_hat (B := xkB "java/lang/IndexOutOfBoundsException") (fun w hw => hts w ((by decide +kernel : ∀ w ∈ (vx_atS RX7 113 "java/lang/IndexOutOfBoundsException" ["java/lang/RuntimeException", "java/lang/Exception"]).filter goodWord, w ∈ wsX7_ring) w hw)) (by rw [xk_a]; exact fun w h => h) (hX.bad (X := "java/lang/IndexOutOfBoundsException") (by decide))) (by intro w hw; rcases List.mem_cons.mp hw with rfl | hw; rfl; rcases List.mem_cons.mp hw with rfl | hw; rfl; exact xg_a w hw) hX.2.2.2.1 hX.2.2.2.2 va_S.rf (hl.1.trans hml.symm) dX7_ring_11 dX7_ring_14 dX7_ring_15 dX7_ring_17 dX7_ring_20 (fun x hx => (hT x hx).elim) (Nat.le_of_ble_eq_true rfl) (Nat.le_of_ble_eq_true rfl) (Nat.le_of_ble_eq_true rfl) (Nat.le_of_ble_eq_true rfl) hlk (fun t hal hsz hq => ⟨rfl, hsz, fun q h1 _ => hq q h1⟩) (fun z hz => nomatch hz) (Nat.le_refl _) (Nat.le_refl _)
set_option maxHeartbeats 2500000 in
set_option maxRecDepth 100000 in
theorem k_X7_ringT2 (l : Launch) (D : va_G) (cs : Nat → ClassId) (x : Nat) (e : Nat → Int32) (g : Nat → Int64) (e1 : Nat → Int32) (g1 : Nat → Int64) (nx cn : Nat) (se : Nat → Nat → Int32) (sg : Nat → Nat → Int64) (b nn : Nat → Int32) (wd ln pa : Nat) (ft : Int32) (r w : Int32) (hI : Inv e) (hr : lsB r (Rn e) = true) (hw : wiB w (nI 0) (nI 7) = false) (L : Nat) (hL : L ≤ x) (hl9 : l.stackTraces = false) : vx_Met l yX7_ring wsX7_ring ({ frames := 7, cells := 1, slots := 6, locals := 103 } : Room) (PcX D cs L [.ref (x), .int (r), .int (w)] (fun H => HrC D cs x e g e1 g1 nx cn se sg b nn wd ln pa ft H)) QcF (XCh ("java/lang/IllegalArgumentException")) 1 6 nowhere := by
  refine kx_metX (cc := cX7_ring) (maxL := 3) (ret := (some .int)) (by decide) rfl (Nat.le_of_ble_eq_true rfl) ?_
  intro p en s m args below meth c hx hb hml hrt hts hown hlk hK hN hX hT hP ls hl
  have hl : lv_has ls 3 [(0, .ref (x)), (1, .int (r)), (2, .int (w))] := hl
  have hinX7 : ∀ w ∈ wsX70, w ∈ wsX7_ring := by decide +kernel
  obtain ⟨hWro, hM, hM2, hWhi, hWto, hWtb, hWtn⟩ := hP
  have h24 := hI.M24
  have h6 := hI.R6
  refine lv_aload_n hx hb dX7_ring_0 rfl (lv_at hl 0 rfl) ?_
  refine kx_get (v := .ref (x + 1)) hx hb hts hinX7 hown hK hWro rfl 0 (by decide) (by decide +kernel) rfl dX7_ring_1 ?_
  refine lv_iload_n hx hb dX7_ring_4 rfl (lv_at hl 1 rfl) ?_
  refine kx_retP (va_runV (As := [.int (r)]) (rest := []) ⟨hx, hb, hml, hown, hts⟩ (k_X5_hasRing l D cs (x + 1) e g r hI) (cwV 1 hts gX7_ring_X5_hasRing rfl rfl rfl (by decide +kernel) ⟨Nat.le_of_ble_eq_true rfl, Nat.le_of_ble_eq_true rfl⟩) (kx_preV hK hN hM.obj rfl hM) rfl rfl hl.1 rfl (lv_room (Nat.le_of_ble_eq_true rfl)) dX7_ring_5 ⟨Nat.le_of_ble_eq_true rfl, Nat.le_of_ble_eq_true rfl⟩) ?_
  refine kb_if_ne (tgt := 21) hx hb dX7_ring_8 (by decide) (fun c8 => ?_) (fun c8 => ?_)
  · refine lv_iload_n hx hb dX7_ring_21 rfl (lv_at hl 2 rfl) ?_
    refine lv_bipush (v := nI 7) hx hb dX7_ring_22 (by decide) ?_
    exact kx_retT (vx_runS (As := [.int (w), .int (nI (7))]) (rest := []) ⟨hx, hb, hml, hown, hts⟩ (k_X7_requireRangeT l D cs w 7 hw L (by first | assumption | omega)) (cwS 2 hts gX7_ring_X7_requireRange rfl rfl rfl (by decide +kernel) ⟨Nat.le_of_ble_eq_true rfl, Nat.le_of_ble_eq_true rfl⟩) (kx_preXS hK hN hX trivial) rfl rfl hl.1 rfl (lv_room (Nat.le_of_ble_eq_true rfl)) dX7_ring_24 ⟨Nat.le_of_ble_eq_true rfl, Nat.le_of_ble_eq_true rfl⟩) hlk hT
  · exact absurd (hr.symm.trans c8) (by decide)
set_option maxHeartbeats 2500000 in
set_option maxRecDepth 100000 in
theorem k_X7_moveOfT1 (l : Launch) (D : va_G) (cs : Nat → ClassId) (x : Nat) (e : Nat → Int32) (g : Nat → Int64) (e1 : Nat → Int32) (g1 : Nat → Int64) (nx cn : Nat) (se : Nat → Nat → Int32) (sg : Nat → Nat → Int64) (b nn : Nat → Int32) (wd ln pa : Nat) (ft : Int32) (y w : Int32) (hI : Inv e) (hw : lsB y (Mn e) = false) (L : Nat) (hL : L ≤ x) (hl9 : l.stackTraces = false) : vx_Met l yX7_moveOf wsX7_moveOf ({ frames := 7, cells := 1, slots := 6, locals := 103 } : Room) (PcX D cs L [.ref (x), .int (y), .int (w)] (fun H => HrC D cs x e g e1 g1 nx cn se sg b nn wd ln pa ft H)) QcF (XCh ("java/lang/IndexOutOfBoundsException")) 1 6 nowhere := by
  refine kx_metX (cc := cX7_moveOf) (maxL := 3) (ret := (some .int)) (by decide) rfl (Nat.le_of_ble_eq_true rfl) ?_
  intro p en s m args below meth c hx hb hml hrt hts hown hlk hK hN hX hT hP ls hl
  have hl : lv_has ls 3 [(0, .ref (x)), (1, .int (y)), (2, .int (w))] := hl
  have hinX5 : ∀ w ∈ wsX50, w ∈ wsX7_moveOf := by decide +kernel
  have hinX7 : ∀ w ∈ wsX70, w ∈ wsX7_moveOf := by decide +kernel
  obtain ⟨hWro, hM, hM2, hWhi, hWto, hWtb, hWtn⟩ := hP
  have h24 := hI.M24
  have h6 := hI.R6
  refine lv_aload_n hx hb dX7_moveOf_0 rfl (lv_at hl 0 rfl) ?_
  refine lv_iload_n hx hb dX7_moveOf_1 rfl (lv_at hl 1 rfl) ?_
  exact kx_retT (vx_runV (As := [.int (y)]) (rest := []) ⟨hx, hb, hml, hown, hts⟩ (k_X7_requireMoveT l D cs x e g e1 g1 nx cn se sg b nn wd ln pa ft hI y hw L (by first | assumption | omega) (by first | assumption | omega)) (cwV 1 hts gX7_moveOf_X7_requireMove rfl rfl rfl (by decide +kernel) ⟨Nat.le_of_ble_eq_true rfl, Nat.le_of_ble_eq_true rfl⟩) (kx_preXV hK hN hX hWro rfl ⟨hWro, hM, hM2, hWhi, hWto, hWtb, hWtn⟩) rfl rfl hl.1 rfl (lv_room (Nat.le_of_ble_eq_true rfl)) dX7_moveOf_2 ⟨Nat.le_of_ble_eq_true rfl, Nat.le_of_ble_eq_true rfl⟩) hlk hT
set_option maxHeartbeats 2500000 in
set_option maxRecDepth 100000 in
theorem k_X7_hostageT1 (l : Launch) (D : va_G) (cs : Nat → ClassId) (x : Nat) (e : Nat → Int32) (g : Nat → Int64) (e1 : Nat → Int32) (g1 : Nat → Int64) (nx cn : Nat) (se : Nat → Nat → Int32) (sg : Nat → Nat → Int64) (b nn : Nat → Int32) (wd ln pa : Nat) (ft : Int32) (y w : Int32) (hI : Inv e) (hw : lsB y (Mn e) = false) (L : Nat) (hL : L ≤ x) (hl9 : l.stackTraces = false) : vx_Met l yX7_hostage wsX7_hostage ({ frames := 7, cells := 1, slots := 6, locals := 103 } : Room) (PcX D cs L [.ref (x), .int (y), .int (w)] (fun H => HrC D cs x e g e1 g1 nx cn se sg b nn wd ln pa ft H)) QcF (XCh ("java/lang/IndexOutOfBoundsException")) 1 6 nowhere := by
  refine kx_metX (cc := cX7_hostage) (maxL := 3) (ret := (some .int)) (by decide) rfl (Nat.le_of_ble_eq_true rfl) ?_
  intro p en s m args below meth c hx hb hml hrt hts hown hlk hK hN hX hT hP ls hl
  have hl : lv_has ls 3 [(0, .ref (x)), (1, .int (y)), (2, .int (w))] := hl
  have hinX5 : ∀ w ∈ wsX50, w ∈ wsX7_hostage := by decide +kernel
  have hinX7 : ∀ w ∈ wsX70, w ∈ wsX7_hostage := by decide +kernel
  obtain ⟨hWro, hM, hM2, hWhi, hWto, hWtb, hWtn⟩ := hP
  have h24 := hI.M24
  have h6 := hI.R6
  refine lv_aload_n hx hb dX7_hostage_0 rfl (lv_at hl 0 rfl) ?_
  refine lv_iload_n hx hb dX7_hostage_1 rfl (lv_at hl 1 rfl) ?_
  exact kx_retT (vx_runV (As := [.int (y)]) (rest := []) ⟨hx, hb, hml, hown, hts⟩ (k_X7_requireMoveT l D cs x e g e1 g1 nx cn se sg b nn wd ln pa ft hI y hw L (by first | assumption | omega) (by first | assumption | omega)) (cwV 1 hts gX7_hostage_X7_requireMove rfl rfl rfl (by decide +kernel) ⟨Nat.le_of_ble_eq_true rfl, Nat.le_of_ble_eq_true rfl⟩) (kx_preXV hK hN hX hWro rfl ⟨hWro, hM, hM2, hWhi, hWto, hWtb, hWtn⟩) rfl rfl hl.1 rfl (lv_room (Nat.le_of_ble_eq_true rfl)) dX7_hostage_2 ⟨Nat.le_of_ble_eq_true rfl, Nat.le_of_ble_eq_true rfl⟩) hlk hT
set_option maxHeartbeats 2500000 in
set_option maxRecDepth 100000 in
theorem k_X7_cellSetT1 (l : Launch) (D : va_G) (cs : Nat → ClassId) (x : Nat) (e : Nat → Int32) (g : Nat → Int64) (e1 : Nat → Int32) (g1 : Nat → Int64) (nx cn : Nat) (se : Nat → Nat → Int32) (sg : Nat → Nat → Int64) (b nn : Nat → Int32) (wd ln pa : Nat) (ft : Int32) (y : Int32) (w : Bool) (hI : Inv e) (hw : lsB y (Mn e) = false) (L : Nat) (hL : L ≤ x) (hl9 : l.stackTraces = false) : vx_Met l yX7_cellSet wsX7_cellSet ({ frames := 7, cells := 1, slots := 6, locals := 103 } : Room) (PcX D cs L [.ref (x), .int (y), .int (bI (w))] (fun H => HrC D cs x e g e1 g1 nx cn se sg b nn wd ln pa ft H)) QcF (XCh ("java/lang/IndexOutOfBoundsException")) 1 6 nowhere := by
  refine kx_metX (cc := cX7_cellSet) (maxL := 3) (ret := (some .long)) (by decide) rfl (Nat.le_of_ble_eq_true rfl) ?_
  intro p en s m args below meth c hx hb hml hrt hts hown hlk hK hN hX hT hP ls hl
  have hl : lv_has ls 3 [(0, .ref (x)), (1, .int (y)), (2, .int (bI (w)))] := hl
  have hinX3 : ∀ w ∈ wsX30, w ∈ wsX7_cellSet := by decide +kernel
  have hinX5 : ∀ w ∈ wsX50, w ∈ wsX7_cellSet := by decide +kernel
  have hinX7 : ∀ w ∈ wsX70, w ∈ wsX7_cellSet := by decide +kernel
  obtain ⟨hWro, hM, hM2, hWhi, hWto, hWtb, hWtn⟩ := hP
  have h24 := hI.M24
  have h6 := hI.R6
  refine lv_aload_n hx hb dX7_cellSet_0 rfl (lv_at hl 0 rfl) ?_
  refine lv_iload_n hx hb dX7_cellSet_1 rfl (lv_at hl 1 rfl) ?_
  exact kx_retT (vx_runV (As := [.int (y)]) (rest := []) ⟨hx, hb, hml, hown, hts⟩ (k_X7_requireMoveT l D cs x e g e1 g1 nx cn se sg b nn wd ln pa ft hI y hw L (by first | assumption | omega) (by first | assumption | omega)) (cwV 1 hts gX7_cellSet_X7_requireMove rfl rfl rfl (by decide +kernel) ⟨Nat.le_of_ble_eq_true rfl, Nat.le_of_ble_eq_true rfl⟩) (kx_preXV hK hN hX hWro rfl ⟨hWro, hM, hM2, hWhi, hWto, hWtb, hWtn⟩) rfl rfl hl.1 rfl (lv_room (Nat.le_of_ble_eq_true rfl)) dX7_cellSet_2 ⟨Nat.le_of_ble_eq_true rfl, Nat.le_of_ble_eq_true rfl⟩) hlk hT
set_option maxHeartbeats 2500000 in
set_option maxRecDepth 100000 in
theorem k_X7_waitsForT1 (l : Launch) (D : va_G) (cs : Nat → ClassId) (x : Nat) (e : Nat → Int32) (g : Nat → Int64) (e1 : Nat → Int32) (g1 : Nat → Int64) (nx cn : Nat) (se : Nat → Nat → Int32) (sg : Nat → Nat → Int64) (b nn : Nat → Int32) (wd ln pa : Nat) (ft : Int32) (y : Int32) (hI : Inv e) (hw : lsB y (Mn e) = false) (L : Nat) (hL : L ≤ x) (hl9 : l.stackTraces = false) : vx_Met l yX7_waitsFor wsX7_waitsFor ({ frames := 7, cells := 1, slots := 6, locals := 103 } : Room) (PcX D cs L [.ref (x), .int (y)] (fun H => HrC D cs x e g e1 g1 nx cn se sg b nn wd ln pa ft H)) QcF (XCh ("java/lang/IndexOutOfBoundsException")) 1 6 nowhere := by
  refine kx_metX (cc := cX7_waitsFor) (maxL := 2) (ret := (some .int)) (by decide) rfl (Nat.le_of_ble_eq_true rfl) ?_
  intro p en s m args below meth c hx hb hml hrt hts hown hlk hK hN hX hT hP ls hl
  have hl : lv_has ls 2 [(0, .ref (x)), (1, .int (y))] := hl
  have hinX7 : ∀ w ∈ wsX70, w ∈ wsX7_waitsFor := by decide +kernel
  obtain ⟨hWro, hM, hM2, hWhi, hWto, hWtb, hWtn⟩ := hP
  have h24 := hI.M24
  have h6 := hI.R6
  refine lv_aload_n hx hb dX7_waitsFor_0 rfl (lv_at hl 0 rfl) ?_
  refine lv_iload_n hx hb dX7_waitsFor_1 rfl (lv_at hl 1 rfl) ?_
  exact kx_retT (vx_runV (As := [.int (y)]) (rest := []) ⟨hx, hb, hml, hown, hts⟩ (k_X7_requireMoveT l D cs x e g e1 g1 nx cn se sg b nn wd ln pa ft hI y hw L (by first | assumption | omega) (by first | assumption | omega)) (cwV 1 hts gX7_waitsFor_X7_requireMove rfl rfl rfl (by decide +kernel) ⟨Nat.le_of_ble_eq_true rfl, Nat.le_of_ble_eq_true rfl⟩) (kx_preXV hK hN hX hWro rfl ⟨hWro, hM, hM2, hWhi, hWto, hWtb, hWtn⟩) rfl rfl hl.1 rfl (lv_room (Nat.le_of_ble_eq_true rfl)) dX7_waitsFor_2 ⟨Nat.le_of_ble_eq_true rfl, Nat.le_of_ble_eq_true rfl⟩) hlk hT
set_option maxHeartbeats 2500000 in
set_option maxRecDepth 100000 in
theorem k_X7_depthT1 (l : Launch) (D : va_G) (cs : Nat → ClassId) (x : Nat) (e : Nat → Int32) (g : Nat → Int64) (e1 : Nat → Int32) (g1 : Nat → Int64) (nx cn : Nat) (se : Nat → Nat → Int32) (sg : Nat → Nat → Int64) (b nn : Nat → Int32) (wd ln pa : Nat) (ft : Int32) (y : Int32) (hI : Inv e) (hw : lsB y (Mn e) = false) (L : Nat) (hL : L ≤ x) (hl9 : l.stackTraces = false) : vx_Met l yX7_depth wsX7_depth ({ frames := 7, cells := 1, slots := 6, locals := 103 } : Room) (PcX D cs L [.ref (x), .int (y)] (fun H => HrC D cs x e g e1 g1 nx cn se sg b nn wd ln pa ft H)) QcF (XCh ("java/lang/IndexOutOfBoundsException")) 1 6 nowhere := by
  refine kx_metX (cc := cX7_depth) (maxL := 2) (ret := (some .int)) (by decide) rfl (Nat.le_of_ble_eq_true rfl) ?_
  intro p en s m args below meth c hx hb hml hrt hts hown hlk hK hN hX hT hP ls hl
  have hl : lv_has ls 2 [(0, .ref (x)), (1, .int (y))] := hl
  have hinX7 : ∀ w ∈ wsX70, w ∈ wsX7_depth := by decide +kernel
  obtain ⟨hWro, hM, hM2, hWhi, hWto, hWtb, hWtn⟩ := hP
  have h24 := hI.M24
  have h6 := hI.R6
  refine lv_aload_n hx hb dX7_depth_0 rfl (lv_at hl 0 rfl) ?_
  refine lv_iload_n hx hb dX7_depth_1 rfl (lv_at hl 1 rfl) ?_
  exact kx_retT (vx_runV (As := [.int (y)]) (rest := []) ⟨hx, hb, hml, hown, hts⟩ (k_X7_requireMoveT l D cs x e g e1 g1 nx cn se sg b nn wd ln pa ft hI y hw L (by first | assumption | omega) (by first | assumption | omega)) (cwV 1 hts gX7_depth_X7_requireMove rfl rfl rfl (by decide +kernel) ⟨Nat.le_of_ble_eq_true rfl, Nat.le_of_ble_eq_true rfl⟩) (kx_preXV hK hN hX hWro rfl ⟨hWro, hM, hM2, hWhi, hWto, hWtb, hWtn⟩) rfl rfl hl.1 rfl (lv_room (Nat.le_of_ble_eq_true rfl)) dX7_depth_2 ⟨Nat.le_of_ble_eq_true rfl, Nat.le_of_ble_eq_true rfl⟩) hlk hT
set_option maxHeartbeats 2500000 in
set_option maxRecDepth 100000 in
theorem k_X7_copiedInT1 (l : Launch) (D : va_G) (cs : Nat → ClassId) (x : Nat) (e : Nat → Int32) (g : Nat → Int64) (e1 : Nat → Int32) (g1 : Nat → Int64) (nx cn : Nat) (se : Nat → Nat → Int32) (sg : Nat → Nat → Int64) (b nn : Nat → Int32) (wd ln pa : Nat) (ft : Int32) (y : Int32) (hI : Inv e) (hw : lsB y (Mn e) = false) (L : Nat) (hL : L ≤ x) (hl9 : l.stackTraces = false) : vx_Met l yX7_copiedIn wsX7_copiedIn ({ frames := 7, cells := 1, slots := 6, locals := 103 } : Room) (PcX D cs L [.ref (x), .int (y)] (fun H => HrC D cs x e g e1 g1 nx cn se sg b nn wd ln pa ft H)) QcF (XCh ("java/lang/IndexOutOfBoundsException")) 1 6 nowhere := by
  refine kx_metX (cc := cX7_copiedIn) (maxL := 3) (ret := (some .int)) (by decide) rfl (Nat.le_of_ble_eq_true rfl) ?_
  intro p en s m args below meth c hx hb hml hrt hts hown hlk hK hN hX hT hP ls hl
  have hl : lv_has ls 3 [(0, .ref (x)), (1, .int (y))] := hl
  have hinX3 : ∀ w ∈ wsX30, w ∈ wsX7_copiedIn := by decide +kernel
  have hinX5 : ∀ w ∈ wsX50, w ∈ wsX7_copiedIn := by decide +kernel
  have hinX7 : ∀ w ∈ wsX70, w ∈ wsX7_copiedIn := by decide +kernel
  obtain ⟨hWro, hM, hM2, hWhi, hWto, hWtb, hWtn⟩ := hP
  have h24 := hI.M24
  have h6 := hI.R6
  refine lv_aload_n hx hb dX7_copiedIn_0 rfl (lv_at hl 0 rfl) ?_
  refine lv_iload_n hx hb dX7_copiedIn_1 rfl (lv_at hl 1 rfl) ?_
  exact kx_retT (vx_runV (As := [.int (y)]) (rest := []) ⟨hx, hb, hml, hown, hts⟩ (k_X7_requireMoveT l D cs x e g e1 g1 nx cn se sg b nn wd ln pa ft hI y hw L (by first | assumption | omega) (by first | assumption | omega)) (cwV 1 hts gX7_copiedIn_X7_requireMove rfl rfl rfl (by decide +kernel) ⟨Nat.le_of_ble_eq_true rfl, Nat.le_of_ble_eq_true rfl⟩) (kx_preXV hK hN hX hWro rfl ⟨hWro, hM, hM2, hWhi, hWto, hWtb, hWtn⟩) rfl rfl hl.1 rfl (lv_room (Nat.le_of_ble_eq_true rfl)) dX7_copiedIn_2 ⟨Nat.le_of_ble_eq_true rfl, Nat.le_of_ble_eq_true rfl⟩) hlk hT
set_option maxHeartbeats 2500000 in
set_option maxRecDepth 100000 in
theorem k_X7_moveOfT2 (l : Launch) (D : va_G) (cs : Nat → ClassId) (x : Nat) (e : Nat → Int32) (g : Nat → Int64) (e1 : Nat → Int32) (g1 : Nat → Int64) (nx cn : Nat) (se : Nat → Nat → Int32) (sg : Nat → Nat → Int64) (b nn : Nat → Int32) (wd ln pa : Nat) (ft : Int32) (mv : Nat) (w : Int32) (hI : Inv e) (hm : mv < Mn e) (hw : wiB w (nI 0) (nI 9) = false) (L : Nat) (hL : L ≤ x) (hl9 : l.stackTraces = false) : vx_Met l yX7_moveOf wsX7_moveOf ({ frames := 7, cells := 1, slots := 6, locals := 103 } : Room) (PcX D cs L [.ref (x), .int (nI (mv)), .int (w)] (fun H => HrC D cs x e g e1 g1 nx cn se sg b nn wd ln pa ft H)) QcF (XCh ("java/lang/IllegalArgumentException")) 1 6 nowhere := by
  refine kx_metX (cc := cX7_moveOf) (maxL := 3) (ret := (some .int)) (by decide) rfl (Nat.le_of_ble_eq_true rfl) ?_
  intro p en s m args below meth c hx hb hml hrt hts hown hlk hK hN hX hT hP ls hl
  have hl : lv_has ls 3 [(0, .ref (x)), (1, .int (nI (mv))), (2, .int (w))] := hl
  have hinX5 : ∀ w ∈ wsX50, w ∈ wsX7_moveOf := by decide +kernel
  have hinX7 : ∀ w ∈ wsX70, w ∈ wsX7_moveOf := by decide +kernel
  obtain ⟨hWro, hM, hM2, hWhi, hWto, hWtb, hWtn⟩ := hP
  have h24 := hI.M24
  have h6 := hI.R6
  refine lv_aload_n hx hb dX7_moveOf_0 rfl (lv_at hl 0 rfl) ?_
  refine lv_iload_n hx hb dX7_moveOf_1 rfl (lv_at hl 1 rfl) ?_
  refine kx_retP (va_runV (As := [.int (nI (mv))]) (rest := []) ⟨hx, hb, hml, hown, hts⟩ (k_X7_requireMove l D cs x e g e1 g1 nx cn se sg b nn wd ln pa ft hI mv (by first | assumption | omega)) (cwV 1 hts gX7_moveOf_X7_requireMove rfl rfl rfl (by decide +kernel) ⟨Nat.le_of_ble_eq_true rfl, Nat.le_of_ble_eq_true rfl⟩) (kx_preV hK hN hWro rfl ⟨hWro, hM, hM2, hWhi, hWto, hWtb, hWtn⟩) rfl rfl hl.1 rfl (lv_room (Nat.le_of_ble_eq_true rfl)) dX7_moveOf_2 ⟨Nat.le_of_ble_eq_true rfl, Nat.le_of_ble_eq_true rfl⟩) ?_
  refine lv_iload_n hx hb dX7_moveOf_5 rfl (lv_at hl 2 rfl) ?_
  refine lv_bipush (v := nI 9) hx hb dX7_moveOf_6 (by decide) ?_
  exact kx_retT (vx_runS (As := [.int (w), .int (nI (9))]) (rest := []) ⟨hx, hb, hml, hown, hts⟩ (k_X7_requireRangeT l D cs w 9 hw L (by first | assumption | omega)) (cwS 2 hts gX7_moveOf_X7_requireRange rfl rfl rfl (by decide +kernel) ⟨Nat.le_of_ble_eq_true rfl, Nat.le_of_ble_eq_true rfl⟩) (kx_preXS hK hN hX trivial) rfl rfl hl.1 rfl (lv_room (Nat.le_of_ble_eq_true rfl)) dX7_moveOf_8 ⟨Nat.le_of_ble_eq_true rfl, Nat.le_of_ble_eq_true rfl⟩) hlk hT
set_option maxHeartbeats 2500000 in
set_option maxRecDepth 100000 in
theorem k_X7_hostageT2 (l : Launch) (D : va_G) (cs : Nat → ClassId) (x : Nat) (e : Nat → Int32) (g : Nat → Int64) (e1 : Nat → Int32) (g1 : Nat → Int64) (nx cn : Nat) (se : Nat → Nat → Int32) (sg : Nat → Nat → Int64) (b nn : Nat → Int32) (wd ln pa : Nat) (ft : Int32) (mv : Nat) (w : Int32) (hI : Inv e) (hm : mv < Mn e) (hw : w < 0) (L : Nat) (hL : L ≤ x) (hl9 : l.stackTraces = false) : vx_Met l yX7_hostage wsX7_hostage ({ frames := 6, cells := 1, slots := 6, locals := 82 } : Room) (PcX D cs L [.ref (x), .int (nI (mv)), .int (w)] (fun H => HrC D cs x e g e1 g1 nx cn se sg b nn wd ln pa ft H)) QcF (XCh ("java/lang/IllegalArgumentException")) 1 6 nowhere := by
  refine kx_metX (cc := cX7_hostage) (maxL := 3) (ret := (some .int)) (by decide) rfl (Nat.le_of_ble_eq_true rfl) ?_
  intro p en s m args below meth c hx hb hml hrt hts hown hlk hK hN hX hT hP ls hl
  have hl : lv_has ls 3 [(0, .ref (x)), (1, .int (nI (mv))), (2, .int (w))] := hl
  have hinX5 : ∀ w ∈ wsX50, w ∈ wsX7_hostage := by decide +kernel
  have hinX7 : ∀ w ∈ wsX70, w ∈ wsX7_hostage := by decide +kernel
  obtain ⟨hWro, hM, hM2, hWhi, hWto, hWtb, hWtn⟩ := hP
  have h24 := hI.M24
  have h6 := hI.R6
  refine lv_aload_n hx hb dX7_hostage_0 rfl (lv_at hl 0 rfl) ?_
  refine lv_iload_n hx hb dX7_hostage_1 rfl (lv_at hl 1 rfl) ?_
  refine kx_retP (va_runV (As := [.int (nI (mv))]) (rest := []) ⟨hx, hb, hml, hown, hts⟩ (k_X7_requireMove l D cs x e g e1 g1 nx cn se sg b nn wd ln pa ft hI mv (by first | assumption | omega)) (cwV 1 hts gX7_hostage_X7_requireMove rfl rfl rfl (by decide +kernel) ⟨Nat.le_of_ble_eq_true rfl, Nat.le_of_ble_eq_true rfl⟩) (kx_preV hK hN hWro rfl ⟨hWro, hM, hM2, hWhi, hWto, hWtb, hWtn⟩) rfl rfl hl.1 rfl (lv_room (Nat.le_of_ble_eq_true rfl)) dX7_hostage_2 ⟨Nat.le_of_ble_eq_true rfl, Nat.le_of_ble_eq_true rfl⟩) ?_
  refine lv_iload_n hx hb dX7_hostage_5 rfl (lv_at hl 2 rfl) ?_
  refine lv_if_ge (tgt := 19) hx hb dX7_hostage_6 (by decide) (fun c6 => ?_) (fun c6 => ?_)
  · exact absurd hw (i_nlt.mpr c6)
  · obtain ⟨sa, hstr⟩ := hX.2.2.1 (137, "negative index") (by decide)
    exact vx_throwS (own := RX7) (ik := 135) (A := fun x => L ≤ x) hx hb hl9 hown (by decide +kernel) (by decide +kernel) (hts (.classLink RX7 135 "java/lang/IllegalArgumentException") (by decide +kernel)) (hts (.initialized "java/lang/IllegalArgumentException") (by decide +kernel)) hstr (vx_hat (B := xkB "java/lang/IllegalArgumentException") (fun w hw => hts w ((by decide +kernel : ∀ w ∈ (vx_atS RX7 139 "java/lang/IllegalArgumentException" ["java/lang/RuntimeException", "java/lang/Exception"]).filter goodWord, w ∈ wsX7_hostage) w hw)) (by rw [xk_b]; exact fun w h => h) (hX.bad (X := "java/lang/IllegalArgumentException") (by decide))) (by intro w hw; rcases List.mem_cons.mp hw with rfl | hw; rfl; rcases List.mem_cons.mp hw with rfl | hw; rfl; exact xg_b w hw) hX.2.2.2.1 hX.2.2.2.2 va_S.rf (hl.1.trans hml.symm) dX7_hostage_9 dX7_hostage_12 dX7_hostage_13 dX7_hostage_15 dX7_hostage_18 (fun x hx => (hT x hx).elim) (Nat.le_of_ble_eq_true rfl) (Nat.le_of_ble_eq_true rfl) (Nat.le_of_ble_eq_true rfl) (Nat.le_of_ble_eq_true rfl) hlk (fun t hal hsz hq => ⟨rfl, hsz, fun q h1 _ => hq q h1⟩) (fun z hz => nomatch hz) (Nat.le_refl _) (Nat.le_refl _)
set_option maxHeartbeats 2500000 in
set_option maxRecDepth 100000 in
theorem k_X7_wholeT (l : Launch) (D : va_G) (cs : Nat → ClassId) (x : Nat) (e : Nat → Int32) (g : Nat → Int64) (e1 : Nat → Int32) (g1 : Nat → Int64) (nx cn : Nat) (se : Nat → Nat → Int32) (sg : Nat → Nat → Int64) (b nn : Nat → Int32) (wd ln pa : Nat) (ft : Int32) (w : Int32) (hw : wiB w (nI 0) (nI 14) = false) (L : Nat) (hL : L ≤ x) (hl9 : l.stackTraces = false) : vx_Met l yX7_whole wsX7_whole ({ frames := 7, cells := 1, slots := 6, locals := 103 } : Room) (PcX D cs L [.ref (x), .int (w)] (fun H => HrC D cs x e g e1 g1 nx cn se sg b nn wd ln pa ft H)) QcF (XCh ("java/lang/IllegalArgumentException")) 1 6 nowhere := by
  refine kx_metX (cc := cX7_whole) (maxL := 2) (ret := (some .int)) (by decide) rfl (Nat.le_of_ble_eq_true rfl) ?_
  intro p en s m args below meth c hx hb hml hrt hts hown hlk hK hN hX hT hP ls hl
  have hl : lv_has ls 2 [(0, .ref (x)), (1, .int (w))] := hl
  obtain ⟨hWro, hM, hM2, hWhi, hWto, hWtb, hWtn⟩ := hP
  refine lv_iload_n hx hb dX7_whole_0 rfl (lv_at hl 1 rfl) ?_
  refine lv_bipush (v := nI 14) hx hb dX7_whole_1 (by decide) ?_
  exact kx_retT (vx_runS (As := [.int (w), .int (nI (14))]) (rest := []) ⟨hx, hb, hml, hown, hts⟩ (k_X7_requireRangeT l D cs w 14 hw L (by first | assumption | omega)) (cwS 2 hts gX7_whole_X7_requireRange rfl rfl rfl (by decide +kernel) ⟨Nat.le_of_ble_eq_true rfl, Nat.le_of_ble_eq_true rfl⟩) (kx_preXS hK hN hX trivial) rfl rfl hl.1 rfl (lv_room (Nat.le_of_ble_eq_true rfl)) dX7_whole_3 ⟨Nat.le_of_ble_eq_true rfl, Nat.le_of_ble_eq_true rfl⟩) hlk hT
set_option maxHeartbeats 2500000 in
set_option maxRecDepth 100000 in
theorem k_X7_typeT1 (l : Launch) (D : va_G) (cs : Nat → ClassId) (x : Nat) (e : Nat → Int32) (g : Nat → Int64) (e1 : Nat → Int32) (g1 : Nat → Int64) (nx cn : Nat) (se : Nat → Nat → Int32) (sg : Nat → Nat → Int64) (b nn : Nat → Int32) (wd ln pa : Nat) (ft : Int32) (v : Int32) (hw : wiB v (nI 0) (nI 127) = false) (L : Nat) (hL : L ≤ x) (hl9 : l.stackTraces = false) : vx_Met l yX7_type wsX7_type ({ frames := 7, cells := 1, slots := 6, locals := 103 } : Room) (PcX D cs L [.ref (x), .int (v)] (fun H => HrC D cs x e g e1 g1 nx cn se sg b nn wd ln pa ft H)) QcF (XCh ("java/lang/IllegalArgumentException")) 1 6 nowhere := by
  refine kx_metX (cc := cX7_type) (maxL := 2) (ret := (some .int)) (by decide) rfl (Nat.le_of_ble_eq_true rfl) ?_
  intro p en s m args below meth c hx hb hml hrt hts hown hlk hK hN hX hT hP ls hl
  have hl : lv_has ls 2 [(0, .ref (x)), (1, .int (v))] := hl
  have hinX1 : ∀ w ∈ wsX10, w ∈ wsX7_type := by decide +kernel
  have hinX7 : ∀ w ∈ wsX70, w ∈ wsX7_type := by decide +kernel
  obtain ⟨hWro, hM, hM2, hWhi, hWto, hWtb, hWtn⟩ := hP
  refine lv_iload_n hx hb dX7_type_0 rfl (lv_at hl 1 rfl) ?_
  refine lv_bipush (v := nI 127) hx hb dX7_type_1 (by decide) ?_
  exact kx_retT (vx_runS (As := [.int (v), .int (nI (127))]) (rest := []) ⟨hx, hb, hml, hown, hts⟩ (k_X7_requireRangeT l D cs v 127 hw L (by first | assumption | omega)) (cwS 2 hts gX7_type_X7_requireRange rfl rfl rfl (by decide +kernel) ⟨Nat.le_of_ble_eq_true rfl, Nat.le_of_ble_eq_true rfl⟩) (kx_preXS hK hN hX trivial) rfl rfl hl.1 rfl (lv_room (Nat.le_of_ble_eq_true rfl)) dX7_type_3 ⟨Nat.le_of_ble_eq_true rfl, Nat.le_of_ble_eq_true rfl⟩) hlk hT
set_option maxHeartbeats 2500000 in
set_option maxRecDepth 100000 in
theorem k_X7_typeT2 (l : Launch) (D : va_G) (cs : Nat → ClassId) (x : Nat) (e : Nat → Int32) (g : Nat → Int64) (e1 : Nat → Int32) (g1 : Nat → Int64) (nx cn : Nat) (se : Nat → Nat → Int32) (sg : Nat → Nat → Int64) (b nn : Nat → Int32) (wd ln pa : Nat) (ft : Int32) (v : Nat) (hv : v ≤ 127) (hw : 150 ≤ ln) (hl150 : ln ≤ 150) (L : Nat) (hL : L ≤ x) (hl9 : l.stackTraces = false) : vx_Met l yX7_type wsX7_type ({ frames := 6, cells := 1, slots := 6, locals := 82 } : Room) (PcX D cs L [.ref (x), .int (nI (v))] (fun H => HrC D cs x e g e1 g1 nx cn se sg b nn wd ln pa ft H)) QcF (XCh ("java/lang/IllegalStateException")) 1 6 nowhere := by
  refine kx_metX (cc := cX7_type) (maxL := 2) (ret := (some .int)) (by decide) rfl (Nat.le_of_ble_eq_true rfl) ?_
  intro p en s m args below meth c hx hb hml hrt hts hown hlk hK hN hX hT hP ls hl
  have hl : lv_has ls 2 [(0, .ref (x)), (1, .int (nI (v)))] := hl
  have hinX1 : ∀ w ∈ wsX10, w ∈ wsX7_type := by decide +kernel
  have hinX7 : ∀ w ∈ wsX70, w ∈ wsX7_type := by decide +kernel
  obtain ⟨hWro, hM, hM2, hWhi, hWto, hWtb, hWtn⟩ := hP
  refine lv_iload_n hx hb dX7_type_0 rfl (lv_at hl 1 rfl) ?_
  refine lv_bipush (v := nI 127) hx hb dX7_type_1 (by decide) ?_
  refine kx_retP (va_runS (As := [.int (nI (v)), .int (nI (127))]) (rest := []) ⟨hx, hb, hml, hown, hts⟩ (k_X7_requireRange l D cs v 127 hv (by decide)) (cwS 2 hts gX7_type_X7_requireRange rfl rfl rfl (by decide +kernel) ⟨Nat.le_of_ble_eq_true rfl, Nat.le_of_ble_eq_true rfl⟩) (kx_preS hK hN trivial) rfl rfl hl.1 rfl (lv_room (Nat.le_of_ble_eq_true rfl)) dX7_type_3 ⟨Nat.le_of_ble_eq_true rfl, Nat.le_of_ble_eq_true rfl⟩) ?_
  refine lv_aload_n hx hb dX7_type_6 rfl (lv_at hl 0 rfl) ?_
  refine kx_get (v := .ref (x + 357)) hx hb hts hinX7 hown hK hWro rfl 3 (by decide) (by decide +kernel) rfl dX7_type_7 ?_
  refine kx_get (v := .int (nI (ln))) hx hb hts hinX1 hown hK hWto rfl 3 (by decide) (by decide +kernel) rfl dX7_type_10 ?_
  refine lv_sipush (v := nI 150) hx hb dX7_type_13 (by decide) ?_
  refine kn_icmp_lt (tgt := 29) hx hb dX7_type_16 (by decide) (by omega) (by decide) (fun c_1 => ?_) (fun c_1 => ?_)
  · omega
  · obtain ⟨sa, hstr⟩ := hX.2.2.1 (187, "the command text is full") (by decide)
    exact vx_throwS (own := RX7) (ik := 185) (A := fun x => L ≤ x) hx hb hl9 hown (by decide +kernel) (by decide +kernel) (hts (.classLink RX7 185 "java/lang/IllegalStateException") (by decide +kernel)) (hts (.initialized "java/lang/IllegalStateException") (by decide +kernel)) hstr (vx_hat (B := xkB "java/lang/IllegalStateException") (fun w hw => hts w ((by decide +kernel : ∀ w ∈ (vx_atS RX7 189 "java/lang/IllegalStateException" ["java/lang/RuntimeException", "java/lang/Exception"]).filter goodWord, w ∈ wsX7_type) w hw)) (by rw [xk_c]; exact fun w h => h) (hX.bad (X := "java/lang/IllegalStateException") (by decide))) (by intro w hw; rcases List.mem_cons.mp hw with rfl | hw; rfl; rcases List.mem_cons.mp hw with rfl | hw; rfl; exact xg_c w hw) hX.2.2.2.1 hX.2.2.2.2 va_S.rf (hl.1.trans hml.symm) dX7_type_19 dX7_type_22 dX7_type_23 dX7_type_25 dX7_type_28 (fun x hx => (hT x hx).elim) (Nat.le_of_ble_eq_true rfl) (Nat.le_of_ble_eq_true rfl) (Nat.le_of_ble_eq_true rfl) (Nat.le_of_ble_eq_true rfl) hlk (fun t hal hsz hq => ⟨rfl, hsz, fun q h1 _ => hq q h1⟩) (fun z hz => nomatch hz) (Nat.le_refl _) (Nat.le_refl _)
set_option maxHeartbeats 2500000 in
set_option maxRecDepth 100000 in
theorem k_X7_undoT (l : Launch) (D : va_G) (cs : Nat → ClassId) (x : Nat) (e : Nat → Int32) (g : Nat → Int64) (e1 : Nat → Int32) (g1 : Nat → Int64) (nx cn : Nat) (se : Nat → Nat → Int32) (sg : Nat → Nat → Int64) (b nn : Nat → Int32) (wd ln pa : Nat) (ft : Int32) (hw : cn = 0) (L : Nat) (hL : L ≤ x) (hl9 : l.stackTraces = false) : vx_Met l yX7_undo wsX7_undo ({ frames := 6, cells := 1, slots := 6, locals := 112 } : Room) (PcX D cs L [.ref (x)] (fun H => HrC D cs x e g e1 g1 nx cn se sg b nn wd ln pa ft H)) QcF (XCh ("java/lang/IllegalStateException")) 1 6 nowhere := by
  refine kx_metX (cc := cX7_undo) (maxL := 1) (ret := (some .int)) (by decide) rfl (Nat.le_of_ble_eq_true rfl) ?_
  intro p en s m args below meth c hx hb hml hrt hts hown hlk hK hN hX hT hP ls hl
  have hl : lv_has ls 1 [(0, .ref (x))] := hl
  have hinX2 : ∀ w ∈ wsX20, w ∈ wsX7_undo := by decide +kernel
  have hinX7 : ∀ w ∈ wsX70, w ∈ wsX7_undo := by decide +kernel
  obtain ⟨hWro, hM, hM2, hWhi, hWto, hWtb, hWtn⟩ := hP
  refine lv_aload_n hx hb dX7_undo_0 rfl (lv_at hl 0 rfl) ?_
  refine kx_get (v := .ref (x + 119)) hx hb hts hinX7 hown hK hWro rfl 2 (by decide) (by decide +kernel) rfl dX7_undo_1 ?_
  refine kx_get (v := .int (nI (cn))) hx hb hts hinX2 hown hK hWhi.obj rfl 2 (by decide) (by decide +kernel) rfl dX7_undo_4 ?_
  refine lv_iconst (v := nI 1) hx hb dX7_undo_7 (by decide) ?_
  refine kn_icmp_ge (tgt := 21) hx hb dX7_undo_8 (by decide) (by omega) (by decide) (fun c_1 => ?_) (fun c_1 => ?_)
  · omega
  · obtain ⟨sa, hstr⟩ := hX.2.2.1 (217, "nothing to undo") (by decide)
    exact vx_throwS (own := RX7) (ik := 185) (A := fun x => L ≤ x) hx hb hl9 hown (by decide +kernel) (by decide +kernel) (hts (.classLink RX7 185 "java/lang/IllegalStateException") (by decide +kernel)) (hts (.initialized "java/lang/IllegalStateException") (by decide +kernel)) hstr (vx_hat (B := xkB "java/lang/IllegalStateException") (fun w hw => hts w ((by decide +kernel : ∀ w ∈ (vx_atS RX7 189 "java/lang/IllegalStateException" ["java/lang/RuntimeException", "java/lang/Exception"]).filter goodWord, w ∈ wsX7_undo) w hw)) (by rw [xk_c]; exact fun w h => h) (hX.bad (X := "java/lang/IllegalStateException") (by decide))) (by intro w hw; rcases List.mem_cons.mp hw with rfl | hw; rfl; rcases List.mem_cons.mp hw with rfl | hw; rfl; exact xg_c w hw) hX.2.2.2.1 hX.2.2.2.2 va_S.rf (hl.1.trans hml.symm) dX7_undo_11 dX7_undo_14 dX7_undo_15 dX7_undo_17 dX7_undo_20 (fun x hx => (hT x hx).elim) (Nat.le_of_ble_eq_true rfl) (Nat.le_of_ble_eq_true rfl) (Nat.le_of_ble_eq_true rfl) (Nat.le_of_ble_eq_true rfl) hlk (fun t hal hsz hq => ⟨rfl, hsz, fun q h1 _ => hq q h1⟩) (fun z hz => nomatch hz) (Nat.le_refl _) (Nat.le_refl _)
