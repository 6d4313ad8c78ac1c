set_option maxHeartbeats 2500000 in
set_option maxRecDepth 100000 in
theorem k_X7_requireCellT (l : Launch) (D : va_G) (cs : Nat → ClassId) (w : Int32) (hw : wiB w (nI 0) (nI 47) = false) (L : Nat) (hl9 : l.stackTraces = false) : vx_Met l yX7_requireCell wsX7_requireCell ({ frames := 6, cells := 1, slots := 6, locals := 82 } : Room) (PcX D cs L [.int (w)] (fun H => True)) QcF (XCh ("java/lang/IndexOutOfBoundsException")) 1 6 nowhere := by
  refine kx_metX (cc := cX7_requireCell) (maxL := 1) (ret := none) (by decide) rfl (Nat.le_of_ble_eq_true rfl) ?_
  intro p en s m args below meth c hx hb hml hrt hts hown hlk hK hN hX hT hP ls hl
  have hl : lv_has ls 1 [(0, .int (w))] := hl
  refine lv_iload_n hx hb dX7_requireCell_0 rfl (lv_at hl 0 rfl) ?_
  refine kx_retP (va_runS (As := [.int (w)]) (rest := []) ⟨hx, hb, hml, hown, hts⟩ (k_X7_isCell l D cs w) (cwS 1 hts gX7_requireCell_X7_isCell rfl rfl rfl (by decide +kernel) ⟨Nat.le_of_ble_eq_true rfl, Nat.le_of_ble_eq_true rfl⟩) (kx_preS hK hN trivial) rfl rfl hl.1 rfl (lv_room (Nat.le_of_ble_eq_true rfl)) dX7_requireCell_1 ⟨Nat.le_of_ble_eq_true rfl, Nat.le_of_ble_eq_true rfl⟩) ?_
  refine kb_if_ne (tgt := 18) hx hb dX7_requireCell_4 (by decide) (fun c4 => ?_) (fun c4 => ?_)
  · exact absurd (hw.symm.trans c4) (by decide)
  · obtain ⟨sa, hstr⟩ := hX.2.2.1 (273, "no such cell") (by decide)
    exact vx_throwSW (own := RX7) (ik := 109) (A := fun x => L ≤ x) hx hb hl9 hown (by decide +kernel) (by decide +kernel) (hts (.classLink RX7 109 "java/lang/IndexOutOfBoundsException") (by decide +kernel)) (hts (.initialized "java/lang/IndexOutOfBoundsException") (by decide +kernel)) hstr (vx_hat (B := xkB "java/lang/IndexOutOfBoundsException") (fun w hw => hts w ((by decide +kernel : ∀ w ∈ (vx_atS RX7 113 "java/lang/IndexOutOfBoundsException" ["java/lang/RuntimeException", "java/lang/Exception"]).filter goodWord, w ∈ wsX7_requireCell) w hw)) (by rw [xk_a]; exact fun w h => h) (hX.bad (X := "java/lang/IndexOutOfBoundsException") (by decide))) (by intro w hw; rcases List.mem_cons.mp hw with rfl | hw; rfl; rcases List.mem_cons.mp hw with rfl | hw; rfl; exact xg_a w hw) hX.2.2.2.1 hX.2.2.2.2 va_S.rf (hl.1.trans hml.symm) dX7_requireCell_7 dX7_requireCell_10 dX7_requireCell_11 dX7_requireCell_14 dX7_requireCell_17 (fun x hx => (hT x hx).elim) (Nat.le_of_ble_eq_true rfl) (Nat.le_of_ble_eq_true rfl) (Nat.le_of_ble_eq_true rfl) (Nat.le_of_ble_eq_true rfl) hlk (fun t hal hsz hq => ⟨rfl, hsz, fun q h1 _ => hq q h1⟩) (fun z hz => nomatch hz) (Nat.le_refl _) (Nat.le_refl _)
set_option maxHeartbeats 2500000 in
set_option maxRecDepth 100000 in
theorem k_X7_requireRangeT (l : Launch) (D : va_G) (cs : Nat → ClassId) (v : Int32) (w : Nat) (hw : wiB v (nI 0) (nI w) = false) (L : Nat) (hl9 : l.stackTraces = false) : vx_Met l yX7_requireRange wsX7_requireRange ({ frames := 6, cells := 1, slots := 6, locals := 82 } : Room) (PcX D cs L [.int (v), .int (nI (w))] (fun H => True)) QcF (XCh ("java/lang/IllegalArgumentException")) 1 6 nowhere := by
  refine kx_metX (cc := cX7_requireRange) (maxL := 2) (ret := none) (by decide) rfl (Nat.le_of_ble_eq_true rfl) ?_
  intro p en s m args below meth c hx hb hml hrt hts hown hlk hK hN hX hT hP ls hl
  have hl : lv_has ls 2 [(0, .int (v)), (1, .int (nI (w)))] := hl
  refine lv_iload_n hx hb dX7_requireRange_0 rfl (lv_at hl 0 rfl) ?_
  refine lv_iconst (v := nI 0) hx hb dX7_requireRange_1 (by decide) ?_
  refine lv_iload_n hx hb dX7_requireRange_2 rfl (lv_at hl 1 rfl) ?_
  refine kx_retP (va_runS (As := [.int (v), .int (nI (0)), .int (nI (w))]) (rest := []) ⟨hx, hb, hml, hown, hts⟩ (k_X7_isWithin l D cs v (nI (0)) (nI (w))) (cwS 3 hts gX7_requireRange_X7_isWithin rfl rfl rfl (by decide +kernel) ⟨Nat.le_of_ble_eq_true rfl, Nat.le_of_ble_eq_true rfl⟩) (kx_preS hK hN trivial) rfl rfl hl.1 rfl (lv_room (Nat.le_of_ble_eq_true rfl)) dX7_requireRange_3 ⟨Nat.le_of_ble_eq_true rfl, Nat.le_of_ble_eq_true rfl⟩) ?_
  refine kb_if_ne (tgt := 20) hx hb dX7_requireRange_6 (by decide) (fun c6 => ?_) (fun c6 => ?_)
  · exact absurd (hw.symm.trans c6) (by decide)
  · obtain ⟨sa, hstr⟩ := hX.2.2.1 (266, "out of range") (by decide)
    exact vx_throwSW (own := RX7) (ik := 135) (A := fun x => L ≤ x) hx hb hl9 hown (by decide +kernel) (by decide +kernel) (hts (.classLink RX7 135 "java/lang/IllegalArgumentException") (by decide +kernel)) (hts (.initialized "java/lang/IllegalArgumentException") (by decide +kernel)) hstr (vx_hat (B := xkB "java/lang/IllegalArgumentException") (fun w hw => hts w ((by decide +kernel : ∀ w ∈ (vx_atS RX7 139 "java/lang/IllegalArgumentException" ["java/lang/RuntimeException", "java/lang/Exception"]).filter goodWord, w ∈ wsX7_requireRange) w hw)) (by rw [xk_b]; exact fun w h => h) (hX.bad (X := "java/lang/IllegalArgumentException") (by decide))) (by intro w hw; rcases List.mem_cons.mp hw with rfl | hw; rfl; rcases List.mem_cons.mp hw with rfl | hw; rfl; exact xg_b w hw) hX.2.2.2.1 hX.2.2.2.2 va_S.rf (hl.1.trans hml.symm) dX7_requireRange_9 dX7_requireRange_12 dX7_requireRange_13 dX7_requireRange_16 dX7_requireRange_19 (fun x hx => (hT x hx).elim) (Nat.le_of_ble_eq_true rfl) (Nat.le_of_ble_eq_true rfl) (Nat.le_of_ble_eq_true rfl) (Nat.le_of_ble_eq_true rfl) hlk (fun t hal hsz hq => ⟨rfl, hsz, fun q h1 _ => hq q h1⟩) (fun z hz => nomatch hz) (Nat.le_refl _) (Nat.le_refl _)
set_option maxHeartbeats 2500000 in
set_option maxRecDepth 100000 in
theorem k_X7_refuseT1 (l : Launch) (D : va_G) (cs : Nat → ClassId)  (L : Nat) (hl9 : l.stackTraces = false) : vx_Met l yX7_refuse wsX7_refuse ({ frames := 6, cells := 1, slots := 6, locals := 82 } : Room) (PcX D cs L [.int (nI (1))] (fun H => True)) QcF (XCh ("java/lang/IndexOutOfBoundsException")) 1 6 nowhere := by
  refine kx_metX (cc := cX7_refuse) (maxL := 1) (ret := none) (by decide) rfl (Nat.le_of_ble_eq_true rfl) ?_
  intro p en s m args below meth c hx hb hml hrt hts hown hlk hK hN hX hT hP ls hl
  have hl : lv_has ls 1 [(0, .int (nI (1)))] := hl
  refine lv_iload_n hx hb dX7_refuse_0 rfl (lv_at hl 0 rfl) ?_
  refine lv_iconst (v := nI 1) hx hb dX7_refuse_1 (by decide) ?_
  refine kn_icmp_ne (tgt := 16) hx hb dX7_refuse_2 (by decide) (by decide) (by decide) (fun c2 => ?_) (fun c2 => ?_)
  · exact absurd c2 (by decide)
  · obtain ⟨sa, hstr⟩ := hX.2.2.1 (264, "no such ring or cell") (by decide)
    exact vx_throwSW (own := RX7) (ik := 109) (A := fun x => L ≤ x) hx hb hl9 hown (by decide +kernel) (by decide +kernel) (hts (.classLink RX7 109 "java/lang/IndexOutOfBoundsException") (by decide +kernel)) (hts (.initialized "java/lang/IndexOutOfBoundsException") (by decide +kernel)) hstr (vx_hat (B := xkB "java/lang/IndexOutOfBoundsException") (fun w hw => hts w ((by decide +kernel : ∀ w ∈ (vx_atS RX7 113 "java/lang/IndexOutOfBoundsException" ["java/lang/RuntimeException", "java/lang/Exception"]).filter goodWord, w ∈ wsX7_refuse) w hw)) (by rw [xk_a]; exact fun w h => h) (hX.bad (X := "java/lang/IndexOutOfBoundsException") (by decide))) (by intro w hw; rcases List.mem_cons.mp hw with rfl | hw; rfl; rcases List.mem_cons.mp hw with rfl | hw; rfl; exact xg_a w hw) hX.2.2.2.1 hX.2.2.2.2 va_S.rf (hl.1.trans hml.symm) dX7_refuse_5 dX7_refuse_8 dX7_refuse_9 dX7_refuse_12 dX7_refuse_15 (fun x hx => (hT x hx).elim) (Nat.le_of_ble_eq_true rfl) (Nat.le_of_ble_eq_true rfl) (Nat.le_of_ble_eq_true rfl) (Nat.le_of_ble_eq_true rfl) hlk (fun t hal hsz hq => ⟨rfl, hsz, fun q h1 _ => hq q h1⟩) (fun z hz => nomatch hz) (Nat.le_refl _) (Nat.le_refl _)
set_option maxHeartbeats 2500000 in
set_option maxRecDepth 100000 in
theorem k_X7_refuseT2 (l : Launch) (D : va_G) (cs : Nat → ClassId)  (L : Nat) (hl9 : l.stackTraces = false) : vx_Met l yX7_refuse wsX7_refuse ({ frames := 6, cells := 1, slots := 6, locals := 82 } : Room) (PcX D cs L [.int (nI (2))] (fun H => True)) QcF (XCh ("java/lang/IllegalArgumentException")) 1 6 nowhere := by
  refine kx_metX (cc := cX7_refuse) (maxL := 1) (ret := none) (by decide) rfl (Nat.le_of_ble_eq_true rfl) ?_
  intro p en s m args below meth c hx hb hml hrt hts hown hlk hK hN hX hT hP ls hl
  have hl : lv_has ls 1 [(0, .int (nI (2)))] := hl
  refine lv_iload_n hx hb dX7_refuse_0 rfl (lv_at hl 0 rfl) ?_
  refine lv_iconst (v := nI 1) hx hb dX7_refuse_1 (by decide) ?_
  refine kn_icmp_ne (tgt := 16) hx hb dX7_refuse_2 (by decide) (by decide) (by decide) (fun c2 => ?_) (fun c2 => ?_)
  · refine lv_iload_n hx hb dX7_refuse_16 rfl (lv_at hl 0 rfl) ?_
    refine lv_iconst (v := nI 2) hx hb dX7_refuse_17 (by decide) ?_
    refine kn_icmp_ne (tgt := 32) hx hb dX7_refuse_18 (by decide) (by decide) (by decide) (fun c18 => ?_) (fun c18 => ?_)
    · exact absurd c18 (by decide)
    · obtain ⟨sa, hstr⟩ := hX.2.2.1 (266, "out of range") (by decide)
      exact vx_throwSW (own := RX7) (ik := 135) (A := fun x => L ≤ x) hx hb hl9 hown (by decide +kernel) (by decide +kernel) (hts (.classLink RX7 135 "java/lang/IllegalArgumentException") (by decide +kernel)) (hts (.initialized "java/lang/IllegalArgumentException") (by decide +kernel)) hstr (vx_hat (B := xkB "java/lang/IllegalArgumentException") (fun w hw => hts w ((by decide +kernel : ∀ w ∈ (vx_atS RX7 139 "java/lang/IllegalArgumentException" ["java/lang/RuntimeException", "java/lang/Exception"]).filter goodWord, w ∈ wsX7_refuse) w hw)) (by rw [xk_b]; exact fun w h => h) (hX.bad (X := "java/lang/IllegalArgumentException") (by decide))) (by intro w hw; rcases List.mem_cons.mp hw with rfl | hw; rfl; rcases List.mem_cons.mp hw with rfl | hw; rfl; exact xg_b w hw) hX.2.2.2.1 hX.2.2.2.2 va_S.rf (hl.1.trans hml.symm) dX7_refuse_21 dX7_refuse_24 dX7_refuse_25 dX7_refuse_28 dX7_refuse_31 (fun x hx => (hT x hx).elim) (Nat.le_of_ble_eq_true rfl) (Nat.le_of_ble_eq_true rfl) (Nat.le_of_ble_eq_true rfl) (Nat.le_of_ble_eq_true rfl) hlk (fun t hal hsz hq => ⟨rfl, hsz, fun q h1 _ => hq q h1⟩) (fun z hz => nomatch hz) (Nat.le_refl _) (Nat.le_refl _)
  · exact absurd c2 (by decide)
set_option maxHeartbeats 2500000 in
set_option maxRecDepth 100000 in
theorem k_X7_refuseT3 (l : Launch) (D : va_G) (cs : Nat → ClassId)  (L : Nat) (hl9 : l.stackTraces = false) : vx_Met l yX7_refuse wsX7_refuse ({ frames := 6, cells := 1, slots := 6, locals := 82 } : Room) (PcX D cs L [.int (nI (3))] (fun H => True)) QcF (XCh ("java/lang/IllegalStateException")) 1 6 nowhere := by
  refine kx_metX (cc := cX7_refuse) (maxL := 1) (ret := none) (by decide) rfl (Nat.le_of_ble_eq_true rfl) ?_
  intro p en s m args below meth c hx hb hml hrt hts hown hlk hK hN hX hT hP ls hl
  have hl : lv_has ls 1 [(0, .int (nI (3)))] := hl
  refine lv_iload_n hx hb dX7_refuse_0 rfl (lv_at hl 0 rfl) ?_
  refine lv_iconst (v := nI 1) hx hb dX7_refuse_1 (by decide) ?_
  refine kn_icmp_ne (tgt := 16) hx hb dX7_refuse_2 (by decide) (by decide) (by decide) (fun c2 => ?_) (fun c2 => ?_)
  · refine lv_iload_n hx hb dX7_refuse_16 rfl (lv_at hl 0 rfl) ?_
    refine lv_iconst (v := nI 2) hx hb dX7_refuse_17 (by decide) ?_
    refine kn_icmp_ne (tgt := 32) hx hb dX7_refuse_18 (by decide) (by decide) (by decide) (fun c18 => ?_) (fun c18 => ?_)
    · refine lv_iload_n hx hb dX7_refuse_32 rfl (lv_at hl 0 rfl) ?_
      refine lv_iconst (v := nI 3) hx hb dX7_refuse_33 (by decide) ?_
      refine kn_icmp_ne (tgt := 48) hx hb dX7_refuse_34 (by decide) (by decide) (by decide) (fun c34 => ?_) (fun c34 => ?_)
      · exact absurd c34 (by decide)
      · obtain ⟨sa, hstr⟩ := hX.2.2.1 (268, "not as things stand") (by decide)
        exact vx_throwSW (own := RX7) (ik := 185) (A := fun x => L ≤ x) hx hb hl9 hown (by decide +kernel) (by decide +kernel) (hts (.classLink RX7 185 "java/lang/IllegalStateException") (by decide +kernel)) (hts (.initialized "java/lang/IllegalStateException") (by decide +kernel)) hstr (vx_hat (B := xkB "java/lang/IllegalStateException") (fun w hw => hts w ((by decide +kernel : ∀ w ∈ (vx_atS RX7 189 "java/lang/IllegalStateException" ["java/lang/RuntimeException", "java/lang/Exception"]).filter goodWord, w ∈ wsX7_refuse) w hw)) (by rw [xk_c]; exact fun w h => h) (hX.bad (X := "java/lang/IllegalStateException") (by decide))) (by intro w hw; rcases List.mem_cons.mp hw with rfl | hw; rfl; rcases List.mem_cons.mp hw with rfl | hw; rfl; exact xg_c w hw) hX.2.2.2.1 hX.2.2.2.2 va_S.rf (hl.1.trans hml.symm) dX7_refuse_37 dX7_refuse_40 dX7_refuse_41 dX7_refuse_44 dX7_refuse_47 (fun x hx => (hT x hx).elim) (Nat.le_of_ble_eq_true rfl) (Nat.le_of_ble_eq_true rfl) (Nat.le_of_ble_eq_true rfl) (Nat.le_of_ble_eq_true rfl) hlk (fun t hal hsz hq => ⟨rfl, hsz, fun q h1 _ => hq q h1⟩) (fun z hz => nomatch hz) (Nat.le_refl _) (Nat.le_refl _)
    · exact absurd c18 (by decide)
  · exact absurd c2 (by decide)
