set_option maxHeartbeats 2500000 in
set_option maxRecDepth 100000 in
theorem k_X7_refuseT3 (l : Launch) (D : va_G) (cs : Nat → ClassId)  (L : Nat) (hl9 : l.stackTraces = false) : vx_Met l yX7_refuse wsX7_refuse ({ frames := 6, cells := 1, slots := 6, locals := 82 } : Room) (PcX D cs L [.int (nI (3))] (fun H => True)) QcF (XCh ("java/lang/IllegalStateException")) 1 6 nowhere := by
  refine kx_metX (cc := cX7_refuse) (maxL := 1) (ret := none) (by decide) rfl (Nat.le_of_ble_eq_true rfl) ?_
  intro p en s m args below meth c hx hb hml hrt hts hown hlk hK hN hX hT hP ls hl
  have hl : lv_has ls 1 [(0, .int (nI (3)))] := hl
  refine lv_iload_n hx hb dX7_refuse_0 rfl (lv_at hl 0 rfl) ?_
  refine lv_iconst (v := nI 1) hx hb dX7_refuse_1 (by decide) ?_
  refine kn_icmp_ne (tgt := 16) hx hb dX7_refuse_2 (by decide) (by decide) (by decide) (fun c2 => ?_) (fun c2 => ?_)
  · refine lv_iload_n hx hb dX7_refuse_16 rfl (lv_at hl 0 rfl) ?_
    refine lv_iconst (v := nI 2) hx hb dX7_refuse_17 (by decide) ?_
    refine kn_icmp_ne (tgt := 32) hx hb dX7_refuse_18 (by decide) (by decide) (by decide) (fun c18 => ?_) (fun c18 => ?_)
    · refine lv_iload_n hx hb dX7_refuse_32 rfl (lv_at hl 0 rfl) ?_
      refine lv_iconst (v := nI 3) hx hb dX7_refuse_33 (by decide) ?_
      refine kn_icmp_ne (tgt := 48) hx hb dX7_refuse_34 (by decide) (by decide) (by decide) (fun c34 => ?_) (fun c34 => ?_)
      · exact absurd c34 (by decide)
      · obtain ⟨sa, hstr⟩ := hX.2.2.1 (268, "not as things stand") (by decide)
        exact vx_throwSW (own := RX7) (ik := 185) (A := fun x => L ≤ x) hx hb hl9 hown (by decide +kernel) (by decide +kernel) (hts (.classLink RX7 185 "java/lang/IllegalStateException") (by decide +kernel)) (hts (.initialized "java/lang/IllegalStateException") (by decide +kernel)) hstr (vx_hat (B := xkB "java/lang/IllegalStateException") (fun w hw => hts w ((by decide +kernel : ∀ w ∈ (vx_atS RX7 189 "java/lang/IllegalStateException" ["java/lang/RuntimeException", "java/lang/Exception"]).filter goodWord, w ∈ wsX7_refuse) w hw)) (by rw [xk_c]; exact fun w h => h) (hX.bad (X := "java/lang/IllegalStateException") (by decide))) (by intro w hw; rcases List.mem_cons.mp hw with rfl | hw; rfl; rcases List.mem_cons.mp hw with rfl | hw; rfl; exact xg_c w hw) hX.2.2.2.1 hX.2.2.2.2 va_S.rf (hl.1.trans hml.symm) dX7_refuse_37 dX7_refuse_40 dX7_refuse_41 dX7_refuse_44 dX7_refuse_47 (fun x hx => (hT x hx).elim) (Nat.le_of_ble_eq_true rfl) (Nat.le_of_ble_eq_true rfl) (Nat.le_of_ble_eq_true rfl) (Nat.le_of_ble_eq_true rfl) hlk (fun t hal hsz hq => ⟨rfl, hsz, fun q h1 _ => hq q h1⟩) (fun z hz => nomatch hz) (Nat.le_refl _) (Nat.le_refl _)
    · exact absurd c18 (by decide)
  · exact absurd c2 (by decide)
set_option maxHeartbeats 2500000 in
set_option maxRecDepth 100000 in
theorem k_X7_writeT3 (l : Launch) (D : va_G) (cs : Nat → ClassId) (x : Nat) (e : Nat → Int32) (g : Nat → Int64) (e1 : Nat → Int32) (g1 : Nat → Int64) (nx cn : Nat) (se : Nat → Nat → Int32) (sg : Nat → Nat → Int64) (b nn : Nat → Int32) (wd ln pa : Nat) (ft : Int32) (y v : Int32) (hI : Inv e) (hG : Msk e g) (hw : wwr e y v = 3) (L : Nat) (hL : L ≤ x) (hl9 : l.stackTraces = false) : vx_Met l yX7_write wsX7_write ({ frames := 7, cells := 1, slots := 6, locals := 112 } : Room) (PcX D cs L [.ref (x), .int (y), .int (v)] (fun H => HrC D cs x e g e1 g1 nx cn se sg b nn wd ln pa ft H)) QcF (XCh ("java/lang/IllegalStateException")) 1 6 nowhere := by
  refine kx_metX (cc := cX7_write) (maxL := 3) (ret := (some .int)) (by decide) rfl (Nat.le_of_ble_eq_true rfl) ?_
  intro p en s m args below meth c hx hb hml hrt hts hown hlk hK hN hX hT hP ls hl
  have hl : lv_has ls 3 [(0, .ref (x)), (1, .int (y)), (2, .int (v))] := hl
  have hinX7 : ∀ w ∈ wsX70, w ∈ wsX7_write := by decide +kernel
  obtain ⟨hWro, hM, hM2, hWhi, hWto, hWtb, hWtn⟩ := hP
  have h24 := hI.M24
  have h6 := hI.R6
  refine lv_aload_n hx hb dX7_write_0 rfl (lv_at hl 0 rfl) ?_
  refine kx_get (v := .ref (x + 1)) hx hb hts hinX7 hown hK hWro rfl 0 (by decide) (by decide +kernel) rfl dX7_write_1 ?_
  refine lv_iload_n hx hb dX7_write_4 rfl (lv_at hl 1 rfl) ?_
  refine lv_iload_n hx hb dX7_write_5 rfl (lv_at hl 2 rfl) ?_
  refine kx_retP (va_runV (As := [.int (y), .int (v)]) (rest := []) ⟨hx, hb, hml, hown, hts⟩ (k_X5_valueRefusal l D cs (x + 1) e g y v hI hG) (cwV 2 hts gX7_write_X5_valueRefusal rfl rfl rfl (by decide +kernel) ⟨Nat.le_of_ble_eq_true rfl, Nat.le_of_ble_eq_true rfl⟩) (kx_preV hK hN hM.obj rfl hM) rfl rfl hl.1 rfl (lv_room (Nat.le_of_ble_eq_true rfl)) dX7_write_6 ⟨Nat.le_of_ble_eq_true rfl, Nat.le_of_ble_eq_true rfl⟩) ?_
  refine kx_ci (x := nI (wwr e y v)) (y := nI (3)) (congrArg nI hw) ?_
  exact kx_retT (vx_runS (As := [.int (nI (3))]) (rest := []) ⟨hx, hb, hml, hown, hts⟩ (k_X7_refuseT3 l D cs L (by first | assumption | omega)) (cwS 1 hts gX7_write_X7_refuse rfl rfl rfl (by decide +kernel) ⟨Nat.le_of_ble_eq_true rfl, Nat.le_of_ble_eq_true rfl⟩) (kx_preXS hK hN hX trivial) rfl rfl hl.1 rfl (lv_room (Nat.le_of_ble_eq_true rfl)) dX7_write_9 ⟨Nat.le_of_ble_eq_true rfl, Nat.le_of_ble_eq_true rfl⟩) hlk hT
set_option maxHeartbeats 2500000 in
set_option maxRecDepth 100000 in
theorem k_X7_signT3 (l : Launch) (D : va_G) (cs : Nat → ClassId) (x : Nat) (e : Nat → Int32) (g : Nat → Int64) (e1 : Nat → Int32) (g1 : Nat → Int64) (nx cn : Nat) (se : Nat → Nat → Int32) (sg : Nat → Nat → Int64) (b nn : Nat → Int32) (wd ln pa : Nat) (ft : Int32) (r : Int32) (hI : Inv e) (hw : c23 (wsg e r) = 3) (L : Nat) (hL : L ≤ x) (hl9 : l.stackTraces = false) : vx_Met l yX7_sign wsX7_sign ({ frames := 7, cells := 1, slots := 6, locals := 112 } : Room) (PcX D cs L [.ref (x), .int (r)] (fun H => HrC D cs x e g e1 g1 nx cn se sg b nn wd ln pa ft H)) QcF (XCh ("java/lang/IllegalStateException")) 1 6 nowhere := by
  refine kx_metX (cc := cX7_sign) (maxL := 2) (ret := (some .int)) (by decide) rfl (Nat.le_of_ble_eq_true rfl) ?_
  intro p en s m args below meth c hx hb hml hrt hts hown hlk hK hN hX hT hP ls hl
  have hl : lv_has ls 2 [(0, .ref (x)), (1, .int (r))] := hl
  have hinX7 : ∀ w ∈ wsX70, w ∈ wsX7_sign := by decide +kernel
  obtain ⟨hWro, hM, hM2, hWhi, hWto, hWtb, hWtn⟩ := hP
  have h24 := hI.M24
  have h6 := hI.R6
  refine lv_aload_n hx hb dX7_sign_0 rfl (lv_at hl 0 rfl) ?_
  refine kx_get (v := .ref (x + 1)) hx hb hts hinX7 hown hK hWro rfl 0 (by decide) (by decide +kernel) rfl dX7_sign_1 ?_
  refine lv_iload_n hx hb dX7_sign_4 rfl (lv_at hl 1 rfl) ?_
  refine kx_retP (va_runV (As := [.int (r)]) (rest := []) ⟨hx, hb, hml, hown, hts⟩ (k_X5_signRefusal l D cs (x + 1) e g r hI) (cwV 1 hts gX7_sign_X5_signRefusal rfl rfl rfl (by decide +kernel) ⟨Nat.le_of_ble_eq_true rfl, Nat.le_of_ble_eq_true rfl⟩) (kx_preV hK hN hM.obj rfl hM) rfl rfl hl.1 rfl (lv_room (Nat.le_of_ble_eq_true rfl)) dX7_sign_5 ⟨Nat.le_of_ble_eq_true rfl, Nat.le_of_ble_eq_true rfl⟩) ?_
  refine kx_ci (x := nI (c23 (wsg e r))) (y := nI (3)) (congrArg nI hw) ?_
  exact kx_retT (vx_runS (As := [.int (nI (3))]) (rest := []) ⟨hx, hb, hml, hown, hts⟩ (k_X7_refuseT3 l D cs L (by first | assumption | omega)) (cwS 1 hts gX7_sign_X7_refuse rfl rfl rfl (by decide +kernel) ⟨Nat.le_of_ble_eq_true rfl, Nat.le_of_ble_eq_true rfl⟩) (kx_preXS hK hN hX trivial) rfl rfl hl.1 rfl (lv_room (Nat.le_of_ble_eq_true rfl)) dX7_sign_8 ⟨Nat.le_of_ble_eq_true rfl, Nat.le_of_ble_eq_true rfl⟩) hlk hT
set_option maxHeartbeats 2500000 in
set_option maxRecDepth 100000 in
theorem k_X7_strikeT3 (l : Launch) (D : va_G) (cs : Nat → ClassId) (x : Nat) (e : Nat → Int32) (g : Nat → Int64) (e1 : Nat → Int32) (g1 : Nat → Int64) (nx cn : Nat) (se : Nat → Nat → Int32) (sg : Nat → Nat → Int64) (b nn : Nat → Int32) (wd ln pa : Nat) (ft : Int32) (r : Int32) (y : Bool) (hI : Inv e) (hw : c23 (wst e r (bI y)) = 3) (L : Nat) (hL : L ≤ x) (hl9 : l.stackTraces = false) : vx_Met l yX7_strike wsX7_strike ({ frames := 7, cells := 1, slots := 6, locals := 112 } : Room) (PcX D cs L [.ref (x), .int (r), .int (bI (y))] (fun H => HrC D cs x e g e1 g1 nx cn se sg b nn wd ln pa ft H)) QcF (XCh ("java/lang/IllegalStateException")) 1 6 nowhere := by
  refine kx_metX (cc := cX7_strike) (maxL := 3) (ret := (some .int)) (by decide) rfl (Nat.le_of_ble_eq_true rfl) ?_
  intro p en s m args below meth c hx hb hml hrt hts hown hlk hK hN hX hT hP ls hl
  have hl : lv_has ls 3 [(0, .ref (x)), (1, .int (r)), (2, .int (bI (y)))] := hl
  have hinX7 : ∀ w ∈ wsX70, w ∈ wsX7_strike := by decide +kernel
  obtain ⟨hWro, hM, hM2, hWhi, hWto, hWtb, hWtn⟩ := hP
  have h24 := hI.M24
  have h6 := hI.R6
  refine lv_aload_n hx hb dX7_strike_0 rfl (lv_at hl 0 rfl) ?_
  refine kx_get (v := .ref (x + 1)) hx hb hts hinX7 hown hK hWro rfl 0 (by decide) (by decide +kernel) rfl dX7_strike_1 ?_
  refine lv_iload_n hx hb dX7_strike_4 rfl (lv_at hl 1 rfl) ?_
  refine lv_iload_n hx hb dX7_strike_5 rfl (lv_at hl 2 rfl) ?_
  refine kx_retP (va_runV (As := [.int (r), .int (bI (y))]) (rest := []) ⟨hx, hb, hml, hown, hts⟩ (k_X5_strikeRefusal l D cs (x + 1) e g r y hI) (cwV 2 hts gX7_strike_X5_strikeRefusal rfl rfl rfl (by decide +kernel) ⟨Nat.le_of_ble_eq_true rfl, Nat.le_of_ble_eq_true rfl⟩) (kx_preV hK hN hM.obj rfl hM) rfl rfl hl.1 rfl (lv_room (Nat.le_of_ble_eq_true rfl)) dX7_strike_6 ⟨Nat.le_of_ble_eq_true rfl, Nat.le_of_ble_eq_true rfl⟩) ?_
  refine kx_ci (x := nI (c23 (wst e r (bI y)))) (y := nI (3)) (congrArg nI hw) ?_
  exact kx_retT (vx_runS (As := [.int (nI (3))]) (rest := []) ⟨hx, hb, hml, hown, hts⟩ (k_X7_refuseT3 l D cs L (by first | assumption | omega)) (cwS 1 hts gX7_strike_X7_refuse rfl rfl rfl (by decide +kernel) ⟨Nat.le_of_ble_eq_true rfl, Nat.le_of_ble_eq_true rfl⟩) (kx_preXS hK hN hX trivial) rfl rfl hl.1 rfl (lv_room (Nat.le_of_ble_eq_true rfl)) dX7_strike_9 ⟨Nat.le_of_ble_eq_true rfl, Nat.le_of_ble_eq_true rfl⟩) hlk hT
