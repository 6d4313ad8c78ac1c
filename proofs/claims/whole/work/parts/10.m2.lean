set_option maxHeartbeats 1500000 in
set_option maxRecDepth 100000 in
theorem k_X8_isRing (l : Launch) (D : va_G) (cs : Nat → ClassId) (a : Nat) (z : Nat → Int32) (x : Int32) (hI : Inv z) : Met l yX8_isRing wsX8_isRing ({ frames := 1, cells := 0, slots := 0, locals := 22 } : Room) (PcK D cs [.ref (a), .int (x)] (fun H => MdC D (cs 0) a z H)) (QcP (some (.int (bI (lsB x (Rn z)))))) 0 0 nowhere := by
  refine kx_met (cc := cX8_isRing) (maxL := 2) (ret := (some .boolean)) (by decide) rfl (Nat.le_of_ble_eq_true rfl) ?_
  intro p e s m args below meth c hx hb hml hrt hts hown hlk hK hN hP ls hl
  have hl : lv_has ls 2 [(0, .ref (a)), (1, .int (x))] := hl
  have hinX8 : ∀ w ∈ wsX80, w ∈ wsX8_isRing := by decide +kernel
  have hM := hP
  refine lv_iload_n hx hb dX8_isRing_0 rfl (lv_at hl 1 rfl) ?_
  refine lv_iconst (v := nI 0) hx hb dX8_isRing_1 (by decide) ?_
  refine lv_aload_n hx hb dX8_isRing_2 rfl (lv_at hl 0 rfl) ?_
  refine kx_get (v := .ref (a + 1)) hx hb hts hinX8 hown hK hM.1 rfl 1 (by decide) (by decide +kernel) rfl dX8_isRing_3 ?_
  refine lv_iconst (v := nI 3) hx hb dX8_isRing_6 (by decide) ?_
  refine kx_iald (i := 3) hx hb hK hM.state 0 rfl (by decide) (by decide) dX8_isRing_7 ?_
  refine kx_ci (y := nI (Rn z)) (hI).z3 ?_
  refine lv_iconst (v := nI 1) hx hb dX8_isRing_8 (by decide) ?_
  refine lv_isub hx hb dX8_isRing_9 ?_
  refine kx_retP (va_runS (As := [.int (x), .int (nI (0)), .int ((nI (Rn z)) - (nI (1)))]) (rest := []) ⟨hx, hb, hml, hown, hts⟩ (k_X8_within l D cs x (nI (0)) ((nI (Rn z)) - (nI (1)))) (cwS 3 hts gX8_isRing_X8_within rfl rfl rfl (by decide +kernel) ⟨Nat.le_of_ble_eq_true rfl, Nat.le_of_ble_eq_true rfl⟩) (kx_preS hK hN trivial) rfl rfl hl.1 rfl (lv_room (Nat.le_of_ble_eq_true rfl)) dX8_isRing_10 ⟨Nat.le_of_ble_eq_true rfl, Nat.le_of_ble_eq_true rfl⟩) ?_
  exact kx_zretP hx hb hrt hlk rfl dX8_isRing_13
set_option maxHeartbeats 1500000 in
set_option maxRecDepth 100000 in
theorem k_X8_isMove (l : Launch) (D : va_G) (cs : Nat → ClassId) (a : Nat) (z : Nat → Int32) (x : Int32) (hI : Inv z) : Met l yX8_isMove wsX8_isMove ({ frames := 1, cells := 0, slots := 0, locals := 22 } : Room) (PcK D cs [.ref (a), .int (x)] (fun H => MdC D (cs 0) a z H)) (QcP (some (.int (bI (lsB x (Mn z)))))) 0 0 nowhere := by
  refine kx_met (cc := cX8_isMove) (maxL := 2) (ret := (some .boolean)) (by decide) rfl (Nat.le_of_ble_eq_true rfl) ?_
  intro p e s m args below meth c hx hb hml hrt hts hown hlk hK hN hP ls hl
  have hl : lv_has ls 2 [(0, .ref (a)), (1, .int (x))] := hl
  have hinX8 : ∀ w ∈ wsX80, w ∈ wsX8_isMove := by decide +kernel
  have hM := hP
  refine lv_iload_n hx hb dX8_isMove_0 rfl (lv_at hl 1 rfl) ?_
  refine lv_iconst (v := nI 0) hx hb dX8_isMove_1 (by decide) ?_
  refine lv_aload_n hx hb dX8_isMove_2 rfl (lv_at hl 0 rfl) ?_
  refine kx_get (v := .ref (a + 1)) hx hb hts hinX8 hown hK hM.1 rfl 1 (by decide) (by decide +kernel) rfl dX8_isMove_3 ?_
  refine lv_iconst (v := nI 4) hx hb dX8_isMove_6 (by decide) ?_
  refine kx_iald (i := 4) hx hb hK hM.state 0 rfl (by decide) (by decide) dX8_isMove_7 ?_
  refine kx_ci (y := nI (Mn z)) (hI).z4 ?_
  refine lv_iconst (v := nI 1) hx hb dX8_isMove_8 (by decide) ?_
  refine lv_isub hx hb dX8_isMove_9 ?_
  refine kx_retP (va_runS (As := [.int (x), .int (nI (0)), .int ((nI (Mn z)) - (nI (1)))]) (rest := []) ⟨hx, hb, hml, hown, hts⟩ (k_X8_within l D cs x (nI (0)) ((nI (Mn z)) - (nI (1)))) (cwS 3 hts gX8_isMove_X8_within rfl rfl rfl (by decide +kernel) ⟨Nat.le_of_ble_eq_true rfl, Nat.le_of_ble_eq_true rfl⟩) (kx_preS hK hN trivial) rfl rfl hl.1 rfl (lv_room (Nat.le_of_ble_eq_true rfl)) dX8_isMove_10 ⟨Nat.le_of_ble_eq_true rfl, Nat.le_of_ble_eq_true rfl⟩) ?_
  exact kx_zretP hx hb hrt hlk rfl dX8_isMove_13
set_option maxHeartbeats 1500000 in
set_option maxRecDepth 100000 in
theorem k_X8_sourceCell (l : Launch) (D : va_G) (cs : Nat → ClassId) (a : Nat) (z : Nat → Int32) (mv i : Nat) (hI : Inv z) (hm : mv < Mn z) (hi : i < 1000) : Met l yX8_sourceCell wsX8_sourceCell ({ frames := 1, cells := 0, slots := 0, locals := 22 } : Room) (PcK D cs [.ref (a), .int (nI (mv)), .int (nI (i))] (fun H => MdC D (cs 0) a z H)) (QcP (some (.int (nI (srcC z mv i))))) 0 0 nowhere := by
  refine kx_met (cc := cX8_sourceCell) (maxL := 4) (ret := (some .int)) (by decide) rfl (Nat.le_of_ble_eq_true rfl) ?_
  intro p e s m args below meth c hx hb hml hrt hts hown hlk hK hN hP ls hl
  have hl : lv_has ls 4 [(0, .ref (a)), (1, .int (nI (mv))), (2, .int (nI (i)))] := hl
  have hM := hP
  have h24 := hI.M24
  have h6 := hI.R6
  have hf := hI.mf hm
  have hl2 := hI.l2 (hI.mf hm)
  have hl16 := hI.l16 (hI.mf hm)
  have hpl := hI.ma hm
  refine lv_aload_n hx hb dX8_sourceCell_0 rfl (lv_at hl 0 rfl) ?_
  refine lv_iload_n hx hb dX8_sourceCell_1 rfl (lv_at hl 1 rfl) ?_
  refine lv_iconst (v := nI 0) hx hb dX8_sourceCell_2 (by decide) ?_
  refine kx_retP (va_runV (As := [.int (nI (mv)), .int (nI (0))]) (rest := []) ⟨hx, hb, hml, hown, hts⟩ (k_X8_movePart l D cs a z mv 0 (by first | assumption | omega) (by first | assumption | omega)) (cwV 2 hts gX8_sourceCell_X8_movePart rfl rfl rfl (by decide +kernel) ⟨Nat.le_of_ble_eq_true rfl, Nat.le_of_ble_eq_true rfl⟩) (kx_preV hK hN hM.1 rfl hM) rfl rfl hl.1 rfl (lv_room (Nat.le_of_ble_eq_true rfl)) dX8_sourceCell_3 ⟨Nat.le_of_ble_eq_true rfl, Nat.le_of_ble_eq_true rfl⟩) ?_
  refine kx_ci (y := nI (mF z mv)) (Inv.m0 hI (by first | assumption | omega)) ?_
  refine lv_istore_n (lv' := [(3, .int (nI (mF z mv))), (0, .ref (a)), (1, .int (nI (mv))), (2, .int (nI (i)))]) hx hb dX8_sourceCell_6 rfl hl (by decide) rfl (fun ls hl => ?_)
  refine lv_aload_n hx hb dX8_sourceCell_7 rfl (lv_at hl 1 rfl) ?_
  refine lv_iload_n hx hb dX8_sourceCell_8 rfl (lv_at hl 0 rfl) ?_
  refine lv_iconst (v := nI 0) hx hb dX8_sourceCell_9 (by decide) ?_
  refine kx_retP (va_runV (As := [.int (nI (mF z mv)), .int (nI (0))]) (rest := []) ⟨hx, hb, hml, hown, hts⟩ (k_X8_ringPart l D cs a z (mF z mv) 0 (by first | assumption | omega) (by first | assumption | omega)) (cwV 2 hts gX8_sourceCell_X8_ringPart rfl rfl rfl (by decide +kernel) ⟨Nat.le_of_ble_eq_true rfl, Nat.le_of_ble_eq_true rfl⟩) (kx_preV hK hN hM.1 rfl hM) rfl rfl hl.1 rfl (lv_room (Nat.le_of_ble_eq_true rfl)) dX8_sourceCell_10 ⟨Nat.le_of_ble_eq_true rfl, Nat.le_of_ble_eq_true rfl⟩) ?_
  refine kx_ci (y := nI (rF z (mF z mv))) (Inv.r0 hI (by first | assumption | omega)) ?_
  refine lv_aload_n hx hb dX8_sourceCell_13 rfl (lv_at hl 1 rfl) ?_
  refine lv_iload_n hx hb dX8_sourceCell_14 rfl (lv_at hl 2 rfl) ?_
  refine lv_iconst (v := nI 1) hx hb dX8_sourceCell_15 (by decide) ?_
  refine kx_retP (va_runV (As := [.int (nI (mv)), .int (nI (1))]) (rest := [.int (nI (rF z (mF z mv)))]) ⟨hx, hb, hml, hown, hts⟩ (k_X8_movePart l D cs a z mv 1 (by first | assumption | omega) (by first | assumption | omega)) (cwV 2 hts gX8_sourceCell_X8_movePart rfl rfl rfl (by decide +kernel) ⟨Nat.le_of_ble_eq_true rfl, Nat.le_of_ble_eq_true rfl⟩) (kx_preV hK hN hM.1 rfl hM) rfl rfl hl.1 rfl (lv_room (Nat.le_of_ble_eq_true rfl)) dX8_sourceCell_16 ⟨Nat.le_of_ble_eq_true rfl, Nat.le_of_ble_eq_true rfl⟩) ?_
  refine kx_ci (y := nI (mA z mv)) (Inv.m1 hI (by first | assumption | omega)) ?_
  refine lv_iload_n hx hb dX8_sourceCell_19 rfl (lv_at hl 3 rfl) ?_
  refine kn_add hx hb dX8_sourceCell_20 ?_
  refine lv_aload_n hx hb dX8_sourceCell_21 rfl (lv_at hl 1 rfl) ?_
  refine lv_iload_n hx hb dX8_sourceCell_22 rfl (lv_at hl 0 rfl) ?_
  refine lv_iconst (v := nI 1) hx hb dX8_sourceCell_23 (by decide) ?_
  refine kx_retP (va_runV (As := [.int (nI (mF z mv)), .int (nI (1))]) (rest := [.int (nI (mA z mv + i)), .int (nI (rF z (mF z mv)))]) ⟨hx, hb, hml, hown, hts⟩ (k_X8_ringPart l D cs a z (mF z mv) 1 (by first | assumption | omega) (by first | assumption | omega)) (cwV 2 hts gX8_sourceCell_X8_ringPart rfl rfl rfl (by decide +kernel) ⟨Nat.le_of_ble_eq_true rfl, Nat.le_of_ble_eq_true rfl⟩) (kx_preV hK hN hM.1 rfl hM) rfl rfl hl.1 rfl (lv_room (Nat.le_of_ble_eq_true rfl)) dX8_sourceCell_24 ⟨Nat.le_of_ble_eq_true rfl, Nat.le_of_ble_eq_true rfl⟩) ?_
  refine kx_ci (y := nI (rL z (mF z mv))) (Inv.r1 hI (by first | assumption | omega)) ?_
  refine kn_rem hx hb (by omega) (by omega) (by omega) dX8_sourceCell_27 ?_
  refine kn_add hx hb dX8_sourceCell_28 ?_
  exact kx_iretP hx hb hrt hlk rfl dX8_sourceCell_29
set_option maxHeartbeats 1500000 in
set_option maxRecDepth 100000 in
theorem k_X8_targetCell (l : Launch) (D : va_G) (cs : Nat → ClassId) (a : Nat) (z : Nat → Int32) (mv i : Nat) (hI : Inv z) (hm : mv < Mn z) (hi : i < 1000) : Met l yX8_targetCell wsX8_targetCell ({ frames := 1, cells := 0, slots := 0, locals := 22 } : Room) (PcK D cs [.ref (a), .int (nI (mv)), .int (nI (i))] (fun H => MdC D (cs 0) a z H)) (QcP (some (.int (nI (tgtC z mv i))))) 0 0 nowhere := by
  refine kx_met (cc := cX8_targetCell) (maxL := 4) (ret := (some .int)) (by decide) rfl (Nat.le_of_ble_eq_true rfl) ?_
  intro p e s m args below meth c hx hb hml hrt hts hown hlk hK hN hP ls hl
  have hl : lv_has ls 4 [(0, .ref (a)), (1, .int (nI (mv))), (2, .int (nI (i)))] := hl
  have hM := hP
  have h24 := hI.M24
  have h6 := hI.R6
  have hf := hI.mt hm
  have hl2 := hI.l2 (hI.mt hm)
  have hl16 := hI.l16 (hI.mt hm)
  have hpl := hI.mb hm
  refine lv_aload_n hx hb dX8_targetCell_0 rfl (lv_at hl 0 rfl) ?_
  refine lv_iload_n hx hb dX8_targetCell_1 rfl (lv_at hl 1 rfl) ?_
  refine lv_iconst (v := nI 2) hx hb dX8_targetCell_2 (by decide) ?_
  refine kx_retP (va_runV (As := [.int (nI (mv)), .int (nI (2))]) (rest := []) ⟨hx, hb, hml, hown, hts⟩ (k_X8_movePart l D cs a z mv 2 (by first | assumption | omega) (by first | assumption | omega)) (cwV 2 hts gX8_targetCell_X8_movePart rfl rfl rfl (by decide +kernel) ⟨Nat.le_of_ble_eq_true rfl, Nat.le_of_ble_eq_true rfl⟩) (kx_preV hK hN hM.1 rfl hM) rfl rfl hl.1 rfl (lv_room (Nat.le_of_ble_eq_true rfl)) dX8_targetCell_3 ⟨Nat.le_of_ble_eq_true rfl, Nat.le_of_ble_eq_true rfl⟩) ?_
  refine kx_ci (y := nI (mT z mv)) (Inv.m2 hI (by first | assumption | omega)) ?_
  refine lv_istore_n (lv' := [(3, .int (nI (mT z mv))), (0, .ref (a)), (1, .int (nI (mv))), (2, .int (nI (i)))]) hx hb dX8_targetCell_6 rfl hl (by decide) rfl (fun ls hl => ?_)
  refine lv_aload_n hx hb dX8_targetCell_7 rfl (lv_at hl 1 rfl) ?_
  refine lv_iload_n hx hb dX8_targetCell_8 rfl (lv_at hl 0 rfl) ?_
  refine lv_iconst (v := nI 0) hx hb dX8_targetCell_9 (by decide) ?_
  refine kx_retP (va_runV (As := [.int (nI (mT z mv)), .int (nI (0))]) (rest := []) ⟨hx, hb, hml, hown, hts⟩ (k_X8_ringPart l D cs a z (mT z mv) 0 (by first | assumption | omega) (by first | assumption | omega)) (cwV 2 hts gX8_targetCell_X8_ringPart rfl rfl rfl (by decide +kernel) ⟨Nat.le_of_ble_eq_true rfl, Nat.le_of_ble_eq_true rfl⟩) (kx_preV hK hN hM.1 rfl hM) rfl rfl hl.1 rfl (lv_room (Nat.le_of_ble_eq_true rfl)) dX8_targetCell_10 ⟨Nat.le_of_ble_eq_true rfl, Nat.le_of_ble_eq_true rfl⟩) ?_
  refine kx_ci (y := nI (rF z (mT z mv))) (Inv.r0 hI (by first | assumption | omega)) ?_
  refine lv_aload_n hx hb dX8_targetCell_13 rfl (lv_at hl 1 rfl) ?_
  refine lv_iload_n hx hb dX8_targetCell_14 rfl (lv_at hl 2 rfl) ?_
  refine lv_iconst (v := nI 3) hx hb dX8_targetCell_15 (by decide) ?_
  refine kx_retP (va_runV (As := [.int (nI (mv)), .int (nI (3))]) (rest := [.int (nI (rF z (mT z mv)))]) ⟨hx, hb, hml, hown, hts⟩ (k_X8_movePart l D cs a z mv 3 (by first | assumption | omega) (by first | assumption | omega)) (cwV 2 hts gX8_targetCell_X8_movePart rfl rfl rfl (by decide +kernel) ⟨Nat.le_of_ble_eq_true rfl, Nat.le_of_ble_eq_true rfl⟩) (kx_preV hK hN hM.1 rfl hM) rfl rfl hl.1 rfl (lv_room (Nat.le_of_ble_eq_true rfl)) dX8_targetCell_16 ⟨Nat.le_of_ble_eq_true rfl, Nat.le_of_ble_eq_true rfl⟩) ?_
  refine kx_ci (y := nI (mB z mv)) (Inv.m3 hI (by first | assumption | omega)) ?_
  refine lv_iload_n hx hb dX8_targetCell_19 rfl (lv_at hl 3 rfl) ?_
  refine kn_add hx hb dX8_targetCell_20 ?_
  refine lv_aload_n hx hb dX8_targetCell_21 rfl (lv_at hl 1 rfl) ?_
  refine lv_iload_n hx hb dX8_targetCell_22 rfl (lv_at hl 0 rfl) ?_
  refine lv_iconst (v := nI 1) hx hb dX8_targetCell_23 (by decide) ?_
  refine kx_retP (va_runV (As := [.int (nI (mT z mv)), .int (nI (1))]) (rest := [.int (nI (mB z mv + i)), .int (nI (rF z (mT z mv)))]) ⟨hx, hb, hml, hown, hts⟩ (k_X8_ringPart l D cs a z (mT z mv) 1 (by first | assumption | omega) (by first | assumption | omega)) (cwV 2 hts gX8_targetCell_X8_ringPart rfl rfl rfl (by decide +kernel) ⟨Nat.le_of_ble_eq_true rfl, Nat.le_of_ble_eq_true rfl⟩) (kx_preV hK hN hM.1 rfl hM) rfl rfl hl.1 rfl (lv_room (Nat.le_of_ble_eq_true rfl)) dX8_targetCell_24 ⟨Nat.le_of_ble_eq_true rfl, Nat.le_of_ble_eq_true rfl⟩) ?_
  refine kx_ci (y := nI (rL z (mT z mv))) (Inv.r1 hI (by first | assumption | omega)) ?_
  refine kn_rem hx hb (by omega) (by omega) (by omega) dX8_targetCell_27 ?_
  refine kn_add hx hb dX8_targetCell_28 ?_
  exact kx_iretP hx hb hrt hlk rfl dX8_targetCell_29
set_option maxHeartbeats 1500000 in
set_option maxRecDepth 100000 in
theorem k_X8_reads (l : Launch) (D : va_G) (cs : Nat → ClassId) (a : Nat) (z : Nat → Int32) (mv x : Nat) (hI : Inv z) (hm : mv < Mn z) (hx48 : x < 48) : Met l yX8_reads wsX8_reads ({ frames := 2, cells := 0, slots := 0, locals := 45 } : Room) (PcK D cs [.ref (a), .int (nI (mv)), .int (nI (x))] (fun H => MdC D (cs 0) a z H)) (QcP (some (.int (bI (rdB z mv x))))) 0 0 nowhere := by
  refine kx_met (cc := cX8_reads) (maxL := 5) (ret := (some .boolean)) (by decide) rfl (Nat.le_of_ble_eq_true rfl) ?_
  intro p e s m args below meth c hx hb hml hrt hts hown hlk hK hN hP ls hl
  have hl : lv_has ls 5 [(0, .ref (a)), (1, .int (nI (mv))), (2, .int (nI (x)))] := hl
  have hM := hP
  have h24 := hI.M24
  have h6 := hI.R6
  have hc16 := hI.c16 hm
  refine lv_iconst (v := nI 0) hx hb dX8_reads_0 (by decide) ?_
  refine lv_istore_n (lv' := [(3, .int (nI (0))), (0, .ref (a)), (1, .int (nI (mv))), (2, .int (nI (x)))]) hx hb dX8_reads_1 rfl hl (by decide) rfl (fun ls hl => ?_)
  refine lv_iconst (v := nI 0) hx hb dX8_reads_2 (by decide) ?_
  refine lv_istore (lv' := [(4, .int (nI (0))), (3, .int (nI (0))), (0, .ref (a)), (1, .int (nI (mv))), (2, .int (nI (x)))]) hx hb dX8_reads_3 hl (by decide) rfl (fun ls hl => ?_)
  have J5 : ∀ (n5 : Nat) (k : Nat) (ls : Array Slot), (mC z mv - k) < n5 → (k ≤ mC z mv) → lv_has ls 5 [(0, .ref (a)), (1, .int (nI (mv))), (2, .int (nI (x))), (3, .int (bI (anyN k (fun i => decide (srcC z mv i = x))))), (4, .int (nI (k)))] → W p l e ({ frames := 2, cells := 0, slots := 0, locals := 45 } : Room) s m args below meth c s.heap [] 0 0 (MQ below (QcP (some (.int (bI (rdB z mv x))))) args s 0 0 nowhere) (F0 m 5 ls []) := by
    intro n5; induction n5 with
    | zero => intro k ls hmu5 hk hl; exact absurd hmu5 (Nat.not_lt_zero _)
    | succ n5 ih5 =>
      intro k ls hmu5 hk hl
      refine lv_iload hx hb dX8_reads_5 (lv_at hl 4 rfl) ?_
      refine lv_aload_n hx hb dX8_reads_7 rfl (lv_at hl 0 rfl) ?_
      refine lv_iload_n hx hb dX8_reads_8 rfl (lv_at hl 1 rfl) ?_
      refine lv_iconst (v := nI 4) hx hb dX8_reads_9 (by decide) ?_
      refine kx_retP (va_runV (As := [.int (nI (mv)), .int (nI (4))]) (rest := [.int (nI (k))]) ⟨hx, hb, hml, hown, hts⟩ (k_X8_movePart l D cs a z mv 4 (by first | assumption | omega) (by first | assumption | omega)) (cwV 2 hts gX8_reads_X8_movePart rfl rfl rfl (by decide +kernel) ⟨Nat.le_of_ble_eq_true rfl, Nat.le_of_ble_eq_true rfl⟩) (kx_preV hK hN hM.1 rfl hM) rfl rfl hl.1 rfl (lv_room (Nat.le_of_ble_eq_true rfl)) dX8_reads_10 ⟨Nat.le_of_ble_eq_true rfl, Nat.le_of_ble_eq_true rfl⟩) ?_
      refine kx_ci (y := nI (mC z mv)) (Inv.m4 hI (by first | assumption | omega)) ?_
      refine kn_icmp_ge (tgt := 43) hx hb dX8_reads_13 (by decide) (by omega) (by omega) (fun c_1 => ?_) (fun c_1 => ?_)
      · refine lv_iload_n hx hb dX8_reads_43 rfl (lv_at hl 3 rfl) ?_
        exact kx_zretP hx hb hrt hlk (by rw [show k = mC z mv by omega]; rfl) dX8_reads_44
      · refine lv_iload_n hx hb dX8_reads_16 rfl (lv_at hl 3 rfl) ?_
        refine kb_if_ne (tgt := 31) hx hb dX8_reads_17 (by decide) (fun c_2 => ?_) (fun c_2 => ?_)
        · refine lv_iconst (v := nI 1) hx hb dX8_reads_31 (by decide) ?_
          refine lv_goto (tgt := 36) hx hb dX8_reads_32 (by decide) ?_
          refine kx_ci (x := nI (1)) (y := bI (anyN (k + 1) (fun i => decide (srcC z mv i = x)))) (by first | (simp [anyN_s, bI_t, bI_f, *]; done) | (exfalso; omega) | (exfalso; simp_all; done)) ?_
          refine lv_istore_n (lv' := [(3, .int (bI (anyN (k + 1) (fun i => decide (srcC z mv i = x))))), (0, .ref (a)), (1, .int (nI (mv))), (2, .int (nI (x))), (4, .int (nI (k)))]) hx hb dX8_reads_36 rfl hl (by decide) rfl (fun ls hl => ?_)
          refine lv_iinc (v := nI (k + 1)) (lv' := [(4, .int (nI (k + 1))), (3, .int (bI (anyN (k + 1) (fun i => decide (srcC z mv i = x))))), (0, .ref (a)), (1, .int (nI (mv))), (2, .int (nI (x)))]) (k := 4) hx hb dX8_reads_37 hl rfl (nI_add _ _) (by decide) rfl (fun ls hl => ?_)
          refine lv_goto (tgt := 5) hx hb dX8_reads_40 (by decide) ?_
          exact ih5 (k + 1) _ (by omega) (by omega) (lv_sub hl [2, 3, 4, 1, 0] rfl)
        · refine lv_aload_n hx hb dX8_reads_20 rfl (lv_at hl 0 rfl) ?_
          refine lv_iload_n hx hb dX8_reads_21 rfl (lv_at hl 1 rfl) ?_
          refine lv_iload hx hb dX8_reads_22 (lv_at hl 4 rfl) ?_
          refine kx_retP (va_runV (As := [.int (nI (mv)), .int (nI (k))]) (rest := []) ⟨hx, hb, hml, hown, hts⟩ (k_X8_sourceCell l D cs a z mv k hI (by first | assumption | omega) (by first | assumption | omega)) (cwV 2 hts gX8_reads_X8_sourceCell rfl rfl rfl (by decide +kernel) ⟨Nat.le_of_ble_eq_true rfl, Nat.le_of_ble_eq_true rfl⟩) (kx_preV hK hN hM.1 rfl hM) rfl rfl hl.1 rfl (lv_room (Nat.le_of_ble_eq_true rfl)) dX8_reads_24 ⟨Nat.le_of_ble_eq_true rfl, Nat.le_of_ble_eq_true rfl⟩) ?_
          refine lv_iload_n hx hb dX8_reads_27 rfl (lv_at hl 2 rfl) ?_
          refine kn_icmp_ne (tgt := 35) hx hb dX8_reads_28 (by decide) (by have := hI.src48 hm k; omega) (by omega) (fun c_3 => ?_) (fun c_3 => ?_)
          · refine lv_iconst (v := nI 0) hx hb dX8_reads_35 (by decide) ?_
            refine kx_ci (x := nI (0)) (y := bI (anyN (k + 1) (fun i => decide (srcC z mv i = x)))) (by first | (simp [anyN_s, bI_t, bI_f, *]; done) | (exfalso; omega) | (exfalso; simp_all; done)) ?_
            refine lv_istore_n (lv' := [(3, .int (bI (anyN (k + 1) (fun i => decide (srcC z mv i = x))))), (0, .ref (a)), (1, .int (nI (mv))), (2, .int (nI (x))), (4, .int (nI (k)))]) hx hb dX8_reads_36 rfl hl (by decide) rfl (fun ls hl => ?_)
            refine lv_iinc (v := nI (k + 1)) (lv' := [(4, .int (nI (k + 1))), (3, .int (bI (anyN (k + 1) (fun i => decide (srcC z mv i = x))))), (0, .ref (a)), (1, .int (nI (mv))), (2, .int (nI (x)))]) (k := 4) hx hb dX8_reads_37 hl rfl (nI_add _ _) (by decide) rfl (fun ls hl => ?_)
            refine lv_goto (tgt := 5) hx hb dX8_reads_40 (by decide) ?_
            exact ih5 (k + 1) _ (by omega) (by omega) (lv_sub hl [2, 3, 4, 1, 0] rfl)
          · refine lv_iconst (v := nI 1) hx hb dX8_reads_31 (by decide) ?_
            refine lv_goto (tgt := 36) hx hb dX8_reads_32 (by decide) ?_
            refine kx_ci (x := nI (1)) (y := bI (anyN (k + 1) (fun i => decide (srcC z mv i = x)))) (by first | (simp [anyN_s, bI_t, bI_f, *]; done) | (exfalso; omega) | (exfalso; simp_all; done)) ?_
            refine lv_istore_n (lv' := [(3, .int (bI (anyN (k + 1) (fun i => decide (srcC z mv i = x))))), (0, .ref (a)), (1, .int (nI (mv))), (2, .int (nI (x))), (4, .int (nI (k)))]) hx hb dX8_reads_36 rfl hl (by decide) rfl (fun ls hl => ?_)
            refine lv_iinc (v := nI (k + 1)) (lv' := [(4, .int (nI (k + 1))), (3, .int (bI (anyN (k + 1) (fun i => decide (srcC z mv i = x))))), (0, .ref (a)), (1, .int (nI (mv))), (2, .int (nI (x)))]) (k := 4) hx hb dX8_reads_37 hl rfl (nI_add _ _) (by decide) rfl (fun ls hl => ?_)
            refine lv_goto (tgt := 5) hx hb dX8_reads_40 (by decide) ?_
            exact ih5 (k + 1) _ (by omega) (by omega) (lv_sub hl [2, 3, 4, 1, 0] rfl)
  exact J5 _ 0 _ (Nat.lt_succ_self _) (by omega) (lv_sub hl [2, 3, 4, 1, 0] rfl)
set_option maxHeartbeats 1500000 in
set_option maxRecDepth 100000 in
theorem k_X8_writes (l : Launch) (D : va_G) (cs : Nat → ClassId) (a : Nat) (z : Nat → Int32) (mv x : Nat) (hI : Inv z) (hm : mv < Mn z) (hx48 : x < 48) : Met l yX8_writes wsX8_writes ({ frames := 2, cells := 0, slots := 0, locals := 45 } : Room) (PcK D cs [.ref (a), .int (nI (mv)), .int (nI (x))] (fun H => MdC D (cs 0) a z H)) (QcP (some (.int (bI (wrB z mv x))))) 0 0 nowhere := by
  refine kx_met (cc := cX8_writes) (maxL := 5) (ret := (some .boolean)) (by decide) rfl (Nat.le_of_ble_eq_true rfl) ?_
  intro p e s m args below meth c hx hb hml hrt hts hown hlk hK hN hP ls hl
  have hl : lv_has ls 5 [(0, .ref (a)), (1, .int (nI (mv))), (2, .int (nI (x)))] := hl
  have hM := hP
  have h24 := hI.M24
  have h6 := hI.R6
  have hc16 := hI.c16 hm
  refine lv_iconst (v := nI 0) hx hb dX8_writes_0 (by decide) ?_
  refine lv_istore_n (lv' := [(3, .int (nI (0))), (0, .ref (a)), (1, .int (nI (mv))), (2, .int (nI (x)))]) hx hb dX8_writes_1 rfl hl (by decide) rfl (fun ls hl => ?_)
  refine lv_iconst (v := nI 0) hx hb dX8_writes_2 (by decide) ?_
  refine lv_istore (lv' := [(4, .int (nI (0))), (3, .int (nI (0))), (0, .ref (a)), (1, .int (nI (mv))), (2, .int (nI (x)))]) hx hb dX8_writes_3 hl (by decide) rfl (fun ls hl => ?_)
  have J5 : ∀ (n5 : Nat) (k : Nat) (ls : Array Slot), (mC z mv - k) < n5 → (k ≤ mC z mv) → lv_has ls 5 [(0, .ref (a)), (1, .int (nI (mv))), (2, .int (nI (x))), (3, .int (bI (anyN k (fun i => decide (tgtC z mv i = x))))), (4, .int (nI (k)))] → W p l e ({ frames := 2, cells := 0, slots := 0, locals := 45 } : Room) s m args below meth c s.heap [] 0 0 (MQ below (QcP (some (.int (bI (wrB z mv x))))) args s 0 0 nowhere) (F0 m 5 ls []) := by
    intro n5; induction n5 with
    | zero => intro k ls hmu5 hk hl; exact absurd hmu5 (Nat.not_lt_zero _)
    | succ n5 ih5 =>
      intro k ls hmu5 hk hl
      refine lv_iload hx hb dX8_writes_5 (lv_at hl 4 rfl) ?_
      refine lv_aload_n hx hb dX8_writes_7 rfl (lv_at hl 0 rfl) ?_
      refine lv_iload_n hx hb dX8_writes_8 rfl (lv_at hl 1 rfl) ?_
      refine lv_iconst (v := nI 4) hx hb dX8_writes_9 (by decide) ?_
      refine kx_retP (va_runV (As := [.int (nI (mv)), .int (nI (4))]) (rest := [.int (nI (k))]) ⟨hx, hb, hml, hown, hts⟩ (k_X8_movePart l D cs a z mv 4 (by first | assumption | omega) (by first | assumption | omega)) (cwV 2 hts gX8_writes_X8_movePart rfl rfl rfl (by decide +kernel) ⟨Nat.le_of_ble_eq_true rfl, Nat.le_of_ble_eq_true rfl⟩) (kx_preV hK hN hM.1 rfl hM) rfl rfl hl.1 rfl (lv_room (Nat.le_of_ble_eq_true rfl)) dX8_writes_10 ⟨Nat.le_of_ble_eq_true rfl, Nat.le_of_ble_eq_true rfl⟩) ?_
      refine kx_ci (y := nI (mC z mv)) (Inv.m4 hI (by first | assumption | omega)) ?_
      refine kn_icmp_ge (tgt := 43) hx hb dX8_writes_13 (by decide) (by omega) (by omega) (fun c_1 => ?_) (fun c_1 => ?_)
      · refine lv_iload_n hx hb dX8_writes_43 rfl (lv_at hl 3 rfl) ?_
        exact kx_zretP hx hb hrt hlk (by rw [show k = mC z mv by omega]; rfl) dX8_writes_44
      · refine lv_iload_n hx hb dX8_writes_16 rfl (lv_at hl 3 rfl) ?_
        refine kb_if_ne (tgt := 31) hx hb dX8_writes_17 (by decide) (fun c_2 => ?_) (fun c_2 => ?_)
        · refine lv_iconst (v := nI 1) hx hb dX8_writes_31 (by decide) ?_
          refine lv_goto (tgt := 36) hx hb dX8_writes_32 (by decide) ?_
          refine kx_ci (x := nI (1)) (y := bI (anyN (k + 1) (fun i => decide (tgtC z mv i = x)))) (by first | (simp [anyN_s, bI_t, bI_f, *]; done) | (exfalso; omega) | (exfalso; simp_all; done)) ?_
          refine lv_istore_n (lv' := [(3, .int (bI (anyN (k + 1) (fun i => decide (tgtC z mv i = x))))), (0, .ref (a)), (1, .int (nI (mv))), (2, .int (nI (x))), (4, .int (nI (k)))]) hx hb dX8_writes_36 rfl hl (by decide) rfl (fun ls hl => ?_)
          refine lv_iinc (v := nI (k + 1)) (lv' := [(4, .int (nI (k + 1))), (3, .int (bI (anyN (k + 1) (fun i => decide (tgtC z mv i = x))))), (0, .ref (a)), (1, .int (nI (mv))), (2, .int (nI (x)))]) (k := 4) hx hb dX8_writes_37 hl rfl (nI_add _ _) (by decide) rfl (fun ls hl => ?_)
          refine lv_goto (tgt := 5) hx hb dX8_writes_40 (by decide) ?_
          exact ih5 (k + 1) _ (by omega) (by omega) (lv_sub hl [2, 3, 4, 1, 0] rfl)
        · refine lv_aload_n hx hb dX8_writes_20 rfl (lv_at hl 0 rfl) ?_
          refine lv_iload_n hx hb dX8_writes_21 rfl (lv_at hl 1 rfl) ?_
          refine lv_iload hx hb dX8_writes_22 (lv_at hl 4 rfl) ?_
          refine kx_retP (va_runV (As := [.int (nI (mv)), .int (nI (k))]) (rest := []) ⟨hx, hb, hml, hown, hts⟩ (k_X8_targetCell l D cs a z mv k hI (by first | assumption | omega) (by first | assumption | omega)) (cwV 2 hts gX8_writes_X8_targetCell rfl rfl rfl (by decide +kernel) ⟨Nat.le_of_ble_eq_true rfl, Nat.le_of_ble_eq_true rfl⟩) (kx_preV hK hN hM.1 rfl hM) rfl rfl hl.1 rfl (lv_room (Nat.le_of_ble_eq_true rfl)) dX8_writes_24 ⟨Nat.le_of_ble_eq_true rfl, Nat.le_of_ble_eq_true rfl⟩) ?_
          refine lv_iload_n hx hb dX8_writes_27 rfl (lv_at hl 2 rfl) ?_
          refine kn_icmp_ne (tgt := 35) hx hb dX8_writes_28 (by decide) (by have := hI.tgt48 hm k; omega) (by omega) (fun c_3 => ?_) (fun c_3 => ?_)
          · refine lv_iconst (v := nI 0) hx hb dX8_writes_35 (by decide) ?_
            refine kx_ci (x := nI (0)) (y := bI (anyN (k + 1) (fun i => decide (tgtC z mv i = x)))) (by first | (simp [anyN_s, bI_t, bI_f, *]; done) | (exfalso; omega) | (exfalso; simp_all; done)) ?_
            refine lv_istore_n (lv' := [(3, .int (bI (anyN (k + 1) (fun i => decide (tgtC z mv i = x))))), (0, .ref (a)), (1, .int (nI (mv))), (2, .int (nI (x))), (4, .int (nI (k)))]) hx hb dX8_writes_36 rfl hl (by decide) rfl (fun ls hl => ?_)
            refine lv_iinc (v := nI (k + 1)) (lv' := [(4, .int (nI (k + 1))), (3, .int (bI (anyN (k + 1) (fun i => decide (tgtC z mv i = x))))), (0, .ref (a)), (1, .int (nI (mv))), (2, .int (nI (x)))]) (k := 4) hx hb dX8_writes_37 hl rfl (nI_add _ _) (by decide) rfl (fun ls hl => ?_)
            refine lv_goto (tgt := 5) hx hb dX8_writes_40 (by decide) ?_
            exact ih5 (k + 1) _ (by omega) (by omega) (lv_sub hl [2, 3, 4, 1, 0] rfl)
          · refine lv_iconst (v := nI 1) hx hb dX8_writes_31 (by decide) ?_
            refine lv_goto (tgt := 36) hx hb dX8_writes_32 (by decide) ?_
            refine kx_ci (x := nI (1)) (y := bI (anyN (k + 1) (fun i => decide (tgtC z mv i = x)))) (by first | (simp [anyN_s, bI_t, bI_f, *]; done) | (exfalso; omega) | (exfalso; simp_all; done)) ?_
            refine lv_istore_n (lv' := [(3, .int (bI (anyN (k + 1) (fun i => decide (tgtC z mv i = x))))), (0, .ref (a)), (1, .int (nI (mv))), (2, .int (nI (x))), (4, .int (nI (k)))]) hx hb dX8_writes_36 rfl hl (by decide) rfl (fun ls hl => ?_)
            refine lv_iinc (v := nI (k + 1)) (lv' := [(4, .int (nI (k + 1))), (3, .int (bI (anyN (k + 1) (fun i => decide (tgtC z mv i = x))))), (0, .ref (a)), (1, .int (nI (mv))), (2, .int (nI (x)))]) (k := 4) hx hb dX8_writes_37 hl rfl (nI_add _ _) (by decide) rfl (fun ls hl => ?_)
            refine lv_goto (tgt := 5) hx hb dX8_writes_40 (by decide) ?_
            exact ih5 (k + 1) _ (by omega) (by omega) (lv_sub hl [2, 3, 4, 1, 0] rfl)
  exact J5 _ 0 _ (Nat.lt_succ_self _) (by omega) (lv_sub hl [2, 3, 4, 1, 0] rfl)
set_option maxHeartbeats 1500000 in
set_option maxRecDepth 100000 in
theorem k_X8_holds (l : Launch) (D : va_G) (cs : Nat → ClassId) (a : Nat) (z : Nat → Int32) (mv x : Nat) (hI : Inv z) (hm : mv < Mn z) (hx48 : x < 48) : Met l yX8_holds wsX8_holds ({ frames := 3, cells := 0, slots := 0, locals := 69 } : Room) (PcK D cs [.ref (a), .int (nI (mv)), .int (nI (x))] (fun H => MdC D (cs 0) a z H)) (QcP (some (.int (bI (hoB z mv x))))) 0 0 nowhere := by
  refine kx_met (cc := cX8_holds) (maxL := 4) (ret := (some .boolean)) (by decide) rfl (Nat.le_of_ble_eq_true rfl) ?_
  intro p e s m args below meth c hx hb hml hrt hts hown hlk hK hN hP ls hl
  have hl : lv_has ls 4 [(0, .ref (a)), (1, .int (nI (mv))), (2, .int (nI (x)))] := hl
  have hM := hP
  have h24 := hI.M24
  have h6 := hI.R6
  have hs3 := hI.s3 hm
  refine lv_aload_n hx hb dX8_holds_0 rfl (lv_at hl 0 rfl) ?_
  refine lv_iload_n hx hb dX8_holds_1 rfl (lv_at hl 1 rfl) ?_
  refine lv_iconst (v := nI 5) hx hb dX8_holds_2 (by decide) ?_
  refine kx_retP (va_runV (As := [.int (nI (mv)), .int (nI (5))]) (rest := []) ⟨hx, hb, hml, hown, hts⟩ (k_X8_movePart l D cs a z mv 5 (by first | assumption | omega) (by first | assumption | omega)) (cwV 2 hts gX8_holds_X8_movePart rfl rfl rfl (by decide +kernel) ⟨Nat.le_of_ble_eq_true rfl, Nat.le_of_ble_eq_true rfl⟩) (kx_preV hK hN hM.1 rfl hM) rfl rfl hl.1 rfl (lv_room (Nat.le_of_ble_eq_true rfl)) dX8_holds_3 ⟨Nat.le_of_ble_eq_true rfl, Nat.le_of_ble_eq_true rfl⟩) ?_
  refine kx_ci (y := nI (mS z mv)) (Inv.m5 hI (by first | assumption | omega)) ?_
  refine lv_istore_n (lv' := [(3, .int (nI (mS z mv))), (0, .ref (a)), (1, .int (nI (mv))), (2, .int (nI (x)))]) hx hb dX8_holds_6 rfl hl (by decide) rfl (fun ls hl => ?_)
  refine lv_iload_n hx hb dX8_holds_7 rfl (lv_at hl 0 rfl) ?_
  refine lv_iconst (v := nI 1) hx hb dX8_holds_8 (by decide) ?_
  refine kn_icmp_eq (tgt := 17) hx hb dX8_holds_9 (by decide) (by omega) (by decide) (fun c_1 => ?_) (fun c_1 => ?_)
  · refine lv_aload_n hx hb dX8_holds_17 rfl (lv_at hl 1 rfl) ?_
    refine lv_iload_n hx hb dX8_holds_18 rfl (lv_at hl 2 rfl) ?_
    refine lv_iload_n hx hb dX8_holds_19 rfl (lv_at hl 3 rfl) ?_
    refine kx_retP (va_runV (As := [.int (nI (mv)), .int (nI (x))]) (rest := []) ⟨hx, hb, hml, hown, hts⟩ (k_X8_reads l D cs a z mv x hI (by first | assumption | omega) (by first | assumption | omega)) (cwV 2 hts gX8_holds_X8_reads rfl rfl rfl (by decide +kernel) ⟨Nat.le_of_ble_eq_true rfl, Nat.le_of_ble_eq_true rfl⟩) (kx_preV hK hN hM.1 rfl hM) rfl rfl hl.1 rfl (lv_room (Nat.le_of_ble_eq_true rfl)) dX8_holds_20 ⟨Nat.le_of_ble_eq_true rfl, Nat.le_of_ble_eq_true rfl⟩) ?_
    refine kb_if_eq (tgt := 30) hx hb dX8_holds_23 (by decide) (fun c_2 => ?_) (fun c_2 => ?_)
    · refine lv_iconst (v := nI 0) hx hb dX8_holds_30 (by decide) ?_
      exact kx_zretP hx hb hrt hlk (by first | (simp [hoB, bI_t, bI_f, *]; done) | (exfalso; omega) | (exfalso; simp_all; done)) dX8_holds_31
    · refine lv_iconst (v := nI 1) hx hb dX8_holds_26 (by decide) ?_
      refine lv_goto (tgt := 31) hx hb dX8_holds_27 (by decide) ?_
      exact kx_zretP hx hb hrt hlk (by first | (simp [hoB, bI_t, bI_f, *]; done) | (exfalso; omega) | (exfalso; simp_all; done)) dX8_holds_31
  · refine lv_iload_n hx hb dX8_holds_12 rfl (lv_at hl 0 rfl) ?_
    refine lv_iconst (v := nI 2) hx hb dX8_holds_13 (by decide) ?_
    refine kn_icmp_ne (tgt := 30) hx hb dX8_holds_14 (by decide) (by omega) (by decide) (fun c_3 => ?_) (fun c_3 => ?_)
    · refine lv_iconst (v := nI 0) hx hb dX8_holds_30 (by decide) ?_
      exact kx_zretP hx hb hrt hlk (by first | (simp [hoB, bI_t, bI_f, *]; done) | (exfalso; omega) | (exfalso; simp_all; done)) dX8_holds_31
    · refine lv_aload_n hx hb dX8_holds_17 rfl (lv_at hl 1 rfl) ?_
      refine lv_iload_n hx hb dX8_holds_18 rfl (lv_at hl 2 rfl) ?_
      refine lv_iload_n hx hb dX8_holds_19 rfl (lv_at hl 3 rfl) ?_
      refine kx_retP (va_runV (As := [.int (nI (mv)), .int (nI (x))]) (rest := []) ⟨hx, hb, hml, hown, hts⟩ (k_X8_reads l D cs a z mv x hI (by first | assumption | omega) (by first | assumption | omega)) (cwV 2 hts gX8_holds_X8_reads rfl rfl rfl (by decide +kernel) ⟨Nat.le_of_ble_eq_true rfl, Nat.le_of_ble_eq_true rfl⟩) (kx_preV hK hN hM.1 rfl hM) rfl rfl hl.1 rfl (lv_room (Nat.le_of_ble_eq_true rfl)) dX8_holds_20 ⟨Nat.le_of_ble_eq_true rfl, Nat.le_of_ble_eq_true rfl⟩) ?_
      refine kb_if_eq (tgt := 30) hx hb dX8_holds_23 (by decide) (fun c_4 => ?_) (fun c_4 => ?_)
      · refine lv_iconst (v := nI 0) hx hb dX8_holds_30 (by decide) ?_
        exact kx_zretP hx hb hrt hlk (by first | (simp [hoB, bI_t, bI_f, *]; done) | (exfalso; omega) | (exfalso; simp_all; done)) dX8_holds_31
      · refine lv_iconst (v := nI 1) hx hb dX8_holds_26 (by decide) ?_
        refine lv_goto (tgt := 31) hx hb dX8_holds_27 (by decide) ?_
        exact kx_zretP hx hb hrt hlk (by first | (simp [hoB, bI_t, bI_f, *]; done) | (exfalso; omega) | (exfalso; simp_all; done)) dX8_holds_31
set_option maxHeartbeats 1500000 in
set_option maxRecDepth 100000 in
theorem k_X8_reasonOf (l : Launch) (D : va_G) (cs : Nat → ClassId) (a : Nat) (z : Nat → Int32) (x : Nat) (hI : Inv z) (hx48 : x < 48) : Met l yX8_reasonOf wsX8_reasonOf ({ frames := 4, cells := 0, slots := 0, locals := 92 } : Room) (PcK D cs [.ref (a), .int (nI (x))] (fun H => MdC D (cs 0) a z H)) (QcP (some (.int (nI (rsC z x))))) 0 0 nowhere := by
  refine kx_met (cc := cX8_reasonOf) (maxL := 6) (ret := (some .int)) (by decide) rfl (Nat.le_of_ble_eq_true rfl) ?_
  intro p e s m args below meth c hx hb hml hrt hts hown hlk hK hN hP ls hl
  have hl : lv_has ls 6 [(0, .ref (a)), (1, .int (nI (x)))] := hl
  have hinX8 : ∀ w ∈ wsX80, w ∈ wsX8_reasonOf := by decide +kernel
  have hM := hP
  have h24 := hI.M24
  have h6 := hI.R6
  refine lv_iconst (v := nI 4) hx hb dX8_reasonOf_0 (by decide) ?_
  refine lv_istore_n (lv' := [(2, .int (nI (4))), (0, .ref (a)), (1, .int (nI (x)))]) hx hb dX8_reasonOf_1 rfl hl (by decide) rfl (fun ls hl => ?_)
  refine lv_iconst (v := nI 0) hx hb dX8_reasonOf_2 (by decide) ?_
  refine lv_istore_n (lv' := [(3, .int (nI (0))), (2, .int (nI (4))), (0, .ref (a)), (1, .int (nI (x)))]) hx hb dX8_reasonOf_3 rfl hl (by decide) rfl (fun ls hl => ?_)
  have J4 : ∀ (n4 : Nat) (k : Nat) (ls : Array Slot), (Mn z - k) < n4 → (k ≤ Mn z) → lv_has ls 6 [(0, .ref (a)), (1, .int (nI (x))), (2, .int (nI (rsK z x k))), (3, .int (nI (k)))] → W p l e ({ frames := 4, cells := 0, slots := 0, locals := 92 } : Room) s m args below meth c s.heap [] 0 0 (MQ below (QcP (some (.int (nI (rsC z x))))) args s 0 0 nowhere) (F0 m 4 ls []) := by
    intro n4; induction n4 with
    | zero => intro k ls hmu4 hk hl; exact absurd hmu4 (Nat.not_lt_zero _)
    | succ n4 ih4 =>
      intro k ls hmu4 hk hl
      refine lv_iload_n hx hb dX8_reasonOf_4 rfl (lv_at hl 3 rfl) ?_
      refine lv_aload_n hx hb dX8_reasonOf_5 rfl (lv_at hl 0 rfl) ?_
      refine kx_get (v := .ref (a + 1)) hx hb hts hinX8 hown hK hM.1 rfl 1 (by decide) (by decide +kernel) rfl dX8_reasonOf_6 ?_
      refine lv_iconst (v := nI 4) hx hb dX8_reasonOf_9 (by decide) ?_
      refine kx_iald (i := 4) hx hb hK hM.state 0 rfl (by decide) (by decide) dX8_reasonOf_10 ?_
      refine kx_ci (y := nI (Mn z)) (hI).z4 ?_
      refine kn_icmp_ge (tgt := 103) hx hb dX8_reasonOf_11 (by decide) (by omega) (by omega) (fun c_1 => ?_) (fun c_1 => ?_)
      · refine lv_iload_n hx hb dX8_reasonOf_103 rfl (lv_at hl 2 rfl) ?_
        refine lv_iconst (v := nI 4) hx hb dX8_reasonOf_104 (by decide) ?_
        refine kn_rem hx hb (by have := rsK_le z x k; omega) (by omega) (by omega) dX8_reasonOf_105 ?_
        exact kx_iretP hx hb hrt hlk (by unfold rsC; rw [show k = Mn z by omega]) dX8_reasonOf_106
      · have hkM : k < Mn z := by omega
        have hs3 := hI.s3 hkM
        refine lv_aload_n hx hb dX8_reasonOf_14 rfl (lv_at hl 0 rfl) ?_
        refine lv_iload_n hx hb dX8_reasonOf_15 rfl (lv_at hl 3 rfl) ?_
        refine lv_iconst (v := nI 5) hx hb dX8_reasonOf_16 (by decide) ?_
        refine kx_retP (va_runV (As := [.int (nI (k)), .int (nI (5))]) (rest := []) ⟨hx, hb, hml, hown, hts⟩ (k_X8_movePart l D cs a z k 5 (by first | assumption | omega) (by first | assumption | omega)) (cwV 2 hts gX8_reasonOf_X8_movePart rfl rfl rfl (by decide +kernel) ⟨Nat.le_of_ble_eq_true rfl, Nat.le_of_ble_eq_true rfl⟩) (kx_preV hK hN hM.1 rfl hM) rfl rfl hl.1 rfl (lv_room (Nat.le_of_ble_eq_true rfl)) dX8_reasonOf_17 ⟨Nat.le_of_ble_eq_true rfl, Nat.le_of_ble_eq_true rfl⟩) ?_
        refine kx_ci (y := nI (mS z k)) (Inv.m5 hI hkM) ?_
        refine lv_istore (lv' := [(4, .int (nI (mS z k))), (0, .ref (a)), (1, .int (nI (x))), (2, .int (nI (rsK z x k))), (3, .int (nI (k)))]) hx hb dX8_reasonOf_20 hl (by decide) rfl (fun ls hl => ?_)
        refine lv_aload_n hx hb dX8_reasonOf_22 rfl (lv_at hl 1 rfl) ?_
        refine lv_iload_n hx hb dX8_reasonOf_23 rfl (lv_at hl 4 rfl) ?_
        refine lv_iload_n hx hb dX8_reasonOf_24 rfl (lv_at hl 2 rfl) ?_
        refine kx_retP (va_runV (As := [.int (nI (k)), .int (nI (x))]) (rest := []) ⟨hx, hb, hml, hown, hts⟩ (k_X8_holds l D cs a z k x hI (by first | assumption | omega) (by first | assumption | omega)) (cwV 2 hts gX8_reasonOf_X8_holds rfl rfl rfl (by decide +kernel) ⟨Nat.le_of_ble_eq_true rfl, Nat.le_of_ble_eq_true rfl⟩) (kx_preV hK hN hM.1 rfl hM) rfl rfl hl.1 rfl (lv_room (Nat.le_of_ble_eq_true rfl)) dX8_reasonOf_25 ⟨Nat.le_of_ble_eq_true rfl, Nat.le_of_ble_eq_true rfl⟩) ?_
        refine kb_if_eq (tgt := 35) hx hb dX8_reasonOf_28 (by decide) (fun c_2 => ?_) (fun c_2 => ?_)
        · refine lv_iload hx hb dX8_reasonOf_35 (lv_at hl 0 rfl) ?_
          refine kn_if_ne (tgt := 62) hx hb dX8_reasonOf_37 (by decide) (by omega) (fun c_3 => ?_) (fun c_3 => ?_)
          · refine lv_iload hx hb dX8_reasonOf_62 (lv_at hl 0 rfl) ?_
            refine lv_iconst (v := nI 1) hx hb dX8_reasonOf_64 (by decide) ?_
            refine kn_icmp_ne (tgt := 81) hx hb dX8_reasonOf_65 (by decide) (by omega) (by decide) (fun c_4 => ?_) (fun c_4 => ?_)
            · refine lv_iconst (v := nI 4) hx hb dX8_reasonOf_81 (by decide) ?_
              refine kx_ci (x := nI (4)) (y := nI (rsM z k x)) (congrArg nI (by first | (simp [rsM, *]; done) | (exfalso; omega) | (exfalso; simp_all; done))) ?_
              refine lv_istore (lv' := [(5, .int (nI (rsM z k x))), (4, .int (nI (mS z k))), (0, .ref (a)), (1, .int (nI (x))), (2, .int (nI (rsK z x k))), (3, .int (nI (k)))]) hx hb dX8_reasonOf_82 hl (by decide) rfl (fun ls hl => ?_)
              have hr1 := rsM_le z k x
              have hr2 := rsK_le z x k
              refine lv_iload hx hb dX8_reasonOf_84 (lv_at hl 0 rfl) ?_
              refine lv_iload_n hx hb dX8_reasonOf_86 rfl (lv_at hl 4 rfl) ?_
              refine kn_icmp_ge (tgt := 95) hx hb dX8_reasonOf_87 (by decide) (by omega) (by omega) (fun c_5 => ?_) (fun c_5 => ?_)
              · refine lv_iload_n hx hb dX8_reasonOf_95 rfl (lv_at hl 4 rfl) ?_
                refine kx_ci (x := nI (rsK z x k)) (y := nI (rsK z x (k + 1))) (congrArg nI (by rw [rsK_s]; split <;> omega)) ?_
                refine lv_istore_n (lv' := [(2, .int (nI (rsK z x (k + 1)))), (5, .int (nI (rsM z k x))), (4, .int (nI (mS z k))), (0, .ref (a)), (1, .int (nI (x))), (3, .int (nI (k)))]) hx hb dX8_reasonOf_96 rfl hl (by decide) rfl (fun ls hl => ?_)
                refine lv_iinc (v := nI (k + 1)) (lv' := [(3, .int (nI (k + 1))), (2, .int (nI (rsK z x (k + 1)))), (5, .int (nI (rsM z k x))), (4, .int (nI (mS z k))), (0, .ref (a)), (1, .int (nI (x)))]) (k := 5) hx hb dX8_reasonOf_97 hl rfl (nI_add _ _) (by decide) rfl (fun ls hl => ?_)
                refine lv_goto (tgt := 4) hx hb dX8_reasonOf_100 (by decide) ?_
                exact ih4 (k + 1) _ (by omega) (by omega) (lv_sub hl [4, 5, 1, 0] rfl)
              · refine lv_iload hx hb dX8_reasonOf_90 (lv_at hl 0 rfl) ?_
                refine lv_goto (tgt := 96) hx hb dX8_reasonOf_92 (by decide) ?_
                refine kx_ci (x := nI (rsM z k x)) (y := nI (rsK z x (k + 1))) (congrArg nI (by rw [rsK_s]; split <;> omega)) ?_
                refine lv_istore_n (lv' := [(2, .int (nI (rsK z x (k + 1)))), (5, .int (nI (rsM z k x))), (4, .int (nI (mS z k))), (0, .ref (a)), (1, .int (nI (x))), (3, .int (nI (k)))]) hx hb dX8_reasonOf_96 rfl hl (by decide) rfl (fun ls hl => ?_)
                refine lv_iinc (v := nI (k + 1)) (lv' := [(3, .int (nI (k + 1))), (2, .int (nI (rsK z x (k + 1)))), (5, .int (nI (rsM z k x))), (4, .int (nI (mS z k))), (0, .ref (a)), (1, .int (nI (x)))]) (k := 5) hx hb dX8_reasonOf_97 hl rfl (nI_add _ _) (by decide) rfl (fun ls hl => ?_)
                refine lv_goto (tgt := 4) hx hb dX8_reasonOf_100 (by decide) ?_
                exact ih4 (k + 1) _ (by omega) (by omega) (lv_sub hl [4, 5, 1, 0] rfl)
            · refine lv_aload_n hx hb dX8_reasonOf_68 rfl (lv_at hl 1 rfl) ?_
              refine lv_iload_n hx hb dX8_reasonOf_69 rfl (lv_at hl 4 rfl) ?_
              refine lv_iload_n hx hb dX8_reasonOf_70 rfl (lv_at hl 2 rfl) ?_
              refine kx_retP (va_runV (As := [.int (nI (k)), .int (nI (x))]) (rest := []) ⟨hx, hb, hml, hown, hts⟩ (k_X8_writes l D cs a z k x hI (by first | assumption | omega) (by first | assumption | omega)) (cwV 2 hts gX8_reasonOf_X8_writes rfl rfl rfl (by decide +kernel) ⟨Nat.le_of_ble_eq_true rfl, Nat.le_of_ble_eq_true rfl⟩) (kx_preV hK hN hM.1 rfl hM) rfl rfl hl.1 rfl (lv_room (Nat.le_of_ble_eq_true rfl)) dX8_reasonOf_71 ⟨Nat.le_of_ble_eq_true rfl, Nat.le_of_ble_eq_true rfl⟩) ?_
              refine kb_if_eq (tgt := 81) hx hb dX8_reasonOf_74 (by decide) (fun c_6 => ?_) (fun c_6 => ?_)
              · refine lv_iconst (v := nI 4) hx hb dX8_reasonOf_81 (by decide) ?_
                refine kx_ci (x := nI (4)) (y := nI (rsM z k x)) (congrArg nI (by first | (simp [rsM, *]; done) | (exfalso; omega) | (exfalso; simp_all; done))) ?_
                refine lv_istore (lv' := [(5, .int (nI (rsM z k x))), (4, .int (nI (mS z k))), (0, .ref (a)), (1, .int (nI (x))), (2, .int (nI (rsK z x k))), (3, .int (nI (k)))]) hx hb dX8_reasonOf_82 hl (by decide) rfl (fun ls hl => ?_)
                have hr1 := rsM_le z k x
                have hr2 := rsK_le z x k
                refine lv_iload hx hb dX8_reasonOf_84 (lv_at hl 0 rfl) ?_
                refine lv_iload_n hx hb dX8_reasonOf_86 rfl (lv_at hl 4 rfl) ?_
                refine kn_icmp_ge (tgt := 95) hx hb dX8_reasonOf_87 (by decide) (by omega) (by omega) (fun c_7 => ?_) (fun c_7 => ?_)
                · refine lv_iload_n hx hb dX8_reasonOf_95 rfl (lv_at hl 4 rfl) ?_
                  refine kx_ci (x := nI (rsK z x k)) (y := nI (rsK z x (k + 1))) (congrArg nI (by rw [rsK_s]; split <;> omega)) ?_
                  refine lv_istore_n (lv' := [(2, .int (nI (rsK z x (k + 1)))), (5, .int (nI (rsM z k x))), (4, .int (nI (mS z k))), (0, .ref (a)), (1, .int (nI (x))), (3, .int (nI (k)))]) hx hb dX8_reasonOf_96 rfl hl (by decide) rfl (fun ls hl => ?_)
                  refine lv_iinc (v := nI (k + 1)) (lv' := [(3, .int (nI (k + 1))), (2, .int (nI (rsK z x (k + 1)))), (5, .int (nI (rsM z k x))), (4, .int (nI (mS z k))), (0, .ref (a)), (1, .int (nI (x)))]) (k := 5) hx hb dX8_reasonOf_97 hl rfl (nI_add _ _) (by decide) rfl (fun ls hl => ?_)
                  refine lv_goto (tgt := 4) hx hb dX8_reasonOf_100 (by decide) ?_
                  exact ih4 (k + 1) _ (by omega) (by omega) (lv_sub hl [4, 5, 1, 0] rfl)
                · refine lv_iload hx hb dX8_reasonOf_90 (lv_at hl 0 rfl) ?_
                  refine lv_goto (tgt := 96) hx hb dX8_reasonOf_92 (by decide) ?_
                  refine kx_ci (x := nI (rsM z k x)) (y := nI (rsK z x (k + 1))) (congrArg nI (by rw [rsK_s]; split <;> omega)) ?_
                  refine lv_istore_n (lv' := [(2, .int (nI (rsK z x (k + 1)))), (5, .int (nI (rsM z k x))), (4, .int (nI (mS z k))), (0, .ref (a)), (1, .int (nI (x))), (3, .int (nI (k)))]) hx hb dX8_reasonOf_96 rfl hl (by decide) rfl (fun ls hl => ?_)
                  refine lv_iinc (v := nI (k + 1)) (lv' := [(3, .int (nI (k + 1))), (2, .int (nI (rsK z x (k + 1)))), (5, .int (nI (rsM z k x))), (4, .int (nI (mS z k))), (0, .ref (a)), (1, .int (nI (x)))]) (k := 5) hx hb dX8_reasonOf_97 hl rfl (nI_add _ _) (by decide) rfl (fun ls hl => ?_)
                  refine lv_goto (tgt := 4) hx hb dX8_reasonOf_100 (by decide) ?_
                  exact ih4 (k + 1) _ (by omega) (by omega) (lv_sub hl [4, 5, 1, 0] rfl)
              · refine lv_iconst (v := nI 3) hx hb dX8_reasonOf_77 (by decide) ?_
                refine lv_goto (tgt := 82) hx hb dX8_reasonOf_78 (by decide) ?_
                refine kx_ci (x := nI (3)) (y := nI (rsM z k x)) (congrArg nI (by first | (simp [rsM, *]; done) | (exfalso; omega) | (exfalso; simp_all; done))) ?_
                refine lv_istore (lv' := [(5, .int (nI (rsM z k x))), (4, .int (nI (mS z k))), (0, .ref (a)), (1, .int (nI (x))), (2, .int (nI (rsK z x k))), (3, .int (nI (k)))]) hx hb dX8_reasonOf_82 hl (by decide) rfl (fun ls hl => ?_)
                have hr1 := rsM_le z k x
                have hr2 := rsK_le z x k
                refine lv_iload hx hb dX8_reasonOf_84 (lv_at hl 0 rfl) ?_
                refine lv_iload_n hx hb dX8_reasonOf_86 rfl (lv_at hl 4 rfl) ?_
                refine kn_icmp_ge (tgt := 95) hx hb dX8_reasonOf_87 (by decide) (by omega) (by omega) (fun c_8 => ?_) (fun c_8 => ?_)
                · refine lv_iload_n hx hb dX8_reasonOf_95 rfl (lv_at hl 4 rfl) ?_
                  refine kx_ci (x := nI (rsK z x k)) (y := nI (rsK z x (k + 1))) (congrArg nI (by rw [rsK_s]; split <;> omega)) ?_
                  refine lv_istore_n (lv' := [(2, .int (nI (rsK z x (k + 1)))), (5, .int (nI (rsM z k x))), (4, .int (nI (mS z k))), (0, .ref (a)), (1, .int (nI (x))), (3, .int (nI (k)))]) hx hb dX8_reasonOf_96 rfl hl (by decide) rfl (fun ls hl => ?_)
                  refine lv_iinc (v := nI (k + 1)) (lv' := [(3, .int (nI (k + 1))), (2, .int (nI (rsK z x (k + 1)))), (5, .int (nI (rsM z k x))), (4, .int (nI (mS z k))), (0, .ref (a)), (1, .int (nI (x)))]) (k := 5) hx hb dX8_reasonOf_97 hl rfl (nI_add _ _) (by decide) rfl (fun ls hl => ?_)
                  refine lv_goto (tgt := 4) hx hb dX8_reasonOf_100 (by decide) ?_
                  exact ih4 (k + 1) _ (by omega) (by omega) (lv_sub hl [4, 5, 1, 0] rfl)
                · refine lv_iload hx hb dX8_reasonOf_90 (lv_at hl 0 rfl) ?_
                  refine lv_goto (tgt := 96) hx hb dX8_reasonOf_92 (by decide) ?_
                  refine kx_ci (x := nI (rsM z k x)) (y := nI (rsK z x (k + 1))) (congrArg nI (by rw [rsK_s]; split <;> omega)) ?_
                  refine lv_istore_n (lv' := [(2, .int (nI (rsK z x (k + 1)))), (5, .int (nI (rsM z k x))), (4, .int (nI (mS z k))), (0, .ref (a)), (1, .int (nI (x))), (3, .int (nI (k)))]) hx hb dX8_reasonOf_96 rfl hl (by decide) rfl (fun ls hl => ?_)
                  refine lv_iinc (v := nI (k + 1)) (lv' := [(3, .int (nI (k + 1))), (2, .int (nI (rsK z x (k + 1)))), (5, .int (nI (rsM z k x))), (4, .int (nI (mS z k))), (0, .ref (a)), (1, .int (nI (x)))]) (k := 5) hx hb dX8_reasonOf_97 hl rfl (nI_add _ _) (by decide) rfl (fun ls hl => ?_)
                  refine lv_goto (tgt := 4) hx hb dX8_reasonOf_100 (by decide) ?_
                  exact ih4 (k + 1) _ (by omega) (by omega) (lv_sub hl [4, 5, 1, 0] rfl)
          · refine lv_aload_n hx hb dX8_reasonOf_40 rfl (lv_at hl 1 rfl) ?_
            refine lv_iload_n hx hb dX8_reasonOf_41 rfl (lv_at hl 4 rfl) ?_
            refine lv_iload_n hx hb dX8_reasonOf_42 rfl (lv_at hl 2 rfl) ?_
            refine kx_retP (va_runV (As := [.int (nI (k)), .int (nI (x))]) (rest := []) ⟨hx, hb, hml, hown, hts⟩ (k_X8_reads l D cs a z k x hI (by first | assumption | omega) (by first | assumption | omega)) (cwV 2 hts gX8_reasonOf_X8_reads rfl rfl rfl (by decide +kernel) ⟨Nat.le_of_ble_eq_true rfl, Nat.le_of_ble_eq_true rfl⟩) (kx_preV hK hN hM.1 rfl hM) rfl rfl hl.1 rfl (lv_room (Nat.le_of_ble_eq_true rfl)) dX8_reasonOf_43 ⟨Nat.le_of_ble_eq_true rfl, Nat.le_of_ble_eq_true rfl⟩) ?_
            refine kb_if_ne (tgt := 58) hx hb dX8_reasonOf_46 (by decide) (fun c_9 => ?_) (fun c_9 => ?_)
            · refine lv_iconst (v := nI 2) hx hb dX8_reasonOf_58 (by decide) ?_
              refine lv_goto (tgt := 82) hx hb dX8_reasonOf_59 (by decide) ?_
              refine kx_ci (x := nI (2)) (y := nI (rsM z k x)) (congrArg nI (by first | (simp [rsM, *]; done) | (exfalso; omega) | (exfalso; simp_all; done))) ?_
              refine lv_istore (lv' := [(5, .int (nI (rsM z k x))), (4, .int (nI (mS z k))), (0, .ref (a)), (1, .int (nI (x))), (2, .int (nI (rsK z x k))), (3, .int (nI (k)))]) hx hb dX8_reasonOf_82 hl (by decide) rfl (fun ls hl => ?_)
              have hr1 := rsM_le z k x
              have hr2 := rsK_le z x k
              refine lv_iload hx hb dX8_reasonOf_84 (lv_at hl 0 rfl) ?_
              refine lv_iload_n hx hb dX8_reasonOf_86 rfl (lv_at hl 4 rfl) ?_
              refine kn_icmp_ge (tgt := 95) hx hb dX8_reasonOf_87 (by decide) (by omega) (by omega) (fun c_10 => ?_) (fun c_10 => ?_)
              · refine lv_iload_n hx hb dX8_reasonOf_95 rfl (lv_at hl 4 rfl) ?_
                refine kx_ci (x := nI (rsK z x k)) (y := nI (rsK z x (k + 1))) (congrArg nI (by rw [rsK_s]; split <;> omega)) ?_
                refine lv_istore_n (lv' := [(2, .int (nI (rsK z x (k + 1)))), (5, .int (nI (rsM z k x))), (4, .int (nI (mS z k))), (0, .ref (a)), (1, .int (nI (x))), (3, .int (nI (k)))]) hx hb dX8_reasonOf_96 rfl hl (by decide) rfl (fun ls hl => ?_)
                refine lv_iinc (v := nI (k + 1)) (lv' := [(3, .int (nI (k + 1))), (2, .int (nI (rsK z x (k + 1)))), (5, .int (nI (rsM z k x))), (4, .int (nI (mS z k))), (0, .ref (a)), (1, .int (nI (x)))]) (k := 5) hx hb dX8_reasonOf_97 hl rfl (nI_add _ _) (by decide) rfl (fun ls hl => ?_)
                refine lv_goto (tgt := 4) hx hb dX8_reasonOf_100 (by decide) ?_
                exact ih4 (k + 1) _ (by omega) (by omega) (lv_sub hl [4, 5, 1, 0] rfl)
              · refine lv_iload hx hb dX8_reasonOf_90 (lv_at hl 0 rfl) ?_
                refine lv_goto (tgt := 96) hx hb dX8_reasonOf_92 (by decide) ?_
                refine kx_ci (x := nI (rsM z k x)) (y := nI (rsK z x (k + 1))) (congrArg nI (by rw [rsK_s]; split <;> omega)) ?_
                refine lv_istore_n (lv' := [(2, .int (nI (rsK z x (k + 1)))), (5, .int (nI (rsM z k x))), (4, .int (nI (mS z k))), (0, .ref (a)), (1, .int (nI (x))), (3, .int (nI (k)))]) hx hb dX8_reasonOf_96 rfl hl (by decide) rfl (fun ls hl => ?_)
                refine lv_iinc (v := nI (k + 1)) (lv' := [(3, .int (nI (k + 1))), (2, .int (nI (rsK z x (k + 1)))), (5, .int (nI (rsM z k x))), (4, .int (nI (mS z k))), (0, .ref (a)), (1, .int (nI (x)))]) (k := 5) hx hb dX8_reasonOf_97 hl rfl (nI_add _ _) (by decide) rfl (fun ls hl => ?_)
                refine lv_goto (tgt := 4) hx hb dX8_reasonOf_100 (by decide) ?_
                exact ih4 (k + 1) _ (by omega) (by omega) (lv_sub hl [4, 5, 1, 0] rfl)
            · refine lv_aload_n hx hb dX8_reasonOf_49 rfl (lv_at hl 1 rfl) ?_
              refine lv_iload_n hx hb dX8_reasonOf_50 rfl (lv_at hl 4 rfl) ?_
              refine lv_iload_n hx hb dX8_reasonOf_51 rfl (lv_at hl 2 rfl) ?_
              refine kx_retP (va_runV (As := [.int (nI (k)), .int (nI (x))]) (rest := []) ⟨hx, hb, hml, hown, hts⟩ (k_X8_writes l D cs a z k x hI (by first | assumption | omega) (by first | assumption | omega)) (cwV 2 hts gX8_reasonOf_X8_writes rfl rfl rfl (by decide +kernel) ⟨Nat.le_of_ble_eq_true rfl, Nat.le_of_ble_eq_true rfl⟩) (kx_preV hK hN hM.1 rfl hM) rfl rfl hl.1 rfl (lv_room (Nat.le_of_ble_eq_true rfl)) dX8_reasonOf_52 ⟨Nat.le_of_ble_eq_true rfl, Nat.le_of_ble_eq_true rfl⟩) ?_
              refine kb_if_eq (tgt := 62) hx hb dX8_reasonOf_55 (by decide) (fun c_11 => ?_) (fun c_11 => ?_)
              · refine lv_iload hx hb dX8_reasonOf_62 (lv_at hl 0 rfl) ?_
                refine lv_iconst (v := nI 1) hx hb dX8_reasonOf_64 (by decide) ?_
                refine kn_icmp_ne (tgt := 81) hx hb dX8_reasonOf_65 (by decide) (by omega) (by decide) (fun c_12 => ?_) (fun c_12 => ?_)
                · refine lv_iconst (v := nI 4) hx hb dX8_reasonOf_81 (by decide) ?_
                  refine kx_ci (x := nI (4)) (y := nI (rsM z k x)) (congrArg nI (by first | (simp [rsM, *]; done) | (exfalso; omega) | (exfalso; simp_all; done))) ?_
                  refine lv_istore (lv' := [(5, .int (nI (rsM z k x))), (4, .int (nI (mS z k))), (0, .ref (a)), (1, .int (nI (x))), (2, .int (nI (rsK z x k))), (3, .int (nI (k)))]) hx hb dX8_reasonOf_82 hl (by decide) rfl (fun ls hl => ?_)
                  have hr1 := rsM_le z k x
                  have hr2 := rsK_le z x k
                  refine lv_iload hx hb dX8_reasonOf_84 (lv_at hl 0 rfl) ?_
                  refine lv_iload_n hx hb dX8_reasonOf_86 rfl (lv_at hl 4 rfl) ?_
                  refine kn_icmp_ge (tgt := 95) hx hb dX8_reasonOf_87 (by decide) (by omega) (by omega) (fun c_13 => ?_) (fun c_13 => ?_)
                  · refine lv_iload_n hx hb dX8_reasonOf_95 rfl (lv_at hl 4 rfl) ?_
                    refine kx_ci (x := nI (rsK z x k)) (y := nI (rsK z x (k + 1))) (congrArg nI (by rw [rsK_s]; split <;> omega)) ?_
                    refine lv_istore_n (lv' := [(2, .int (nI (rsK z x (k + 1)))), (5, .int (nI (rsM z k x))), (4, .int (nI (mS z k))), (0, .ref (a)), (1, .int (nI (x))), (3, .int (nI (k)))]) hx hb dX8_reasonOf_96 rfl hl (by decide) rfl (fun ls hl => ?_)
                    refine lv_iinc (v := nI (k + 1)) (lv' := [(3, .int (nI (k + 1))), (2, .int (nI (rsK z x (k + 1)))), (5, .int (nI (rsM z k x))), (4, .int (nI (mS z k))), (0, .ref (a)), (1, .int (nI (x)))]) (k := 5) hx hb dX8_reasonOf_97 hl rfl (nI_add _ _) (by decide) rfl (fun ls hl => ?_)
                    refine lv_goto (tgt := 4) hx hb dX8_reasonOf_100 (by decide) ?_
                    exact ih4 (k + 1) _ (by omega) (by omega) (lv_sub hl [4, 5, 1, 0] rfl)
                  · refine lv_iload hx hb dX8_reasonOf_90 (lv_at hl 0 rfl) ?_
                    refine lv_goto (tgt := 96) hx hb dX8_reasonOf_92 (by decide) ?_
                    refine kx_ci (x := nI (rsM z k x)) (y := nI (rsK z x (k + 1))) (congrArg nI (by rw [rsK_s]; split <;> omega)) ?_
                    refine lv_istore_n (lv' := [(2, .int (nI (rsK z x (k + 1)))), (5, .int (nI (rsM z k x))), (4, .int (nI (mS z k))), (0, .ref (a)), (1, .int (nI (x))), (3, .int (nI (k)))]) hx hb dX8_reasonOf_96 rfl hl (by decide) rfl (fun ls hl => ?_)
                    refine lv_iinc (v := nI (k + 1)) (lv' := [(3, .int (nI (k + 1))), (2, .int (nI (rsK z x (k + 1)))), (5, .int (nI (rsM z k x))), (4, .int (nI (mS z k))), (0, .ref (a)), (1, .int (nI (x)))]) (k := 5) hx hb dX8_reasonOf_97 hl rfl (nI_add _ _) (by decide) rfl (fun ls hl => ?_)
                    refine lv_goto (tgt := 4) hx hb dX8_reasonOf_100 (by decide) ?_
                    exact ih4 (k + 1) _ (by omega) (by omega) (lv_sub hl [4, 5, 1, 0] rfl)
                · refine lv_aload_n hx hb dX8_reasonOf_68 rfl (lv_at hl 1 rfl) ?_
                  refine lv_iload_n hx hb dX8_reasonOf_69 rfl (lv_at hl 4 rfl) ?_
                  refine lv_iload_n hx hb dX8_reasonOf_70 rfl (lv_at hl 2 rfl) ?_
                  refine kx_retP (va_runV (As := [.int (nI (k)), .int (nI (x))]) (rest := []) ⟨hx, hb, hml, hown, hts⟩ (k_X8_writes l D cs a z k x hI (by first | assumption | omega) (by first | assumption | omega)) (cwV 2 hts gX8_reasonOf_X8_writes rfl rfl rfl (by decide +kernel) ⟨Nat.le_of_ble_eq_true rfl, Nat.le_of_ble_eq_true rfl⟩) (kx_preV hK hN hM.1 rfl hM) rfl rfl hl.1 rfl (lv_room (Nat.le_of_ble_eq_true rfl)) dX8_reasonOf_71 ⟨Nat.le_of_ble_eq_true rfl, Nat.le_of_ble_eq_true rfl⟩) ?_
                  refine kb_if_eq (tgt := 81) hx hb dX8_reasonOf_74 (by decide) (fun c_14 => ?_) (fun c_14 => ?_)
                  · refine lv_iconst (v := nI 4) hx hb dX8_reasonOf_81 (by decide) ?_
                    refine kx_ci (x := nI (4)) (y := nI (rsM z k x)) (congrArg nI (by first | (simp [rsM, *]; done) | (exfalso; omega) | (exfalso; simp_all; done))) ?_
                    refine lv_istore (lv' := [(5, .int (nI (rsM z k x))), (4, .int (nI (mS z k))), (0, .ref (a)), (1, .int (nI (x))), (2, .int (nI (rsK z x k))), (3, .int (nI (k)))]) hx hb dX8_reasonOf_82 hl (by decide) rfl (fun ls hl => ?_)
                    have hr1 := rsM_le z k x
                    have hr2 := rsK_le z x k
                    refine lv_iload hx hb dX8_reasonOf_84 (lv_at hl 0 rfl) ?_
                    refine lv_iload_n hx hb dX8_reasonOf_86 rfl (lv_at hl 4 rfl) ?_
                    refine kn_icmp_ge (tgt := 95) hx hb dX8_reasonOf_87 (by decide) (by omega) (by omega) (fun c_15 => ?_) (fun c_15 => ?_)
                    · refine lv_iload_n hx hb dX8_reasonOf_95 rfl (lv_at hl 4 rfl) ?_
                      refine kx_ci (x := nI (rsK z x k)) (y := nI (rsK z x (k + 1))) (congrArg nI (by rw [rsK_s]; split <;> omega)) ?_
                      refine lv_istore_n (lv' := [(2, .int (nI (rsK z x (k + 1)))), (5, .int (nI (rsM z k x))), (4, .int (nI (mS z k))), (0, .ref (a)), (1, .int (nI (x))), (3, .int (nI (k)))]) hx hb dX8_reasonOf_96 rfl hl (by decide) rfl (fun ls hl => ?_)
                      refine lv_iinc (v := nI (k + 1)) (lv' := [(3, .int (nI (k + 1))), (2, .int (nI (rsK z x (k + 1)))), (5, .int (nI (rsM z k x))), (4, .int (nI (mS z k))), (0, .ref (a)), (1, .int (nI (x)))]) (k := 5) hx hb dX8_reasonOf_97 hl rfl (nI_add _ _) (by decide) rfl (fun ls hl => ?_)
                      refine lv_goto (tgt := 4) hx hb dX8_reasonOf_100 (by decide) ?_
                      exact ih4 (k + 1) _ (by omega) (by omega) (lv_sub hl [4, 5, 1, 0] rfl)
                    · refine lv_iload hx hb dX8_reasonOf_90 (lv_at hl 0 rfl) ?_
                      refine lv_goto (tgt := 96) hx hb dX8_reasonOf_92 (by decide) ?_
                      refine kx_ci (x := nI (rsM z k x)) (y := nI (rsK z x (k + 1))) (congrArg nI (by rw [rsK_s]; split <;> omega)) ?_
                      refine lv_istore_n (lv' := [(2, .int (nI (rsK z x (k + 1)))), (5, .int (nI (rsM z k x))), (4, .int (nI (mS z k))), (0, .ref (a)), (1, .int (nI (x))), (3, .int (nI (k)))]) hx hb dX8_reasonOf_96 rfl hl (by decide) rfl (fun ls hl => ?_)
                      refine lv_iinc (v := nI (k + 1)) (lv' := [(3, .int (nI (k + 1))), (2, .int (nI (rsK z x (k + 1)))), (5, .int (nI (rsM z k x))), (4, .int (nI (mS z k))), (0, .ref (a)), (1, .int (nI (x)))]) (k := 5) hx hb dX8_reasonOf_97 hl rfl (nI_add _ _) (by decide) rfl (fun ls hl => ?_)
                      refine lv_goto (tgt := 4) hx hb dX8_reasonOf_100 (by decide) ?_
                      exact ih4 (k + 1) _ (by omega) (by omega) (lv_sub hl [4, 5, 1, 0] rfl)
                  · refine lv_iconst (v := nI 3) hx hb dX8_reasonOf_77 (by decide) ?_
                    refine lv_goto (tgt := 82) hx hb dX8_reasonOf_78 (by decide) ?_
                    refine kx_ci (x := nI (3)) (y := nI (rsM z k x)) (congrArg nI (by first | (simp [rsM, *]; done) | (exfalso; omega) | (exfalso; simp_all; done))) ?_
                    refine lv_istore (lv' := [(5, .int (nI (rsM z k x))), (4, .int (nI (mS z k))), (0, .ref (a)), (1, .int (nI (x))), (2, .int (nI (rsK z x k))), (3, .int (nI (k)))]) hx hb dX8_reasonOf_82 hl (by decide) rfl (fun ls hl => ?_)
                    have hr1 := rsM_le z k x
                    have hr2 := rsK_le z x k
                    refine lv_iload hx hb dX8_reasonOf_84 (lv_at hl 0 rfl) ?_
                    refine lv_iload_n hx hb dX8_reasonOf_86 rfl (lv_at hl 4 rfl) ?_
                    refine kn_icmp_ge (tgt := 95) hx hb dX8_reasonOf_87 (by decide) (by omega) (by omega) (fun c_16 => ?_) (fun c_16 => ?_)
                    · refine lv_iload_n hx hb dX8_reasonOf_95 rfl (lv_at hl 4 rfl) ?_
                      refine kx_ci (x := nI (rsK z x k)) (y := nI (rsK z x (k + 1))) (congrArg nI (by rw [rsK_s]; split <;> omega)) ?_
                      refine lv_istore_n (lv' := [(2, .int (nI (rsK z x (k + 1)))), (5, .int (nI (rsM z k x))), (4, .int (nI (mS z k))), (0, .ref (a)), (1, .int (nI (x))), (3, .int (nI (k)))]) hx hb dX8_reasonOf_96 rfl hl (by decide) rfl (fun ls hl => ?_)
                      refine lv_iinc (v := nI (k + 1)) (lv' := [(3, .int (nI (k + 1))), (2, .int (nI (rsK z x (k + 1)))), (5, .int (nI (rsM z k x))), (4, .int (nI (mS z k))), (0, .ref (a)), (1, .int (nI (x)))]) (k := 5) hx hb dX8_reasonOf_97 hl rfl (nI_add _ _) (by decide) rfl (fun ls hl => ?_)
                      refine lv_goto (tgt := 4) hx hb dX8_reasonOf_100 (by decide) ?_
                      exact ih4 (k + 1) _ (by omega) (by omega) (lv_sub hl [4, 5, 1, 0] rfl)
                    · refine lv_iload hx hb dX8_reasonOf_90 (lv_at hl 0 rfl) ?_
                      refine lv_goto (tgt := 96) hx hb dX8_reasonOf_92 (by decide) ?_
                      refine kx_ci (x := nI (rsM z k x)) (y := nI (rsK z x (k + 1))) (congrArg nI (by rw [rsK_s]; split <;> omega)) ?_
                      refine lv_istore_n (lv' := [(2, .int (nI (rsK z x (k + 1)))), (5, .int (nI (rsM z k x))), (4, .int (nI (mS z k))), (0, .ref (a)), (1, .int (nI (x))), (3, .int (nI (k)))]) hx hb dX8_reasonOf_96 rfl hl (by decide) rfl (fun ls hl => ?_)
                      refine lv_iinc (v := nI (k + 1)) (lv' := [(3, .int (nI (k + 1))), (2, .int (nI (rsK z x (k + 1)))), (5, .int (nI (rsM z k x))), (4, .int (nI (mS z k))), (0, .ref (a)), (1, .int (nI (x)))]) (k := 5) hx hb dX8_reasonOf_97 hl rfl (nI_add _ _) (by decide) rfl (fun ls hl => ?_)
                      refine lv_goto (tgt := 4) hx hb dX8_reasonOf_100 (by decide) ?_
                      exact ih4 (k + 1) _ (by omega) (by omega) (lv_sub hl [4, 5, 1, 0] rfl)
              · refine lv_iconst (v := nI 2) hx hb dX8_reasonOf_58 (by decide) ?_
                refine lv_goto (tgt := 82) hx hb dX8_reasonOf_59 (by decide) ?_
                refine kx_ci (x := nI (2)) (y := nI (rsM z k x)) (congrArg nI (by first | (simp [rsM, *]; done) | (exfalso; omega) | (exfalso; simp_all; done))) ?_
                refine lv_istore (lv' := [(5, .int (nI (rsM z k x))), (4, .int (nI (mS z k))), (0, .ref (a)), (1, .int (nI (x))), (2, .int (nI (rsK z x k))), (3, .int (nI (k)))]) hx hb dX8_reasonOf_82 hl (by decide) rfl (fun ls hl => ?_)
                have hr1 := rsM_le z k x
                have hr2 := rsK_le z x k
                refine lv_iload hx hb dX8_reasonOf_84 (lv_at hl 0 rfl) ?_
                refine lv_iload_n hx hb dX8_reasonOf_86 rfl (lv_at hl 4 rfl) ?_
                refine kn_icmp_ge (tgt := 95) hx hb dX8_reasonOf_87 (by decide) (by omega) (by omega) (fun c_17 => ?_) (fun c_17 => ?_)
                · refine lv_iload_n hx hb dX8_reasonOf_95 rfl (lv_at hl 4 rfl) ?_
                  refine kx_ci (x := nI (rsK z x k)) (y := nI (rsK z x (k + 1))) (congrArg nI (by rw [rsK_s]; split <;> omega)) ?_
                  refine lv_istore_n (lv' := [(2, .int (nI (rsK z x (k + 1)))), (5, .int (nI (rsM z k x))), (4, .int (nI (mS z k))), (0, .ref (a)), (1, .int (nI (x))), (3, .int (nI (k)))]) hx hb dX8_reasonOf_96 rfl hl (by decide) rfl (fun ls hl => ?_)
                  refine lv_iinc (v := nI (k + 1)) (lv' := [(3, .int (nI (k + 1))), (2, .int (nI (rsK z x (k + 1)))), (5, .int (nI (rsM z k x))), (4, .int (nI (mS z k))), (0, .ref (a)), (1, .int (nI (x)))]) (k := 5) hx hb dX8_reasonOf_97 hl rfl (nI_add _ _) (by decide) rfl (fun ls hl => ?_)
                  refine lv_goto (tgt := 4) hx hb dX8_reasonOf_100 (by decide) ?_
                  exact ih4 (k + 1) _ (by omega) (by omega) (lv_sub hl [4, 5, 1, 0] rfl)
                · refine lv_iload hx hb dX8_reasonOf_90 (lv_at hl 0 rfl) ?_
                  refine lv_goto (tgt := 96) hx hb dX8_reasonOf_92 (by decide) ?_
                  refine kx_ci (x := nI (rsM z k x)) (y := nI (rsK z x (k + 1))) (congrArg nI (by rw [rsK_s]; split <;> omega)) ?_
                  refine lv_istore_n (lv' := [(2, .int (nI (rsK z x (k + 1)))), (5, .int (nI (rsM z k x))), (4, .int (nI (mS z k))), (0, .ref (a)), (1, .int (nI (x))), (3, .int (nI (k)))]) hx hb dX8_reasonOf_96 rfl hl (by decide) rfl (fun ls hl => ?_)
                  refine lv_iinc (v := nI (k + 1)) (lv' := [(3, .int (nI (k + 1))), (2, .int (nI (rsK z x (k + 1)))), (5, .int (nI (rsM z k x))), (4, .int (nI (mS z k))), (0, .ref (a)), (1, .int (nI (x)))]) (k := 5) hx hb dX8_reasonOf_97 hl rfl (nI_add _ _) (by decide) rfl (fun ls hl => ?_)
                  refine lv_goto (tgt := 4) hx hb dX8_reasonOf_100 (by decide) ?_
                  exact ih4 (k + 1) _ (by omega) (by omega) (lv_sub hl [4, 5, 1, 0] rfl)
        · refine lv_iconst (v := nI 1) hx hb dX8_reasonOf_31 (by decide) ?_
          refine lv_goto (tgt := 82) hx hb dX8_reasonOf_32 (by decide) ?_
          refine kx_ci (x := nI (1)) (y := nI (rsM z k x)) (congrArg nI (by first | (simp [rsM, *]; done) | (exfalso; omega) | (exfalso; simp_all; done))) ?_
          refine lv_istore (lv' := [(5, .int (nI (rsM z k x))), (4, .int (nI (mS z k))), (0, .ref (a)), (1, .int (nI (x))), (2, .int (nI (rsK z x k))), (3, .int (nI (k)))]) hx hb dX8_reasonOf_82 hl (by decide) rfl (fun ls hl => ?_)
          have hr1 := rsM_le z k x
          have hr2 := rsK_le z x k
          refine lv_iload hx hb dX8_reasonOf_84 (lv_at hl 0 rfl) ?_
          refine lv_iload_n hx hb dX8_reasonOf_86 rfl (lv_at hl 4 rfl) ?_
          refine kn_icmp_ge (tgt := 95) hx hb dX8_reasonOf_87 (by decide) (by omega) (by omega) (fun c_18 => ?_) (fun c_18 => ?_)
          · refine lv_iload_n hx hb dX8_reasonOf_95 rfl (lv_at hl 4 rfl) ?_
            refine kx_ci (x := nI (rsK z x k)) (y := nI (rsK z x (k + 1))) (congrArg nI (by rw [rsK_s]; split <;> omega)) ?_
            refine lv_istore_n (lv' := [(2, .int (nI (rsK z x (k + 1)))), (5, .int (nI (rsM z k x))), (4, .int (nI (mS z k))), (0, .ref (a)), (1, .int (nI (x))), (3, .int (nI (k)))]) hx hb dX8_reasonOf_96 rfl hl (by decide) rfl (fun ls hl => ?_)
            refine lv_iinc (v := nI (k + 1)) (lv' := [(3, .int (nI (k + 1))), (2, .int (nI (rsK z x (k + 1)))), (5, .int (nI (rsM z k x))), (4, .int (nI (mS z k))), (0, .ref (a)), (1, .int (nI (x)))]) (k := 5) hx hb dX8_reasonOf_97 hl rfl (nI_add _ _) (by decide) rfl (fun ls hl => ?_)
            refine lv_goto (tgt := 4) hx hb dX8_reasonOf_100 (by decide) ?_
            exact ih4 (k + 1) _ (by omega) (by omega) (lv_sub hl [4, 5, 1, 0] rfl)
          · refine lv_iload hx hb dX8_reasonOf_90 (lv_at hl 0 rfl) ?_
            refine lv_goto (tgt := 96) hx hb dX8_reasonOf_92 (by decide) ?_
            refine kx_ci (x := nI (rsM z k x)) (y := nI (rsK z x (k + 1))) (congrArg nI (by rw [rsK_s]; split <;> omega)) ?_
            refine lv_istore_n (lv' := [(2, .int (nI (rsK z x (k + 1)))), (5, .int (nI (rsM z k x))), (4, .int (nI (mS z k))), (0, .ref (a)), (1, .int (nI (x))), (3, .int (nI (k)))]) hx hb dX8_reasonOf_96 rfl hl (by decide) rfl (fun ls hl => ?_)
            refine lv_iinc (v := nI (k + 1)) (lv' := [(3, .int (nI (k + 1))), (2, .int (nI (rsK z x (k + 1)))), (5, .int (nI (rsM z k x))), (4, .int (nI (mS z k))), (0, .ref (a)), (1, .int (nI (x)))]) (k := 5) hx hb dX8_reasonOf_97 hl rfl (nI_add _ _) (by decide) rfl (fun ls hl => ?_)
            refine lv_goto (tgt := 4) hx hb dX8_reasonOf_100 (by decide) ?_
            exact ih4 (k + 1) _ (by omega) (by omega) (lv_sub hl [4, 5, 1, 0] rfl)
  exact J4 _ 0 _ (Nat.lt_succ_self _) (by omega) (lv_sub hl [2, 3, 1, 0] rfl)
set_option maxHeartbeats 1500000 in
set_option maxRecDepth 100000 in
theorem k_X8_waits (l : Launch) (D : va_G) (cs : Nat → ClassId) (a : Nat) (z : Nat → Int32) (lt er : Nat) (hI : Inv z) (hm : lt < Mn z) (hm2 : er < Mn z) : Met l yX8_waits wsX8_waits ({ frames := 3, cells := 0, slots := 0, locals := 69 } : Room) (PcK D cs [.ref (a), .int (nI (lt)), .int (nI (er))] (fun H => MdC D (cs 0) a z H)) (QcP (some (.int (bI (waB z lt er))))) 0 0 nowhere := by
  refine kx_met (cc := cX8_waits) (maxL := 7) (ret := (some .boolean)) (by decide) rfl (Nat.le_of_ble_eq_true rfl) ?_
  intro p e s m args below meth c hx hb hml hrt hts hown hlk hK hN hP ls hl
  have hl : lv_has ls 7 [(0, .ref (a)), (1, .int (nI (lt))), (2, .int (nI (er)))] := hl
  have hM := hP
  have h24 := hI.M24
  have h6 := hI.R6
  have hs3 := hI.s3 hm2
  have hc16 := hI.c16 hm2
  have hc1 := hI.c1 hm2
  refine lv_aload_n hx hb dX8_waits_0 rfl (lv_at hl 0 rfl) ?_
  refine lv_iload_n hx hb dX8_waits_1 rfl (lv_at hl 2 rfl) ?_
  refine lv_iconst (v := nI 5) hx hb dX8_waits_2 (by decide) ?_
  refine kx_retP (va_runV (As := [.int (nI (er)), .int (nI (5))]) (rest := []) ⟨hx, hb, hml, hown, hts⟩ (k_X8_movePart l D cs a z er 5 (by first | assumption | omega) (by first | assumption | omega)) (cwV 2 hts gX8_waits_X8_movePart rfl rfl rfl (by decide +kernel) ⟨Nat.le_of_ble_eq_true rfl, Nat.le_of_ble_eq_true rfl⟩) (kx_preV hK hN hM.1 rfl hM) rfl rfl hl.1 rfl (lv_room (Nat.le_of_ble_eq_true rfl)) dX8_waits_3 ⟨Nat.le_of_ble_eq_true rfl, Nat.le_of_ble_eq_true rfl⟩) ?_
  refine kx_ci (y := nI (mS z er)) (Inv.m5 hI (by first | assumption | omega)) ?_
  refine lv_istore_n (lv' := [(3, .int (nI (mS z er))), (0, .ref (a)), (1, .int (nI (lt))), (2, .int (nI (er)))]) hx hb dX8_waits_6 rfl hl (by decide) rfl (fun ls hl => ?_)
  refine lv_iconst (v := nI 0) hx hb dX8_waits_7 (by decide) ?_
  refine lv_istore (lv' := [(4, .int (nI (0))), (3, .int (nI (mS z er))), (0, .ref (a)), (1, .int (nI (lt))), (2, .int (nI (er)))]) hx hb dX8_waits_8 hl (by decide) rfl (fun ls hl => ?_)
  refine lv_iconst (v := nI 0) hx hb dX8_waits_10 (by decide) ?_
  refine lv_istore (lv' := [(5, .int (nI (0))), (4, .int (nI (0))), (3, .int (nI (mS z er))), (0, .ref (a)), (1, .int (nI (lt))), (2, .int (nI (er)))]) hx hb dX8_waits_11 hl (by decide) rfl (fun ls hl => ?_)
  have J13 : ∀ (n13 : Nat) (k : Nat) (ls : Array Slot), (mC z er - k) < n13 → (k ≤ mC z er) → (k = 0 ∨ mS z er ≠ 3) → lv_has ls 7 [(0, .ref (a)), (1, .int (nI (lt))), (2, .int (nI (er))), (3, .int (nI (mS z er))), (4, .int (bI (waK z lt er k))), (5, .int (nI (k)))] → W p l e ({ frames := 3, cells := 0, slots := 0, locals := 69 } : Room) s m args below meth c s.heap [] 0 0 (MQ below (QcP (some (.int (bI (waB z lt er))))) args s 0 0 nowhere) (F0 m 13 ls []) := by
    intro n13; induction n13 with
    | zero => intro k ls hmu13 hk hs hl; exact absurd hmu13 (Nat.not_lt_zero _)
    | succ n13 ih13 =>
      intro k ls hmu13 hk hs hl
      refine lv_iload hx hb dX8_waits_13 (lv_at hl 5 rfl) ?_
      refine lv_aload_n hx hb dX8_waits_15 rfl (lv_at hl 0 rfl) ?_
      refine lv_iload_n hx hb dX8_waits_16 rfl (lv_at hl 2 rfl) ?_
      refine lv_iconst (v := nI 4) hx hb dX8_waits_17 (by decide) ?_
      refine kx_retP (va_runV (As := [.int (nI (er)), .int (nI (4))]) (rest := [.int (nI (k))]) ⟨hx, hb, hml, hown, hts⟩ (k_X8_movePart l D cs a z er 4 (by first | assumption | omega) (by first | assumption | omega)) (cwV 2 hts gX8_waits_X8_movePart rfl rfl rfl (by decide +kernel) ⟨Nat.le_of_ble_eq_true rfl, Nat.le_of_ble_eq_true rfl⟩) (kx_preV hK hN hM.1 rfl hM) rfl rfl hl.1 rfl (lv_room (Nat.le_of_ble_eq_true rfl)) dX8_waits_18 ⟨Nat.le_of_ble_eq_true rfl, Nat.le_of_ble_eq_true rfl⟩) ?_
      refine kx_ci (y := nI (mC z er)) (Inv.m4 hI (by first | assumption | omega)) ?_
      refine kn_icmp_ge (tgt := 108) hx hb dX8_waits_21 (by decide) (by omega) (by omega) (fun c_1 => ?_) (fun c_1 => ?_)
      · refine lv_iload hx hb dX8_waits_108 (lv_at hl 4 rfl) ?_
        exact kx_zretP hx hb hrt hlk (congrArg bI (waB_ret hs (by omega) hc1)) dX8_waits_110
      · refine lv_iload_n hx hb dX8_waits_24 rfl (lv_at hl 3 rfl) ?_
        refine lv_iconst (v := nI 3) hx hb dX8_waits_25 (by decide) ?_
        refine kn_icmp_eq (tgt := 108) hx hb dX8_waits_26 (by decide) (by omega) (by decide) (fun c_2 => ?_) (fun c_2 => ?_)
        · refine lv_iload hx hb dX8_waits_108 (lv_at hl 4 rfl) ?_
          exact kx_zretP hx hb hrt hlk (congrArg bI (waB_ret hs (by omega) hc1)) dX8_waits_110
        · refine lv_iload hx hb dX8_waits_29 (lv_at hl 4 rfl) ?_
          refine kb_if_ne (tgt := 49) hx hb dX8_waits_31 (by decide) (fun c_3 => ?_) (fun c_3 => ?_)
          · refine lv_iconst (v := nI 1) hx hb dX8_waits_49 (by decide) ?_
            refine lv_goto (tgt := 54) hx hb dX8_waits_50 (by decide) ?_
            refine kx_ci (x := nI (1)) (y := bI (waK z lt er k || wrB z lt (srcC z er k))) (by first | (simp [bI_t, bI_f, *]; done) | (exfalso; omega) | (exfalso; simp_all; done)) ?_
            refine lv_istore (lv' := [(4, .int (bI (waK z lt er k || wrB z lt (srcC z er k)))), (0, .ref (a)), (1, .int (nI (lt))), (2, .int (nI (er))), (3, .int (nI (mS z er))), (5, .int (nI (k)))]) hx hb dX8_waits_54 hl (by decide) rfl (fun ls hl => ?_)
            refine lv_aload_n hx hb dX8_waits_56 rfl (lv_at hl 1 rfl) ?_
            refine lv_iload_n hx hb dX8_waits_57 rfl (lv_at hl 3 rfl) ?_
            refine lv_iload hx hb dX8_waits_58 (lv_at hl 5 rfl) ?_
            refine kx_retP (va_runV (As := [.int (nI (er)), .int (nI (k))]) (rest := []) ⟨hx, hb, hml, hown, hts⟩ (k_X8_targetCell l D cs a z er k hI (by first | assumption | omega) (by first | assumption | omega)) (cwV 2 hts gX8_waits_X8_targetCell rfl rfl rfl (by decide +kernel) ⟨Nat.le_of_ble_eq_true rfl, Nat.le_of_ble_eq_true rfl⟩) (kx_preV hK hN hM.1 rfl hM) rfl rfl hl.1 rfl (lv_room (Nat.le_of_ble_eq_true rfl)) dX8_waits_60 ⟨Nat.le_of_ble_eq_true rfl, Nat.le_of_ble_eq_true rfl⟩) ?_
            have ht48 := hI.tgt48 hm2 k
            refine lv_istore (lv' := [(6, .int (nI (tgtC z er k))), (4, .int (bI (waK z lt er k || wrB z lt (srcC z er k)))), (0, .ref (a)), (1, .int (nI (lt))), (2, .int (nI (er))), (3, .int (nI (mS z er))), (5, .int (nI (k)))]) hx hb dX8_waits_63 hl (by decide) rfl (fun ls hl => ?_)
            refine lv_iload hx hb dX8_waits_65 (lv_at hl 1 rfl) ?_
            refine kb_if_ne (tgt := 95) hx hb dX8_waits_67 (by decide) (fun c_4 => ?_) (fun c_4 => ?_)
            · refine lv_iconst (v := nI 1) hx hb dX8_waits_95 (by decide) ?_
              refine lv_goto (tgt := 100) hx hb dX8_waits_96 (by decide) ?_
              refine kx_ci (x := nI (1)) (y := bI (waK z lt er (k + 1))) (by rw [waK_s, ← Bool.or_assoc]; first | (simp [bI_t, bI_f, *]; done) | (exfalso; omega) | (exfalso; simp_all; done)) ?_
              refine lv_istore (lv' := [(4, .int (bI (waK z lt er (k + 1)))), (6, .int (nI (tgtC z er k))), (0, .ref (a)), (1, .int (nI (lt))), (2, .int (nI (er))), (3, .int (nI (mS z er))), (5, .int (nI (k)))]) hx hb dX8_waits_100 hl (by decide) rfl (fun ls hl => ?_)
              refine lv_iinc (v := nI (k + 1)) (lv' := [(5, .int (nI (k + 1))), (4, .int (bI (waK z lt er (k + 1)))), (6, .int (nI (tgtC z er k))), (0, .ref (a)), (1, .int (nI (lt))), (2, .int (nI (er))), (3, .int (nI (mS z er)))]) (k := 6) hx hb dX8_waits_102 hl rfl (nI_add _ _) (by decide) rfl (fun ls hl => ?_)
              refine lv_goto (tgt := 13) hx hb dX8_waits_105 (by decide) ?_
              exact ih13 (k + 1) _ (by omega) (by omega) (Or.inr (by omega)) (lv_sub hl [3, 4, 5, 6, 1, 0] rfl)
            · refine lv_iload_n hx hb dX8_waits_70 rfl (lv_at hl 5 rfl) ?_
              refine lv_iconst (v := nI 2) hx hb dX8_waits_71 (by decide) ?_
              refine kn_icmp_eq (tgt := 99) hx hb dX8_waits_72 (by decide) (by omega) (by decide) (fun c_5 => ?_) (fun c_5 => ?_)
              · refine lv_iconst (v := nI 0) hx hb dX8_waits_99 (by decide) ?_
                refine kx_ci (x := nI (0)) (y := bI (waK z lt er (k + 1))) (by rw [waK_s, ← Bool.or_assoc]; first | (simp [bI_t, bI_f, *]; done) | (exfalso; omega) | (exfalso; simp_all; done)) ?_
                refine lv_istore (lv' := [(4, .int (bI (waK z lt er (k + 1)))), (6, .int (nI (tgtC z er k))), (0, .ref (a)), (1, .int (nI (lt))), (2, .int (nI (er))), (3, .int (nI (mS z er))), (5, .int (nI (k)))]) hx hb dX8_waits_100 hl (by decide) rfl (fun ls hl => ?_)
                refine lv_iinc (v := nI (k + 1)) (lv' := [(5, .int (nI (k + 1))), (4, .int (bI (waK z lt er (k + 1)))), (6, .int (nI (tgtC z er k))), (0, .ref (a)), (1, .int (nI (lt))), (2, .int (nI (er))), (3, .int (nI (mS z er)))]) (k := 6) hx hb dX8_waits_102 hl rfl (nI_add _ _) (by decide) rfl (fun ls hl => ?_)
                refine lv_goto (tgt := 13) hx hb dX8_waits_105 (by decide) ?_
                exact ih13 (k + 1) _ (by omega) (by omega) (Or.inr (by omega)) (lv_sub hl [3, 4, 5, 6, 1, 0] rfl)
              · refine lv_aload_n hx hb dX8_waits_75 rfl (lv_at hl 2 rfl) ?_
                refine lv_iload_n hx hb dX8_waits_76 rfl (lv_at hl 3 rfl) ?_
                refine lv_iload hx hb dX8_waits_77 (lv_at hl 0 rfl) ?_
                refine kx_retP (va_runV (As := [.int (nI (lt)), .int (nI (tgtC z er k))]) (rest := []) ⟨hx, hb, hml, hown, hts⟩ (k_X8_reads l D cs a z lt (tgtC z er k) hI (by first | assumption | omega) (by first | assumption | omega)) (cwV 2 hts gX8_waits_X8_reads rfl rfl rfl (by decide +kernel) ⟨Nat.le_of_ble_eq_true rfl, Nat.le_of_ble_eq_true rfl⟩) (kx_preV hK hN hM.1 rfl hM) rfl rfl hl.1 rfl (lv_room (Nat.le_of_ble_eq_true rfl)) dX8_waits_79 ⟨Nat.le_of_ble_eq_true rfl, Nat.le_of_ble_eq_true rfl⟩) ?_
                refine kb_if_ne (tgt := 95) hx hb dX8_waits_82 (by decide) (fun c_6 => ?_) (fun c_6 => ?_)
                · refine lv_iconst (v := nI 1) hx hb dX8_waits_95 (by decide) ?_
                  refine lv_goto (tgt := 100) hx hb dX8_waits_96 (by decide) ?_
                  refine kx_ci (x := nI (1)) (y := bI (waK z lt er (k + 1))) (by rw [waK_s, ← Bool.or_assoc]; first | (simp [bI_t, bI_f, *]; done) | (exfalso; omega) | (exfalso; simp_all; done)) ?_
                  refine lv_istore (lv' := [(4, .int (bI (waK z lt er (k + 1)))), (6, .int (nI (tgtC z er k))), (0, .ref (a)), (1, .int (nI (lt))), (2, .int (nI (er))), (3, .int (nI (mS z er))), (5, .int (nI (k)))]) hx hb dX8_waits_100 hl (by decide) rfl (fun ls hl => ?_)
                  refine lv_iinc (v := nI (k + 1)) (lv' := [(5, .int (nI (k + 1))), (4, .int (bI (waK z lt er (k + 1)))), (6, .int (nI (tgtC z er k))), (0, .ref (a)), (1, .int (nI (lt))), (2, .int (nI (er))), (3, .int (nI (mS z er)))]) (k := 6) hx hb dX8_waits_102 hl rfl (nI_add _ _) (by decide) rfl (fun ls hl => ?_)
                  refine lv_goto (tgt := 13) hx hb dX8_waits_105 (by decide) ?_
                  exact ih13 (k + 1) _ (by omega) (by omega) (Or.inr (by omega)) (lv_sub hl [3, 4, 5, 6, 1, 0] rfl)
                · refine lv_aload_n hx hb dX8_waits_85 rfl (lv_at hl 2 rfl) ?_
                  refine lv_iload_n hx hb dX8_waits_86 rfl (lv_at hl 3 rfl) ?_
                  refine lv_iload hx hb dX8_waits_87 (lv_at hl 0 rfl) ?_
                  refine kx_retP (va_runV (As := [.int (nI (lt)), .int (nI (tgtC z er k))]) (rest := []) ⟨hx, hb, hml, hown, hts⟩ (k_X8_writes l D cs a z lt (tgtC z er k) hI (by first | assumption | omega) (by first | assumption | omega)) (cwV 2 hts gX8_waits_X8_writes rfl rfl rfl (by decide +kernel) ⟨Nat.le_of_ble_eq_true rfl, Nat.le_of_ble_eq_true rfl⟩) (kx_preV hK hN hM.1 rfl hM) rfl rfl hl.1 rfl (lv_room (Nat.le_of_ble_eq_true rfl)) dX8_waits_89 ⟨Nat.le_of_ble_eq_true rfl, Nat.le_of_ble_eq_true rfl⟩) ?_
                  refine kb_if_eq (tgt := 99) hx hb dX8_waits_92 (by decide) (fun c_7 => ?_) (fun c_7 => ?_)
                  · refine lv_iconst (v := nI 0) hx hb dX8_waits_99 (by decide) ?_
                    refine kx_ci (x := nI (0)) (y := bI (waK z lt er (k + 1))) (by rw [waK_s, ← Bool.or_assoc]; first | (simp [bI_t, bI_f, *]; done) | (exfalso; omega) | (exfalso; simp_all; done)) ?_
                    refine lv_istore (lv' := [(4, .int (bI (waK z lt er (k + 1)))), (6, .int (nI (tgtC z er k))), (0, .ref (a)), (1, .int (nI (lt))), (2, .int (nI (er))), (3, .int (nI (mS z er))), (5, .int (nI (k)))]) hx hb dX8_waits_100 hl (by decide) rfl (fun ls hl => ?_)
                    refine lv_iinc (v := nI (k + 1)) (lv' := [(5, .int (nI (k + 1))), (4, .int (bI (waK z lt er (k + 1)))), (6, .int (nI (tgtC z er k))), (0, .ref (a)), (1, .int (nI (lt))), (2, .int (nI (er))), (3, .int (nI (mS z er)))]) (k := 6) hx hb dX8_waits_102 hl rfl (nI_add _ _) (by decide) rfl (fun ls hl => ?_)
                    refine lv_goto (tgt := 13) hx hb dX8_waits_105 (by decide) ?_
                    exact ih13 (k + 1) _ (by omega) (by omega) (Or.inr (by omega)) (lv_sub hl [3, 4, 5, 6, 1, 0] rfl)
                  · refine lv_iconst (v := nI 1) hx hb dX8_waits_95 (by decide) ?_
                    refine lv_goto (tgt := 100) hx hb dX8_waits_96 (by decide) ?_
                    refine kx_ci (x := nI (1)) (y := bI (waK z lt er (k + 1))) (by rw [waK_s, ← Bool.or_assoc]; first | (simp [bI_t, bI_f, *]; done) | (exfalso; omega) | (exfalso; simp_all; done)) ?_
                    refine lv_istore (lv' := [(4, .int (bI (waK z lt er (k + 1)))), (6, .int (nI (tgtC z er k))), (0, .ref (a)), (1, .int (nI (lt))), (2, .int (nI (er))), (3, .int (nI (mS z er))), (5, .int (nI (k)))]) hx hb dX8_waits_100 hl (by decide) rfl (fun ls hl => ?_)
                    refine lv_iinc (v := nI (k + 1)) (lv' := [(5, .int (nI (k + 1))), (4, .int (bI (waK z lt er (k + 1)))), (6, .int (nI (tgtC z er k))), (0, .ref (a)), (1, .int (nI (lt))), (2, .int (nI (er))), (3, .int (nI (mS z er)))]) (k := 6) hx hb dX8_waits_102 hl rfl (nI_add _ _) (by decide) rfl (fun ls hl => ?_)
                    refine lv_goto (tgt := 13) hx hb dX8_waits_105 (by decide) ?_
                    exact ih13 (k + 1) _ (by omega) (by omega) (Or.inr (by omega)) (lv_sub hl [3, 4, 5, 6, 1, 0] rfl)
          · refine lv_aload_n hx hb dX8_waits_34 rfl (lv_at hl 0 rfl) ?_
            refine lv_iload_n hx hb dX8_waits_35 rfl (lv_at hl 1 rfl) ?_
            refine lv_aload_n hx hb dX8_waits_36 rfl (lv_at hl 0 rfl) ?_
            refine lv_iload_n hx hb dX8_waits_37 rfl (lv_at hl 2 rfl) ?_
            refine lv_iload hx hb dX8_waits_38 (lv_at hl 5 rfl) ?_
            refine kx_retP (va_runV (As := [.int (nI (er)), .int (nI (k))]) (rest := [.int (nI (lt)), .ref (a)]) ⟨hx, hb, hml, hown, hts⟩ (k_X8_sourceCell l D cs a z er k hI (by first | assumption | omega) (by first | assumption | omega)) (cwV 2 hts gX8_waits_X8_sourceCell rfl rfl rfl (by decide +kernel) ⟨Nat.le_of_ble_eq_true rfl, Nat.le_of_ble_eq_true rfl⟩) (kx_preV hK hN hM.1 rfl hM) rfl rfl hl.1 rfl (lv_room (Nat.le_of_ble_eq_true rfl)) dX8_waits_40 ⟨Nat.le_of_ble_eq_true rfl, Nat.le_of_ble_eq_true rfl⟩) ?_
            have hs48 := hI.src48 hm2 k
            refine kx_retP (va_runV (As := [.int (nI (lt)), .int (nI (srcC z er k))]) (rest := []) ⟨hx, hb, hml, hown, hts⟩ (k_X8_writes l D cs a z lt (srcC z er k) hI (by first | assumption | omega) (by first | assumption | omega)) (cwV 2 hts gX8_waits_X8_writes rfl rfl rfl (by decide +kernel) ⟨Nat.le_of_ble_eq_true rfl, Nat.le_of_ble_eq_true rfl⟩) (kx_preV hK hN hM.1 rfl hM) rfl rfl hl.1 rfl (lv_room (Nat.le_of_ble_eq_true rfl)) dX8_waits_43 ⟨Nat.le_of_ble_eq_true rfl, Nat.le_of_ble_eq_true rfl⟩) ?_
            refine kb_if_eq (tgt := 53) hx hb dX8_waits_46 (by decide) (fun c_8 => ?_) (fun c_8 => ?_)
            · refine lv_iconst (v := nI 0) hx hb dX8_waits_53 (by decide) ?_
              refine kx_ci (x := nI (0)) (y := bI (waK z lt er k || wrB z lt (srcC z er k))) (by first | (simp [bI_t, bI_f, *]; done) | (exfalso; omega) | (exfalso; simp_all; done)) ?_
              refine lv_istore (lv' := [(4, .int (bI (waK z lt er k || wrB z lt (srcC z er k)))), (0, .ref (a)), (1, .int (nI (lt))), (2, .int (nI (er))), (3, .int (nI (mS z er))), (5, .int (nI (k)))]) hx hb dX8_waits_54 hl (by decide) rfl (fun ls hl => ?_)
              refine lv_aload_n hx hb dX8_waits_56 rfl (lv_at hl 1 rfl) ?_
              refine lv_iload_n hx hb dX8_waits_57 rfl (lv_at hl 3 rfl) ?_
              refine lv_iload hx hb dX8_waits_58 (lv_at hl 5 rfl) ?_
              refine kx_retP (va_runV (As := [.int (nI (er)), .int (nI (k))]) (rest := []) ⟨hx, hb, hml, hown, hts⟩ (k_X8_targetCell l D cs a z er k hI (by first | assumption | omega) (by first | assumption | omega)) (cwV 2 hts gX8_waits_X8_targetCell rfl rfl rfl (by decide +kernel) ⟨Nat.le_of_ble_eq_true rfl, Nat.le_of_ble_eq_true rfl⟩) (kx_preV hK hN hM.1 rfl hM) rfl rfl hl.1 rfl (lv_room (Nat.le_of_ble_eq_true rfl)) dX8_waits_60 ⟨Nat.le_of_ble_eq_true rfl, Nat.le_of_ble_eq_true rfl⟩) ?_
              have ht48 := hI.tgt48 hm2 k
              refine lv_istore (lv' := [(6, .int (nI (tgtC z er k))), (4, .int (bI (waK z lt er k || wrB z lt (srcC z er k)))), (0, .ref (a)), (1, .int (nI (lt))), (2, .int (nI (er))), (3, .int (nI (mS z er))), (5, .int (nI (k)))]) hx hb dX8_waits_63 hl (by decide) rfl (fun ls hl => ?_)
              refine lv_iload hx hb dX8_waits_65 (lv_at hl 1 rfl) ?_
              refine kb_if_ne (tgt := 95) hx hb dX8_waits_67 (by decide) (fun c_9 => ?_) (fun c_9 => ?_)
              · refine lv_iconst (v := nI 1) hx hb dX8_waits_95 (by decide) ?_
                refine lv_goto (tgt := 100) hx hb dX8_waits_96 (by decide) ?_
                refine kx_ci (x := nI (1)) (y := bI (waK z lt er (k + 1))) (by rw [waK_s, ← Bool.or_assoc]; first | (simp [bI_t, bI_f, *]; done) | (exfalso; omega) | (exfalso; simp_all; done)) ?_
                refine lv_istore (lv' := [(4, .int (bI (waK z lt er (k + 1)))), (6, .int (nI (tgtC z er k))), (0, .ref (a)), (1, .int (nI (lt))), (2, .int (nI (er))), (3, .int (nI (mS z er))), (5, .int (nI (k)))]) hx hb dX8_waits_100 hl (by decide) rfl (fun ls hl => ?_)
                refine lv_iinc (v := nI (k + 1)) (lv' := [(5, .int (nI (k + 1))), (4, .int (bI (waK z lt er (k + 1)))), (6, .int (nI (tgtC z er k))), (0, .ref (a)), (1, .int (nI (lt))), (2, .int (nI (er))), (3, .int (nI (mS z er)))]) (k := 6) hx hb dX8_waits_102 hl rfl (nI_add _ _) (by decide) rfl (fun ls hl => ?_)
                refine lv_goto (tgt := 13) hx hb dX8_waits_105 (by decide) ?_
                exact ih13 (k + 1) _ (by omega) (by omega) (Or.inr (by omega)) (lv_sub hl [3, 4, 5, 6, 1, 0] rfl)
              · refine lv_iload_n hx hb dX8_waits_70 rfl (lv_at hl 5 rfl) ?_
                refine lv_iconst (v := nI 2) hx hb dX8_waits_71 (by decide) ?_
                refine kn_icmp_eq (tgt := 99) hx hb dX8_waits_72 (by decide) (by omega) (by decide) (fun c_10 => ?_) (fun c_10 => ?_)
                · refine lv_iconst (v := nI 0) hx hb dX8_waits_99 (by decide) ?_
                  refine kx_ci (x := nI (0)) (y := bI (waK z lt er (k + 1))) (by rw [waK_s, ← Bool.or_assoc]; first | (simp [bI_t, bI_f, *]; done) | (exfalso; omega) | (exfalso; simp_all; done)) ?_
                  refine lv_istore (lv' := [(4, .int (bI (waK z lt er (k + 1)))), (6, .int (nI (tgtC z er k))), (0, .ref (a)), (1, .int (nI (lt))), (2, .int (nI (er))), (3, .int (nI (mS z er))), (5, .int (nI (k)))]) hx hb dX8_waits_100 hl (by decide) rfl (fun ls hl => ?_)
                  refine lv_iinc (v := nI (k + 1)) (lv' := [(5, .int (nI (k + 1))), (4, .int (bI (waK z lt er (k + 1)))), (6, .int (nI (tgtC z er k))), (0, .ref (a)), (1, .int (nI (lt))), (2, .int (nI (er))), (3, .int (nI (mS z er)))]) (k := 6) hx hb dX8_waits_102 hl rfl (nI_add _ _) (by decide) rfl (fun ls hl => ?_)
                  refine lv_goto (tgt := 13) hx hb dX8_waits_105 (by decide) ?_
                  exact ih13 (k + 1) _ (by omega) (by omega) (Or.inr (by omega)) (lv_sub hl [3, 4, 5, 6, 1, 0] rfl)
                · refine lv_aload_n hx hb dX8_waits_75 rfl (lv_at hl 2 rfl) ?_
                  refine lv_iload_n hx hb dX8_waits_76 rfl (lv_at hl 3 rfl) ?_
                  refine lv_iload hx hb dX8_waits_77 (lv_at hl 0 rfl) ?_
                  refine kx_retP (va_runV (As := [.int (nI (lt)), .int (nI (tgtC z er k))]) (rest := []) ⟨hx, hb, hml, hown, hts⟩ (k_X8_reads l D cs a z lt (tgtC z er k) hI (by first | assumption | omega) (by first | assumption | omega)) (cwV 2 hts gX8_waits_X8_reads rfl rfl rfl (by decide +kernel) ⟨Nat.le_of_ble_eq_true rfl, Nat.le_of_ble_eq_true rfl⟩) (kx_preV hK hN hM.1 rfl hM) rfl rfl hl.1 rfl (lv_room (Nat.le_of_ble_eq_true rfl)) dX8_waits_79 ⟨Nat.le_of_ble_eq_true rfl, Nat.le_of_ble_eq_true rfl⟩) ?_
                  refine kb_if_ne (tgt := 95) hx hb dX8_waits_82 (by decide) (fun c_11 => ?_) (fun c_11 => ?_)
                  · refine lv_iconst (v := nI 1) hx hb dX8_waits_95 (by decide) ?_
                    refine lv_goto (tgt := 100) hx hb dX8_waits_96 (by decide) ?_
                    refine kx_ci (x := nI (1)) (y := bI (waK z lt er (k + 1))) (by rw [waK_s, ← Bool.or_assoc]; first | (simp [bI_t, bI_f, *]; done) | (exfalso; omega) | (exfalso; simp_all; done)) ?_
                    refine lv_istore (lv' := [(4, .int (bI (waK z lt er (k + 1)))), (6, .int (nI (tgtC z er k))), (0, .ref (a)), (1, .int (nI (lt))), (2, .int (nI (er))), (3, .int (nI (mS z er))), (5, .int (nI (k)))]) hx hb dX8_waits_100 hl (by decide) rfl (fun ls hl => ?_)
                    refine lv_iinc (v := nI (k + 1)) (lv' := [(5, .int (nI (k + 1))), (4, .int (bI (waK z lt er (k + 1)))), (6, .int (nI (tgtC z er k))), (0, .ref (a)), (1, .int (nI (lt))), (2, .int (nI (er))), (3, .int (nI (mS z er)))]) (k := 6) hx hb dX8_waits_102 hl rfl (nI_add _ _) (by decide) rfl (fun ls hl => ?_)
                    refine lv_goto (tgt := 13) hx hb dX8_waits_105 (by decide) ?_
                    exact ih13 (k + 1) _ (by omega) (by omega) (Or.inr (by omega)) (lv_sub hl [3, 4, 5, 6, 1, 0] rfl)
                  · refine lv_aload_n hx hb dX8_waits_85 rfl (lv_at hl 2 rfl) ?_
                    refine lv_iload_n hx hb dX8_waits_86 rfl (lv_at hl 3 rfl) ?_
                    refine lv_iload hx hb dX8_waits_87 (lv_at hl 0 rfl) ?_
                    refine kx_retP (va_runV (As := [.int (nI (lt)), .int (nI (tgtC z er k))]) (rest := []) ⟨hx, hb, hml, hown, hts⟩ (k_X8_writes l D cs a z lt (tgtC z er k) hI (by first | assumption | omega) (by first | assumption | omega)) (cwV 2 hts gX8_waits_X8_writes rfl rfl rfl (by decide +kernel) ⟨Nat.le_of_ble_eq_true rfl, Nat.le_of_ble_eq_true rfl⟩) (kx_preV hK hN hM.1 rfl hM) rfl rfl hl.1 rfl (lv_room (Nat.le_of_ble_eq_true rfl)) dX8_waits_89 ⟨Nat.le_of_ble_eq_true rfl, Nat.le_of_ble_eq_true rfl⟩) ?_
                    refine kb_if_eq (tgt := 99) hx hb dX8_waits_92 (by decide) (fun c_12 => ?_) (fun c_12 => ?_)
                    · refine lv_iconst (v := nI 0) hx hb dX8_waits_99 (by decide) ?_
                      refine kx_ci (x := nI (0)) (y := bI (waK z lt er (k + 1))) (by rw [waK_s, ← Bool.or_assoc]; first | (simp [bI_t, bI_f, *]; done) | (exfalso; omega) | (exfalso; simp_all; done)) ?_
                      refine lv_istore (lv' := [(4, .int (bI (waK z lt er (k + 1)))), (6, .int (nI (tgtC z er k))), (0, .ref (a)), (1, .int (nI (lt))), (2, .int (nI (er))), (3, .int (nI (mS z er))), (5, .int (nI (k)))]) hx hb dX8_waits_100 hl (by decide) rfl (fun ls hl => ?_)
                      refine lv_iinc (v := nI (k + 1)) (lv' := [(5, .int (nI (k + 1))), (4, .int (bI (waK z lt er (k + 1)))), (6, .int (nI (tgtC z er k))), (0, .ref (a)), (1, .int (nI (lt))), (2, .int (nI (er))), (3, .int (nI (mS z er)))]) (k := 6) hx hb dX8_waits_102 hl rfl (nI_add _ _) (by decide) rfl (fun ls hl => ?_)
                      refine lv_goto (tgt := 13) hx hb dX8_waits_105 (by decide) ?_
                      exact ih13 (k + 1) _ (by omega) (by omega) (Or.inr (by omega)) (lv_sub hl [3, 4, 5, 6, 1, 0] rfl)
                    · refine lv_iconst (v := nI 1) hx hb dX8_waits_95 (by decide) ?_
                      refine lv_goto (tgt := 100) hx hb dX8_waits_96 (by decide) ?_
                      refine kx_ci (x := nI (1)) (y := bI (waK z lt er (k + 1))) (by rw [waK_s, ← Bool.or_assoc]; first | (simp [bI_t, bI_f, *]; done) | (exfalso; omega) | (exfalso; simp_all; done)) ?_
                      refine lv_istore (lv' := [(4, .int (bI (waK z lt er (k + 1)))), (6, .int (nI (tgtC z er k))), (0, .ref (a)), (1, .int (nI (lt))), (2, .int (nI (er))), (3, .int (nI (mS z er))), (5, .int (nI (k)))]) hx hb dX8_waits_100 hl (by decide) rfl (fun ls hl => ?_)
                      refine lv_iinc (v := nI (k + 1)) (lv' := [(5, .int (nI (k + 1))), (4, .int (bI (waK z lt er (k + 1)))), (6, .int (nI (tgtC z er k))), (0, .ref (a)), (1, .int (nI (lt))), (2, .int (nI (er))), (3, .int (nI (mS z er)))]) (k := 6) hx hb dX8_waits_102 hl rfl (nI_add _ _) (by decide) rfl (fun ls hl => ?_)
                      refine lv_goto (tgt := 13) hx hb dX8_waits_105 (by decide) ?_
                      exact ih13 (k + 1) _ (by omega) (by omega) (Or.inr (by omega)) (lv_sub hl [3, 4, 5, 6, 1, 0] rfl)
            · refine lv_iconst (v := nI 1) hx hb dX8_waits_49 (by decide) ?_
              refine lv_goto (tgt := 54) hx hb dX8_waits_50 (by decide) ?_
              refine kx_ci (x := nI (1)) (y := bI (waK z lt er k || wrB z lt (srcC z er k))) (by first | (simp [bI_t, bI_f, *]; done) | (exfalso; omega) | (exfalso; simp_all; done)) ?_
              refine lv_istore (lv' := [(4, .int (bI (waK z lt er k || wrB z lt (srcC z er k)))), (0, .ref (a)), (1, .int (nI (lt))), (2, .int (nI (er))), (3, .int (nI (mS z er))), (5, .int (nI (k)))]) hx hb dX8_waits_54 hl (by decide) rfl (fun ls hl => ?_)
              refine lv_aload_n hx hb dX8_waits_56 rfl (lv_at hl 1 rfl) ?_
              refine lv_iload_n hx hb dX8_waits_57 rfl (lv_at hl 3 rfl) ?_
              refine lv_iload hx hb dX8_waits_58 (lv_at hl 5 rfl) ?_
              refine kx_retP (va_runV (As := [.int (nI (er)), .int (nI (k))]) (rest := []) ⟨hx, hb, hml, hown, hts⟩ (k_X8_targetCell l D cs a z er k hI (by first | assumption | omega) (by first | assumption | omega)) (cwV 2 hts gX8_waits_X8_targetCell rfl rfl rfl (by decide +kernel) ⟨Nat.le_of_ble_eq_true rfl, Nat.le_of_ble_eq_true rfl⟩) (kx_preV hK hN hM.1 rfl hM) rfl rfl hl.1 rfl (lv_room (Nat.le_of_ble_eq_true rfl)) dX8_waits_60 ⟨Nat.le_of_ble_eq_true rfl, Nat.le_of_ble_eq_true rfl⟩) ?_
              have ht48 := hI.tgt48 hm2 k
              refine lv_istore (lv' := [(6, .int (nI (tgtC z er k))), (4, .int (bI (waK z lt er k || wrB z lt (srcC z er k)))), (0, .ref (a)), (1, .int (nI (lt))), (2, .int (nI (er))), (3, .int (nI (mS z er))), (5, .int (nI (k)))]) hx hb dX8_waits_63 hl (by decide) rfl (fun ls hl => ?_)
              refine lv_iload hx hb dX8_waits_65 (lv_at hl 1 rfl) ?_
              refine kb_if_ne (tgt := 95) hx hb dX8_waits_67 (by decide) (fun c_13 => ?_) (fun c_13 => ?_)
              · refine lv_iconst (v := nI 1) hx hb dX8_waits_95 (by decide) ?_
                refine lv_goto (tgt := 100) hx hb dX8_waits_96 (by decide) ?_
                refine kx_ci (x := nI (1)) (y := bI (waK z lt er (k + 1))) (by rw [waK_s, ← Bool.or_assoc]; first | (simp [bI_t, bI_f, *]; done) | (exfalso; omega) | (exfalso; simp_all; done)) ?_
                refine lv_istore (lv' := [(4, .int (bI (waK z lt er (k + 1)))), (6, .int (nI (tgtC z er k))), (0, .ref (a)), (1, .int (nI (lt))), (2, .int (nI (er))), (3, .int (nI (mS z er))), (5, .int (nI (k)))]) hx hb dX8_waits_100 hl (by decide) rfl (fun ls hl => ?_)
                refine lv_iinc (v := nI (k + 1)) (lv' := [(5, .int (nI (k + 1))), (4, .int (bI (waK z lt er (k + 1)))), (6, .int (nI (tgtC z er k))), (0, .ref (a)), (1, .int (nI (lt))), (2, .int (nI (er))), (3, .int (nI (mS z er)))]) (k := 6) hx hb dX8_waits_102 hl rfl (nI_add _ _) (by decide) rfl (fun ls hl => ?_)
                refine lv_goto (tgt := 13) hx hb dX8_waits_105 (by decide) ?_
                exact ih13 (k + 1) _ (by omega) (by omega) (Or.inr (by omega)) (lv_sub hl [3, 4, 5, 6, 1, 0] rfl)
              · refine lv_iload_n hx hb dX8_waits_70 rfl (lv_at hl 5 rfl) ?_
                refine lv_iconst (v := nI 2) hx hb dX8_waits_71 (by decide) ?_
                refine kn_icmp_eq (tgt := 99) hx hb dX8_waits_72 (by decide) (by omega) (by decide) (fun c_14 => ?_) (fun c_14 => ?_)
                · refine lv_iconst (v := nI 0) hx hb dX8_waits_99 (by decide) ?_
                  refine kx_ci (x := nI (0)) (y := bI (waK z lt er (k + 1))) (by rw [waK_s, ← Bool.or_assoc]; first | (simp [bI_t, bI_f, *]; done) | (exfalso; omega) | (exfalso; simp_all; done)) ?_
                  refine lv_istore (lv' := [(4, .int (bI (waK z lt er (k + 1)))), (6, .int (nI (tgtC z er k))), (0, .ref (a)), (1, .int (nI (lt))), (2, .int (nI (er))), (3, .int (nI (mS z er))), (5, .int (nI (k)))]) hx hb dX8_waits_100 hl (by decide) rfl (fun ls hl => ?_)
                  refine lv_iinc (v := nI (k + 1)) (lv' := [(5, .int (nI (k + 1))), (4, .int (bI (waK z lt er (k + 1)))), (6, .int (nI (tgtC z er k))), (0, .ref (a)), (1, .int (nI (lt))), (2, .int (nI (er))), (3, .int (nI (mS z er)))]) (k := 6) hx hb dX8_waits_102 hl rfl (nI_add _ _) (by decide) rfl (fun ls hl => ?_)
                  refine lv_goto (tgt := 13) hx hb dX8_waits_105 (by decide) ?_
                  exact ih13 (k + 1) _ (by omega) (by omega) (Or.inr (by omega)) (lv_sub hl [3, 4, 5, 6, 1, 0] rfl)
                · refine lv_aload_n hx hb dX8_waits_75 rfl (lv_at hl 2 rfl) ?_
                  refine lv_iload_n hx hb dX8_waits_76 rfl (lv_at hl 3 rfl) ?_
                  refine lv_iload hx hb dX8_waits_77 (lv_at hl 0 rfl) ?_
                  refine kx_retP (va_runV (As := [.int (nI (lt)), .int (nI (tgtC z er k))]) (rest := []) ⟨hx, hb, hml, hown, hts⟩ (k_X8_reads l D cs a z lt (tgtC z er k) hI (by first | assumption | omega) (by first | assumption | omega)) (cwV 2 hts gX8_waits_X8_reads rfl rfl rfl (by decide +kernel) ⟨Nat.le_of_ble_eq_true rfl, Nat.le_of_ble_eq_true rfl⟩) (kx_preV hK hN hM.1 rfl hM) rfl rfl hl.1 rfl (lv_room (Nat.le_of_ble_eq_true rfl)) dX8_waits_79 ⟨Nat.le_of_ble_eq_true rfl, Nat.le_of_ble_eq_true rfl⟩) ?_
                  refine kb_if_ne (tgt := 95) hx hb dX8_waits_82 (by decide) (fun c_15 => ?_) (fun c_15 => ?_)
                  · refine lv_iconst (v := nI 1) hx hb dX8_waits_95 (by decide) ?_
                    refine lv_goto (tgt := 100) hx hb dX8_waits_96 (by decide) ?_
                    refine kx_ci (x := nI (1)) (y := bI (waK z lt er (k + 1))) (by rw [waK_s, ← Bool.or_assoc]; first | (simp [bI_t, bI_f, *]; done) | (exfalso; omega) | (exfalso; simp_all; done)) ?_
                    refine lv_istore (lv' := [(4, .int (bI (waK z lt er (k + 1)))), (6, .int (nI (tgtC z er k))), (0, .ref (a)), (1, .int (nI (lt))), (2, .int (nI (er))), (3, .int (nI (mS z er))), (5, .int (nI (k)))]) hx hb dX8_waits_100 hl (by decide) rfl (fun ls hl => ?_)
                    refine lv_iinc (v := nI (k + 1)) (lv' := [(5, .int (nI (k + 1))), (4, .int (bI (waK z lt er (k + 1)))), (6, .int (nI (tgtC z er k))), (0, .ref (a)), (1, .int (nI (lt))), (2, .int (nI (er))), (3, .int (nI (mS z er)))]) (k := 6) hx hb dX8_waits_102 hl rfl (nI_add _ _) (by decide) rfl (fun ls hl => ?_)
                    refine lv_goto (tgt := 13) hx hb dX8_waits_105 (by decide) ?_
                    exact ih13 (k + 1) _ (by omega) (by omega) (Or.inr (by omega)) (lv_sub hl [3, 4, 5, 6, 1, 0] rfl)
                  · refine lv_aload_n hx hb dX8_waits_85 rfl (lv_at hl 2 rfl) ?_
                    refine lv_iload_n hx hb dX8_waits_86 rfl (lv_at hl 3 rfl) ?_
                    refine lv_iload hx hb dX8_waits_87 (lv_at hl 0 rfl) ?_
                    refine kx_retP (va_runV (As := [.int (nI (lt)), .int (nI (tgtC z er k))]) (rest := []) ⟨hx, hb, hml, hown, hts⟩ (k_X8_writes l D cs a z lt (tgtC z er k) hI (by first | assumption | omega) (by first | assumption | omega)) (cwV 2 hts gX8_waits_X8_writes rfl rfl rfl (by decide +kernel) ⟨Nat.le_of_ble_eq_true rfl, Nat.le_of_ble_eq_true rfl⟩) (kx_preV hK hN hM.1 rfl hM) rfl rfl hl.1 rfl (lv_room (Nat.le_of_ble_eq_true rfl)) dX8_waits_89 ⟨Nat.le_of_ble_eq_true rfl, Nat.le_of_ble_eq_true rfl⟩) ?_
                    refine kb_if_eq (tgt := 99) hx hb dX8_waits_92 (by decide) (fun c_16 => ?_) (fun c_16 => ?_)
                    · refine lv_iconst (v := nI 0) hx hb dX8_waits_99 (by decide) ?_
                      refine kx_ci (x := nI (0)) (y := bI (waK z lt er (k + 1))) (by rw [waK_s, ← Bool.or_assoc]; first | (simp [bI_t, bI_f, *]; done) | (exfalso; omega) | (exfalso; simp_all; done)) ?_
                      refine lv_istore (lv' := [(4, .int (bI (waK z lt er (k + 1)))), (6, .int (nI (tgtC z er k))), (0, .ref (a)), (1, .int (nI (lt))), (2, .int (nI (er))), (3, .int (nI (mS z er))), (5, .int (nI (k)))]) hx hb dX8_waits_100 hl (by decide) rfl (fun ls hl => ?_)
                      refine lv_iinc (v := nI (k + 1)) (lv' := [(5, .int (nI (k + 1))), (4, .int (bI (waK z lt er (k + 1)))), (6, .int (nI (tgtC z er k))), (0, .ref (a)), (1, .int (nI (lt))), (2, .int (nI (er))), (3, .int (nI (mS z er)))]) (k := 6) hx hb dX8_waits_102 hl rfl (nI_add _ _) (by decide) rfl (fun ls hl => ?_)
                      refine lv_goto (tgt := 13) hx hb dX8_waits_105 (by decide) ?_
                      exact ih13 (k + 1) _ (by omega) (by omega) (Or.inr (by omega)) (lv_sub hl [3, 4, 5, 6, 1, 0] rfl)
                    · refine lv_iconst (v := nI 1) hx hb dX8_waits_95 (by decide) ?_
                      refine lv_goto (tgt := 100) hx hb dX8_waits_96 (by decide) ?_
                      refine kx_ci (x := nI (1)) (y := bI (waK z lt er (k + 1))) (by rw [waK_s, ← Bool.or_assoc]; first | (simp [bI_t, bI_f, *]; done) | (exfalso; omega) | (exfalso; simp_all; done)) ?_
                      refine lv_istore (lv' := [(4, .int (bI (waK z lt er (k + 1)))), (6, .int (nI (tgtC z er k))), (0, .ref (a)), (1, .int (nI (lt))), (2, .int (nI (er))), (3, .int (nI (mS z er))), (5, .int (nI (k)))]) hx hb dX8_waits_100 hl (by decide) rfl (fun ls hl => ?_)
                      refine lv_iinc (v := nI (k + 1)) (lv' := [(5, .int (nI (k + 1))), (4, .int (bI (waK z lt er (k + 1)))), (6, .int (nI (tgtC z er k))), (0, .ref (a)), (1, .int (nI (lt))), (2, .int (nI (er))), (3, .int (nI (mS z er)))]) (k := 6) hx hb dX8_waits_102 hl rfl (nI_add _ _) (by decide) rfl (fun ls hl => ?_)
                      refine lv_goto (tgt := 13) hx hb dX8_waits_105 (by decide) ?_
                      exact ih13 (k + 1) _ (by omega) (by omega) (Or.inr (by omega)) (lv_sub hl [3, 4, 5, 6, 1, 0] rfl)
  exact J13 _ 0 _ (Nat.lt_succ_self _) (by omega) (Or.inl rfl) (lv_sub hl [3, 4, 5, 2, 1, 0] rfl)
set_option maxHeartbeats 1500000 in
set_option maxRecDepth 100000 in
theorem k_X8_waitsOf (l : Launch) (D : va_G) (cs : Nat → ClassId) (a : Nat) (z : Nat → Int32) (mv : Nat) (hI : Inv z) (hm : mv < Mn z) : Met l yX8_waitsOf wsX8_waitsOf ({ frames := 4, cells := 0, slots := 0, locals := 95 } : Room) (PcK D cs [.ref (a), .int (nI (mv))] (fun H => MdC D (cs 0) a z H)) (QcP (some (.int (nI (woN z mv))))) 0 0 nowhere := by
  refine kx_met (cc := cX8_waitsOf) (maxL := 4) (ret := (some .int)) (by decide) rfl (Nat.le_of_ble_eq_true rfl) ?_
  intro p e s m args below meth c hx hb hml hrt hts hown hlk hK hN hP ls hl
  have hl : lv_has ls 4 [(0, .ref (a)), (1, .int (nI (mv)))] := hl
  have hM := hP
  have h24 := hI.M24
  have h6 := hI.R6
  have hs3 := hI.s3 hm
  refine lv_iconst (v := nI 0) hx hb dX8_waitsOf_0 (by decide) ?_
  refine lv_istore_n (lv' := [(2, .int (nI (0))), (0, .ref (a)), (1, .int (nI (mv)))]) hx hb dX8_waitsOf_1 rfl hl (by decide) rfl (fun ls hl => ?_)
  refine lv_iconst (v := nI 0) hx hb dX8_waitsOf_2 (by decide) ?_
  refine lv_istore_n (lv' := [(3, .int (nI (0))), (2, .int (nI (0))), (0, .ref (a)), (1, .int (nI (mv)))]) hx hb dX8_waitsOf_3 rfl hl (by decide) rfl (fun ls hl => ?_)
  have J4 : ∀ (n4 : Nat) (k : Nat) (ls : Array Slot), (mv - k) < n4 → (k ≤ mv) → (k = 0 ∨ mS z mv = 0) → lv_has ls 4 [(0, .ref (a)), (1, .int (nI (mv))), (2, .int (nI (woK z mv k))), (3, .int (nI (k)))] → W p l e ({ frames := 4, cells := 0, slots := 0, locals := 95 } : Room) s m args below meth c s.heap [] 0 0 (MQ below (QcP (some (.int (nI (woN z mv))))) args s 0 0 nowhere) (F0 m 4 ls []) := by
    intro n4; induction n4 with
    | zero => intro k ls hmu4 hk hs hl; exact absurd hmu4 (Nat.not_lt_zero _)
    | succ n4 ih4 =>
      intro k ls hmu4 hk hs hl
      refine lv_iload_n hx hb dX8_waitsOf_4 rfl (lv_at hl 3 rfl) ?_
      refine lv_iload_n hx hb dX8_waitsOf_5 rfl (lv_at hl 1 rfl) ?_
      refine kn_icmp_ge (tgt := 43) hx hb dX8_waitsOf_6 (by decide) (by omega) (by omega) (fun c_1 => ?_) (fun c_1 => ?_)
      · refine lv_iload_n hx hb dX8_waitsOf_43 rfl (lv_at hl 2 rfl) ?_
        exact kx_iretP hx hb hrt hlk (congrArg nI (woN_ret hs (by omega) hk)) dX8_waitsOf_44
      · refine lv_aload_n hx hb dX8_waitsOf_9 rfl (lv_at hl 0 rfl) ?_
        refine lv_iload_n hx hb dX8_waitsOf_10 rfl (lv_at hl 1 rfl) ?_
        refine lv_iconst (v := nI 5) hx hb dX8_waitsOf_11 (by decide) ?_
        refine kx_retP (va_runV (As := [.int (nI (mv)), .int (nI (5))]) (rest := []) ⟨hx, hb, hml, hown, hts⟩ (k_X8_movePart l D cs a z mv 5 (by first | assumption | omega) (by first | assumption | omega)) (cwV 2 hts gX8_waitsOf_X8_movePart rfl rfl rfl (by decide +kernel) ⟨Nat.le_of_ble_eq_true rfl, Nat.le_of_ble_eq_true rfl⟩) (kx_preV hK hN hM.1 rfl hM) rfl rfl hl.1 rfl (lv_room (Nat.le_of_ble_eq_true rfl)) dX8_waitsOf_12 ⟨Nat.le_of_ble_eq_true rfl, Nat.le_of_ble_eq_true rfl⟩) ?_
        refine kx_ci (y := nI (mS z mv)) (Inv.m5 hI (by first | assumption | omega)) ?_
        refine kn_if_ne (tgt := 43) hx hb dX8_waitsOf_15 (by decide) (by omega) (fun c_2 => ?_) (fun c_2 => ?_)
        · refine lv_iload_n hx hb dX8_waitsOf_43 rfl (lv_at hl 2 rfl) ?_
          exact kx_iretP hx hb hrt hlk (congrArg nI (woN_ret hs (by omega) hk)) dX8_waitsOf_44
        · refine lv_iload_n hx hb dX8_waitsOf_18 rfl (lv_at hl 2 rfl) ?_
          refine lv_aload_n hx hb dX8_waitsOf_19 rfl (lv_at hl 0 rfl) ?_
          refine lv_iload_n hx hb dX8_waitsOf_20 rfl (lv_at hl 1 rfl) ?_
          refine lv_iload_n hx hb dX8_waitsOf_21 rfl (lv_at hl 3 rfl) ?_
          refine kx_retP (va_runV (As := [.int (nI (mv)), .int (nI (k))]) (rest := [.int (nI (woK z mv k))]) ⟨hx, hb, hml, hown, hts⟩ (k_X8_waits l D cs a z mv k hI (by first | assumption | omega) (by first | assumption | omega)) (cwV 2 hts gX8_waitsOf_X8_waits rfl rfl rfl (by decide +kernel) ⟨Nat.le_of_ble_eq_true rfl, Nat.le_of_ble_eq_true rfl⟩) (kx_preV hK hN hM.1 rfl hM) rfl rfl hl.1 rfl (lv_room (Nat.le_of_ble_eq_true rfl)) dX8_waitsOf_22 ⟨Nat.le_of_ble_eq_true rfl, Nat.le_of_ble_eq_true rfl⟩) ?_
          refine kb_if_eq (tgt := 34) hx hb dX8_waitsOf_25 (by decide) (fun c_3 => ?_) (fun c_3 => ?_)
          · refine lv_iconst (v := nI 0) hx hb dX8_waitsOf_34 (by decide) ?_
            refine kx_ci (x := nI (0)) (y := nI (if waB z mv k = true then 2 ^ k else 0)) (congrArg nI (by first | (simp [*]; done) | (exfalso; omega) | (exfalso; simp_all; done))) ?_
            refine kn_or hx hb dX8_waitsOf_35 ?_
            refine kx_ci (x := nI ((woK z mv k) ||| (if waB z mv k = true then 2 ^ k else 0))) (y := nI (woK z mv (k + 1))) rfl ?_
            refine lv_istore_n (lv' := [(2, .int (nI (woK z mv (k + 1)))), (0, .ref (a)), (1, .int (nI (mv))), (3, .int (nI (k)))]) hx hb dX8_waitsOf_36 rfl hl (by decide) rfl (fun ls hl => ?_)
            refine lv_iinc (v := nI (k + 1)) (lv' := [(3, .int (nI (k + 1))), (2, .int (nI (woK z mv (k + 1)))), (0, .ref (a)), (1, .int (nI (mv)))]) (k := 3) hx hb dX8_waitsOf_37 hl rfl (nI_add _ _) (by decide) rfl (fun ls hl => ?_)
            refine lv_goto (tgt := 4) hx hb dX8_waitsOf_40 (by decide) ?_
            exact ih4 (k + 1) _ (by omega) (by omega) (Or.inr (by omega)) (lv_sub hl [2, 3, 1, 0] rfl)
          · refine lv_iconst (v := nI 1) hx hb dX8_waitsOf_28 (by decide) ?_
            refine lv_iload_n hx hb dX8_waitsOf_29 rfl (lv_at hl 3 rfl) ?_
            refine kn_bit hx hb (by omega) dX8_waitsOf_30 ?_
            refine lv_goto (tgt := 35) hx hb dX8_waitsOf_31 (by decide) ?_
            refine kx_ci (x := nI (2 ^ k)) (y := nI (if waB z mv k = true then 2 ^ k else 0)) (congrArg nI (by first | (simp [*]; done) | (exfalso; omega) | (exfalso; simp_all; done))) ?_
            refine kn_or hx hb dX8_waitsOf_35 ?_
            refine kx_ci (x := nI ((woK z mv k) ||| (if waB z mv k = true then 2 ^ k else 0))) (y := nI (woK z mv (k + 1))) rfl ?_
            refine lv_istore_n (lv' := [(2, .int (nI (woK z mv (k + 1)))), (0, .ref (a)), (1, .int (nI (mv))), (3, .int (nI (k)))]) hx hb dX8_waitsOf_36 rfl hl (by decide) rfl (fun ls hl => ?_)
            refine lv_iinc (v := nI (k + 1)) (lv' := [(3, .int (nI (k + 1))), (2, .int (nI (woK z mv (k + 1)))), (0, .ref (a)), (1, .int (nI (mv)))]) (k := 3) hx hb dX8_waitsOf_37 hl rfl (nI_add _ _) (by decide) rfl (fun ls hl => ?_)
            refine lv_goto (tgt := 4) hx hb dX8_waitsOf_40 (by decide) ?_
            exact ih4 (k + 1) _ (by omega) (by omega) (Or.inr (by omega)) (lv_sub hl [2, 3, 1, 0] rfl)
  exact J4 _ 0 _ (Nat.lt_succ_self _) (by omega) (Or.inl rfl) (lv_sub hl [2, 3, 1, 0] rfl)
set_option maxHeartbeats 1500000 in
set_option maxRecDepth 100000 in
theorem k_X8_movesIn (l : Launch) (D : va_G) (cs : Nat → ClassId) (a : Nat) (z : Nat → Int32) (w : Nat) (hI : Inv z) (hw : w < 4) : Met l yX8_movesIn wsX8_movesIn ({ frames := 1, cells := 0, slots := 0, locals := 22 } : Room) (PcK D cs [.ref (a), .int (nI (w))] (fun H => MdC D (cs 0) a z H)) (QcP (some (.int (nI (msN z w))))) 0 0 nowhere := by
  refine kx_met (cc := cX8_movesIn) (maxL := 4) (ret := (some .int)) (by decide) rfl (Nat.le_of_ble_eq_true rfl) ?_
  intro p e s m args below meth c hx hb hml hrt hts hown hlk hK hN hP ls hl
  have hl : lv_has ls 4 [(0, .ref (a)), (1, .int (nI (w)))] := hl
  have hinX8 : ∀ w ∈ wsX80, w ∈ wsX8_movesIn := by decide +kernel
  have hM := hP
  have h24 := hI.M24
  have h6 := hI.R6
  refine lv_iconst (v := nI 0) hx hb dX8_movesIn_0 (by decide) ?_
  refine lv_istore_n (lv' := [(2, .int (nI (0))), (0, .ref (a)), (1, .int (nI (w)))]) hx hb dX8_movesIn_1 rfl hl (by decide) rfl (fun ls hl => ?_)
  refine lv_iconst (v := nI 0) hx hb dX8_movesIn_2 (by decide) ?_
  refine lv_istore_n (lv' := [(3, .int (nI (0))), (2, .int (nI (0))), (0, .ref (a)), (1, .int (nI (w)))]) hx hb dX8_movesIn_3 rfl hl (by decide) rfl (fun ls hl => ?_)
  have J4 : ∀ (n4 : Nat) (k : Nat) (ls : Array Slot), (Mn z - k) < n4 → (k ≤ Mn z) → lv_has ls 4 [(0, .ref (a)), (1, .int (nI (w))), (2, .int (nI (msK z w k))), (3, .int (nI (k)))] → W p l e ({ frames := 1, cells := 0, slots := 0, locals := 22 } : Room) s m args below meth c s.heap [] 0 0 (MQ below (QcP (some (.int (nI (msN z w))))) args s 0 0 nowhere) (F0 m 4 ls []) := by
    intro n4; induction n4 with
    | zero => intro k ls hmu4 hk hl; exact absurd hmu4 (Nat.not_lt_zero _)
    | succ n4 ih4 =>
      intro k ls hmu4 hk hl
      refine lv_iload_n hx hb dX8_movesIn_4 rfl (lv_at hl 3 rfl) ?_
      refine lv_aload_n hx hb dX8_movesIn_5 rfl (lv_at hl 0 rfl) ?_
      refine kx_get (v := .ref (a + 1)) hx hb hts hinX8 hown hK hM.1 rfl 1 (by decide) (by decide +kernel) rfl dX8_movesIn_6 ?_
      refine lv_iconst (v := nI 4) hx hb dX8_movesIn_9 (by decide) ?_
      refine kx_iald (i := 4) hx hb hK hM.state 0 rfl (by decide) (by decide) dX8_movesIn_10 ?_
      refine kx_ci (y := nI (Mn z)) (hI).z4 ?_
      refine kn_icmp_ge (tgt := 38) hx hb dX8_movesIn_11 (by decide) (by omega) (by omega) (fun c_1 => ?_) (fun c_1 => ?_)
      · refine lv_iload_n hx hb dX8_movesIn_38 rfl (lv_at hl 2 rfl) ?_
        exact kx_iretP hx hb hrt hlk (by rw [show k = Mn z by omega]; rfl) dX8_movesIn_39
      · have hkM : k < Mn z := by omega
        have hs3 := hI.s3 hkM
        refine lv_iload_n hx hb dX8_movesIn_14 rfl (lv_at hl 2 rfl) ?_
        refine lv_aload_n hx hb dX8_movesIn_15 rfl (lv_at hl 0 rfl) ?_
        refine lv_iload_n hx hb dX8_movesIn_16 rfl (lv_at hl 3 rfl) ?_
        refine lv_iconst (v := nI 5) hx hb dX8_movesIn_17 (by decide) ?_
        refine kx_retP (va_runV (As := [.int (nI (k)), .int (nI (5))]) (rest := [.int (nI (msK z w k))]) ⟨hx, hb, hml, hown, hts⟩ (k_X8_movePart l D cs a z k 5 (by first | assumption | omega) (by first | assumption | omega)) (cwV 2 hts gX8_movesIn_X8_movePart rfl rfl rfl (by decide +kernel) ⟨Nat.le_of_ble_eq_true rfl, Nat.le_of_ble_eq_true rfl⟩) (kx_preV hK hN hM.1 rfl hM) rfl rfl hl.1 rfl (lv_room (Nat.le_of_ble_eq_true rfl)) dX8_movesIn_18 ⟨Nat.le_of_ble_eq_true rfl, Nat.le_of_ble_eq_true rfl⟩) ?_
        refine kx_ci (y := nI (mS z k)) (Inv.m5 hI (by first | assumption | omega)) ?_
        refine lv_iload_n hx hb dX8_movesIn_21 rfl (lv_at hl 1 rfl) ?_
        refine kn_icmp_ne (tgt := 29) hx hb dX8_movesIn_22 (by decide) (by omega) (by omega) (fun c_2 => ?_) (fun c_2 => ?_)
        · refine lv_iconst (v := nI 0) hx hb dX8_movesIn_29 (by decide) ?_
          refine kx_ci (x := nI (0)) (y := nI (if mS z k = w then 1 else 0)) (congrArg nI (by first | (simp [*]; done) | (exfalso; omega) | (exfalso; simp_all; done))) ?_
          refine kn_add hx hb dX8_movesIn_30 ?_
          refine kx_ci (x := nI (msK z w k + (if mS z k = w then 1 else 0))) (y := nI (msK z w (k + 1))) rfl ?_
          refine lv_istore_n (lv' := [(2, .int (nI (msK z w (k + 1)))), (0, .ref (a)), (1, .int (nI (w))), (3, .int (nI (k)))]) hx hb dX8_movesIn_31 rfl hl (by decide) rfl (fun ls hl => ?_)
          refine lv_iinc (v := nI (k + 1)) (lv' := [(3, .int (nI (k + 1))), (2, .int (nI (msK z w (k + 1)))), (0, .ref (a)), (1, .int (nI (w)))]) (k := 3) hx hb dX8_movesIn_32 hl rfl (nI_add _ _) (by decide) rfl (fun ls hl => ?_)
          refine lv_goto (tgt := 4) hx hb dX8_movesIn_35 (by decide) ?_
          exact ih4 (k + 1) _ (by omega) (by omega) (lv_sub hl [2, 3, 1, 0] rfl)
        · refine lv_iconst (v := nI 1) hx hb dX8_movesIn_25 (by decide) ?_
          refine lv_goto (tgt := 30) hx hb dX8_movesIn_26 (by decide) ?_
          refine kx_ci (x := nI (1)) (y := nI (if mS z k = w then 1 else 0)) (congrArg nI (by first | (simp [*]; done) | (exfalso; omega) | (exfalso; simp_all; done))) ?_
          refine kn_add hx hb dX8_movesIn_30 ?_
          refine kx_ci (x := nI (msK z w k + (if mS z k = w then 1 else 0))) (y := nI (msK z w (k + 1))) rfl ?_
          refine lv_istore_n (lv' := [(2, .int (nI (msK z w (k + 1)))), (0, .ref (a)), (1, .int (nI (w))), (3, .int (nI (k)))]) hx hb dX8_movesIn_31 rfl hl (by decide) rfl (fun ls hl => ?_)
          refine lv_iinc (v := nI (k + 1)) (lv' := [(3, .int (nI (k + 1))), (2, .int (nI (msK z w (k + 1)))), (0, .ref (a)), (1, .int (nI (w)))]) (k := 3) hx hb dX8_movesIn_32 hl rfl (nI_add _ _) (by decide) rfl (fun ls hl => ?_)
          refine lv_goto (tgt := 4) hx hb dX8_movesIn_35 (by decide) ?_
          exact ih4 (k + 1) _ (by omega) (by omega) (lv_sub hl [2, 3, 1, 0] rfl)
  exact J4 _ 0 _ (Nat.lt_succ_self _) (by omega) (lv_sub hl [2, 3, 1, 0] rfl)
set_option maxHeartbeats 1500000 in
set_option maxRecDepth 100000 in
theorem k_X8_copiedTo (l : Launch) (D : va_G) (cs : Nat → ClassId) (a : Nat) (z : Nat → Int32) (r : Nat) (hI : Inv z) (hr : r < Rn z) : Met l yX8_copiedTo wsX8_copiedTo ({ frames := 1, cells := 0, slots := 0, locals := 22 } : Room) (PcK D cs [.ref (a), .int (nI (r))] (fun H => MdC D (cs 0) a z H)) (QcP (some (.int (nI (cpN z r))))) 0 0 nowhere := by
  refine kx_met (cc := cX8_copiedTo) (maxL := 4) (ret := (some .int)) (by decide) rfl (Nat.le_of_ble_eq_true rfl) ?_
  intro p e s m args below meth c hx hb hml hrt hts hown hlk hK hN hP ls hl
  have hl : lv_has ls 4 [(0, .ref (a)), (1, .int (nI (r)))] := hl
  have hinX8 : ∀ w ∈ wsX80, w ∈ wsX8_copiedTo := by decide +kernel
  have hM := hP
  have h24 := hI.M24
  have h6 := hI.R6
  refine lv_iconst (v := nI 0) hx hb dX8_copiedTo_0 (by decide) ?_
  refine lv_istore_n (lv' := [(2, .int (nI (0))), (0, .ref (a)), (1, .int (nI (r)))]) hx hb dX8_copiedTo_1 rfl hl (by decide) rfl (fun ls hl => ?_)
  refine lv_iconst (v := nI 0) hx hb dX8_copiedTo_2 (by decide) ?_
  refine lv_istore_n (lv' := [(3, .int (nI (0))), (2, .int (nI (0))), (0, .ref (a)), (1, .int (nI (r)))]) hx hb dX8_copiedTo_3 rfl hl (by decide) rfl (fun ls hl => ?_)
  have J4 : ∀ (n4 : Nat) (k : Nat) (ls : Array Slot), (Mn z - k) < n4 → (k ≤ Mn z) → lv_has ls 4 [(0, .ref (a)), (1, .int (nI (r))), (2, .int (nI (cpK z r k))), (3, .int (nI (k)))] → W p l e ({ frames := 1, cells := 0, slots := 0, locals := 22 } : Room) s m args below meth c s.heap [] 0 0 (MQ below (QcP (some (.int (nI (cpN z r))))) args s 0 0 nowhere) (F0 m 4 ls []) := by
    intro n4; induction n4 with
    | zero => intro k ls hmu4 hk hl; exact absurd hmu4 (Nat.not_lt_zero _)
    | succ n4 ih4 =>
      intro k ls hmu4 hk hl
      refine lv_iload_n hx hb dX8_copiedTo_4 rfl (lv_at hl 3 rfl) ?_
      refine lv_aload_n hx hb dX8_copiedTo_5 rfl (lv_at hl 0 rfl) ?_
      refine kx_get (v := .ref (a + 1)) hx hb hts hinX8 hown hK hM.1 rfl 1 (by decide) (by decide +kernel) rfl dX8_copiedTo_6 ?_
      refine lv_iconst (v := nI 4) hx hb dX8_copiedTo_9 (by decide) ?_
      refine kx_iald (i := 4) hx hb hK hM.state 0 rfl (by decide) (by decide) dX8_copiedTo_10 ?_
      refine kx_ci (y := nI (Mn z)) (hI).z4 ?_
      refine kn_icmp_ge (tgt := 48) hx hb dX8_copiedTo_11 (by decide) (by omega) (by omega) (fun c_1 => ?_) (fun c_1 => ?_)
      · refine lv_iload_n hx hb dX8_copiedTo_48 rfl (lv_at hl 2 rfl) ?_
        exact kx_iretP hx hb hrt hlk (by rw [show k = Mn z by omega]; rfl) dX8_copiedTo_49
      · have hkM : k < Mn z := by omega
        have hs3 := hI.s3 hkM
        have hmt := hI.mt hkM
        refine lv_iload_n hx hb dX8_copiedTo_14 rfl (lv_at hl 2 rfl) ?_
        refine lv_aload_n hx hb dX8_copiedTo_15 rfl (lv_at hl 0 rfl) ?_
        refine lv_iload_n hx hb dX8_copiedTo_16 rfl (lv_at hl 3 rfl) ?_
        refine lv_iconst (v := nI 2) hx hb dX8_copiedTo_17 (by decide) ?_
        refine kx_retP (va_runV (As := [.int (nI (k)), .int (nI (2))]) (rest := [.int (nI (cpK z r k))]) ⟨hx, hb, hml, hown, hts⟩ (k_X8_movePart l D cs a z k 2 (by first | assumption | omega) (by first | assumption | omega)) (cwV 2 hts gX8_copiedTo_X8_movePart rfl rfl rfl (by decide +kernel) ⟨Nat.le_of_ble_eq_true rfl, Nat.le_of_ble_eq_true rfl⟩) (kx_preV hK hN hM.1 rfl hM) rfl rfl hl.1 rfl (lv_room (Nat.le_of_ble_eq_true rfl)) dX8_copiedTo_18 ⟨Nat.le_of_ble_eq_true rfl, Nat.le_of_ble_eq_true rfl⟩) ?_
        refine kx_ci (y := nI (mT z k)) (Inv.m2 hI (by first | assumption | omega)) ?_
        refine lv_iload_n hx hb dX8_copiedTo_21 rfl (lv_at hl 1 rfl) ?_
        refine kn_icmp_ne (tgt := 39) hx hb dX8_copiedTo_22 (by decide) (by omega) (by omega) (fun c_2 => ?_) (fun c_2 => ?_)
        · refine lv_iconst (v := nI 0) hx hb dX8_copiedTo_39 (by decide) ?_
          refine kx_ci (x := nI (0)) (y := nI (if mT z k = r ∧ mS z k = 2 then 1 else 0)) (congrArg nI (by first | (simp [*]; done) | (exfalso; omega) | (exfalso; simp_all; done))) ?_
          refine kn_add hx hb dX8_copiedTo_40 ?_
          refine kx_ci (x := nI (cpK z r k + (if mT z k = r ∧ mS z k = 2 then 1 else 0))) (y := nI (cpK z r (k + 1))) rfl ?_
          refine lv_istore_n (lv' := [(2, .int (nI (cpK z r (k + 1)))), (0, .ref (a)), (1, .int (nI (r))), (3, .int (nI (k)))]) hx hb dX8_copiedTo_41 rfl hl (by decide) rfl (fun ls hl => ?_)
          refine lv_iinc (v := nI (k + 1)) (lv' := [(3, .int (nI (k + 1))), (2, .int (nI (cpK z r (k + 1)))), (0, .ref (a)), (1, .int (nI (r)))]) (k := 3) hx hb dX8_copiedTo_42 hl rfl (nI_add _ _) (by decide) rfl (fun ls hl => ?_)
          refine lv_goto (tgt := 4) hx hb dX8_copiedTo_45 (by decide) ?_
          exact ih4 (k + 1) _ (by omega) (by omega) (lv_sub hl [2, 3, 1, 0] rfl)
        · refine lv_aload_n hx hb dX8_copiedTo_25 rfl (lv_at hl 0 rfl) ?_
          refine lv_iload_n hx hb dX8_copiedTo_26 rfl (lv_at hl 3 rfl) ?_
          refine lv_iconst (v := nI 5) hx hb dX8_copiedTo_27 (by decide) ?_
          refine kx_retP (va_runV (As := [.int (nI (k)), .int (nI (5))]) (rest := [.int (nI (cpK z r k))]) ⟨hx, hb, hml, hown, hts⟩ (k_X8_movePart l D cs a z k 5 (by first | assumption | omega) (by first | assumption | omega)) (cwV 2 hts gX8_copiedTo_X8_movePart rfl rfl rfl (by decide +kernel) ⟨Nat.le_of_ble_eq_true rfl, Nat.le_of_ble_eq_true rfl⟩) (kx_preV hK hN hM.1 rfl hM) rfl rfl hl.1 rfl (lv_room (Nat.le_of_ble_eq_true rfl)) dX8_copiedTo_28 ⟨Nat.le_of_ble_eq_true rfl, Nat.le_of_ble_eq_true rfl⟩) ?_
          refine kx_ci (y := nI (mS z k)) (Inv.m5 hI (by first | assumption | omega)) ?_
          refine lv_iconst (v := nI 2) hx hb dX8_copiedTo_31 (by decide) ?_
          refine kn_icmp_ne (tgt := 39) hx hb dX8_copiedTo_32 (by decide) (by omega) (by decide) (fun c_3 => ?_) (fun c_3 => ?_)
          · refine lv_iconst (v := nI 0) hx hb dX8_copiedTo_39 (by decide) ?_
            refine kx_ci (x := nI (0)) (y := nI (if mT z k = r ∧ mS z k = 2 then 1 else 0)) (congrArg nI (by first | (simp [*]; done) | (exfalso; omega) | (exfalso; simp_all; done))) ?_
            refine kn_add hx hb dX8_copiedTo_40 ?_
            refine kx_ci (x := nI (cpK z r k + (if mT z k = r ∧ mS z k = 2 then 1 else 0))) (y := nI (cpK z r (k + 1))) rfl ?_
            refine lv_istore_n (lv' := [(2, .int (nI (cpK z r (k + 1)))), (0, .ref (a)), (1, .int (nI (r))), (3, .int (nI (k)))]) hx hb dX8_copiedTo_41 rfl hl (by decide) rfl (fun ls hl => ?_)
            refine lv_iinc (v := nI (k + 1)) (lv' := [(3, .int (nI (k + 1))), (2, .int (nI (cpK z r (k + 1)))), (0, .ref (a)), (1, .int (nI (r)))]) (k := 3) hx hb dX8_copiedTo_42 hl rfl (nI_add _ _) (by decide) rfl (fun ls hl => ?_)
            refine lv_goto (tgt := 4) hx hb dX8_copiedTo_45 (by decide) ?_
            exact ih4 (k + 1) _ (by omega) (by omega) (lv_sub hl [2, 3, 1, 0] rfl)
          · refine lv_iconst (v := nI 1) hx hb dX8_copiedTo_35 (by decide) ?_
            refine lv_goto (tgt := 40) hx hb dX8_copiedTo_36 (by decide) ?_
            refine kx_ci (x := nI (1)) (y := nI (if mT z k = r ∧ mS z k = 2 then 1 else 0)) (congrArg nI (by first | (simp [*]; done) | (exfalso; omega) | (exfalso; simp_all; done))) ?_
            refine kn_add hx hb dX8_copiedTo_40 ?_
            refine kx_ci (x := nI (cpK z r k + (if mT z k = r ∧ mS z k = 2 then 1 else 0))) (y := nI (cpK z r (k + 1))) rfl ?_
            refine lv_istore_n (lv' := [(2, .int (nI (cpK z r (k + 1)))), (0, .ref (a)), (1, .int (nI (r))), (3, .int (nI (k)))]) hx hb dX8_copiedTo_41 rfl hl (by decide) rfl (fun ls hl => ?_)
            refine lv_iinc (v := nI (k + 1)) (lv' := [(3, .int (nI (k + 1))), (2, .int (nI (cpK z r (k + 1)))), (0, .ref (a)), (1, .int (nI (r)))]) (k := 3) hx hb dX8_copiedTo_42 hl rfl (nI_add _ _) (by decide) rfl (fun ls hl => ?_)
            refine lv_goto (tgt := 4) hx hb dX8_copiedTo_45 (by decide) ?_
            exact ih4 (k + 1) _ (by omega) (by omega) (lv_sub hl [2, 3, 1, 0] rfl)
  exact J4 _ 0 _ (Nat.lt_succ_self _) (by omega) (lv_sub hl [2, 3, 1, 0] rfl)
set_option maxHeartbeats 1500000 in
set_option maxRecDepth 100000 in
theorem k_X8_firstCopied (l : Launch) (D : va_G) (cs : Nat → ClassId) (a : Nat) (z : Nat → Int32) (r : Nat) (hI : Inv z) (hr : r < Rn z) : Met l yX8_firstCopied wsX8_firstCopied ({ frames := 1, cells := 0, slots := 0, locals := 22 } : Room) (PcK D cs [.ref (a), .int (nI (r))] (fun H => MdC D (cs 0) a z H)) (QcP (some (.int (fcI z r)))) 0 0 nowhere := by
  refine kx_met (cc := cX8_firstCopied) (maxL := 3) (ret := (some .int)) (by decide) rfl (Nat.le_of_ble_eq_true rfl) ?_
  intro p e s m args below meth c hx hb hml hrt hts hown hlk hK hN hP ls hl
  have hl : lv_has ls 3 [(0, .ref (a)), (1, .int (nI (r)))] := hl
  have hinX8 : ∀ w ∈ wsX80, w ∈ wsX8_firstCopied := by decide +kernel
  have hM := hP
  have h24 := hI.M24
  have h6 := hI.R6
  refine lv_iconst (v := nI 0) hx hb dX8_firstCopied_0 (by decide) ?_
  refine lv_istore_n (lv' := [(2, .int (nI (0))), (0, .ref (a)), (1, .int (nI (r)))]) hx hb dX8_firstCopied_1 rfl hl (by decide) rfl (fun ls hl => ?_)
  have J2 : ∀ (n2 : Nat) (k : Nat) (ls : Array Slot), (Mn z - k) < n2 → (k ≤ Mn z) → (∀ j, j < k → isC z r j = false) → lv_has ls 3 [(0, .ref (a)), (1, .int (nI (r))), (2, .int (nI (k)))] → W p l e ({ frames := 1, cells := 0, slots := 0, locals := 22 } : Room) s m args below meth c s.heap [] 0 0 (MQ below (QcP (some (.int (fcI z r)))) args s 0 0 nowhere) (F0 m 2 ls []) := by
    intro n2; induction n2 with
    | zero => intro k ls hmu2 hk hno hl; exact absurd hmu2 (Nat.not_lt_zero _)
    | succ n2 ih2 =>
      intro k ls hmu2 hk hno hl
      refine lv_iload_n hx hb dX8_firstCopied_2 rfl (lv_at hl 2 rfl) ?_
      refine lv_aload_n hx hb dX8_firstCopied_3 rfl (lv_at hl 0 rfl) ?_
      refine kx_get (v := .ref (a + 1)) hx hb hts hinX8 hown hK hM.1 rfl 1 (by decide) (by decide +kernel) rfl dX8_firstCopied_4 ?_
      refine lv_iconst (v := nI 4) hx hb dX8_firstCopied_7 (by decide) ?_
      refine kx_iald (i := 4) hx hb hK hM.state 0 rfl (by decide) (by decide) dX8_firstCopied_8 ?_
      refine kx_ci (y := nI (Mn z)) (hI).z4 ?_
      refine kn_icmp_ge (tgt := 40) hx hb dX8_firstCopied_9 (by decide) (by omega) (by omega) (fun c_1 => ?_) (fun c_1 => ?_)
      · refine lv_sipush (v := -1000) hx hb dX8_firstCopied_40 (by decide) ?_
        exact kx_iretP hx hb hrt hlk (fcI_no (fun j hj => hno j (by omega))).symm dX8_firstCopied_43
      · have hkM : k < Mn z := by omega
        have hs3 := hI.s3 hkM
        have hmt := hI.mt hkM
        refine lv_aload_n hx hb dX8_firstCopied_12 rfl (lv_at hl 0 rfl) ?_
        refine lv_iload_n hx hb dX8_firstCopied_13 rfl (lv_at hl 2 rfl) ?_
        refine lv_iconst (v := nI 2) hx hb dX8_firstCopied_14 (by decide) ?_
        refine kx_retP (va_runV (As := [.int (nI (k)), .int (nI (2))]) (rest := []) ⟨hx, hb, hml, hown, hts⟩ (k_X8_movePart l D cs a z k 2 (by first | assumption | omega) (by first | assumption | omega)) (cwV 2 hts gX8_firstCopied_X8_movePart rfl rfl rfl (by decide +kernel) ⟨Nat.le_of_ble_eq_true rfl, Nat.le_of_ble_eq_true rfl⟩) (kx_preV hK hN hM.1 rfl hM) rfl rfl hl.1 rfl (lv_room (Nat.le_of_ble_eq_true rfl)) dX8_firstCopied_15 ⟨Nat.le_of_ble_eq_true rfl, Nat.le_of_ble_eq_true rfl⟩) ?_
        refine kx_ci (y := nI (mT z k)) (Inv.m2 hI (by first | assumption | omega)) ?_
        refine lv_iload_n hx hb dX8_firstCopied_18 rfl (lv_at hl 1 rfl) ?_
        refine kn_icmp_ne (tgt := 34) hx hb dX8_firstCopied_19 (by decide) (by omega) (by omega) (fun c_2 => ?_) (fun c_2 => ?_)
        · refine lv_iinc (v := nI (k + 1)) (lv' := [(2, .int (nI (k + 1))), (0, .ref (a)), (1, .int (nI (r)))]) (k := 2) hx hb dX8_firstCopied_34 hl rfl (nI_add _ _) (by decide) rfl (fun ls hl => ?_)
          refine lv_goto (tgt := 2) hx hb dX8_firstCopied_37 (by decide) ?_
          exact ih2 (k + 1) _ (by omega) (by omega) (no_s hno (by simp [isC, *])) (lv_sub hl [1, 2, 0] rfl)
        · refine lv_aload_n hx hb dX8_firstCopied_22 rfl (lv_at hl 0 rfl) ?_
          refine lv_iload_n hx hb dX8_firstCopied_23 rfl (lv_at hl 2 rfl) ?_
          refine lv_iconst (v := nI 5) hx hb dX8_firstCopied_24 (by decide) ?_
          refine kx_retP (va_runV (As := [.int (nI (k)), .int (nI (5))]) (rest := []) ⟨hx, hb, hml, hown, hts⟩ (k_X8_movePart l D cs a z k 5 (by first | assumption | omega) (by first | assumption | omega)) (cwV 2 hts gX8_firstCopied_X8_movePart rfl rfl rfl (by decide +kernel) ⟨Nat.le_of_ble_eq_true rfl, Nat.le_of_ble_eq_true rfl⟩) (kx_preV hK hN hM.1 rfl hM) rfl rfl hl.1 rfl (lv_room (Nat.le_of_ble_eq_true rfl)) dX8_firstCopied_25 ⟨Nat.le_of_ble_eq_true rfl, Nat.le_of_ble_eq_true rfl⟩) ?_
          refine kx_ci (y := nI (mS z k)) (Inv.m5 hI (by first | assumption | omega)) ?_
          refine lv_iconst (v := nI 2) hx hb dX8_firstCopied_28 (by decide) ?_
          refine kn_icmp_ne (tgt := 34) hx hb dX8_firstCopied_29 (by decide) (by omega) (by decide) (fun c_3 => ?_) (fun c_3 => ?_)
          · refine lv_iinc (v := nI (k + 1)) (lv' := [(2, .int (nI (k + 1))), (0, .ref (a)), (1, .int (nI (r)))]) (k := 2) hx hb dX8_firstCopied_34 hl rfl (nI_add _ _) (by decide) rfl (fun ls hl => ?_)
            refine lv_goto (tgt := 2) hx hb dX8_firstCopied_37 (by decide) ?_
            exact ih2 (k + 1) _ (by omega) (by omega) (no_s hno (by simp [isC, *])) (lv_sub hl [1, 2, 0] rfl)
          · refine lv_iload_n hx hb dX8_firstCopied_32 rfl (lv_at hl 2 rfl) ?_
            exact kx_iretP hx hb hrt hlk (fcI_yes hno hkM (by simp [isC, *])).symm dX8_firstCopied_33
  exact J2 _ 0 _ (Nat.lt_succ_self _) (by omega) (fun j hj => absurd hj (Nat.not_lt_zero j)) (lv_sub hl [1, 2, 0] rfl)
set_option maxHeartbeats 1500000 in
set_option maxRecDepth 100000 in
theorem k_X8_signMove (l : Launch) (D : va_G) (cs : Nat → ClassId) (a : Nat) (z : Nat → Int32) (mv : Nat) (hm : mv < 24) : Met l yX8_signMove wsX8_signMove ({ frames := 1, cells := 0, slots := 0, locals := 23 } : Room) (PcK D cs [.ref (a), .int (nI (mv))] (fun H => MdC D (cs 0) a z H)) (QcM none (fun H => MdC D (cs 0) a (signF z mv) H) (rgM a)) 0 0 ((rgM a)) := by
  refine kx_met (cc := cX8_signMove) (maxL := 2) (ret := none) (by decide) rfl (Nat.le_of_ble_eq_true rfl) ?_
  intro p e s m args below meth c hx hb hml hrt hts hown hlk hK hN hP ls hl
  have hl : lv_has ls 2 [(0, .ref (a)), (1, .int (nI (mv)))] := hl
  obtain ⟨H, hHe⟩ : ∃ H : Heap, H = s.heap := ⟨_, rfl⟩
  rw [← hHe] at hP ⊢
  have hS : va_S ((rgM a)) s.heap H [] := by rw [← hHe]; exact va_S.rf
  have hinX8 : ∀ w ∈ wsX80, w ∈ wsX8_signMove := by decide +kernel
  have hM := hP
  refine lv_aload_n hx hb dX8_signMove_0 rfl (lv_at hl 0 rfl) ?_
  refine lv_iload_n hx hb dX8_signMove_1 rfl (lv_at hl 1 rfl) ?_
  refine lv_iconst (v := nI 5) hx hb dX8_signMove_2 (by decide) ?_
  refine lv_iconst (v := nI 3) hx hb dX8_signMove_3 (by decide) ?_
  refine kx_retM (va_runV (As := [.int (nI (mv)), .int (nI (5)), .int (nI (3))]) (rest := []) ⟨hx, hb, hml, hown, hts⟩ (k_X8_setMovePart l D cs a z mv 5 (nI (3)) (by first | assumption | omega) (by first | assumption | omega)) (cwV 3 hts gX8_signMove_X8_setMovePart rfl rfl rfl (by decide +kernel) ⟨Nat.le_of_ble_eq_true rfl, Nat.le_of_ble_eq_true rfl⟩) (kx_preV hK hN hM.1 rfl hM) rfl rfl hl.1 rfl (lv_room (Nat.le_of_ble_eq_true rfl)) dX8_signMove_4 ⟨Nat.le_of_ble_eq_true rfl, Nat.le_of_ble_eq_true rfl⟩) hS (fun q _ h => h) (fun q h => h) (fun H locs hM hk hS => ?_)
  clear hk
  refine lv_aload_n hx hb dX8_signMove_7 rfl (lv_at hl 0 rfl) ?_
  refine lv_iload_n hx hb dX8_signMove_8 rfl (lv_at hl 1 rfl) ?_
  refine lv_bipush (v := nI 9) hx hb dX8_signMove_9 (by decide) ?_
  refine lv_aload_n hx hb dX8_signMove_11 rfl (lv_at hl 0 rfl) ?_
  refine kx_get (v := .ref (a + 1)) hx hb hts hinX8 hown hK hM.1 rfl 1 (by decide) (by decide +kernel) rfl dX8_signMove_12 ?_
  refine lv_iconst (v := nI 0) hx hb dX8_signMove_15 (by decide) ?_
  refine kx_iald (i := 0) hx hb hK hM.state 0 rfl (by decide) (by decide) dX8_signMove_16 ?_
  refine kx_ci (y := z 0) (by simp only [upd_at]; repeat rw [if_neg (by omega)]) ?_
  refine kx_retM (va_runV (As := [.int (nI (mv)), .int (nI (9)), .int (z 0)]) (rest := []) ⟨hx, hb, hml, hown, hts⟩ (k_X8_setMovePart l D cs a (upd z (80 + 10 * mv + 5) (nI (3))) mv 9 (z 0) (by first | assumption | omega) (by first | assumption | omega)) (cwV 3 hts gX8_signMove_X8_setMovePart rfl rfl rfl (by decide +kernel) ⟨Nat.le_of_ble_eq_true rfl, Nat.le_of_ble_eq_true rfl⟩) (kx_preV hK hN hM.1 rfl hM) rfl rfl hl.1 rfl (lv_room (Nat.le_of_ble_eq_true rfl)) dX8_signMove_17 ⟨Nat.le_of_ble_eq_true rfl, Nat.le_of_ble_eq_true rfl⟩) hS (fun q _ h => h) (fun q h => h) (fun H locs hM hk hS => ?_)
  clear hk
  refine lv_aload_n hx hb dX8_signMove_20 rfl (lv_at hl 0 rfl) ?_
  refine kx_get (v := .ref (a + 1)) hx hb hts hinX8 hown hK hM.1 rfl 1 (by decide) (by decide +kernel) rfl dX8_signMove_21 ?_
  refine lv_bipush (v := nI 6) hx hb dX8_signMove_24 (by decide) ?_
  refine lv_dup2_11 hx hb dX8_signMove_26 rfl rfl ?_
  refine kx_iald (i := 6) hx hb hK hM.state 0 rfl (by decide) (by decide) dX8_signMove_27 ?_
  refine kx_ci (y := z 6) (by simp only [upd_at]; repeat rw [if_neg (by omega)]) ?_
  refine lv_iconst (v := nI 1) hx hb dX8_signMove_28 (by decide) ?_
  refine lv_iadd hx hb dX8_signMove_29 ?_
  refine kx_iast (i := 6) hx hb hK hM.state hS ⟨by omega, by omega⟩ 0 rfl (by decide) (by decide) dX8_signMove_30 (fun H locs hc hU hS => ?_)
  have hM := hM.put_state (by decide) hc hU
  clear hc hU
  exact kx_vretM hx hb hrt hlk hM hS dX8_signMove_31
set_option maxHeartbeats 1500000 in
set_option maxRecDepth 100000 in
theorem k_X8_whyNotSigned (l : Launch) (D : va_G) (cs : Nat → ClassId) (a : Nat) (z : Nat → Int32) (x : Int32) (hI : Inv z) : Met l yX8_whyNotSigned wsX8_whyNotSigned ({ frames := 2, cells := 0, slots := 0, locals := 44 } : Room) (PcK D cs [.ref (a), .int (x)] (fun H => MdC D (cs 0) a z H)) (QcP (some (.int (nI (wsg z x))))) 0 0 nowhere := by
  refine kx_met (cc := cX8_whyNotSigned) (maxL := 2) (ret := (some .int)) (by decide) rfl (Nat.le_of_ble_eq_true rfl) ?_
  intro p e s m args below meth c hx hb hml hrt hts hown hlk hK hN hP ls hl
  have hl : lv_has ls 2 [(0, .ref (a)), (1, .int (x))] := hl
  have hM := hP
  have h24 := hI.M24
  have h6 := hI.R6
  refine lv_aload_n hx hb dX8_whyNotSigned_0 rfl (lv_at hl 0 rfl) ?_
  refine lv_iload_n hx hb dX8_whyNotSigned_1 rfl (lv_at hl 1 rfl) ?_
  refine kx_retP (va_runV (As := [.int (x)]) (rest := []) ⟨hx, hb, hml, hown, hts⟩ (k_X8_isRing l D cs a z x hI) (cwV 1 hts gX8_whyNotSigned_X8_isRing rfl rfl rfl (by decide +kernel) ⟨Nat.le_of_ble_eq_true rfl, Nat.le_of_ble_eq_true rfl⟩) (kx_preV hK hN hM.1 rfl hM) rfl rfl hl.1 rfl (lv_room (Nat.le_of_ble_eq_true rfl)) dX8_whyNotSigned_2 ⟨Nat.le_of_ble_eq_true rfl, Nat.le_of_ble_eq_true rfl⟩) ?_
  refine kb_if_ne (tgt := 12) hx hb dX8_whyNotSigned_5 (by decide) (fun hq => ?_) (fun hq => ?_)
  · obtain ⟨r, hr, rfl⟩ := (lsB_iff (by omega)).mp hq
    have hnr : nn (nI r) = r := nn_nI (by omega)
    refine lv_aload_n hx hb dX8_whyNotSigned_12 rfl (lv_at hl 0 rfl) ?_
    refine lv_iload_n hx hb dX8_whyNotSigned_13 rfl (lv_at hl 1 rfl) ?_
    refine lv_iconst (v := nI 3) hx hb dX8_whyNotSigned_14 (by decide) ?_
    refine kx_retP (va_runV (As := [.int (nI (r)), .int (nI (3))]) (rest := []) ⟨hx, hb, hml, hown, hts⟩ (k_X8_ringPart l D cs a z r 3 (by first | assumption | omega) (by first | assumption | omega)) (cwV 2 hts gX8_whyNotSigned_X8_ringPart rfl rfl rfl (by decide +kernel) ⟨Nat.le_of_ble_eq_true rfl, Nat.le_of_ble_eq_true rfl⟩) (kx_preV hK hN hM.1 rfl hM) rfl rfl hl.1 rfl (lv_room (Nat.le_of_ble_eq_true rfl)) dX8_whyNotSigned_15 ⟨Nat.le_of_ble_eq_true rfl, Nat.le_of_ble_eq_true rfl⟩) ?_
    refine lv_iconst (v := nI 1) hx hb dX8_whyNotSigned_18 (by decide) ?_
    refine lv_icmp_eq (tgt := 33) hx hb dX8_whyNotSigned_19 (by decide) (fun c_1 => ?_) (fun c_1 => ?_)
    · refine lv_iconst (v := nI 2) hx hb dX8_whyNotSigned_33 (by decide) ?_
      refine lv_goto (tgt := 38) hx hb dX8_whyNotSigned_34 (by decide) ?_
      exact kx_iretP hx hb hrt hlk (congrArg nI (by first | (simp [wsg, *]; done) | (exfalso; omega) | (exfalso; simp_all; done))) dX8_whyNotSigned_38
    · refine lv_aload_n hx hb dX8_whyNotSigned_22 rfl (lv_at hl 0 rfl) ?_
      refine lv_iload_n hx hb dX8_whyNotSigned_23 rfl (lv_at hl 1 rfl) ?_
      refine kx_retP (va_runV (As := [.int (nI (r))]) (rest := []) ⟨hx, hb, hml, hown, hts⟩ (k_X8_firstCopied l D cs a z r hI (by first | assumption | omega)) (cwV 1 hts gX8_whyNotSigned_X8_firstCopied rfl rfl rfl (by decide +kernel) ⟨Nat.le_of_ble_eq_true rfl, Nat.le_of_ble_eq_true rfl⟩) (kx_preV hK hN hM.1 rfl hM) rfl rfl hl.1 rfl (lv_room (Nat.le_of_ble_eq_true rfl)) dX8_whyNotSigned_24 ⟨Nat.le_of_ble_eq_true rfl, Nat.le_of_ble_eq_true rfl⟩) ?_
      refine lv_sipush (v := -1000) hx hb dX8_whyNotSigned_27 (by decide) ?_
      refine lv_icmp_ne (tgt := 37) hx hb dX8_whyNotSigned_30 (by decide) (fun c_2 => ?_) (fun c_2 => ?_)
      · refine lv_iconst (v := nI 0) hx hb dX8_whyNotSigned_37 (by decide) ?_
        exact kx_iretP hx hb hrt hlk (congrArg nI (by first | (simp [wsg, *]; done) | (exfalso; omega) | (exfalso; simp_all; done))) dX8_whyNotSigned_38
      · refine lv_iconst (v := nI 2) hx hb dX8_whyNotSigned_33 (by decide) ?_
        refine lv_goto (tgt := 38) hx hb dX8_whyNotSigned_34 (by decide) ?_
        exact kx_iretP hx hb hrt hlk (congrArg nI (by first | (simp [wsg, *]; done) | (exfalso; omega) | (exfalso; simp_all; done))) dX8_whyNotSigned_38
  · refine lv_iconst (v := nI 1) hx hb dX8_whyNotSigned_8 (by decide) ?_
    refine lv_goto (tgt := 38) hx hb dX8_whyNotSigned_9 (by decide) ?_
    exact kx_iretP hx hb hrt hlk (congrArg nI (by first | (simp [wsg, *]; done) | (exfalso; omega) | (exfalso; simp_all; done))) dX8_whyNotSigned_38
set_option maxHeartbeats 1500000 in
set_option maxRecDepth 100000 in
theorem k_X8_whyNoStrike (l : Launch) (D : va_G) (cs : Nat → ClassId) (a : Nat) (z : Nat → Int32) (x y : Int32) (hI : Inv z) : Met l yX8_whyNoStrike wsX8_whyNoStrike ({ frames := 2, cells := 0, slots := 0, locals := 43 } : Room) (PcK D cs [.ref (a), .int (x), .int (y)] (fun H => MdC D (cs 0) a z H)) (QcP (some (.int (nI (wst z x y))))) 0 0 nowhere := by
  refine kx_met (cc := cX8_whyNoStrike) (maxL := 3) (ret := (some .int)) (by decide) rfl (Nat.le_of_ble_eq_true rfl) ?_
  intro p e s m args below meth c hx hb hml hrt hts hown hlk hK hN hP ls hl
  have hl : lv_has ls 3 [(0, .ref (a)), (1, .int (x)), (2, .int (y))] := hl
  have hM := hP
  have h24 := hI.M24
  have h6 := hI.R6
  refine lv_aload_n hx hb dX8_whyNoStrike_0 rfl (lv_at hl 0 rfl) ?_
  refine lv_iload_n hx hb dX8_whyNoStrike_1 rfl (lv_at hl 1 rfl) ?_
  refine kx_retP (va_runV (As := [.int (x)]) (rest := []) ⟨hx, hb, hml, hown, hts⟩ (k_X8_isRing l D cs a z x hI) (cwV 1 hts gX8_whyNoStrike_X8_isRing rfl rfl rfl (by decide +kernel) ⟨Nat.le_of_ble_eq_true rfl, Nat.le_of_ble_eq_true rfl⟩) (kx_preV hK hN hM.1 rfl hM) rfl rfl hl.1 rfl (lv_room (Nat.le_of_ble_eq_true rfl)) dX8_whyNoStrike_2 ⟨Nat.le_of_ble_eq_true rfl, Nat.le_of_ble_eq_true rfl⟩) ?_
  refine kb_if_ne (tgt := 12) hx hb dX8_whyNoStrike_5 (by decide) (fun hq => ?_) (fun hq => ?_)
  · obtain ⟨r, hr, rfl⟩ := (lsB_iff (by omega)).mp hq
    have hnr : nn (nI r) = r := nn_nI (by omega)
    refine lv_aload_n hx hb dX8_whyNoStrike_12 rfl (lv_at hl 0 rfl) ?_
    refine lv_iload_n hx hb dX8_whyNoStrike_13 rfl (lv_at hl 1 rfl) ?_
    refine lv_iconst (v := nI 3) hx hb dX8_whyNoStrike_14 (by decide) ?_
    refine kx_retP (va_runV (As := [.int (nI (r)), .int (nI (3))]) (rest := []) ⟨hx, hb, hml, hown, hts⟩ (k_X8_ringPart l D cs a z r 3 (by first | assumption | omega) (by first | assumption | omega)) (cwV 2 hts gX8_whyNoStrike_X8_ringPart rfl rfl rfl (by decide +kernel) ⟨Nat.le_of_ble_eq_true rfl, Nat.le_of_ble_eq_true rfl⟩) (kx_preV hK hN hM.1 rfl hM) rfl rfl hl.1 rfl (lv_room (Nat.le_of_ble_eq_true rfl)) dX8_whyNoStrike_15 ⟨Nat.le_of_ble_eq_true rfl, Nat.le_of_ble_eq_true rfl⟩) ?_
    refine lv_iload_n hx hb dX8_whyNoStrike_18 rfl (lv_at hl 2 rfl) ?_
    refine lv_icmp_ne (tgt := 26) hx hb dX8_whyNoStrike_19 (by decide) (fun c_1 => ?_) (fun c_1 => ?_)
    · refine lv_iconst (v := nI 0) hx hb dX8_whyNoStrike_26 (by decide) ?_
      exact kx_iretP hx hb hrt hlk (congrArg nI (by first | (simp [wst, *]; done) | (exfalso; omega) | (exfalso; simp_all; done))) dX8_whyNoStrike_27
    · refine lv_iconst (v := nI 2) hx hb dX8_whyNoStrike_22 (by decide) ?_
      refine lv_goto (tgt := 27) hx hb dX8_whyNoStrike_23 (by decide) ?_
      exact kx_iretP hx hb hrt hlk (congrArg nI (by first | (simp [wst, *]; done) | (exfalso; omega) | (exfalso; simp_all; done))) dX8_whyNoStrike_27
  · refine lv_iconst (v := nI 1) hx hb dX8_whyNoStrike_8 (by decide) ?_
    refine lv_goto (tgt := 27) hx hb dX8_whyNoStrike_9 (by decide) ?_
    exact kx_iretP hx hb hrt hlk (congrArg nI (by first | (simp [wst, *]; done) | (exfalso; omega) | (exfalso; simp_all; done))) dX8_whyNoStrike_27
set_option maxHeartbeats 1500000 in
set_option maxRecDepth 100000 in
theorem k_X8_whyNoTicks (l : Launch) (D : va_G) (cs : Nat → ClassId) (a : Nat) (z : Nat → Int32) (x : Int32) : Met l yX8_whyNoTicks wsX8_whyNoTicks ({ frames := 1, cells := 0, slots := 0, locals := 22 } : Room) (PcK D cs [.ref (a), .int (x)] (fun H => MdC D (cs 0) a z H)) (QcP (some (.int (nI (wtk z x))))) 0 0 nowhere := by
  refine kx_met (cc := cX8_whyNoTicks) (maxL := 2) (ret := (some .int)) (by decide) rfl (Nat.le_of_ble_eq_true rfl) ?_
  intro p e s m args below meth c hx hb hml hrt hts hown hlk hK hN hP ls hl
  have hl : lv_has ls 2 [(0, .ref (a)), (1, .int (x))] := hl
  have hinX8 : ∀ w ∈ wsX80, w ∈ wsX8_whyNoTicks := by decide +kernel
  have hM := hP
  refine lv_iload_n hx hb dX8_whyNoTicks_0 rfl (lv_at hl 1 rfl) ?_
  refine lv_iconst (v := nI 1) hx hb dX8_whyNoTicks_1 (by decide) ?_
  refine lv_bipush (v := nI 50) hx hb dX8_whyNoTicks_2 (by decide) ?_
  refine kx_retP (va_runS (As := [.int (x), .int (nI (1)), .int (nI (50))]) (rest := []) ⟨hx, hb, hml, hown, hts⟩ (k_X8_within l D cs x (nI (1)) (nI (50))) (cwS 3 hts gX8_whyNoTicks_X8_within rfl rfl rfl (by decide +kernel) ⟨Nat.le_of_ble_eq_true rfl, Nat.le_of_ble_eq_true rfl⟩) (kx_preS hK hN trivial) rfl rfl hl.1 rfl (lv_room (Nat.le_of_ble_eq_true rfl)) dX8_whyNoTicks_4 ⟨Nat.le_of_ble_eq_true rfl, Nat.le_of_ble_eq_true rfl⟩) ?_
  refine kb_if_ne (tgt := 14) hx hb dX8_whyNoTicks_7 (by decide) (fun c_1 => ?_) (fun c_1 => ?_)
  · refine lv_aload_n hx hb dX8_whyNoTicks_14 rfl (lv_at hl 0 rfl) ?_
    refine kx_get (v := .ref (a + 1)) hx hb hts hinX8 hown hK hM.1 rfl 1 (by decide) (by decide +kernel) rfl dX8_whyNoTicks_15 ?_
    refine lv_iconst (v := nI 0) hx hb dX8_whyNoTicks_18 (by decide) ?_
    refine kx_iald (i := 0) hx hb hK hM.state 0 rfl (by decide) (by decide) dX8_whyNoTicks_19 ?_
    refine lv_iload_n hx hb dX8_whyNoTicks_20 rfl (lv_at hl 1 rfl) ?_
    refine lv_iadd hx hb dX8_whyNoTicks_21 ?_
    refine lv_sipush (v := nI 9999) hx hb dX8_whyNoTicks_22 (by decide) ?_
    refine lv_icmp_le (tgt := 32) hx hb dX8_whyNoTicks_25 (by decide) (fun c_2 => ?_) (fun c_2 => ?_)
    · refine lv_iconst (v := nI 0) hx hb dX8_whyNoTicks_32 (by decide) ?_
      exact kx_iretP hx hb hrt hlk (congrArg nI (by simp [wtk, i_nle.mp, *])) dX8_whyNoTicks_33
    · refine lv_iconst (v := nI 2) hx hb dX8_whyNoTicks_28 (by decide) ?_
      refine lv_goto (tgt := 33) hx hb dX8_whyNoTicks_29 (by decide) ?_
      exact kx_iretP hx hb hrt hlk (congrArg nI (by simp [wtk, i_nle.mp, *])) dX8_whyNoTicks_33
  · refine lv_iconst (v := nI 1) hx hb dX8_whyNoTicks_10 (by decide) ?_
    refine lv_goto (tgt := 33) hx hb dX8_whyNoTicks_11 (by decide) ?_
    exact kx_iretP hx hb hrt hlk (congrArg nI (by simp [wtk, i_nle.mp, *])) dX8_whyNoTicks_33
set_option maxHeartbeats 1500000 in
set_option maxRecDepth 100000 in
theorem k_X8_whyNoSetting (l : Launch) (D : va_G) (cs : Nat → ClassId) (a : Nat) (z : Nat → Int32) (x y : Int32) : Met l yX8_whyNoSetting wsX8_whyNoSetting ({ frames := 1, cells := 0, slots := 0, locals := 22 } : Room) (PcK D cs [.ref (a), .int (x), .int (y)] (fun H => MdC D (cs 0) a z H)) (QcP (some (.int (nI (wse x y))))) 0 0 nowhere := by
  refine kx_met (cc := cX8_whyNoSetting) (maxL := 4) (ret := (some .int)) (by decide) rfl (Nat.le_of_ble_eq_true rfl) ?_
  intro p e s m args below meth c hx hb hml hrt hts hown hlk hK hN hP ls hl
  have hl : lv_has ls 4 [(0, .ref (a)), (1, .int (x)), (2, .int (y))] := hl
  have hM := hP
  refine lv_iload_n hx hb dX8_whyNoSetting_0 rfl (lv_at hl 1 rfl) ?_
  refine lv_if_ne (tgt := 14) hx hb dX8_whyNoSetting_1 (by decide) (fun c_1 => ?_) (fun c_1 => ?_)
  · refine lv_iload_n hx hb dX8_whyNoSetting_14 rfl (lv_at hl 1 rfl) ?_
    refine lv_iconst (v := nI 1) hx hb dX8_whyNoSetting_15 (by decide) ?_
    refine lv_icmp_ne (tgt := 32) hx hb dX8_whyNoSetting_16 (by decide) (fun c_2 => ?_) (fun c_2 => ?_)
    · refine lv_iconst (v := nI 0) hx hb dX8_whyNoSetting_32 (by decide) ?_
      refine lv_istore_n (lv' := [(3, .int (nI (0))), (0, .ref (a)), (1, .int (x)), (2, .int (y))]) hx hb dX8_whyNoSetting_33 rfl hl (by decide) rfl (fun ls hl => ?_)
      refine lv_iload_n hx hb dX8_whyNoSetting_34 rfl (lv_at hl 0 rfl) ?_
      refine kn_if_eq (tgt := 42) hx hb dX8_whyNoSetting_35 (by decide) (by omega) (fun c_3 => ?_) (fun c_3 => ?_)
      · refine lv_iconst (v := nI 1) hx hb dX8_whyNoSetting_42 (by decide) ?_
        exact kx_iretP hx hb hrt hlk (congrArg nI (by first | (simp [wse, nI_0, nI1_0, nI01, *]; done) | (exfalso; omega) | (exfalso; simp_all; done))) dX8_whyNoSetting_43
      · refine lv_iconst (v := nI 0) hx hb dX8_whyNoSetting_38 (by decide) ?_
        refine lv_goto (tgt := 43) hx hb dX8_whyNoSetting_39 (by decide) ?_
        exact kx_iretP hx hb hrt hlk (congrArg nI (by first | (simp [wse, nI_0, nI1_0, nI01, *]; done) | (exfalso; omega) | (exfalso; simp_all; done))) dX8_whyNoSetting_43
    · refine lv_iload_n hx hb dX8_whyNoSetting_19 rfl (lv_at hl 2 rfl) ?_
      refine lv_iconst (v := nI 1) hx hb dX8_whyNoSetting_20 (by decide) ?_
      refine lv_iconst (v := nI 4) hx hb dX8_whyNoSetting_21 (by decide) ?_
      refine kx_retP (va_runS (As := [.int (y), .int (nI (1)), .int (nI (4))]) (rest := []) ⟨hx, hb, hml, hown, hts⟩ (k_X8_within l D cs y (nI (1)) (nI (4))) (cwS 3 hts gX8_whyNoSetting_X8_within rfl rfl rfl (by decide +kernel) ⟨Nat.le_of_ble_eq_true rfl, Nat.le_of_ble_eq_true rfl⟩) (kx_preS hK hN trivial) rfl rfl hl.1 rfl (lv_room (Nat.le_of_ble_eq_true rfl)) dX8_whyNoSetting_22 ⟨Nat.le_of_ble_eq_true rfl, Nat.le_of_ble_eq_true rfl⟩) ?_
      refine kb_if_eq (tgt := 32) hx hb dX8_whyNoSetting_25 (by decide) (fun c_4 => ?_) (fun c_4 => ?_)
      · refine lv_iconst (v := nI 0) hx hb dX8_whyNoSetting_32 (by decide) ?_
        refine lv_istore_n (lv' := [(3, .int (nI (0))), (0, .ref (a)), (1, .int (x)), (2, .int (y))]) hx hb dX8_whyNoSetting_33 rfl hl (by decide) rfl (fun ls hl => ?_)
        refine lv_iload_n hx hb dX8_whyNoSetting_34 rfl (lv_at hl 0 rfl) ?_
        refine kn_if_eq (tgt := 42) hx hb dX8_whyNoSetting_35 (by decide) (by omega) (fun c_5 => ?_) (fun c_5 => ?_)
        · refine lv_iconst (v := nI 1) hx hb dX8_whyNoSetting_42 (by decide) ?_
          exact kx_iretP hx hb hrt hlk (congrArg nI (by first | (simp [wse, nI_0, nI1_0, nI01, *]; done) | (exfalso; omega) | (exfalso; simp_all; done))) dX8_whyNoSetting_43
        · refine lv_iconst (v := nI 0) hx hb dX8_whyNoSetting_38 (by decide) ?_
          refine lv_goto (tgt := 43) hx hb dX8_whyNoSetting_39 (by decide) ?_
          exact kx_iretP hx hb hrt hlk (congrArg nI (by first | (simp [wse, nI_0, nI1_0, nI01, *]; done) | (exfalso; omega) | (exfalso; simp_all; done))) dX8_whyNoSetting_43
      · refine lv_iconst (v := nI 1) hx hb dX8_whyNoSetting_28 (by decide) ?_
        refine lv_goto (tgt := 33) hx hb dX8_whyNoSetting_29 (by decide) ?_
        refine lv_istore_n (lv' := [(3, .int (nI (1))), (0, .ref (a)), (1, .int (x)), (2, .int (y))]) hx hb dX8_whyNoSetting_33 rfl hl (by decide) rfl (fun ls hl => ?_)
        refine lv_iload_n hx hb dX8_whyNoSetting_34 rfl (lv_at hl 0 rfl) ?_
        refine kn_if_eq (tgt := 42) hx hb dX8_whyNoSetting_35 (by decide) (by omega) (fun c_6 => ?_) (fun c_6 => ?_)
        · refine lv_iconst (v := nI 1) hx hb dX8_whyNoSetting_42 (by decide) ?_
          exact kx_iretP hx hb hrt hlk (congrArg nI (by first | (simp [wse, nI_0, nI1_0, nI01, *]; done) | (exfalso; omega) | (exfalso; simp_all; done))) dX8_whyNoSetting_43
        · refine lv_iconst (v := nI 0) hx hb dX8_whyNoSetting_38 (by decide) ?_
          refine lv_goto (tgt := 43) hx hb dX8_whyNoSetting_39 (by decide) ?_
          exact kx_iretP hx hb hrt hlk (congrArg nI (by first | (simp [wse, nI_0, nI1_0, nI01, *]; done) | (exfalso; omega) | (exfalso; simp_all; done))) dX8_whyNoSetting_43
  · refine lv_iload_n hx hb dX8_whyNoSetting_4 rfl (lv_at hl 2 rfl) ?_
    refine lv_iconst (v := nI 1) hx hb dX8_whyNoSetting_5 (by decide) ?_
    refine lv_bipush (v := nI 8) hx hb dX8_whyNoSetting_6 (by decide) ?_
    refine kx_retP (va_runS (As := [.int (y), .int (nI (1)), .int (nI (8))]) (rest := []) ⟨hx, hb, hml, hown, hts⟩ (k_X8_within l D cs y (nI (1)) (nI (8))) (cwS 3 hts gX8_whyNoSetting_X8_within rfl rfl rfl (by decide +kernel) ⟨Nat.le_of_ble_eq_true rfl, Nat.le_of_ble_eq_true rfl⟩) (kx_preS hK hN trivial) rfl rfl hl.1 rfl (lv_room (Nat.le_of_ble_eq_true rfl)) dX8_whyNoSetting_8 ⟨Nat.le_of_ble_eq_true rfl, Nat.le_of_ble_eq_true rfl⟩) ?_
    refine lv_goto (tgt := 33) hx hb dX8_whyNoSetting_11 (by decide) ?_
    refine lv_istore_n (lv' := [(3, .int (bI (wiB y (nI (1)) (nI (8))))), (0, .ref (a)), (1, .int (x)), (2, .int (y))]) hx hb dX8_whyNoSetting_33 rfl hl (by decide) rfl (fun ls hl => ?_)
    refine lv_iload_n hx hb dX8_whyNoSetting_34 rfl (lv_at hl 0 rfl) ?_
    refine kb_if_eq (tgt := 42) hx hb dX8_whyNoSetting_35 (by decide) (fun c_7 => ?_) (fun c_7 => ?_)
    · refine lv_iconst (v := nI 1) hx hb dX8_whyNoSetting_42 (by decide) ?_
      exact kx_iretP hx hb hrt hlk (congrArg nI (by first | (simp [wse, nI_0, nI1_0, nI01, *]; done) | (exfalso; omega) | (exfalso; simp_all; done))) dX8_whyNoSetting_43
    · refine lv_iconst (v := nI 0) hx hb dX8_whyNoSetting_38 (by decide) ?_
      refine lv_goto (tgt := 43) hx hb dX8_whyNoSetting_39 (by decide) ?_
      exact kx_iretP hx hb hrt hlk (congrArg nI (by first | (simp [wse, nI_0, nI1_0, nI01, *]; done) | (exfalso; omega) | (exfalso; simp_all; done))) dX8_whyNoSetting_43
