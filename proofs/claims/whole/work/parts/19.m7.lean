set_option maxHeartbeats 1500000 in
set_option maxRecDepth 100000 in
theorem k_X8_carriesOut (l : Launch) (D : va_G) (cs : Nat → ClassId) (a : Nat) (z : Nat → Int32) (kd : Nat) (x0 x1 x2 x3 x4 : Int32) (hI : Inv z) (hkd : z 4407 = nI kd) (hk8 : kd < 8) (hn0 : z 4374 = x0) (hn1 : z 4375 = x1) (hn2 : z 4376 = x2) (hn3 : z 4377 = x3) (hn4 : z 4378 = x4) : Met l yX8_carriesOut wsX8_carriesOut ({ frames := 7, cells := 0, slots := 0, locals := 163 } : Room) (PcK D cs [.ref (a)] (fun H => MdC D (cs 0) a z H)) (QcM (some (.int (bI (decide (crW z kd x0 x1 x2 x3 x4 = 0))))) (fun H => MdC D (cs 0) a (crF z kd x0 x1 x2 x3 x4) H) (rgM a)) 0 0 ((rgM a)) := by
  refine kx_met (cc := cX8_carriesOut) (maxL := 4) (ret := (some .boolean)) (by decide) rfl (Nat.le_of_ble_eq_true rfl) ?_
  intro p e s m args below meth c hx hb hml hrt hts hown hlk hK hN hP ls hl
  have hl : lv_has ls 4 [(0, .ref (a))] := hl
  obtain ⟨H, hHe⟩ : ∃ H : Heap, H = s.heap := ⟨_, rfl⟩
  rw [← hHe] at hP ⊢
  have hS : va_S ((rgM a)) s.heap H [] := by rw [← hHe]; exact va_S.rf
  have hinX8 : ∀ w ∈ wsX80, w ∈ wsX8_carriesOut := by decide +kernel
  have hM := hP
  refine lv_aload_n hx hb dX8_carriesOut_0 rfl (lv_at hl 0 rfl) ?_
  refine kx_get (v := .ref (a + 5)) hx hb hts hinX8 hown hK hM.1 rfl 9 (by decide) (by decide +kernel) rfl dX8_carriesOut_1 ?_
  refine lv_iconst (v := nI 0) hx hb dX8_carriesOut_4 (by decide) ?_
  refine kx_iald (i := 0) hx hb hK hM.numbers 0 rfl (by decide) (by decide) dX8_carriesOut_5 ?_
  refine kx_ci (y := x0) hn0 ?_
  refine lv_istore_n (lv' := [(1, .int (x0)), (0, .ref (a))]) hx hb dX8_carriesOut_6 rfl hl (by decide) rfl (fun ls hl => ?_)
  refine lv_aload_n hx hb dX8_carriesOut_7 rfl (lv_at hl 1 rfl) ?_
  refine kx_get (v := .ref (a + 5)) hx hb hts hinX8 hown hK hM.1 rfl 9 (by decide) (by decide +kernel) rfl dX8_carriesOut_8 ?_
  refine lv_iconst (v := nI 1) hx hb dX8_carriesOut_11 (by decide) ?_
  refine kx_iald (i := 1) hx hb hK hM.numbers 0 rfl (by decide) (by decide) dX8_carriesOut_12 ?_
  refine kx_ci (y := x1) hn1 ?_
  refine lv_istore_n (lv' := [(2, .int (x1)), (1, .int (x0)), (0, .ref (a))]) hx hb dX8_carriesOut_13 rfl hl (by decide) rfl (fun ls hl => ?_)
  refine lv_aload_n hx hb dX8_carriesOut_14 rfl (lv_at hl 2 rfl) ?_
  refine kx_get (v := .int (z 4407)) hx hb hts hinX8 hown hK hM.1 rfl 8 (by decide) (by decide +kernel) rfl dX8_carriesOut_15 ?_
  refine kx_ci (y := nI (kd)) hkd ?_
  rcases (show kd = 0 ∨ kd = 1 ∨ kd = 2 ∨ kd = 3 ∨ kd = 4 ∨ kd = 5 ∨ kd = 6 ∨ kd = 7 by omega) with rfl | rfl | rfl | rfl | rfl | rfl | rfl | rfl
  · refine lv_tableIn (off := 42) (tgt := 60) hx hb dX8_carriesOut_18 (by decide) (by decide) (by rfl) (by decide) ?_
    refine lv_aload_n hx hb dX8_carriesOut_60 rfl (lv_at hl 2 rfl) ?_
    refine lv_iload_n hx hb dX8_carriesOut_61 rfl (lv_at hl 1 rfl) ?_
    refine lv_iload_n hx hb dX8_carriesOut_62 rfl (lv_at hl 0 rfl) ?_
    refine lv_aload_n hx hb dX8_carriesOut_63 rfl (lv_at hl 2 rfl) ?_
    refine kx_get (v := .ref (a + 5)) hx hb hts hinX8 hown hK hM.1 rfl 9 (by decide) (by decide +kernel) rfl dX8_carriesOut_64 ?_
    refine lv_iconst (v := nI 2) hx hb dX8_carriesOut_67 (by decide) ?_
    refine kx_iald (i := 2) hx hb hK hM.numbers 0 rfl (by decide) (by decide) dX8_carriesOut_68 ?_
    refine kx_ci (y := x2) hn2 ?_
    refine kx_retP (va_runV (As := [.int (x0), .int (x1), .int (x2)]) (rest := []) ⟨hx, hb, hml, hown, hts⟩ (k_X8_whyNoRing l D cs a z x0 x1 x2 hI) (cwV 3 hts gX8_carriesOut_X8_whyNoRing rfl rfl rfl (by decide +kernel) ⟨Nat.le_of_ble_eq_true rfl, Nat.le_of_ble_eq_true rfl⟩) (kx_preV hK hN hM.1 rfl hM) rfl rfl hl.1 rfl (lv_room (Nat.le_of_ble_eq_true rfl)) dX8_carriesOut_69 ⟨Nat.le_of_ble_eq_true rfl, Nat.le_of_ble_eq_true rfl⟩) ?_
    refine lv_istore_n (lv' := [(3, .int (nI (wrg z x0 x1 x2))), (2, .int (x1)), (1, .int (x0)), (0, .ref (a))]) hx hb dX8_carriesOut_72 rfl hl (by decide) rfl (fun ls hl => ?_)
    refine lv_iload_n hx hb dX8_carriesOut_73 rfl (lv_at hl 0 rfl) ?_
    refine kn_if_ne (tgt := 282) hx hb dX8_carriesOut_74 (by decide) (lt31 (wrg_4 _ _ _ _)) (fun hw0 => ?_) (fun hw0 => ?_)
    · refine lv_iload_n hx hb dX8_carriesOut_282 rfl (lv_at hl 0 rfl) ?_
      refine kn_if_ne (tgt := 290) hx hb dX8_carriesOut_283 (by decide) (lt31 (wrg_4 _ _ _ _)) (fun hw1 => ?_) (fun hw1 => ?_)
      · refine lv_iconst (v := nI 0) hx hb dX8_carriesOut_290 (by decide) ?_
        exact kx_zretM hx hb hrt hlk (by first | (exfalso; omega) | (simp [crW, bI_t, bI_f, *]; done)) (Eq.mpr (congrArg (fun w => MdC D (cs 0) a w _) (by first | (exfalso; omega) | (simp [crF, crW, crG, *]; done))) hM) hS dX8_carriesOut_291
      · refine lv_iconst (v := nI 1) hx hb dX8_carriesOut_286 (by decide) ?_
        refine lv_goto (tgt := 291) hx hb dX8_carriesOut_287 (by decide) ?_
        exact kx_zretM hx hb hrt hlk (by first | (exfalso; omega) | (simp [crW, bI_t, bI_f, *]; done)) (Eq.mpr (congrArg (fun w => MdC D (cs 0) a w _) (by first | (exfalso; omega) | (simp [crF, crW, crG, *]; done))) hM) hS dX8_carriesOut_291
    · have hR6 := wrg_0 hI hw0
      refine lv_aload_n hx hb dX8_carriesOut_77 rfl (lv_at hl 3 rfl) ?_
      refine lv_iload_n hx hb dX8_carriesOut_78 rfl (lv_at hl 2 rfl) ?_
      refine lv_iload_n hx hb dX8_carriesOut_79 rfl (lv_at hl 1 rfl) ?_
      refine lv_aload_n hx hb dX8_carriesOut_80 rfl (lv_at hl 3 rfl) ?_
      refine kx_get (v := .ref (a + 5)) hx hb hts hinX8 hown hK hM.1 rfl 9 (by decide) (by decide +kernel) rfl dX8_carriesOut_81 ?_
      refine lv_iconst (v := nI 2) hx hb dX8_carriesOut_84 (by decide) ?_
      refine kx_iald (i := 2) hx hb hK hM.numbers 0 rfl (by decide) (by decide) dX8_carriesOut_85 ?_
      refine kx_ci (y := x2) hn2 ?_
      refine kx_retM (va_runV (As := [.int (x0), .int (x1), .int (x2)]) (rest := []) ⟨hx, hb, hml, hown, hts⟩ (k_X8_putRing l D cs a z x0 x1 x2 hI (by first | assumption | omega)) (cwV 3 hts gX8_carriesOut_X8_putRing rfl rfl rfl (by decide +kernel) ⟨Nat.le_of_ble_eq_true rfl, Nat.le_of_ble_eq_true rfl⟩) (kx_preV hK hN hM.1 rfl hM) rfl rfl hl.1 rfl (lv_room (Nat.le_of_ble_eq_true rfl)) dX8_carriesOut_86 ⟨Nat.le_of_ble_eq_true rfl, Nat.le_of_ble_eq_true rfl⟩) hS (fun q _ h => h) (fun q h => h) (fun H locs hM hk hS => ?_)
      clear hk
      refine lv_pop hx hb dX8_carriesOut_89 rfl ?_
      refine lv_goto (tgt := 282) hx hb dX8_carriesOut_90 (by decide) ?_
      refine lv_iload_n hx hb dX8_carriesOut_282 rfl (lv_at hl 0 rfl) ?_
      refine kn_if_ne (tgt := 290) hx hb dX8_carriesOut_283 (by decide) (lt31 (wrg_4 _ _ _ _)) (fun hw1 => ?_) (fun hw1 => ?_)
      · refine lv_iconst (v := nI 0) hx hb dX8_carriesOut_290 (by decide) ?_
        exact kx_zretM hx hb hrt hlk (by first | (exfalso; omega) | (simp [crW, bI_t, bI_f, *]; done)) (Eq.mpr (congrArg (fun w => MdC D (cs 0) a w _) (by first | (exfalso; omega) | (simp [crF, crW, crG, *]; done))) hM) hS dX8_carriesOut_291
      · refine lv_iconst (v := nI 1) hx hb dX8_carriesOut_286 (by decide) ?_
        refine lv_goto (tgt := 291) hx hb dX8_carriesOut_287 (by decide) ?_
        exact kx_zretM hx hb hrt hlk (by first | (exfalso; omega) | (simp [crW, bI_t, bI_f, *]; done)) (Eq.mpr (congrArg (fun w => MdC D (cs 0) a w _) (by first | (exfalso; omega) | (simp [crF, crW, crG, *]; done))) hM) hS dX8_carriesOut_291
  · refine lv_tableIn (off := 75) (tgt := 93) hx hb dX8_carriesOut_18 (by decide) (by decide) (by rfl) (by decide) ?_
    refine lv_aload_n hx hb dX8_carriesOut_93 rfl (lv_at hl 2 rfl) ?_
    refine lv_iload_n hx hb dX8_carriesOut_94 rfl (lv_at hl 1 rfl) ?_
    refine lv_iload_n hx hb dX8_carriesOut_95 rfl (lv_at hl 0 rfl) ?_
    refine lv_aload_n hx hb dX8_carriesOut_96 rfl (lv_at hl 2 rfl) ?_
    refine kx_get (v := .ref (a + 5)) hx hb hts hinX8 hown hK hM.1 rfl 9 (by decide) (by decide +kernel) rfl dX8_carriesOut_97 ?_
    refine lv_iconst (v := nI 2) hx hb dX8_carriesOut_100 (by decide) ?_
    refine kx_iald (i := 2) hx hb hK hM.numbers 0 rfl (by decide) (by decide) dX8_carriesOut_101 ?_
    refine kx_ci (y := x2) hn2 ?_
    refine lv_aload_n hx hb dX8_carriesOut_102 rfl (lv_at hl 2 rfl) ?_
    refine kx_get (v := .ref (a + 5)) hx hb hts hinX8 hown hK hM.1 rfl 9 (by decide) (by decide +kernel) rfl dX8_carriesOut_103 ?_
    refine lv_iconst (v := nI 3) hx hb dX8_carriesOut_106 (by decide) ?_
    refine kx_iald (i := 3) hx hb hK hM.numbers 0 rfl (by decide) (by decide) dX8_carriesOut_107 ?_
    refine kx_ci (y := x3) hn3 ?_
    refine lv_aload_n hx hb dX8_carriesOut_108 rfl (lv_at hl 2 rfl) ?_
    refine kx_get (v := .ref (a + 5)) hx hb hts hinX8 hown hK hM.1 rfl 9 (by decide) (by decide +kernel) rfl dX8_carriesOut_109 ?_
    refine lv_iconst (v := nI 4) hx hb dX8_carriesOut_112 (by decide) ?_
    refine kx_iald (i := 4) hx hb hK hM.numbers 0 rfl (by decide) (by decide) dX8_carriesOut_113 ?_
    refine kx_ci (y := x4) hn4 ?_
    refine kx_retP (va_runV (As := [.int (x0), .int (x1), .int (x2), .int (x3), .int (x4)]) (rest := []) ⟨hx, hb, hml, hown, hts⟩ (k_X8_whyNoMove l D cs a z x0 x1 x2 x3 x4 hI) (cwV 5 hts gX8_carriesOut_X8_whyNoMove rfl rfl rfl (by decide +kernel) ⟨Nat.le_of_ble_eq_true rfl, Nat.le_of_ble_eq_true rfl⟩) (kx_preV hK hN hM.1 rfl hM) rfl rfl hl.1 rfl (lv_room (Nat.le_of_ble_eq_true rfl)) dX8_carriesOut_114 ⟨Nat.le_of_ble_eq_true rfl, Nat.le_of_ble_eq_true rfl⟩) ?_
    refine lv_istore_n (lv' := [(3, .int (nI (wmv z x0 x1 x2 x3 x4))), (2, .int (x1)), (1, .int (x0)), (0, .ref (a))]) hx hb dX8_carriesOut_117 rfl hl (by decide) rfl (fun ls hl => ?_)
    refine lv_iload_n hx hb dX8_carriesOut_118 rfl (lv_at hl 0 rfl) ?_
    refine kn_if_ne (tgt := 282) hx hb dX8_carriesOut_119 (by decide) (lt31 (wmv_4 _ _ _ _ _ _)) (fun hw0 => ?_) (fun hw0 => ?_)
    · refine lv_iload_n hx hb dX8_carriesOut_282 rfl (lv_at hl 0 rfl) ?_
      refine kn_if_ne (tgt := 290) hx hb dX8_carriesOut_283 (by decide) (lt31 (wmv_4 _ _ _ _ _ _)) (fun hw1 => ?_) (fun hw1 => ?_)
      · refine lv_iconst (v := nI 0) hx hb dX8_carriesOut_290 (by decide) ?_
        exact kx_zretM hx hb hrt hlk (by first | (exfalso; omega) | (simp [crW, bI_t, bI_f, *]; done)) (Eq.mpr (congrArg (fun w => MdC D (cs 0) a w _) (by first | (exfalso; omega) | (simp [crF, crW, crG, *]; done))) hM) hS dX8_carriesOut_291
      · refine lv_iconst (v := nI 1) hx hb dX8_carriesOut_286 (by decide) ?_
        refine lv_goto (tgt := 291) hx hb dX8_carriesOut_287 (by decide) ?_
        exact kx_zretM hx hb hrt hlk (by first | (exfalso; omega) | (simp [crW, bI_t, bI_f, *]; done)) (Eq.mpr (congrArg (fun w => MdC D (cs 0) a w _) (by first | (exfalso; omega) | (simp [crF, crW, crG, *]; done))) hM) hS dX8_carriesOut_291
    · have hM24 := wmv_0 hI hw0
      refine lv_aload_n hx hb dX8_carriesOut_122 rfl (lv_at hl 3 rfl) ?_
      refine lv_iload_n hx hb dX8_carriesOut_123 rfl (lv_at hl 2 rfl) ?_
      refine lv_iload_n hx hb dX8_carriesOut_124 rfl (lv_at hl 1 rfl) ?_
      refine lv_aload_n hx hb dX8_carriesOut_125 rfl (lv_at hl 3 rfl) ?_
      refine kx_get (v := .ref (a + 5)) hx hb hts hinX8 hown hK hM.1 rfl 9 (by decide) (by decide +kernel) rfl dX8_carriesOut_126 ?_
      refine lv_iconst (v := nI 2) hx hb dX8_carriesOut_129 (by decide) ?_
      refine kx_iald (i := 2) hx hb hK hM.numbers 0 rfl (by decide) (by decide) dX8_carriesOut_130 ?_
      refine kx_ci (y := x2) hn2 ?_
      refine lv_aload_n hx hb dX8_carriesOut_131 rfl (lv_at hl 3 rfl) ?_
      refine kx_get (v := .ref (a + 5)) hx hb hts hinX8 hown hK hM.1 rfl 9 (by decide) (by decide +kernel) rfl dX8_carriesOut_132 ?_
      refine lv_iconst (v := nI 3) hx hb dX8_carriesOut_135 (by decide) ?_
      refine kx_iald (i := 3) hx hb hK hM.numbers 0 rfl (by decide) (by decide) dX8_carriesOut_136 ?_
      refine kx_ci (y := x3) hn3 ?_
      refine lv_aload_n hx hb dX8_carriesOut_137 rfl (lv_at hl 3 rfl) ?_
      refine kx_get (v := .ref (a + 5)) hx hb hts hinX8 hown hK hM.1 rfl 9 (by decide) (by decide +kernel) rfl dX8_carriesOut_138 ?_
      refine lv_iconst (v := nI 4) hx hb dX8_carriesOut_141 (by decide) ?_
      refine kx_iald (i := 4) hx hb hK hM.numbers 0 rfl (by decide) (by decide) dX8_carriesOut_142 ?_
      refine kx_ci (y := x4) hn4 ?_
      refine kx_retM (va_runV (As := [.int (x0), .int (x1), .int (x2), .int (x3), .int (x4)]) (rest := []) ⟨hx, hb, hml, hown, hts⟩ (k_X8_putMove l D cs a z x0 x1 x2 x3 x4 hI (by first | assumption | omega)) (cwV 5 hts gX8_carriesOut_X8_putMove rfl rfl rfl (by decide +kernel) ⟨Nat.le_of_ble_eq_true rfl, Nat.le_of_ble_eq_true rfl⟩) (kx_preV hK hN hM.1 rfl hM) rfl rfl hl.1 rfl (lv_room (Nat.le_of_ble_eq_true rfl)) dX8_carriesOut_143 ⟨Nat.le_of_ble_eq_true rfl, Nat.le_of_ble_eq_true rfl⟩) hS (fun q _ h => h) (fun q h => h) (fun H locs hM hk hS => ?_)
      clear hk
      refine lv_pop hx hb dX8_carriesOut_146 rfl ?_
      refine lv_goto (tgt := 282) hx hb dX8_carriesOut_147 (by decide) ?_
      refine lv_iload_n hx hb dX8_carriesOut_282 rfl (lv_at hl 0 rfl) ?_
      refine kn_if_ne (tgt := 290) hx hb dX8_carriesOut_283 (by decide) (lt31 (wmv_4 _ _ _ _ _ _)) (fun hw1 => ?_) (fun hw1 => ?_)
      · refine lv_iconst (v := nI 0) hx hb dX8_carriesOut_290 (by decide) ?_
        exact kx_zretM hx hb hrt hlk (by first | (exfalso; omega) | (simp [crW, bI_t, bI_f, *]; done)) (Eq.mpr (congrArg (fun w => MdC D (cs 0) a w _) (by first | (exfalso; omega) | (simp [crF, crW, crG, *]; done))) hM) hS dX8_carriesOut_291
      · refine lv_iconst (v := nI 1) hx hb dX8_carriesOut_286 (by decide) ?_
        refine lv_goto (tgt := 291) hx hb dX8_carriesOut_287 (by decide) ?_
        exact kx_zretM hx hb hrt hlk (by first | (exfalso; omega) | (simp [crW, bI_t, bI_f, *]; done)) (Eq.mpr (congrArg (fun w => MdC D (cs 0) a w _) (by first | (exfalso; omega) | (simp [crF, crW, crG, *]; done))) hM) hS dX8_carriesOut_291
  · refine lv_tableIn (off := 132) (tgt := 150) hx hb dX8_carriesOut_18 (by decide) (by decide) (by rfl) (by decide) ?_
    refine lv_aload_n hx hb dX8_carriesOut_150 rfl (lv_at hl 2 rfl) ?_
    refine lv_iload_n hx hb dX8_carriesOut_151 rfl (lv_at hl 1 rfl) ?_
    refine kx_retP (va_runV (As := [.int (x0)]) (rest := []) ⟨hx, hb, hml, hown, hts⟩ (k_X8_whyNotSigned l D cs a z x0 hI) (cwV 1 hts gX8_carriesOut_X8_whyNotSigned rfl rfl rfl (by decide +kernel) ⟨Nat.le_of_ble_eq_true rfl, Nat.le_of_ble_eq_true rfl⟩) (kx_preV hK hN hM.1 rfl hM) rfl rfl hl.1 rfl (lv_room (Nat.le_of_ble_eq_true rfl)) dX8_carriesOut_152 ⟨Nat.le_of_ble_eq_true rfl, Nat.le_of_ble_eq_true rfl⟩) ?_
    refine lv_istore_n (lv' := [(3, .int (nI (wsg z x0))), (2, .int (x1)), (1, .int (x0)), (0, .ref (a))]) hx hb dX8_carriesOut_155 rfl hl (by decide) rfl (fun ls hl => ?_)
    refine lv_iload_n hx hb dX8_carriesOut_156 rfl (lv_at hl 0 rfl) ?_
    refine kn_if_ne (tgt := 282) hx hb dX8_carriesOut_157 (by decide) (lt31 (wsg_4 _ _)) (fun hw0 => ?_) (fun hw0 => ?_)
    · refine lv_iload_n hx hb dX8_carriesOut_282 rfl (lv_at hl 0 rfl) ?_
      refine kn_if_ne (tgt := 290) hx hb dX8_carriesOut_283 (by decide) (lt31 (wsg_4 _ _)) (fun hw1 => ?_) (fun hw1 => ?_)
      · refine lv_iconst (v := nI 0) hx hb dX8_carriesOut_290 (by decide) ?_
        exact kx_zretM hx hb hrt hlk (by first | (exfalso; omega) | (simp [crW, bI_t, bI_f, *]; done)) (Eq.mpr (congrArg (fun w => MdC D (cs 0) a w _) (by first | (exfalso; omega) | (simp [crF, crW, crG, *]; done))) hM) hS dX8_carriesOut_291
      · refine lv_iconst (v := nI 1) hx hb dX8_carriesOut_286 (by decide) ?_
        refine lv_goto (tgt := 291) hx hb dX8_carriesOut_287 (by decide) ?_
        exact kx_zretM hx hb hrt hlk (by first | (exfalso; omega) | (simp [crW, bI_t, bI_f, *]; done)) (Eq.mpr (congrArg (fun w => MdC D (cs 0) a w _) (by first | (exfalso; omega) | (simp [crF, crW, crG, *]; done))) hM) hS dX8_carriesOut_291
    · obtain ⟨r, hr, rfl, hfl⟩ := wsg_0 hI hw0
      have hnr : nn (nI r) = r := nn_nI (by have := hI.R6; omega)
      refine lv_aload_n hx hb dX8_carriesOut_160 rfl (lv_at hl 3 rfl) ?_
      refine lv_aload_n hx hb dX8_carriesOut_161 rfl (lv_at hl 3 rfl) ?_
      refine lv_iload_n hx hb dX8_carriesOut_162 rfl (lv_at hl 2 rfl) ?_
      refine kx_retP (va_runV (As := [.int (nI (r))]) (rest := [.ref (a)]) ⟨hx, hb, hml, hown, hts⟩ (k_X8_firstCopied l D cs a z r hI (by first | assumption | omega)) (cwV 1 hts gX8_carriesOut_X8_firstCopied rfl rfl rfl (by decide +kernel) ⟨Nat.le_of_ble_eq_true rfl, Nat.le_of_ble_eq_true rfl⟩) (kx_preV hK hN hM.1 rfl hM) rfl rfl hl.1 rfl (lv_room (Nat.le_of_ble_eq_true rfl)) dX8_carriesOut_163 ⟨Nat.le_of_ble_eq_true rfl, Nat.le_of_ble_eq_true rfl⟩) ?_
      refine kx_ci (y := nI (fcN z r)) (fcI_is hfl) ?_
      refine kx_retM (va_runV (As := [.int (nI (fcN z r))]) (rest := []) ⟨hx, hb, hml, hown, hts⟩ (k_X8_signMove l D cs a z (fcN z r) (by have := hI.M24; omega)) (cwV 1 hts gX8_carriesOut_X8_signMove rfl rfl rfl (by decide +kernel) ⟨Nat.le_of_ble_eq_true rfl, Nat.le_of_ble_eq_true rfl⟩) (kx_preV hK hN hM.1 rfl hM) rfl rfl hl.1 rfl (lv_room (Nat.le_of_ble_eq_true rfl)) dX8_carriesOut_166 ⟨Nat.le_of_ble_eq_true rfl, Nat.le_of_ble_eq_true rfl⟩) hS (fun q _ h => h) (fun q h => h) (fun H locs hM hk hS => ?_)
      clear hk
      refine lv_goto (tgt := 282) hx hb dX8_carriesOut_169 (by decide) ?_
      refine lv_iload_n hx hb dX8_carriesOut_282 rfl (lv_at hl 0 rfl) ?_
      refine kn_if_ne (tgt := 290) hx hb dX8_carriesOut_283 (by decide) (lt31 (wsg_4 _ _)) (fun hw1 => ?_) (fun hw1 => ?_)
      · refine lv_iconst (v := nI 0) hx hb dX8_carriesOut_290 (by decide) ?_
        exact kx_zretM hx hb hrt hlk (by first | (exfalso; omega) | (simp [crW, bI_t, bI_f, *]; done)) (Eq.mpr (congrArg (fun w => MdC D (cs 0) a w _) (by first | (exfalso; omega) | (simp [crF, crW, crG, *]; done))) hM) hS dX8_carriesOut_291
      · refine lv_iconst (v := nI 1) hx hb dX8_carriesOut_286 (by decide) ?_
        refine lv_goto (tgt := 291) hx hb dX8_carriesOut_287 (by decide) ?_
        exact kx_zretM hx hb hrt hlk (by first | (exfalso; omega) | (simp [crW, bI_t, bI_f, *]; done)) (Eq.mpr (congrArg (fun w => MdC D (cs 0) a w _) (by first | (exfalso; omega) | (simp [crF, crW, crG, *]; done))) hM) hS dX8_carriesOut_291
  · refine lv_tableIn (off := 154) (tgt := 172) hx hb dX8_carriesOut_18 (by decide) (by decide) (by rfl) (by decide) ?_
    refine lv_aload_n hx hb dX8_carriesOut_172 rfl (lv_at hl 2 rfl) ?_
    refine lv_iload_n hx hb dX8_carriesOut_173 rfl (lv_at hl 1 rfl) ?_
    refine lv_aload_n hx hb dX8_carriesOut_174 rfl (lv_at hl 2 rfl) ?_
    refine kx_get (v := .int (z 4407)) hx hb hts hinX8 hown hK hM.1 rfl 8 (by decide) (by decide +kernel) rfl dX8_carriesOut_175 ?_
    refine kx_ci (y := nI (3)) hkd ?_
    refine lv_iconst (v := nI 3) hx hb dX8_carriesOut_178 (by decide) ?_
    refine kn_icmp_ne (tgt := 186) hx hb dX8_carriesOut_179 (by decide) (by decide) (by decide) (fun c_1 => ?_) (fun c_1 => ?_)
    · refine lv_iconst (v := nI 0) hx hb dX8_carriesOut_186 (by decide) ?_
      refine kx_retP (va_runV (As := [.int (x0), .int (nI (0))]) (rest := []) ⟨hx, hb, hml, hown, hts⟩ (k_X8_whyNoStrike l D cs a z x0 (nI (0)) hI) (cwV 2 hts gX8_carriesOut_X8_whyNoStrike rfl rfl rfl (by decide +kernel) ⟨Nat.le_of_ble_eq_true rfl, Nat.le_of_ble_eq_true rfl⟩) (kx_preV hK hN hM.1 rfl hM) rfl rfl hl.1 rfl (lv_room (Nat.le_of_ble_eq_true rfl)) dX8_carriesOut_187 ⟨Nat.le_of_ble_eq_true rfl, Nat.le_of_ble_eq_true rfl⟩) ?_
      refine lv_istore_n (lv' := [(3, .int (nI (wst z x0 (nI (0))))), (2, .int (x1)), (1, .int (x0)), (0, .ref (a))]) hx hb dX8_carriesOut_190 rfl hl (by decide) rfl (fun ls hl => ?_)
      refine lv_iload_n hx hb dX8_carriesOut_191 rfl (lv_at hl 0 rfl) ?_
      refine kn_if_ne (tgt := 282) hx hb dX8_carriesOut_192 (by decide) (lt31 (wst_4 _ _ _)) (fun hw0 => ?_) (fun hw0 => ?_)
      · refine lv_iload_n hx hb dX8_carriesOut_282 rfl (lv_at hl 0 rfl) ?_
        refine kn_if_ne (tgt := 290) hx hb dX8_carriesOut_283 (by decide) (lt31 (wst_4 _ _ _)) (fun hw1 => ?_) (fun hw1 => ?_)
        · refine lv_iconst (v := nI 0) hx hb dX8_carriesOut_290 (by decide) ?_
          exact kx_zretM hx hb hrt hlk (by first | (exfalso; omega) | (simp [crW, bI_t, bI_f, *]; done)) (Eq.mpr (congrArg (fun w => MdC D (cs 0) a w _) (by first | (exfalso; omega) | (simp [crF, crW, crG, *]; done))) hM) hS dX8_carriesOut_291
        · refine lv_iconst (v := nI 1) hx hb dX8_carriesOut_286 (by decide) ?_
          refine lv_goto (tgt := 291) hx hb dX8_carriesOut_287 (by decide) ?_
          exact kx_zretM hx hb hrt hlk (by first | (exfalso; omega) | (simp [crW, bI_t, bI_f, *]; done)) (Eq.mpr (congrArg (fun w => MdC D (cs 0) a w _) (by first | (exfalso; omega) | (simp [crF, crW, crG, *]; done))) hM) hS dX8_carriesOut_291
      · obtain ⟨r, hr, rfl⟩ := wst_0 hI hw0
        have hnr : nn (nI r) = r := nn_nI (by have := hI.R6; omega)
        have h6 := hI.R6
        refine lv_aload_n hx hb dX8_carriesOut_195 rfl (lv_at hl 3 rfl) ?_
        refine kx_get (v := .ref (a + 1)) hx hb hts hinX8 hown hK hM.1 rfl 1 (by decide) (by decide +kernel) rfl dX8_carriesOut_196 ?_
        refine lv_bipush (v := nI 56) hx hb dX8_carriesOut_199 (by decide) ?_
        refine lv_iconst (v := nI 4) hx hb dX8_carriesOut_201 (by decide) ?_
        refine lv_iload_n hx hb dX8_carriesOut_202 rfl (lv_at hl 2 rfl) ?_
        refine kn_mul hx hb dX8_carriesOut_203 ?_
        refine kn_add hx hb dX8_carriesOut_204 ?_
        refine lv_iconst (v := nI 3) hx hb dX8_carriesOut_205 (by decide) ?_
        refine kn_add hx hb dX8_carriesOut_206 ?_
        refine lv_aload_n hx hb dX8_carriesOut_207 rfl (lv_at hl 3 rfl) ?_
        refine kx_get (v := .int (z 4407)) hx hb hts hinX8 hown hK hM.1 rfl 8 (by decide) (by decide +kernel) rfl dX8_carriesOut_208 ?_
        refine kx_ci (y := nI (3)) hkd ?_
        refine lv_iconst (v := nI 3) hx hb dX8_carriesOut_211 (by decide) ?_
        refine kn_icmp_ne (tgt := 219) hx hb dX8_carriesOut_212 (by decide) (by decide) (by decide) (fun c_2 => ?_) (fun c_2 => ?_)
        · refine lv_iconst (v := nI 0) hx hb dX8_carriesOut_219 (by decide) ?_
          refine kx_iast (i := 56 + (4 * r) + 3) hx hb hK hM.state hS ⟨by omega, by omega⟩ 0 rfl (by omega) (by decide) dX8_carriesOut_220 (fun H locs hc hU hS => ?_)
          have hM := hM.put_state (by omega) hc hU
          clear hc hU
          refine lv_goto (tgt := 282) hx hb dX8_carriesOut_221 (by decide) ?_
          refine lv_iload_n hx hb dX8_carriesOut_282 rfl (lv_at hl 0 rfl) ?_
          refine kn_if_ne (tgt := 290) hx hb dX8_carriesOut_283 (by decide) (lt31 (wst_4 _ _ _)) (fun hw1 => ?_) (fun hw1 => ?_)
          · refine lv_iconst (v := nI 0) hx hb dX8_carriesOut_290 (by decide) ?_
            exact kx_zretM hx hb hrt hlk (by first | (exfalso; omega) | (simp [crW, bI_t, bI_f, *]; done)) (Eq.mpr (congrArg (fun w => MdC D (cs 0) a w _) (by first | (exfalso; omega) | (simp [crF, crW, crG, *]; done))) hM) hS dX8_carriesOut_291
          · refine lv_iconst (v := nI 1) hx hb dX8_carriesOut_286 (by decide) ?_
            refine lv_goto (tgt := 291) hx hb dX8_carriesOut_287 (by decide) ?_
            exact kx_zretM hx hb hrt hlk (by first | (exfalso; omega) | (simp [crW, bI_t, bI_f, *]; done)) (Eq.mpr (congrArg (fun w => MdC D (cs 0) a w _) (by first | (exfalso; omega) | (simp [crF, crW, crG, *]; done))) hM) hS dX8_carriesOut_291
        · refine lv_iconst (v := nI 1) hx hb dX8_carriesOut_215 (by decide) ?_
          refine lv_goto (tgt := 220) hx hb dX8_carriesOut_216 (by decide) ?_
          refine kx_iast (i := 56 + (4 * r) + 3) hx hb hK hM.state hS ⟨by omega, by omega⟩ 0 rfl (by omega) (by decide) dX8_carriesOut_220 (fun H locs hc hU hS => ?_)
          have hM := hM.put_state (by omega) hc hU
          clear hc hU
          refine lv_goto (tgt := 282) hx hb dX8_carriesOut_221 (by decide) ?_
          refine lv_iload_n hx hb dX8_carriesOut_282 rfl (lv_at hl 0 rfl) ?_
          refine kn_if_ne (tgt := 290) hx hb dX8_carriesOut_283 (by decide) (lt31 (wst_4 _ _ _)) (fun hw1 => ?_) (fun hw1 => ?_)
          · refine lv_iconst (v := nI 0) hx hb dX8_carriesOut_290 (by decide) ?_
            exact kx_zretM hx hb hrt hlk (by first | (exfalso; omega) | (simp [crW, bI_t, bI_f, *]; done)) (Eq.mpr (congrArg (fun w => MdC D (cs 0) a w _) (by first | (exfalso; omega) | (simp [crF, crW, crG, *]; done))) hM) hS dX8_carriesOut_291
          · refine lv_iconst (v := nI 1) hx hb dX8_carriesOut_286 (by decide) ?_
            refine lv_goto (tgt := 291) hx hb dX8_carriesOut_287 (by decide) ?_
            exact kx_zretM hx hb hrt hlk (by first | (exfalso; omega) | (simp [crW, bI_t, bI_f, *]; done)) (Eq.mpr (congrArg (fun w => MdC D (cs 0) a w _) (by first | (exfalso; omega) | (simp [crF, crW, crG, *]; done))) hM) hS dX8_carriesOut_291
    · refine lv_iconst (v := nI 1) hx hb dX8_carriesOut_182 (by decide) ?_
      refine lv_goto (tgt := 187) hx hb dX8_carriesOut_183 (by decide) ?_
      refine kx_retP (va_runV (As := [.int (x0), .int (nI (1))]) (rest := []) ⟨hx, hb, hml, hown, hts⟩ (k_X8_whyNoStrike l D cs a z x0 (nI (1)) hI) (cwV 2 hts gX8_carriesOut_X8_whyNoStrike rfl rfl rfl (by decide +kernel) ⟨Nat.le_of_ble_eq_true rfl, Nat.le_of_ble_eq_true rfl⟩) (kx_preV hK hN hM.1 rfl hM) rfl rfl hl.1 rfl (lv_room (Nat.le_of_ble_eq_true rfl)) dX8_carriesOut_187 ⟨Nat.le_of_ble_eq_true rfl, Nat.le_of_ble_eq_true rfl⟩) ?_
      refine lv_istore_n (lv' := [(3, .int (nI (wst z x0 (nI (1))))), (2, .int (x1)), (1, .int (x0)), (0, .ref (a))]) hx hb dX8_carriesOut_190 rfl hl (by decide) rfl (fun ls hl => ?_)
      refine lv_iload_n hx hb dX8_carriesOut_191 rfl (lv_at hl 0 rfl) ?_
      refine kn_if_ne (tgt := 282) hx hb dX8_carriesOut_192 (by decide) (lt31 (wst_4 _ _ _)) (fun hw0 => ?_) (fun hw0 => ?_)
      · refine lv_iload_n hx hb dX8_carriesOut_282 rfl (lv_at hl 0 rfl) ?_
        refine kn_if_ne (tgt := 290) hx hb dX8_carriesOut_283 (by decide) (lt31 (wst_4 _ _ _)) (fun hw1 => ?_) (fun hw1 => ?_)
        · refine lv_iconst (v := nI 0) hx hb dX8_carriesOut_290 (by decide) ?_
          exact kx_zretM hx hb hrt hlk (by first | (exfalso; omega) | (simp [crW, bI_t, bI_f, *]; done)) (Eq.mpr (congrArg (fun w => MdC D (cs 0) a w _) (by first | (exfalso; omega) | (simp [crF, crW, crG, *]; done))) hM) hS dX8_carriesOut_291
        · refine lv_iconst (v := nI 1) hx hb dX8_carriesOut_286 (by decide) ?_
          refine lv_goto (tgt := 291) hx hb dX8_carriesOut_287 (by decide) ?_
          exact kx_zretM hx hb hrt hlk (by first | (exfalso; omega) | (simp [crW, bI_t, bI_f, *]; done)) (Eq.mpr (congrArg (fun w => MdC D (cs 0) a w _) (by first | (exfalso; omega) | (simp [crF, crW, crG, *]; done))) hM) hS dX8_carriesOut_291
      · obtain ⟨r, hr, rfl⟩ := wst_0 hI hw0
        have hnr : nn (nI r) = r := nn_nI (by have := hI.R6; omega)
        have h6 := hI.R6
        refine lv_aload_n hx hb dX8_carriesOut_195 rfl (lv_at hl 3 rfl) ?_
        refine kx_get (v := .ref (a + 1)) hx hb hts hinX8 hown hK hM.1 rfl 1 (by decide) (by decide +kernel) rfl dX8_carriesOut_196 ?_
        refine lv_bipush (v := nI 56) hx hb dX8_carriesOut_199 (by decide) ?_
        refine lv_iconst (v := nI 4) hx hb dX8_carriesOut_201 (by decide) ?_
        refine lv_iload_n hx hb dX8_carriesOut_202 rfl (lv_at hl 2 rfl) ?_
        refine kn_mul hx hb dX8_carriesOut_203 ?_
        refine kn_add hx hb dX8_carriesOut_204 ?_
        refine lv_iconst (v := nI 3) hx hb dX8_carriesOut_205 (by decide) ?_
        refine kn_add hx hb dX8_carriesOut_206 ?_
        refine lv_aload_n hx hb dX8_carriesOut_207 rfl (lv_at hl 3 rfl) ?_
        refine kx_get (v := .int (z 4407)) hx hb hts hinX8 hown hK hM.1 rfl 8 (by decide) (by decide +kernel) rfl dX8_carriesOut_208 ?_
        refine kx_ci (y := nI (3)) hkd ?_
        refine lv_iconst (v := nI 3) hx hb dX8_carriesOut_211 (by decide) ?_
        refine kn_icmp_ne (tgt := 219) hx hb dX8_carriesOut_212 (by decide) (by decide) (by decide) (fun c_3 => ?_) (fun c_3 => ?_)
        · refine lv_iconst (v := nI 0) hx hb dX8_carriesOut_219 (by decide) ?_
          refine kx_iast (i := 56 + (4 * r) + 3) hx hb hK hM.state hS ⟨by omega, by omega⟩ 0 rfl (by omega) (by decide) dX8_carriesOut_220 (fun H locs hc hU hS => ?_)
          have hM := hM.put_state (by omega) hc hU
          clear hc hU
          refine lv_goto (tgt := 282) hx hb dX8_carriesOut_221 (by decide) ?_
          refine lv_iload_n hx hb dX8_carriesOut_282 rfl (lv_at hl 0 rfl) ?_
          refine kn_if_ne (tgt := 290) hx hb dX8_carriesOut_283 (by decide) (lt31 (wst_4 _ _ _)) (fun hw1 => ?_) (fun hw1 => ?_)
          · refine lv_iconst (v := nI 0) hx hb dX8_carriesOut_290 (by decide) ?_
            exact kx_zretM hx hb hrt hlk (by first | (exfalso; omega) | (simp [crW, bI_t, bI_f, *]; done)) (Eq.mpr (congrArg (fun w => MdC D (cs 0) a w _) (by first | (exfalso; omega) | (simp [crF, crW, crG, *]; done))) hM) hS dX8_carriesOut_291
          · refine lv_iconst (v := nI 1) hx hb dX8_carriesOut_286 (by decide) ?_
            refine lv_goto (tgt := 291) hx hb dX8_carriesOut_287 (by decide) ?_
            exact kx_zretM hx hb hrt hlk (by first | (exfalso; omega) | (simp [crW, bI_t, bI_f, *]; done)) (Eq.mpr (congrArg (fun w => MdC D (cs 0) a w _) (by first | (exfalso; omega) | (simp [crF, crW, crG, *]; done))) hM) hS dX8_carriesOut_291
        · refine lv_iconst (v := nI 1) hx hb dX8_carriesOut_215 (by decide) ?_
          refine lv_goto (tgt := 220) hx hb dX8_carriesOut_216 (by decide) ?_
          refine kx_iast (i := 56 + (4 * r) + 3) hx hb hK hM.state hS ⟨by omega, by omega⟩ 0 rfl (by omega) (by decide) dX8_carriesOut_220 (fun H locs hc hU hS => ?_)
          have hM := hM.put_state (by omega) hc hU
          clear hc hU
          refine lv_goto (tgt := 282) hx hb dX8_carriesOut_221 (by decide) ?_
          refine lv_iload_n hx hb dX8_carriesOut_282 rfl (lv_at hl 0 rfl) ?_
          refine kn_if_ne (tgt := 290) hx hb dX8_carriesOut_283 (by decide) (lt31 (wst_4 _ _ _)) (fun hw1 => ?_) (fun hw1 => ?_)
          · refine lv_iconst (v := nI 0) hx hb dX8_carriesOut_290 (by decide) ?_
            exact kx_zretM hx hb hrt hlk (by first | (exfalso; omega) | (simp [crW, bI_t, bI_f, *]; done)) (Eq.mpr (congrArg (fun w => MdC D (cs 0) a w _) (by first | (exfalso; omega) | (simp [crF, crW, crG, *]; done))) hM) hS dX8_carriesOut_291
          · refine lv_iconst (v := nI 1) hx hb dX8_carriesOut_286 (by decide) ?_
            refine lv_goto (tgt := 291) hx hb dX8_carriesOut_287 (by decide) ?_
            exact kx_zretM hx hb hrt hlk (by first | (exfalso; omega) | (simp [crW, bI_t, bI_f, *]; done)) (Eq.mpr (congrArg (fun w => MdC D (cs 0) a w _) (by first | (exfalso; omega) | (simp [crF, crW, crG, *]; done))) hM) hS dX8_carriesOut_291
  · refine lv_tableIn (off := 154) (tgt := 172) hx hb dX8_carriesOut_18 (by decide) (by decide) (by rfl) (by decide) ?_
    refine lv_aload_n hx hb dX8_carriesOut_172 rfl (lv_at hl 2 rfl) ?_
    refine lv_iload_n hx hb dX8_carriesOut_173 rfl (lv_at hl 1 rfl) ?_
    refine lv_aload_n hx hb dX8_carriesOut_174 rfl (lv_at hl 2 rfl) ?_
    refine kx_get (v := .int (z 4407)) hx hb hts hinX8 hown hK hM.1 rfl 8 (by decide) (by decide +kernel) rfl dX8_carriesOut_175 ?_
    refine kx_ci (y := nI (4)) hkd ?_
    refine lv_iconst (v := nI 3) hx hb dX8_carriesOut_178 (by decide) ?_
    refine kn_icmp_ne (tgt := 186) hx hb dX8_carriesOut_179 (by decide) (by decide) (by decide) (fun c_4 => ?_) (fun c_4 => ?_)
    · refine lv_iconst (v := nI 0) hx hb dX8_carriesOut_186 (by decide) ?_
      refine kx_retP (va_runV (As := [.int (x0), .int (nI (0))]) (rest := []) ⟨hx, hb, hml, hown, hts⟩ (k_X8_whyNoStrike l D cs a z x0 (nI (0)) hI) (cwV 2 hts gX8_carriesOut_X8_whyNoStrike rfl rfl rfl (by decide +kernel) ⟨Nat.le_of_ble_eq_true rfl, Nat.le_of_ble_eq_true rfl⟩) (kx_preV hK hN hM.1 rfl hM) rfl rfl hl.1 rfl (lv_room (Nat.le_of_ble_eq_true rfl)) dX8_carriesOut_187 ⟨Nat.le_of_ble_eq_true rfl, Nat.le_of_ble_eq_true rfl⟩) ?_
      refine lv_istore_n (lv' := [(3, .int (nI (wst z x0 (nI (0))))), (2, .int (x1)), (1, .int (x0)), (0, .ref (a))]) hx hb dX8_carriesOut_190 rfl hl (by decide) rfl (fun ls hl => ?_)
      refine lv_iload_n hx hb dX8_carriesOut_191 rfl (lv_at hl 0 rfl) ?_
      refine kn_if_ne (tgt := 282) hx hb dX8_carriesOut_192 (by decide) (lt31 (wst_4 _ _ _)) (fun hw0 => ?_) (fun hw0 => ?_)
      · refine lv_iload_n hx hb dX8_carriesOut_282 rfl (lv_at hl 0 rfl) ?_
        refine kn_if_ne (tgt := 290) hx hb dX8_carriesOut_283 (by decide) (lt31 (wst_4 _ _ _)) (fun hw1 => ?_) (fun hw1 => ?_)
        · refine lv_iconst (v := nI 0) hx hb dX8_carriesOut_290 (by decide) ?_
          exact kx_zretM hx hb hrt hlk (by first | (exfalso; omega) | (simp [crW, bI_t, bI_f, *]; done)) (Eq.mpr (congrArg (fun w => MdC D (cs 0) a w _) (by first | (exfalso; omega) | (simp [crF, crW, crG, *]; done))) hM) hS dX8_carriesOut_291
        · refine lv_iconst (v := nI 1) hx hb dX8_carriesOut_286 (by decide) ?_
          refine lv_goto (tgt := 291) hx hb dX8_carriesOut_287 (by decide) ?_
          exact kx_zretM hx hb hrt hlk (by first | (exfalso; omega) | (simp [crW, bI_t, bI_f, *]; done)) (Eq.mpr (congrArg (fun w => MdC D (cs 0) a w _) (by first | (exfalso; omega) | (simp [crF, crW, crG, *]; done))) hM) hS dX8_carriesOut_291
      · obtain ⟨r, hr, rfl⟩ := wst_0 hI hw0
        have hnr : nn (nI r) = r := nn_nI (by have := hI.R6; omega)
        have h6 := hI.R6
        refine lv_aload_n hx hb dX8_carriesOut_195 rfl (lv_at hl 3 rfl) ?_
        refine kx_get (v := .ref (a + 1)) hx hb hts hinX8 hown hK hM.1 rfl 1 (by decide) (by decide +kernel) rfl dX8_carriesOut_196 ?_
        refine lv_bipush (v := nI 56) hx hb dX8_carriesOut_199 (by decide) ?_
        refine lv_iconst (v := nI 4) hx hb dX8_carriesOut_201 (by decide) ?_
        refine lv_iload_n hx hb dX8_carriesOut_202 rfl (lv_at hl 2 rfl) ?_
        refine kn_mul hx hb dX8_carriesOut_203 ?_
        refine kn_add hx hb dX8_carriesOut_204 ?_
        refine lv_iconst (v := nI 3) hx hb dX8_carriesOut_205 (by decide) ?_
        refine kn_add hx hb dX8_carriesOut_206 ?_
        refine lv_aload_n hx hb dX8_carriesOut_207 rfl (lv_at hl 3 rfl) ?_
        refine kx_get (v := .int (z 4407)) hx hb hts hinX8 hown hK hM.1 rfl 8 (by decide) (by decide +kernel) rfl dX8_carriesOut_208 ?_
        refine kx_ci (y := nI (4)) hkd ?_
        refine lv_iconst (v := nI 3) hx hb dX8_carriesOut_211 (by decide) ?_
        refine kn_icmp_ne (tgt := 219) hx hb dX8_carriesOut_212 (by decide) (by decide) (by decide) (fun c_5 => ?_) (fun c_5 => ?_)
        · refine lv_iconst (v := nI 0) hx hb dX8_carriesOut_219 (by decide) ?_
          refine kx_iast (i := 56 + (4 * r) + 3) hx hb hK hM.state hS ⟨by omega, by omega⟩ 0 rfl (by omega) (by decide) dX8_carriesOut_220 (fun H locs hc hU hS => ?_)
          have hM := hM.put_state (by omega) hc hU
          clear hc hU
          refine lv_goto (tgt := 282) hx hb dX8_carriesOut_221 (by decide) ?_
          refine lv_iload_n hx hb dX8_carriesOut_282 rfl (lv_at hl 0 rfl) ?_
          refine kn_if_ne (tgt := 290) hx hb dX8_carriesOut_283 (by decide) (lt31 (wst_4 _ _ _)) (fun hw1 => ?_) (fun hw1 => ?_)
          · refine lv_iconst (v := nI 0) hx hb dX8_carriesOut_290 (by decide) ?_
            exact kx_zretM hx hb hrt hlk (by first | (exfalso; omega) | (simp [crW, bI_t, bI_f, *]; done)) (Eq.mpr (congrArg (fun w => MdC D (cs 0) a w _) (by first | (exfalso; omega) | (simp [crF, crW, crG, *]; done))) hM) hS dX8_carriesOut_291
          · refine lv_iconst (v := nI 1) hx hb dX8_carriesOut_286 (by decide) ?_
            refine lv_goto (tgt := 291) hx hb dX8_carriesOut_287 (by decide) ?_
            exact kx_zretM hx hb hrt hlk (by first | (exfalso; omega) | (simp [crW, bI_t, bI_f, *]; done)) (Eq.mpr (congrArg (fun w => MdC D (cs 0) a w _) (by first | (exfalso; omega) | (simp [crF, crW, crG, *]; done))) hM) hS dX8_carriesOut_291
        · refine lv_iconst (v := nI 1) hx hb dX8_carriesOut_215 (by decide) ?_
          refine lv_goto (tgt := 220) hx hb dX8_carriesOut_216 (by decide) ?_
          refine kx_iast (i := 56 + (4 * r) + 3) hx hb hK hM.state hS ⟨by omega, by omega⟩ 0 rfl (by omega) (by decide) dX8_carriesOut_220 (fun H locs hc hU hS => ?_)
          have hM := hM.put_state (by omega) hc hU
          clear hc hU
          refine lv_goto (tgt := 282) hx hb dX8_carriesOut_221 (by decide) ?_
          refine lv_iload_n hx hb dX8_carriesOut_282 rfl (lv_at hl 0 rfl) ?_
          refine kn_if_ne (tgt := 290) hx hb dX8_carriesOut_283 (by decide) (lt31 (wst_4 _ _ _)) (fun hw1 => ?_) (fun hw1 => ?_)
          · refine lv_iconst (v := nI 0) hx hb dX8_carriesOut_290 (by decide) ?_
            exact kx_zretM hx hb hrt hlk (by first | (exfalso; omega) | (simp [crW, bI_t, bI_f, *]; done)) (Eq.mpr (congrArg (fun w => MdC D (cs 0) a w _) (by first | (exfalso; omega) | (simp [crF, crW, crG, *]; done))) hM) hS dX8_carriesOut_291
          · refine lv_iconst (v := nI 1) hx hb dX8_carriesOut_286 (by decide) ?_
            refine lv_goto (tgt := 291) hx hb dX8_carriesOut_287 (by decide) ?_
            exact kx_zretM hx hb hrt hlk (by first | (exfalso; omega) | (simp [crW, bI_t, bI_f, *]; done)) (Eq.mpr (congrArg (fun w => MdC D (cs 0) a w _) (by first | (exfalso; omega) | (simp [crF, crW, crG, *]; done))) hM) hS dX8_carriesOut_291
    · refine lv_iconst (v := nI 1) hx hb dX8_carriesOut_182 (by decide) ?_
      refine lv_goto (tgt := 187) hx hb dX8_carriesOut_183 (by decide) ?_
      refine kx_retP (va_runV (As := [.int (x0), .int (nI (1))]) (rest := []) ⟨hx, hb, hml, hown, hts⟩ (k_X8_whyNoStrike l D cs a z x0 (nI (1)) hI) (cwV 2 hts gX8_carriesOut_X8_whyNoStrike rfl rfl rfl (by decide +kernel) ⟨Nat.le_of_ble_eq_true rfl, Nat.le_of_ble_eq_true rfl⟩) (kx_preV hK hN hM.1 rfl hM) rfl rfl hl.1 rfl (lv_room (Nat.le_of_ble_eq_true rfl)) dX8_carriesOut_187 ⟨Nat.le_of_ble_eq_true rfl, Nat.le_of_ble_eq_true rfl⟩) ?_
      refine lv_istore_n (lv' := [(3, .int (nI (wst z x0 (nI (1))))), (2, .int (x1)), (1, .int (x0)), (0, .ref (a))]) hx hb dX8_carriesOut_190 rfl hl (by decide) rfl (fun ls hl => ?_)
      refine lv_iload_n hx hb dX8_carriesOut_191 rfl (lv_at hl 0 rfl) ?_
      refine kn_if_ne (tgt := 282) hx hb dX8_carriesOut_192 (by decide) (lt31 (wst_4 _ _ _)) (fun hw0 => ?_) (fun hw0 => ?_)
      · refine lv_iload_n hx hb dX8_carriesOut_282 rfl (lv_at hl 0 rfl) ?_
        refine kn_if_ne (tgt := 290) hx hb dX8_carriesOut_283 (by decide) (lt31 (wst_4 _ _ _)) (fun hw1 => ?_) (fun hw1 => ?_)
        · refine lv_iconst (v := nI 0) hx hb dX8_carriesOut_290 (by decide) ?_
          exact kx_zretM hx hb hrt hlk (by first | (exfalso; omega) | (simp [crW, bI_t, bI_f, *]; done)) (Eq.mpr (congrArg (fun w => MdC D (cs 0) a w _) (by first | (exfalso; omega) | (simp [crF, crW, crG, *]; done))) hM) hS dX8_carriesOut_291
        · refine lv_iconst (v := nI 1) hx hb dX8_carriesOut_286 (by decide) ?_
          refine lv_goto (tgt := 291) hx hb dX8_carriesOut_287 (by decide) ?_
          exact kx_zretM hx hb hrt hlk (by first | (exfalso; omega) | (simp [crW, bI_t, bI_f, *]; done)) (Eq.mpr (congrArg (fun w => MdC D (cs 0) a w _) (by first | (exfalso; omega) | (simp [crF, crW, crG, *]; done))) hM) hS dX8_carriesOut_291
      · obtain ⟨r, hr, rfl⟩ := wst_0 hI hw0
        have hnr : nn (nI r) = r := nn_nI (by have := hI.R6; omega)
        have h6 := hI.R6
        refine lv_aload_n hx hb dX8_carriesOut_195 rfl (lv_at hl 3 rfl) ?_
        refine kx_get (v := .ref (a + 1)) hx hb hts hinX8 hown hK hM.1 rfl 1 (by decide) (by decide +kernel) rfl dX8_carriesOut_196 ?_
        refine lv_bipush (v := nI 56) hx hb dX8_carriesOut_199 (by decide) ?_
        refine lv_iconst (v := nI 4) hx hb dX8_carriesOut_201 (by decide) ?_
        refine lv_iload_n hx hb dX8_carriesOut_202 rfl (lv_at hl 2 rfl) ?_
        refine kn_mul hx hb dX8_carriesOut_203 ?_
        refine kn_add hx hb dX8_carriesOut_204 ?_
        refine lv_iconst (v := nI 3) hx hb dX8_carriesOut_205 (by decide) ?_
        refine kn_add hx hb dX8_carriesOut_206 ?_
        refine lv_aload_n hx hb dX8_carriesOut_207 rfl (lv_at hl 3 rfl) ?_
        refine kx_get (v := .int (z 4407)) hx hb hts hinX8 hown hK hM.1 rfl 8 (by decide) (by decide +kernel) rfl dX8_carriesOut_208 ?_
        refine kx_ci (y := nI (4)) hkd ?_
        refine lv_iconst (v := nI 3) hx hb dX8_carriesOut_211 (by decide) ?_
        refine kn_icmp_ne (tgt := 219) hx hb dX8_carriesOut_212 (by decide) (by decide) (by decide) (fun c_6 => ?_) (fun c_6 => ?_)
        · refine lv_iconst (v := nI 0) hx hb dX8_carriesOut_219 (by decide) ?_
          refine kx_iast (i := 56 + (4 * r) + 3) hx hb hK hM.state hS ⟨by omega, by omega⟩ 0 rfl (by omega) (by decide) dX8_carriesOut_220 (fun H locs hc hU hS => ?_)
          have hM := hM.put_state (by omega) hc hU
          clear hc hU
          refine lv_goto (tgt := 282) hx hb dX8_carriesOut_221 (by decide) ?_
          refine lv_iload_n hx hb dX8_carriesOut_282 rfl (lv_at hl 0 rfl) ?_
          refine kn_if_ne (tgt := 290) hx hb dX8_carriesOut_283 (by decide) (lt31 (wst_4 _ _ _)) (fun hw1 => ?_) (fun hw1 => ?_)
          · refine lv_iconst (v := nI 0) hx hb dX8_carriesOut_290 (by decide) ?_
            exact kx_zretM hx hb hrt hlk (by first | (exfalso; omega) | (simp [crW, bI_t, bI_f, *]; done)) (Eq.mpr (congrArg (fun w => MdC D (cs 0) a w _) (by first | (exfalso; omega) | (simp [crF, crW, crG, *]; done))) hM) hS dX8_carriesOut_291
          · refine lv_iconst (v := nI 1) hx hb dX8_carriesOut_286 (by decide) ?_
            refine lv_goto (tgt := 291) hx hb dX8_carriesOut_287 (by decide) ?_
            exact kx_zretM hx hb hrt hlk (by first | (exfalso; omega) | (simp [crW, bI_t, bI_f, *]; done)) (Eq.mpr (congrArg (fun w => MdC D (cs 0) a w _) (by first | (exfalso; omega) | (simp [crF, crW, crG, *]; done))) hM) hS dX8_carriesOut_291
        · refine lv_iconst (v := nI 1) hx hb dX8_carriesOut_215 (by decide) ?_
          refine lv_goto (tgt := 220) hx hb dX8_carriesOut_216 (by decide) ?_
          refine kx_iast (i := 56 + (4 * r) + 3) hx hb hK hM.state hS ⟨by omega, by omega⟩ 0 rfl (by omega) (by decide) dX8_carriesOut_220 (fun H locs hc hU hS => ?_)
          have hM := hM.put_state (by omega) hc hU
          clear hc hU
          refine lv_goto (tgt := 282) hx hb dX8_carriesOut_221 (by decide) ?_
          refine lv_iload_n hx hb dX8_carriesOut_282 rfl (lv_at hl 0 rfl) ?_
          refine kn_if_ne (tgt := 290) hx hb dX8_carriesOut_283 (by decide) (lt31 (wst_4 _ _ _)) (fun hw1 => ?_) (fun hw1 => ?_)
          · refine lv_iconst (v := nI 0) hx hb dX8_carriesOut_290 (by decide) ?_
            exact kx_zretM hx hb hrt hlk (by first | (exfalso; omega) | (simp [crW, bI_t, bI_f, *]; done)) (Eq.mpr (congrArg (fun w => MdC D (cs 0) a w _) (by first | (exfalso; omega) | (simp [crF, crW, crG, *]; done))) hM) hS dX8_carriesOut_291
          · refine lv_iconst (v := nI 1) hx hb dX8_carriesOut_286 (by decide) ?_
            refine lv_goto (tgt := 291) hx hb dX8_carriesOut_287 (by decide) ?_
            exact kx_zretM hx hb hrt hlk (by first | (exfalso; omega) | (simp [crW, bI_t, bI_f, *]; done)) (Eq.mpr (congrArg (fun w => MdC D (cs 0) a w _) (by first | (exfalso; omega) | (simp [crF, crW, crG, *]; done))) hM) hS dX8_carriesOut_291
  · refine lv_tableIn (off := 206) (tgt := 224) hx hb dX8_carriesOut_18 (by decide) (by decide) (by rfl) (by decide) ?_
    refine lv_aload_n hx hb dX8_carriesOut_224 rfl (lv_at hl 2 rfl) ?_
    refine lv_iload_n hx hb dX8_carriesOut_225 rfl (lv_at hl 1 rfl) ?_
    refine lv_iload_n hx hb dX8_carriesOut_226 rfl (lv_at hl 0 rfl) ?_
    refine kx_retP (va_runV (As := [.int (x0), .int (x1)]) (rest := []) ⟨hx, hb, hml, hown, hts⟩ (k_X8_whyNotWritten l D cs a z x0 x1 hI) (cwV 2 hts gX8_carriesOut_X8_whyNotWritten rfl rfl rfl (by decide +kernel) ⟨Nat.le_of_ble_eq_true rfl, Nat.le_of_ble_eq_true rfl⟩) (kx_preV hK hN hM.1 rfl hM) rfl rfl hl.1 rfl (lv_room (Nat.le_of_ble_eq_true rfl)) dX8_carriesOut_227 ⟨Nat.le_of_ble_eq_true rfl, Nat.le_of_ble_eq_true rfl⟩) ?_
    refine lv_istore_n (lv' := [(3, .int (nI (wwr z x0 x1))), (2, .int (x1)), (1, .int (x0)), (0, .ref (a))]) hx hb dX8_carriesOut_230 rfl hl (by decide) rfl (fun ls hl => ?_)
    refine lv_iload_n hx hb dX8_carriesOut_231 rfl (lv_at hl 0 rfl) ?_
    refine kn_if_ne (tgt := 282) hx hb dX8_carriesOut_232 (by decide) (lt31 (wwr_4 _ _ _)) (fun hw0 => ?_) (fun hw0 => ?_)
    · refine lv_iload_n hx hb dX8_carriesOut_282 rfl (lv_at hl 0 rfl) ?_
      refine kn_if_ne (tgt := 290) hx hb dX8_carriesOut_283 (by decide) (lt31 (wwr_4 _ _ _)) (fun hw1 => ?_) (fun hw1 => ?_)
      · refine lv_iconst (v := nI 0) hx hb dX8_carriesOut_290 (by decide) ?_
        exact kx_zretM hx hb hrt hlk (by first | (exfalso; omega) | (simp [crW, bI_t, bI_f, *]; done)) (Eq.mpr (congrArg (fun w => MdC D (cs 0) a w _) (by first | (exfalso; omega) | (simp [crF, crW, crG, *]; done))) hM) hS dX8_carriesOut_291
      · refine lv_iconst (v := nI 1) hx hb dX8_carriesOut_286 (by decide) ?_
        refine lv_goto (tgt := 291) hx hb dX8_carriesOut_287 (by decide) ?_
        exact kx_zretM hx hb hrt hlk (by first | (exfalso; omega) | (simp [crW, bI_t, bI_f, *]; done)) (Eq.mpr (congrArg (fun w => MdC D (cs 0) a w _) (by first | (exfalso; omega) | (simp [crF, crW, crG, *]; done))) hM) hS dX8_carriesOut_291
    · obtain ⟨q, hq, rfl⟩ := wwr_0 hw0
      have hnr : nn (nI q) = q := nn_nI (by omega)
      refine lv_aload_n hx hb dX8_carriesOut_235 rfl (lv_at hl 3 rfl) ?_
      refine lv_iload_n hx hb dX8_carriesOut_236 rfl (lv_at hl 2 rfl) ?_
      refine lv_iload_n hx hb dX8_carriesOut_237 rfl (lv_at hl 1 rfl) ?_
      refine kx_retM (va_runV (As := [.int (nI (q)), .int (x1)]) (rest := []) ⟨hx, hb, hml, hown, hts⟩ (k_X8_putValue l D cs a z q x1 (by first | assumption | omega)) (cwV 2 hts gX8_carriesOut_X8_putValue rfl rfl rfl (by decide +kernel) ⟨Nat.le_of_ble_eq_true rfl, Nat.le_of_ble_eq_true rfl⟩) (kx_preV hK hN hM.1 rfl hM) rfl rfl hl.1 rfl (lv_room (Nat.le_of_ble_eq_true rfl)) dX8_carriesOut_238 ⟨Nat.le_of_ble_eq_true rfl, Nat.le_of_ble_eq_true rfl⟩) hS (fun q _ h => h) (fun q h => h) (fun H locs hM hk hS => ?_)
      clear hk
      refine lv_pop hx hb dX8_carriesOut_241 rfl ?_
      refine lv_goto (tgt := 282) hx hb dX8_carriesOut_242 (by decide) ?_
      refine lv_iload_n hx hb dX8_carriesOut_282 rfl (lv_at hl 0 rfl) ?_
      refine kn_if_ne (tgt := 290) hx hb dX8_carriesOut_283 (by decide) (lt31 (wwr_4 _ _ _)) (fun hw1 => ?_) (fun hw1 => ?_)
      · refine lv_iconst (v := nI 0) hx hb dX8_carriesOut_290 (by decide) ?_
        exact kx_zretM hx hb hrt hlk (by first | (exfalso; omega) | (simp [crW, bI_t, bI_f, *]; done)) (Eq.mpr (congrArg (fun w => MdC D (cs 0) a w _) (by first | (exfalso; omega) | (simp [crF, crW, crG, *]; done))) hM) hS dX8_carriesOut_291
      · refine lv_iconst (v := nI 1) hx hb dX8_carriesOut_286 (by decide) ?_
        refine lv_goto (tgt := 291) hx hb dX8_carriesOut_287 (by decide) ?_
        exact kx_zretM hx hb hrt hlk (by first | (exfalso; omega) | (simp [crW, bI_t, bI_f, *]; done)) (Eq.mpr (congrArg (fun w => MdC D (cs 0) a w _) (by first | (exfalso; omega) | (simp [crF, crW, crG, *]; done))) hM) hS dX8_carriesOut_291
  · refine lv_tableIn (off := 227) (tgt := 245) hx hb dX8_carriesOut_18 (by decide) (by decide) (by rfl) (by decide) ?_
    refine lv_aload_n hx hb dX8_carriesOut_245 rfl (lv_at hl 2 rfl) ?_
    refine lv_iload_n hx hb dX8_carriesOut_246 rfl (lv_at hl 1 rfl) ?_
    refine lv_iload_n hx hb dX8_carriesOut_247 rfl (lv_at hl 0 rfl) ?_
    refine kx_retP (va_runV (As := [.int (x0), .int (x1)]) (rest := []) ⟨hx, hb, hml, hown, hts⟩ (k_X8_whyNoSetting l D cs a z x0 x1) (cwV 2 hts gX8_carriesOut_X8_whyNoSetting rfl rfl rfl (by decide +kernel) ⟨Nat.le_of_ble_eq_true rfl, Nat.le_of_ble_eq_true rfl⟩) (kx_preV hK hN hM.1 rfl hM) rfl rfl hl.1 rfl (lv_room (Nat.le_of_ble_eq_true rfl)) dX8_carriesOut_248 ⟨Nat.le_of_ble_eq_true rfl, Nat.le_of_ble_eq_true rfl⟩) ?_
    refine lv_istore_n (lv' := [(3, .int (nI (wse x0 x1))), (2, .int (x1)), (1, .int (x0)), (0, .ref (a))]) hx hb dX8_carriesOut_251 rfl hl (by decide) rfl (fun ls hl => ?_)
    refine lv_iload_n hx hb dX8_carriesOut_252 rfl (lv_at hl 0 rfl) ?_
    refine kn_if_ne (tgt := 282) hx hb dX8_carriesOut_253 (by decide) (lt31 (wse_4 _ _)) (fun hw0 => ?_) (fun hw0 => ?_)
    · refine lv_iload_n hx hb dX8_carriesOut_282 rfl (lv_at hl 0 rfl) ?_
      refine kn_if_ne (tgt := 290) hx hb dX8_carriesOut_283 (by decide) (lt31 (wse_4 _ _)) (fun hw1 => ?_) (fun hw1 => ?_)
      · refine lv_iconst (v := nI 0) hx hb dX8_carriesOut_290 (by decide) ?_
        exact kx_zretM hx hb hrt hlk (by first | (exfalso; omega) | (simp [crW, bI_t, bI_f, *]; done)) (Eq.mpr (congrArg (fun w => MdC D (cs 0) a w _) (by first | (exfalso; omega) | (simp [crF, crW, crG, *]; done))) hM) hS dX8_carriesOut_291
      · refine lv_iconst (v := nI 1) hx hb dX8_carriesOut_286 (by decide) ?_
        refine lv_goto (tgt := 291) hx hb dX8_carriesOut_287 (by decide) ?_
        exact kx_zretM hx hb hrt hlk (by first | (exfalso; omega) | (simp [crW, bI_t, bI_f, *]; done)) (Eq.mpr (congrArg (fun w => MdC D (cs 0) a w _) (by first | (exfalso; omega) | (simp [crF, crW, crG, *]; done))) hM) hS dX8_carriesOut_291
    · obtain ⟨q, hq, rfl⟩ := wse_0 hw0
      have hnr : nn (nI q) = q := nn_nI (by omega)
      refine lv_aload_n hx hb dX8_carriesOut_256 rfl (lv_at hl 3 rfl) ?_
      refine lv_iload_n hx hb dX8_carriesOut_257 rfl (lv_at hl 2 rfl) ?_
      refine lv_iload_n hx hb dX8_carriesOut_258 rfl (lv_at hl 1 rfl) ?_
      refine kx_retM (va_runV (As := [.int (nI (q)), .int (x1)]) (rest := []) ⟨hx, hb, hml, hown, hts⟩ (k_X8_putSetting l D cs a z q x1 (by first | assumption | omega)) (cwV 2 hts gX8_carriesOut_X8_putSetting rfl rfl rfl (by decide +kernel) ⟨Nat.le_of_ble_eq_true rfl, Nat.le_of_ble_eq_true rfl⟩) (kx_preV hK hN hM.1 rfl hM) rfl rfl hl.1 rfl (lv_room (Nat.le_of_ble_eq_true rfl)) dX8_carriesOut_259 ⟨Nat.le_of_ble_eq_true rfl, Nat.le_of_ble_eq_true rfl⟩) hS (fun q _ h => h) (fun q h => h) (fun H locs hM hk hS => ?_)
      clear hk
      refine lv_pop hx hb dX8_carriesOut_262 rfl ?_
      refine lv_goto (tgt := 282) hx hb dX8_carriesOut_263 (by decide) ?_
      refine lv_iload_n hx hb dX8_carriesOut_282 rfl (lv_at hl 0 rfl) ?_
      refine kn_if_ne (tgt := 290) hx hb dX8_carriesOut_283 (by decide) (lt31 (wse_4 _ _)) (fun hw1 => ?_) (fun hw1 => ?_)
      · refine lv_iconst (v := nI 0) hx hb dX8_carriesOut_290 (by decide) ?_
        exact kx_zretM hx hb hrt hlk (by first | (exfalso; omega) | (simp [crW, bI_t, bI_f, *]; done)) (Eq.mpr (congrArg (fun w => MdC D (cs 0) a w _) (by first | (exfalso; omega) | (simp [crF, crW, crG, *]; done))) hM) hS dX8_carriesOut_291
      · refine lv_iconst (v := nI 1) hx hb dX8_carriesOut_286 (by decide) ?_
        refine lv_goto (tgt := 291) hx hb dX8_carriesOut_287 (by decide) ?_
        exact kx_zretM hx hb hrt hlk (by first | (exfalso; omega) | (simp [crW, bI_t, bI_f, *]; done)) (Eq.mpr (congrArg (fun w => MdC D (cs 0) a w _) (by first | (exfalso; omega) | (simp [crF, crW, crG, *]; done))) hM) hS dX8_carriesOut_291
  · refine lv_tableOut (tgt := 266) hx hb dX8_carriesOut_18 (by decide) (by decide) ?_
    refine lv_aload_n hx hb dX8_carriesOut_266 rfl (lv_at hl 2 rfl) ?_
    refine lv_iload_n hx hb dX8_carriesOut_267 rfl (lv_at hl 1 rfl) ?_
    refine kx_retP (va_runV (As := [.int (x0)]) (rest := []) ⟨hx, hb, hml, hown, hts⟩ (k_X8_whyNoTicks l D cs a z x0) (cwV 1 hts gX8_carriesOut_X8_whyNoTicks rfl rfl rfl (by decide +kernel) ⟨Nat.le_of_ble_eq_true rfl, Nat.le_of_ble_eq_true rfl⟩) (kx_preV hK hN hM.1 rfl hM) rfl rfl hl.1 rfl (lv_room (Nat.le_of_ble_eq_true rfl)) dX8_carriesOut_268 ⟨Nat.le_of_ble_eq_true rfl, Nat.le_of_ble_eq_true rfl⟩) ?_
    refine lv_istore_n (lv' := [(3, .int (nI (wtk z x0))), (2, .int (x1)), (1, .int (x0)), (0, .ref (a))]) hx hb dX8_carriesOut_271 rfl hl (by decide) rfl (fun ls hl => ?_)
    refine lv_iload_n hx hb dX8_carriesOut_272 rfl (lv_at hl 0 rfl) ?_
    refine kn_if_ne (tgt := 282) hx hb dX8_carriesOut_273 (by decide) (lt31 (wtk_4 _ _)) (fun hw0 => ?_) (fun hw0 => ?_)
    · refine lv_iload_n hx hb dX8_carriesOut_282 rfl (lv_at hl 0 rfl) ?_
      refine kn_if_ne (tgt := 290) hx hb dX8_carriesOut_283 (by decide) (lt31 (wtk_4 _ _)) (fun hw1 => ?_) (fun hw1 => ?_)
      · refine lv_iconst (v := nI 0) hx hb dX8_carriesOut_290 (by decide) ?_
        exact kx_zretM hx hb hrt hlk (by first | (exfalso; omega) | (simp [crW, bI_t, bI_f, *]; done)) (Eq.mpr (congrArg (fun w => MdC D (cs 0) a w _) (by first | (exfalso; omega) | (simp [crF, crW, crG, *]; done))) hM) hS dX8_carriesOut_291
      · refine lv_iconst (v := nI 1) hx hb dX8_carriesOut_286 (by decide) ?_
        refine lv_goto (tgt := 291) hx hb dX8_carriesOut_287 (by decide) ?_
        exact kx_zretM hx hb hrt hlk (by first | (exfalso; omega) | (simp [crW, bI_t, bI_f, *]; done)) (Eq.mpr (congrArg (fun w => MdC D (cs 0) a w _) (by first | (exfalso; omega) | (simp [crF, crW, crG, *]; done))) hM) hS dX8_carriesOut_291
    · obtain ⟨q, hq, rfl⟩ := wtk_0 hw0
      have hnr : nn (nI q) = q := nn_nI (by omega)
      refine lv_aload_n hx hb dX8_carriesOut_276 rfl (lv_at hl 3 rfl) ?_
      refine lv_iload_n hx hb dX8_carriesOut_277 rfl (lv_at hl 2 rfl) ?_
      refine kx_retM (va_runV (As := [.int (nI (q))]) (rest := []) ⟨hx, hb, hml, hown, hts⟩ (k_X8_passTicks l D cs a z q hI (by first | assumption | omega)) (cwV 1 hts gX8_carriesOut_X8_passTicks rfl rfl rfl (by decide +kernel) ⟨Nat.le_of_ble_eq_true rfl, Nat.le_of_ble_eq_true rfl⟩) (kx_preV hK hN hM.1 rfl hM) rfl rfl hl.1 rfl (lv_room (Nat.le_of_ble_eq_true rfl)) dX8_carriesOut_278 ⟨Nat.le_of_ble_eq_true rfl, Nat.le_of_ble_eq_true rfl⟩) hS (fun q _ h => h) (fun q h => h) (fun H locs hM hk hS => ?_)
      clear hk
      refine lv_pop hx hb dX8_carriesOut_281 rfl ?_
      refine lv_iload_n hx hb dX8_carriesOut_282 rfl (lv_at hl 0 rfl) ?_
      refine kn_if_ne (tgt := 290) hx hb dX8_carriesOut_283 (by decide) (lt31 (wtk_4 _ _)) (fun hw1 => ?_) (fun hw1 => ?_)
      · refine lv_iconst (v := nI 0) hx hb dX8_carriesOut_290 (by decide) ?_
        exact kx_zretM hx hb hrt hlk (by first | (exfalso; omega) | (simp [crW, bI_t, bI_f, *]; done)) (Eq.mpr (congrArg (fun w => MdC D (cs 0) a w _) (by first | (exfalso; omega) | (simp [crF, crW, crG, *]; done))) hM) hS dX8_carriesOut_291
      · refine lv_iconst (v := nI 1) hx hb dX8_carriesOut_286 (by decide) ?_
        refine lv_goto (tgt := 291) hx hb dX8_carriesOut_287 (by decide) ?_
        exact kx_zretM hx hb hrt hlk (by first | (exfalso; omega) | (simp [crW, bI_t, bI_f, *]; done)) (Eq.mpr (congrArg (fun w => MdC D (cs 0) a w _) (by first | (exfalso; omega) | (simp [crF, crW, crG, *]; done))) hM) hS dX8_carriesOut_291
