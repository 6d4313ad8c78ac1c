set_option maxHeartbeats 2500000 in
set_option maxRecDepth 100000 in
theorem k_Jx29ce0_ordinal_8abf5 (l : Launch) (D : va_G) (cs : Nat → ClassId) (L : Nat) (aW aS aV : Nat → Nat) (tW tM : Nat) (k0 : Nat) (hk8 : k0 < 8) : Met l yJx29ce0_ordinal_8abf5 wsJx29ce0_ordinal_8abf5 ({ frames := 0, cells := 0, slots := 0, locals := 0 } : Room) (PcW D cs L aW aS aV tW tM [.ref (aW k0)] (fun H => True)) (QcP (some (.int (nI (k0))))) 0 0 nowhere := by
  refine kx_metW (cc := cJx29ce0_ordinal_8abf5) (maxL := 1) (ret := (some .int)) (by decide) rfl (Nat.le_of_ble_eq_true rfl) ?_
  intro p en s m args below meth c hx hb hml hrt hts hown hlk hK hN hW hP ls hl
  have hl : lv_has ls 1 [(0, .ref (aW k0))] := hl
  have hS : va_S (fun x : Nat => L ≤ x) s.heap s.heap [] := va_S.rf
  have hWn := hW
  refine lv_aload_n hx hb dJx29ce0_ordinal_8abf5_0 rfl (lv_at hl 0 rfl) ?_
  refine va_getE (i := k0) hx hb hWn.en (show _ < 8 from hk8) hS hown (q := wFD.getD 0 ("", "", "", [])) (List.mem_of_getElem? (i := 0) rfl) (hts (.fieldLink RJx29ce0 7 "java/lang/Enum" "ordinal" "I") (by decide +kernel)) (fun x h => h) dJx29ce0_ordinal_8abf5_1 ?_
  refine kx_ci (y := nI (k0)) (w_ord k0 (show _ < 8 from hk8)) ?_
  exact kx_iretP hx hb hrt hlk rfl dJx29ce0_ordinal_8abf5_4
set_option maxHeartbeats 2500000 in
set_option maxRecDepth 100000 in
theorem k_X7_commandRefusal (l : Launch) (D : va_G) (cs : Nat → ClassId) (x : Nat) (e : Nat → Int32) (g : Nat → Int64) (e1 : Nat → Int32) (g1 : Nat → Int64) (nx cn : Nat) (se : Nat → Nat → Int32) (sg : Nat → Nat → Int64) (b nn : Nat → Int32) (wd ln pa : Nat) (ft : Int32) (L : Nat) (aW aS aV : Nat → Nat) (tW tM : Nat) (k0 : Nat) (hk8 : k0 < 8) (hI : Inv e) (hG : Msk e g) (hL : L ≤ x) : Met l yX7_commandRefusal wsX7_commandRefusal ({ frames := 4, cells := 0, slots := 0, locals := 94 } : Room) (PcW D cs L aW aS aV tW tM [.ref (x), .ref (aW k0), .ref (x + 357 + 2)] (fun H => HrC D cs x e g e1 g1 nx cn se sg b nn wd ln pa ft H)) (QcP (some (.int (nI (crX e k0 (nn 0) (nn 1) (nn 2) (nn 3) (nn 4)))))) 0 0 nowhere := by
  refine kx_metW (cc := cX7_commandRefusal) (maxL := 3) (ret := (some .int)) (by decide) rfl (Nat.le_of_ble_eq_true rfl) ?_
  intro p en s m args below meth c hx hb hml hrt hts hown hlk hK hN hW hP ls hl
  have hl : lv_has ls 3 [(0, .ref (x)), (1, .ref (aW k0)), (2, .ref (x + 357 + 2))] := hl
  have hinX7 : ∀ w ∈ wsX70, w ∈ wsX7_commandRefusal := by decide +kernel
  have hS : va_S (fun x : Nat => L ≤ x) s.heap s.heap [] := va_S.rf
  have hWn := hW
  obtain ⟨hWro, hM, hM2, hWhi, hWto, hWtb, hWtn⟩ := hP
  have h24 := hI.M24
  have h6 := hI.R6
  refine va_gets hx hb hWn.mz hS hown (hts (.fieldLink RX7 254 "HostageRings$1" "$SwitchMap$HostageRings$Word" "[I") (by decide +kernel)) (fun x h => h) dX7_commandRefusal_0 ?_
  refine lv_aload_n hx hb dX7_commandRefusal_3 rfl (lv_at hl 1 rfl) ?_
  refine kx_retP (va_runU (As := []) (rest := [.ref (tM)]) ⟨hx, hb, hml, hown, hts⟩ (k_Jx29ce0_ordinal_8abf5 l D cs L aW aS aV tW tM k0 hk8) (va_cwU 0 hts gX7_commandRefusal_Jx29ce0_ordinal_8abf5_u259X6 rfl rfl rfl rfl (by decide +kernel) ⟨Nat.le_of_ble_eq_true rfl, Nat.le_of_ble_eq_true rfl⟩) (kx_preWR hK hN hW (va_recvE hWn.en (show _ < 8 from hk8) hS) trivial) rfl rfl hl.1 rfl (lv_room (Nat.le_of_ble_eq_true rfl)) dX7_commandRefusal_4 ⟨Nat.le_of_ble_eq_true rfl, Nat.le_of_ble_eq_true rfl⟩) ?_
  refine va_ti (v := .int (nI (k0 + 1))) hx hb hWn.mt hS (vp_in_nI (by omega) (by decide)) (by rw [nI_clamp (by omega)]) dX7_commandRefusal_7 ?_
  rcases (show k0 = 0 ∨ k0 = 1 ∨ k0 = 2 ∨ k0 = 3 ∨ k0 = 4 ∨ k0 = 5 ∨ k0 = 6 ∨ k0 = 7 by omega) with rfl | rfl | rfl | rfl | rfl | rfl | rfl | rfl
  · refine lv_tableIn (off := 48) (tgt := 56) hx hb dX7_commandRefusal_8 (by decide) (by decide) (by rfl) (by decide) ?_
    refine lv_aload_n hx hb dX7_commandRefusal_56 rfl (lv_at hl 0 rfl) ?_
    refine kx_get (v := .ref (x + 1)) hx hb hts hinX7 hown hK hWro rfl 0 (by decide) (by decide +kernel) rfl dX7_commandRefusal_57 ?_
    refine lv_aload_n hx hb dX7_commandRefusal_60 rfl (lv_at hl 2 rfl) ?_
    refine lv_iconst (v := nI 0) hx hb dX7_commandRefusal_61 (by decide) ?_
    refine kx_iald (i := 0) hx hb hK hWtn 0 rfl (by decide) (by omega) dX7_commandRefusal_62 ?_
    refine lv_aload_n hx hb dX7_commandRefusal_63 rfl (lv_at hl 2 rfl) ?_
    refine lv_iconst (v := nI 1) hx hb dX7_commandRefusal_64 (by decide) ?_
    refine kx_iald (i := 1) hx hb hK hWtn 0 rfl (by decide) (by omega) dX7_commandRefusal_65 ?_
    refine lv_aload_n hx hb dX7_commandRefusal_66 rfl (lv_at hl 2 rfl) ?_
    refine lv_iconst (v := nI 2) hx hb dX7_commandRefusal_67 (by decide) ?_
    refine kx_iald (i := 2) hx hb hK hWtn 0 rfl (by decide) (by omega) dX7_commandRefusal_68 ?_
    refine kx_retP (va_runV (As := [.int (nn 0), .int (nn 1), .int (nn 2)]) (rest := []) ⟨hx, hb, hml, hown, hts⟩ (k_X5_ringRefusal l D cs (x + 1) e g (nn 0) (nn 1) (nn 2) hI) (cwV 3 hts gX7_commandRefusal_X5_ringRefusal rfl rfl rfl (by decide +kernel) ⟨Nat.le_of_ble_eq_true rfl, Nat.le_of_ble_eq_true rfl⟩) (kx_preV hK hN hM.obj rfl hM) rfl rfl hl.1 rfl (lv_room (Nat.le_of_ble_eq_true rfl)) dX7_commandRefusal_69 ⟨Nat.le_of_ble_eq_true rfl, Nat.le_of_ble_eq_true rfl⟩) ?_
    exact kx_iretP hx hb hrt hlk (congrArg nI (crX_a ..).symm) dX7_commandRefusal_72
  · refine lv_tableIn (off := 65) (tgt := 73) hx hb dX7_commandRefusal_8 (by decide) (by decide) (by rfl) (by decide) ?_
    refine lv_aload_n hx hb dX7_commandRefusal_73 rfl (lv_at hl 0 rfl) ?_
    refine kx_get (v := .ref (x + 1)) hx hb hts hinX7 hown hK hWro rfl 0 (by decide) (by decide +kernel) rfl dX7_commandRefusal_74 ?_
    refine lv_aload_n hx hb dX7_commandRefusal_77 rfl (lv_at hl 2 rfl) ?_
    refine lv_iconst (v := nI 0) hx hb dX7_commandRefusal_78 (by decide) ?_
    refine kx_iald (i := 0) hx hb hK hWtn 0 rfl (by decide) (by omega) dX7_commandRefusal_79 ?_
    refine lv_aload_n hx hb dX7_commandRefusal_80 rfl (lv_at hl 2 rfl) ?_
    refine lv_iconst (v := nI 1) hx hb dX7_commandRefusal_81 (by decide) ?_
    refine kx_iald (i := 1) hx hb hK hWtn 0 rfl (by decide) (by omega) dX7_commandRefusal_82 ?_
    refine lv_aload_n hx hb dX7_commandRefusal_83 rfl (lv_at hl 2 rfl) ?_
    refine lv_iconst (v := nI 2) hx hb dX7_commandRefusal_84 (by decide) ?_
    refine kx_iald (i := 2) hx hb hK hWtn 0 rfl (by decide) (by omega) dX7_commandRefusal_85 ?_
    refine lv_aload_n hx hb dX7_commandRefusal_86 rfl (lv_at hl 2 rfl) ?_
    refine lv_iconst (v := nI 3) hx hb dX7_commandRefusal_87 (by decide) ?_
    refine kx_iald (i := 3) hx hb hK hWtn 0 rfl (by decide) (by omega) dX7_commandRefusal_88 ?_
    refine lv_aload_n hx hb dX7_commandRefusal_89 rfl (lv_at hl 2 rfl) ?_
    refine lv_iconst (v := nI 4) hx hb dX7_commandRefusal_90 (by decide) ?_
    refine kx_iald (i := 4) hx hb hK hWtn 0 rfl (by decide) (by omega) dX7_commandRefusal_91 ?_
    refine kx_retP (va_runV (As := [.int (nn 0), .int (nn 1), .int (nn 2), .int (nn 3), .int (nn 4)]) (rest := []) ⟨hx, hb, hml, hown, hts⟩ (k_X5_moveRefusal l D cs (x + 1) e g (nn 0) (nn 1) (nn 2) (nn 3) (nn 4) hI) (cwV 5 hts gX7_commandRefusal_X5_moveRefusal rfl rfl rfl (by decide +kernel) ⟨Nat.le_of_ble_eq_true rfl, Nat.le_of_ble_eq_true rfl⟩) (kx_preV hK hN hM.obj rfl hM) rfl rfl hl.1 rfl (lv_room (Nat.le_of_ble_eq_true rfl)) dX7_commandRefusal_92 ⟨Nat.le_of_ble_eq_true rfl, Nat.le_of_ble_eq_true rfl⟩) ?_
    exact kx_iretP hx hb hrt hlk (congrArg nI (crX_b ..).symm) dX7_commandRefusal_95
  · refine lv_tableIn (off := 88) (tgt := 96) hx hb dX7_commandRefusal_8 (by decide) (by decide) (by rfl) (by decide) ?_
    refine lv_aload_n hx hb dX7_commandRefusal_96 rfl (lv_at hl 0 rfl) ?_
    refine kx_get (v := .ref (x + 1)) hx hb hts hinX7 hown hK hWro rfl 0 (by decide) (by decide +kernel) rfl dX7_commandRefusal_97 ?_
    refine lv_aload_n hx hb dX7_commandRefusal_100 rfl (lv_at hl 2 rfl) ?_
    refine lv_iconst (v := nI 0) hx hb dX7_commandRefusal_101 (by decide) ?_
    refine kx_iald (i := 0) hx hb hK hWtn 0 rfl (by decide) (by omega) dX7_commandRefusal_102 ?_
    refine kx_retP (va_runV (As := [.int (nn 0)]) (rest := []) ⟨hx, hb, hml, hown, hts⟩ (k_X5_signRefusal l D cs (x + 1) e g (nn 0) hI) (cwV 1 hts gX7_commandRefusal_X5_signRefusal rfl rfl rfl (by decide +kernel) ⟨Nat.le_of_ble_eq_true rfl, Nat.le_of_ble_eq_true rfl⟩) (kx_preV hK hN hM.obj rfl hM) rfl rfl hl.1 rfl (lv_room (Nat.le_of_ble_eq_true rfl)) dX7_commandRefusal_103 ⟨Nat.le_of_ble_eq_true rfl, Nat.le_of_ble_eq_true rfl⟩) ?_
    exact kx_iretP hx hb hrt hlk (congrArg nI (crX_c ..).symm) dX7_commandRefusal_106
  · refine lv_tableIn (off := 99) (tgt := 107) hx hb dX7_commandRefusal_8 (by decide) (by decide) (by rfl) (by decide) ?_
    refine lv_aload_n hx hb dX7_commandRefusal_107 rfl (lv_at hl 0 rfl) ?_
    refine kx_get (v := .ref (x + 1)) hx hb hts hinX7 hown hK hWro rfl 0 (by decide) (by decide +kernel) rfl dX7_commandRefusal_108 ?_
    refine lv_aload_n hx hb dX7_commandRefusal_111 rfl (lv_at hl 2 rfl) ?_
    refine lv_iconst (v := nI 0) hx hb dX7_commandRefusal_112 (by decide) ?_
    refine kx_iald (i := 0) hx hb hK hWtn 0 rfl (by decide) (by omega) dX7_commandRefusal_113 ?_
    refine lv_iconst (v := nI 1) hx hb dX7_commandRefusal_114 (by decide) ?_
    refine kx_ci (x := nI (1)) (y := bI (true)) bI_t.symm ?_
    refine kx_retP (va_runV (As := [.int (nn 0), .int (bI (true))]) (rest := []) ⟨hx, hb, hml, hown, hts⟩ (k_X5_strikeRefusal l D cs (x + 1) e g (nn 0) true hI) (cwV 2 hts gX7_commandRefusal_X5_strikeRefusal rfl rfl rfl (by decide +kernel) ⟨Nat.le_of_ble_eq_true rfl, Nat.le_of_ble_eq_true rfl⟩) (kx_preV hK hN hM.obj rfl hM) rfl rfl hl.1 rfl (lv_room (Nat.le_of_ble_eq_true rfl)) dX7_commandRefusal_115 ⟨Nat.le_of_ble_eq_true rfl, Nat.le_of_ble_eq_true rfl⟩) ?_
    exact kx_iretP hx hb hrt hlk (congrArg nI (crX_d ..).symm) dX7_commandRefusal_118
  · refine lv_tableIn (off := 111) (tgt := 119) hx hb dX7_commandRefusal_8 (by decide) (by decide) (by rfl) (by decide) ?_
    refine lv_aload_n hx hb dX7_commandRefusal_119 rfl (lv_at hl 0 rfl) ?_
    refine kx_get (v := .ref (x + 1)) hx hb hts hinX7 hown hK hWro rfl 0 (by decide) (by decide +kernel) rfl dX7_commandRefusal_120 ?_
    refine lv_aload_n hx hb dX7_commandRefusal_123 rfl (lv_at hl 2 rfl) ?_
    refine lv_iconst (v := nI 0) hx hb dX7_commandRefusal_124 (by decide) ?_
    refine kx_iald (i := 0) hx hb hK hWtn 0 rfl (by decide) (by omega) dX7_commandRefusal_125 ?_
    refine lv_iconst (v := nI 0) hx hb dX7_commandRefusal_126 (by decide) ?_
    refine kx_ci (x := nI (0)) (y := bI (false)) bI_f.symm ?_
    refine kx_retP (va_runV (As := [.int (nn 0), .int (bI (false))]) (rest := []) ⟨hx, hb, hml, hown, hts⟩ (k_X5_strikeRefusal l D cs (x + 1) e g (nn 0) false hI) (cwV 2 hts gX7_commandRefusal_X5_strikeRefusal rfl rfl rfl (by decide +kernel) ⟨Nat.le_of_ble_eq_true rfl, Nat.le_of_ble_eq_true rfl⟩) (kx_preV hK hN hM.obj rfl hM) rfl rfl hl.1 rfl (lv_room (Nat.le_of_ble_eq_true rfl)) dX7_commandRefusal_127 ⟨Nat.le_of_ble_eq_true rfl, Nat.le_of_ble_eq_true rfl⟩) ?_
    exact kx_iretP hx hb hrt hlk (congrArg nI (crX_e ..).symm) dX7_commandRefusal_130
  · refine lv_tableIn (off := 123) (tgt := 131) hx hb dX7_commandRefusal_8 (by decide) (by decide) (by rfl) (by decide) ?_
    refine lv_aload_n hx hb dX7_commandRefusal_131 rfl (lv_at hl 0 rfl) ?_
    refine kx_get (v := .ref (x + 1)) hx hb hts hinX7 hown hK hWro rfl 0 (by decide) (by decide +kernel) rfl dX7_commandRefusal_132 ?_
    refine lv_aload_n hx hb dX7_commandRefusal_135 rfl (lv_at hl 2 rfl) ?_
    refine lv_iconst (v := nI 0) hx hb dX7_commandRefusal_136 (by decide) ?_
    refine kx_iald (i := 0) hx hb hK hWtn 0 rfl (by decide) (by omega) dX7_commandRefusal_137 ?_
    refine lv_aload_n hx hb dX7_commandRefusal_138 rfl (lv_at hl 2 rfl) ?_
    refine lv_iconst (v := nI 1) hx hb dX7_commandRefusal_139 (by decide) ?_
    refine kx_iald (i := 1) hx hb hK hWtn 0 rfl (by decide) (by omega) dX7_commandRefusal_140 ?_
    refine kx_retP (va_runV (As := [.int (nn 0), .int (nn 1)]) (rest := []) ⟨hx, hb, hml, hown, hts⟩ (k_X5_valueRefusal l D cs (x + 1) e g (nn 0) (nn 1) hI hG) (cwV 2 hts gX7_commandRefusal_X5_valueRefusal rfl rfl rfl (by decide +kernel) ⟨Nat.le_of_ble_eq_true rfl, Nat.le_of_ble_eq_true rfl⟩) (kx_preV hK hN hM.obj rfl hM) rfl rfl hl.1 rfl (lv_room (Nat.le_of_ble_eq_true rfl)) dX7_commandRefusal_141 ⟨Nat.le_of_ble_eq_true rfl, Nat.le_of_ble_eq_true rfl⟩) ?_
    exact kx_iretP hx hb hrt hlk (congrArg nI (crX_f ..).symm) dX7_commandRefusal_144
  · refine lv_tableIn (off := 137) (tgt := 145) hx hb dX7_commandRefusal_8 (by decide) (by decide) (by rfl) (by decide) ?_
    refine lv_aload_n hx hb dX7_commandRefusal_145 rfl (lv_at hl 2 rfl) ?_
    refine lv_iconst (v := nI 0) hx hb dX7_commandRefusal_146 (by decide) ?_
    refine kx_iald (i := 0) hx hb hK hWtn 0 rfl (by decide) (by omega) dX7_commandRefusal_147 ?_
    refine lv_aload_n hx hb dX7_commandRefusal_148 rfl (lv_at hl 2 rfl) ?_
    refine lv_iconst (v := nI 1) hx hb dX7_commandRefusal_149 (by decide) ?_
    refine kx_iald (i := 1) hx hb hK hWtn 0 rfl (by decide) (by omega) dX7_commandRefusal_150 ?_
    refine kx_retP (va_runS (As := [.int (nn 0), .int (nn 1)]) (rest := []) ⟨hx, hb, hml, hown, hts⟩ (k_X5_settingRefusal l D cs (nn 0) (nn 1)) (va_cwS 2 hts gX7_commandRefusal_X5_settingRefusal rfl rfl rfl (by decide +kernel) ⟨Nat.le_of_ble_eq_true rfl, Nat.le_of_ble_eq_true rfl⟩) (kx_preS hK hN trivial) rfl rfl hl.1 rfl (lv_room (Nat.le_of_ble_eq_true rfl)) dX7_commandRefusal_151 ⟨Nat.le_of_ble_eq_true rfl, Nat.le_of_ble_eq_true rfl⟩) ?_
    exact kx_iretP hx hb hrt hlk (congrArg nI (crX_g ..).symm) dX7_commandRefusal_154
  · refine lv_tableIn (off := 147) (tgt := 155) hx hb dX7_commandRefusal_8 (by decide) (by decide) (by rfl) (by decide) ?_
    refine lv_aload_n hx hb dX7_commandRefusal_155 rfl (lv_at hl 0 rfl) ?_
    refine kx_get (v := .ref (x + 1)) hx hb hts hinX7 hown hK hWro rfl 0 (by decide) (by decide +kernel) rfl dX7_commandRefusal_156 ?_
    refine lv_aload_n hx hb dX7_commandRefusal_159 rfl (lv_at hl 2 rfl) ?_
    refine lv_iconst (v := nI 0) hx hb dX7_commandRefusal_160 (by decide) ?_
    refine kx_iald (i := 0) hx hb hK hWtn 0 rfl (by decide) (by omega) dX7_commandRefusal_161 ?_
    refine kx_retP (va_runV (As := [.int (nn 0)]) (rest := []) ⟨hx, hb, hml, hown, hts⟩ (k_X5_passRefusal l D cs (x + 1) e g (nn 0)) (cwV 1 hts gX7_commandRefusal_X5_passRefusal rfl rfl rfl (by decide +kernel) ⟨Nat.le_of_ble_eq_true rfl, Nat.le_of_ble_eq_true rfl⟩) (kx_preV hK hN hM.obj rfl hM) rfl rfl hl.1 rfl (lv_room (Nat.le_of_ble_eq_true rfl)) dX7_commandRefusal_162 ⟨Nat.le_of_ble_eq_true rfl, Nat.le_of_ble_eq_true rfl⟩) ?_
    exact kx_iretP hx hb hrt hlk (congrArg nI (crX_h ..).symm) dX7_commandRefusal_165
set_option maxHeartbeats 2500000 in
set_option maxRecDepth 100000 in
theorem k_X7_carryOut (l : Launch) (D : va_G) (cs : Nat → ClassId) (x : Nat) (e : Nat → Int32) (g : Nat → Int64) (e1 : Nat → Int32) (g1 : Nat → Int64) (nx cn : Nat) (se : Nat → Nat → Int32) (sg : Nat → Nat → Int64) (b nn : Nat → Int32) (wd ln pa : Nat) (ft : Int32) (L : Nat) (aW aS aV : Nat → Nat) (tW tM : Nat) (k0 : Nat) (hk8 : k0 < 8) (hI : Inv e) (hG : Msk e g) (hL : L ≤ x) : Met l yX7_carryOut wsX7_carryOut ({ frames := 5, cells := 0, slots := 0, locals := 116 } : Room) (PcW D cs L aW aS aV tW tM [.ref (x), .ref (aW k0), .ref (x + 357 + 2)] (fun H => HrC D cs x e g e1 g1 nx cn se sg b nn wd ln pa ft H)) (QcM (some (.int (bI (decide (crW e k0 (nn 0) (nn 1) (nn 2) (nn 3) (nn 4) = 0))))) (fun H => HrC D cs x ((crF e k0 (nn 0) (nn 1) (nn 2) (nn 3) (nn 4))) ((cgX e g k0 (nn 0) (nn 1) (nn 2) (nn 3) (nn 4))) e1 g1 nx cn se sg b nn wd ln pa ft H) (rgR x)) 0 0 ((rgR x)) := by
  refine kx_metW (cc := cX7_carryOut) (maxL := 3) (ret := (some .boolean)) (by decide) rfl (Nat.le_of_ble_eq_true rfl) ?_
  intro p en s m args below meth c hx hb hml hrt hts hown hlk hK hN hW hP ls hl
  have hl : lv_has ls 3 [(0, .ref (x)), (1, .ref (aW k0)), (2, .ref (x + 357 + 2))] := hl
  obtain ⟨H, hHe⟩ : ∃ H : Heap, H = s.heap := ⟨_, rfl⟩
  rw [← hHe] at hP ⊢
  have hS : va_S ((rgR x)) s.heap H [] := by rw [← hHe]; exact va_S.rf
  have hinX7 : ∀ w ∈ wsX70, w ∈ wsX7_carryOut := by decide +kernel
  have hAL : ∀ y9, (rgR x) y9 → L ≤ y9 := (fun x h => Nat.le_trans hL h.1)
  have hWn := hW.narrow hAL
  obtain ⟨hWro, hM, hM2, hWhi, hWto, hWtb, hWtn⟩ := hP
  have h24 := hI.M24
  have h6 := hI.R6
  refine lv_aload_n hx hb dX7_carryOut_0 rfl (lv_at hl 0 rfl) ?_
  refine lv_aload_n hx hb dX7_carryOut_1 rfl (lv_at hl 1 rfl) ?_
  refine lv_aload_n hx hb dX7_carryOut_2 rfl (lv_at hl 2 rfl) ?_
  refine kx_retP (va_runV (As := [.ref (aW k0), .ref (x + 357 + 2)]) (rest := []) ⟨hx, hb, hml, hown, hts⟩ (k_X7_commandRefusal l D cs x e g e1 g1 nx cn se sg b nn wd ln pa ft L aW aS aV tW tM k0 (by first | assumption | omega) hI hG (by first | assumption | omega)) (cwV 2 hts gX7_carryOut_X7_commandRefusal rfl rfl rfl (by decide +kernel) ⟨Nat.le_of_ble_eq_true rfl, Nat.le_of_ble_eq_true rfl⟩) (kx_preWV hK hN (hW.keptS hS hAL) hWro rfl ⟨hWro, hM, hM2, hWhi, hWto, hWtb, hWtn⟩) rfl rfl hl.1 rfl (lv_room (Nat.le_of_ble_eq_true rfl)) dX7_carryOut_3 ⟨Nat.le_of_ble_eq_true rfl, Nat.le_of_ble_eq_true rfl⟩) ?_
  refine kn_if_eq (tgt := 11) hx hb dX7_carryOut_6 (by decide) (by have := crX_le (z := e) hk8 (a := nn 0) (b := nn 1) (c := nn 2) (d := nn 3) (e := nn 4); omega) (fun hr0 => ?_) (fun hr0 => ?_)
  · have hcw := crX_0.mp hr0
    refine va_gets hx hb hWn.mz hS hown (hts (.fieldLink RX7 254 "HostageRings$1" "$SwitchMap$HostageRings$Word" "[I") (by decide +kernel)) (fun x h => h) dX7_carryOut_11 ?_
    refine lv_aload_n hx hb dX7_carryOut_14 rfl (lv_at hl 1 rfl) ?_
    refine kx_retP (va_runU (As := []) (rest := [.ref (tM)]) ⟨hx, hb, hml, hown, hts⟩ (k_Jx29ce0_ordinal_8abf5 l D cs L aW aS aV tW tM k0 hk8) (va_cwU 0 hts gX7_carryOut_Jx29ce0_ordinal_8abf5_u259X6 rfl rfl rfl rfl (by decide +kernel) ⟨Nat.le_of_ble_eq_true rfl, Nat.le_of_ble_eq_true rfl⟩) (kx_preWR hK hN (hW.keptS hS hAL) (va_recvE hWn.en (show _ < 8 from hk8) hS) trivial) rfl rfl hl.1 rfl (lv_room (Nat.le_of_ble_eq_true rfl)) dX7_carryOut_15 ⟨Nat.le_of_ble_eq_true rfl, Nat.le_of_ble_eq_true rfl⟩) ?_
    refine va_ti (v := .int (nI (k0 + 1))) hx hb hWn.mt hS (vp_in_nI (by omega) (by decide)) (by rw [nI_clamp (by omega)]) dX7_carryOut_18 ?_
    rcases (show k0 = 0 ∨ k0 = 1 ∨ k0 = 2 ∨ k0 = 3 ∨ k0 = 4 ∨ k0 = 5 ∨ k0 = 6 ∨ k0 = 7 by omega) with rfl | rfl | rfl | rfl | rfl | rfl | rfl | rfl
    · refine lv_tableIn (off := 45) (tgt := 64) hx hb dX7_carryOut_19 (by decide) (by decide) (by rfl) (by decide) ?_
      have hw0 := (crW_0 e (nn 0) (nn 1) (nn 2) (nn 3) (nn 4)).symm.trans hcw
      have hR5 := wrg_0 hI hw0
      refine lv_aload_n hx hb dX7_carryOut_64 rfl (lv_at hl 0 rfl) ?_
      refine kx_get (v := .ref (x + 1)) hx hb hts hinX7 hown hK hWro rfl 0 (by decide) (by decide +kernel) rfl dX7_carryOut_65 ?_
      refine lv_aload_n hx hb dX7_carryOut_68 rfl (lv_at hl 2 rfl) ?_
      refine lv_iconst (v := nI 0) hx hb dX7_carryOut_69 (by decide) ?_
      refine kx_iald (i := 0) hx hb hK hWtn 0 rfl (by decide) (by omega) dX7_carryOut_70 ?_
      refine lv_aload_n hx hb dX7_carryOut_71 rfl (lv_at hl 2 rfl) ?_
      refine lv_iconst (v := nI 1) hx hb dX7_carryOut_72 (by decide) ?_
      refine kx_iald (i := 1) hx hb hK hWtn 0 rfl (by decide) (by omega) dX7_carryOut_73 ?_
      refine lv_aload_n hx hb dX7_carryOut_74 rfl (lv_at hl 2 rfl) ?_
      refine lv_iconst (v := nI 2) hx hb dX7_carryOut_75 (by decide) ?_
      refine kx_iald (i := 2) hx hb hK hWtn 0 rfl (by decide) (by omega) dX7_carryOut_76 ?_
      refine kx_retM (va_runV (As := [.int (nn 0), .int (nn 1), .int (nn 2)]) (rest := []) ⟨hx, hb, hml, hown, hts⟩ (k_X5_putRing l D cs (x + 1) e g (nn 0) (nn 1) (nn 2) hI hR5) (cwV 3 hts gX7_carryOut_X5_putRing rfl rfl rfl (by decide +kernel) ⟨Nat.le_of_ble_eq_true rfl, Nat.le_of_ble_eq_true rfl⟩) (kx_preV hK hN hM.obj rfl hM) rfl rfl hl.1 rfl (lv_room (Nat.le_of_ble_eq_true rfl)) dX7_carryOut_77 ⟨Nat.le_of_ble_eq_true rfl, Nat.le_of_ble_eq_true rfl⟩) hS (fun x _ h => (by first | exact h | (have h1 := h.1; have h2 := h.2; exact ⟨by omega, by omega⟩) | (rcases h with h | h <;> (have h1 := h.1; have h2 := h.2; exact ⟨by omega, by omega⟩)))) (fun x h => (by first | exact h | (have h1 := h.1; have h2 := h.2; exact ⟨by omega, by omega⟩) | (rcases h with h | h <;> (have h1 := h.1; have h2 := h.2; exact ⟨by omega, by omega⟩)))) (fun H locs hMN hk hS => ?_)
      have hWhi := hWhi.frame hk (fun x h1 h2 h => by first | (have h3 := h.1; have h4 := h.2; omega) | (rcases h with h | h <;> (have h3 := h.1; have h4 := h.2; omega)))
      have hWro := hWro.kept (hk.2 _ hWro.lt (fun h => by first | (have h3 := h.1; have h4 := h.2; omega) | (rcases h with h | h <;> (have h3 := h.1; have h4 := h.2; omega))))
      have hM2 := hM2.frame hk (fun x h1 h2 h => by first | (have h3 := h.1; have h4 := h.2; omega) | (rcases h with h | h <;> (have h3 := h.1; have h4 := h.2; omega)))
      have hWtb := hWtb.kept (hk.2 _ hWtb.lt (fun h => by first | (have h3 := h.1; have h4 := h.2; omega) | (rcases h with h | h <;> (have h3 := h.1; have h4 := h.2; omega))))
      have hWtn := hWtn.kept (hk.2 _ hWtn.lt (fun h => by first | (have h3 := h.1; have h4 := h.2; omega) | (rcases h with h | h <;> (have h3 := h.1; have h4 := h.2; omega))))
      have hWto := hWto.kept (hk.2 _ hWto.lt (fun h => by first | (have h3 := h.1; have h4 := h.2; omega) | (rcases h with h | h <;> (have h3 := h.1; have h4 := h.2; omega))))
      have hM := hMN
      clear hk hMN
      refine lv_pop hx hb dX7_carryOut_80 rfl ?_
      refine lv_goto (tgt := 199) hx hb dX7_carryOut_81 (by decide) ?_
      refine lv_iconst (v := nI 1) hx hb dX7_carryOut_199 (by decide) ?_
      exact kx_zretM hx hb hrt hlk (by rw [decide_eq_true hcw]; rfl) (by rw [show crF e 0 (nn 0) (nn 1) (nn 2) (nn 3) (nn 4) = prF e (nn 0) (nn 1) (nn 2) from cr0 hw0, cgN (Or.inl (by decide))]; exact ⟨hWro, hM, hM2, hWhi, hWto, hWtb, hWtn⟩) hS dX7_carryOut_200
    · refine lv_tableIn (off := 65) (tgt := 84) hx hb dX7_carryOut_19 (by decide) (by decide) (by rfl) (by decide) ?_
      have hw0 := (crW_1 e (nn 0) (nn 1) (nn 2) (nn 3) (nn 4)).symm.trans hcw
      have hM24 := wmv_0 hI hw0
      obtain ⟨qf, qa, qt, qb, qn, hqf, hqa, hqt, hqb, hqn, hf, ht, ha, hb9, hn⟩ := wmv_nat hI hw0
      refine lv_aload_n hx hb dX7_carryOut_84 rfl (lv_at hl 0 rfl) ?_
      refine kx_get (v := .ref (x + 1)) hx hb hts hinX7 hown hK hWro rfl 0 (by decide) (by decide +kernel) rfl dX7_carryOut_85 ?_
      refine lv_aload_n hx hb dX7_carryOut_88 rfl (lv_at hl 2 rfl) ?_
      refine lv_iconst (v := nI 0) hx hb dX7_carryOut_89 (by decide) ?_
      refine kx_iald (i := 0) hx hb hK hWtn 0 rfl (by decide) (by omega) dX7_carryOut_90 ?_
      refine kx_ci (x := nn 0) (y := nI (qf)) hqf ?_
      refine lv_aload_n hx hb dX7_carryOut_91 rfl (lv_at hl 2 rfl) ?_
      refine lv_iconst (v := nI 1) hx hb dX7_carryOut_92 (by decide) ?_
      refine kx_iald (i := 1) hx hb hK hWtn 0 rfl (by decide) (by omega) dX7_carryOut_93 ?_
      refine kx_ci (x := nn 1) (y := nI (qa)) hqa ?_
      refine lv_aload_n hx hb dX7_carryOut_94 rfl (lv_at hl 2 rfl) ?_
      refine lv_iconst (v := nI 2) hx hb dX7_carryOut_95 (by decide) ?_
      refine kx_iald (i := 2) hx hb hK hWtn 0 rfl (by decide) (by omega) dX7_carryOut_96 ?_
      refine kx_ci (x := nn 2) (y := nI (qt)) hqt ?_
      refine lv_aload_n hx hb dX7_carryOut_97 rfl (lv_at hl 2 rfl) ?_
      refine lv_iconst (v := nI 3) hx hb dX7_carryOut_98 (by decide) ?_
      refine kx_iald (i := 3) hx hb hK hWtn 0 rfl (by decide) (by omega) dX7_carryOut_99 ?_
      refine kx_ci (x := nn 3) (y := nI (qb)) hqb ?_
      refine lv_aload_n hx hb dX7_carryOut_100 rfl (lv_at hl 2 rfl) ?_
      refine lv_iconst (v := nI 4) hx hb dX7_carryOut_101 (by decide) ?_
      refine kx_iald (i := 4) hx hb hK hWtn 0 rfl (by decide) (by omega) dX7_carryOut_102 ?_
      refine kx_ci (x := nn 4) (y := nI (qn)) hqn ?_
      refine kx_retM (va_runV (As := [.int (nI (qf)), .int (nI (qa)), .int (nI (qt)), .int (nI (qb)), .int (nI (qn))]) (rest := []) ⟨hx, hb, hml, hown, hts⟩ (k_X5_putMove l D cs (x + 1) e g qf qa qt qb qn hI hM24 hf ht ha hb9 hn) (cwV 5 hts gX7_carryOut_X5_putMove rfl rfl rfl (by decide +kernel) ⟨Nat.le_of_ble_eq_true rfl, Nat.le_of_ble_eq_true rfl⟩) (kx_preV hK hN hM.obj rfl hM) rfl rfl hl.1 rfl (lv_room (Nat.le_of_ble_eq_true rfl)) dX7_carryOut_103 ⟨Nat.le_of_ble_eq_true rfl, Nat.le_of_ble_eq_true rfl⟩) hS (fun x _ h => (by first | exact h | (have h1 := h.1; have h2 := h.2; exact ⟨by omega, by omega⟩) | (rcases h with h | h <;> (have h1 := h.1; have h2 := h.2; exact ⟨by omega, by omega⟩)))) (fun x h => (by first | exact h | (have h1 := h.1; have h2 := h.2; exact ⟨by omega, by omega⟩) | (rcases h with h | h <;> (have h1 := h.1; have h2 := h.2; exact ⟨by omega, by omega⟩)))) (fun H locs hMN hk hS => ?_)
      have hWhi := hWhi.frame hk (fun x h1 h2 h => by first | (have h3 := h.1; have h4 := h.2; omega) | (rcases h with h | h <;> (have h3 := h.1; have h4 := h.2; omega)))
      have hWro := hWro.kept (hk.2 _ hWro.lt (fun h => by first | (have h3 := h.1; have h4 := h.2; omega) | (rcases h with h | h <;> (have h3 := h.1; have h4 := h.2; omega))))
      have hM2 := hM2.frame hk (fun x h1 h2 h => by first | (have h3 := h.1; have h4 := h.2; omega) | (rcases h with h | h <;> (have h3 := h.1; have h4 := h.2; omega)))
      have hWtb := hWtb.kept (hk.2 _ hWtb.lt (fun h => by first | (have h3 := h.1; have h4 := h.2; omega) | (rcases h with h | h <;> (have h3 := h.1; have h4 := h.2; omega))))
      have hWtn := hWtn.kept (hk.2 _ hWtn.lt (fun h => by first | (have h3 := h.1; have h4 := h.2; omega) | (rcases h with h | h <;> (have h3 := h.1; have h4 := h.2; omega))))
      have hWto := hWto.kept (hk.2 _ hWto.lt (fun h => by first | (have h3 := h.1; have h4 := h.2; omega) | (rcases h with h | h <;> (have h3 := h.1; have h4 := h.2; omega))))
      have hM := hMN
      clear hk hMN
      refine lv_pop hx hb dX7_carryOut_106 rfl ?_
      refine lv_goto (tgt := 199) hx hb dX7_carryOut_107 (by decide) ?_
      refine lv_iconst (v := nI 1) hx hb dX7_carryOut_199 (by decide) ?_
      exact kx_zretM hx hb hrt hlk (by rw [decide_eq_true hcw]; rfl) (by rw [show crF e 1 (nn 0) (nn 1) (nn 2) (nn 3) (nn 4) = pmF e (nI qf) (nI qa) (nI qt) (nI qb) (nI qn) from (cr1 hw0).trans (by rw [hqf, hqa, hqt, hqb, hqn]), cg1 (by omega) (by omega) (by omega) (by omega) (by omega) hqf hqa hqt hqb hqn hw0]; exact ⟨hWro, hM, hM2, hWhi, hWto, hWtb, hWtn⟩) hS dX7_carryOut_200
    · refine lv_tableIn (off := 91) (tgt := 110) hx hb dX7_carryOut_19 (by decide) (by decide) (by rfl) (by decide) ?_
      have hw0 := (crW_2 e (nn 0) (nn 1) (nn 2) (nn 3) (nn 4)).symm.trans hcw
      obtain ⟨r, hr, hrn, hfc⟩ := wsg_0 hI hw0
      refine lv_aload_n hx hb dX7_carryOut_110 rfl (lv_at hl 0 rfl) ?_
      refine kx_get (v := .ref (x + 1)) hx hb hts hinX7 hown hK hWro rfl 0 (by decide) (by decide +kernel) rfl dX7_carryOut_111 ?_
      refine lv_aload_n hx hb dX7_carryOut_114 rfl (lv_at hl 2 rfl) ?_
      refine lv_iconst (v := nI 0) hx hb dX7_carryOut_115 (by decide) ?_
      refine kx_iald (i := 0) hx hb hK hWtn 0 rfl (by decide) (by omega) dX7_carryOut_116 ?_
      refine kx_ci (x := nn 0) (y := nI (r)) hrn ?_
      refine kx_retM (va_runV (As := [.int (nI (r))]) (rest := []) ⟨hx, hb, hml, hown, hts⟩ (k_X5_signFirst l D cs (x + 1) e g r hI hr hfc) (cwV 1 hts gX7_carryOut_X5_signFirst rfl rfl rfl (by decide +kernel) ⟨Nat.le_of_ble_eq_true rfl, Nat.le_of_ble_eq_true rfl⟩) (kx_preV hK hN hM.obj rfl hM) rfl rfl hl.1 rfl (lv_room (Nat.le_of_ble_eq_true rfl)) dX7_carryOut_117 ⟨Nat.le_of_ble_eq_true rfl, Nat.le_of_ble_eq_true rfl⟩) hS (fun x _ h => (by first | exact h | (have h1 := h.1; have h2 := h.2; exact ⟨by omega, by omega⟩) | (rcases h with h | h <;> (have h1 := h.1; have h2 := h.2; exact ⟨by omega, by omega⟩)))) (fun x h => (by first | exact h | (have h1 := h.1; have h2 := h.2; exact ⟨by omega, by omega⟩) | (rcases h with h | h <;> (have h1 := h.1; have h2 := h.2; exact ⟨by omega, by omega⟩)))) (fun H locs hMN hk hS => ?_)
      have hWhi := hWhi.frame hk (fun x h1 h2 h => by first | (have h3 := h.1; have h4 := h.2; omega) | (rcases h with h | h <;> (have h3 := h.1; have h4 := h.2; omega)))
      have hWro := hWro.kept (hk.2 _ hWro.lt (fun h => by first | (have h3 := h.1; have h4 := h.2; omega) | (rcases h with h | h <;> (have h3 := h.1; have h4 := h.2; omega))))
      have hM2 := hM2.frame hk (fun x h1 h2 h => by first | (have h3 := h.1; have h4 := h.2; omega) | (rcases h with h | h <;> (have h3 := h.1; have h4 := h.2; omega)))
      have hWtb := hWtb.kept (hk.2 _ hWtb.lt (fun h => by first | (have h3 := h.1; have h4 := h.2; omega) | (rcases h with h | h <;> (have h3 := h.1; have h4 := h.2; omega))))
      have hWtn := hWtn.kept (hk.2 _ hWtn.lt (fun h => by first | (have h3 := h.1; have h4 := h.2; omega) | (rcases h with h | h <;> (have h3 := h.1; have h4 := h.2; omega))))
      have hWto := hWto.kept (hk.2 _ hWto.lt (fun h => by first | (have h3 := h.1; have h4 := h.2; omega) | (rcases h with h | h <;> (have h3 := h.1; have h4 := h.2; omega))))
      have hM := hMN
      clear hk hMN
      refine lv_pop hx hb dX7_carryOut_120 rfl ?_
      refine lv_goto (tgt := 199) hx hb dX7_carryOut_121 (by decide) ?_
      refine lv_iconst (v := nI 1) hx hb dX7_carryOut_199 (by decide) ?_
      exact kx_zretM hx hb hrt hlk (by rw [decide_eq_true hcw]; rfl) (by rw [show crF e 2 (nn 0) (nn 1) (nn 2) (nn 3) (nn 4) = signF e (fcN e r) from cr2 (by omega) hrn hw0, cgN (Or.inl (by decide))]; exact ⟨hWro, hM, hM2, hWhi, hWto, hWtb, hWtn⟩) hS dX7_carryOut_200
    · refine lv_tableIn (off := 105) (tgt := 124) hx hb dX7_carryOut_19 (by decide) (by decide) (by rfl) (by decide) ?_
      have hw0 := (crW_3 e (nn 0) (nn 1) (nn 2) (nn 3) (nn 4)).symm.trans hcw
      obtain ⟨r, hr, hrn⟩ := wst_0 hI hw0
      refine lv_aload_n hx hb dX7_carryOut_124 rfl (lv_at hl 0 rfl) ?_
      refine kx_get (v := .ref (x + 1)) hx hb hts hinX7 hown hK hWro rfl 0 (by decide) (by decide +kernel) rfl dX7_carryOut_125 ?_
      refine lv_aload_n hx hb dX7_carryOut_128 rfl (lv_at hl 2 rfl) ?_
      refine lv_iconst (v := nI 0) hx hb dX7_carryOut_129 (by decide) ?_
      refine kx_iald (i := 0) hx hb hK hWtn 0 rfl (by decide) (by omega) dX7_carryOut_130 ?_
      refine kx_ci (x := nn 0) (y := nI (r)) hrn ?_
      refine lv_iconst (v := nI 1) hx hb dX7_carryOut_131 (by decide) ?_
      refine kx_ci (x := nI (1)) (y := bI (true)) bI_t.symm ?_
      refine kx_retM (va_runV (As := [.int (nI (r)), .int (bI (true))]) (rest := []) ⟨hx, hb, hml, hown, hts⟩ (k_X5_putStrike l D cs (x + 1) e g r true hI (by first | assumption | omega)) (cwV 2 hts gX7_carryOut_X5_putStrike rfl rfl rfl (by decide +kernel) ⟨Nat.le_of_ble_eq_true rfl, Nat.le_of_ble_eq_true rfl⟩) (kx_preV hK hN hM.obj rfl hM) rfl rfl hl.1 rfl (lv_room (Nat.le_of_ble_eq_true rfl)) dX7_carryOut_132 ⟨Nat.le_of_ble_eq_true rfl, Nat.le_of_ble_eq_true rfl⟩) hS (fun x _ h => (by first | exact h | (have h1 := h.1; have h2 := h.2; exact ⟨by omega, by omega⟩) | (rcases h with h | h <;> (have h1 := h.1; have h2 := h.2; exact ⟨by omega, by omega⟩)))) (fun x h => (by first | exact h | (have h1 := h.1; have h2 := h.2; exact ⟨by omega, by omega⟩) | (rcases h with h | h <;> (have h1 := h.1; have h2 := h.2; exact ⟨by omega, by omega⟩)))) (fun H locs hMN hk hS => ?_)
      have hWhi := hWhi.frame hk (fun x h1 h2 h => by first | (have h3 := h.1; have h4 := h.2; omega) | (rcases h with h | h <;> (have h3 := h.1; have h4 := h.2; omega)))
      have hWro := hWro.kept (hk.2 _ hWro.lt (fun h => by first | (have h3 := h.1; have h4 := h.2; omega) | (rcases h with h | h <;> (have h3 := h.1; have h4 := h.2; omega))))
      have hM2 := hM2.frame hk (fun x h1 h2 h => by first | (have h3 := h.1; have h4 := h.2; omega) | (rcases h with h | h <;> (have h3 := h.1; have h4 := h.2; omega)))
      have hWtb := hWtb.kept (hk.2 _ hWtb.lt (fun h => by first | (have h3 := h.1; have h4 := h.2; omega) | (rcases h with h | h <;> (have h3 := h.1; have h4 := h.2; omega))))
      have hWtn := hWtn.kept (hk.2 _ hWtn.lt (fun h => by first | (have h3 := h.1; have h4 := h.2; omega) | (rcases h with h | h <;> (have h3 := h.1; have h4 := h.2; omega))))
      have hWto := hWto.kept (hk.2 _ hWto.lt (fun h => by first | (have h3 := h.1; have h4 := h.2; omega) | (rcases h with h | h <;> (have h3 := h.1; have h4 := h.2; omega))))
      have hM := hMN
      clear hk hMN
      refine lv_pop hx hb dX7_carryOut_135 rfl ?_
      refine lv_goto (tgt := 199) hx hb dX7_carryOut_136 (by decide) ?_
      refine lv_iconst (v := nI 1) hx hb dX7_carryOut_199 (by decide) ?_
      exact kx_zretM hx hb hrt hlk (by rw [decide_eq_true hcw]; rfl) (by rw [show crF e 3 (nn 0) (nn 1) (nn 2) (nn 3) (nn 4) = upd e (56 + 4 * r + 3) (bI true) from (cr3 (by omega) hrn hw0).trans (by rw [bI_t]), cgN (Or.inl (by decide))]; exact ⟨hWro, hM, hM2, hWhi, hWto, hWtb, hWtn⟩) hS dX7_carryOut_200
    · refine lv_tableIn (off := 120) (tgt := 139) hx hb dX7_carryOut_19 (by decide) (by decide) (by rfl) (by decide) ?_
      have hw0 := (crW_4 e (nn 0) (nn 1) (nn 2) (nn 3) (nn 4)).symm.trans hcw
      obtain ⟨r, hr, hrn⟩ := wst_0 hI hw0
      refine lv_aload_n hx hb dX7_carryOut_139 rfl (lv_at hl 0 rfl) ?_
      refine kx_get (v := .ref (x + 1)) hx hb hts hinX7 hown hK hWro rfl 0 (by decide) (by decide +kernel) rfl dX7_carryOut_140 ?_
      refine lv_aload_n hx hb dX7_carryOut_143 rfl (lv_at hl 2 rfl) ?_
      refine lv_iconst (v := nI 0) hx hb dX7_carryOut_144 (by decide) ?_
      refine kx_iald (i := 0) hx hb hK hWtn 0 rfl (by decide) (by omega) dX7_carryOut_145 ?_
      refine kx_ci (x := nn 0) (y := nI (r)) hrn ?_
      refine lv_iconst (v := nI 0) hx hb dX7_carryOut_146 (by decide) ?_
      refine kx_ci (x := nI (0)) (y := bI (false)) bI_f.symm ?_
      refine kx_retM (va_runV (As := [.int (nI (r)), .int (bI (false))]) (rest := []) ⟨hx, hb, hml, hown, hts⟩ (k_X5_putStrike l D cs (x + 1) e g r false hI (by first | assumption | omega)) (cwV 2 hts gX7_carryOut_X5_putStrike rfl rfl rfl (by decide +kernel) ⟨Nat.le_of_ble_eq_true rfl, Nat.le_of_ble_eq_true rfl⟩) (kx_preV hK hN hM.obj rfl hM) rfl rfl hl.1 rfl (lv_room (Nat.le_of_ble_eq_true rfl)) dX7_carryOut_147 ⟨Nat.le_of_ble_eq_true rfl, Nat.le_of_ble_eq_true rfl⟩) hS (fun x _ h => (by first | exact h | (have h1 := h.1; have h2 := h.2; exact ⟨by omega, by omega⟩) | (rcases h with h | h <;> (have h1 := h.1; have h2 := h.2; exact ⟨by omega, by omega⟩)))) (fun x h => (by first | exact h | (have h1 := h.1; have h2 := h.2; exact ⟨by omega, by omega⟩) | (rcases h with h | h <;> (have h1 := h.1; have h2 := h.2; exact ⟨by omega, by omega⟩)))) (fun H locs hMN hk hS => ?_)
      have hWhi := hWhi.frame hk (fun x h1 h2 h => by first | (have h3 := h.1; have h4 := h.2; omega) | (rcases h with h | h <;> (have h3 := h.1; have h4 := h.2; omega)))
      have hWro := hWro.kept (hk.2 _ hWro.lt (fun h => by first | (have h3 := h.1; have h4 := h.2; omega) | (rcases h with h | h <;> (have h3 := h.1; have h4 := h.2; omega))))
      have hM2 := hM2.frame hk (fun x h1 h2 h => by first | (have h3 := h.1; have h4 := h.2; omega) | (rcases h with h | h <;> (have h3 := h.1; have h4 := h.2; omega)))
      have hWtb := hWtb.kept (hk.2 _ hWtb.lt (fun h => by first | (have h3 := h.1; have h4 := h.2; omega) | (rcases h with h | h <;> (have h3 := h.1; have h4 := h.2; omega))))
      have hWtn := hWtn.kept (hk.2 _ hWtn.lt (fun h => by first | (have h3 := h.1; have h4 := h.2; omega) | (rcases h with h | h <;> (have h3 := h.1; have h4 := h.2; omega))))
      have hWto := hWto.kept (hk.2 _ hWto.lt (fun h => by first | (have h3 := h.1; have h4 := h.2; omega) | (rcases h with h | h <;> (have h3 := h.1; have h4 := h.2; omega))))
      have hM := hMN
      clear hk hMN
      refine lv_pop hx hb dX7_carryOut_150 rfl ?_
      refine lv_goto (tgt := 199) hx hb dX7_carryOut_151 (by decide) ?_
      refine lv_iconst (v := nI 1) hx hb dX7_carryOut_199 (by decide) ?_
      exact kx_zretM hx hb hrt hlk (by rw [decide_eq_true hcw]; rfl) (by rw [show crF e 4 (nn 0) (nn 1) (nn 2) (nn 3) (nn 4) = upd e (56 + 4 * r + 3) (bI false) from (cr4 (by omega) hrn hw0).trans (by rw [bI_f]), cgN (Or.inl (by decide))]; exact ⟨hWro, hM, hM2, hWhi, hWto, hWtb, hWtn⟩) hS dX7_carryOut_200
    · refine lv_tableIn (off := 135) (tgt := 154) hx hb dX7_carryOut_19 (by decide) (by decide) (by rfl) (by decide) ?_
      have hw0 := (crW_5 e (nn 0) (nn 1) (nn 2) (nn 3) (nn 4)).symm.trans hcw
      obtain ⟨r, hr, hrn⟩ := wwr_0 hw0
      refine lv_aload_n hx hb dX7_carryOut_154 rfl (lv_at hl 0 rfl) ?_
      refine kx_get (v := .ref (x + 1)) hx hb hts hinX7 hown hK hWro rfl 0 (by decide) (by decide +kernel) rfl dX7_carryOut_155 ?_
      refine lv_aload_n hx hb dX7_carryOut_158 rfl (lv_at hl 2 rfl) ?_
      refine lv_iconst (v := nI 0) hx hb dX7_carryOut_159 (by decide) ?_
      refine kx_iald (i := 0) hx hb hK hWtn 0 rfl (by decide) (by omega) dX7_carryOut_160 ?_
      refine kx_ci (x := nn 0) (y := nI (r)) hrn ?_
      refine lv_aload_n hx hb dX7_carryOut_161 rfl (lv_at hl 2 rfl) ?_
      refine lv_iconst (v := nI 1) hx hb dX7_carryOut_162 (by decide) ?_
      refine kx_iald (i := 1) hx hb hK hWtn 0 rfl (by decide) (by omega) dX7_carryOut_163 ?_
      refine kx_retM (va_runV (As := [.int (nI (r)), .int (nn 1)]) (rest := []) ⟨hx, hb, hml, hown, hts⟩ (k_X5_putValue l D cs (x + 1) e g r (nn 1) (by first | assumption | omega)) (cwV 2 hts gX7_carryOut_X5_putValue rfl rfl rfl (by decide +kernel) ⟨Nat.le_of_ble_eq_true rfl, Nat.le_of_ble_eq_true rfl⟩) (kx_preV hK hN hM.obj rfl hM) rfl rfl hl.1 rfl (lv_room (Nat.le_of_ble_eq_true rfl)) dX7_carryOut_164 ⟨Nat.le_of_ble_eq_true rfl, Nat.le_of_ble_eq_true rfl⟩) hS (fun x _ h => (by first | exact h | (have h1 := h.1; have h2 := h.2; exact ⟨by omega, by omega⟩) | (rcases h with h | h <;> (have h1 := h.1; have h2 := h.2; exact ⟨by omega, by omega⟩)))) (fun x h => (by first | exact h | (have h1 := h.1; have h2 := h.2; exact ⟨by omega, by omega⟩) | (rcases h with h | h <;> (have h1 := h.1; have h2 := h.2; exact ⟨by omega, by omega⟩)))) (fun H locs hMN hk hS => ?_)
      have hWhi := hWhi.frame hk (fun x h1 h2 h => by first | (have h3 := h.1; have h4 := h.2; omega) | (rcases h with h | h <;> (have h3 := h.1; have h4 := h.2; omega)))
      have hWro := hWro.kept (hk.2 _ hWro.lt (fun h => by first | (have h3 := h.1; have h4 := h.2; omega) | (rcases h with h | h <;> (have h3 := h.1; have h4 := h.2; omega))))
      have hM2 := hM2.frame hk (fun x h1 h2 h => by first | (have h3 := h.1; have h4 := h.2; omega) | (rcases h with h | h <;> (have h3 := h.1; have h4 := h.2; omega)))
      have hWtb := hWtb.kept (hk.2 _ hWtb.lt (fun h => by first | (have h3 := h.1; have h4 := h.2; omega) | (rcases h with h | h <;> (have h3 := h.1; have h4 := h.2; omega))))
      have hWtn := hWtn.kept (hk.2 _ hWtn.lt (fun h => by first | (have h3 := h.1; have h4 := h.2; omega) | (rcases h with h | h <;> (have h3 := h.1; have h4 := h.2; omega))))
      have hWto := hWto.kept (hk.2 _ hWto.lt (fun h => by first | (have h3 := h.1; have h4 := h.2; omega) | (rcases h with h | h <;> (have h3 := h.1; have h4 := h.2; omega))))
      have hM := hMN
      clear hk hMN
      refine lv_pop hx hb dX7_carryOut_167 rfl ?_
      refine lv_goto (tgt := 199) hx hb dX7_carryOut_168 (by decide) ?_
      refine lv_iconst (v := nI 1) hx hb dX7_carryOut_199 (by decide) ?_
      exact kx_zretM hx hb hrt hlk (by rw [decide_eq_true hcw]; rfl) (by rw [show crF e 5 (nn 0) (nn 1) (nn 2) (nn 3) (nn 4) = upd e (8 + r) (nn 1) from cr5 (by omega) hrn hw0, cgN (Or.inl (by decide))]; exact ⟨hWro, hM, hM2, hWhi, hWto, hWtb, hWtn⟩) hS dX7_carryOut_200
    · refine lv_tableIn (off := 152) (tgt := 171) hx hb dX7_carryOut_19 (by decide) (by decide) (by rfl) (by decide) ?_
      have hw0 := (crW_6 e (nn 0) (nn 1) (nn 2) (nn 3) (nn 4)).symm.trans hcw
      obtain ⟨r, hr, hrn⟩ := wse_0 hw0
      refine lv_aload_n hx hb dX7_carryOut_171 rfl (lv_at hl 0 rfl) ?_
      refine kx_get (v := .ref (x + 1)) hx hb hts hinX7 hown hK hWro rfl 0 (by decide) (by decide +kernel) rfl dX7_carryOut_172 ?_
      refine lv_aload_n hx hb dX7_carryOut_175 rfl (lv_at hl 2 rfl) ?_
      refine lv_iconst (v := nI 0) hx hb dX7_carryOut_176 (by decide) ?_
      refine kx_iald (i := 0) hx hb hK hWtn 0 rfl (by decide) (by omega) dX7_carryOut_177 ?_
      refine kx_ci (x := nn 0) (y := nI (r)) hrn ?_
      refine lv_aload_n hx hb dX7_carryOut_178 rfl (lv_at hl 2 rfl) ?_
      refine lv_iconst (v := nI 1) hx hb dX7_carryOut_179 (by decide) ?_
      refine kx_iald (i := 1) hx hb hK hWtn 0 rfl (by decide) (by omega) dX7_carryOut_180 ?_
      refine kx_retM (va_runV (As := [.int (nI (r)), .int (nn 1)]) (rest := []) ⟨hx, hb, hml, hown, hts⟩ (k_X5_putSetting l D cs (x + 1) e g r (nn 1) (by first | assumption | omega)) (cwV 2 hts gX7_carryOut_X5_putSetting rfl rfl rfl (by decide +kernel) ⟨Nat.le_of_ble_eq_true rfl, Nat.le_of_ble_eq_true rfl⟩) (kx_preV hK hN hM.obj rfl hM) rfl rfl hl.1 rfl (lv_room (Nat.le_of_ble_eq_true rfl)) dX7_carryOut_181 ⟨Nat.le_of_ble_eq_true rfl, Nat.le_of_ble_eq_true rfl⟩) hS (fun x _ h => (by first | exact h | (have h1 := h.1; have h2 := h.2; exact ⟨by omega, by omega⟩) | (rcases h with h | h <;> (have h1 := h.1; have h2 := h.2; exact ⟨by omega, by omega⟩)))) (fun x h => (by first | exact h | (have h1 := h.1; have h2 := h.2; exact ⟨by omega, by omega⟩) | (rcases h with h | h <;> (have h1 := h.1; have h2 := h.2; exact ⟨by omega, by omega⟩)))) (fun H locs hMN hk hS => ?_)
      have hWhi := hWhi.frame hk (fun x h1 h2 h => by first | (have h3 := h.1; have h4 := h.2; omega) | (rcases h with h | h <;> (have h3 := h.1; have h4 := h.2; omega)))
      have hWro := hWro.kept (hk.2 _ hWro.lt (fun h => by first | (have h3 := h.1; have h4 := h.2; omega) | (rcases h with h | h <;> (have h3 := h.1; have h4 := h.2; omega))))
      have hM2 := hM2.frame hk (fun x h1 h2 h => by first | (have h3 := h.1; have h4 := h.2; omega) | (rcases h with h | h <;> (have h3 := h.1; have h4 := h.2; omega)))
      have hWtb := hWtb.kept (hk.2 _ hWtb.lt (fun h => by first | (have h3 := h.1; have h4 := h.2; omega) | (rcases h with h | h <;> (have h3 := h.1; have h4 := h.2; omega))))
      have hWtn := hWtn.kept (hk.2 _ hWtn.lt (fun h => by first | (have h3 := h.1; have h4 := h.2; omega) | (rcases h with h | h <;> (have h3 := h.1; have h4 := h.2; omega))))
      have hWto := hWto.kept (hk.2 _ hWto.lt (fun h => by first | (have h3 := h.1; have h4 := h.2; omega) | (rcases h with h | h <;> (have h3 := h.1; have h4 := h.2; omega))))
      have hM := hMN
      clear hk hMN
      refine lv_pop hx hb dX7_carryOut_184 rfl ?_
      refine lv_goto (tgt := 199) hx hb dX7_carryOut_185 (by decide) ?_
      refine lv_iconst (v := nI 1) hx hb dX7_carryOut_199 (by decide) ?_
      exact kx_zretM hx hb hrt hlk (by rw [decide_eq_true hcw]; rfl) (by rw [show crF e 6 (nn 0) (nn 1) (nn 2) (nn 3) (nn 4) = upd e (1 + r) (nn 1) from cr6 (by omega) hrn hw0, cgN (Or.inl (by decide))]; exact ⟨hWro, hM, hM2, hWhi, hWto, hWtb, hWtn⟩) hS dX7_carryOut_200
    · refine lv_tableIn (off := 169) (tgt := 188) hx hb dX7_carryOut_19 (by decide) (by decide) (by rfl) (by decide) ?_
      have hw0 := (crW_7 e (nn 0) (nn 1) (nn 2) (nn 3) (nn 4)).symm.trans hcw
      obtain ⟨r, hr, hrn⟩ := wtk_0 hw0
      refine lv_aload_n hx hb dX7_carryOut_188 rfl (lv_at hl 0 rfl) ?_
      refine kx_get (v := .ref (x + 1)) hx hb hts hinX7 hown hK hWro rfl 0 (by decide) (by decide +kernel) rfl dX7_carryOut_189 ?_
      refine lv_aload_n hx hb dX7_carryOut_192 rfl (lv_at hl 2 rfl) ?_
      refine lv_iconst (v := nI 0) hx hb dX7_carryOut_193 (by decide) ?_
      refine kx_iald (i := 0) hx hb hK hWtn 0 rfl (by decide) (by omega) dX7_carryOut_194 ?_
      refine kx_ci (x := nn 0) (y := nI (r)) hrn ?_
      refine kx_retM (va_runV (As := [.int (nI (r))]) (rest := []) ⟨hx, hb, hml, hown, hts⟩ (k_X5_letPass l D cs (x + 1) e g r hI hG (by omega)) (cwV 1 hts gX7_carryOut_X5_letPass rfl rfl rfl (by decide +kernel) ⟨Nat.le_of_ble_eq_true rfl, Nat.le_of_ble_eq_true rfl⟩) (kx_preV hK hN hM.obj rfl hM) rfl rfl hl.1 rfl (lv_room (Nat.le_of_ble_eq_true rfl)) dX7_carryOut_195 ⟨Nat.le_of_ble_eq_true rfl, Nat.le_of_ble_eq_true rfl⟩) hS (fun x _ h => (by first | exact h | (have h1 := h.1; have h2 := h.2; exact ⟨by omega, by omega⟩) | (rcases h with h | h <;> (have h1 := h.1; have h2 := h.2; exact ⟨by omega, by omega⟩)))) (fun x h => (by first | exact h | (have h1 := h.1; have h2 := h.2; exact ⟨by omega, by omega⟩) | (rcases h with h | h <;> (have h1 := h.1; have h2 := h.2; exact ⟨by omega, by omega⟩)))) (fun H locs hMN hk hS => ?_)
      have hWhi := hWhi.frame hk (fun x h1 h2 h => by first | (have h3 := h.1; have h4 := h.2; omega) | (rcases h with h | h <;> (have h3 := h.1; have h4 := h.2; omega)))
      have hWro := hWro.kept (hk.2 _ hWro.lt (fun h => by first | (have h3 := h.1; have h4 := h.2; omega) | (rcases h with h | h <;> (have h3 := h.1; have h4 := h.2; omega))))
      have hM2 := hM2.frame hk (fun x h1 h2 h => by first | (have h3 := h.1; have h4 := h.2; omega) | (rcases h with h | h <;> (have h3 := h.1; have h4 := h.2; omega)))
      have hWtb := hWtb.kept (hk.2 _ hWtb.lt (fun h => by first | (have h3 := h.1; have h4 := h.2; omega) | (rcases h with h | h <;> (have h3 := h.1; have h4 := h.2; omega))))
      have hWtn := hWtn.kept (hk.2 _ hWtn.lt (fun h => by first | (have h3 := h.1; have h4 := h.2; omega) | (rcases h with h | h <;> (have h3 := h.1; have h4 := h.2; omega))))
      have hWto := hWto.kept (hk.2 _ hWto.lt (fun h => by first | (have h3 := h.1; have h4 := h.2; omega) | (rcases h with h | h <;> (have h3 := h.1; have h4 := h.2; omega))))
      have hM := hMN
      clear hk hMN
      refine lv_pop hx hb dX7_carryOut_198 rfl ?_
      refine lv_iconst (v := nI 1) hx hb dX7_carryOut_199 (by decide) ?_
      exact kx_zretM hx hb hrt hlk (by rw [decide_eq_true hcw]; rfl) (by rw [show crF e 7 (nn 0) (nn 1) (nn 2) (nn 3) (nn 4) = psF e r from cr7 (by omega) hrn hw0, cgN (Or.inl (by decide))]; exact ⟨hWro, hM, hM2, hWhi, hWto, hWtb, hWtn⟩) hS dX7_carryOut_200
  · have hcw : ¬ crW e k0 (nn 0) (nn 1) (nn 2) (nn 3) (nn 4) = 0 := fun q => hr0 (crX_0.mpr q)
    refine lv_iconst (v := nI 0) hx hb dX7_carryOut_9 (by decide) ?_
    exact kx_zretM hx hb hrt hlk (by rw [decide_eq_false hcw]; rfl) (by rw [crN hcw, cgN (Or.inr hcw)]; exact ⟨hWro, hM, hM2, hWhi, hWto, hWtb, hWtn⟩) hS dX7_carryOut_10
