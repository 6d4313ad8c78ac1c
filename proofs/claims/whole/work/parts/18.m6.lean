set_option maxHeartbeats 1500000 in
set_option maxRecDepth 100000 in
theorem k_X8_kindFrom (l : Launch) (D : va_G) (cs : Nat → ClassId) (a : Nat) (z : Nat → Int32) (b : Nat → Int32) (n0 f e0 : Nat) (hT : TXT z b n0) (hp : z 4406 = nI e0) (hfe : f ≤ e0) (he : e0 ≤ n0) : Met l yX8_kindFrom wsX8_kindFrom ({ frames := 2, cells := 0, slots := 0, locals := 50 } : Room) (PcK D cs [.ref (a), .int (nI (f))] (fun H => MdC D (cs 0) a z H)) (QcP (some (.int (kdI (kdN b n0 f e0))))) 0 0 nowhere := by
  refine kx_met (cc := cX8_kindFrom) (maxL := 2) (ret := (some .int)) (by decide) rfl (Nat.le_of_ble_eq_true rfl) ?_
  intro p e s m args below meth c hx hb hml hrt hts hown hlk hK hN hP ls hl
  have hl : lv_has ls 2 [(0, .ref (a)), (1, .int (nI (f)))] := hl
  have hM := hP
  have hn150 := hT.2.2
  have h4405 := hT.2.1
  refine lv_aload_n hx hb dX8_kindFrom_0 rfl (lv_at hl 0 rfl) ?_
  refine lv_iload_n hx hb dX8_kindFrom_1 rfl (lv_at hl 1 rfl) ?_
  refine lv_iconst (v := nI 4) hx hb dX8_kindFrom_2 (by decide) ?_
  refine lv_bipush (v := nI 114) hx hb dX8_kindFrom_3 (by decide) ?_
  refine lv_bipush (v := nI 105) hx hb dX8_kindFrom_5 (by decide) ?_
  refine lv_bipush (v := nI 110) hx hb dX8_kindFrom_7 (by decide) ?_
  refine lv_bipush (v := nI 103) hx hb dX8_kindFrom_9 (by decide) ?_
  refine lv_iconst (v := nI 0) hx hb dX8_kindFrom_11 (by decide) ?_
  refine lv_iconst (v := nI 0) hx hb dX8_kindFrom_12 (by decide) ?_
  refine kx_retP (va_runV (As := [.int (nI (f)), .int (nI (4)), .int (nI (114)), .int (nI (105)), .int (nI (110)), .int (nI (103)), .int (nI (0)), .int (nI (0))]) (rest := []) ⟨hx, hb, hml, hown, hts⟩ (k_X8_hasWord l D cs a z b n0 f e0 4 (nI (114)) (nI (105)) (nI (110)) (nI (103)) (nI (0)) (nI (0)) hT hp (by first | assumption | omega) (by first | assumption | omega) (by first | assumption | omega)) (cwV 8 hts gX8_kindFrom_X8_hasWord rfl rfl rfl (by decide +kernel) ⟨Nat.le_of_ble_eq_true rfl, Nat.le_of_ble_eq_true rfl⟩) (kx_preV hK hN hM.1 rfl hM) rfl rfl hl.1 rfl (lv_room (Nat.le_of_ble_eq_true rfl)) dX8_kindFrom_13 ⟨Nat.le_of_ble_eq_true rfl, Nat.le_of_ble_eq_true rfl⟩) ?_
  refine kb_if_eq (tgt := 21) hx hb dX8_kindFrom_16 (by decide) (fun c_1 => ?_) (fun c_1 => ?_)
  · refine lv_aload_n hx hb dX8_kindFrom_21 rfl (lv_at hl 0 rfl) ?_
    refine lv_iload_n hx hb dX8_kindFrom_22 rfl (lv_at hl 1 rfl) ?_
    refine lv_iconst (v := nI 4) hx hb dX8_kindFrom_23 (by decide) ?_
    refine lv_bipush (v := nI 109) hx hb dX8_kindFrom_24 (by decide) ?_
    refine lv_bipush (v := nI 111) hx hb dX8_kindFrom_26 (by decide) ?_
    refine lv_bipush (v := nI 118) hx hb dX8_kindFrom_28 (by decide) ?_
    refine lv_bipush (v := nI 101) hx hb dX8_kindFrom_30 (by decide) ?_
    refine lv_iconst (v := nI 0) hx hb dX8_kindFrom_32 (by decide) ?_
    refine lv_iconst (v := nI 0) hx hb dX8_kindFrom_33 (by decide) ?_
    refine kx_retP (va_runV (As := [.int (nI (f)), .int (nI (4)), .int (nI (109)), .int (nI (111)), .int (nI (118)), .int (nI (101)), .int (nI (0)), .int (nI (0))]) (rest := []) ⟨hx, hb, hml, hown, hts⟩ (k_X8_hasWord l D cs a z b n0 f e0 4 (nI (109)) (nI (111)) (nI (118)) (nI (101)) (nI (0)) (nI (0)) hT hp (by first | assumption | omega) (by first | assumption | omega) (by first | assumption | omega)) (cwV 8 hts gX8_kindFrom_X8_hasWord rfl rfl rfl (by decide +kernel) ⟨Nat.le_of_ble_eq_true rfl, Nat.le_of_ble_eq_true rfl⟩) (kx_preV hK hN hM.1 rfl hM) rfl rfl hl.1 rfl (lv_room (Nat.le_of_ble_eq_true rfl)) dX8_kindFrom_34 ⟨Nat.le_of_ble_eq_true rfl, Nat.le_of_ble_eq_true rfl⟩) ?_
    refine kb_if_eq (tgt := 42) hx hb dX8_kindFrom_37 (by decide) (fun c_2 => ?_) (fun c_2 => ?_)
    · refine lv_aload_n hx hb dX8_kindFrom_42 rfl (lv_at hl 0 rfl) ?_
      refine lv_iload_n hx hb dX8_kindFrom_43 rfl (lv_at hl 1 rfl) ?_
      refine lv_iconst (v := nI 4) hx hb dX8_kindFrom_44 (by decide) ?_
      refine lv_bipush (v := nI 115) hx hb dX8_kindFrom_45 (by decide) ?_
      refine lv_bipush (v := nI 105) hx hb dX8_kindFrom_47 (by decide) ?_
      refine lv_bipush (v := nI 103) hx hb dX8_kindFrom_49 (by decide) ?_
      refine lv_bipush (v := nI 110) hx hb dX8_kindFrom_51 (by decide) ?_
      refine lv_iconst (v := nI 0) hx hb dX8_kindFrom_53 (by decide) ?_
      refine lv_iconst (v := nI 0) hx hb dX8_kindFrom_54 (by decide) ?_
      refine kx_retP (va_runV (As := [.int (nI (f)), .int (nI (4)), .int (nI (115)), .int (nI (105)), .int (nI (103)), .int (nI (110)), .int (nI (0)), .int (nI (0))]) (rest := []) ⟨hx, hb, hml, hown, hts⟩ (k_X8_hasWord l D cs a z b n0 f e0 4 (nI (115)) (nI (105)) (nI (103)) (nI (110)) (nI (0)) (nI (0)) hT hp (by first | assumption | omega) (by first | assumption | omega) (by first | assumption | omega)) (cwV 8 hts gX8_kindFrom_X8_hasWord rfl rfl rfl (by decide +kernel) ⟨Nat.le_of_ble_eq_true rfl, Nat.le_of_ble_eq_true rfl⟩) (kx_preV hK hN hM.1 rfl hM) rfl rfl hl.1 rfl (lv_room (Nat.le_of_ble_eq_true rfl)) dX8_kindFrom_55 ⟨Nat.le_of_ble_eq_true rfl, Nat.le_of_ble_eq_true rfl⟩) ?_
      refine kb_if_eq (tgt := 63) hx hb dX8_kindFrom_58 (by decide) (fun c_3 => ?_) (fun c_3 => ?_)
      · refine lv_aload_n hx hb dX8_kindFrom_63 rfl (lv_at hl 0 rfl) ?_
        refine lv_iload_n hx hb dX8_kindFrom_64 rfl (lv_at hl 1 rfl) ?_
        refine lv_bipush (v := nI 6) hx hb dX8_kindFrom_65 (by decide) ?_
        refine lv_bipush (v := nI 115) hx hb dX8_kindFrom_67 (by decide) ?_
        refine lv_bipush (v := nI 116) hx hb dX8_kindFrom_69 (by decide) ?_
        refine lv_bipush (v := nI 114) hx hb dX8_kindFrom_71 (by decide) ?_
        refine lv_bipush (v := nI 105) hx hb dX8_kindFrom_73 (by decide) ?_
        refine lv_bipush (v := nI 107) hx hb dX8_kindFrom_75 (by decide) ?_
        refine lv_bipush (v := nI 101) hx hb dX8_kindFrom_77 (by decide) ?_
        refine kx_retP (va_runV (As := [.int (nI (f)), .int (nI (6)), .int (nI (115)), .int (nI (116)), .int (nI (114)), .int (nI (105)), .int (nI (107)), .int (nI (101))]) (rest := []) ⟨hx, hb, hml, hown, hts⟩ (k_X8_hasWord l D cs a z b n0 f e0 6 (nI (115)) (nI (116)) (nI (114)) (nI (105)) (nI (107)) (nI (101)) hT hp (by first | assumption | omega) (by first | assumption | omega) (by first | assumption | omega)) (cwV 8 hts gX8_kindFrom_X8_hasWord rfl rfl rfl (by decide +kernel) ⟨Nat.le_of_ble_eq_true rfl, Nat.le_of_ble_eq_true rfl⟩) (kx_preV hK hN hM.1 rfl hM) rfl rfl hl.1 rfl (lv_room (Nat.le_of_ble_eq_true rfl)) dX8_kindFrom_79 ⟨Nat.le_of_ble_eq_true rfl, Nat.le_of_ble_eq_true rfl⟩) ?_
        refine kb_if_eq (tgt := 87) hx hb dX8_kindFrom_82 (by decide) (fun c_4 => ?_) (fun c_4 => ?_)
        · refine lv_aload_n hx hb dX8_kindFrom_87 rfl (lv_at hl 0 rfl) ?_
          refine lv_iload_n hx hb dX8_kindFrom_88 rfl (lv_at hl 1 rfl) ?_
          refine lv_iconst (v := nI 4) hx hb dX8_kindFrom_89 (by decide) ?_
          refine lv_bipush (v := nI 119) hx hb dX8_kindFrom_90 (by decide) ?_
          refine lv_bipush (v := nI 111) hx hb dX8_kindFrom_92 (by decide) ?_
          refine lv_bipush (v := nI 114) hx hb dX8_kindFrom_94 (by decide) ?_
          refine lv_bipush (v := nI 107) hx hb dX8_kindFrom_96 (by decide) ?_
          refine lv_iconst (v := nI 0) hx hb dX8_kindFrom_98 (by decide) ?_
          refine lv_iconst (v := nI 0) hx hb dX8_kindFrom_99 (by decide) ?_
          refine kx_retP (va_runV (As := [.int (nI (f)), .int (nI (4)), .int (nI (119)), .int (nI (111)), .int (nI (114)), .int (nI (107)), .int (nI (0)), .int (nI (0))]) (rest := []) ⟨hx, hb, hml, hown, hts⟩ (k_X8_hasWord l D cs a z b n0 f e0 4 (nI (119)) (nI (111)) (nI (114)) (nI (107)) (nI (0)) (nI (0)) hT hp (by first | assumption | omega) (by first | assumption | omega) (by first | assumption | omega)) (cwV 8 hts gX8_kindFrom_X8_hasWord rfl rfl rfl (by decide +kernel) ⟨Nat.le_of_ble_eq_true rfl, Nat.le_of_ble_eq_true rfl⟩) (kx_preV hK hN hM.1 rfl hM) rfl rfl hl.1 rfl (lv_room (Nat.le_of_ble_eq_true rfl)) dX8_kindFrom_100 ⟨Nat.le_of_ble_eq_true rfl, Nat.le_of_ble_eq_true rfl⟩) ?_
          refine kb_if_eq (tgt := 108) hx hb dX8_kindFrom_103 (by decide) (fun c_5 => ?_) (fun c_5 => ?_)
          · refine lv_aload_n hx hb dX8_kindFrom_108 rfl (lv_at hl 0 rfl) ?_
            refine lv_iload_n hx hb dX8_kindFrom_109 rfl (lv_at hl 1 rfl) ?_
            refine lv_iconst (v := nI 3) hx hb dX8_kindFrom_110 (by decide) ?_
            refine lv_bipush (v := nI 112) hx hb dX8_kindFrom_111 (by decide) ?_
            refine lv_bipush (v := nI 117) hx hb dX8_kindFrom_113 (by decide) ?_
            refine lv_bipush (v := nI 116) hx hb dX8_kindFrom_115 (by decide) ?_
            refine lv_iconst (v := nI 0) hx hb dX8_kindFrom_117 (by decide) ?_
            refine lv_iconst (v := nI 0) hx hb dX8_kindFrom_118 (by decide) ?_
            refine lv_iconst (v := nI 0) hx hb dX8_kindFrom_119 (by decide) ?_
            refine kx_retP (va_runV (As := [.int (nI (f)), .int (nI (3)), .int (nI (112)), .int (nI (117)), .int (nI (116)), .int (nI (0)), .int (nI (0)), .int (nI (0))]) (rest := []) ⟨hx, hb, hml, hown, hts⟩ (k_X8_hasWord l D cs a z b n0 f e0 3 (nI (112)) (nI (117)) (nI (116)) (nI (0)) (nI (0)) (nI (0)) hT hp (by first | assumption | omega) (by first | assumption | omega) (by first | assumption | omega)) (cwV 8 hts gX8_kindFrom_X8_hasWord rfl rfl rfl (by decide +kernel) ⟨Nat.le_of_ble_eq_true rfl, Nat.le_of_ble_eq_true rfl⟩) (kx_preV hK hN hM.1 rfl hM) rfl rfl hl.1 rfl (lv_room (Nat.le_of_ble_eq_true rfl)) dX8_kindFrom_120 ⟨Nat.le_of_ble_eq_true rfl, Nat.le_of_ble_eq_true rfl⟩) ?_
            refine kb_if_eq (tgt := 128) hx hb dX8_kindFrom_123 (by decide) (fun c_6 => ?_) (fun c_6 => ?_)
            · refine lv_aload_n hx hb dX8_kindFrom_128 rfl (lv_at hl 0 rfl) ?_
              refine lv_iload_n hx hb dX8_kindFrom_129 rfl (lv_at hl 1 rfl) ?_
              refine lv_iconst (v := nI 3) hx hb dX8_kindFrom_130 (by decide) ?_
              refine lv_bipush (v := nI 115) hx hb dX8_kindFrom_131 (by decide) ?_
              refine lv_bipush (v := nI 101) hx hb dX8_kindFrom_133 (by decide) ?_
              refine lv_bipush (v := nI 116) hx hb dX8_kindFrom_135 (by decide) ?_
              refine lv_iconst (v := nI 0) hx hb dX8_kindFrom_137 (by decide) ?_
              refine lv_iconst (v := nI 0) hx hb dX8_kindFrom_138 (by decide) ?_
              refine lv_iconst (v := nI 0) hx hb dX8_kindFrom_139 (by decide) ?_
              refine kx_retP (va_runV (As := [.int (nI (f)), .int (nI (3)), .int (nI (115)), .int (nI (101)), .int (nI (116)), .int (nI (0)), .int (nI (0)), .int (nI (0))]) (rest := []) ⟨hx, hb, hml, hown, hts⟩ (k_X8_hasWord l D cs a z b n0 f e0 3 (nI (115)) (nI (101)) (nI (116)) (nI (0)) (nI (0)) (nI (0)) hT hp (by first | assumption | omega) (by first | assumption | omega) (by first | assumption | omega)) (cwV 8 hts gX8_kindFrom_X8_hasWord rfl rfl rfl (by decide +kernel) ⟨Nat.le_of_ble_eq_true rfl, Nat.le_of_ble_eq_true rfl⟩) (kx_preV hK hN hM.1 rfl hM) rfl rfl hl.1 rfl (lv_room (Nat.le_of_ble_eq_true rfl)) dX8_kindFrom_140 ⟨Nat.le_of_ble_eq_true rfl, Nat.le_of_ble_eq_true rfl⟩) ?_
              refine kb_if_eq (tgt := 149) hx hb dX8_kindFrom_143 (by decide) (fun c_7 => ?_) (fun c_7 => ?_)
              · refine lv_aload_n hx hb dX8_kindFrom_149 rfl (lv_at hl 0 rfl) ?_
                refine lv_iload_n hx hb dX8_kindFrom_150 rfl (lv_at hl 1 rfl) ?_
                refine lv_iconst (v := nI 5) hx hb dX8_kindFrom_151 (by decide) ?_
                refine lv_bipush (v := nI 116) hx hb dX8_kindFrom_152 (by decide) ?_
                refine lv_bipush (v := nI 105) hx hb dX8_kindFrom_154 (by decide) ?_
                refine lv_bipush (v := nI 99) hx hb dX8_kindFrom_156 (by decide) ?_
                refine lv_bipush (v := nI 107) hx hb dX8_kindFrom_158 (by decide) ?_
                refine lv_bipush (v := nI 115) hx hb dX8_kindFrom_160 (by decide) ?_
                refine lv_iconst (v := nI 0) hx hb dX8_kindFrom_162 (by decide) ?_
                refine kx_retP (va_runV (As := [.int (nI (f)), .int (nI (5)), .int (nI (116)), .int (nI (105)), .int (nI (99)), .int (nI (107)), .int (nI (115)), .int (nI (0))]) (rest := []) ⟨hx, hb, hml, hown, hts⟩ (k_X8_hasWord l D cs a z b n0 f e0 5 (nI (116)) (nI (105)) (nI (99)) (nI (107)) (nI (115)) (nI (0)) hT hp (by first | assumption | omega) (by first | assumption | omega) (by first | assumption | omega)) (cwV 8 hts gX8_kindFrom_X8_hasWord rfl rfl rfl (by decide +kernel) ⟨Nat.le_of_ble_eq_true rfl, Nat.le_of_ble_eq_true rfl⟩) (kx_preV hK hN hM.1 rfl hM) rfl rfl hl.1 rfl (lv_room (Nat.le_of_ble_eq_true rfl)) dX8_kindFrom_163 ⟨Nat.le_of_ble_eq_true rfl, Nat.le_of_ble_eq_true rfl⟩) ?_
                refine kb_if_eq (tgt := 174) hx hb dX8_kindFrom_166 (by decide) (fun c_8 => ?_) (fun c_8 => ?_)
                · refine lv_sipush (v := -1000) hx hb dX8_kindFrom_174 (by decide) ?_
                  exact kx_iretP hx hb hrt hlk (by first | (simp [kdI, kdN, *]; done) | (exfalso; omega) | (exfalso; simp_all; done)) dX8_kindFrom_177
                · refine lv_bipush (v := nI 7) hx hb dX8_kindFrom_169 (by decide) ?_
                  refine lv_goto (tgt := 177) hx hb dX8_kindFrom_171 (by decide) ?_
                  exact kx_iretP hx hb hrt hlk (by first | (simp [kdI, kdN, *]; done) | (exfalso; omega) | (exfalso; simp_all; done)) dX8_kindFrom_177
              · refine lv_bipush (v := nI 6) hx hb dX8_kindFrom_146 (by decide) ?_
                exact kx_iretP hx hb hrt hlk (by first | (simp [kdI, kdN, *]; done) | (exfalso; omega) | (exfalso; simp_all; done)) dX8_kindFrom_148
            · refine lv_iconst (v := nI 5) hx hb dX8_kindFrom_126 (by decide) ?_
              exact kx_iretP hx hb hrt hlk (by first | (simp [kdI, kdN, *]; done) | (exfalso; omega) | (exfalso; simp_all; done)) dX8_kindFrom_127
          · refine lv_iconst (v := nI 4) hx hb dX8_kindFrom_106 (by decide) ?_
            exact kx_iretP hx hb hrt hlk (by first | (simp [kdI, kdN, *]; done) | (exfalso; omega) | (exfalso; simp_all; done)) dX8_kindFrom_107
        · refine lv_iconst (v := nI 3) hx hb dX8_kindFrom_85 (by decide) ?_
          exact kx_iretP hx hb hrt hlk (by first | (simp [kdI, kdN, *]; done) | (exfalso; omega) | (exfalso; simp_all; done)) dX8_kindFrom_86
      · refine lv_iconst (v := nI 2) hx hb dX8_kindFrom_61 (by decide) ?_
        exact kx_iretP hx hb hrt hlk (by first | (simp [kdI, kdN, *]; done) | (exfalso; omega) | (exfalso; simp_all; done)) dX8_kindFrom_62
    · refine lv_iconst (v := nI 1) hx hb dX8_kindFrom_40 (by decide) ?_
      exact kx_iretP hx hb hrt hlk (by first | (simp [kdI, kdN, *]; done) | (exfalso; omega) | (exfalso; simp_all; done)) dX8_kindFrom_41
  · refine lv_iconst (v := nI 0) hx hb dX8_kindFrom_19 (by decide) ?_
    exact kx_iretP hx hb hrt hlk (by first | (simp [kdI, kdN, *]; done) | (exfalso; omega) | (exfalso; simp_all; done)) dX8_kindFrom_20
set_option maxHeartbeats 1500000 in
set_option maxRecDepth 100000 in
theorem k_X8_numbersOf (l : Launch) (D : va_G) (cs : Nat → ClassId) (kd : Nat) (hkd : kd < 8) : Met l yX8_numbersOf wsX8_numbersOf ({ frames := 0, cells := 0, slots := 0, locals := 0 } : Room) (PcK D cs [.int (nI (kd))] (fun H => True)) (QcP (some (.int (nI (nmC kd))))) 0 0 nowhere := by
  refine kx_met (cc := cX8_numbersOf) (maxL := 1) (ret := (some .int)) (by decide) rfl (Nat.le_of_ble_eq_true rfl) ?_
  intro p e s m args below meth c hx hb hml hrt hts hown hlk hK hN hP ls hl
  have hl : lv_has ls 1 [(0, .int (nI (kd)))] := hl
  refine lv_iload_n hx hb dX8_numbersOf_0 rfl (lv_at hl 0 rfl) ?_
  refine kn_if_ne (tgt := 8) hx hb dX8_numbersOf_1 (by decide) (by omega) (fun c_1 => ?_) (fun c_1 => ?_)
  · refine lv_iload_n hx hb dX8_numbersOf_8 rfl (lv_at hl 0 rfl) ?_
    refine lv_iconst (v := nI 1) hx hb dX8_numbersOf_9 (by decide) ?_
    refine kn_icmp_ne (tgt := 17) hx hb dX8_numbersOf_10 (by decide) (by omega) (by decide) (fun c_2 => ?_) (fun c_2 => ?_)
    · refine lv_iload_n hx hb dX8_numbersOf_17 rfl (lv_at hl 0 rfl) ?_
      refine lv_iconst (v := nI 5) hx hb dX8_numbersOf_18 (by decide) ?_
      refine kn_icmp_eq (tgt := 28) hx hb dX8_numbersOf_19 (by decide) (by omega) (by decide) (fun c_3 => ?_) (fun c_3 => ?_)
      · refine lv_iconst (v := nI 2) hx hb dX8_numbersOf_28 (by decide) ?_
        refine lv_goto (tgt := 33) hx hb dX8_numbersOf_29 (by decide) ?_
        exact kx_iretP hx hb hrt hlk (congrArg nI (by first | (simp [nmC, *]; done) | (exfalso; omega) | (exfalso; simp_all; done))) dX8_numbersOf_33
      · refine lv_iload_n hx hb dX8_numbersOf_22 rfl (lv_at hl 0 rfl) ?_
        refine lv_bipush (v := nI 6) hx hb dX8_numbersOf_23 (by decide) ?_
        refine kn_icmp_ne (tgt := 32) hx hb dX8_numbersOf_25 (by decide) (by omega) (by decide) (fun c_4 => ?_) (fun c_4 => ?_)
        · refine lv_iconst (v := nI 1) hx hb dX8_numbersOf_32 (by decide) ?_
          exact kx_iretP hx hb hrt hlk (congrArg nI (by first | (simp [nmC, *]; done) | (exfalso; omega) | (exfalso; simp_all; done))) dX8_numbersOf_33
        · refine lv_iconst (v := nI 2) hx hb dX8_numbersOf_28 (by decide) ?_
          refine lv_goto (tgt := 33) hx hb dX8_numbersOf_29 (by decide) ?_
          exact kx_iretP hx hb hrt hlk (congrArg nI (by first | (simp [nmC, *]; done) | (exfalso; omega) | (exfalso; simp_all; done))) dX8_numbersOf_33
    · refine lv_iconst (v := nI 5) hx hb dX8_numbersOf_13 (by decide) ?_
      refine lv_goto (tgt := 33) hx hb dX8_numbersOf_14 (by decide) ?_
      exact kx_iretP hx hb hrt hlk (congrArg nI (by first | (simp [nmC, *]; done) | (exfalso; omega) | (exfalso; simp_all; done))) dX8_numbersOf_33
  · refine lv_iconst (v := nI 3) hx hb dX8_numbersOf_4 (by decide) ?_
    refine lv_goto (tgt := 33) hx hb dX8_numbersOf_5 (by decide) ?_
    exact kx_iretP hx hb hrt hlk (congrArg nI (by first | (simp [nmC, *]; done) | (exfalso; omega) | (exfalso; simp_all; done))) dX8_numbersOf_33
set_option maxHeartbeats 1500000 in
set_option maxRecDepth 100000 in
theorem k_X8_readsNumber (l : Launch) (D : va_G) (cs : Nat → ClassId) (a : Nat) (z : Nat → Int32) (b : Nat → Int32) (n0 k w : Nat) (hT : TXT z b n0) (hp : z 4406 = nI k) (hk : k ≤ n0) (hw : w < 5) : Met l yX8_readsNumber wsX8_readsNumber ({ frames := 2, cells := 0, slots := 0, locals := 41 } : Room) (PcK D cs [.ref (a), .int (nI (w))] (fun H => MdC D (cs 0) a z H)) (QcM (some (.int (bI (nmOk b n0 k)))) (fun H => MdC D (cs 0) a (rnZ z b n0 k w) H) (rgM a)) 0 0 ((rgM a)) := by
  refine kx_met (cc := cX8_readsNumber) (maxL := 3) (ret := (some .boolean)) (by decide) rfl (Nat.le_of_ble_eq_true rfl) ?_
  intro p e s m args below meth c hx hb hml hrt hts hown hlk hK hN hP ls hl
  have hl : lv_has ls 3 [(0, .ref (a)), (1, .int (nI (w)))] := hl
  obtain ⟨H, hHe⟩ : ∃ H : Heap, H = s.heap := ⟨_, rfl⟩
  rw [← hHe] at hP ⊢
  have hS : va_S ((rgM a)) s.heap H [] := by rw [← hHe]; exact va_S.rf
  have hinX8 : ∀ w ∈ wsX80, w ∈ wsX8_readsNumber := by decide +kernel
  have hM := hP
  have hn150 := hT.2.2
  have h4405 := hT.2.1
  have hsl := skp_le b hk
  have hTy := (TX.pl z (nI (skp b n0 k))).txt hT
  refine lv_aload_n hx hb dX8_readsNumber_0 rfl (lv_at hl 0 rfl) ?_
  refine lv_aload_n hx hb dX8_readsNumber_1 rfl (lv_at hl 0 rfl) ?_
  refine kx_get (v := .int (z 4406)) hx hb hts hinX8 hown hK hM.1 rfl 7 (by decide) (by decide +kernel) rfl dX8_readsNumber_2 ?_
  refine kx_ci (y := nI (k)) hp ?_
  refine kx_retP (va_runV (As := [.int (nI (k))]) (rest := []) ⟨hx, hb, hml, hown, hts⟩ (k_X8_byteAt l D cs a z b n0 k hT (by first | assumption | omega)) (cwV 1 hts gX8_readsNumber_X8_byteAt rfl rfl rfl (by decide +kernel) ⟨Nat.le_of_ble_eq_true rfl, Nat.le_of_ble_eq_true rfl⟩) (kx_preV hK hN hM.1 rfl hM) rfl rfl hl.1 rfl (lv_room (Nat.le_of_ble_eq_true rfl)) dX8_readsNumber_5 ⟨Nat.le_of_ble_eq_true rfl, Nat.le_of_ble_eq_true rfl⟩) ?_
  refine lv_bipush (v := nI 32) hx hb dX8_readsNumber_8 (by decide) ?_
  refine lv_icmp_eq (tgt := 15) hx hb dX8_readsNumber_10 (by decide) (fun h32 => ?_) (fun h32 => ?_)
  · refine lv_aload_n hx hb dX8_readsNumber_15 rfl (lv_at hl 0 rfl) ?_
    refine kx_retM (va_runV (As := []) (rest := []) ⟨hx, hb, hml, hown, hts⟩ (k_X8_skipSpaces l D cs a z b n0 k hT hp (by first | assumption | omega)) (cwV 0 hts gX8_readsNumber_X8_skipSpaces rfl rfl rfl (by decide +kernel) ⟨Nat.le_of_ble_eq_true rfl, Nat.le_of_ble_eq_true rfl⟩) (kx_preV hK hN hM.1 rfl hM) rfl rfl hl.1 rfl (lv_room (Nat.le_of_ble_eq_true rfl)) dX8_readsNumber_16 ⟨Nat.le_of_ble_eq_true rfl, Nat.le_of_ble_eq_true rfl⟩) hS (fun q _ h => h) (fun q h => h) (fun H locs hM hk hS => ?_)
    clear hk
    refine lv_aload_n hx hb dX8_readsNumber_19 rfl (lv_at hl 0 rfl) ?_
    refine lv_aload_n hx hb dX8_readsNumber_20 rfl (lv_at hl 0 rfl) ?_
    refine kx_get (v := .int ((upd z 4406 (nI (skp b n0 k))) 4406)) hx hb hts hinX8 hown hK hM.1 rfl 7 (by decide) (by decide +kernel) rfl dX8_readsNumber_21 ?_
    refine kx_ci (y := nI (skp b n0 k)) rfl ?_
    refine kx_retP (va_runV (As := [.int (nI (skp b n0 k))]) (rest := []) ⟨hx, hb, hml, hown, hts⟩ (k_X8_byteAt l D cs a (upd z 4406 (nI (skp b n0 k))) b n0 (skp b n0 k) hTy (by first | assumption | omega)) (cwV 1 hts gX8_readsNumber_X8_byteAt rfl rfl rfl (by decide +kernel) ⟨Nat.le_of_ble_eq_true rfl, Nat.le_of_ble_eq_true rfl⟩) (kx_preV hK hN hM.1 rfl hM) rfl rfl hl.1 rfl (lv_room (Nat.le_of_ble_eq_true rfl)) dX8_readsNumber_24 ⟨Nat.le_of_ble_eq_true rfl, Nat.le_of_ble_eq_true rfl⟩) ?_
    refine lv_bipush (v := nI 48) hx hb dX8_readsNumber_27 (by decide) ?_
    refine lv_bipush (v := nI 57) hx hb dX8_readsNumber_29 (by decide) ?_
    refine kx_retP (va_runS (As := [.int (bt b n0 (skp b n0 k)), .int (nI (48)), .int (nI (57))]) (rest := []) ⟨hx, hb, hml, hown, hts⟩ (k_X8_within l D cs (bt b n0 (skp b n0 k)) (nI (48)) (nI (57))) (cwS 3 hts gX8_readsNumber_X8_within rfl rfl rfl (by decide +kernel) ⟨Nat.le_of_ble_eq_true rfl, Nat.le_of_ble_eq_true rfl⟩) (kx_preS hK hN trivial) rfl rfl hl.1 rfl (lv_room (Nat.le_of_ble_eq_true rfl)) dX8_readsNumber_31 ⟨Nat.le_of_ble_eq_true rfl, Nat.le_of_ble_eq_true rfl⟩) ?_
    refine kb_if_ne (tgt := 39) hx hb dX8_readsNumber_34 (by decide) (fun hdg => ?_) (fun hdg => ?_)
    · refine lv_aload_n hx hb dX8_readsNumber_39 rfl (lv_at hl 0 rfl) ?_
      refine kx_get (v := .ref (a + 5)) hx hb hts hinX8 hown hK hM.1 rfl 9 (by decide) (by decide +kernel) rfl dX8_readsNumber_40 ?_
      refine lv_iload_n hx hb dX8_readsNumber_43 rfl (lv_at hl 1 rfl) ?_
      refine lv_iconst (v := nI 0) hx hb dX8_readsNumber_44 (by decide) ?_
      refine kx_iast (i := w) hx hb hK hM.numbers hS ⟨by omega, by omega⟩ 0 rfl (by omega) (by decide) dX8_readsNumber_45 (fun H locs hc hU hS => ?_)
      have hM := hM.put_numbers (by omega) hc hU
      clear hc hU
      have hM : MdC D (cs 0) a (rnK z b w (skp b n0 k) 0) H := hM
      refine lv_iconst (v := nI 0) hx hb dX8_readsNumber_46 (by decide) ?_
      refine lv_istore_n (lv' := [(2, .int (nI (0))), (0, .ref (a)), (1, .int (nI (w)))]) hx hb dX8_readsNumber_47 rfl hl (by decide) rfl (fun ls hl => ?_)
      have J48 : ∀ (fu48 : Nat) (i : Nat) (H : Heap) (locs : List Loc) (ls : Array Slot), (3 - i) < fu48 → (i ≤ 3) → (∀ j, j < i → isD (bt b n0 (skp b n0 k + j)) = true) → (MdC D (cs 0) a (rnK z b w (skp b n0 k) i) H) → va_S ((rgM a)) s.heap H locs → lv_has ls 3 [(0, .ref (a)), (1, .int (nI (w))), (2, .int (nI (i)))] → W p l e ({ frames := 2, cells := 0, slots := 0, locals := 41 } : Room) s m args below meth c H locs 0 0 (MQ below (QcM (some (.int (bI (nmOk b n0 k)))) (fun H => MdC D (cs 0) a (rnZ z b n0 k w) H) (rgM a)) args s 0 0 ((rgM a))) (F0 m 48 ls []) := by
        intro fu48; induction fu48 with
        | zero => intro i H locs ls hmu48 hi hsm hM hS hl; exact absurd hmu48 (Nat.not_lt_zero _)
        | succ fu48 ih48 =>
          intro i H locs ls hmu48 hi hsm hM hS hl
          have hTr := (rnK_tx z b hw (skp b n0 k) i).txt hT
          have hpr := rnK_pl z b hw (skp b n0 k) i
          refine lv_iload_n hx hb dX8_readsNumber_48 rfl (lv_at hl 2 rfl) ?_
          refine lv_iconst (v := nI 3) hx hb dX8_readsNumber_49 (by decide) ?_
          refine kn_icmp_ge (tgt := 114) hx hb dX8_readsNumber_50 (by decide) (by omega) (by decide) (fun c_1 => ?_) (fun c_1 => ?_)
          · refine lv_iconst (v := nI 1) hx hb dX8_readsNumber_114 (by decide) ?_
            exact kx_zretM hx hb hrt hlk (by simp only [isD] at *; simp [nmOk, isD, h32, hdg, bI_t]) (by unfold rnZ; rw [if_pos (by simp [nmOk, isD, h32, hdg]), dgN_is (i := i) hsm (by first | exact Or.inr (by assumption) | exact Or.inl (by omega)) hi]; exact hM) hS dX8_readsNumber_115
          · refine lv_aload_n hx hb dX8_readsNumber_53 rfl (lv_at hl 0 rfl) ?_
            refine lv_aload_n hx hb dX8_readsNumber_54 rfl (lv_at hl 0 rfl) ?_
            refine kx_get (v := .int ((rnK z b w (skp b n0 k) i) 4406)) hx hb hts hinX8 hown hK hM.1 rfl 7 (by decide) (by decide +kernel) rfl dX8_readsNumber_55 ?_
            refine kx_ci (y := nI (skp b n0 k + i)) hpr ?_
            refine kx_retP (va_runV (As := [.int (nI (skp b n0 k + i))]) (rest := []) ⟨hx, hb, hml, hown, hts⟩ (k_X8_byteAt l D cs a (rnK z b w (skp b n0 k) i) b n0 (skp b n0 k + i) hTr (by first | assumption | omega)) (cwV 1 hts gX8_readsNumber_X8_byteAt rfl rfl rfl (by decide +kernel) ⟨Nat.le_of_ble_eq_true rfl, Nat.le_of_ble_eq_true rfl⟩) (kx_preV hK hN hM.1 rfl hM) rfl rfl hl.1 rfl (lv_room (Nat.le_of_ble_eq_true rfl)) dX8_readsNumber_58 ⟨Nat.le_of_ble_eq_true rfl, Nat.le_of_ble_eq_true rfl⟩) ?_
            refine lv_bipush (v := nI 48) hx hb dX8_readsNumber_61 (by decide) ?_
            refine lv_bipush (v := nI 57) hx hb dX8_readsNumber_63 (by decide) ?_
            refine kx_retP (va_runS (As := [.int (bt b n0 (skp b n0 k + i)), .int (nI (48)), .int (nI (57))]) (rest := []) ⟨hx, hb, hml, hown, hts⟩ (k_X8_within l D cs (bt b n0 (skp b n0 k + i)) (nI (48)) (nI (57))) (cwS 3 hts gX8_readsNumber_X8_within rfl rfl rfl (by decide +kernel) ⟨Nat.le_of_ble_eq_true rfl, Nat.le_of_ble_eq_true rfl⟩) (kx_preS hK hN trivial) rfl rfl hl.1 rfl (lv_room (Nat.le_of_ble_eq_true rfl)) dX8_readsNumber_65 ⟨Nat.le_of_ble_eq_true rfl, Nat.le_of_ble_eq_true rfl⟩) ?_
            refine kb_if_eq (tgt := 114) hx hb dX8_readsNumber_68 (by decide) (fun hdi => ?_) (fun hdi => ?_)
            · refine lv_iconst (v := nI 1) hx hb dX8_readsNumber_114 (by decide) ?_
              exact kx_zretM hx hb hrt hlk (by simp only [isD] at *; simp [nmOk, isD, h32, hdg, bI_t]) (by unfold rnZ; rw [if_pos (by simp [nmOk, isD, h32, hdg]), dgN_is (i := i) hsm (by first | exact Or.inr (by assumption) | exact Or.inl (by omega)) hi]; exact hM) hS dX8_readsNumber_115
            · have hlt := bt_D (b := b) (n := n0) hdi
              refine lv_aload_n hx hb dX8_readsNumber_71 rfl (lv_at hl 0 rfl) ?_
              refine kx_get (v := .ref (a + 5)) hx hb hts hinX8 hown hK hM.1 rfl 9 (by decide) (by decide +kernel) rfl dX8_readsNumber_72 ?_
              refine lv_iload_n hx hb dX8_readsNumber_75 rfl (lv_at hl 1 rfl) ?_
              refine lv_bipush (v := nI 10) hx hb dX8_readsNumber_76 (by decide) ?_
              refine lv_aload_n hx hb dX8_readsNumber_78 rfl (lv_at hl 0 rfl) ?_
              refine kx_get (v := .ref (a + 5)) hx hb hts hinX8 hown hK hM.1 rfl 9 (by decide) (by decide +kernel) rfl dX8_readsNumber_79 ?_
              refine lv_iload_n hx hb dX8_readsNumber_82 rfl (lv_at hl 1 rfl) ?_
              refine kx_iald (i := w) hx hb hK hM.numbers 0 rfl (by omega) (by decide) dX8_readsNumber_83 ?_
              refine kx_ci (y := nvI b (skp b n0 k) i) pk_us ?_
              refine lv_imul hx hb dX8_readsNumber_84 ?_
              refine lv_aload_n hx hb dX8_readsNumber_85 rfl (lv_at hl 0 rfl) ?_
              refine lv_aload_n hx hb dX8_readsNumber_86 rfl (lv_at hl 0 rfl) ?_
              refine kx_get (v := .int ((rnK z b w (skp b n0 k) i) 4406)) hx hb hts hinX8 hown hK hM.1 rfl 7 (by decide) (by decide +kernel) rfl dX8_readsNumber_87 ?_
              refine kx_ci (y := nI (skp b n0 k + i)) hpr ?_
              refine kx_retP (va_runV (As := [.int (nI (skp b n0 k + i))]) (rest := [.int ((nI (10)) * (nvI b (skp b n0 k) i)), .int (nI (w)), .ref (a + 5)]) ⟨hx, hb, hml, hown, hts⟩ (k_X8_byteAt l D cs a (rnK z b w (skp b n0 k) i) b n0 (skp b n0 k + i) hTr (by first | assumption | omega)) (cwV 1 hts gX8_readsNumber_X8_byteAt rfl rfl rfl (by decide +kernel) ⟨Nat.le_of_ble_eq_true rfl, Nat.le_of_ble_eq_true rfl⟩) (kx_preV hK hN hM.1 rfl hM) rfl rfl hl.1 rfl (lv_room (Nat.le_of_ble_eq_true rfl)) dX8_readsNumber_90 ⟨Nat.le_of_ble_eq_true rfl, Nat.le_of_ble_eq_true rfl⟩) ?_
              refine kx_ci (y := b (skp b n0 k + i)) (bt_lt hlt) ?_
              refine lv_iadd hx hb dX8_readsNumber_93 ?_
              refine lv_bipush (v := nI 48) hx hb dX8_readsNumber_94 (by decide) ?_
              refine lv_isub hx hb dX8_readsNumber_96 ?_
              refine kx_iast (i := w) hx hb hK hM.numbers hS ⟨by omega, by omega⟩ 0 rfl (by omega) (by decide) dX8_readsNumber_97 (fun H locs hc hU hS => ?_)
              have hM := hM.put_numbers (by omega) hc hU
              clear hc hU
              refine lv_aload_n hx hb dX8_readsNumber_98 rfl (lv_at hl 0 rfl) ?_
              refine lv_dup hx hb dX8_readsNumber_99 rfl ?_
              refine kx_get (v := .int ((upd (rnK z b w (skp b n0 k) i) (4374 + w) ((((nI (10)) * (nvI b (skp b n0 k) i)) + (b (skp b n0 k + i))) - (nI (48)))) 4406)) hx hb hts hinX8 hown hK hM.1 rfl 7 (by decide) (by decide +kernel) rfl dX8_readsNumber_100 ?_
              refine kx_ci (y := nI (skp b n0 k + i)) (by rw [upd_at, if_neg (by omega)]; exact hpr) ?_
              refine lv_iconst (v := nI 1) hx hb dX8_readsNumber_103 (by decide) ?_
              refine kn_add hx hb dX8_readsNumber_104 ?_
              refine kx_put hx hb hts hinX8 tyX8_ok nmX8 hown hK hM.1 rfl hS ⟨by omega, by omega⟩ 7 (by decide) (by decide +kernel) rfl rfl rfl (Nat.le_of_ble_eq_true rfl) dX8_readsNumber_105 (fun H locs hc hU hS => ?_)
              have hM := hM.put_place hc hU
              clear hc hU
              have hM : MdC D (cs 0) a (rnK z b w (skp b n0 k) (i + 1)) H := (by rw [← rnK_s z b hw]; exact hM)
              refine lv_iinc (v := nI (i + 1)) (lv' := [(2, .int (nI (i + 1))), (0, .ref (a)), (1, .int (nI (w)))]) (k := 2) hx hb dX8_readsNumber_108 hl rfl (nI_add _ _) (by decide) rfl (fun ls hl => ?_)
              refine lv_goto (tgt := 48) hx hb dX8_readsNumber_111 (by decide) ?_
              exact ih48 (i + 1) _ _ _ (by omega) (by omega) (fun j hj => by rcases Nat.lt_succ_iff_lt_or_eq.mp hj with q | q; exact hsm j q; subst q; exact hdi) hM hS (lv_sub hl [1, 2, 0] rfl)
      exact J48 _ 0 _ _ _ (Nat.lt_succ_self _) (by omega) (fun j hj => absurd hj (Nat.not_lt_zero j)) hM hS (lv_sub hl [1, 2, 0] rfl)
    · refine lv_iconst (v := nI 0) hx hb dX8_readsNumber_37 (by decide) ?_
      exact kx_zretM hx hb hrt hlk (by simp [nmOk, isD, h32, hdg, bI_f]) (by unfold rnZ nmFl; rw [if_neg (by simp [nmOk, isD, h32, hdg]), if_pos h32]; exact hM) hS dX8_readsNumber_38
  · refine lv_iconst (v := nI 0) hx hb dX8_readsNumber_13 (by decide) ?_
    exact kx_zretM hx hb hrt hlk (by simp [nmOk, h32, bI_f]) (hM.congr (fun j _ => by unfold rnZ nmFl; rw [if_neg (by simp [nmOk, h32]), if_neg h32, upd_at]; by_cases e : j = 4406 <;> simp [e, hp])) hS dX8_readsNumber_14
set_option maxHeartbeats 1500000 in
set_option maxRecDepth 100000 in
theorem k_X8_readsCommand (l : Launch) (D : va_G) (cs : Nat → ClassId) (a : Nat) (z : Nat → Int32) (b : Nat → Int32) (n0 k : Nat) (hT : TXT z b n0) (hp : z 4406 = nI k) (hk : k ≤ n0) : Met l yX8_readsCommand wsX8_readsCommand ({ frames := 3, cells := 0, slots := 0, locals := 71 } : Room) (PcK D cs [.ref (a)] (fun H => MdC D (cs 0) a z H)) (QcM (some (.int (bI (rdOk b n0 k)))) (fun H => ∃ y, MdC D (cs 0) a y H ∧ RdP z y b n0 k) (rgM a)) 0 0 ((rgM a)) := by
  refine kx_met (cc := cX8_readsCommand) (maxL := 3) (ret := (some .boolean)) (by decide) rfl (Nat.le_of_ble_eq_true rfl) ?_
  intro p e s m args below meth c hx hb hml hrt hts hown hlk hK hN hP ls hl
  have hl : lv_has ls 3 [(0, .ref (a))] := hl
  obtain ⟨H, hHe⟩ : ∃ H : Heap, H = s.heap := ⟨_, rfl⟩
  rw [← hHe] at hP ⊢
  have hS : va_S ((rgM a)) s.heap H [] := by rw [← hHe]; exact va_S.rf
  have hinX8 : ∀ w ∈ wsX80, w ∈ wsX8_readsCommand := by decide +kernel
  have hM := hP
  have hn150 := hT.2.2
  have h4405 := hT.2.1
  have hll := ltr_le b hk
  have hel := cEn_le b hk
  have hk8 : cKd b n0 k ≤ 8 := kdN_8 b n0 k (ltr b n0 k)
  refine lv_aload_n hx hb dX8_readsCommand_0 rfl (lv_at hl 0 rfl) ?_
  refine kx_get (v := .int (z 4406)) hx hb hts hinX8 hown hK hM.1 rfl 7 (by decide) (by decide +kernel) rfl dX8_readsCommand_1 ?_
  refine kx_ci (y := nI (k)) hp ?_
  refine lv_istore_n (lv' := [(1, .int (nI (k))), (0, .ref (a))]) hx hb dX8_readsCommand_4 rfl hl (by decide) rfl (fun ls hl => ?_)
  have J5 : ∀ (fu5 : Nat) (i : Nat) (H : Heap) (locs : List Loc) (ls : Array Slot), (n0 - (k + i)) < fu5 → (k + i ≤ n0) → (∀ j, j < i → isL (bt b n0 (k + j)) = true) → (MdC D (cs 0) a (upd z 4406 (nI (k + i))) H) → va_S ((rgM a)) s.heap H locs → lv_has ls 3 [(0, .ref (a)), (1, .int (nI (k)))] → W p l e ({ frames := 3, cells := 0, slots := 0, locals := 71 } : Room) s m args below meth c H locs 0 0 (MQ below (QcM (some (.int (bI (rdOk b n0 k)))) (fun H => ∃ y, MdC D (cs 0) a y H ∧ RdP z y b n0 k) (rgM a)) args s 0 0 ((rgM a))) (F0 m 5 ls []) := by
    intro fu5; induction fu5 with
    | zero => intro i H locs ls hmu5 hi hsm hM hS hl; exact absurd hmu5 (Nat.not_lt_zero _)
    | succ fu5 ih5 =>
      intro i H locs ls hmu5 hi hsm hM hS hl
      have hTy := (TX.pl z (nI (k + i))).txt hT
      refine lv_aload_n hx hb dX8_readsCommand_5 rfl (lv_at hl 0 rfl) ?_
      refine lv_aload_n hx hb dX8_readsCommand_6 rfl (lv_at hl 0 rfl) ?_
      refine kx_get (v := .int ((upd z 4406 (nI (k + i))) 4406)) hx hb hts hinX8 hown hK hM.1 rfl 7 (by decide) (by decide +kernel) rfl dX8_readsCommand_7 ?_
      refine kx_ci (y := nI (k + i)) rfl ?_
      refine kx_retP (va_runV (As := [.int (nI (k + i))]) (rest := []) ⟨hx, hb, hml, hown, hts⟩ (k_X8_byteAt l D cs a (upd z 4406 (nI (k + i))) b n0 (k + i) hTy (by first | assumption | omega)) (cwV 1 hts gX8_readsCommand_X8_byteAt rfl rfl rfl (by decide +kernel) ⟨Nat.le_of_ble_eq_true rfl, Nat.le_of_ble_eq_true rfl⟩) (kx_preV hK hN hM.1 rfl hM) rfl rfl hl.1 rfl (lv_room (Nat.le_of_ble_eq_true rfl)) dX8_readsCommand_10 ⟨Nat.le_of_ble_eq_true rfl, Nat.le_of_ble_eq_true rfl⟩) ?_
      refine lv_bipush (v := nI 97) hx hb dX8_readsCommand_13 (by decide) ?_
      refine lv_bipush (v := nI 122) hx hb dX8_readsCommand_15 (by decide) ?_
      refine kx_retP (va_runS (As := [.int (bt b n0 (k + i)), .int (nI (97)), .int (nI (122))]) (rest := []) ⟨hx, hb, hml, hown, hts⟩ (k_X8_within l D cs (bt b n0 (k + i)) (nI (97)) (nI (122))) (cwS 3 hts gX8_readsCommand_X8_within rfl rfl rfl (by decide +kernel) ⟨Nat.le_of_ble_eq_true rfl, Nat.le_of_ble_eq_true rfl⟩) (kx_preS hK hN trivial) rfl rfl hl.1 rfl (lv_room (Nat.le_of_ble_eq_true rfl)) dX8_readsCommand_17 ⟨Nat.le_of_ble_eq_true rfl, Nat.le_of_ble_eq_true rfl⟩) ?_
      refine kb_if_eq (tgt := 36) hx hb dX8_readsCommand_20 (by decide) (fun hlt => ?_) (fun hlt => ?_)
      · have hle := ltr_is hsm hlt hk
        have hM : MdC D (cs 0) a (upd z 4406 (nI (ltr b n0 k))) H := by rw [hle]; exact hM
        have hTy := (TX.pl z (nI (ltr b n0 k))).txt hT
        refine lv_aload_n hx hb dX8_readsCommand_36 rfl (lv_at hl 0 rfl) ?_
        refine lv_aload_n hx hb dX8_readsCommand_37 rfl (lv_at hl 0 rfl) ?_
        refine lv_iload_n hx hb dX8_readsCommand_38 rfl (lv_at hl 1 rfl) ?_
        refine kx_retP (va_runV (As := [.int (nI (k))]) (rest := [.ref (a)]) ⟨hx, hb, hml, hown, hts⟩ (k_X8_kindFrom l D cs a (upd z 4406 (nI (ltr b n0 k))) b n0 k (ltr b n0 k) hTy rfl hll.1 hll.2) (cwV 1 hts gX8_readsCommand_X8_kindFrom rfl rfl rfl (by decide +kernel) ⟨Nat.le_of_ble_eq_true rfl, Nat.le_of_ble_eq_true rfl⟩) (kx_preV hK hN hM.1 rfl hM) rfl rfl hl.1 rfl (lv_room (Nat.le_of_ble_eq_true rfl)) dX8_readsCommand_39 ⟨Nat.le_of_ble_eq_true rfl, Nat.le_of_ble_eq_true rfl⟩) ?_
        refine kx_put hx hb hts hinX8 tyX8_ok nmX8 hown hK hM.1 rfl hS ⟨by omega, by omega⟩ 8 (by decide) (by decide +kernel) rfl rfl rfl (Nat.le_of_ble_eq_true rfl) dX8_readsCommand_42 (fun H locs hc hU hS => ?_)
        have hM := hM.put_kind hc hU
        clear hc hU
        refine lv_aload_n hx hb dX8_readsCommand_45 rfl (lv_at hl 0 rfl) ?_
        refine kx_get (v := .int ((upd (upd z 4406 (nI (ltr b n0 k))) 4407 (kdI (kdN b n0 k (ltr b n0 k)))) 4407)) hx hb hts hinX8 hown hK hM.1 rfl 8 (by decide) (by decide +kernel) rfl dX8_readsCommand_46 ?_
        refine kx_ci (y := kdI (cKd b n0 k)) rfl ?_
        refine lv_sipush (v := -1000) hx hb dX8_readsCommand_49 (by decide) ?_
        refine lv_icmp_ne (tgt := 62) hx hb dX8_readsCommand_52 (by decide) (fun h8 => ?_) (fun h8 => ?_)
        · have h8 : cKd b n0 k ≠ 8 := fun q => h8 ((kdI_8 hk8).mpr q)
          have hc5 := nmC_5 (cKd b n0 k)
          have hck : kdI (cKd b n0 k) = nI (cKd b n0 k) := if_neg h8
          refine lv_iconst (v := nI 0) hx hb dX8_readsCommand_62 (by decide) ?_
          refine lv_istore_n (lv' := [(2, .int (nI (0))), (0, .ref (a)), (1, .int (nI (k)))]) hx hb dX8_readsCommand_63 rfl hl (by decide) rfl (fun ls hl => ?_)
          have J64 : ∀ (fu64 : Nat) (i : Nat) (y : Nat → Int32) (H : Heap) (locs : List Loc) (ls : Array Slot), (nmC (cKd b n0 k) - i) < fu64 → (i ≤ nmC (cKd b n0 k)) → (TX z y) → (y 4406 = nI (cPs b n0 k i)) → (y 4407 = nI (cKd b n0 k)) → (∀ j, j < i → y (4374 + j) = nmV b n0 (cPs b n0 k j)) → (∀ j, j < i → nmOk b n0 (cPs b n0 k j) = true) → (MdC D (cs 0) a y H) → va_S ((rgM a)) s.heap H locs → lv_has ls 3 [(0, .ref (a)), (1, .int (nI (k))), (2, .int (nI (i)))] → W p l e ({ frames := 3, cells := 0, slots := 0, locals := 71 } : Room) s m args below meth c H locs 0 0 (MQ below (QcM (some (.int (bI (rdOk b n0 k)))) (fun H => ∃ y, MdC D (cs 0) a y H ∧ RdP z y b n0 k) (rgM a)) args s 0 0 ((rgM a))) (F0 m 64 ls []) := by
            intro fu64; induction fu64 with
            | zero => intro i y H locs ls hmu64 hi htx hpl hkd hnm hall hM hS hl; exact absurd hmu64 (Nat.not_lt_zero _)
            | succ fu64 ih64 =>
              intro i y H locs ls hmu64 hi htx hpl hkd hnm hall hM hS hl
              have hTy2 := htx.txt hT
              have hpl2 := cPs_le b hk i
              refine lv_iload_n hx hb dX8_readsCommand_64 rfl (lv_at hl 2 rfl) ?_
              refine lv_aload_n hx hb dX8_readsCommand_65 rfl (lv_at hl 0 rfl) ?_
              refine kx_get (v := .int (y 4407)) hx hb hts hinX8 hown hK hM.1 rfl 8 (by decide) (by decide +kernel) rfl dX8_readsCommand_66 ?_
              refine kx_ci (y := nI (cKd b n0 k)) hkd ?_
              refine kx_retP (va_runS (As := [.int (nI (cKd b n0 k))]) (rest := [.int (nI (i))]) ⟨hx, hb, hml, hown, hts⟩ (k_X8_numbersOf l D cs (cKd b n0 k) (by first | assumption | omega)) (cwS 1 hts gX8_readsCommand_X8_numbersOf rfl rfl rfl (by decide +kernel) ⟨Nat.le_of_ble_eq_true rfl, Nat.le_of_ble_eq_true rfl⟩) (kx_preS hK hN trivial) rfl rfl hl.1 rfl (lv_room (Nat.le_of_ble_eq_true rfl)) dX8_readsCommand_69 ⟨Nat.le_of_ble_eq_true rfl, Nat.le_of_ble_eq_true rfl⟩) ?_
              refine kn_icmp_ge (tgt := 91) hx hb dX8_readsCommand_72 (by decide) (by omega) (by omega) (fun c_1 => ?_) (fun c_1 => ?_)
              · have hii : i = nmC (cKd b n0 k) := by omega
                subst hii
                refine lv_aload_n hx hb dX8_readsCommand_91 rfl (lv_at hl 0 rfl) ?_
                refine kx_retM (va_runV (As := []) (rest := []) ⟨hx, hb, hml, hown, hts⟩ (k_X8_skipSpaces l D cs a y b n0 (cPs b n0 k (nmC (cKd b n0 k))) hTy2 hpl (by first | assumption | omega)) (cwV 0 hts gX8_readsCommand_X8_skipSpaces rfl rfl rfl (by decide +kernel) ⟨Nat.le_of_ble_eq_true rfl, Nat.le_of_ble_eq_true rfl⟩) (kx_preV hK hN hM.1 rfl hM) rfl rfl hl.1 rfl (lv_room (Nat.le_of_ble_eq_true rfl)) dX8_readsCommand_92 ⟨Nat.le_of_ble_eq_true rfl, Nat.le_of_ble_eq_true rfl⟩) hS (fun q _ h => h) (fun q h => h) (fun H locs hM hk hS => ?_)
                clear hk
                have hM : MdC D (cs 0) a (upd y 4406 (nI (cEn b n0 k))) H := hM
                have hTy3 := (TX.pl y (nI (cEn b n0 k))).txt hTy2
                refine lv_aload_n hx hb dX8_readsCommand_95 rfl (lv_at hl 0 rfl) ?_
                refine lv_aload_n hx hb dX8_readsCommand_96 rfl (lv_at hl 0 rfl) ?_
                refine kx_get (v := .int ((upd y 4406 (nI (cEn b n0 k))) 4406)) hx hb hts hinX8 hown hK hM.1 rfl 7 (by decide) (by decide +kernel) rfl dX8_readsCommand_97 ?_
                refine kx_ci (y := nI (cEn b n0 k)) rfl ?_
                refine kx_retP (va_runV (As := [.int (nI (cEn b n0 k))]) (rest := []) ⟨hx, hb, hml, hown, hts⟩ (k_X8_byteAt l D cs a (upd y 4406 (nI (cEn b n0 k))) b n0 (cEn b n0 k) hTy3 (by first | assumption | omega)) (cwV 1 hts gX8_readsCommand_X8_byteAt rfl rfl rfl (by decide +kernel) ⟨Nat.le_of_ble_eq_true rfl, Nat.le_of_ble_eq_true rfl⟩) (kx_preV hK hN hM.1 rfl hM) rfl rfl hl.1 rfl (lv_room (Nat.le_of_ble_eq_true rfl)) dX8_readsCommand_100 ⟨Nat.le_of_ble_eq_true rfl, Nat.le_of_ble_eq_true rfl⟩) ?_
                refine lv_bipush (v := nI 59) hx hb dX8_readsCommand_103 (by decide) ?_
                refine lv_icmp_eq (tgt := 110) hx hb dX8_readsCommand_105 (by decide) (fun h59 => ?_) (fun h59 => ?_)
                · have hen := bt_59 h59
                  have hok := rd_yes h8 hall h59
                  refine lv_aload_n hx hb dX8_readsCommand_110 rfl (lv_at hl 0 rfl) ?_
                  refine lv_dup hx hb dX8_readsCommand_111 rfl ?_
                  refine kx_get (v := .int ((upd y 4406 (nI (cEn b n0 k))) 4406)) hx hb hts hinX8 hown hK hM.1 rfl 7 (by decide) (by decide +kernel) rfl dX8_readsCommand_112 ?_
                  refine kx_ci (y := nI (cEn b n0 k)) rfl ?_
                  refine lv_iconst (v := nI 1) hx hb dX8_readsCommand_115 (by decide) ?_
                  refine kn_add hx hb dX8_readsCommand_116 ?_
                  refine kx_put hx hb hts hinX8 tyX8_ok nmX8 hown hK hM.1 rfl hS ⟨by omega, by omega⟩ 7 (by decide) (by decide +kernel) rfl rfl rfl (Nat.le_of_ble_eq_true rfl) dX8_readsCommand_117 (fun H locs hc hU hS => ?_)
                  have hM := hM.put_place hc hU
                  clear hc hU
                  have hTy4 := (TX.pl (upd y 4406 (nI (cEn b n0 k))) (nI (cEn b n0 k + 1))).txt hTy3
                  refine lv_aload_n hx hb dX8_readsCommand_120 rfl (lv_at hl 0 rfl) ?_
                  refine kx_retM (va_runV (As := []) (rest := []) ⟨hx, hb, hml, hown, hts⟩ (k_X8_skipSpaces l D cs a (upd (upd y 4406 (nI (cEn b n0 k))) 4406 (nI (cEn b n0 k + 1))) b n0 (cEn b n0 k + 1) hTy4 rfl (by first | assumption | omega)) (cwV 0 hts gX8_readsCommand_X8_skipSpaces rfl rfl rfl (by decide +kernel) ⟨Nat.le_of_ble_eq_true rfl, Nat.le_of_ble_eq_true rfl⟩) (kx_preV hK hN hM.1 rfl hM) rfl rfl hl.1 rfl (lv_room (Nat.le_of_ble_eq_true rfl)) dX8_readsCommand_121 ⟨Nat.le_of_ble_eq_true rfl, Nat.le_of_ble_eq_true rfl⟩) hS (fun q _ h => h) (fun q h => h) (fun H locs hM hk hS => ?_)
                  clear hk
                  refine lv_iconst (v := nI 1) hx hb dX8_readsCommand_124 (by decide) ?_
                  exact kx_zretM hx hb hrt hlk (by rw [hok]; rfl) ⟨_, hM, (((htx.tr (TX.pl _ _)).tr (TX.pl _ _)).tr (TX.pl _ _)), (by rw [hok]; rfl), (fun _ => ⟨hkd, fun j hj => (by simp only [upd_at]; (repeat rw [if_neg (by omega)]); exact hnm j hj)⟩)⟩ hS dX8_readsCommand_125
                · refine lv_iconst (v := nI 0) hx hb dX8_readsCommand_108 (by decide) ?_
                  exact kx_zretM hx hb hrt hlk (by rw [(rd_no3 h8 hall h59).1]; rfl) ⟨_, hM, (htx.tr (TX.pl _ _)), (by rw [(rd_no3 h8 hall h59).1, (rd_no3 h8 hall h59).2]; rfl), (fun q => by rw [(rd_no3 h8 hall h59).1] at q; cases q)⟩ hS dX8_readsCommand_109
              · refine lv_aload_n hx hb dX8_readsCommand_75 rfl (lv_at hl 0 rfl) ?_
                refine lv_iload_n hx hb dX8_readsCommand_76 rfl (lv_at hl 2 rfl) ?_
                refine kx_retM (va_runV (As := [.int (nI (i))]) (rest := []) ⟨hx, hb, hml, hown, hts⟩ (k_X8_readsNumber l D cs a y b n0 (cPs b n0 k i) i hTy2 hpl (by first | assumption | omega) (by first | assumption | omega)) (cwV 1 hts gX8_readsCommand_X8_readsNumber rfl rfl rfl (by decide +kernel) ⟨Nat.le_of_ble_eq_true rfl, Nat.le_of_ble_eq_true rfl⟩) (kx_preV hK hN hM.1 rfl hM) rfl rfl hl.1 rfl (lv_room (Nat.le_of_ble_eq_true rfl)) dX8_readsCommand_77 ⟨Nat.le_of_ble_eq_true rfl, Nat.le_of_ble_eq_true rfl⟩) hS (fun q _ h => h) (fun q h => h) (fun H locs hM hk hS => ?_)
                clear hk
                refine kb_if_ne (tgt := 85) hx hb dX8_readsCommand_80 (by decide) (fun hno => ?_) (fun hno => ?_)
                · refine lv_iinc (v := nI (i + 1)) (lv' := [(2, .int (nI (i + 1))), (0, .ref (a)), (1, .int (nI (k)))]) (k := 2) hx hb dX8_readsCommand_85 hl rfl (nI_add _ _) (by decide) rfl (fun ls hl => ?_)
                  refine lv_goto (tgt := 64) hx hb dX8_readsCommand_88 (by decide) ?_
                  have hrz : rnZ y b n0 (cPs b n0 k i) i = rnK y b i (skp b n0 (cPs b n0 k i)) (dgN b n0 (skp b n0 (cPs b n0 k i))) := if_pos hno
                  exact ih64 (i + 1) (rnZ y b n0 (cPs b n0 k i) i) _ _ _ (by omega) (by omega) (htx.tr (rnZ_tx y b n0 _ (by omega))) (by rw [hrz]; exact rnK_pl y b (by omega) _ _) (by rw [hrz]; unfold rnK; rw [upd_at, if_neg (by omega), upd_at, if_neg (by omega)]; exact hkd) (fun j hj => by rcases Nat.lt_succ_iff_lt_or_eq.mp hj with q | q; (rw [hrz]; unfold rnK; rw [upd_at, if_neg (by omega), upd_at, if_neg (by omega)]; exact hnm j q); (subst q; rw [hrz]; exact pk_us)) (fun j hj => by rcases Nat.lt_succ_iff_lt_or_eq.mp hj with q | q; exact hall j q; subst q; exact hno) hM hS (lv_sub hl [1, 2, 0] rfl)
                · refine lv_iconst (v := nI 0) hx hb dX8_readsCommand_83 (by decide) ?_
                  exact kx_zretM hx hb hrt hlk (by rw [(rd_no2 h8 hall (by omega) hno).1]; rfl) ⟨_, hM, (htx.tr (rnZ_tx y b n0 _ (by omega))), (by rw [(rd_no2 h8 hall (by omega) hno).1, (rd_no2 h8 hall (by omega) hno).2]; unfold rnZ; rw [if_neg (by rw [hno]; decide)]; rfl), (fun q => by rw [(rd_no2 h8 hall (by omega) hno).1] at q; cases q)⟩ hS dX8_readsCommand_84
          exact J64 _ 0 (upd (upd z 4406 (nI (ltr b n0 k))) 4407 (kdI (kdN b n0 k (ltr b n0 k)))) _ _ _ (Nat.lt_succ_self _) (by omega) ((TX.pl z _).tr (TX.kd _ _)) rfl hck (fun j hj => absurd hj (Nat.not_lt_zero j)) (fun j hj => absurd hj (Nat.not_lt_zero j)) hM hS (lv_sub hl [1, 2, 0] rfl)
        · have h8 : cKd b n0 k = 8 := (kdI_8 hk8).mp h8
          refine lv_aload_n hx hb dX8_readsCommand_55 rfl (lv_at hl 0 rfl) ?_
          refine lv_iload_n hx hb dX8_readsCommand_56 rfl (lv_at hl 1 rfl) ?_
          refine kx_put hx hb hts hinX8 tyX8_ok nmX8 hown hK hM.1 rfl hS ⟨by omega, by omega⟩ 7 (by decide) (by decide +kernel) rfl rfl rfl (Nat.le_of_ble_eq_true rfl) dX8_readsCommand_57 (fun H locs hc hU hS => ?_)
          have hM := hM.put_place hc hU
          clear hc hU
          refine lv_iconst (v := nI 0) hx hb dX8_readsCommand_60 (by decide) ?_
          exact kx_zretM hx hb hrt hlk (by rw [(rd_no1 h8).1]; rfl) ⟨_, hM, (((TX.pl z _).tr (TX.kd _ _)).tr (TX.pl _ _)), (by rw [(rd_no1 h8).1, (rd_no1 h8).2]; rfl), (fun q => by rw [(rd_no1 h8).1] at q; cases q)⟩ hS dX8_readsCommand_61
      · refine lv_aload_n hx hb dX8_readsCommand_23 rfl (lv_at hl 0 rfl) ?_
        refine lv_dup hx hb dX8_readsCommand_24 rfl ?_
        refine kx_get (v := .int ((upd z 4406 (nI (k + i))) 4406)) hx hb hts hinX8 hown hK hM.1 rfl 7 (by decide) (by decide +kernel) rfl dX8_readsCommand_25 ?_
        refine kx_ci (y := nI (k + i)) rfl ?_
        refine lv_iconst (v := nI 1) hx hb dX8_readsCommand_28 (by decide) ?_
        refine kn_add hx hb dX8_readsCommand_29 ?_
        refine kx_put hx hb hts hinX8 tyX8_ok nmX8 hown hK hM.1 rfl hS ⟨by omega, by omega⟩ 7 (by decide) (by decide +kernel) rfl rfl rfl (Nat.le_of_ble_eq_true rfl) dX8_readsCommand_30 (fun H locs hc hU hS => ?_)
        have hM := hM.put_place hc hU
        clear hc hU
        have hM : MdC D (cs 0) a (upd z 4406 (nI (k + (i + 1)))) H := (hM.congr (fun j _ => by simp only [upd_at]; by_cases e : j = 4406 <;> simp [e, Nat.add_assoc]))
        refine lv_goto (tgt := 5) hx hb dX8_readsCommand_33 (by decide) ?_
        have hl9 := bt_L (b := b) (n := n0) hlt
        exact ih5 (i + 1) _ _ _ (by omega) (by omega) (fun j hj => by rcases Nat.lt_succ_iff_lt_or_eq.mp hj with q | q; exact hsm j q; subst q; exact hlt) hM hS (lv_sub hl [0, 1] rfl)
  exact J5 _ 0 _ _ _ (Nat.lt_succ_self _) (by omega) (fun j hj => absurd hj (Nat.not_lt_zero j)) (hM.congr (fun j _ => by rw [upd_at]; by_cases e : j = 4406 <;> simp [e, hp])) hS (lv_sub hl [1, 0] rfl)
