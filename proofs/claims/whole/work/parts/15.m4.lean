set_option maxHeartbeats 1500000 in
set_option maxRecDepth 100000 in
theorem k_X8_ringValue (l : Launch) (D : va_G) (cs : Nat → ClassId) (a : Nat) (z : Nat → Int32) (r w : Nat) (hI : Inv z) (hr : r < Rn z) (hw : w < 8) : Met l yX8_ringValue wsX8_ringValue ({ frames := 2, cells := 0, slots := 0, locals := 45 } : Room) (PcK D cs [.ref (a), .int (nI (r)), .int (nI (w))] (fun H => MdC D (cs 0) a z H)) (QcP (some (.int (rvI z r w)))) 0 0 nowhere := by
  refine kx_met (cc := cX8_ringValue) (maxL := 7) (ret := (some .int)) (by decide) rfl (Nat.le_of_ble_eq_true rfl) ?_
  intro p e s m args below meth c hx hb hml hrt hts hown hlk hK hN hP ls hl
  have hl : lv_has ls 7 [(0, .ref (a)), (1, .int (nI (r))), (2, .int (nI (w)))] := hl
  have hinX8 : ∀ w ∈ wsX80, w ∈ wsX8_ringValue := by decide +kernel
  have hM := hP
  have h24 := hI.M24
  have h6 := hI.R6
  have hl16 := hI.l16 hr
  have hl48 := hI.l48 hr
  refine lv_iconst (v := nI 0) hx hb dX8_ringValue_0 (by decide) ?_
  refine lv_istore_n (lv' := [(3, .int (nI (0))), (0, .ref (a)), (1, .int (nI (r))), (2, .int (nI (w)))]) hx hb dX8_ringValue_1 rfl hl (by decide) rfl (fun ls hl => ?_)
  refine lv_iconst (v := nI 0) hx hb dX8_ringValue_2 (by decide) ?_
  refine lv_istore (lv' := [(4, .int (nI (0))), (3, .int (nI (0))), (0, .ref (a)), (1, .int (nI (r))), (2, .int (nI (w)))]) hx hb dX8_ringValue_3 hl (by decide) rfl (fun ls hl => ?_)
  refine lv_iconst (v := nI 0) hx hb dX8_ringValue_5 (by decide) ?_
  refine lv_istore (lv' := [(5, .int (nI (0))), (4, .int (nI (0))), (3, .int (nI (0))), (0, .ref (a)), (1, .int (nI (r))), (2, .int (nI (w)))]) hx hb dX8_ringValue_6 hl (by decide) rfl (fun ls hl => ?_)
  have J8 : ∀ (n8 : Nat) (k : Nat) (ls : Array Slot), (Mn z - k) < n8 → (k ≤ Mn z) → lv_has ls 7 [(0, .ref (a)), (1, .int (nI (r))), (2, .int (nI (w))), (3, .int (nI (uFK z r k))), (4, .int (nI (uTK z r k))), (5, .int (nI (k)))] → W p l e ({ frames := 2, cells := 0, slots := 0, locals := 45 } : Room) s m args below meth c s.heap [] 0 0 (MQ below (QcP (some (.int (rvI z r w)))) args s 0 0 nowhere) (F0 m 8 ls []) := by
    intro n8; induction n8 with
    | zero => intro k ls hmu8 hk hl; exact absurd hmu8 (Nat.not_lt_zero _)
    | succ n8 ih8 =>
      intro k ls hmu8 hk hl
      refine lv_iload hx hb dX8_ringValue_8 (lv_at hl 5 rfl) ?_
      refine lv_aload_n hx hb dX8_ringValue_10 rfl (lv_at hl 0 rfl) ?_
      refine kx_get (v := .ref (a + 1)) hx hb hts hinX8 hown hK hM.1 rfl 1 (by decide) (by decide +kernel) rfl dX8_ringValue_11 ?_
      refine lv_iconst (v := nI 4) hx hb dX8_ringValue_14 (by decide) ?_
      refine kx_iald (i := 4) hx hb hK hM.state 0 rfl (by decide) (by decide) dX8_ringValue_15 ?_
      refine kx_ci (y := nI (Mn z)) (hI).z4 ?_
      refine kn_icmp_ge (tgt := 85) hx hb dX8_ringValue_16 (by decide) (by omega) (by omega) (fun c_1 => ?_) (fun c_1 => ?_)
      · have hkk : k = Mn z := by omega
        subst hkk
        have hl : lv_has ls 7 [(0, .ref (a)), (1, .int (nI (r))), (2, .int (nI (w))), (3, .int (nI (uFK z r (Mn z)))), (4, .int (nI (uTK z r (Mn z)))), (5, .int (nI (Mn z)))] := hl
        refine lv_iconst (v := nI 0) hx hb dX8_ringValue_85 (by decide) ?_
        refine lv_istore (lv' := [(5, .int (nI (0))), (0, .ref (a)), (1, .int (nI (r))), (2, .int (nI (w))), (3, .int (nI (uFK z r (Mn z)))), (4, .int (nI (uTK z r (Mn z))))]) hx hb dX8_ringValue_86 hl (by decide) rfl (fun ls hl => ?_)
        refine lv_iconst (v := nI 0) hx hb dX8_ringValue_88 (by decide) ?_
        refine lv_istore (lv' := [(6, .int (nI (0))), (5, .int (nI (0))), (0, .ref (a)), (1, .int (nI (r))), (2, .int (nI (w))), (3, .int (nI (uFK z r (Mn z)))), (4, .int (nI (uTK z r (Mn z))))]) hx hb dX8_ringValue_89 hl (by decide) rfl (fun ls hl => ?_)
        have J91 : ∀ (n91 : Nat) (q : Nat) (ls : Array Slot), (rL z r - q) < n91 → (q ≤ rL z r) → lv_has ls 7 [(0, .ref (a)), (1, .int (nI (r))), (2, .int (nI (w))), (3, .int (nI (uFK z r (Mn z)))), (4, .int (nI (uTK z r (Mn z)))), (5, .int (smK z (rF z r) q)), (6, .int (nI (q)))] → W p l e ({ frames := 2, cells := 0, slots := 0, locals := 45 } : Room) s m args below meth c s.heap [] 0 0 (MQ below (QcP (some (.int (rvI z r w)))) args s 0 0 nowhere) (F0 m 91 ls []) := by
          intro n91; induction n91 with
          | zero => intro q ls hmu91 hq hl; exact absurd hmu91 (Nat.not_lt_zero _)
          | succ n91 ih91 =>
            intro q ls hmu91 hq hl
            refine lv_iload hx hb dX8_ringValue_91 (lv_at hl 6 rfl) ?_
            refine lv_aload_n hx hb dX8_ringValue_93 rfl (lv_at hl 0 rfl) ?_
            refine lv_iload_n hx hb dX8_ringValue_94 rfl (lv_at hl 1 rfl) ?_
            refine lv_iconst (v := nI 1) hx hb dX8_ringValue_95 (by decide) ?_
            refine kx_retP (va_runV (As := [.int (nI (r)), .int (nI (1))]) (rest := [.int (nI (q))]) ⟨hx, hb, hml, hown, hts⟩ (k_X8_ringPart l D cs a z r 1 (by first | assumption | omega) (by first | assumption | omega)) (cwV 2 hts gX8_ringValue_X8_ringPart rfl rfl rfl (by decide +kernel) ⟨Nat.le_of_ble_eq_true rfl, Nat.le_of_ble_eq_true rfl⟩) (kx_preV hK hN hM.1 rfl hM) rfl rfl hl.1 rfl (lv_room (Nat.le_of_ble_eq_true rfl)) dX8_ringValue_96 ⟨Nat.le_of_ble_eq_true rfl, Nat.le_of_ble_eq_true rfl⟩) ?_
            refine kx_ci (y := nI (rL z r)) (Inv.r1 hI (by first | assumption | omega)) ?_
            refine kn_icmp_ge (tgt := 130) hx hb dX8_ringValue_99 (by decide) (by omega) (by omega) (fun c_2 => ?_) (fun c_2 => ?_)
            · refine lv_iload_n hx hb dX8_ringValue_130 rfl (lv_at hl 2 rfl) ?_
              rcases (show w = 0 ∨ w = 1 ∨ w = 2 ∨ w = 3 ∨ w = 4 ∨ w = 5 ∨ w = 6 ∨ w = 7 by omega) with rfl | rfl | rfl | rfl | rfl | rfl | rfl | rfl
              · refine lv_tableOut (tgt := 174) hx hb dX8_ringValue_131 (by decide) (by decide) ?_
                refine lv_aload_n hx hb dX8_ringValue_174 rfl (lv_at hl 0 rfl) ?_
                refine lv_iload_n hx hb dX8_ringValue_175 rfl (lv_at hl 1 rfl) ?_
                refine lv_iload_n hx hb dX8_ringValue_176 rfl (lv_at hl 2 rfl) ?_
                refine kx_retP (va_runV (As := [.int (nI (r)), .int (nI (0))]) (rest := []) ⟨hx, hb, hml, hown, hts⟩ (k_X8_ringPart l D cs a z r 0 (by first | assumption | omega) (by first | assumption | omega)) (cwV 2 hts gX8_ringValue_X8_ringPart rfl rfl rfl (by decide +kernel) ⟨Nat.le_of_ble_eq_true rfl, Nat.le_of_ble_eq_true rfl⟩) (kx_preV hK hN hM.1 rfl hM) rfl rfl hl.1 rfl (lv_room (Nat.le_of_ble_eq_true rfl)) dX8_ringValue_177 ⟨Nat.le_of_ble_eq_true rfl, Nat.le_of_ble_eq_true rfl⟩) ?_
                exact kx_iretP hx hb hrt hlk rfl dX8_ringValue_180
              · refine lv_tableOut (tgt := 174) hx hb dX8_ringValue_131 (by decide) (by decide) ?_
                refine lv_aload_n hx hb dX8_ringValue_174 rfl (lv_at hl 0 rfl) ?_
                refine lv_iload_n hx hb dX8_ringValue_175 rfl (lv_at hl 1 rfl) ?_
                refine lv_iload_n hx hb dX8_ringValue_176 rfl (lv_at hl 2 rfl) ?_
                refine kx_retP (va_runV (As := [.int (nI (r)), .int (nI (1))]) (rest := []) ⟨hx, hb, hml, hown, hts⟩ (k_X8_ringPart l D cs a z r 1 (by first | assumption | omega) (by first | assumption | omega)) (cwV 2 hts gX8_ringValue_X8_ringPart rfl rfl rfl (by decide +kernel) ⟨Nat.le_of_ble_eq_true rfl, Nat.le_of_ble_eq_true rfl⟩) (kx_preV hK hN hM.1 rfl hM) rfl rfl hl.1 rfl (lv_room (Nat.le_of_ble_eq_true rfl)) dX8_ringValue_177 ⟨Nat.le_of_ble_eq_true rfl, Nat.le_of_ble_eq_true rfl⟩) ?_
                exact kx_iretP hx hb hrt hlk rfl dX8_ringValue_180
              · refine lv_tableOut (tgt := 174) hx hb dX8_ringValue_131 (by decide) (by decide) ?_
                refine lv_aload_n hx hb dX8_ringValue_174 rfl (lv_at hl 0 rfl) ?_
                refine lv_iload_n hx hb dX8_ringValue_175 rfl (lv_at hl 1 rfl) ?_
                refine lv_iload_n hx hb dX8_ringValue_176 rfl (lv_at hl 2 rfl) ?_
                refine kx_retP (va_runV (As := [.int (nI (r)), .int (nI (2))]) (rest := []) ⟨hx, hb, hml, hown, hts⟩ (k_X8_ringPart l D cs a z r 2 (by first | assumption | omega) (by first | assumption | omega)) (cwV 2 hts gX8_ringValue_X8_ringPart rfl rfl rfl (by decide +kernel) ⟨Nat.le_of_ble_eq_true rfl, Nat.le_of_ble_eq_true rfl⟩) (kx_preV hK hN hM.1 rfl hM) rfl rfl hl.1 rfl (lv_room (Nat.le_of_ble_eq_true rfl)) dX8_ringValue_177 ⟨Nat.le_of_ble_eq_true rfl, Nat.le_of_ble_eq_true rfl⟩) ?_
                exact kx_iretP hx hb hrt hlk rfl dX8_ringValue_180
              · refine lv_tableOut (tgt := 174) hx hb dX8_ringValue_131 (by decide) (by decide) ?_
                refine lv_aload_n hx hb dX8_ringValue_174 rfl (lv_at hl 0 rfl) ?_
                refine lv_iload_n hx hb dX8_ringValue_175 rfl (lv_at hl 1 rfl) ?_
                refine lv_iload_n hx hb dX8_ringValue_176 rfl (lv_at hl 2 rfl) ?_
                refine kx_retP (va_runV (As := [.int (nI (r)), .int (nI (3))]) (rest := []) ⟨hx, hb, hml, hown, hts⟩ (k_X8_ringPart l D cs a z r 3 (by first | assumption | omega) (by first | assumption | omega)) (cwV 2 hts gX8_ringValue_X8_ringPart rfl rfl rfl (by decide +kernel) ⟨Nat.le_of_ble_eq_true rfl, Nat.le_of_ble_eq_true rfl⟩) (kx_preV hK hN hM.1 rfl hM) rfl rfl hl.1 rfl (lv_room (Nat.le_of_ble_eq_true rfl)) dX8_ringValue_177 ⟨Nat.le_of_ble_eq_true rfl, Nat.le_of_ble_eq_true rfl⟩) ?_
                exact kx_iretP hx hb hrt hlk rfl dX8_ringValue_180
              · refine lv_tableIn (off := 29) (tgt := 160) hx hb dX8_ringValue_131 (by decide) (by decide) (by rfl) (by decide) ?_
                refine lv_iload_n hx hb dX8_ringValue_160 rfl (lv_at hl 3 rfl) ?_
                exact kx_iretP hx hb hrt hlk rfl dX8_ringValue_161
              · refine lv_tableIn (off := 31) (tgt := 162) hx hb dX8_ringValue_131 (by decide) (by decide) (by rfl) (by decide) ?_
                refine lv_iload hx hb dX8_ringValue_162 (lv_at hl 4 rfl) ?_
                exact kx_iretP hx hb hrt hlk rfl dX8_ringValue_164
              · refine lv_tableIn (off := 34) (tgt := 165) hx hb dX8_ringValue_131 (by decide) (by decide) (by rfl) (by decide) ?_
                refine lv_aload_n hx hb dX8_ringValue_165 rfl (lv_at hl 0 rfl) ?_
                refine lv_iload_n hx hb dX8_ringValue_166 rfl (lv_at hl 1 rfl) ?_
                refine kx_retP (va_runV (As := [.int (nI (r))]) (rest := []) ⟨hx, hb, hml, hown, hts⟩ (k_X8_copiedTo l D cs a z r hI (by first | assumption | omega)) (cwV 1 hts gX8_ringValue_X8_copiedTo rfl rfl rfl (by decide +kernel) ⟨Nat.le_of_ble_eq_true rfl, Nat.le_of_ble_eq_true rfl⟩) (kx_preV hK hN hM.1 rfl hM) rfl rfl hl.1 rfl (lv_room (Nat.le_of_ble_eq_true rfl)) dX8_ringValue_167 ⟨Nat.le_of_ble_eq_true rfl, Nat.le_of_ble_eq_true rfl⟩) ?_
                exact kx_iretP hx hb hrt hlk rfl dX8_ringValue_170
              · refine lv_tableIn (off := 40) (tgt := 171) hx hb dX8_ringValue_131 (by decide) (by decide) (by rfl) (by decide) ?_
                refine lv_iload hx hb dX8_ringValue_171 (lv_at hl 5 rfl) ?_
                exact kx_iretP hx hb hrt hlk (by rw [show q = rL z r by omega]; rfl) dX8_ringValue_173
            · refine lv_iload hx hb dX8_ringValue_102 (lv_at hl 5 rfl) ?_
              refine lv_aload_n hx hb dX8_ringValue_104 rfl (lv_at hl 0 rfl) ?_
              refine kx_get (v := .ref (a + 1)) hx hb hts hinX8 hown hK hM.1 rfl 1 (by decide) (by decide +kernel) rfl dX8_ringValue_105 ?_
              refine lv_bipush (v := nI 8) hx hb dX8_ringValue_108 (by decide) ?_
              refine lv_aload_n hx hb dX8_ringValue_110 rfl (lv_at hl 0 rfl) ?_
              refine lv_iload_n hx hb dX8_ringValue_111 rfl (lv_at hl 1 rfl) ?_
              refine lv_iconst (v := nI 0) hx hb dX8_ringValue_112 (by decide) ?_
              refine kx_retP (va_runV (As := [.int (nI (r)), .int (nI (0))]) (rest := [.int (nI (8)), .ref (a + 1), .int (smK z (rF z r) q)]) ⟨hx, hb, hml, hown, hts⟩ (k_X8_ringPart l D cs a z r 0 (by first | assumption | omega) (by first | assumption | omega)) (cwV 2 hts gX8_ringValue_X8_ringPart rfl rfl rfl (by decide +kernel) ⟨Nat.le_of_ble_eq_true rfl, Nat.le_of_ble_eq_true rfl⟩) (kx_preV hK hN hM.1 rfl hM) rfl rfl hl.1 rfl (lv_room (Nat.le_of_ble_eq_true rfl)) dX8_ringValue_113 ⟨Nat.le_of_ble_eq_true rfl, Nat.le_of_ble_eq_true rfl⟩) ?_
              refine kx_ci (y := nI (rF z r)) (Inv.r0 hI (by first | assumption | omega)) ?_
              refine kn_add hx hb dX8_ringValue_116 ?_
              refine lv_iload hx hb dX8_ringValue_117 (lv_at hl 6 rfl) ?_
              refine kn_add hx hb dX8_ringValue_119 ?_
              refine kx_iald (i := 8 + (rF z r) + q) hx hb hK hM.state 0 rfl (by omega) (by decide) dX8_ringValue_120 ?_
              refine lv_iadd hx hb dX8_ringValue_121 ?_
              refine kx_ci (x := (smK z (rF z r) q) + (z (8 + (rF z r) + q))) (y := smK z (rF z r) (q + 1)) rfl ?_
              refine lv_istore (lv' := [(5, .int (smK z (rF z r) (q + 1))), (0, .ref (a)), (1, .int (nI (r))), (2, .int (nI (w))), (3, .int (nI (uFK z r (Mn z)))), (4, .int (nI (uTK z r (Mn z)))), (6, .int (nI (q)))]) hx hb dX8_ringValue_122 hl (by decide) rfl (fun ls hl => ?_)
              refine lv_iinc (v := nI (q + 1)) (lv' := [(6, .int (nI (q + 1))), (5, .int (smK z (rF z r) (q + 1))), (0, .ref (a)), (1, .int (nI (r))), (2, .int (nI (w))), (3, .int (nI (uFK z r (Mn z)))), (4, .int (nI (uTK z r (Mn z))))]) (k := 6) hx hb dX8_ringValue_124 hl rfl (nI_add _ _) (by decide) rfl (fun ls hl => ?_)
              refine lv_goto (tgt := 91) hx hb dX8_ringValue_127 (by decide) ?_
              exact ih91 (q + 1) _ (by omega) (by omega) (lv_sub hl [2, 3, 4, 5, 6, 1, 0] rfl)
        exact J91 _ 0 _ (Nat.lt_succ_self _) (by omega) (lv_sub hl [2, 3, 4, 5, 6, 1, 0] rfl)
      · have hkM : k < Mn z := by omega
        have hs3 := hI.s3 hkM
        have hmt := hI.mt hkM
        have hmf := hI.mf hkM
        refine lv_aload_n hx hb dX8_ringValue_19 rfl (lv_at hl 0 rfl) ?_
        refine lv_iload hx hb dX8_ringValue_20 (lv_at hl 5 rfl) ?_
        refine lv_iconst (v := nI 5) hx hb dX8_ringValue_22 (by decide) ?_
        refine kx_retP (va_runV (As := [.int (nI (k)), .int (nI (5))]) (rest := []) ⟨hx, hb, hml, hown, hts⟩ (k_X8_movePart l D cs a z k 5 (by first | assumption | omega) (by first | assumption | omega)) (cwV 2 hts gX8_ringValue_X8_movePart rfl rfl rfl (by decide +kernel) ⟨Nat.le_of_ble_eq_true rfl, Nat.le_of_ble_eq_true rfl⟩) (kx_preV hK hN hM.1 rfl hM) rfl rfl hl.1 rfl (lv_room (Nat.le_of_ble_eq_true rfl)) dX8_ringValue_23 ⟨Nat.le_of_ble_eq_true rfl, Nat.le_of_ble_eq_true rfl⟩) ?_
        refine kx_ci (y := nI (mS z k)) (Inv.m5 hI (by first | assumption | omega)) ?_
        refine lv_iconst (v := nI 3) hx hb dX8_ringValue_26 (by decide) ?_
        refine kn_icmp_ne (tgt := 34) hx hb dX8_ringValue_27 (by decide) (by omega) (by decide) (fun c_3 => ?_) (fun c_3 => ?_)
        · refine lv_iconst (v := nI 1) hx hb dX8_ringValue_34 (by decide) ?_
          refine kx_ci (x := nI (1)) (y := nI (if mS z k = 3 then 0 else 1)) (congrArg nI (by first | (simp [*]; done) | (exfalso; omega) | (exfalso; simp_all; done))) ?_
          refine lv_istore (lv' := [(6, .int (nI (if mS z k = 3 then 0 else 1))), (0, .ref (a)), (1, .int (nI (r))), (2, .int (nI (w))), (3, .int (nI (uFK z r k))), (4, .int (nI (uTK z r k))), (5, .int (nI (k)))]) hx hb dX8_ringValue_35 hl (by decide) rfl (fun ls hl => ?_)
          refine lv_iload_n hx hb dX8_ringValue_37 rfl (lv_at hl 4 rfl) ?_
          refine lv_aload_n hx hb dX8_ringValue_38 rfl (lv_at hl 1 rfl) ?_
          refine lv_iload hx hb dX8_ringValue_39 (lv_at hl 6 rfl) ?_
          refine lv_iconst (v := nI 0) hx hb dX8_ringValue_41 (by decide) ?_
          refine kx_retP (va_runV (As := [.int (nI (k)), .int (nI (0))]) (rest := [.int (nI (uFK z r k))]) ⟨hx, hb, hml, hown, hts⟩ (k_X8_movePart l D cs a z k 0 (by first | assumption | omega) (by first | assumption | omega)) (cwV 2 hts gX8_ringValue_X8_movePart rfl rfl rfl (by decide +kernel) ⟨Nat.le_of_ble_eq_true rfl, Nat.le_of_ble_eq_true rfl⟩) (kx_preV hK hN hM.1 rfl hM) rfl rfl hl.1 rfl (lv_room (Nat.le_of_ble_eq_true rfl)) dX8_ringValue_42 ⟨Nat.le_of_ble_eq_true rfl, Nat.le_of_ble_eq_true rfl⟩) ?_
          refine kx_ci (y := nI (mF z k)) (Inv.m0 hI (by first | assumption | omega)) ?_
          refine lv_iload_n hx hb dX8_ringValue_45 rfl (lv_at hl 2 rfl) ?_
          refine kn_icmp_ne (tgt := 54) hx hb dX8_ringValue_46 (by decide) (by omega) (by omega) (fun c_4 => ?_) (fun c_4 => ?_)
          · refine lv_iconst (v := nI 0) hx hb dX8_ringValue_54 (by decide) ?_
            refine kx_ci (x := nI (0)) (y := nI (if mF z k = r then (if mS z k = 3 then 0 else 1) else 0)) (congrArg nI (by first | (simp [*]; done) | (exfalso; omega) | (exfalso; simp_all; done))) ?_
            refine kn_add hx hb dX8_ringValue_55 ?_
            refine kx_ci (x := nI (uFK z r k + (if mF z k = r then (if mS z k = 3 then 0 else 1) else 0))) (y := nI (uFK z r (k + 1))) rfl ?_
            refine lv_istore_n (lv' := [(3, .int (nI (uFK z r (k + 1)))), (6, .int (nI (if mS z k = 3 then 0 else 1))), (0, .ref (a)), (1, .int (nI (r))), (2, .int (nI (w))), (4, .int (nI (uTK z r k))), (5, .int (nI (k)))]) hx hb dX8_ringValue_56 rfl hl (by decide) rfl (fun ls hl => ?_)
            refine lv_iload hx hb dX8_ringValue_57 (lv_at hl 5 rfl) ?_
            refine lv_aload_n hx hb dX8_ringValue_59 rfl (lv_at hl 2 rfl) ?_
            refine lv_iload hx hb dX8_ringValue_60 (lv_at hl 6 rfl) ?_
            refine lv_iconst (v := nI 2) hx hb dX8_ringValue_62 (by decide) ?_
            refine kx_retP (va_runV (As := [.int (nI (k)), .int (nI (2))]) (rest := [.int (nI (uTK z r k))]) ⟨hx, hb, hml, hown, hts⟩ (k_X8_movePart l D cs a z k 2 (by first | assumption | omega) (by first | assumption | omega)) (cwV 2 hts gX8_ringValue_X8_movePart rfl rfl rfl (by decide +kernel) ⟨Nat.le_of_ble_eq_true rfl, Nat.le_of_ble_eq_true rfl⟩) (kx_preV hK hN hM.1 rfl hM) rfl rfl hl.1 rfl (lv_room (Nat.le_of_ble_eq_true rfl)) dX8_ringValue_63 ⟨Nat.le_of_ble_eq_true rfl, Nat.le_of_ble_eq_true rfl⟩) ?_
            refine kx_ci (y := nI (mT z k)) (Inv.m2 hI (by first | assumption | omega)) ?_
            refine lv_iload_n hx hb dX8_ringValue_66 rfl (lv_at hl 3 rfl) ?_
            refine kn_icmp_ne (tgt := 75) hx hb dX8_ringValue_67 (by decide) (by omega) (by omega) (fun c_5 => ?_) (fun c_5 => ?_)
            · refine lv_iconst (v := nI 0) hx hb dX8_ringValue_75 (by decide) ?_
              refine kx_ci (x := nI (0)) (y := nI (if mT z k = r then (if mS z k = 3 then 0 else 1) else 0)) (congrArg nI (by first | (simp [*]; done) | (exfalso; omega) | (exfalso; simp_all; done))) ?_
              refine kn_add hx hb dX8_ringValue_76 ?_
              refine kx_ci (x := nI (uTK z r k + (if mT z k = r then (if mS z k = 3 then 0 else 1) else 0))) (y := nI (uTK z r (k + 1))) rfl ?_
              refine lv_istore (lv' := [(4, .int (nI (uTK z r (k + 1)))), (3, .int (nI (uFK z r (k + 1)))), (6, .int (nI (if mS z k = 3 then 0 else 1))), (0, .ref (a)), (1, .int (nI (r))), (2, .int (nI (w))), (5, .int (nI (k)))]) hx hb dX8_ringValue_77 hl (by decide) rfl (fun ls hl => ?_)
              refine lv_iinc (v := nI (k + 1)) (lv' := [(5, .int (nI (k + 1))), (4, .int (nI (uTK z r (k + 1)))), (3, .int (nI (uFK z r (k + 1)))), (6, .int (nI (if mS z k = 3 then 0 else 1))), (0, .ref (a)), (1, .int (nI (r))), (2, .int (nI (w)))]) (k := 6) hx hb dX8_ringValue_79 hl rfl (nI_add _ _) (by decide) rfl (fun ls hl => ?_)
              refine lv_goto (tgt := 8) hx hb dX8_ringValue_82 (by decide) ?_
              exact ih8 (k + 1) _ (by omega) (by omega) (lv_sub hl [4, 5, 6, 2, 1, 0] rfl)
            · refine lv_iload hx hb dX8_ringValue_70 (lv_at hl 1 rfl) ?_
              refine lv_goto (tgt := 76) hx hb dX8_ringValue_72 (by decide) ?_
              refine kx_ci (x := nI (if mS z k = 3 then 0 else 1)) (y := nI (if mT z k = r then (if mS z k = 3 then 0 else 1) else 0)) (congrArg nI (by first | (simp [*]; done) | (exfalso; omega) | (exfalso; simp_all; done))) ?_
              refine kn_add hx hb dX8_ringValue_76 ?_
              refine kx_ci (x := nI (uTK z r k + (if mT z k = r then (if mS z k = 3 then 0 else 1) else 0))) (y := nI (uTK z r (k + 1))) rfl ?_
              refine lv_istore (lv' := [(4, .int (nI (uTK z r (k + 1)))), (3, .int (nI (uFK z r (k + 1)))), (6, .int (nI (if mS z k = 3 then 0 else 1))), (0, .ref (a)), (1, .int (nI (r))), (2, .int (nI (w))), (5, .int (nI (k)))]) hx hb dX8_ringValue_77 hl (by decide) rfl (fun ls hl => ?_)
              refine lv_iinc (v := nI (k + 1)) (lv' := [(5, .int (nI (k + 1))), (4, .int (nI (uTK z r (k + 1)))), (3, .int (nI (uFK z r (k + 1)))), (6, .int (nI (if mS z k = 3 then 0 else 1))), (0, .ref (a)), (1, .int (nI (r))), (2, .int (nI (w)))]) (k := 6) hx hb dX8_ringValue_79 hl rfl (nI_add _ _) (by decide) rfl (fun ls hl => ?_)
              refine lv_goto (tgt := 8) hx hb dX8_ringValue_82 (by decide) ?_
              exact ih8 (k + 1) _ (by omega) (by omega) (lv_sub hl [4, 5, 6, 2, 1, 0] rfl)
          · refine lv_iload hx hb dX8_ringValue_49 (lv_at hl 0 rfl) ?_
            refine lv_goto (tgt := 55) hx hb dX8_ringValue_51 (by decide) ?_
            refine kx_ci (x := nI (if mS z k = 3 then 0 else 1)) (y := nI (if mF z k = r then (if mS z k = 3 then 0 else 1) else 0)) (congrArg nI (by first | (simp [*]; done) | (exfalso; omega) | (exfalso; simp_all; done))) ?_
            refine kn_add hx hb dX8_ringValue_55 ?_
            refine kx_ci (x := nI (uFK z r k + (if mF z k = r then (if mS z k = 3 then 0 else 1) else 0))) (y := nI (uFK z r (k + 1))) rfl ?_
            refine lv_istore_n (lv' := [(3, .int (nI (uFK z r (k + 1)))), (6, .int (nI (if mS z k = 3 then 0 else 1))), (0, .ref (a)), (1, .int (nI (r))), (2, .int (nI (w))), (4, .int (nI (uTK z r k))), (5, .int (nI (k)))]) hx hb dX8_ringValue_56 rfl hl (by decide) rfl (fun ls hl => ?_)
            refine lv_iload hx hb dX8_ringValue_57 (lv_at hl 5 rfl) ?_
            refine lv_aload_n hx hb dX8_ringValue_59 rfl (lv_at hl 2 rfl) ?_
            refine lv_iload hx hb dX8_ringValue_60 (lv_at hl 6 rfl) ?_
            refine lv_iconst (v := nI 2) hx hb dX8_ringValue_62 (by decide) ?_
            refine kx_retP (va_runV (As := [.int (nI (k)), .int (nI (2))]) (rest := [.int (nI (uTK z r k))]) ⟨hx, hb, hml, hown, hts⟩ (k_X8_movePart l D cs a z k 2 (by first | assumption | omega) (by first | assumption | omega)) (cwV 2 hts gX8_ringValue_X8_movePart rfl rfl rfl (by decide +kernel) ⟨Nat.le_of_ble_eq_true rfl, Nat.le_of_ble_eq_true rfl⟩) (kx_preV hK hN hM.1 rfl hM) rfl rfl hl.1 rfl (lv_room (Nat.le_of_ble_eq_true rfl)) dX8_ringValue_63 ⟨Nat.le_of_ble_eq_true rfl, Nat.le_of_ble_eq_true rfl⟩) ?_
            refine kx_ci (y := nI (mT z k)) (Inv.m2 hI (by first | assumption | omega)) ?_
            refine lv_iload_n hx hb dX8_ringValue_66 rfl (lv_at hl 3 rfl) ?_
            refine kn_icmp_ne (tgt := 75) hx hb dX8_ringValue_67 (by decide) (by omega) (by omega) (fun c_6 => ?_) (fun c_6 => ?_)
            · refine lv_iconst (v := nI 0) hx hb dX8_ringValue_75 (by decide) ?_
              refine kx_ci (x := nI (0)) (y := nI (if mT z k = r then (if mS z k = 3 then 0 else 1) else 0)) (congrArg nI (by first | (simp [*]; done) | (exfalso; omega) | (exfalso; simp_all; done))) ?_
              refine kn_add hx hb dX8_ringValue_76 ?_
              refine kx_ci (x := nI (uTK z r k + (if mT z k = r then (if mS z k = 3 then 0 else 1) else 0))) (y := nI (uTK z r (k + 1))) rfl ?_
              refine lv_istore (lv' := [(4, .int (nI (uTK z r (k + 1)))), (3, .int (nI (uFK z r (k + 1)))), (6, .int (nI (if mS z k = 3 then 0 else 1))), (0, .ref (a)), (1, .int (nI (r))), (2, .int (nI (w))), (5, .int (nI (k)))]) hx hb dX8_ringValue_77 hl (by decide) rfl (fun ls hl => ?_)
              refine lv_iinc (v := nI (k + 1)) (lv' := [(5, .int (nI (k + 1))), (4, .int (nI (uTK z r (k + 1)))), (3, .int (nI (uFK z r (k + 1)))), (6, .int (nI (if mS z k = 3 then 0 else 1))), (0, .ref (a)), (1, .int (nI (r))), (2, .int (nI (w)))]) (k := 6) hx hb dX8_ringValue_79 hl rfl (nI_add _ _) (by decide) rfl (fun ls hl => ?_)
              refine lv_goto (tgt := 8) hx hb dX8_ringValue_82 (by decide) ?_
              exact ih8 (k + 1) _ (by omega) (by omega) (lv_sub hl [4, 5, 6, 2, 1, 0] rfl)
            · refine lv_iload hx hb dX8_ringValue_70 (lv_at hl 1 rfl) ?_
              refine lv_goto (tgt := 76) hx hb dX8_ringValue_72 (by decide) ?_
              refine kx_ci (x := nI (if mS z k = 3 then 0 else 1)) (y := nI (if mT z k = r then (if mS z k = 3 then 0 else 1) else 0)) (congrArg nI (by first | (simp [*]; done) | (exfalso; omega) | (exfalso; simp_all; done))) ?_
              refine kn_add hx hb dX8_ringValue_76 ?_
              refine kx_ci (x := nI (uTK z r k + (if mT z k = r then (if mS z k = 3 then 0 else 1) else 0))) (y := nI (uTK z r (k + 1))) rfl ?_
              refine lv_istore (lv' := [(4, .int (nI (uTK z r (k + 1)))), (3, .int (nI (uFK z r (k + 1)))), (6, .int (nI (if mS z k = 3 then 0 else 1))), (0, .ref (a)), (1, .int (nI (r))), (2, .int (nI (w))), (5, .int (nI (k)))]) hx hb dX8_ringValue_77 hl (by decide) rfl (fun ls hl => ?_)
              refine lv_iinc (v := nI (k + 1)) (lv' := [(5, .int (nI (k + 1))), (4, .int (nI (uTK z r (k + 1)))), (3, .int (nI (uFK z r (k + 1)))), (6, .int (nI (if mS z k = 3 then 0 else 1))), (0, .ref (a)), (1, .int (nI (r))), (2, .int (nI (w)))]) (k := 6) hx hb dX8_ringValue_79 hl rfl (nI_add _ _) (by decide) rfl (fun ls hl => ?_)
              refine lv_goto (tgt := 8) hx hb dX8_ringValue_82 (by decide) ?_
              exact ih8 (k + 1) _ (by omega) (by omega) (lv_sub hl [4, 5, 6, 2, 1, 0] rfl)
        · refine lv_iconst (v := nI 0) hx hb dX8_ringValue_30 (by decide) ?_
          refine lv_goto (tgt := 35) hx hb dX8_ringValue_31 (by decide) ?_
          refine kx_ci (x := nI (0)) (y := nI (if mS z k = 3 then 0 else 1)) (congrArg nI (by first | (simp [*]; done) | (exfalso; omega) | (exfalso; simp_all; done))) ?_
          refine lv_istore (lv' := [(6, .int (nI (if mS z k = 3 then 0 else 1))), (0, .ref (a)), (1, .int (nI (r))), (2, .int (nI (w))), (3, .int (nI (uFK z r k))), (4, .int (nI (uTK z r k))), (5, .int (nI (k)))]) hx hb dX8_ringValue_35 hl (by decide) rfl (fun ls hl => ?_)
          refine lv_iload_n hx hb dX8_ringValue_37 rfl (lv_at hl 4 rfl) ?_
          refine lv_aload_n hx hb dX8_ringValue_38 rfl (lv_at hl 1 rfl) ?_
          refine lv_iload hx hb dX8_ringValue_39 (lv_at hl 6 rfl) ?_
          refine lv_iconst (v := nI 0) hx hb dX8_ringValue_41 (by decide) ?_
          refine kx_retP (va_runV (As := [.int (nI (k)), .int (nI (0))]) (rest := [.int (nI (uFK z r k))]) ⟨hx, hb, hml, hown, hts⟩ (k_X8_movePart l D cs a z k 0 (by first | assumption | omega) (by first | assumption | omega)) (cwV 2 hts gX8_ringValue_X8_movePart rfl rfl rfl (by decide +kernel) ⟨Nat.le_of_ble_eq_true rfl, Nat.le_of_ble_eq_true rfl⟩) (kx_preV hK hN hM.1 rfl hM) rfl rfl hl.1 rfl (lv_room (Nat.le_of_ble_eq_true rfl)) dX8_ringValue_42 ⟨Nat.le_of_ble_eq_true rfl, Nat.le_of_ble_eq_true rfl⟩) ?_
          refine kx_ci (y := nI (mF z k)) (Inv.m0 hI (by first | assumption | omega)) ?_
          refine lv_iload_n hx hb dX8_ringValue_45 rfl (lv_at hl 2 rfl) ?_
          refine kn_icmp_ne (tgt := 54) hx hb dX8_ringValue_46 (by decide) (by omega) (by omega) (fun c_7 => ?_) (fun c_7 => ?_)
          · refine lv_iconst (v := nI 0) hx hb dX8_ringValue_54 (by decide) ?_
            refine kx_ci (x := nI (0)) (y := nI (if mF z k = r then (if mS z k = 3 then 0 else 1) else 0)) (congrArg nI (by first | (simp [*]; done) | (exfalso; omega) | (exfalso; simp_all; done))) ?_
            refine kn_add hx hb dX8_ringValue_55 ?_
            refine kx_ci (x := nI (uFK z r k + (if mF z k = r then (if mS z k = 3 then 0 else 1) else 0))) (y := nI (uFK z r (k + 1))) rfl ?_
            refine lv_istore_n (lv' := [(3, .int (nI (uFK z r (k + 1)))), (6, .int (nI (if mS z k = 3 then 0 else 1))), (0, .ref (a)), (1, .int (nI (r))), (2, .int (nI (w))), (4, .int (nI (uTK z r k))), (5, .int (nI (k)))]) hx hb dX8_ringValue_56 rfl hl (by decide) rfl (fun ls hl => ?_)
            refine lv_iload hx hb dX8_ringValue_57 (lv_at hl 5 rfl) ?_
            refine lv_aload_n hx hb dX8_ringValue_59 rfl (lv_at hl 2 rfl) ?_
            refine lv_iload hx hb dX8_ringValue_60 (lv_at hl 6 rfl) ?_
            refine lv_iconst (v := nI 2) hx hb dX8_ringValue_62 (by decide) ?_
            refine kx_retP (va_runV (As := [.int (nI (k)), .int (nI (2))]) (rest := [.int (nI (uTK z r k))]) ⟨hx, hb, hml, hown, hts⟩ (k_X8_movePart l D cs a z k 2 (by first | assumption | omega) (by first | assumption | omega)) (cwV 2 hts gX8_ringValue_X8_movePart rfl rfl rfl (by decide +kernel) ⟨Nat.le_of_ble_eq_true rfl, Nat.le_of_ble_eq_true rfl⟩) (kx_preV hK hN hM.1 rfl hM) rfl rfl hl.1 rfl (lv_room (Nat.le_of_ble_eq_true rfl)) dX8_ringValue_63 ⟨Nat.le_of_ble_eq_true rfl, Nat.le_of_ble_eq_true rfl⟩) ?_
            refine kx_ci (y := nI (mT z k)) (Inv.m2 hI (by first | assumption | omega)) ?_
            refine lv_iload_n hx hb dX8_ringValue_66 rfl (lv_at hl 3 rfl) ?_
            refine kn_icmp_ne (tgt := 75) hx hb dX8_ringValue_67 (by decide) (by omega) (by omega) (fun c_8 => ?_) (fun c_8 => ?_)
            · refine lv_iconst (v := nI 0) hx hb dX8_ringValue_75 (by decide) ?_
              refine kx_ci (x := nI (0)) (y := nI (if mT z k = r then (if mS z k = 3 then 0 else 1) else 0)) (congrArg nI (by first | (simp [*]; done) | (exfalso; omega) | (exfalso; simp_all; done))) ?_
              refine kn_add hx hb dX8_ringValue_76 ?_
              refine kx_ci (x := nI (uTK z r k + (if mT z k = r then (if mS z k = 3 then 0 else 1) else 0))) (y := nI (uTK z r (k + 1))) rfl ?_
              refine lv_istore (lv' := [(4, .int (nI (uTK z r (k + 1)))), (3, .int (nI (uFK z r (k + 1)))), (6, .int (nI (if mS z k = 3 then 0 else 1))), (0, .ref (a)), (1, .int (nI (r))), (2, .int (nI (w))), (5, .int (nI (k)))]) hx hb dX8_ringValue_77 hl (by decide) rfl (fun ls hl => ?_)
              refine lv_iinc (v := nI (k + 1)) (lv' := [(5, .int (nI (k + 1))), (4, .int (nI (uTK z r (k + 1)))), (3, .int (nI (uFK z r (k + 1)))), (6, .int (nI (if mS z k = 3 then 0 else 1))), (0, .ref (a)), (1, .int (nI (r))), (2, .int (nI (w)))]) (k := 6) hx hb dX8_ringValue_79 hl rfl (nI_add _ _) (by decide) rfl (fun ls hl => ?_)
              refine lv_goto (tgt := 8) hx hb dX8_ringValue_82 (by decide) ?_
              exact ih8 (k + 1) _ (by omega) (by omega) (lv_sub hl [4, 5, 6, 2, 1, 0] rfl)
            · refine lv_iload hx hb dX8_ringValue_70 (lv_at hl 1 rfl) ?_
              refine lv_goto (tgt := 76) hx hb dX8_ringValue_72 (by decide) ?_
              refine kx_ci (x := nI (if mS z k = 3 then 0 else 1)) (y := nI (if mT z k = r then (if mS z k = 3 then 0 else 1) else 0)) (congrArg nI (by first | (simp [*]; done) | (exfalso; omega) | (exfalso; simp_all; done))) ?_
              refine kn_add hx hb dX8_ringValue_76 ?_
              refine kx_ci (x := nI (uTK z r k + (if mT z k = r then (if mS z k = 3 then 0 else 1) else 0))) (y := nI (uTK z r (k + 1))) rfl ?_
              refine lv_istore (lv' := [(4, .int (nI (uTK z r (k + 1)))), (3, .int (nI (uFK z r (k + 1)))), (6, .int (nI (if mS z k = 3 then 0 else 1))), (0, .ref (a)), (1, .int (nI (r))), (2, .int (nI (w))), (5, .int (nI (k)))]) hx hb dX8_ringValue_77 hl (by decide) rfl (fun ls hl => ?_)
              refine lv_iinc (v := nI (k + 1)) (lv' := [(5, .int (nI (k + 1))), (4, .int (nI (uTK z r (k + 1)))), (3, .int (nI (uFK z r (k + 1)))), (6, .int (nI (if mS z k = 3 then 0 else 1))), (0, .ref (a)), (1, .int (nI (r))), (2, .int (nI (w)))]) (k := 6) hx hb dX8_ringValue_79 hl rfl (nI_add _ _) (by decide) rfl (fun ls hl => ?_)
              refine lv_goto (tgt := 8) hx hb dX8_ringValue_82 (by decide) ?_
              exact ih8 (k + 1) _ (by omega) (by omega) (lv_sub hl [4, 5, 6, 2, 1, 0] rfl)
          · refine lv_iload hx hb dX8_ringValue_49 (lv_at hl 0 rfl) ?_
            refine lv_goto (tgt := 55) hx hb dX8_ringValue_51 (by decide) ?_
            refine kx_ci (x := nI (if mS z k = 3 then 0 else 1)) (y := nI (if mF z k = r then (if mS z k = 3 then 0 else 1) else 0)) (congrArg nI (by first | (simp [*]; done) | (exfalso; omega) | (exfalso; simp_all; done))) ?_
            refine kn_add hx hb dX8_ringValue_55 ?_
            refine kx_ci (x := nI (uFK z r k + (if mF z k = r then (if mS z k = 3 then 0 else 1) else 0))) (y := nI (uFK z r (k + 1))) rfl ?_
            refine lv_istore_n (lv' := [(3, .int (nI (uFK z r (k + 1)))), (6, .int (nI (if mS z k = 3 then 0 else 1))), (0, .ref (a)), (1, .int (nI (r))), (2, .int (nI (w))), (4, .int (nI (uTK z r k))), (5, .int (nI (k)))]) hx hb dX8_ringValue_56 rfl hl (by decide) rfl (fun ls hl => ?_)
            refine lv_iload hx hb dX8_ringValue_57 (lv_at hl 5 rfl) ?_
            refine lv_aload_n hx hb dX8_ringValue_59 rfl (lv_at hl 2 rfl) ?_
            refine lv_iload hx hb dX8_ringValue_60 (lv_at hl 6 rfl) ?_
            refine lv_iconst (v := nI 2) hx hb dX8_ringValue_62 (by decide) ?_
            refine kx_retP (va_runV (As := [.int (nI (k)), .int (nI (2))]) (rest := [.int (nI (uTK z r k))]) ⟨hx, hb, hml, hown, hts⟩ (k_X8_movePart l D cs a z k 2 (by first | assumption | omega) (by first | assumption | omega)) (cwV 2 hts gX8_ringValue_X8_movePart rfl rfl rfl (by decide +kernel) ⟨Nat.le_of_ble_eq_true rfl, Nat.le_of_ble_eq_true rfl⟩) (kx_preV hK hN hM.1 rfl hM) rfl rfl hl.1 rfl (lv_room (Nat.le_of_ble_eq_true rfl)) dX8_ringValue_63 ⟨Nat.le_of_ble_eq_true rfl, Nat.le_of_ble_eq_true rfl⟩) ?_
            refine kx_ci (y := nI (mT z k)) (Inv.m2 hI (by first | assumption | omega)) ?_
            refine lv_iload_n hx hb dX8_ringValue_66 rfl (lv_at hl 3 rfl) ?_
            refine kn_icmp_ne (tgt := 75) hx hb dX8_ringValue_67 (by decide) (by omega) (by omega) (fun c_9 => ?_) (fun c_9 => ?_)
            · refine lv_iconst (v := nI 0) hx hb dX8_ringValue_75 (by decide) ?_
              refine kx_ci (x := nI (0)) (y := nI (if mT z k = r then (if mS z k = 3 then 0 else 1) else 0)) (congrArg nI (by first | (simp [*]; done) | (exfalso; omega) | (exfalso; simp_all; done))) ?_
              refine kn_add hx hb dX8_ringValue_76 ?_
              refine kx_ci (x := nI (uTK z r k + (if mT z k = r then (if mS z k = 3 then 0 else 1) else 0))) (y := nI (uTK z r (k + 1))) rfl ?_
              refine lv_istore (lv' := [(4, .int (nI (uTK z r (k + 1)))), (3, .int (nI (uFK z r (k + 1)))), (6, .int (nI (if mS z k = 3 then 0 else 1))), (0, .ref (a)), (1, .int (nI (r))), (2, .int (nI (w))), (5, .int (nI (k)))]) hx hb dX8_ringValue_77 hl (by decide) rfl (fun ls hl => ?_)
              refine lv_iinc (v := nI (k + 1)) (lv' := [(5, .int (nI (k + 1))), (4, .int (nI (uTK z r (k + 1)))), (3, .int (nI (uFK z r (k + 1)))), (6, .int (nI (if mS z k = 3 then 0 else 1))), (0, .ref (a)), (1, .int (nI (r))), (2, .int (nI (w)))]) (k := 6) hx hb dX8_ringValue_79 hl rfl (nI_add _ _) (by decide) rfl (fun ls hl => ?_)
              refine lv_goto (tgt := 8) hx hb dX8_ringValue_82 (by decide) ?_
              exact ih8 (k + 1) _ (by omega) (by omega) (lv_sub hl [4, 5, 6, 2, 1, 0] rfl)
            · refine lv_iload hx hb dX8_ringValue_70 (lv_at hl 1 rfl) ?_
              refine lv_goto (tgt := 76) hx hb dX8_ringValue_72 (by decide) ?_
              refine kx_ci (x := nI (if mS z k = 3 then 0 else 1)) (y := nI (if mT z k = r then (if mS z k = 3 then 0 else 1) else 0)) (congrArg nI (by first | (simp [*]; done) | (exfalso; omega) | (exfalso; simp_all; done))) ?_
              refine kn_add hx hb dX8_ringValue_76 ?_
              refine kx_ci (x := nI (uTK z r k + (if mT z k = r then (if mS z k = 3 then 0 else 1) else 0))) (y := nI (uTK z r (k + 1))) rfl ?_
              refine lv_istore (lv' := [(4, .int (nI (uTK z r (k + 1)))), (3, .int (nI (uFK z r (k + 1)))), (6, .int (nI (if mS z k = 3 then 0 else 1))), (0, .ref (a)), (1, .int (nI (r))), (2, .int (nI (w))), (5, .int (nI (k)))]) hx hb dX8_ringValue_77 hl (by decide) rfl (fun ls hl => ?_)
              refine lv_iinc (v := nI (k + 1)) (lv' := [(5, .int (nI (k + 1))), (4, .int (nI (uTK z r (k + 1)))), (3, .int (nI (uFK z r (k + 1)))), (6, .int (nI (if mS z k = 3 then 0 else 1))), (0, .ref (a)), (1, .int (nI (r))), (2, .int (nI (w)))]) (k := 6) hx hb dX8_ringValue_79 hl rfl (nI_add _ _) (by decide) rfl (fun ls hl => ?_)
              refine lv_goto (tgt := 8) hx hb dX8_ringValue_82 (by decide) ?_
              exact ih8 (k + 1) _ (by omega) (by omega) (lv_sub hl [4, 5, 6, 2, 1, 0] rfl)
  exact J8 _ 0 _ (Nat.lt_succ_self _) (by omega) (lv_sub hl [3, 4, 5, 2, 1, 0] rfl)
set_option maxHeartbeats 1500000 in
set_option maxRecDepth 100000 in
theorem k_X8_save (l : Launch) (D : va_G) (cs : Nat → ClassId) (a : Nat) (z : Nat → Int32) (v : Nat) (hv : z 4404 = nI v) (hv4 : v ≤ 4) : Met l yX8_save wsX8_save ({ frames := 1, cells := 0, slots := 0, locals := 24 } : Room) (PcK D cs [.ref (a)] (fun H => MdC D (cs 0) a z H)) (QcM none (fun H => MdC D (cs 0) a (saveF z v) H) (rgM a)) 0 0 ((rgM a)) := by
  refine kx_met (cc := cX8_save) (maxL := 2) (ret := none) (by decide) rfl (Nat.le_of_ble_eq_true rfl) ?_
  intro p e s m args below meth c hx hb hml hrt hts hown hlk hK hN hP ls hl
  have hl : lv_has ls 2 [(0, .ref (a))] := hl
  obtain ⟨H, hHe⟩ : ∃ H : Heap, H = s.heap := ⟨_, rfl⟩
  rw [← hHe] at hP ⊢
  have hS : va_S ((rgM a)) s.heap H [] := by rw [← hHe]; exact va_S.rf
  have hinX8 : ∀ w ∈ wsX80, w ∈ wsX8_save := by decide +kernel
  have hM := hP
  refine lv_aload_n hx hb dX8_save_0 rfl (lv_at hl 0 rfl) ?_
  refine kx_get (v := .int (z 4404)) hx hb hts hinX8 hown hK hM.1 rfl 4 (by decide) (by decide +kernel) rfl dX8_save_1 ?_
  refine kx_ci (y := nI (v)) hv ?_
  refine lv_iconst (v := nI 4) hx hb dX8_save_4 (by decide) ?_
  refine kn_icmp_ne (tgt := 49) hx hb dX8_save_5 (by decide) (by omega) (by decide) (fun c_1 => ?_) (fun c_1 => ?_)
  · have hM : MdC D (cs 0) a (svA z v) H := by unfold svA; rw [if_neg c_1]; exact hM
    have hvV : svV v ≤ 3 := by unfold svV; split <;> omega
    refine lv_aload_n hx hb dX8_save_49 rfl (lv_at hl 0 rfl) ?_
    refine kx_get (v := .ref (a + 1)) hx hb hts hinX8 hown hK hM.1 rfl 1 (by decide) (by decide +kernel) rfl dX8_save_50 ?_
    refine lv_iconst (v := nI 0) hx hb dX8_save_53 (by decide) ?_
    refine lv_aload_n hx hb dX8_save_54 rfl (lv_at hl 0 rfl) ?_
    refine kx_get (v := .ref (a + 3)) hx hb hts hinX8 hown hK hM.1 rfl 3 (by decide) (by decide +kernel) rfl dX8_save_55 ?_
    refine lv_aload_n hx hb dX8_save_58 rfl (lv_at hl 0 rfl) ?_
    refine kx_get (v := .int ((svA z v) 4404)) hx hb hts hinX8 hown hK hM.1 rfl 4 (by decide) (by decide +kernel) rfl dX8_save_59 ?_
    refine kx_ci (y := nI (svV v)) (svA_v z hv) ?_
    refine lv_sipush (v := nI 704) hx hb dX8_save_62 (by decide) ?_
    refine kn_mul hx hb dX8_save_65 ?_
    refine kx_retM (va_runS (As := [.ref (a + 1), .int (nI (0)), .ref (a + 3), .int (nI ((svV v) * 704))]) (rest := []) ⟨hx, hb, hml, hown, hts⟩ (k_X8_copy l D cs (a + 1) (a + 3) 704 2816 0 ((svV v) * 704) (fun j => (svA z v) j) (fun j => (svA z v) (1408 + j)) (by omega) (by omega) (by omega) (by decide) (by decide)) (cwS 4 hts gX8_save_X8_copy rfl rfl rfl (by decide +kernel) ⟨Nat.le_of_ble_eq_true rfl, Nat.le_of_ble_eq_true rfl⟩) (kx_preS hK hN ⟨hM.state, hM.stack⟩) rfl rfl hl.1 rfl (lv_room (Nat.le_of_ble_eq_true rfl)) dX8_save_66 ⟨Nat.le_of_ble_eq_true rfl, Nat.le_of_ble_eq_true rfl⟩) hS (fun q h1 (h : q = a + 3) => by subst h; exact ⟨by omega, by omega⟩) (fun q (h : q = a + 3) => by subst h; exact ⟨by omega, by omega⟩) (fun H locs hc hk hS => ?_)
    have hM := hM.cp_stack (sp := (svV v) * 704) (src := 0) (by omega) (fun j hj => congrArg _ (by omega)) hc (fun q h1 h2 h3 => hk.2 q (hM.lt q h1 h2) h3)
    clear hc hk
    refine lv_aload_n hx hb dX8_save_69 rfl (lv_at hl 0 rfl) ?_
    refine lv_dup hx hb dX8_save_70 rfl ?_
    refine kx_get (v := .int ((cpZ (svA z v) 0 (1408 + ((svV v) * 704))) 4404)) hx hb hts hinX8 hown hK hM.1 rfl 4 (by decide) (by decide +kernel) rfl dX8_save_71 ?_
    refine kx_ci (y := nI (svV v)) (by rw [cpZ_at, if_neg (by omega)]; exact svA_v z hv) ?_
    refine lv_iconst (v := nI 1) hx hb dX8_save_74 (by decide) ?_
    refine kn_add hx hb dX8_save_75 ?_
    refine kx_put hx hb hts hinX8 tyX8_ok nmX8 hown hK hM.1 rfl hS ⟨by omega, by omega⟩ 4 (by decide) (by decide +kernel) rfl rfl rfl (Nat.le_of_ble_eq_true rfl) dX8_save_76 (fun H locs hc hU hS => ?_)
    have hM := hM.put_saved hc hU
    clear hc hU
    exact kx_vretM hx hb hrt hlk hM hS dX8_save_79
  · refine lv_iconst (v := nI 0) hx hb dX8_save_8 (by decide) ?_
    refine lv_istore_n (lv' := [(1, .int (nI (0))), (0, .ref (a))]) hx hb dX8_save_9 rfl hl (by decide) rfl (fun ls hl => ?_)
    have J10 : ∀ (n10 : Nat) (k : Nat) (H : Heap) (locs : List Loc) (ls : Array Slot), (2112 - k) < n10 → (k ≤ 2112) → (MdC D (cs 0) a (shK z k) H) → va_S ((rgM a)) s.heap H locs → lv_has ls 2 [(0, .ref (a)), (1, .int (nI (k)))] → W p l e ({ frames := 1, cells := 0, slots := 0, locals := 24 } : Room) s m args below meth c H locs 0 0 (MQ below (QcM none (fun H => MdC D (cs 0) a (saveF z v) H) (rgM a)) args s 0 0 ((rgM a))) (F0 m 10 ls []) := by
      intro n10; induction n10 with
      | zero => intro k H locs ls hmu10 hk hM hS hl; exact absurd hmu10 (Nat.not_lt_zero _)
      | succ n10 ih10 =>
        intro k H locs ls hmu10 hk hM hS hl
        refine lv_iload_n hx hb dX8_save_10 rfl (lv_at hl 1 rfl) ?_
        refine lv_sipush (v := nI 2112) hx hb dX8_save_11 (by decide) ?_
        refine kn_icmp_ge (tgt := 39) hx hb dX8_save_14 (by decide) (by omega) (by decide) (fun c_2 => ?_) (fun c_2 => ?_)
        · have hkk : k = 2112 := by omega
          subst hkk
          refine lv_aload_n hx hb dX8_save_39 rfl (lv_at hl 0 rfl) ?_
          refine lv_dup hx hb dX8_save_40 rfl ?_
          refine kx_get (v := .int ((shK z 2112) 4404)) hx hb hts hinX8 hown hK hM.1 rfl 4 (by decide) (by decide +kernel) rfl dX8_save_41 ?_
          refine kx_ci (y := nI (v)) ((shK_out z (by omega)).trans hv) ?_
          refine lv_iconst (v := nI 1) hx hb dX8_save_44 (by decide) ?_
          refine kn_sub hx hb (by omega) dX8_save_45 ?_
          refine kx_put hx hb hts hinX8 tyX8_ok nmX8 hown hK hM.1 rfl hS ⟨by omega, by omega⟩ 4 (by decide) (by decide +kernel) rfl rfl rfl (Nat.le_of_ble_eq_true rfl) dX8_save_46 (fun H locs hc hU hS => ?_)
          have hM := hM.put_saved hc hU
          clear hc hU
          have hM : MdC D (cs 0) a (svA z v) H := (by subst c_1; exact hM)
          have hvV : svV v ≤ 3 := by unfold svV; split <;> omega
          refine lv_aload_n hx hb dX8_save_49 rfl (lv_at hl 0 rfl) ?_
          refine kx_get (v := .ref (a + 1)) hx hb hts hinX8 hown hK hM.1 rfl 1 (by decide) (by decide +kernel) rfl dX8_save_50 ?_
          refine lv_iconst (v := nI 0) hx hb dX8_save_53 (by decide) ?_
          refine lv_aload_n hx hb dX8_save_54 rfl (lv_at hl 0 rfl) ?_
          refine kx_get (v := .ref (a + 3)) hx hb hts hinX8 hown hK hM.1 rfl 3 (by decide) (by decide +kernel) rfl dX8_save_55 ?_
          refine lv_aload_n hx hb dX8_save_58 rfl (lv_at hl 0 rfl) ?_
          refine kx_get (v := .int ((svA z v) 4404)) hx hb hts hinX8 hown hK hM.1 rfl 4 (by decide) (by decide +kernel) rfl dX8_save_59 ?_
          refine kx_ci (y := nI (svV v)) (svA_v z hv) ?_
          refine lv_sipush (v := nI 704) hx hb dX8_save_62 (by decide) ?_
          refine kn_mul hx hb dX8_save_65 ?_
          refine kx_retM (va_runS (As := [.ref (a + 1), .int (nI (0)), .ref (a + 3), .int (nI ((svV v) * 704))]) (rest := []) ⟨hx, hb, hml, hown, hts⟩ (k_X8_copy l D cs (a + 1) (a + 3) 704 2816 0 ((svV v) * 704) (fun j => (svA z v) j) (fun j => (svA z v) (1408 + j)) (by omega) (by omega) (by omega) (by decide) (by decide)) (cwS 4 hts gX8_save_X8_copy rfl rfl rfl (by decide +kernel) ⟨Nat.le_of_ble_eq_true rfl, Nat.le_of_ble_eq_true rfl⟩) (kx_preS hK hN ⟨hM.state, hM.stack⟩) rfl rfl hl.1 rfl (lv_room (Nat.le_of_ble_eq_true rfl)) dX8_save_66 ⟨Nat.le_of_ble_eq_true rfl, Nat.le_of_ble_eq_true rfl⟩) hS (fun q h1 (h : q = a + 3) => by subst h; exact ⟨by omega, by omega⟩) (fun q (h : q = a + 3) => by subst h; exact ⟨by omega, by omega⟩) (fun H locs hc hk hS => ?_)
          have hM := hM.cp_stack (sp := (svV v) * 704) (src := 0) (by omega) (fun j hj => congrArg _ (by omega)) hc (fun q h1 h2 h3 => hk.2 q (hM.lt q h1 h2) h3)
          clear hc hk
          refine lv_aload_n hx hb dX8_save_69 rfl (lv_at hl 0 rfl) ?_
          refine lv_dup hx hb dX8_save_70 rfl ?_
          refine kx_get (v := .int ((cpZ (svA z v) 0 (1408 + ((svV v) * 704))) 4404)) hx hb hts hinX8 hown hK hM.1 rfl 4 (by decide) (by decide +kernel) rfl dX8_save_71 ?_
          refine kx_ci (y := nI (svV v)) (by rw [cpZ_at, if_neg (by omega)]; exact svA_v z hv) ?_
          refine lv_iconst (v := nI 1) hx hb dX8_save_74 (by decide) ?_
          refine kn_add hx hb dX8_save_75 ?_
          refine kx_put hx hb hts hinX8 tyX8_ok nmX8 hown hK hM.1 rfl hS ⟨by omega, by omega⟩ 4 (by decide) (by decide +kernel) rfl rfl rfl (Nat.le_of_ble_eq_true rfl) dX8_save_76 (fun H locs hc hU hS => ?_)
          have hM := hM.put_saved hc hU
          clear hc hU
          exact kx_vretM hx hb hrt hlk hM hS dX8_save_79
        · refine lv_aload_n hx hb dX8_save_17 rfl (lv_at hl 0 rfl) ?_
          refine kx_get (v := .ref (a + 3)) hx hb hts hinX8 hown hK hM.1 rfl 3 (by decide) (by decide +kernel) rfl dX8_save_18 ?_
          refine lv_iload_n hx hb dX8_save_21 rfl (lv_at hl 1 rfl) ?_
          refine lv_aload_n hx hb dX8_save_22 rfl (lv_at hl 0 rfl) ?_
          refine kx_get (v := .ref (a + 3)) hx hb hts hinX8 hown hK hM.1 rfl 3 (by decide) (by decide +kernel) rfl dX8_save_23 ?_
          refine lv_iload_n hx hb dX8_save_26 rfl (lv_at hl 1 rfl) ?_
          refine lv_sipush (v := nI 704) hx hb dX8_save_27 (by decide) ?_
          refine kn_add hx hb dX8_save_30 ?_
          refine kx_iald (i := k + 704) hx hb hK hM.stack 0 rfl (by omega) (by decide) dX8_save_31 ?_
          refine kx_ci (y := z (1408 + (k + 704))) (shK_out z (by omega)) ?_
          refine kx_iast (i := k) hx hb hK hM.stack hS ⟨by omega, by omega⟩ 0 rfl (by omega) (by decide) dX8_save_32 (fun H locs hc hU hS => ?_)
          have hM := hM.put_stack (by omega) hc hU
          clear hc hU
          have hM : MdC D (cs 0) a (shK z (k + 1)) H := (by rw [← shK_s]; exact hM)
          refine lv_iinc (v := nI (k + 1)) (lv' := [(1, .int (nI (k + 1))), (0, .ref (a))]) (k := 1) hx hb dX8_save_33 hl rfl (nI_add _ _) (by decide) rfl (fun ls hl => ?_)
          refine lv_goto (tgt := 10) hx hb dX8_save_36 (by decide) ?_
          exact ih10 (k + 1) _ _ _ (by omega) (by omega) hM hS (lv_sub hl [1, 0] rfl)
    exact J10 _ 0 _ _ _ (Nat.lt_succ_self _) (by omega) (by rw [shK_0]; exact hM) hS (lv_sub hl [1, 0] rfl)
