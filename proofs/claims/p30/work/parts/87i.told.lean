/-! the law's moves told -/
set_option maxHeartbeats 2500000 in
set_option maxRecDepth 100000 in
theorem k_L_told8 (l : Launch) (D : va_G) (cs : Nat → ClassId) (x : Nat) (e : Nat → Int32) (g : Nat → Int64) (e1 : Nat → Int32) (g1 : Nat → Int64) (nx cn : Nat) (se : Nat → Nat → Int32) (sg : Nat → Nat → Int64) (b nn : Nat → Int32) (wd ln pa : Nat) (ft : Int32) (v : Int32) (hI : Inv e) (hG : Msk e g) (hB : LB e) (hM8 : Mn e = 8) (a : Nat) (ha : x + 360 ≤ a) : Met l yL_told wsL_told ({ frames := 5, cells := 0, slots := 0, locals := 137 } : Room) (PcK D cs [.ref (x), .int (v), .ref (a), .ref (a + 2), .ref (a + 3), .ref (a + 5)] (fun H => (HrC D cs x e g e1 g1 nx cn se sg b nn wd ln pa ft H ∧ LwC D cs a e g H))) (QcP (some (.int (bI (true))))) 0 0 nowhere := by
  refine kx_met (cc := cL_told) (maxL := 9) (ret := (some .boolean)) (by decide) rfl (Nat.le_of_ble_eq_true rfl) ?_
  intro p en s m args below meth c hx hb hml hrt hts hown hlk hK hN hP ls hl
  have hl : lv_has ls 9 [(0, .ref (x)), (1, .int (v)), (2, .ref (a)), (3, .ref (a + 2)), (4, .ref (a + 3)), (5, .ref (a + 5))] := hl
  obtain ⟨⟨hWro, hM, hM2, hWhi, hWto, hWtb, hWtn⟩, hL⟩ := hP
  have h24 := hI.M24
  refine lv_aload_n hx hb dL_told_0 rfl (lv_at hl 2 rfl) ?_
  refine lv_iconst (v := nI 0) hx hb dL_told_1 (by decide) ?_
  refine kx_iald (i := 0) hx hb hK hL.q 0 rfl (by omega) (by decide) dL_told_2 ?_
  refine kx_ci (x := qF e 0) (y := nI (Mn e)) (Inv.z4 hI) ?_
  refine lv_bipush (v := nI 8) hx hb dL_told_3 (by decide) ?_
  refine kn_icmp_ne (tgt := 10) hx hb dL_told_5 (by decide) (by omega) (by decide) (fun c_1 => ?_) (fun c_1 => ?_)
  · omega
  · refine lv_iconst (v := nI 1) hx hb dL_told_8 (by decide) ?_
    exact kx_zretP hx hb hrt hlk (by first | rfl | simp [*]) dL_told_9
set_option maxHeartbeats 2500000 in
set_option maxRecDepth 100000 in
theorem k_L_told (l : Launch) (D : va_G) (cs : Nat → ClassId) (x : Nat) (e : Nat → Int32) (g : Nat → Int64) (e1 : Nat → Int32) (g1 : Nat → Int64) (nx cn : Nat) (se : Nat → Nat → Int32) (sg : Nat → Nat → Int64) (b nn : Nat → Int32) (wd ln pa : Nat) (ft : Int32) (v : Int32) (hI : Inv e) (hG : Msk e g) (hB : LB e) (hM8 : Mn e < 8) (hnx : nx < 4) (hcn : cn ≤ 4) (a : Nat) (ha : x + 360 ≤ a) : Met l yL_told wsL_told ({ frames := 5, cells := 0, slots := 0, locals := 137 } : Room) (PcK D cs [.ref (x), .int (v), .ref (a), .ref (a + 2), .ref (a + 3), .ref (a + 5)] (fun H => (HrC D cs x e g e1 g1 nx cn se sg b nn wd ln pa ft H ∧ LwC D cs a e g H))) (QcM (some (.int (bI (true)))) (fun H => (HrC D cs x ((pmT e v)) ((pmH e g v)) e1 g1 (((nx + 1) % 4)) ((min (cn + 1) 4)) ((hsE se nx (cfF (se nx) e))) ((hsG sg nx (cgM (sg nx) g (Mn e)))) b nn wd ln pa ft H ∧ LwC D cs a (pmT e v) (pmH e g v) H)) (fun y9 => (x ≤ y9 ∧ y9 < x + 360) ∨ (a ≤ y9 ∧ y9 < a + 6))) 0 0 ((fun y9 => (x ≤ y9 ∧ y9 < x + 360) ∨ (a ≤ y9 ∧ y9 < a + 6))) := by
  refine kx_met (cc := cL_told) (maxL := 9) (ret := (some .boolean)) (by decide) rfl (Nat.le_of_ble_eq_true rfl) ?_
  intro p en s m args below meth c hx hb hml hrt hts hown hlk hK hN hP ls hl
  have hl : lv_has ls 9 [(0, .ref (x)), (1, .int (v)), (2, .ref (a)), (3, .ref (a + 2)), (4, .ref (a + 3)), (5, .ref (a + 5))] := hl
  obtain ⟨H, hHe⟩ : ∃ H : Heap, H = s.heap := ⟨_, rfl⟩
  rw [← hHe] at hP ⊢
  have hS : va_S ((fun y9 => (x ≤ y9 ∧ y9 < x + 360) ∨ (a ≤ y9 ∧ y9 < a + 6))) s.heap H [] := by rw [← hHe]; exact va_S.rf
  obtain ⟨⟨hWro, hM, hM2, hWhi, hWto, hWtb, hWtn⟩, hL⟩ := hP
  have h24 := hI.M24
  have h6 := hI.R6
  have h8 := hB.M8
  have hR3 := hB.R
  obtain ⟨M, hMM⟩ : ∃ M, Mn e = M := ⟨_, rfl⟩
  have hM4 : e 4 = nI M := hMM ▸ hI.z4
  have hf3 := dF_lt v
  have ht3 := dT_lt v
  have ha20 := dA_lt v
  have hb20 := dB_lt v
  have hmo := mo_le hI hB v
  have hdn := dN_le hI hB v
  have hlf := hI.l16 (r := dF v) (by omega)
  have hlt := hI.l16 (r := dT v) (by omega)
  have hxw := told_w hI hB hM8 v
  refine lv_aload_n hx hb dL_told_0 rfl (lv_at hl 2 rfl) ?_
  refine lv_iconst (v := nI 0) hx hb dL_told_1 (by decide) ?_
  refine kx_iald (i := 0) hx hb hK hL.q 0 rfl (by omega) (by decide) dL_told_2 ?_
  refine kx_ci (x := qF e 0) (y := nI (M)) (Eq.trans (show qF e 0 = e 4 from rfl) hM4) ?_
  refine lv_bipush (v := nI 8) hx hb dL_told_3 (by decide) ?_
  refine kn_icmp_ne (tgt := 10) hx hb dL_told_5 (by decide) (by omega) (by decide) (fun c_1 => ?_) (fun c_1 => ?_)
  · refine lv_bipush (v := nI 8) hx hb dL_told_10 (by decide) ?_
    refine lv_aload_n hx hb dL_told_12 rfl (lv_at hl 2 rfl) ?_
    refine lv_iconst (v := nI 0) hx hb dL_told_13 (by decide) ?_
    refine kx_iald (i := 0) hx hb hK hL.q 0 rfl (by omega) (by decide) dL_told_14 ?_
    refine kx_ci (x := qF e 0) (y := nI (M)) (Eq.trans (show qF e 0 = e 4 from rfl) hM4) ?_
    refine kn_mul hx hb dL_told_15 ?_
    refine lv_istore (lv' := [(6, .int (nI (8 * M))), (0, .ref (x)), (1, .int (v)), (2, .ref (a)), (3, .ref (a + 2)), (4, .ref (a + 3)), (5, .ref (a + 5))]) hx hb dL_told_16 hl (by decide) rfl (fun ls hl => ?_)
    refine lv_aload hx hb dL_told_18 (lv_at hl 5 rfl) ?_
    refine lv_iload hx hb dL_told_20 (lv_at hl 0 rfl) ?_
    refine lv_iload_n hx hb dL_told_22 rfl (lv_at hl 2 rfl) ?_
    refine lv_iconst (v := nI 3) hx hb dL_told_23 (by decide) ?_
    refine kx_retP (va_runS (As := [.int (v), .int (nI (3))]) (rest := [.int (nI (8 * M)), .ref (a + 3)]) ⟨hx, hb, hml, hown, hts⟩ (k_L_low l D cs v 3 (by decide) (by decide)) (cwS 2 hts gL_told_L_low rfl rfl rfl (by decide +kernel) ⟨Nat.le_of_ble_eq_true rfl, Nat.le_of_ble_eq_true rfl⟩) (kx_preS hK hN trivial) rfl rfl hl.1 rfl (lv_room (Nat.le_of_ble_eq_true rfl)) dL_told_24 ⟨Nat.le_of_ble_eq_true rfl, Nat.le_of_ble_eq_true rfl⟩) ?_
    refine kx_ci (x := nI (lowN v 3)) (y := nI (dF v)) rfl ?_
    refine kx_iast (i := 8 * M) hx hb hK hL.mv hS (Or.inr ⟨by omega, by omega⟩) 0 rfl (by omega) (by decide) dL_told_27 (fun H locs hc hU hS => ?_)
    have hL := hL.put_mv (k := M) (p := 0) (by omega) (by decide) hc hU
    have hWhi := hWhi.off hU (by omega)
    have hWro := hWro.kept (hU.2 _ (by omega))
    have hM := hM.off hU (by omega)
    have hM2 := hM2.off hU (by omega)
    have hWtb := hWtb.kept (hU.2 _ (by omega))
    have hWtn := hWtn.kept (hU.2 _ (by omega))
    have hWto := hWto.kept (hU.2 _ (by omega))
    clear hc hU
    have hL : LwC D cs a (upd e (80 + 10 * M + 0) (nI (dF v))) g H := hL
    refine lv_aload hx hb dL_told_28 (lv_at hl 5 rfl) ?_
    refine lv_iload hx hb dL_told_30 (lv_at hl 0 rfl) ?_
    refine lv_iconst (v := nI 1) hx hb dL_told_32 (by decide) ?_
    refine kn_add hx hb dL_told_33 ?_
    refine lv_iload_n hx hb dL_told_34 rfl (lv_at hl 2 rfl) ?_
    refine lv_iconst (v := nI 2) hx hb dL_told_35 (by decide) ?_
    refine lv_ishr hx hb dL_told_36 ?_
    refine lv_bipush (v := nI 20) hx hb dL_told_37 (by decide) ?_
    refine kx_retP (va_runS (As := [.int (v >>> ((nI (2)) &&& 31)), .int (nI (20))]) (rest := [.int (nI (8 * M + 1)), .ref (a + 3)]) ⟨hx, hb, hml, hown, hts⟩ (k_L_low l D cs (v >>> ((nI (2)) &&& 31)) 20 (by decide) (by decide)) (cwS 2 hts gL_told_L_low rfl rfl rfl (by decide +kernel) ⟨Nat.le_of_ble_eq_true rfl, Nat.le_of_ble_eq_true rfl⟩) (kx_preS hK hN trivial) rfl rfl hl.1 rfl (lv_room (Nat.le_of_ble_eq_true rfl)) dL_told_39 ⟨Nat.le_of_ble_eq_true rfl, Nat.le_of_ble_eq_true rfl⟩) ?_
    refine kx_ci (x := nI (lowN (v >>> ((nI (2)) &&& 31)) 20)) (y := nI (dA v)) rfl ?_
    refine kx_iast (i := 8 * M + 1) hx hb hK hL.mv hS (Or.inr ⟨by omega, by omega⟩) 0 rfl (by omega) (by decide) dL_told_42 (fun H locs hc hU hS => ?_)
    have hL := hL.put_mv (k := M) (p := 1) (by omega) (by decide) hc hU
    have hWhi := hWhi.off hU (by omega)
    have hWro := hWro.kept (hU.2 _ (by omega))
    have hM := hM.off hU (by omega)
    have hM2 := hM2.off hU (by omega)
    have hWtb := hWtb.kept (hU.2 _ (by omega))
    have hWtn := hWtn.kept (hU.2 _ (by omega))
    have hWto := hWto.kept (hU.2 _ (by omega))
    clear hc hU
    have hL : LwC D cs a (upd (upd e (80 + 10 * M + 0) (nI (dF v))) (80 + 10 * M + 1) (nI (dA v))) g H := hL
    refine lv_aload hx hb dL_told_43 (lv_at hl 5 rfl) ?_
    refine lv_iload hx hb dL_told_45 (lv_at hl 0 rfl) ?_
    refine lv_iconst (v := nI 2) hx hb dL_told_47 (by decide) ?_
    refine kn_add hx hb dL_told_48 ?_
    refine lv_iload_n hx hb dL_told_49 rfl (lv_at hl 2 rfl) ?_
    refine lv_bipush (v := nI 7) hx hb dL_told_50 (by decide) ?_
    refine lv_ishr hx hb dL_told_52 ?_
    refine lv_iconst (v := nI 3) hx hb dL_told_53 (by decide) ?_
    refine kx_retP (va_runS (As := [.int (v >>> ((nI (7)) &&& 31)), .int (nI (3))]) (rest := [.int (nI (8 * M + 2)), .ref (a + 3)]) ⟨hx, hb, hml, hown, hts⟩ (k_L_low l D cs (v >>> ((nI (7)) &&& 31)) 3 (by decide) (by decide)) (cwS 2 hts gL_told_L_low rfl rfl rfl (by decide +kernel) ⟨Nat.le_of_ble_eq_true rfl, Nat.le_of_ble_eq_true rfl⟩) (kx_preS hK hN trivial) rfl rfl hl.1 rfl (lv_room (Nat.le_of_ble_eq_true rfl)) dL_told_54 ⟨Nat.le_of_ble_eq_true rfl, Nat.le_of_ble_eq_true rfl⟩) ?_
    refine kx_ci (x := nI (lowN (v >>> ((nI (7)) &&& 31)) 3)) (y := nI (dT v)) rfl ?_
    refine kx_iast (i := 8 * M + 2) hx hb hK hL.mv hS (Or.inr ⟨by omega, by omega⟩) 0 rfl (by omega) (by decide) dL_told_57 (fun H locs hc hU hS => ?_)
    have hL := hL.put_mv (k := M) (p := 2) (by omega) (by decide) hc hU
    have hWhi := hWhi.off hU (by omega)
    have hWro := hWro.kept (hU.2 _ (by omega))
    have hM := hM.off hU (by omega)
    have hM2 := hM2.off hU (by omega)
    have hWtb := hWtb.kept (hU.2 _ (by omega))
    have hWtn := hWtn.kept (hU.2 _ (by omega))
    have hWto := hWto.kept (hU.2 _ (by omega))
    clear hc hU
    have hL : LwC D cs a (upd (upd (upd e (80 + 10 * M + 0) (nI (dF v))) (80 + 10 * M + 1) (nI (dA v))) (80 + 10 * M + 2) (nI (dT v))) g H := hL
    refine lv_aload hx hb dL_told_58 (lv_at hl 5 rfl) ?_
    refine lv_iload hx hb dL_told_60 (lv_at hl 0 rfl) ?_
    refine lv_iconst (v := nI 3) hx hb dL_told_62 (by decide) ?_
    refine kn_add hx hb dL_told_63 ?_
    refine lv_iload_n hx hb dL_told_64 rfl (lv_at hl 2 rfl) ?_
    refine lv_bipush (v := nI 9) hx hb dL_told_65 (by decide) ?_
    refine lv_ishr hx hb dL_told_67 ?_
    refine lv_bipush (v := nI 20) hx hb dL_told_68 (by decide) ?_
    refine kx_retP (va_runS (As := [.int (v >>> ((nI (9)) &&& 31)), .int (nI (20))]) (rest := [.int (nI (8 * M + 3)), .ref (a + 3)]) ⟨hx, hb, hml, hown, hts⟩ (k_L_low l D cs (v >>> ((nI (9)) &&& 31)) 20 (by decide) (by decide)) (cwS 2 hts gL_told_L_low rfl rfl rfl (by decide +kernel) ⟨Nat.le_of_ble_eq_true rfl, Nat.le_of_ble_eq_true rfl⟩) (kx_preS hK hN trivial) rfl rfl hl.1 rfl (lv_room (Nat.le_of_ble_eq_true rfl)) dL_told_70 ⟨Nat.le_of_ble_eq_true rfl, Nat.le_of_ble_eq_true rfl⟩) ?_
    refine kx_ci (x := nI (lowN (v >>> ((nI (9)) &&& 31)) 20)) (y := nI (dB v)) rfl ?_
    refine kx_iast (i := 8 * M + 3) hx hb hK hL.mv hS (Or.inr ⟨by omega, by omega⟩) 0 rfl (by omega) (by decide) dL_told_73 (fun H locs hc hU hS => ?_)
    have hL := hL.put_mv (k := M) (p := 3) (by omega) (by decide) hc hU
    have hWhi := hWhi.off hU (by omega)
    have hWro := hWro.kept (hU.2 _ (by omega))
    have hM := hM.off hU (by omega)
    have hM2 := hM2.off hU (by omega)
    have hWtb := hWtb.kept (hU.2 _ (by omega))
    have hWtn := hWtn.kept (hU.2 _ (by omega))
    have hWto := hWto.kept (hU.2 _ (by omega))
    clear hc hU
    have hL : LwC D cs a (upd (upd (upd (upd e (80 + 10 * M + 0) (nI (dF v))) (80 + 10 * M + 1) (nI (dA v))) (80 + 10 * M + 2) (nI (dT v))) (80 + 10 * M + 3) (nI (dB v))) g H := hL
    refine lv_aload_n hx hb dL_told_74 rfl (lv_at hl 4 rfl) ?_
    refine lv_iconst (v := nI 4) hx hb dL_told_75 (by decide) ?_
    refine lv_aload hx hb dL_told_76 (lv_at hl 5 rfl) ?_
    refine lv_iload hx hb dL_told_78 (lv_at hl 0 rfl) ?_
    refine kx_iald (i := 8 * M) hx hb hK hL.mv 0 rfl (by omega) (by decide) dL_told_80 ?_
    refine kx_ci (x := mvF (upd (upd (upd (upd e (80 + 10 * M + 0) (nI (dF v))) (80 + 10 * M + 1) (nI (dA v))) (80 + 10 * M + 2) (nI (dT v))) (80 + 10 * M + 3) (nI (dB v))) (8 * M)) (y := nI (dF v)) (Eq.trans (mvF_lo (upd (upd (upd (upd e (80 + 10 * M + 0) (nI (dF v))) (80 + 10 * M + 1) (nI (dA v))) (80 + 10 * M + 2) (nI (dT v))) (80 + 10 * M + 3) (nI (dB v))) M (p := 0) (by omega)) (by rw [upd_ne (by omega), upd_ne (by omega), upd_ne (by omega), upd_at, if_pos rfl])) ?_
    refine kn_mul hx hb dL_told_81 ?_
    refine lv_iconst (v := nI 1) hx hb dL_told_82 (by decide) ?_
    refine kn_add hx hb dL_told_83 ?_
    refine kx_iald (i := 4 * (dF v) + 1) hx hb hK hL.rg 0 rfl (by omega) (by decide) dL_told_84 ?_
    refine kx_ci (x := (upd (upd (upd (upd e (80 + 10 * M + 0) (nI (dF v))) (80 + 10 * M + 1) (nI (dA v))) (80 + 10 * M + 2) (nI (dT v))) (80 + 10 * M + 3) (nI (dB v))) (56 + (4 * (dF v) + 1))) (y := nI (rL e (dF v))) (Eq.trans (show (upd (upd (upd (upd e (80 + 10 * M + 0) (nI (dF v))) (80 + 10 * M + 1) (nI (dA v))) (80 + 10 * M + 2) (nI (dT v))) (80 + 10 * M + 3) (nI (dB v))) (56 + (4 * (dF v) + 1)) = (upd (upd (upd (upd e (80 + 10 * M + 0) (nI (dF v))) (80 + 10 * M + 1) (nI (dA v))) (80 + 10 * M + 2) (nI (dT v))) (80 + 10 * M + 3) (nI (dB v))) (56 + 4 * (dF v) + 1) from congrArg _ (by omega)) (Eq.trans (by rw [upd_ne (by omega), upd_ne (by omega), upd_ne (by omega), upd_ne (by omega)]) (hI.r1 (by omega)))) ?_
    refine lv_aload_n hx hb dL_told_85 rfl (lv_at hl 4 rfl) ?_
    refine lv_iconst (v := nI 4) hx hb dL_told_86 (by decide) ?_
    refine lv_aload hx hb dL_told_87 (lv_at hl 5 rfl) ?_
    refine lv_iload hx hb dL_told_89 (lv_at hl 0 rfl) ?_
    refine lv_iconst (v := nI 2) hx hb dL_told_91 (by decide) ?_
    refine kn_add hx hb dL_told_92 ?_
    refine kx_iald (i := 8 * M + 2) hx hb hK hL.mv 0 rfl (by omega) (by decide) dL_told_93 ?_
    refine kx_ci (x := mvF (upd (upd (upd (upd e (80 + 10 * M + 0) (nI (dF v))) (80 + 10 * M + 1) (nI (dA v))) (80 + 10 * M + 2) (nI (dT v))) (80 + 10 * M + 3) (nI (dB v))) (8 * M + 2)) (y := nI (dT v)) (Eq.trans (mvF_lo (upd (upd (upd (upd e (80 + 10 * M + 0) (nI (dF v))) (80 + 10 * M + 1) (nI (dA v))) (80 + 10 * M + 2) (nI (dT v))) (80 + 10 * M + 3) (nI (dB v))) M (p := 2) (by omega)) (by rw [upd_ne (by omega), upd_at, if_pos rfl])) ?_
    refine kn_mul hx hb dL_told_94 ?_
    refine lv_iconst (v := nI 1) hx hb dL_told_95 (by decide) ?_
    refine kn_add hx hb dL_told_96 ?_
    refine kx_iald (i := 4 * (dT v) + 1) hx hb hK hL.rg 0 rfl (by omega) (by decide) dL_told_97 ?_
    refine kx_ci (x := (upd (upd (upd (upd e (80 + 10 * M + 0) (nI (dF v))) (80 + 10 * M + 1) (nI (dA v))) (80 + 10 * M + 2) (nI (dT v))) (80 + 10 * M + 3) (nI (dB v))) (56 + (4 * (dT v) + 1))) (y := nI (rL e (dT v))) (Eq.trans (show (upd (upd (upd (upd e (80 + 10 * M + 0) (nI (dF v))) (80 + 10 * M + 1) (nI (dA v))) (80 + 10 * M + 2) (nI (dT v))) (80 + 10 * M + 3) (nI (dB v))) (56 + (4 * (dT v) + 1)) = (upd (upd (upd (upd e (80 + 10 * M + 0) (nI (dF v))) (80 + 10 * M + 1) (nI (dA v))) (80 + 10 * M + 2) (nI (dT v))) (80 + 10 * M + 3) (nI (dB v))) (56 + 4 * (dT v) + 1) from congrArg _ (by omega)) (Eq.trans (by rw [upd_ne (by omega), upd_ne (by omega), upd_ne (by omega), upd_ne (by omega)]) (hI.r1 (by omega)))) ?_
    refine kn_icmp_ge (tgt := 115) hx hb dL_told_98 (by decide) (by omega) (by omega) (fun hmin => ?_) (fun hmin => ?_)
    · refine lv_aload_n hx hb dL_told_115 rfl (lv_at hl 4 rfl) ?_
      refine lv_iconst (v := nI 4) hx hb dL_told_116 (by decide) ?_
      refine lv_aload hx hb dL_told_117 (lv_at hl 5 rfl) ?_
      refine lv_iload hx hb dL_told_119 (lv_at hl 0 rfl) ?_
      refine lv_iconst (v := nI 2) hx hb dL_told_121 (by decide) ?_
      refine kn_add hx hb dL_told_122 ?_
      refine kx_iald (i := 8 * M + 2) hx hb hK hL.mv 0 rfl (by omega) (by decide) dL_told_123 ?_
      refine kx_ci (x := mvF (upd (upd (upd (upd e (80 + 10 * M + 0) (nI (dF v))) (80 + 10 * M + 1) (nI (dA v))) (80 + 10 * M + 2) (nI (dT v))) (80 + 10 * M + 3) (nI (dB v))) (8 * M + 2)) (y := nI (dT v)) (Eq.trans (mvF_lo (upd (upd (upd (upd e (80 + 10 * M + 0) (nI (dF v))) (80 + 10 * M + 1) (nI (dA v))) (80 + 10 * M + 2) (nI (dT v))) (80 + 10 * M + 3) (nI (dB v))) M (p := 2) (by omega)) (by rw [upd_ne (by omega), upd_at, if_pos rfl])) ?_
      refine kn_mul hx hb dL_told_124 ?_
      refine lv_iconst (v := nI 1) hx hb dL_told_125 (by decide) ?_
      refine kn_add hx hb dL_told_126 ?_
      refine kx_iald (i := 4 * (dT v) + 1) hx hb hK hL.rg 0 rfl (by omega) (by decide) dL_told_127 ?_
      refine kx_ci (x := (upd (upd (upd (upd e (80 + 10 * M + 0) (nI (dF v))) (80 + 10 * M + 1) (nI (dA v))) (80 + 10 * M + 2) (nI (dT v))) (80 + 10 * M + 3) (nI (dB v))) (56 + (4 * (dT v) + 1))) (y := nI (rL e (dT v))) (Eq.trans (show (upd (upd (upd (upd e (80 + 10 * M + 0) (nI (dF v))) (80 + 10 * M + 1) (nI (dA v))) (80 + 10 * M + 2) (nI (dT v))) (80 + 10 * M + 3) (nI (dB v))) (56 + (4 * (dT v) + 1)) = (upd (upd (upd (upd e (80 + 10 * M + 0) (nI (dF v))) (80 + 10 * M + 1) (nI (dA v))) (80 + 10 * M + 2) (nI (dT v))) (80 + 10 * M + 3) (nI (dB v))) (56 + 4 * (dT v) + 1) from congrArg _ (by omega)) (Eq.trans (by rw [upd_ne (by omega), upd_ne (by omega), upd_ne (by omega), upd_ne (by omega)]) (hI.r1 (by omega)))) ?_
      refine kx_ci (x := nI (rL e (dT v))) (y := nI (moN e v)) (congrArg nI (by unfold moN; first | rw [if_pos hmin] | rw [if_neg (by omega)])) ?_
      refine lv_istore (lv' := [(7, .int (nI (moN e v))), (6, .int (nI (8 * M))), (0, .ref (x)), (1, .int (v)), (2, .ref (a)), (3, .ref (a + 2)), (4, .ref (a + 3)), (5, .ref (a + 5))]) hx hb dL_told_128 hl (by decide) rfl (fun ls hl => ?_)
      refine lv_aload hx hb dL_told_130 (lv_at hl 6 rfl) ?_
      refine lv_iload hx hb dL_told_132 (lv_at hl 1 rfl) ?_
      refine lv_iconst (v := nI 4) hx hb dL_told_134 (by decide) ?_
      refine kn_add hx hb dL_told_135 ?_
      refine lv_iconst (v := nI 1) hx hb dL_told_136 (by decide) ?_
      refine lv_iload_n hx hb dL_told_137 rfl (lv_at hl 3 rfl) ?_
      refine lv_bipush (v := nI 14) hx hb dL_told_138 (by decide) ?_
      refine lv_ishr hx hb dL_told_140 ?_
      refine lv_iload hx hb dL_told_141 (lv_at hl 0 rfl) ?_
      refine kx_retP (va_runS (As := [.int (v >>> ((nI (14)) &&& 31)), .int (nI (moN e v))]) (rest := [.int (nI (1)), .int (nI (8 * M + 4)), .ref (a + 3)]) ⟨hx, hb, hml, hown, hts⟩ (k_L_low l D cs (v >>> ((nI (14)) &&& 31)) (moN e v) (by omega) (by omega)) (cwS 2 hts gL_told_L_low rfl rfl rfl (by decide +kernel) ⟨Nat.le_of_ble_eq_true rfl, Nat.le_of_ble_eq_true rfl⟩) (kx_preS hK hN trivial) rfl rfl hl.1 rfl (lv_room (Nat.le_of_ble_eq_true rfl)) dL_told_143 ⟨Nat.le_of_ble_eq_true rfl, Nat.le_of_ble_eq_true rfl⟩) ?_
      refine kn_add hx hb dL_told_146 ?_
      refine kx_ci (x := nI (1 + (lowN (v >>> ((nI (14)) &&& 31)) (moN e v)))) (y := nI (dN e v)) rfl ?_
      refine kx_iast (i := 8 * M + 4) hx hb hK hL.mv hS (Or.inr ⟨by omega, by omega⟩) 0 rfl (by omega) (by decide) dL_told_147 (fun H locs hc hU hS => ?_)
      have hL := hL.put_mv (k := M) (p := 4) (by omega) (by decide) hc hU
      have hWhi := hWhi.off hU (by omega)
      have hWro := hWro.kept (hU.2 _ (by omega))
      have hM := hM.off hU (by omega)
      have hM2 := hM2.off hU (by omega)
      have hWtb := hWtb.kept (hU.2 _ (by omega))
      have hWtn := hWtn.kept (hU.2 _ (by omega))
      have hWto := hWto.kept (hU.2 _ (by omega))
      clear hc hU
      have hL : LwC D cs a (upd (upd (upd (upd (upd e (80 + 10 * M + 0) (nI (dF v))) (80 + 10 * M + 1) (nI (dA v))) (80 + 10 * M + 2) (nI (dT v))) (80 + 10 * M + 3) (nI (dB v))) (80 + 10 * M + 4) (nI (dN e v))) g H := hL
      refine lv_aload hx hb dL_told_148 (lv_at hl 6 rfl) ?_
      refine lv_iload hx hb dL_told_150 (lv_at hl 1 rfl) ?_
      refine lv_iconst (v := nI 5) hx hb dL_told_152 (by decide) ?_
      refine kn_add hx hb dL_told_153 ?_
      refine lv_iconst (v := nI 0) hx hb dL_told_154 (by decide) ?_
      refine kx_iast (i := 8 * M + 5) hx hb hK hL.mv hS (Or.inr ⟨by omega, by omega⟩) 0 rfl (by omega) (by decide) dL_told_155 (fun H locs hc hU hS => ?_)
      have hL := hL.put_mv (k := M) (p := 5) (by omega) (by decide) hc hU
      have hWhi := hWhi.off hU (by omega)
      have hWro := hWro.kept (hU.2 _ (by omega))
      have hM := hM.off hU (by omega)
      have hM2 := hM2.off hU (by omega)
      have hWtb := hWtb.kept (hU.2 _ (by omega))
      have hWtn := hWtn.kept (hU.2 _ (by omega))
      have hWto := hWto.kept (hU.2 _ (by omega))
      clear hc hU
      have hL : LwC D cs a (upd (upd (upd (upd (upd (upd e (80 + 10 * M + 0) (nI (dF v))) (80 + 10 * M + 1) (nI (dA v))) (80 + 10 * M + 2) (nI (dT v))) (80 + 10 * M + 3) (nI (dB v))) (80 + 10 * M + 4) (nI (dN e v))) (80 + 10 * M + 5) (nI (0))) g H := hL
      refine lv_aload hx hb dL_told_156 (lv_at hl 6 rfl) ?_
      refine lv_iload hx hb dL_told_158 (lv_at hl 1 rfl) ?_
      refine lv_bipush (v := nI 6) hx hb dL_told_160 (by decide) ?_
      refine kn_add hx hb dL_told_162 ?_
      refine lv_iconst (v := nI 0) hx hb dL_told_163 (by decide) ?_
      refine kx_iast (i := 8 * M + 6) hx hb hK hL.mv hS (Or.inr ⟨by omega, by omega⟩) 0 rfl (by omega) (by decide) dL_told_164 (fun H locs hc hU hS => ?_)
      have hL := hL.put_mv (k := M) (p := 6) (by omega) (by decide) hc hU
      have hWhi := hWhi.off hU (by omega)
      have hWro := hWro.kept (hU.2 _ (by omega))
      have hM := hM.off hU (by omega)
      have hM2 := hM2.off hU (by omega)
      have hWtb := hWtb.kept (hU.2 _ (by omega))
      have hWtn := hWtn.kept (hU.2 _ (by omega))
      have hWto := hWto.kept (hU.2 _ (by omega))
      clear hc hU
      have hL : LwC D cs a (upd (upd (upd (upd (upd (upd (upd e (80 + 10 * M + 0) (nI (dF v))) (80 + 10 * M + 1) (nI (dA v))) (80 + 10 * M + 2) (nI (dT v))) (80 + 10 * M + 3) (nI (dB v))) (80 + 10 * M + 4) (nI (dN e v))) (80 + 10 * M + 5) (nI (0))) (80 + 10 * M + 6) (nI (0))) g H := hL
      refine lv_aload hx hb dL_told_165 (lv_at hl 7 rfl) ?_
      refine lv_iconst (v := nI 2) hx hb dL_told_167 (by decide) ?_
      refine lv_aload_n hx hb dL_told_168 rfl (lv_at hl 4 rfl) ?_
      refine lv_iconst (v := nI 0) hx hb dL_told_169 (by decide) ?_
      refine kx_iald (i := 0) hx hb hK hL.q 0 rfl (by omega) (by decide) dL_told_170 ?_
      refine kx_ci (x := qF (upd (upd (upd (upd (upd (upd (upd e (80 + 10 * M + 0) (nI (dF v))) (80 + 10 * M + 1) (nI (dA v))) (80 + 10 * M + 2) (nI (dT v))) (80 + 10 * M + 3) (nI (dB v))) (80 + 10 * M + 4) (nI (dN e v))) (80 + 10 * M + 5) (nI (0))) (80 + 10 * M + 6) (nI (0))) 0) (y := nI (M)) (Eq.trans (show qF (upd (upd (upd (upd (upd (upd (upd e (80 + 10 * M + 0) (nI (dF v))) (80 + 10 * M + 1) (nI (dA v))) (80 + 10 * M + 2) (nI (dT v))) (80 + 10 * M + 3) (nI (dB v))) (80 + 10 * M + 4) (nI (dN e v))) (80 + 10 * M + 5) (nI (0))) (80 + 10 * M + 6) (nI (0))) 0 = (upd (upd (upd (upd (upd (upd (upd e (80 + 10 * M + 0) (nI (dF v))) (80 + 10 * M + 1) (nI (dA v))) (80 + 10 * M + 2) (nI (dT v))) (80 + 10 * M + 3) (nI (dB v))) (80 + 10 * M + 4) (nI (dN e v))) (80 + 10 * M + 5) (nI (0))) (80 + 10 * M + 6) (nI (0))) 4 from rfl) (Eq.trans (by rw [upd_ne (by omega), upd_ne (by omega), upd_ne (by omega), upd_ne (by omega), upd_ne (by omega), upd_ne (by omega), upd_ne (by omega)]) hM4)) ?_
      refine kn_mul hx hb dL_told_171 ?_
      refine lv_lconst (v := lN 0) hx hb dL_told_172 rfl ?_
      refine kx_last (i := 2 * M) hx hb hK hL.ce hS (Or.inr ⟨by omega, by omega⟩) 5 rfl (by omega) (by decide) dL_told_173 (fun H locs hc hU hS => ?_)
      have hL := hL.put_ce hc hU
      have hWhi := hWhi.off hU (by omega)
      have hWro := hWro.kept (hU.2 _ (by omega))
      have hM := hM.off hU (by omega)
      have hM2 := hM2.off hU (by omega)
      have hWtb := hWtb.kept (hU.2 _ (by omega))
      have hWtn := hWtn.kept (hU.2 _ (by omega))
      have hWto := hWto.kept (hU.2 _ (by omega))
      clear hc hU
      have hL : LwC D cs a (upd (upd (upd (upd (upd (upd (upd e (80 + 10 * M + 0) (nI (dF v))) (80 + 10 * M + 1) (nI (dA v))) (80 + 10 * M + 2) (nI (dT v))) (80 + 10 * M + 3) (nI (dB v))) (80 + 10 * M + 4) (nI (dN e v))) (80 + 10 * M + 5) (nI (0))) (80 + 10 * M + 6) (nI (0))) (vp_updL g (2 * M) (lN (0))) H := hL
      refine lv_aload hx hb dL_told_174 (lv_at hl 7 rfl) ?_
      refine lv_iconst (v := nI 2) hx hb dL_told_176 (by decide) ?_
      refine lv_aload_n hx hb dL_told_177 rfl (lv_at hl 4 rfl) ?_
      refine lv_iconst (v := nI 0) hx hb dL_told_178 (by decide) ?_
      refine kx_iald (i := 0) hx hb hK hL.q 0 rfl (by omega) (by decide) dL_told_179 ?_
      refine kx_ci (x := qF (upd (upd (upd (upd (upd (upd (upd e (80 + 10 * M + 0) (nI (dF v))) (80 + 10 * M + 1) (nI (dA v))) (80 + 10 * M + 2) (nI (dT v))) (80 + 10 * M + 3) (nI (dB v))) (80 + 10 * M + 4) (nI (dN e v))) (80 + 10 * M + 5) (nI (0))) (80 + 10 * M + 6) (nI (0))) 0) (y := nI (M)) (Eq.trans (show qF (upd (upd (upd (upd (upd (upd (upd e (80 + 10 * M + 0) (nI (dF v))) (80 + 10 * M + 1) (nI (dA v))) (80 + 10 * M + 2) (nI (dT v))) (80 + 10 * M + 3) (nI (dB v))) (80 + 10 * M + 4) (nI (dN e v))) (80 + 10 * M + 5) (nI (0))) (80 + 10 * M + 6) (nI (0))) 0 = (upd (upd (upd (upd (upd (upd (upd e (80 + 10 * M + 0) (nI (dF v))) (80 + 10 * M + 1) (nI (dA v))) (80 + 10 * M + 2) (nI (dT v))) (80 + 10 * M + 3) (nI (dB v))) (80 + 10 * M + 4) (nI (dN e v))) (80 + 10 * M + 5) (nI (0))) (80 + 10 * M + 6) (nI (0))) 4 from rfl) (Eq.trans (by rw [upd_ne (by omega), upd_ne (by omega), upd_ne (by omega), upd_ne (by omega), upd_ne (by omega), upd_ne (by omega), upd_ne (by omega)]) hM4)) ?_
      refine kn_mul hx hb dL_told_180 ?_
      refine lv_iconst (v := nI 1) hx hb dL_told_181 (by decide) ?_
      refine kn_add hx hb dL_told_182 ?_
      refine lv_lconst (v := lN 0) hx hb dL_told_183 rfl ?_
      refine kx_last (i := 2 * M + 1) hx hb hK hL.ce hS (Or.inr ⟨by omega, by omega⟩) 5 rfl (by omega) (by decide) dL_told_184 (fun H locs hc hU hS => ?_)
      have hL := hL.put_ce hc hU
      have hWhi := hWhi.off hU (by omega)
      have hWro := hWro.kept (hU.2 _ (by omega))
      have hM := hM.off hU (by omega)
      have hM2 := hM2.off hU (by omega)
      have hWtb := hWtb.kept (hU.2 _ (by omega))
      have hWtn := hWtn.kept (hU.2 _ (by omega))
      have hWto := hWto.kept (hU.2 _ (by omega))
      clear hc hU
      have hL : LwC D cs a (upd (upd (upd (upd (upd (upd (upd e (80 + 10 * M + 0) (nI (dF v))) (80 + 10 * M + 1) (nI (dA v))) (80 + 10 * M + 2) (nI (dT v))) (80 + 10 * M + 3) (nI (dB v))) (80 + 10 * M + 4) (nI (dN e v))) (80 + 10 * M + 5) (nI (0))) (80 + 10 * M + 6) (nI (0))) (vp_updL (vp_updL g (2 * M) (lN (0))) (2 * M + 1) (lN (0))) H := hL
      obtain ⟨zz, hzz⟩ : ∃ zz, upd (upd (upd (upd (upd (upd (upd e (80 + 10 * M + 0) (nI (dF v))) (80 + 10 * M + 1) (nI (dA v))) (80 + 10 * M + 2) (nI (dT v))) (80 + 10 * M + 3) (nI (dB v))) (80 + 10 * M + 4) (nI (dN e v))) (80 + 10 * M + 5) (nI (0))) (80 + 10 * M + 6) (nI (0)) = zz := ⟨_, rfl⟩
      rw [hzz] at hL
      have hz0 : zz (80 + 10 * M + 0) = nI (dF v) := by rw [← hzz, upd_ne (by omega), upd_ne (by omega), upd_ne (by omega), upd_ne (by omega), upd_ne (by omega), upd_ne (by omega), upd_at, if_pos rfl]
      have hz1 : zz (80 + 10 * M + 1) = nI (dA v) := by rw [← hzz, upd_ne (by omega), upd_ne (by omega), upd_ne (by omega), upd_ne (by omega), upd_ne (by omega), upd_at, if_pos rfl]
      have hz2 : zz (80 + 10 * M + 2) = nI (dT v) := by rw [← hzz, upd_ne (by omega), upd_ne (by omega), upd_ne (by omega), upd_ne (by omega), upd_at, if_pos rfl]
      have hz3 : zz (80 + 10 * M + 3) = nI (dB v) := by rw [← hzz, upd_ne (by omega), upd_ne (by omega), upd_ne (by omega), upd_at, if_pos rfl]
      have hz4n : zz (80 + 10 * M + 4) = nI (dN e v) := by rw [← hzz, upd_ne (by omega), upd_ne (by omega), upd_at, if_pos rfl]
      have hz5 : zz (80 + 10 * M + 5) = nI 0 := by rw [← hzz, upd_ne (by omega), upd_at, if_pos rfl]
      have hz6 : zz (80 + 10 * M + 6) = nI 0 := by rw [← hzz, upd_at, if_pos rfl]
      have hzo : ∀ j, j < 80 + 10 * M ∨ 80 + 10 * M + 7 ≤ j → zz j = e j := fun j hj => by rw [← hzz, upd_ne (by omega), upd_ne (by omega), upd_ne (by omega), upd_ne (by omega), upd_ne (by omega), upd_ne (by omega), upd_ne (by omega)]
      have hz4 : zz 4 = nI M := (hzo 4 (by omega)).trans hM4
      clear hzz
      have hzE : Eqv e zz := eqv_new hI (by omega) (fun j hj => hzo j (by omega))
      have hIz := hzE.inv hI
      have hRz := hzE.R
      have hL : LwC D cs a zz (vp_updL (vp_updL g (2 * M) (lN (0))) (2 * M + 1) (lN (0))) H := hL
      refine lv_iconst (v := nI 0) hx hb dL_told_185 (by decide) ?_
      refine lv_istore (lv' := [(8, .int (nI (0))), (7, .int (nI (moN e v))), (6, .int (nI (8 * M))), (0, .ref (x)), (1, .int (v)), (2, .ref (a)), (3, .ref (a + 2)), (4, .ref (a + 3)), (5, .ref (a + 5))]) hx hb dL_told_186 hl (by decide) rfl (fun ls hl => ?_)
      have J188 : ∀ (fu188 : Nat) (i : Nat) (H : Heap) (locs : List Loc) (ls : Array Slot), (dN e v - i) < fu188 → (i ≤ dN e v) → (HiC D cs (x + 119) nx cn se sg H) → (LwC D cs a zz (vp_updL (vp_updL g (2 * M) (lN (cfN e (dF v) (dA v) i))) (2 * M + 1) (lN (cfN e (dT v) (dB v) i))) H) → (va_at D vwCl (x, .inr (5, [.ref (x + 1), .ref (x + 60), .ref (x + 119), .ref (x + 357)])) H) → (StC D cs (x + 1) e g H) → (StC D cs (x + 60) e1 g1 H) → (va_at D vwCl (x + 357 + 1, .inl (cs 1, 150, .inl b)) H) → (va_at D vwCl (x + 357 + 2, .inl (cs 0, 5, .inl nn)) H) → (va_at D vwCl (x + 357, .inr (0, [.ref (x + 357 + 1), .ref (x + 357 + 2), .ref (wd), .int (nI (ln)), .int (nI (pa)), .int (ft)])) H) → va_S ((fun y9 => (x ≤ y9 ∧ y9 < x + 360) ∨ (a ≤ y9 ∧ y9 < a + 6))) s.heap H locs → lv_has ls 9 [(0, .ref (x)), (1, .int (v)), (2, .ref (a)), (3, .ref (a + 2)), (4, .ref (a + 3)), (5, .ref (a + 5)), (6, .int (nI (8 * M))), (7, .int (nI (moN e v))), (8, .int (nI (i)))] → W p l en ({ frames := 5, cells := 0, slots := 0, locals := 137 } : Room) s m args below meth c H locs 0 0 (MQ below (QcM (some (.int (bI (true)))) (fun H => (HrC D cs x ((pmT e v)) ((pmH e g v)) e1 g1 (((nx + 1) % 4)) ((min (cn + 1) 4)) ((hsE se nx (cfF (se nx) e))) ((hsG sg nx (cgM (sg nx) g (Mn e)))) b nn wd ln pa ft H ∧ LwC D cs a (pmT e v) (pmH e g v) H)) (fun y9 => (x ≤ y9 ∧ y9 < x + 360) ∨ (a ≤ y9 ∧ y9 < a + 6))) args s 0 0 ((fun y9 => (x ≤ y9 ∧ y9 < x + 360) ∨ (a ≤ y9 ∧ y9 < a + 6)))) (F0 m 188 ls []) := by
        intro fu188; induction fu188 with
        | zero => intro i H locs ls hmu188 hi hWhi hL hWro hM hM2 hWtb hWtn hWto hS hl; exact absurd hmu188 (Nat.not_lt_zero _)
        | succ fu188 ih188 =>
          intro i H locs ls hmu188 hi hWhi hL hWro hM hM2 hWtb hWtn hWto hS hl
          refine lv_iload hx hb dL_told_188 (lv_at hl 8 rfl) ?_
          refine lv_aload hx hb dL_told_190 (lv_at hl 4 rfl) ?_
          refine lv_iload hx hb dL_told_192 (lv_at hl 6 rfl) ?_
          refine lv_iconst (v := nI 4) hx hb dL_told_194 (by decide) ?_
          refine kn_add hx hb dL_told_195 ?_
          refine kx_iald (i := 8 * M + 4) hx hb hK hL.mv 0 rfl (by omega) (by decide) dL_told_196 ?_
          refine kx_ci (x := mvF zz (8 * M + 4)) (y := nI (dN e v)) (Eq.trans (mvF_lo zz M (p := 4) (by omega)) hz4n) ?_
          refine kn_icmp_ge (tgt := 274) hx hb dL_told_197 (by decide) (by omega) (by omega) (fun c_2 => ?_) (fun c_2 => ?_)
          · have hii : i = dN e v := by omega
            rw [hii] at hL
            have hL : LwC D cs a zz (vp_updL (vp_updL g (2 * M) (lN (cfN e (dF v) (dA v) (dN e v)))) (2 * M + 1) (lN (cfN e (dT v) (dB v) (dN e v)))) H := hL
            refine lv_aload_n hx hb dL_told_274 rfl (lv_at hl 2 rfl) ?_
            refine lv_iconst (v := nI 0) hx hb dL_told_275 (by decide) ?_
            refine lv_dup2_11 hx hb dL_told_276 rfl rfl ?_
            refine kx_iald (i := 0) hx hb hK hL.q 0 rfl (by omega) (by decide) dL_told_277 ?_
            refine kx_ci (x := qF zz 0) (y := nI (M)) (Eq.trans (show qF zz 0 = zz 4 from rfl) hz4) ?_
            refine lv_iconst (v := nI 1) hx hb dL_told_278 (by decide) ?_
            refine kn_add hx hb dL_told_279 ?_
            refine kx_iast (i := 0) hx hb hK hL.q hS (Or.inr ⟨by omega, by omega⟩) 0 rfl (by omega) (by decide) dL_told_280 (fun H locs hc hU hS => ?_)
            have hL := hL.put_q (k := 4) (by decide) hc hU
            have hWhi := hWhi.off hU (by omega)
            have hWro := hWro.kept (hU.2 _ (by omega))
            have hM := hM.off hU (by omega)
            have hM2 := hM2.off hU (by omega)
            have hWtb := hWtb.kept (hU.2 _ (by omega))
            have hWtn := hWtn.kept (hU.2 _ (by omega))
            have hWto := hWto.kept (hU.2 _ (by omega))
            clear hc hU
            have hL : LwC D cs a (upd zz 4 (nI (M + 1))) (vp_updL (vp_updL g (2 * M) (lN (cfN e (dF v) (dA v) (dN e v)))) (2 * M + 1) (lN (cfN e (dT v) (dB v) (dN e v)))) H := hL
            refine lv_aload_n hx hb dL_told_281 rfl (lv_at hl 0 rfl) ?_
            refine lv_aload hx hb dL_told_282 (lv_at hl 4 rfl) ?_
            refine lv_iload hx hb dL_told_284 (lv_at hl 6 rfl) ?_
            refine kx_iald (i := 8 * M) hx hb hK hL.mv 0 rfl (by omega) (by decide) dL_told_286 ?_
            refine kx_ci (x := mvF (upd zz 4 (nI (M + 1))) (8 * M)) (y := nI (dF v)) (Eq.trans (mvF_lo (upd zz 4 (nI (M + 1))) M (p := 0) (by omega)) (Eq.trans (by rw [upd_ne (by omega)]) hz0)) ?_
            refine lv_aload hx hb dL_told_287 (lv_at hl 4 rfl) ?_
            refine lv_iload hx hb dL_told_289 (lv_at hl 6 rfl) ?_
            refine lv_iconst (v := nI 1) hx hb dL_told_291 (by decide) ?_
            refine kn_add hx hb dL_told_292 ?_
            refine kx_iald (i := 8 * M + 1) hx hb hK hL.mv 0 rfl (by omega) (by decide) dL_told_293 ?_
            refine kx_ci (x := mvF (upd zz 4 (nI (M + 1))) (8 * M + 1)) (y := nI (dA v)) (Eq.trans (mvF_lo (upd zz 4 (nI (M + 1))) M (p := 1) (by omega)) (Eq.trans (by rw [upd_ne (by omega)]) hz1)) ?_
            refine lv_aload hx hb dL_told_294 (lv_at hl 4 rfl) ?_
            refine lv_iload hx hb dL_told_296 (lv_at hl 6 rfl) ?_
            refine lv_iconst (v := nI 2) hx hb dL_told_298 (by decide) ?_
            refine kn_add hx hb dL_told_299 ?_
            refine kx_iald (i := 8 * M + 2) hx hb hK hL.mv 0 rfl (by omega) (by decide) dL_told_300 ?_
            refine kx_ci (x := mvF (upd zz 4 (nI (M + 1))) (8 * M + 2)) (y := nI (dT v)) (Eq.trans (mvF_lo (upd zz 4 (nI (M + 1))) M (p := 2) (by omega)) (Eq.trans (by rw [upd_ne (by omega)]) hz2)) ?_
            refine lv_aload hx hb dL_told_301 (lv_at hl 4 rfl) ?_
            refine lv_iload hx hb dL_told_303 (lv_at hl 6 rfl) ?_
            refine lv_iconst (v := nI 3) hx hb dL_told_305 (by decide) ?_
            refine kn_add hx hb dL_told_306 ?_
            refine kx_iald (i := 8 * M + 3) hx hb hK hL.mv 0 rfl (by omega) (by decide) dL_told_307 ?_
            refine kx_ci (x := mvF (upd zz 4 (nI (M + 1))) (8 * M + 3)) (y := nI (dB v)) (Eq.trans (mvF_lo (upd zz 4 (nI (M + 1))) M (p := 3) (by omega)) (Eq.trans (by rw [upd_ne (by omega)]) hz3)) ?_
            refine lv_aload hx hb dL_told_308 (lv_at hl 4 rfl) ?_
            refine lv_iload hx hb dL_told_310 (lv_at hl 6 rfl) ?_
            refine lv_iconst (v := nI 4) hx hb dL_told_312 (by decide) ?_
            refine kn_add hx hb dL_told_313 ?_
            refine kx_iald (i := 8 * M + 4) hx hb hK hL.mv 0 rfl (by omega) (by decide) dL_told_314 ?_
            refine kx_ci (x := mvF (upd zz 4 (nI (M + 1))) (8 * M + 4)) (y := nI (dN e v)) (Eq.trans (mvF_lo (upd zz 4 (nI (M + 1))) M (p := 4) (by omega)) (Eq.trans (by rw [upd_ne (by omega)]) hz4n)) ?_
            refine kx_retM (va_runV (As := [.int (nI (dF v)), .int (nI (dA v)), .int (nI (dT v)), .int (nI (dB v)), .int (nI (dN e v))]) (rest := []) ⟨hx, hb, hml, hown, hts⟩ (k_X7_move l D cs x e g e1 g1 nx cn se sg b nn wd ln pa ft (dF v) (dA v) (dT v) (dB v) (dN e v) hI hnx hcn hxw (by omega) (by omega) (by omega) (by omega) (by omega) (by omega)) (cwV 5 hts gL_told_X7_move rfl rfl rfl (by decide +kernel) ⟨Nat.le_of_ble_eq_true rfl, Nat.le_of_ble_eq_true rfl⟩) (kx_preV hK hN hWro rfl ⟨hWro, hM, hM2, hWhi, hWto, hWtb, hWtn⟩) rfl rfl hl.1 rfl (lv_room (Nat.le_of_ble_eq_true rfl)) dL_told_315 ⟨Nat.le_of_ble_eq_true rfl, Nat.le_of_ble_eq_true rfl⟩) hS (fun x _ h => (Or.inl h)) (fun x h => (Or.inl h)) (fun H locs hMN hk hS => ?_)
            have hL := hL.frame hk (fun x h1 h2 h => by first | (have h3 := h.1; have h4 := h.2; omega) | (rcases h with h | h <;> first | (have h3 := h.1; have h4 := h.2; omega) | (have h3 : _ ≤ x := h; omega)) | (have h3 : _ ≤ x := h; omega))
            obtain ⟨hWro, hM, hM2, hWhi, hWto, hWtb, hWtn⟩ := hMN
            clear hk
            refine kx_ci (x := nI (Mn e)) (y := nI (M)) (congrArg nI hMM) ?_
            refine lv_aload_n hx hb dL_told_318 rfl (lv_at hl 2 rfl) ?_
            refine lv_iconst (v := nI 0) hx hb dL_told_319 (by decide) ?_
            refine kx_iald (i := 0) hx hb hK hL.q 0 rfl (by omega) (by decide) dL_told_320 ?_
            refine kx_ci (x := qF (upd zz 4 (nI (M + 1))) 0) (y := nI (M + 1)) (Eq.trans (show qF (upd zz 4 (nI (M + 1))) 0 = (upd zz 4 (nI (M + 1))) 4 from rfl) (by rw [upd_at, if_pos rfl])) ?_
            refine lv_iconst (v := nI 1) hx hb dL_told_321 (by decide) ?_
            refine kn_sub hx hb (by omega) dL_told_322 ?_
            refine kn_icmp_ne (tgt := 330) hx hb dL_told_323 (by decide) (by omega) (by omega) (fun c_3 => ?_) (fun c_3 => ?_)
            · omega
            · refine lv_iconst (v := nI 1) hx hb dL_told_326 (by decide) ?_
              refine lv_goto (tgt := 331) hx hb dL_told_327 (by decide) ?_
              exact kx_zretM hx hb hrt hlk rfl ⟨⟨hWro, hM, hM2, hWhi, hWto, hWtb, hWtn⟩, (by have q9 := told_lw (v := v) hB hMM (by omega) hL (fun j hj => hzo j (by omega)) hz0 hz1 hz2 hz3 hz4n hz5 hz6 (hzo _ (by omega)); subst hMM; exact q9)⟩ hS dL_told_331
          · refine lv_aload hx hb dL_told_200 (lv_at hl 5 rfl) ?_
            refine lv_iconst (v := nI 2) hx hb dL_told_202 (by decide) ?_
            refine lv_aload_n hx hb dL_told_203 rfl (lv_at hl 2 rfl) ?_
            refine lv_iconst (v := nI 0) hx hb dL_told_204 (by decide) ?_
            refine kx_iald (i := 0) hx hb hK hL.q 0 rfl (by omega) (by decide) dL_told_205 ?_
            refine kx_ci (x := qF zz 0) (y := nI (M)) (Eq.trans (show qF zz 0 = zz 4 from rfl) hz4) ?_
            refine kn_mul hx hb dL_told_206 ?_
            refine lv_dup2_11 hx hb dL_told_207 rfl rfl ?_
            refine kx_lald (i := 2 * M) hx hb hK hL.ce 5 rfl (by omega) (by decide) dL_told_208 ?_
            refine kx_cl (x := (vp_updL (vp_updL g (2 * M) (lN (cfN e (dF v) (dA v) i))) (2 * M + 1) (lN (cfN e (dT v) (dB v) i))) (2 * M)) (y := lN (cfN e (dF v) (dA v) i)) (gg_0 _ _ _ _) ?_
            refine lv_lconst (v := lN 1) hx hb dL_told_209 rfl ?_
            refine lv_aload hx hb dL_told_210 (lv_at hl 4 rfl) ?_
            refine lv_iload hx hb dL_told_212 (lv_at hl 6 rfl) ?_
            refine kx_iald (i := 8 * M) hx hb hK hL.mv 0 rfl (by omega) (by decide) dL_told_214 ?_
            refine kx_ci (x := mvF zz (8 * M)) (y := nI (dF v)) (Eq.trans (mvF_lo zz M (p := 0) (by omega)) hz0) ?_
            refine lv_aload hx hb dL_told_215 (lv_at hl 4 rfl) ?_
            refine lv_iload hx hb dL_told_217 (lv_at hl 6 rfl) ?_
            refine lv_iconst (v := nI 1) hx hb dL_told_219 (by decide) ?_
            refine kn_add hx hb dL_told_220 ?_
            refine kx_iald (i := 8 * M + 1) hx hb hK hL.mv 0 rfl (by omega) (by decide) dL_told_221 ?_
            refine kx_ci (x := mvF zz (8 * M + 1)) (y := nI (dA v)) (Eq.trans (mvF_lo zz M (p := 1) (by omega)) hz1) ?_
            refine lv_iload hx hb dL_told_222 (lv_at hl 8 rfl) ?_
            refine kn_add hx hb dL_told_224 ?_
            refine lv_aload_n hx hb dL_told_225 rfl (lv_at hl 3 rfl) ?_
            have he1 := hzE.rF (r := dF v) (by omega)
            have he2 := hzE.rL (r := dF v) (by omega)
            have hq48 := rg48 hI (r := dF v) (by omega) (dA v + i)
            refine kx_retP (va_runS (As := [.int (nI (dF v)), .int (nI (dA v + i)), .ref (a + 2)]) (rest := [.long (lN (1)), .long (lN (cfN e (dF v) (dA v) i)), .int (nI (2 * M)), .ref (a + 5)]) ⟨hx, hb, hml, hown, hts⟩ (k_L_place l D cs a zz (vp_updL (vp_updL g (2 * M) (lN (cfN e (dF v) (dA v) i))) (2 * M + 1) (lN (cfN e (dT v) (dB v) i))) (dF v) (dA v + i) hIz (by omega) (by omega) (by omega)) (cwS 3 hts gL_told_L_place rfl rfl rfl (by decide +kernel) ⟨Nat.le_of_ble_eq_true rfl, Nat.le_of_ble_eq_true rfl⟩) (kx_preS hK hN hL) rfl rfl hl.1 rfl (lv_room (Nat.le_of_ble_eq_true rfl)) dL_told_226 ⟨Nat.le_of_ble_eq_true rfl, Nat.le_of_ble_eq_true rfl⟩) ?_
            refine kx_ci (x := nI (rF zz (dF v) + (dA v + i) % rL zz (dF v))) (y := nI (rF e (dF v) + (dA v + i) % rL e (dF v))) (congrArg nI (by rw [he1, he2])) ?_
            refine kl_bit hx hb (by omega) dL_told_229 ?_
            refine kl_or hx hb dL_told_230 ?_
            refine kx_last (i := 2 * M) hx hb hK hL.ce hS (Or.inr ⟨by omega, by omega⟩) 5 rfl (by omega) (by decide) dL_told_231 (fun H locs hc hU hS => ?_)
            have hL := hL.put_ce hc hU
            have hWhi := hWhi.off hU (by omega)
            have hWro := hWro.kept (hU.2 _ (by omega))
            have hM := hM.off hU (by omega)
            have hM2 := hM2.off hU (by omega)
            have hWtb := hWtb.kept (hU.2 _ (by omega))
            have hWtn := hWtn.kept (hU.2 _ (by omega))
            have hWto := hWto.kept (hU.2 _ (by omega))
            clear hc hU
            have hL : LwC D cs a zz (vp_updL (vp_updL (vp_updL g (2 * M) (lN (cfN e (dF v) (dA v) i))) (2 * M + 1) (lN (cfN e (dT v) (dB v) i))) (2 * M) (lN ((cfN e (dF v) (dA v) i) ||| (2 ^ (rF e (dF v) + (dA v + i) % rL e (dF v)))))) H := hL
            refine lv_aload hx hb dL_told_232 (lv_at hl 5 rfl) ?_
            refine lv_iconst (v := nI 2) hx hb dL_told_234 (by decide) ?_
            refine lv_aload_n hx hb dL_told_235 rfl (lv_at hl 2 rfl) ?_
            refine lv_iconst (v := nI 0) hx hb dL_told_236 (by decide) ?_
            refine kx_iald (i := 0) hx hb hK hL.q 0 rfl (by omega) (by decide) dL_told_237 ?_
            refine kx_ci (x := qF zz 0) (y := nI (M)) (Eq.trans (show qF zz 0 = zz 4 from rfl) hz4) ?_
            refine kn_mul hx hb dL_told_238 ?_
            refine lv_iconst (v := nI 1) hx hb dL_told_239 (by decide) ?_
            refine kn_add hx hb dL_told_240 ?_
            refine lv_dup2_11 hx hb dL_told_241 rfl rfl ?_
            refine kx_lald (i := 2 * M + 1) hx hb hK hL.ce 5 rfl (by omega) (by decide) dL_told_242 ?_
            refine kx_cl (x := (vp_updL (vp_updL (vp_updL g (2 * M) (lN (cfN e (dF v) (dA v) i))) (2 * M + 1) (lN (cfN e (dT v) (dB v) i))) (2 * M) (lN ((cfN e (dF v) (dA v) i) ||| (2 ^ (rF e (dF v) + (dA v + i) % rL e (dF v)))))) (2 * M + 1)) (y := lN (cfN e (dT v) (dB v) i)) (gg_1 _ _ _ _ _) ?_
            refine lv_lconst (v := lN 1) hx hb dL_told_243 rfl ?_
            refine lv_aload hx hb dL_told_244 (lv_at hl 4 rfl) ?_
            refine lv_iload hx hb dL_told_246 (lv_at hl 6 rfl) ?_
            refine lv_iconst (v := nI 2) hx hb dL_told_248 (by decide) ?_
            refine kn_add hx hb dL_told_249 ?_
            refine kx_iald (i := 8 * M + 2) hx hb hK hL.mv 0 rfl (by omega) (by decide) dL_told_250 ?_
            refine kx_ci (x := mvF zz (8 * M + 2)) (y := nI (dT v)) (Eq.trans (mvF_lo zz M (p := 2) (by omega)) hz2) ?_
            refine lv_aload hx hb dL_told_251 (lv_at hl 4 rfl) ?_
            refine lv_iload hx hb dL_told_253 (lv_at hl 6 rfl) ?_
            refine lv_iconst (v := nI 3) hx hb dL_told_255 (by decide) ?_
            refine kn_add hx hb dL_told_256 ?_
            refine kx_iald (i := 8 * M + 3) hx hb hK hL.mv 0 rfl (by omega) (by decide) dL_told_257 ?_
            refine kx_ci (x := mvF zz (8 * M + 3)) (y := nI (dB v)) (Eq.trans (mvF_lo zz M (p := 3) (by omega)) hz3) ?_
            refine lv_iload hx hb dL_told_258 (lv_at hl 8 rfl) ?_
            refine kn_add hx hb dL_told_260 ?_
            refine lv_aload_n hx hb dL_told_261 rfl (lv_at hl 3 rfl) ?_
            have he3 := hzE.rF (r := dT v) (by omega)
            have he4 := hzE.rL (r := dT v) (by omega)
            have hp48 := rg48 hI (r := dT v) (by omega) (dB v + i)
            refine kx_retP (va_runS (As := [.int (nI (dT v)), .int (nI (dB v + i)), .ref (a + 2)]) (rest := [.long (lN (1)), .long (lN (cfN e (dT v) (dB v) i)), .int (nI (2 * M + 1)), .ref (a + 5)]) ⟨hx, hb, hml, hown, hts⟩ (k_L_place l D cs a zz (vp_updL (vp_updL (vp_updL g (2 * M) (lN (cfN e (dF v) (dA v) i))) (2 * M + 1) (lN (cfN e (dT v) (dB v) i))) (2 * M) (lN ((cfN e (dF v) (dA v) i) ||| (2 ^ (rF e (dF v) + (dA v + i) % rL e (dF v)))))) (dT v) (dB v + i) (by first | assumption | omega) (by omega) (by omega) (by omega)) (cwS 3 hts gL_told_L_place rfl rfl rfl (by decide +kernel) ⟨Nat.le_of_ble_eq_true rfl, Nat.le_of_ble_eq_true rfl⟩) (kx_preS hK hN hL) rfl rfl hl.1 rfl (lv_room (Nat.le_of_ble_eq_true rfl)) dL_told_262 ⟨Nat.le_of_ble_eq_true rfl, Nat.le_of_ble_eq_true rfl⟩) ?_
            refine kx_ci (x := nI (rF zz (dT v) + (dB v + i) % rL zz (dT v))) (y := nI (rF e (dT v) + (dB v + i) % rL e (dT v))) (congrArg nI (by rw [he3, he4])) ?_
            refine kl_bit hx hb (by omega) dL_told_265 ?_
            refine kl_or hx hb dL_told_266 ?_
            refine kx_last (i := 2 * M + 1) hx hb hK hL.ce hS (Or.inr ⟨by omega, by omega⟩) 5 rfl (by omega) (by decide) dL_told_267 (fun H locs hc hU hS => ?_)
            have hL := hL.put_ce hc hU
            have hWhi := hWhi.off hU (by omega)
            have hWro := hWro.kept (hU.2 _ (by omega))
            have hM := hM.off hU (by omega)
            have hM2 := hM2.off hU (by omega)
            have hWtb := hWtb.kept (hU.2 _ (by omega))
            have hWtn := hWtn.kept (hU.2 _ (by omega))
            have hWto := hWto.kept (hU.2 _ (by omega))
            clear hc hU
            have hL : LwC D cs a zz (vp_updL (vp_updL (vp_updL (vp_updL g (2 * M) (lN (cfN e (dF v) (dA v) i))) (2 * M + 1) (lN (cfN e (dT v) (dB v) i))) (2 * M) (lN ((cfN e (dF v) (dA v) i) ||| (2 ^ (rF e (dF v) + (dA v + i) % rL e (dF v)))))) (2 * M + 1) (lN ((cfN e (dT v) (dB v) i) ||| (2 ^ (rF e (dT v) + (dB v + i) % rL e (dT v)))))) H := hL
            have hL : LwC D cs a zz (vp_updL (vp_updL g (2 * M) (lN (cfN e (dF v) (dA v) (i + 1)))) (2 * M + 1) (lN (cfN e (dT v) (dB v) (i + 1)))) H := (by rw [cfN_s, cfN_s, ← gg_s]; exact hL)
            refine lv_iinc (v := nI (i + 1)) (lv' := [(8, .int (nI (i + 1))), (0, .ref (x)), (1, .int (v)), (2, .ref (a)), (3, .ref (a + 2)), (4, .ref (a + 3)), (5, .ref (a + 5)), (6, .int (nI (8 * M))), (7, .int (nI (moN e v)))]) (k := 8) hx hb dL_told_268 hl rfl (nI_add _ _) (by decide) rfl (fun ls hl => ?_)
            refine lv_goto (tgt := 188) hx hb dL_told_271 (by decide) ?_
            exact ih188 (i + 1) _ _ _ (by omega) (by omega) hWhi hL hWro hM hM2 hWtb hWtn hWto hS (lv_sub hl [1, 2, 3, 4, 5, 6, 7, 8, 0] rfl)
      exact J188 _ 0 _ _ _ (Nat.lt_succ_self _) (by omega) hWhi (by rw [cfN_0, cfN_0]; exact hL) hWro hM hM2 hWtb hWtn hWto hS (lv_sub hl [3, 4, 5, 6, 7, 8, 2, 1, 0] rfl)
    · refine lv_aload_n hx hb dL_told_101 rfl (lv_at hl 4 rfl) ?_
      refine lv_iconst (v := nI 4) hx hb dL_told_102 (by decide) ?_
      refine lv_aload hx hb dL_told_103 (lv_at hl 5 rfl) ?_
      refine lv_iload hx hb dL_told_105 (lv_at hl 0 rfl) ?_
      refine kx_iald (i := 8 * M) hx hb hK hL.mv 0 rfl (by omega) (by decide) dL_told_107 ?_
      refine kx_ci (x := mvF (upd (upd (upd (upd e (80 + 10 * M + 0) (nI (dF v))) (80 + 10 * M + 1) (nI (dA v))) (80 + 10 * M + 2) (nI (dT v))) (80 + 10 * M + 3) (nI (dB v))) (8 * M)) (y := nI (dF v)) (Eq.trans (mvF_lo (upd (upd (upd (upd e (80 + 10 * M + 0) (nI (dF v))) (80 + 10 * M + 1) (nI (dA v))) (80 + 10 * M + 2) (nI (dT v))) (80 + 10 * M + 3) (nI (dB v))) M (p := 0) (by omega)) (by rw [upd_ne (by omega), upd_ne (by omega), upd_ne (by omega), upd_at, if_pos rfl])) ?_
      refine kn_mul hx hb dL_told_108 ?_
      refine lv_iconst (v := nI 1) hx hb dL_told_109 (by decide) ?_
      refine kn_add hx hb dL_told_110 ?_
      refine kx_iald (i := 4 * (dF v) + 1) hx hb hK hL.rg 0 rfl (by omega) (by decide) dL_told_111 ?_
      refine kx_ci (x := (upd (upd (upd (upd e (80 + 10 * M + 0) (nI (dF v))) (80 + 10 * M + 1) (nI (dA v))) (80 + 10 * M + 2) (nI (dT v))) (80 + 10 * M + 3) (nI (dB v))) (56 + (4 * (dF v) + 1))) (y := nI (rL e (dF v))) (Eq.trans (show (upd (upd (upd (upd e (80 + 10 * M + 0) (nI (dF v))) (80 + 10 * M + 1) (nI (dA v))) (80 + 10 * M + 2) (nI (dT v))) (80 + 10 * M + 3) (nI (dB v))) (56 + (4 * (dF v) + 1)) = (upd (upd (upd (upd e (80 + 10 * M + 0) (nI (dF v))) (80 + 10 * M + 1) (nI (dA v))) (80 + 10 * M + 2) (nI (dT v))) (80 + 10 * M + 3) (nI (dB v))) (56 + 4 * (dF v) + 1) from congrArg _ (by omega)) (Eq.trans (by rw [upd_ne (by omega), upd_ne (by omega), upd_ne (by omega), upd_ne (by omega)]) (hI.r1 (by omega)))) ?_
      refine kx_ci (x := nI (rL e (dF v))) (y := nI (moN e v)) (congrArg nI (by unfold moN; rw [if_pos (by omega)])) ?_
      refine lv_goto (tgt := 128) hx hb dL_told_112 (by decide) ?_
      refine lv_istore (lv' := [(7, .int (nI (moN e v))), (6, .int (nI (8 * M))), (0, .ref (x)), (1, .int (v)), (2, .ref (a)), (3, .ref (a + 2)), (4, .ref (a + 3)), (5, .ref (a + 5))]) hx hb dL_told_128 hl (by decide) rfl (fun ls hl => ?_)
      refine lv_aload hx hb dL_told_130 (lv_at hl 6 rfl) ?_
      refine lv_iload hx hb dL_told_132 (lv_at hl 1 rfl) ?_
      refine lv_iconst (v := nI 4) hx hb dL_told_134 (by decide) ?_
      refine kn_add hx hb dL_told_135 ?_
      refine lv_iconst (v := nI 1) hx hb dL_told_136 (by decide) ?_
      refine lv_iload_n hx hb dL_told_137 rfl (lv_at hl 3 rfl) ?_
      refine lv_bipush (v := nI 14) hx hb dL_told_138 (by decide) ?_
      refine lv_ishr hx hb dL_told_140 ?_
      refine lv_iload hx hb dL_told_141 (lv_at hl 0 rfl) ?_
      refine kx_retP (va_runS (As := [.int (v >>> ((nI (14)) &&& 31)), .int (nI (moN e v))]) (rest := [.int (nI (1)), .int (nI (8 * M + 4)), .ref (a + 3)]) ⟨hx, hb, hml, hown, hts⟩ (k_L_low l D cs (v >>> ((nI (14)) &&& 31)) (moN e v) (by omega) (by omega)) (cwS 2 hts gL_told_L_low rfl rfl rfl (by decide +kernel) ⟨Nat.le_of_ble_eq_true rfl, Nat.le_of_ble_eq_true rfl⟩) (kx_preS hK hN trivial) rfl rfl hl.1 rfl (lv_room (Nat.le_of_ble_eq_true rfl)) dL_told_143 ⟨Nat.le_of_ble_eq_true rfl, Nat.le_of_ble_eq_true rfl⟩) ?_
      refine kn_add hx hb dL_told_146 ?_
      refine kx_ci (x := nI (1 + (lowN (v >>> ((nI (14)) &&& 31)) (moN e v)))) (y := nI (dN e v)) rfl ?_
      refine kx_iast (i := 8 * M + 4) hx hb hK hL.mv hS (Or.inr ⟨by omega, by omega⟩) 0 rfl (by omega) (by decide) dL_told_147 (fun H locs hc hU hS => ?_)
      have hL := hL.put_mv (k := M) (p := 4) (by omega) (by decide) hc hU
      have hWhi := hWhi.off hU (by omega)
      have hWro := hWro.kept (hU.2 _ (by omega))
      have hM := hM.off hU (by omega)
      have hM2 := hM2.off hU (by omega)
      have hWtb := hWtb.kept (hU.2 _ (by omega))
      have hWtn := hWtn.kept (hU.2 _ (by omega))
      have hWto := hWto.kept (hU.2 _ (by omega))
      clear hc hU
      have hL : LwC D cs a (upd (upd (upd (upd (upd e (80 + 10 * M + 0) (nI (dF v))) (80 + 10 * M + 1) (nI (dA v))) (80 + 10 * M + 2) (nI (dT v))) (80 + 10 * M + 3) (nI (dB v))) (80 + 10 * M + 4) (nI (dN e v))) g H := hL
      refine lv_aload hx hb dL_told_148 (lv_at hl 6 rfl) ?_
      refine lv_iload hx hb dL_told_150 (lv_at hl 1 rfl) ?_
      refine lv_iconst (v := nI 5) hx hb dL_told_152 (by decide) ?_
      refine kn_add hx hb dL_told_153 ?_
      refine lv_iconst (v := nI 0) hx hb dL_told_154 (by decide) ?_
      refine kx_iast (i := 8 * M + 5) hx hb hK hL.mv hS (Or.inr ⟨by omega, by omega⟩) 0 rfl (by omega) (by decide) dL_told_155 (fun H locs hc hU hS => ?_)
      have hL := hL.put_mv (k := M) (p := 5) (by omega) (by decide) hc hU
      have hWhi := hWhi.off hU (by omega)
      have hWro := hWro.kept (hU.2 _ (by omega))
      have hM := hM.off hU (by omega)
      have hM2 := hM2.off hU (by omega)
      have hWtb := hWtb.kept (hU.2 _ (by omega))
      have hWtn := hWtn.kept (hU.2 _ (by omega))
      have hWto := hWto.kept (hU.2 _ (by omega))
      clear hc hU
      have hL : LwC D cs a (upd (upd (upd (upd (upd (upd e (80 + 10 * M + 0) (nI (dF v))) (80 + 10 * M + 1) (nI (dA v))) (80 + 10 * M + 2) (nI (dT v))) (80 + 10 * M + 3) (nI (dB v))) (80 + 10 * M + 4) (nI (dN e v))) (80 + 10 * M + 5) (nI (0))) g H := hL
      refine lv_aload hx hb dL_told_156 (lv_at hl 6 rfl) ?_
      refine lv_iload hx hb dL_told_158 (lv_at hl 1 rfl) ?_
      refine lv_bipush (v := nI 6) hx hb dL_told_160 (by decide) ?_
      refine kn_add hx hb dL_told_162 ?_
      refine lv_iconst (v := nI 0) hx hb dL_told_163 (by decide) ?_
      refine kx_iast (i := 8 * M + 6) hx hb hK hL.mv hS (Or.inr ⟨by omega, by omega⟩) 0 rfl (by omega) (by decide) dL_told_164 (fun H locs hc hU hS => ?_)
      have hL := hL.put_mv (k := M) (p := 6) (by omega) (by decide) hc hU
      have hWhi := hWhi.off hU (by omega)
      have hWro := hWro.kept (hU.2 _ (by omega))
      have hM := hM.off hU (by omega)
      have hM2 := hM2.off hU (by omega)
      have hWtb := hWtb.kept (hU.2 _ (by omega))
      have hWtn := hWtn.kept (hU.2 _ (by omega))
      have hWto := hWto.kept (hU.2 _ (by omega))
      clear hc hU
      have hL : LwC D cs a (upd (upd (upd (upd (upd (upd (upd e (80 + 10 * M + 0) (nI (dF v))) (80 + 10 * M + 1) (nI (dA v))) (80 + 10 * M + 2) (nI (dT v))) (80 + 10 * M + 3) (nI (dB v))) (80 + 10 * M + 4) (nI (dN e v))) (80 + 10 * M + 5) (nI (0))) (80 + 10 * M + 6) (nI (0))) g H := hL
      refine lv_aload hx hb dL_told_165 (lv_at hl 7 rfl) ?_
      refine lv_iconst (v := nI 2) hx hb dL_told_167 (by decide) ?_
      refine lv_aload_n hx hb dL_told_168 rfl (lv_at hl 4 rfl) ?_
      refine lv_iconst (v := nI 0) hx hb dL_told_169 (by decide) ?_
      refine kx_iald (i := 0) hx hb hK hL.q 0 rfl (by omega) (by decide) dL_told_170 ?_
      refine kx_ci (x := qF (upd (upd (upd (upd (upd (upd (upd e (80 + 10 * M + 0) (nI (dF v))) (80 + 10 * M + 1) (nI (dA v))) (80 + 10 * M + 2) (nI (dT v))) (80 + 10 * M + 3) (nI (dB v))) (80 + 10 * M + 4) (nI (dN e v))) (80 + 10 * M + 5) (nI (0))) (80 + 10 * M + 6) (nI (0))) 0) (y := nI (M)) (Eq.trans (show qF (upd (upd (upd (upd (upd (upd (upd e (80 + 10 * M + 0) (nI (dF v))) (80 + 10 * M + 1) (nI (dA v))) (80 + 10 * M + 2) (nI (dT v))) (80 + 10 * M + 3) (nI (dB v))) (80 + 10 * M + 4) (nI (dN e v))) (80 + 10 * M + 5) (nI (0))) (80 + 10 * M + 6) (nI (0))) 0 = (upd (upd (upd (upd (upd (upd (upd e (80 + 10 * M + 0) (nI (dF v))) (80 + 10 * M + 1) (nI (dA v))) (80 + 10 * M + 2) (nI (dT v))) (80 + 10 * M + 3) (nI (dB v))) (80 + 10 * M + 4) (nI (dN e v))) (80 + 10 * M + 5) (nI (0))) (80 + 10 * M + 6) (nI (0))) 4 from rfl) (Eq.trans (by rw [upd_ne (by omega), upd_ne (by omega), upd_ne (by omega), upd_ne (by omega), upd_ne (by omega), upd_ne (by omega), upd_ne (by omega)]) hM4)) ?_
      refine kn_mul hx hb dL_told_171 ?_
      refine lv_lconst (v := lN 0) hx hb dL_told_172 rfl ?_
      refine kx_last (i := 2 * M) hx hb hK hL.ce hS (Or.inr ⟨by omega, by omega⟩) 5 rfl (by omega) (by decide) dL_told_173 (fun H locs hc hU hS => ?_)
      have hL := hL.put_ce hc hU
      have hWhi := hWhi.off hU (by omega)
      have hWro := hWro.kept (hU.2 _ (by omega))
      have hM := hM.off hU (by omega)
      have hM2 := hM2.off hU (by omega)
      have hWtb := hWtb.kept (hU.2 _ (by omega))
      have hWtn := hWtn.kept (hU.2 _ (by omega))
      have hWto := hWto.kept (hU.2 _ (by omega))
      clear hc hU
      have hL : LwC D cs a (upd (upd (upd (upd (upd (upd (upd e (80 + 10 * M + 0) (nI (dF v))) (80 + 10 * M + 1) (nI (dA v))) (80 + 10 * M + 2) (nI (dT v))) (80 + 10 * M + 3) (nI (dB v))) (80 + 10 * M + 4) (nI (dN e v))) (80 + 10 * M + 5) (nI (0))) (80 + 10 * M + 6) (nI (0))) (vp_updL g (2 * M) (lN (0))) H := hL
      refine lv_aload hx hb dL_told_174 (lv_at hl 7 rfl) ?_
      refine lv_iconst (v := nI 2) hx hb dL_told_176 (by decide) ?_
      refine lv_aload_n hx hb dL_told_177 rfl (lv_at hl 4 rfl) ?_
      refine lv_iconst (v := nI 0) hx hb dL_told_178 (by decide) ?_
      refine kx_iald (i := 0) hx hb hK hL.q 0 rfl (by omega) (by decide) dL_told_179 ?_
      refine kx_ci (x := qF (upd (upd (upd (upd (upd (upd (upd e (80 + 10 * M + 0) (nI (dF v))) (80 + 10 * M + 1) (nI (dA v))) (80 + 10 * M + 2) (nI (dT v))) (80 + 10 * M + 3) (nI (dB v))) (80 + 10 * M + 4) (nI (dN e v))) (80 + 10 * M + 5) (nI (0))) (80 + 10 * M + 6) (nI (0))) 0) (y := nI (M)) (Eq.trans (show qF (upd (upd (upd (upd (upd (upd (upd e (80 + 10 * M + 0) (nI (dF v))) (80 + 10 * M + 1) (nI (dA v))) (80 + 10 * M + 2) (nI (dT v))) (80 + 10 * M + 3) (nI (dB v))) (80 + 10 * M + 4) (nI (dN e v))) (80 + 10 * M + 5) (nI (0))) (80 + 10 * M + 6) (nI (0))) 0 = (upd (upd (upd (upd (upd (upd (upd e (80 + 10 * M + 0) (nI (dF v))) (80 + 10 * M + 1) (nI (dA v))) (80 + 10 * M + 2) (nI (dT v))) (80 + 10 * M + 3) (nI (dB v))) (80 + 10 * M + 4) (nI (dN e v))) (80 + 10 * M + 5) (nI (0))) (80 + 10 * M + 6) (nI (0))) 4 from rfl) (Eq.trans (by rw [upd_ne (by omega), upd_ne (by omega), upd_ne (by omega), upd_ne (by omega), upd_ne (by omega), upd_ne (by omega), upd_ne (by omega)]) hM4)) ?_
      refine kn_mul hx hb dL_told_180 ?_
      refine lv_iconst (v := nI 1) hx hb dL_told_181 (by decide) ?_
      refine kn_add hx hb dL_told_182 ?_
      refine lv_lconst (v := lN 0) hx hb dL_told_183 rfl ?_
      refine kx_last (i := 2 * M + 1) hx hb hK hL.ce hS (Or.inr ⟨by omega, by omega⟩) 5 rfl (by omega) (by decide) dL_told_184 (fun H locs hc hU hS => ?_)
      have hL := hL.put_ce hc hU
      have hWhi := hWhi.off hU (by omega)
      have hWro := hWro.kept (hU.2 _ (by omega))
      have hM := hM.off hU (by omega)
      have hM2 := hM2.off hU (by omega)
      have hWtb := hWtb.kept (hU.2 _ (by omega))
      have hWtn := hWtn.kept (hU.2 _ (by omega))
      have hWto := hWto.kept (hU.2 _ (by omega))
      clear hc hU
      have hL : LwC D cs a (upd (upd (upd (upd (upd (upd (upd e (80 + 10 * M + 0) (nI (dF v))) (80 + 10 * M + 1) (nI (dA v))) (80 + 10 * M + 2) (nI (dT v))) (80 + 10 * M + 3) (nI (dB v))) (80 + 10 * M + 4) (nI (dN e v))) (80 + 10 * M + 5) (nI (0))) (80 + 10 * M + 6) (nI (0))) (vp_updL (vp_updL g (2 * M) (lN (0))) (2 * M + 1) (lN (0))) H := hL
      obtain ⟨zz, hzz⟩ : ∃ zz, upd (upd (upd (upd (upd (upd (upd e (80 + 10 * M + 0) (nI (dF v))) (80 + 10 * M + 1) (nI (dA v))) (80 + 10 * M + 2) (nI (dT v))) (80 + 10 * M + 3) (nI (dB v))) (80 + 10 * M + 4) (nI (dN e v))) (80 + 10 * M + 5) (nI (0))) (80 + 10 * M + 6) (nI (0)) = zz := ⟨_, rfl⟩
      rw [hzz] at hL
      have hz0 : zz (80 + 10 * M + 0) = nI (dF v) := by rw [← hzz, upd_ne (by omega), upd_ne (by omega), upd_ne (by omega), upd_ne (by omega), upd_ne (by omega), upd_ne (by omega), upd_at, if_pos rfl]
      have hz1 : zz (80 + 10 * M + 1) = nI (dA v) := by rw [← hzz, upd_ne (by omega), upd_ne (by omega), upd_ne (by omega), upd_ne (by omega), upd_ne (by omega), upd_at, if_pos rfl]
      have hz2 : zz (80 + 10 * M + 2) = nI (dT v) := by rw [← hzz, upd_ne (by omega), upd_ne (by omega), upd_ne (by omega), upd_ne (by omega), upd_at, if_pos rfl]
      have hz3 : zz (80 + 10 * M + 3) = nI (dB v) := by rw [← hzz, upd_ne (by omega), upd_ne (by omega), upd_ne (by omega), upd_at, if_pos rfl]
      have hz4n : zz (80 + 10 * M + 4) = nI (dN e v) := by rw [← hzz, upd_ne (by omega), upd_ne (by omega), upd_at, if_pos rfl]
      have hz5 : zz (80 + 10 * M + 5) = nI 0 := by rw [← hzz, upd_ne (by omega), upd_at, if_pos rfl]
      have hz6 : zz (80 + 10 * M + 6) = nI 0 := by rw [← hzz, upd_at, if_pos rfl]
      have hzo : ∀ j, j < 80 + 10 * M ∨ 80 + 10 * M + 7 ≤ j → zz j = e j := fun j hj => by rw [← hzz, upd_ne (by omega), upd_ne (by omega), upd_ne (by omega), upd_ne (by omega), upd_ne (by omega), upd_ne (by omega), upd_ne (by omega)]
      have hz4 : zz 4 = nI M := (hzo 4 (by omega)).trans hM4
      clear hzz
      have hzE : Eqv e zz := eqv_new hI (by omega) (fun j hj => hzo j (by omega))
      have hIz := hzE.inv hI
      have hRz := hzE.R
      have hL : LwC D cs a zz (vp_updL (vp_updL g (2 * M) (lN (0))) (2 * M + 1) (lN (0))) H := hL
      refine lv_iconst (v := nI 0) hx hb dL_told_185 (by decide) ?_
      refine lv_istore (lv' := [(8, .int (nI (0))), (7, .int (nI (moN e v))), (6, .int (nI (8 * M))), (0, .ref (x)), (1, .int (v)), (2, .ref (a)), (3, .ref (a + 2)), (4, .ref (a + 3)), (5, .ref (a + 5))]) hx hb dL_told_186 hl (by decide) rfl (fun ls hl => ?_)
      have J188 : ∀ (fu188 : Nat) (i : Nat) (H : Heap) (locs : List Loc) (ls : Array Slot), (dN e v - i) < fu188 → (i ≤ dN e v) → (HiC D cs (x + 119) nx cn se sg H) → (LwC D cs a zz (vp_updL (vp_updL g (2 * M) (lN (cfN e (dF v) (dA v) i))) (2 * M + 1) (lN (cfN e (dT v) (dB v) i))) H) → (va_at D vwCl (x, .inr (5, [.ref (x + 1), .ref (x + 60), .ref (x + 119), .ref (x + 357)])) H) → (StC D cs (x + 1) e g H) → (StC D cs (x + 60) e1 g1 H) → (va_at D vwCl (x + 357 + 1, .inl (cs 1, 150, .inl b)) H) → (va_at D vwCl (x + 357 + 2, .inl (cs 0, 5, .inl nn)) H) → (va_at D vwCl (x + 357, .inr (0, [.ref (x + 357 + 1), .ref (x + 357 + 2), .ref (wd), .int (nI (ln)), .int (nI (pa)), .int (ft)])) H) → va_S ((fun y9 => (x ≤ y9 ∧ y9 < x + 360) ∨ (a ≤ y9 ∧ y9 < a + 6))) s.heap H locs → lv_has ls 9 [(0, .ref (x)), (1, .int (v)), (2, .ref (a)), (3, .ref (a + 2)), (4, .ref (a + 3)), (5, .ref (a + 5)), (6, .int (nI (8 * M))), (7, .int (nI (moN e v))), (8, .int (nI (i)))] → W p l en ({ frames := 5, cells := 0, slots := 0, locals := 137 } : Room) s m args below meth c H locs 0 0 (MQ below (QcM (some (.int (bI (true)))) (fun H => (HrC D cs x ((pmT e v)) ((pmH e g v)) e1 g1 (((nx + 1) % 4)) ((min (cn + 1) 4)) ((hsE se nx (cfF (se nx) e))) ((hsG sg nx (cgM (sg nx) g (Mn e)))) b nn wd ln pa ft H ∧ LwC D cs a (pmT e v) (pmH e g v) H)) (fun y9 => (x ≤ y9 ∧ y9 < x + 360) ∨ (a ≤ y9 ∧ y9 < a + 6))) args s 0 0 ((fun y9 => (x ≤ y9 ∧ y9 < x + 360) ∨ (a ≤ y9 ∧ y9 < a + 6)))) (F0 m 188 ls []) := by
        intro fu188; induction fu188 with
        | zero => intro i H locs ls hmu188 hi hWhi hL hWro hM hM2 hWtb hWtn hWto hS hl; exact absurd hmu188 (Nat.not_lt_zero _)
        | succ fu188 ih188 =>
          intro i H locs ls hmu188 hi hWhi hL hWro hM hM2 hWtb hWtn hWto hS hl
          refine lv_iload hx hb dL_told_188 (lv_at hl 8 rfl) ?_
          refine lv_aload hx hb dL_told_190 (lv_at hl 4 rfl) ?_
          refine lv_iload hx hb dL_told_192 (lv_at hl 6 rfl) ?_
          refine lv_iconst (v := nI 4) hx hb dL_told_194 (by decide) ?_
          refine kn_add hx hb dL_told_195 ?_
          refine kx_iald (i := 8 * M + 4) hx hb hK hL.mv 0 rfl (by omega) (by decide) dL_told_196 ?_
          refine kx_ci (x := mvF zz (8 * M + 4)) (y := nI (dN e v)) (Eq.trans (mvF_lo zz M (p := 4) (by omega)) hz4n) ?_
          refine kn_icmp_ge (tgt := 274) hx hb dL_told_197 (by decide) (by omega) (by omega) (fun c_4 => ?_) (fun c_4 => ?_)
          · have hii : i = dN e v := by omega
            rw [hii] at hL
            have hL : LwC D cs a zz (vp_updL (vp_updL g (2 * M) (lN (cfN e (dF v) (dA v) (dN e v)))) (2 * M + 1) (lN (cfN e (dT v) (dB v) (dN e v)))) H := hL
            refine lv_aload_n hx hb dL_told_274 rfl (lv_at hl 2 rfl) ?_
            refine lv_iconst (v := nI 0) hx hb dL_told_275 (by decide) ?_
            refine lv_dup2_11 hx hb dL_told_276 rfl rfl ?_
            refine kx_iald (i := 0) hx hb hK hL.q 0 rfl (by omega) (by decide) dL_told_277 ?_
            refine kx_ci (x := qF zz 0) (y := nI (M)) (Eq.trans (show qF zz 0 = zz 4 from rfl) hz4) ?_
            refine lv_iconst (v := nI 1) hx hb dL_told_278 (by decide) ?_
            refine kn_add hx hb dL_told_279 ?_
            refine kx_iast (i := 0) hx hb hK hL.q hS (Or.inr ⟨by omega, by omega⟩) 0 rfl (by omega) (by decide) dL_told_280 (fun H locs hc hU hS => ?_)
            have hL := hL.put_q (k := 4) (by decide) hc hU
            have hWhi := hWhi.off hU (by omega)
            have hWro := hWro.kept (hU.2 _ (by omega))
            have hM := hM.off hU (by omega)
            have hM2 := hM2.off hU (by omega)
            have hWtb := hWtb.kept (hU.2 _ (by omega))
            have hWtn := hWtn.kept (hU.2 _ (by omega))
            have hWto := hWto.kept (hU.2 _ (by omega))
            clear hc hU
            have hL : LwC D cs a (upd zz 4 (nI (M + 1))) (vp_updL (vp_updL g (2 * M) (lN (cfN e (dF v) (dA v) (dN e v)))) (2 * M + 1) (lN (cfN e (dT v) (dB v) (dN e v)))) H := hL
            refine lv_aload_n hx hb dL_told_281 rfl (lv_at hl 0 rfl) ?_
            refine lv_aload hx hb dL_told_282 (lv_at hl 4 rfl) ?_
            refine lv_iload hx hb dL_told_284 (lv_at hl 6 rfl) ?_
            refine kx_iald (i := 8 * M) hx hb hK hL.mv 0 rfl (by omega) (by decide) dL_told_286 ?_
            refine kx_ci (x := mvF (upd zz 4 (nI (M + 1))) (8 * M)) (y := nI (dF v)) (Eq.trans (mvF_lo (upd zz 4 (nI (M + 1))) M (p := 0) (by omega)) (Eq.trans (by rw [upd_ne (by omega)]) hz0)) ?_
            refine lv_aload hx hb dL_told_287 (lv_at hl 4 rfl) ?_
            refine lv_iload hx hb dL_told_289 (lv_at hl 6 rfl) ?_
            refine lv_iconst (v := nI 1) hx hb dL_told_291 (by decide) ?_
            refine kn_add hx hb dL_told_292 ?_
            refine kx_iald (i := 8 * M + 1) hx hb hK hL.mv 0 rfl (by omega) (by decide) dL_told_293 ?_
            refine kx_ci (x := mvF (upd zz 4 (nI (M + 1))) (8 * M + 1)) (y := nI (dA v)) (Eq.trans (mvF_lo (upd zz 4 (nI (M + 1))) M (p := 1) (by omega)) (Eq.trans (by rw [upd_ne (by omega)]) hz1)) ?_
            refine lv_aload hx hb dL_told_294 (lv_at hl 4 rfl) ?_
            refine lv_iload hx hb dL_told_296 (lv_at hl 6 rfl) ?_
            refine lv_iconst (v := nI 2) hx hb dL_told_298 (by decide) ?_
            refine kn_add hx hb dL_told_299 ?_
            refine kx_iald (i := 8 * M + 2) hx hb hK hL.mv 0 rfl (by omega) (by decide) dL_told_300 ?_
            refine kx_ci (x := mvF (upd zz 4 (nI (M + 1))) (8 * M + 2)) (y := nI (dT v)) (Eq.trans (mvF_lo (upd zz 4 (nI (M + 1))) M (p := 2) (by omega)) (Eq.trans (by rw [upd_ne (by omega)]) hz2)) ?_
            refine lv_aload hx hb dL_told_301 (lv_at hl 4 rfl) ?_
            refine lv_iload hx hb dL_told_303 (lv_at hl 6 rfl) ?_
            refine lv_iconst (v := nI 3) hx hb dL_told_305 (by decide) ?_
            refine kn_add hx hb dL_told_306 ?_
            refine kx_iald (i := 8 * M + 3) hx hb hK hL.mv 0 rfl (by omega) (by decide) dL_told_307 ?_
            refine kx_ci (x := mvF (upd zz 4 (nI (M + 1))) (8 * M + 3)) (y := nI (dB v)) (Eq.trans (mvF_lo (upd zz 4 (nI (M + 1))) M (p := 3) (by omega)) (Eq.trans (by rw [upd_ne (by omega)]) hz3)) ?_
            refine lv_aload hx hb dL_told_308 (lv_at hl 4 rfl) ?_
            refine lv_iload hx hb dL_told_310 (lv_at hl 6 rfl) ?_
            refine lv_iconst (v := nI 4) hx hb dL_told_312 (by decide) ?_
            refine kn_add hx hb dL_told_313 ?_
            refine kx_iald (i := 8 * M + 4) hx hb hK hL.mv 0 rfl (by omega) (by decide) dL_told_314 ?_
            refine kx_ci (x := mvF (upd zz 4 (nI (M + 1))) (8 * M + 4)) (y := nI (dN e v)) (Eq.trans (mvF_lo (upd zz 4 (nI (M + 1))) M (p := 4) (by omega)) (Eq.trans (by rw [upd_ne (by omega)]) hz4n)) ?_
            refine kx_retM (va_runV (As := [.int (nI (dF v)), .int (nI (dA v)), .int (nI (dT v)), .int (nI (dB v)), .int (nI (dN e v))]) (rest := []) ⟨hx, hb, hml, hown, hts⟩ (k_X7_move l D cs x e g e1 g1 nx cn se sg b nn wd ln pa ft (dF v) (dA v) (dT v) (dB v) (dN e v) hI hnx hcn hxw (by omega) (by omega) (by omega) (by omega) (by omega) (by omega)) (cwV 5 hts gL_told_X7_move rfl rfl rfl (by decide +kernel) ⟨Nat.le_of_ble_eq_true rfl, Nat.le_of_ble_eq_true rfl⟩) (kx_preV hK hN hWro rfl ⟨hWro, hM, hM2, hWhi, hWto, hWtb, hWtn⟩) rfl rfl hl.1 rfl (lv_room (Nat.le_of_ble_eq_true rfl)) dL_told_315 ⟨Nat.le_of_ble_eq_true rfl, Nat.le_of_ble_eq_true rfl⟩) hS (fun x _ h => (Or.inl h)) (fun x h => (Or.inl h)) (fun H locs hMN hk hS => ?_)
            have hL := hL.frame hk (fun x h1 h2 h => by first | (have h3 := h.1; have h4 := h.2; omega) | (rcases h with h | h <;> first | (have h3 := h.1; have h4 := h.2; omega) | (have h3 : _ ≤ x := h; omega)) | (have h3 : _ ≤ x := h; omega))
            obtain ⟨hWro, hM, hM2, hWhi, hWto, hWtb, hWtn⟩ := hMN
            clear hk
            refine kx_ci (x := nI (Mn e)) (y := nI (M)) (congrArg nI hMM) ?_
            refine lv_aload_n hx hb dL_told_318 rfl (lv_at hl 2 rfl) ?_
            refine lv_iconst (v := nI 0) hx hb dL_told_319 (by decide) ?_
            refine kx_iald (i := 0) hx hb hK hL.q 0 rfl (by omega) (by decide) dL_told_320 ?_
            refine kx_ci (x := qF (upd zz 4 (nI (M + 1))) 0) (y := nI (M + 1)) (Eq.trans (show qF (upd zz 4 (nI (M + 1))) 0 = (upd zz 4 (nI (M + 1))) 4 from rfl) (by rw [upd_at, if_pos rfl])) ?_
            refine lv_iconst (v := nI 1) hx hb dL_told_321 (by decide) ?_
            refine kn_sub hx hb (by omega) dL_told_322 ?_
            refine kn_icmp_ne (tgt := 330) hx hb dL_told_323 (by decide) (by omega) (by omega) (fun c_5 => ?_) (fun c_5 => ?_)
            · omega
            · refine lv_iconst (v := nI 1) hx hb dL_told_326 (by decide) ?_
              refine lv_goto (tgt := 331) hx hb dL_told_327 (by decide) ?_
              exact kx_zretM hx hb hrt hlk rfl ⟨⟨hWro, hM, hM2, hWhi, hWto, hWtb, hWtn⟩, (by have q9 := told_lw (v := v) hB hMM (by omega) hL (fun j hj => hzo j (by omega)) hz0 hz1 hz2 hz3 hz4n hz5 hz6 (hzo _ (by omega)); subst hMM; exact q9)⟩ hS dL_told_331
          · refine lv_aload hx hb dL_told_200 (lv_at hl 5 rfl) ?_
            refine lv_iconst (v := nI 2) hx hb dL_told_202 (by decide) ?_
            refine lv_aload_n hx hb dL_told_203 rfl (lv_at hl 2 rfl) ?_
            refine lv_iconst (v := nI 0) hx hb dL_told_204 (by decide) ?_
            refine kx_iald (i := 0) hx hb hK hL.q 0 rfl (by omega) (by decide) dL_told_205 ?_
            refine kx_ci (x := qF zz 0) (y := nI (M)) (Eq.trans (show qF zz 0 = zz 4 from rfl) hz4) ?_
            refine kn_mul hx hb dL_told_206 ?_
            refine lv_dup2_11 hx hb dL_told_207 rfl rfl ?_
            refine kx_lald (i := 2 * M) hx hb hK hL.ce 5 rfl (by omega) (by decide) dL_told_208 ?_
            refine kx_cl (x := (vp_updL (vp_updL g (2 * M) (lN (cfN e (dF v) (dA v) i))) (2 * M + 1) (lN (cfN e (dT v) (dB v) i))) (2 * M)) (y := lN (cfN e (dF v) (dA v) i)) (gg_0 _ _ _ _) ?_
            refine lv_lconst (v := lN 1) hx hb dL_told_209 rfl ?_
            refine lv_aload hx hb dL_told_210 (lv_at hl 4 rfl) ?_
            refine lv_iload hx hb dL_told_212 (lv_at hl 6 rfl) ?_
            refine kx_iald (i := 8 * M) hx hb hK hL.mv 0 rfl (by omega) (by decide) dL_told_214 ?_
            refine kx_ci (x := mvF zz (8 * M)) (y := nI (dF v)) (Eq.trans (mvF_lo zz M (p := 0) (by omega)) hz0) ?_
            refine lv_aload hx hb dL_told_215 (lv_at hl 4 rfl) ?_
            refine lv_iload hx hb dL_told_217 (lv_at hl 6 rfl) ?_
            refine lv_iconst (v := nI 1) hx hb dL_told_219 (by decide) ?_
            refine kn_add hx hb dL_told_220 ?_
            refine kx_iald (i := 8 * M + 1) hx hb hK hL.mv 0 rfl (by omega) (by decide) dL_told_221 ?_
            refine kx_ci (x := mvF zz (8 * M + 1)) (y := nI (dA v)) (Eq.trans (mvF_lo zz M (p := 1) (by omega)) hz1) ?_
            refine lv_iload hx hb dL_told_222 (lv_at hl 8 rfl) ?_
            refine kn_add hx hb dL_told_224 ?_
            refine lv_aload_n hx hb dL_told_225 rfl (lv_at hl 3 rfl) ?_
            have he1 := hzE.rF (r := dF v) (by omega)
            have he2 := hzE.rL (r := dF v) (by omega)
            have hq48 := rg48 hI (r := dF v) (by omega) (dA v + i)
            refine kx_retP (va_runS (As := [.int (nI (dF v)), .int (nI (dA v + i)), .ref (a + 2)]) (rest := [.long (lN (1)), .long (lN (cfN e (dF v) (dA v) i)), .int (nI (2 * M)), .ref (a + 5)]) ⟨hx, hb, hml, hown, hts⟩ (k_L_place l D cs a zz (vp_updL (vp_updL g (2 * M) (lN (cfN e (dF v) (dA v) i))) (2 * M + 1) (lN (cfN e (dT v) (dB v) i))) (dF v) (dA v + i) hIz (by omega) (by omega) (by omega)) (cwS 3 hts gL_told_L_place rfl rfl rfl (by decide +kernel) ⟨Nat.le_of_ble_eq_true rfl, Nat.le_of_ble_eq_true rfl⟩) (kx_preS hK hN hL) rfl rfl hl.1 rfl (lv_room (Nat.le_of_ble_eq_true rfl)) dL_told_226 ⟨Nat.le_of_ble_eq_true rfl, Nat.le_of_ble_eq_true rfl⟩) ?_
            refine kx_ci (x := nI (rF zz (dF v) + (dA v + i) % rL zz (dF v))) (y := nI (rF e (dF v) + (dA v + i) % rL e (dF v))) (congrArg nI (by rw [he1, he2])) ?_
            refine kl_bit hx hb (by omega) dL_told_229 ?_
            refine kl_or hx hb dL_told_230 ?_
            refine kx_last (i := 2 * M) hx hb hK hL.ce hS (Or.inr ⟨by omega, by omega⟩) 5 rfl (by omega) (by decide) dL_told_231 (fun H locs hc hU hS => ?_)
            have hL := hL.put_ce hc hU
            have hWhi := hWhi.off hU (by omega)
            have hWro := hWro.kept (hU.2 _ (by omega))
            have hM := hM.off hU (by omega)
            have hM2 := hM2.off hU (by omega)
            have hWtb := hWtb.kept (hU.2 _ (by omega))
            have hWtn := hWtn.kept (hU.2 _ (by omega))
            have hWto := hWto.kept (hU.2 _ (by omega))
            clear hc hU
            have hL : LwC D cs a zz (vp_updL (vp_updL (vp_updL g (2 * M) (lN (cfN e (dF v) (dA v) i))) (2 * M + 1) (lN (cfN e (dT v) (dB v) i))) (2 * M) (lN ((cfN e (dF v) (dA v) i) ||| (2 ^ (rF e (dF v) + (dA v + i) % rL e (dF v)))))) H := hL
            refine lv_aload hx hb dL_told_232 (lv_at hl 5 rfl) ?_
            refine lv_iconst (v := nI 2) hx hb dL_told_234 (by decide) ?_
            refine lv_aload_n hx hb dL_told_235 rfl (lv_at hl 2 rfl) ?_
            refine lv_iconst (v := nI 0) hx hb dL_told_236 (by decide) ?_
            refine kx_iald (i := 0) hx hb hK hL.q 0 rfl (by omega) (by decide) dL_told_237 ?_
            refine kx_ci (x := qF zz 0) (y := nI (M)) (Eq.trans (show qF zz 0 = zz 4 from rfl) hz4) ?_
            refine kn_mul hx hb dL_told_238 ?_
            refine lv_iconst (v := nI 1) hx hb dL_told_239 (by decide) ?_
            refine kn_add hx hb dL_told_240 ?_
            refine lv_dup2_11 hx hb dL_told_241 rfl rfl ?_
            refine kx_lald (i := 2 * M + 1) hx hb hK hL.ce 5 rfl (by omega) (by decide) dL_told_242 ?_
            refine kx_cl (x := (vp_updL (vp_updL (vp_updL g (2 * M) (lN (cfN e (dF v) (dA v) i))) (2 * M + 1) (lN (cfN e (dT v) (dB v) i))) (2 * M) (lN ((cfN e (dF v) (dA v) i) ||| (2 ^ (rF e (dF v) + (dA v + i) % rL e (dF v)))))) (2 * M + 1)) (y := lN (cfN e (dT v) (dB v) i)) (gg_1 _ _ _ _ _) ?_
            refine lv_lconst (v := lN 1) hx hb dL_told_243 rfl ?_
            refine lv_aload hx hb dL_told_244 (lv_at hl 4 rfl) ?_
            refine lv_iload hx hb dL_told_246 (lv_at hl 6 rfl) ?_
            refine lv_iconst (v := nI 2) hx hb dL_told_248 (by decide) ?_
            refine kn_add hx hb dL_told_249 ?_
            refine kx_iald (i := 8 * M + 2) hx hb hK hL.mv 0 rfl (by omega) (by decide) dL_told_250 ?_
            refine kx_ci (x := mvF zz (8 * M + 2)) (y := nI (dT v)) (Eq.trans (mvF_lo zz M (p := 2) (by omega)) hz2) ?_
            refine lv_aload hx hb dL_told_251 (lv_at hl 4 rfl) ?_
            refine lv_iload hx hb dL_told_253 (lv_at hl 6 rfl) ?_
            refine lv_iconst (v := nI 3) hx hb dL_told_255 (by decide) ?_
            refine kn_add hx hb dL_told_256 ?_
            refine kx_iald (i := 8 * M + 3) hx hb hK hL.mv 0 rfl (by omega) (by decide) dL_told_257 ?_
            refine kx_ci (x := mvF zz (8 * M + 3)) (y := nI (dB v)) (Eq.trans (mvF_lo zz M (p := 3) (by omega)) hz3) ?_
            refine lv_iload hx hb dL_told_258 (lv_at hl 8 rfl) ?_
            refine kn_add hx hb dL_told_260 ?_
            refine lv_aload_n hx hb dL_told_261 rfl (lv_at hl 3 rfl) ?_
            have he3 := hzE.rF (r := dT v) (by omega)
            have he4 := hzE.rL (r := dT v) (by omega)
            have hp48 := rg48 hI (r := dT v) (by omega) (dB v + i)
            refine kx_retP (va_runS (As := [.int (nI (dT v)), .int (nI (dB v + i)), .ref (a + 2)]) (rest := [.long (lN (1)), .long (lN (cfN e (dT v) (dB v) i)), .int (nI (2 * M + 1)), .ref (a + 5)]) ⟨hx, hb, hml, hown, hts⟩ (k_L_place l D cs a zz (vp_updL (vp_updL (vp_updL g (2 * M) (lN (cfN e (dF v) (dA v) i))) (2 * M + 1) (lN (cfN e (dT v) (dB v) i))) (2 * M) (lN ((cfN e (dF v) (dA v) i) ||| (2 ^ (rF e (dF v) + (dA v + i) % rL e (dF v)))))) (dT v) (dB v + i) (by first | assumption | omega) (by omega) (by omega) (by omega)) (cwS 3 hts gL_told_L_place rfl rfl rfl (by decide +kernel) ⟨Nat.le_of_ble_eq_true rfl, Nat.le_of_ble_eq_true rfl⟩) (kx_preS hK hN hL) rfl rfl hl.1 rfl (lv_room (Nat.le_of_ble_eq_true rfl)) dL_told_262 ⟨Nat.le_of_ble_eq_true rfl, Nat.le_of_ble_eq_true rfl⟩) ?_
            refine kx_ci (x := nI (rF zz (dT v) + (dB v + i) % rL zz (dT v))) (y := nI (rF e (dT v) + (dB v + i) % rL e (dT v))) (congrArg nI (by rw [he3, he4])) ?_
            refine kl_bit hx hb (by omega) dL_told_265 ?_
            refine kl_or hx hb dL_told_266 ?_
            refine kx_last (i := 2 * M + 1) hx hb hK hL.ce hS (Or.inr ⟨by omega, by omega⟩) 5 rfl (by omega) (by decide) dL_told_267 (fun H locs hc hU hS => ?_)
            have hL := hL.put_ce hc hU
            have hWhi := hWhi.off hU (by omega)
            have hWro := hWro.kept (hU.2 _ (by omega))
            have hM := hM.off hU (by omega)
            have hM2 := hM2.off hU (by omega)
            have hWtb := hWtb.kept (hU.2 _ (by omega))
            have hWtn := hWtn.kept (hU.2 _ (by omega))
            have hWto := hWto.kept (hU.2 _ (by omega))
            clear hc hU
            have hL : LwC D cs a zz (vp_updL (vp_updL (vp_updL (vp_updL g (2 * M) (lN (cfN e (dF v) (dA v) i))) (2 * M + 1) (lN (cfN e (dT v) (dB v) i))) (2 * M) (lN ((cfN e (dF v) (dA v) i) ||| (2 ^ (rF e (dF v) + (dA v + i) % rL e (dF v)))))) (2 * M + 1) (lN ((cfN e (dT v) (dB v) i) ||| (2 ^ (rF e (dT v) + (dB v + i) % rL e (dT v)))))) H := hL
            have hL : LwC D cs a zz (vp_updL (vp_updL g (2 * M) (lN (cfN e (dF v) (dA v) (i + 1)))) (2 * M + 1) (lN (cfN e (dT v) (dB v) (i + 1)))) H := (by rw [cfN_s, cfN_s, ← gg_s]; exact hL)
            refine lv_iinc (v := nI (i + 1)) (lv' := [(8, .int (nI (i + 1))), (0, .ref (x)), (1, .int (v)), (2, .ref (a)), (3, .ref (a + 2)), (4, .ref (a + 3)), (5, .ref (a + 5)), (6, .int (nI (8 * M))), (7, .int (nI (moN e v)))]) (k := 8) hx hb dL_told_268 hl rfl (nI_add _ _) (by decide) rfl (fun ls hl => ?_)
            refine lv_goto (tgt := 188) hx hb dL_told_271 (by decide) ?_
            exact ih188 (i + 1) _ _ _ (by omega) (by omega) hWhi hL hWro hM hM2 hWtb hWtn hWto hS (lv_sub hl [1, 2, 3, 4, 5, 6, 7, 8, 0] rfl)
      exact J188 _ 0 _ _ _ (Nat.lt_succ_self _) (by omega) hWhi (by rw [cfN_0, cfN_0]; exact hL) hWro hM hM2 hWtb hWtn hWto hS (lv_sub hl [3, 4, 5, 6, 7, 8, 2, 1, 0] rfl)
  · omega
