/-! the law's small methods -/
set_option maxHeartbeats 2500000 in
set_option maxRecDepth 100000 in
theorem k_L_low (l : Launch) (D : va_G) (cs : Nat → ClassId) (v : Int32) (k : Nat) (h0 : 0 < k) (hk : k < 2 ^ 31) : Met l yL_low wsL_low ({ frames := 0, cells := 0, slots := 0, locals := 0 } : Room) (PcK D cs [.int (v), .int (nI (k))] (fun H => True)) (QcP (some (.int (nI (lowN v k))))) 0 0 nowhere := by
  refine kx_met (cc := cL_low) (maxL := 2) (ret := (some .int)) (by decide) rfl (Nat.le_of_ble_eq_true rfl) ?_
  intro p en s m args below meth c hx hb hml hrt hts hown hlk hK hN hP ls hl
  have hl : lv_has ls 2 [(0, .int (v)), (1, .int (nI (k)))] := hl
  refine lv_iload_n hx hb dL_low_0 rfl (lv_at hl 0 rfl) ?_
  refine lv_ldc (v := 2147483647) hx hb hown (hts (.constant RL 9 (2147483647)) (by decide +kernel)) dL_low_1 ?_
  refine lv_iand hx hb dL_low_3 ?_
  refine kx_ci (x := v &&& 2147483647) (y := nI (mskN v)) (msk_is v) ?_
  refine lv_iload_n hx hb dL_low_4 rfl (lv_at hl 1 rfl) ?_
  refine kn_rem hx hb (msk_lt v) h0 hk dL_low_5 ?_
  exact kx_iretP hx hb hrt hlk rfl dL_low_6
set_option maxHeartbeats 2500000 in
set_option maxRecDepth 100000 in
theorem k_L_place (l : Launch) (D : va_G) (cs : Nat → ClassId) (a : Nat) (z : Nat → Int32) (g : Nat → Int64) (r k : Nat) (hI : Inv z) (hr : r < Rn z) (hr3 : r < 3) (hk : k < 2 ^ 30) : Met l yL_place wsL_place ({ frames := 0, cells := 0, slots := 0, locals := 0 } : Room) (PcK D cs [.int (nI (r)), .int (nI (k)), .ref (a + 2)] (fun H => LwC D cs a z g H)) (QcP (some (.int (nI (rF z r + k % rL z r))))) 0 0 nowhere := by
  refine kx_met (cc := cL_place) (maxL := 3) (ret := (some .int)) (by decide) rfl (Nat.le_of_ble_eq_true rfl) ?_
  intro p en s m args below meth c hx hb hml hrt hts hown hlk hK hN hP ls hl
  have hl : lv_has ls 3 [(0, .int (nI (r))), (1, .int (nI (k))), (2, .ref (a + 2))] := hl
  have hL := hP
  have h24 := hI.M24
  have h6 := hI.R6
  have hl2 := hI.l2 hr
  have hl16 := hI.l16 hr
  refine lv_aload_n hx hb dL_place_0 rfl (lv_at hl 2 rfl) ?_
  refine lv_iconst (v := nI 4) hx hb dL_place_1 (by decide) ?_
  refine lv_iload_n hx hb dL_place_2 rfl (lv_at hl 0 rfl) ?_
  refine kn_mul hx hb dL_place_3 ?_
  refine kx_iald (i := 4 * r) hx hb hK hL.rg 0 rfl (by omega) (by decide) dL_place_4 ?_
  refine kx_ci (x := z (56 + (4 * r))) (y := nI (rF z r)) (Eq.trans (congrArg z (by omega)) (Inv.r0 hI (by first | assumption | omega))) ?_
  refine lv_iload_n hx hb dL_place_5 rfl (lv_at hl 1 rfl) ?_
  refine lv_aload_n hx hb dL_place_6 rfl (lv_at hl 2 rfl) ?_
  refine lv_iconst (v := nI 4) hx hb dL_place_7 (by decide) ?_
  refine lv_iload_n hx hb dL_place_8 rfl (lv_at hl 0 rfl) ?_
  refine kn_mul hx hb dL_place_9 ?_
  refine lv_iconst (v := nI 1) hx hb dL_place_10 (by decide) ?_
  refine kn_add hx hb dL_place_11 ?_
  refine kx_iald (i := 4 * r + 1) hx hb hK hL.rg 0 rfl (by omega) (by decide) dL_place_12 ?_
  refine kx_ci (x := z (56 + (4 * r + 1))) (y := nI (rL z r)) (Eq.trans (congrArg z (by omega)) (Inv.r1 hI (by first | assumption | omega))) ?_
  refine kn_rem hx hb (by omega) (by omega) (by omega) dL_place_13 ?_
  refine kn_add hx hb dL_place_14 ?_
  exact kx_iretP hx hb hrt hlk rfl dL_place_15
set_option maxHeartbeats 2500000 in
set_option maxRecDepth 100000 in
theorem k_L_waits (l : Launch) (D : va_G) (cs : Nat → ClassId) (a : Nat) (z : Nat → Int32) (g : Nat → Int64) (mv er : Nat) (hI : Inv z) (hG : Msk z g) (hB : LB z) (hm : mv < Mn z) (hm2 : er < Mn z) : Met l yL_waits wsL_waits ({ frames := 0, cells := 0, slots := 0, locals := 0 } : Room) (PcK D cs [.int (nI (mv)), .int (nI (er)), .ref (a + 3), .ref (a + 5)] (fun H => LwC D cs a z g H)) (QcP (some (.int (bI (waB z mv er))))) 0 0 nowhere := by
  refine kx_met (cc := cL_waits) (maxL := 7) (ret := (some .boolean)) (by decide) rfl (Nat.le_of_ble_eq_true rfl) ?_
  intro p en s m args below meth c hx hb hml hrt hts hown hlk hK hN hP ls hl
  have hl : lv_has ls 7 [(0, .int (nI (mv))), (1, .int (nI (er))), (2, .ref (a + 3)), (3, .ref (a + 5))] := hl
  have hL := hP
  have h24 := hI.M24
  have h6 := hI.R6
  have h8 := hB.M8
  have hR3 := hB.R
  have hs3 := hI.s3 hm2
  refine lv_aload_n hx hb dL_waits_0 rfl (lv_at hl 2 rfl) ?_
  refine lv_bipush (v := nI 8) hx hb dL_waits_1 (by decide) ?_
  refine lv_iload_n hx hb dL_waits_3 rfl (lv_at hl 1 rfl) ?_
  refine kn_mul hx hb dL_waits_4 ?_
  refine lv_iconst (v := nI 5) hx hb dL_waits_5 (by decide) ?_
  refine kn_add hx hb dL_waits_6 ?_
  refine kx_iald (i := 8 * er + 5) hx hb hK hL.mv 0 rfl (by omega) (by decide) dL_waits_7 ?_
  refine kx_ci (x := mvF z (8 * er + 5)) (y := nI (mS z er)) (Eq.trans (mvF_lo z er (p := 5) (by omega)) (Inv.m5 hI (by first | assumption | omega))) ?_
  refine lv_istore (lv' := [(4, .int (nI (mS z er))), (0, .int (nI (mv))), (1, .int (nI (er))), (2, .ref (a + 3)), (3, .ref (a + 5))]) hx hb dL_waits_8 hl (by decide) rfl (fun ls hl => ?_)
  have J39 : ∀ (ls : Array Slot), lv_has ls 7 [(0, .int (nI (mv))), (1, .int (nI (er))), (2, .ref (a + 3)), (3, .ref (a + 5)), (4, .int (nI (mS z er)))] → W p l en ({ frames := 0, cells := 0, slots := 0, locals := 0 } : Room) s m args below meth c s.heap [] 0 0 (MQ below (QcP (some (.int (bI (waB z mv er))))) args s 0 0 nowhere) (F0 m 39 ls [.int (bI ((!decide (mS z er = 3) && !decide (csN z false er &&& csN z true mv = 0))))]) := by
    intro ls hl
    refine lv_istore (lv' := [(5, .int (bI ((!decide (mS z er = 3) && !decide (csN z false er &&& csN z true mv = 0))))), (0, .int (nI (mv))), (1, .int (nI (er))), (2, .ref (a + 3)), (3, .ref (a + 5)), (4, .int (nI (mS z er)))]) hx hb dL_waits_39 hl (by decide) rfl (fun ls hl => ?_)
    have J78 : ∀ (ls : Array Slot), lv_has ls 7 [(0, .int (nI (mv))), (1, .int (nI (er))), (2, .ref (a + 3)), (3, .ref (a + 5)), (4, .int (nI (mS z er))), (5, .int (bI ((!decide (mS z er = 3) && !decide (csN z false er &&& csN z true mv = 0)))))] → W p l en ({ frames := 0, cells := 0, slots := 0, locals := 0 } : Room) s m args below meth c s.heap [] 0 0 (MQ below (QcP (some (.int (bI (waB z mv er))))) args s 0 0 nowhere) (F0 m 78 ls [.int (bI ((decide (mS z er ≤ 1) && !decide (csN z true er &&& (csN z false mv ||| csN z true mv) = 0))))]) := by
      intro ls hl
      refine lv_istore (lv' := [(6, .int (bI ((decide (mS z er ≤ 1) && !decide (csN z true er &&& (csN z false mv ||| csN z true mv) = 0))))), (0, .int (nI (mv))), (1, .int (nI (er))), (2, .ref (a + 3)), (3, .ref (a + 5)), (4, .int (nI (mS z er))), (5, .int (bI ((!decide (mS z er = 3) && !decide (csN z false er &&& csN z true mv = 0)))))]) hx hb dL_waits_78 hl (by decide) rfl (fun ls hl => ?_)
      refine lv_iload hx hb dL_waits_80 (lv_at hl 6 rfl) ?_
      refine kb_if_ne (tgt := 90) hx hb dL_waits_82 (by decide) (fun c_1 => ?_) (fun c_1 => ?_)
      · refine lv_iconst (v := nI 1) hx hb dL_waits_90 (by decide) ?_
        refine lv_goto (tgt := 95) hx hb dL_waits_91 (by decide) ?_
        exact kx_zretP hx hb hrt hlk (by rw [← wmB_is hs3]; unfold wmB; first | (simp [bI_t, bI_f, *]; done) | (exfalso; omega) | (exfalso; simp_all; done)) dL_waits_95
      · refine lv_iload hx hb dL_waits_85 (lv_at hl 0 rfl) ?_
        refine kb_if_eq (tgt := 94) hx hb dL_waits_87 (by decide) (fun c_2 => ?_) (fun c_2 => ?_)
        · refine lv_iconst (v := nI 0) hx hb dL_waits_94 (by decide) ?_
          exact kx_zretP hx hb hrt hlk (by rw [← wmB_is hs3]; unfold wmB; first | (simp [bI_t, bI_f, *]; done) | (exfalso; omega) | (exfalso; simp_all; done)) dL_waits_95
        · refine lv_iconst (v := nI 1) hx hb dL_waits_90 (by decide) ?_
          refine lv_goto (tgt := 95) hx hb dL_waits_91 (by decide) ?_
          exact kx_zretP hx hb hrt hlk (by rw [← wmB_is hs3]; unfold wmB; first | (simp [bI_t, bI_f, *]; done) | (exfalso; omega) | (exfalso; simp_all; done)) dL_waits_95
    refine lv_iload hx hb dL_waits_41 (lv_at hl 5 rfl) ?_
    refine lv_iconst (v := nI 2) hx hb dL_waits_43 (by decide) ?_
    refine kn_icmp_ge (tgt := 77) hx hb dL_waits_44 (by decide) (by omega) (by decide) (fun c_3 => ?_) (fun c_3 => ?_)
    · have hn1 : ¬ mS z er ≤ 1 := by omega
      refine lv_iconst (v := nI 0) hx hb dL_waits_77 (by decide) ?_
      refine kx_ci (x := nI (0)) (y := bI ((decide (mS z er ≤ 1) && !decide (csN z true er &&& (csN z false mv ||| csN z true mv) = 0)))) (by first | (simp [bI_t, bI_f, *]; done) | (exfalso; omega) | (exfalso; simp_all; done)) ?_
      exact J78 _ (lv_sub hl [1, 2, 3, 4, 5, 0] rfl)
    · have hn1 : mS z er ≤ 1 := by omega
      refine lv_aload_n hx hb dL_waits_47 rfl (lv_at hl 4 rfl) ?_
      refine lv_iconst (v := nI 2) hx hb dL_waits_48 (by decide) ?_
      refine lv_iload_n hx hb dL_waits_49 rfl (lv_at hl 2 rfl) ?_
      refine kn_mul hx hb dL_waits_50 ?_
      refine lv_iconst (v := nI 1) hx hb dL_waits_51 (by decide) ?_
      refine kn_add hx hb dL_waits_52 ?_
      refine kx_lald (i := 2 * er + 1) hx hb hK hL.ce 5 rfl (by omega) (by decide) dL_waits_53 ?_
      refine kx_cl (x := g (2 * er + 1)) (y := lN (csN z true er)) (hG er (by first | assumption | omega)).2 ?_
      refine lv_aload_n hx hb dL_waits_54 rfl (lv_at hl 4 rfl) ?_
      refine lv_iconst (v := nI 2) hx hb dL_waits_55 (by decide) ?_
      refine lv_iload_n hx hb dL_waits_56 rfl (lv_at hl 1 rfl) ?_
      refine kn_mul hx hb dL_waits_57 ?_
      refine kx_lald (i := 2 * mv) hx hb hK hL.ce 5 rfl (by omega) (by decide) dL_waits_58 ?_
      refine kx_cl (x := g (2 * mv)) (y := lN (csN z false mv)) (hG mv (by first | assumption | omega)).1 ?_
      refine lv_aload_n hx hb dL_waits_59 rfl (lv_at hl 4 rfl) ?_
      refine lv_iconst (v := nI 2) hx hb dL_waits_60 (by decide) ?_
      refine lv_iload_n hx hb dL_waits_61 rfl (lv_at hl 1 rfl) ?_
      refine kn_mul hx hb dL_waits_62 ?_
      refine lv_iconst (v := nI 1) hx hb dL_waits_63 (by decide) ?_
      refine kn_add hx hb dL_waits_64 ?_
      refine kx_lald (i := 2 * mv + 1) hx hb hK hL.ce 5 rfl (by omega) (by decide) dL_waits_65 ?_
      refine kx_cl (x := g (2 * mv + 1)) (y := lN (csN z true mv)) (hG mv (by first | assumption | omega)).2 ?_
      refine kl_or hx hb dL_waits_66 ?_
      refine kl_and hx hb dL_waits_67 ?_
      refine lv_lconst (v := lN 0) hx hb dL_waits_68 rfl ?_
      refine W.lcmp hx hb dL_waits_69 ?_
      refine kl_eq (tgt := 77) hx hb (and_lt (Nat.lt_of_lt_of_le (csN_lt hI hm2 _) (by decide))) (by decide) dL_waits_70 (by decide) (fun c70 => ?_) (fun c70 => ?_)
      · refine lv_iconst (v := nI 0) hx hb dL_waits_77 (by decide) ?_
        refine kx_ci (x := nI (0)) (y := bI ((decide (mS z er ≤ 1) && !decide (csN z true er &&& (csN z false mv ||| csN z true mv) = 0)))) (by first | (simp [bI_t, bI_f, *]; done) | (exfalso; omega) | (exfalso; simp_all; done)) ?_
        exact J78 _ (lv_sub hl [1, 2, 3, 4, 5, 0] rfl)
      · refine lv_iconst (v := nI 1) hx hb dL_waits_73 (by decide) ?_
        refine lv_goto (tgt := 78) hx hb dL_waits_74 (by decide) ?_
        refine kx_ci (x := nI (1)) (y := bI ((decide (mS z er ≤ 1) && !decide (csN z true er &&& (csN z false mv ||| csN z true mv) = 0)))) (by first | (simp [bI_t, bI_f, *]; done) | (exfalso; omega) | (exfalso; simp_all; done)) ?_
        exact J78 _ (lv_sub hl [1, 2, 3, 4, 5, 0] rfl)
  refine lv_iload hx hb dL_waits_10 (lv_at hl 0 rfl) ?_
  refine lv_iconst (v := nI 3) hx hb dL_waits_12 (by decide) ?_
  refine kn_icmp_eq (tgt := 38) hx hb dL_waits_13 (by decide) (by omega) (by decide) (fun c_4 => ?_) (fun c_4 => ?_)
  · refine lv_iconst (v := nI 0) hx hb dL_waits_38 (by decide) ?_
    refine kx_ci (x := nI (0)) (y := bI ((!decide (mS z er = 3) && !decide (csN z false er &&& csN z true mv = 0)))) (by first | (simp [bI_t, bI_f, *]; done) | (exfalso; omega) | (exfalso; simp_all; done)) ?_
    exact J39 _ (lv_sub hl [1, 2, 3, 4, 0] rfl)
  · refine lv_aload_n hx hb dL_waits_16 rfl (lv_at hl 4 rfl) ?_
    refine lv_iconst (v := nI 2) hx hb dL_waits_17 (by decide) ?_
    refine lv_iload_n hx hb dL_waits_18 rfl (lv_at hl 2 rfl) ?_
    refine kn_mul hx hb dL_waits_19 ?_
    refine kx_lald (i := 2 * er) hx hb hK hL.ce 5 rfl (by omega) (by decide) dL_waits_20 ?_
    refine kx_cl (x := g (2 * er)) (y := lN (csN z false er)) (hG er (by first | assumption | omega)).1 ?_
    refine lv_aload_n hx hb dL_waits_21 rfl (lv_at hl 4 rfl) ?_
    refine lv_iconst (v := nI 2) hx hb dL_waits_22 (by decide) ?_
    refine lv_iload_n hx hb dL_waits_23 rfl (lv_at hl 1 rfl) ?_
    refine kn_mul hx hb dL_waits_24 ?_
    refine lv_iconst (v := nI 1) hx hb dL_waits_25 (by decide) ?_
    refine kn_add hx hb dL_waits_26 ?_
    refine kx_lald (i := 2 * mv + 1) hx hb hK hL.ce 5 rfl (by omega) (by decide) dL_waits_27 ?_
    refine kx_cl (x := g (2 * mv + 1)) (y := lN (csN z true mv)) (hG mv (by first | assumption | omega)).2 ?_
    refine kl_and hx hb dL_waits_28 ?_
    refine lv_lconst (v := lN 0) hx hb dL_waits_29 rfl ?_
    refine W.lcmp hx hb dL_waits_30 ?_
    refine kl_eq (tgt := 38) hx hb (and_lt (Nat.lt_of_lt_of_le (csN_lt hI hm2 _) (by decide))) (by decide) dL_waits_31 (by decide) (fun c31 => ?_) (fun c31 => ?_)
    · refine lv_iconst (v := nI 0) hx hb dL_waits_38 (by decide) ?_
      refine kx_ci (x := nI (0)) (y := bI ((!decide (mS z er = 3) && !decide (csN z false er &&& csN z true mv = 0)))) (by first | (simp [bI_t, bI_f, *]; done) | (exfalso; omega) | (exfalso; simp_all; done)) ?_
      exact J39 _ (lv_sub hl [1, 2, 3, 4, 0] rfl)
    · refine lv_iconst (v := nI 1) hx hb dL_waits_34 (by decide) ?_
      refine lv_goto (tgt := 39) hx hb dL_waits_35 (by decide) ?_
      refine kx_ci (x := nI (1)) (y := bI ((!decide (mS z er = 3) && !decide (csN z false er &&& csN z true mv = 0)))) (by first | (simp [bI_t, bI_f, *]; done) | (exfalso; omega) | (exfalso; simp_all; done)) ?_
      exact J39 _ (lv_sub hl [1, 2, 3, 4, 0] rfl)
set_option maxHeartbeats 2500000 in
set_option maxRecDepth 100000 in
theorem k_L_waitsFor (l : Launch) (D : va_G) (cs : Nat → ClassId) (a : Nat) (z : Nat → Int32) (g : Nat → Int64) (mv : Nat) (hI : Inv z) (hG : Msk z g) (hB : LB z) (hm : mv < Mn z) : Met l yL_waitsFor wsL_waitsFor ({ frames := 1, cells := 0, slots := 0, locals := 26 } : Room) (PcK D cs [.int (nI (mv)), .ref (a + 3), .ref (a + 5)] (fun H => LwC D cs a z g H)) (QcP (some (.int (nI (woN z mv))))) 0 0 nowhere := by
  refine kx_met (cc := cL_waitsFor) (maxL := 5) (ret := (some .int)) (by decide) rfl (Nat.le_of_ble_eq_true rfl) ?_
  intro p en s m args below meth c hx hb hml hrt hts hown hlk hK hN hP ls hl
  have hl : lv_has ls 5 [(0, .int (nI (mv))), (1, .ref (a + 3)), (2, .ref (a + 5))] := hl
  have hL := hP
  have h24 := hI.M24
  have h6 := hI.R6
  have h8 := hB.M8
  have hR3 := hB.R
  have hs3 := hI.s3 hm
  refine lv_iconst (v := nI 0) hx hb dL_waitsFor_0 (by decide) ?_
  refine lv_istore_n (lv' := [(3, .int (nI (0))), (0, .int (nI (mv))), (1, .ref (a + 3)), (2, .ref (a + 5))]) hx hb dL_waitsFor_1 rfl hl (by decide) rfl (fun ls hl => ?_)
  refine lv_iconst (v := nI 0) hx hb dL_waitsFor_2 (by decide) ?_
  refine lv_istore (lv' := [(4, .int (nI (0))), (3, .int (nI (0))), (0, .int (nI (mv))), (1, .ref (a + 3)), (2, .ref (a + 5))]) hx hb dL_waitsFor_3 hl (by decide) rfl (fun ls hl => ?_)
  have J5 : ∀ (fu5 : Nat) (k : Nat) (ls : Array Slot), (mv - k) < fu5 → (k ≤ mv) → (k = 0 ∨ mS z mv = 0) → lv_has ls 5 [(0, .int (nI (mv))), (1, .ref (a + 3)), (2, .ref (a + 5)), (3, .int (nI (woK z mv k))), (4, .int (nI (k)))] → W p l en ({ frames := 1, cells := 0, slots := 0, locals := 26 } : Room) s m args below meth c s.heap [] 0 0 (MQ below (QcP (some (.int (nI (woN z mv))))) args s 0 0 nowhere) (F0 m 5 ls []) := by
    intro fu5; induction fu5 with
    | zero => intro k ls hmu5 hk hd hl; exact absurd hmu5 (Nat.not_lt_zero _)
    | succ fu5 ih5 =>
      intro k ls hmu5 hk hd hl
      refine lv_iload hx hb dL_waitsFor_5 (lv_at hl 4 rfl) ?_
      refine lv_iload_n hx hb dL_waitsFor_7 rfl (lv_at hl 0 rfl) ?_
      refine kn_icmp_ge (tgt := 50) hx hb dL_waitsFor_8 (by decide) (by omega) (by omega) (fun c_1 => ?_) (fun c_1 => ?_)
      · refine lv_iload_n hx hb dL_waitsFor_50 rfl (lv_at hl 3 rfl) ?_
        exact kx_iretP hx hb hrt hlk (congrArg nI (woN_ret (by omega) (by omega) (by omega))) dL_waitsFor_51
      · refine lv_aload_n hx hb dL_waitsFor_11 rfl (lv_at hl 1 rfl) ?_
        refine lv_bipush (v := nI 8) hx hb dL_waitsFor_12 (by decide) ?_
        refine lv_iload_n hx hb dL_waitsFor_14 rfl (lv_at hl 0 rfl) ?_
        refine kn_mul hx hb dL_waitsFor_15 ?_
        refine lv_iconst (v := nI 5) hx hb dL_waitsFor_16 (by decide) ?_
        refine kn_add hx hb dL_waitsFor_17 ?_
        refine kx_iald (i := 8 * mv + 5) hx hb hK hL.mv 0 rfl (by omega) (by decide) dL_waitsFor_18 ?_
        refine kx_ci (x := mvF z (8 * mv + 5)) (y := nI (mS z mv)) (Eq.trans (mvF_lo z mv (p := 5) (by omega)) (Inv.m5 hI (by first | assumption | omega))) ?_
        refine kn_if_ne (tgt := 50) hx hb dL_waitsFor_19 (by decide) (by omega) (fun h19 => ?_) (fun h19 => ?_)
        · refine lv_iload_n hx hb dL_waitsFor_50 rfl (lv_at hl 3 rfl) ?_
          exact kx_iretP hx hb hrt hlk (congrArg nI (woN_ret (by omega) (by omega) (by omega))) dL_waitsFor_51
        · refine lv_iload_n hx hb dL_waitsFor_22 rfl (lv_at hl 3 rfl) ?_
          refine lv_iload_n hx hb dL_waitsFor_23 rfl (lv_at hl 0 rfl) ?_
          refine lv_iload hx hb dL_waitsFor_24 (lv_at hl 4 rfl) ?_
          refine lv_aload_n hx hb dL_waitsFor_26 rfl (lv_at hl 1 rfl) ?_
          refine lv_aload_n hx hb dL_waitsFor_27 rfl (lv_at hl 2 rfl) ?_
          refine kx_retP (va_runS (As := [.int (nI (mv)), .int (nI (k)), .ref (a + 3), .ref (a + 5)]) (rest := [.int (nI (woK z mv k))]) ⟨hx, hb, hml, hown, hts⟩ (k_L_waits l D cs a z g mv k hI hG hB (by first | assumption | omega) (by omega)) (cwS 4 hts gL_waitsFor_L_waits rfl rfl rfl (by decide +kernel) ⟨Nat.le_of_ble_eq_true rfl, Nat.le_of_ble_eq_true rfl⟩) (kx_preS hK hN hL) rfl rfl hl.1 rfl (lv_room (Nat.le_of_ble_eq_true rfl)) dL_waitsFor_28 ⟨Nat.le_of_ble_eq_true rfl, Nat.le_of_ble_eq_true rfl⟩) ?_
          refine kb_if_eq (tgt := 41) hx hb dL_waitsFor_31 (by decide) (fun c_2 => ?_) (fun c_2 => ?_)
          · refine lv_iconst (v := nI 0) hx hb dL_waitsFor_41 (by decide) ?_
            refine kn_or hx hb dL_waitsFor_42 ?_
            refine kx_ci (x := nI ((woK z mv k) ||| 0)) (y := nI (woK z mv (k + 1))) (congrArg nI (by rw [woK_s]; simp [*])) ?_
            refine lv_istore_n (lv' := [(3, .int (nI (woK z mv (k + 1)))), (0, .int (nI (mv))), (1, .ref (a + 3)), (2, .ref (a + 5)), (4, .int (nI (k)))]) hx hb dL_waitsFor_43 rfl hl (by decide) rfl (fun ls hl => ?_)
            refine lv_iinc (v := nI (k + 1)) (lv' := [(4, .int (nI (k + 1))), (3, .int (nI (woK z mv (k + 1)))), (0, .int (nI (mv))), (1, .ref (a + 3)), (2, .ref (a + 5))]) (k := 4) hx hb dL_waitsFor_44 hl rfl (nI_add _ _) (by decide) rfl (fun ls hl => ?_)
            refine lv_goto (tgt := 5) hx hb dL_waitsFor_47 (by decide) ?_
            exact ih5 (k + 1) _ (by omega) (by omega) (Or.inr (by omega)) (lv_sub hl [2, 3, 4, 1, 0] rfl)
          · refine lv_iconst (v := nI 1) hx hb dL_waitsFor_34 (by decide) ?_
            refine lv_iload hx hb dL_waitsFor_35 (lv_at hl 4 rfl) ?_
            refine kn_bit hx hb (by omega) dL_waitsFor_37 ?_
            refine lv_goto (tgt := 42) hx hb dL_waitsFor_38 (by decide) ?_
            refine kn_or hx hb dL_waitsFor_42 ?_
            refine kx_ci (x := nI ((woK z mv k) ||| (2 ^ k))) (y := nI (woK z mv (k + 1))) (congrArg nI (by rw [woK_s]; simp [*])) ?_
            refine lv_istore_n (lv' := [(3, .int (nI (woK z mv (k + 1)))), (0, .int (nI (mv))), (1, .ref (a + 3)), (2, .ref (a + 5)), (4, .int (nI (k)))]) hx hb dL_waitsFor_43 rfl hl (by decide) rfl (fun ls hl => ?_)
            refine lv_iinc (v := nI (k + 1)) (lv' := [(4, .int (nI (k + 1))), (3, .int (nI (woK z mv (k + 1)))), (0, .int (nI (mv))), (1, .ref (a + 3)), (2, .ref (a + 5))]) (k := 4) hx hb dL_waitsFor_44 hl rfl (nI_add _ _) (by decide) rfl (fun ls hl => ?_)
            refine lv_goto (tgt := 5) hx hb dL_waitsFor_47 (by decide) ?_
            exact ih5 (k + 1) _ (by omega) (by omega) (Or.inr (by omega)) (lv_sub hl [2, 3, 4, 1, 0] rfl)
  exact J5 _ 0 _ (Nat.lt_succ_self _) (by omega) (Or.inl rfl) (lv_sub hl [2, 3, 4, 1, 0] rfl)
set_option maxHeartbeats 2500000 in
set_option maxRecDepth 100000 in
theorem k_L_reason (l : Launch) (D : va_G) (cs : Nat → ClassId) (a : Nat) (z : Nat → Int32) (g : Nat → Int64) (x : Nat) (hI : Inv z) (hG : Msk z g) (hB : LB z) (hx48 : x < 48) : Met l yL_reason wsL_reason ({ frames := 0, cells := 0, slots := 0, locals := 0 } : Room) (PcK D cs [.int (nI (x)), .ref (a), .ref (a + 3), .ref (a + 5)] (fun H => LwC D cs a z g H)) (QcP (some (.int (nI (rsC z x))))) 0 0 nowhere := by
  refine kx_met (cc := cL_reason) (maxL := 10) (ret := (some .int)) (by decide) rfl (Nat.le_of_ble_eq_true rfl) ?_
  intro p en s m args below meth c hx hb hml hrt hts hown hlk hK hN hP ls hl
  have hl : lv_has ls 10 [(0, .int (nI (x))), (1, .ref (a)), (2, .ref (a + 3)), (3, .ref (a + 5))] := hl
  have hL := hP
  have h24 := hI.M24
  have h6 := hI.R6
  have h8 := hB.M8
  have hR3 := hB.R
  refine lv_iconst (v := nI 0) hx hb dL_reason_0 (by decide) ?_
  refine lv_istore (lv' := [(4, .int (nI (0))), (0, .int (nI (x))), (1, .ref (a)), (2, .ref (a + 3)), (3, .ref (a + 5))]) hx hb dL_reason_1 hl (by decide) rfl (fun ls hl => ?_)
  refine lv_iconst (v := nI 0) hx hb dL_reason_3 (by decide) ?_
  refine lv_istore (lv' := [(5, .int (nI (0))), (4, .int (nI (0))), (0, .int (nI (x))), (1, .ref (a)), (2, .ref (a + 3)), (3, .ref (a + 5))]) hx hb dL_reason_4 hl (by decide) rfl (fun ls hl => ?_)
  have J6 : ∀ (fu6 : Nat) (k : Nat) (ls : Array Slot), (Mn z - k) < fu6 → (k ≤ Mn z) → lv_has ls 10 [(0, .int (nI (x))), (1, .ref (a)), (2, .ref (a + 3)), (3, .ref (a + 5)), (4, .int (nI (rsK z x k % 4))), (5, .int (nI (k)))] → W p l en ({ frames := 0, cells := 0, slots := 0, locals := 0 } : Room) s m args below meth c s.heap [] 0 0 (MQ below (QcP (some (.int (nI (rsC z x))))) args s 0 0 nowhere) (F0 m 6 ls []) := by
    intro fu6; induction fu6 with
    | zero => intro k ls hmu6 hk hl; exact absurd hmu6 (Nat.not_lt_zero _)
    | succ fu6 ih6 =>
      intro k ls hmu6 hk hl
      refine lv_iload hx hb dL_reason_6 (lv_at hl 5 rfl) ?_
      refine lv_aload_n hx hb dL_reason_8 rfl (lv_at hl 1 rfl) ?_
      refine lv_iconst (v := nI 0) hx hb dL_reason_9 (by decide) ?_
      refine kx_iald (i := 0) hx hb hK hL.q 0 rfl (by omega) (by decide) dL_reason_10 ?_
      refine kx_ci (x := qF z 0) (y := nI (Mn z)) (Inv.z4 hI) ?_
      refine kn_icmp_ge (tgt := 161) hx hb dL_reason_11 (by decide) (by omega) (by omega) (fun c_1 => ?_) (fun c_1 => ?_)
      · refine lv_iload hx hb dL_reason_161 (lv_at hl 4 rfl) ?_
        exact kx_iretP hx hb hrt hlk (by unfold rsC; rw [show k = Mn z by omega]) dL_reason_163
      · have hkM : k < Mn z := by omega
        have hs3 := hI.s3 hkM
        refine lv_aload_n hx hb dL_reason_14 rfl (lv_at hl 2 rfl) ?_
        refine lv_bipush (v := nI 8) hx hb dL_reason_15 (by decide) ?_
        refine lv_iload hx hb dL_reason_17 (lv_at hl 5 rfl) ?_
        refine kn_mul hx hb dL_reason_19 ?_
        refine lv_iconst (v := nI 5) hx hb dL_reason_20 (by decide) ?_
        refine kn_add hx hb dL_reason_21 ?_
        refine kx_iald (i := 8 * k + 5) hx hb hK hL.mv 0 rfl (by omega) (by decide) dL_reason_22 ?_
        refine kx_ci (x := mvF z (8 * k + 5)) (y := nI (mS z k)) (Eq.trans (mvF_lo z k (p := 5) (by omega)) (Inv.m5 hI (by first | assumption | omega))) ?_
        refine lv_istore (lv' := [(6, .int (nI (mS z k))), (0, .int (nI (x))), (1, .ref (a)), (2, .ref (a + 3)), (3, .ref (a + 5)), (4, .int (nI (rsK z x k % 4))), (5, .int (nI (k)))]) hx hb dL_reason_23 hl (by decide) rfl (fun ls hl => ?_)
        have J127 : ∀ (ls : Array Slot), lv_has ls 10 [(0, .int (nI (x))), (1, .ref (a)), (2, .ref (a + 3)), (3, .ref (a + 5)), (4, .int (nI (rsK z x k % 4))), (5, .int (nI (k))), (6, .int (nI (mS z k))), (7, .int (bI (rdB z k x))), (8, .int (bI (wrB z k x)))] → W p l en ({ frames := 0, cells := 0, slots := 0, locals := 0 } : Room) s m args below meth c s.heap [] 0 0 (MQ below (QcP (some (.int (nI (rsC z x))))) args s 0 0 nowhere) (F0 m 127 ls [.int (nI (rsM z k x % 4))]) := by
          intro ls hl
          have hr1 := rsM_le z k x
          have hr2 := rsK_le z x k
          have hr3 := rsM_pos z k x
          have hr4 := rsK_pos z x k
          refine lv_istore (lv' := [(9, .int (nI (rsM z k x % 4))), (0, .int (nI (x))), (1, .ref (a)), (2, .ref (a + 3)), (3, .ref (a + 5)), (4, .int (nI (rsK z x k % 4))), (5, .int (nI (k))), (6, .int (nI (mS z k))), (7, .int (bI (rdB z k x))), (8, .int (bI (wrB z k x)))]) hx hb dL_reason_127 hl (by decide) rfl (fun ls hl => ?_)
          refine lv_iload hx hb dL_reason_129 (lv_at hl 0 rfl) ?_
          refine kn_if_le (tgt := 151) hx hb dL_reason_131 (by decide) (by omega) (fun c_2 => ?_) (fun c_2 => ?_)
          · refine lv_iload hx hb dL_reason_151 (lv_at hl 5 rfl) ?_
            refine kx_ci (x := nI (rsK z x k % 4)) (y := nI (rsK z x (k + 1) % 4)) (congrArg nI (by rw [rsK_s]; split <;> omega)) ?_
            refine lv_istore (lv' := [(4, .int (nI (rsK z x (k + 1) % 4))), (9, .int (nI (rsM z k x % 4))), (0, .int (nI (x))), (1, .ref (a)), (2, .ref (a + 3)), (3, .ref (a + 5)), (5, .int (nI (k))), (6, .int (nI (mS z k))), (7, .int (bI (rdB z k x))), (8, .int (bI (wrB z k x)))]) hx hb dL_reason_153 hl (by decide) rfl (fun ls hl => ?_)
            refine lv_iinc (v := nI (k + 1)) (lv' := [(5, .int (nI (k + 1))), (4, .int (nI (rsK z x (k + 1) % 4))), (9, .int (nI (rsM z k x % 4))), (0, .int (nI (x))), (1, .ref (a)), (2, .ref (a + 3)), (3, .ref (a + 5)), (6, .int (nI (mS z k))), (7, .int (bI (rdB z k x))), (8, .int (bI (wrB z k x)))]) (k := 6) hx hb dL_reason_155 hl rfl (nI_add _ _) (by decide) rfl (fun ls hl => ?_)
            refine lv_goto (tgt := 6) hx hb dL_reason_158 (by decide) ?_
            exact ih6 (k + 1) _ (by omega) (by omega) (lv_sub hl [3, 4, 5, 6, 1, 0] rfl)
          · refine lv_iload hx hb dL_reason_134 (lv_at hl 5 rfl) ?_
            refine kn_if_eq (tgt := 146) hx hb dL_reason_136 (by decide) (by omega) (fun c_3 => ?_) (fun c_3 => ?_)
            · refine lv_iload hx hb dL_reason_146 (lv_at hl 0 rfl) ?_
              refine lv_goto (tgt := 153) hx hb dL_reason_148 (by decide) ?_
              refine kx_ci (x := nI (rsM z k x % 4)) (y := nI (rsK z x (k + 1) % 4)) (congrArg nI (by rw [rsK_s]; split <;> omega)) ?_
              refine lv_istore (lv' := [(4, .int (nI (rsK z x (k + 1) % 4))), (9, .int (nI (rsM z k x % 4))), (0, .int (nI (x))), (1, .ref (a)), (2, .ref (a + 3)), (3, .ref (a + 5)), (5, .int (nI (k))), (6, .int (nI (mS z k))), (7, .int (bI (rdB z k x))), (8, .int (bI (wrB z k x)))]) hx hb dL_reason_153 hl (by decide) rfl (fun ls hl => ?_)
              refine lv_iinc (v := nI (k + 1)) (lv' := [(5, .int (nI (k + 1))), (4, .int (nI (rsK z x (k + 1) % 4))), (9, .int (nI (rsM z k x % 4))), (0, .int (nI (x))), (1, .ref (a)), (2, .ref (a + 3)), (3, .ref (a + 5)), (6, .int (nI (mS z k))), (7, .int (bI (rdB z k x))), (8, .int (bI (wrB z k x)))]) (k := 6) hx hb dL_reason_155 hl rfl (nI_add _ _) (by decide) rfl (fun ls hl => ?_)
              refine lv_goto (tgt := 6) hx hb dL_reason_158 (by decide) ?_
              exact ih6 (k + 1) _ (by omega) (by omega) (lv_sub hl [3, 4, 5, 6, 1, 0] rfl)
            · refine lv_iload hx hb dL_reason_139 (lv_at hl 0 rfl) ?_
              refine lv_iload hx hb dL_reason_141 (lv_at hl 5 rfl) ?_
              refine kn_icmp_ge (tgt := 151) hx hb dL_reason_143 (by decide) (by omega) (by omega) (fun c_4 => ?_) (fun c_4 => ?_)
              · refine lv_iload hx hb dL_reason_151 (lv_at hl 5 rfl) ?_
                refine kx_ci (x := nI (rsK z x k % 4)) (y := nI (rsK z x (k + 1) % 4)) (congrArg nI (by rw [rsK_s]; split <;> omega)) ?_
                refine lv_istore (lv' := [(4, .int (nI (rsK z x (k + 1) % 4))), (9, .int (nI (rsM z k x % 4))), (0, .int (nI (x))), (1, .ref (a)), (2, .ref (a + 3)), (3, .ref (a + 5)), (5, .int (nI (k))), (6, .int (nI (mS z k))), (7, .int (bI (rdB z k x))), (8, .int (bI (wrB z k x)))]) hx hb dL_reason_153 hl (by decide) rfl (fun ls hl => ?_)
                refine lv_iinc (v := nI (k + 1)) (lv' := [(5, .int (nI (k + 1))), (4, .int (nI (rsK z x (k + 1) % 4))), (9, .int (nI (rsM z k x % 4))), (0, .int (nI (x))), (1, .ref (a)), (2, .ref (a + 3)), (3, .ref (a + 5)), (6, .int (nI (mS z k))), (7, .int (bI (rdB z k x))), (8, .int (bI (wrB z k x)))]) (k := 6) hx hb dL_reason_155 hl rfl (nI_add _ _) (by decide) rfl (fun ls hl => ?_)
                refine lv_goto (tgt := 6) hx hb dL_reason_158 (by decide) ?_
                exact ih6 (k + 1) _ (by omega) (by omega) (lv_sub hl [3, 4, 5, 6, 1, 0] rfl)
              · refine lv_iload hx hb dL_reason_146 (lv_at hl 0 rfl) ?_
                refine lv_goto (tgt := 153) hx hb dL_reason_148 (by decide) ?_
                refine kx_ci (x := nI (rsM z k x % 4)) (y := nI (rsK z x (k + 1) % 4)) (congrArg nI (by rw [rsK_s]; split <;> omega)) ?_
                refine lv_istore (lv' := [(4, .int (nI (rsK z x (k + 1) % 4))), (9, .int (nI (rsM z k x % 4))), (0, .int (nI (x))), (1, .ref (a)), (2, .ref (a + 3)), (3, .ref (a + 5)), (5, .int (nI (k))), (6, .int (nI (mS z k))), (7, .int (bI (rdB z k x))), (8, .int (bI (wrB z k x)))]) hx hb dL_reason_153 hl (by decide) rfl (fun ls hl => ?_)
                refine lv_iinc (v := nI (k + 1)) (lv' := [(5, .int (nI (k + 1))), (4, .int (nI (rsK z x (k + 1) % 4))), (9, .int (nI (rsM z k x % 4))), (0, .int (nI (x))), (1, .ref (a)), (2, .ref (a + 3)), (3, .ref (a + 5)), (6, .int (nI (mS z k))), (7, .int (bI (rdB z k x))), (8, .int (bI (wrB z k x)))]) (k := 6) hx hb dL_reason_155 hl rfl (nI_add _ _) (by decide) rfl (fun ls hl => ?_)
                refine lv_goto (tgt := 6) hx hb dL_reason_158 (by decide) ?_
                exact ih6 (k + 1) _ (by omega) (by omega) (lv_sub hl [3, 4, 5, 6, 1, 0] rfl)
        have J69 : ∀ (ls : Array Slot), lv_has ls 10 [(0, .int (nI (x))), (1, .ref (a)), (2, .ref (a + 3)), (3, .ref (a + 5)), (4, .int (nI (rsK z x k % 4))), (5, .int (nI (k))), (6, .int (nI (mS z k))), (7, .int (bI (rdB z k x)))] → W p l en ({ frames := 0, cells := 0, slots := 0, locals := 0 } : Room) s m args below meth c s.heap [] 0 0 (MQ below (QcP (some (.int (nI (rsC z x))))) args s 0 0 nowhere) (F0 m 69 ls [.int (bI (wrB z k x))]) := by
          intro ls hl
          refine lv_istore (lv' := [(8, .int (bI (wrB z k x))), (0, .int (nI (x))), (1, .ref (a)), (2, .ref (a + 3)), (3, .ref (a + 5)), (4, .int (nI (rsK z x k % 4))), (5, .int (nI (k))), (6, .int (nI (mS z k))), (7, .int (bI (rdB z k x)))]) hx hb dL_reason_69 hl (by decide) rfl (fun ls hl => ?_)
          refine lv_iload hx hb dL_reason_71 (lv_at hl 7 rfl) ?_
          refine lv_iconst (v := nI 1) hx hb dL_reason_73 (by decide) ?_
          refine kn_icmp_eq (tgt := 83) hx hb dL_reason_74 (by decide) (by omega) (by decide) (fun c_5 => ?_) (fun c_5 => ?_)
          · refine lv_iload hx hb dL_reason_83 (lv_at hl 8 rfl) ?_
            refine kb_if_eq (tgt := 92) hx hb dL_reason_85 (by decide) (fun c_6 => ?_) (fun c_6 => ?_)
            · refine lv_iload hx hb dL_reason_92 (lv_at hl 7 rfl) ?_
              refine kn_if_ne (tgt := 111) hx hb dL_reason_94 (by decide) (by omega) (fun c_7 => ?_) (fun c_7 => ?_)
              · refine lv_iload hx hb dL_reason_111 (lv_at hl 7 rfl) ?_
                refine lv_iconst (v := nI 1) hx hb dL_reason_113 (by decide) ?_
                refine kn_icmp_ne (tgt := 126) hx hb dL_reason_114 (by decide) (by omega) (by decide) (fun c_8 => ?_) (fun c_8 => ?_)
                · refine lv_iconst (v := nI 0) hx hb dL_reason_126 (by decide) ?_
                  refine kx_ci (x := nI (0)) (y := nI (rsM z k x % 4)) (congrArg nI (by first | (simp [rsM, hoB, *]; done) | (exfalso; omega) | (exfalso; simp_all; done))) ?_
                  exact J127 _ (lv_sub hl [1, 2, 3, 4, 5, 6, 7, 8, 0] rfl)
                · refine lv_iload hx hb dL_reason_117 (lv_at hl 0 rfl) ?_
                  refine kb_if_eq (tgt := 126) hx hb dL_reason_119 (by decide) (fun c_9 => ?_) (fun c_9 => ?_)
                  · refine lv_iconst (v := nI 0) hx hb dL_reason_126 (by decide) ?_
                    refine kx_ci (x := nI (0)) (y := nI (rsM z k x % 4)) (congrArg nI (by first | (simp [rsM, hoB, *]; done) | (exfalso; omega) | (exfalso; simp_all; done))) ?_
                    exact J127 _ (lv_sub hl [1, 2, 3, 4, 5, 6, 7, 8, 0] rfl)
                  · refine lv_iconst (v := nI 3) hx hb dL_reason_122 (by decide) ?_
                    refine lv_goto (tgt := 127) hx hb dL_reason_123 (by decide) ?_
                    refine kx_ci (x := nI (3)) (y := nI (rsM z k x % 4)) (congrArg nI (by first | (simp [rsM, hoB, *]; done) | (exfalso; omega) | (exfalso; simp_all; done))) ?_
                    exact J127 _ (lv_sub hl [1, 2, 3, 4, 5, 6, 7, 8, 0] rfl)
              · refine lv_iload hx hb dL_reason_97 (lv_at hl 8 rfl) ?_
                refine kb_if_ne (tgt := 107) hx hb dL_reason_99 (by decide) (fun c_10 => ?_) (fun c_10 => ?_)
                · refine lv_iconst (v := nI 2) hx hb dL_reason_107 (by decide) ?_
                  refine lv_goto (tgt := 127) hx hb dL_reason_108 (by decide) ?_
                  refine kx_ci (x := nI (2)) (y := nI (rsM z k x % 4)) (congrArg nI (by first | (simp [rsM, hoB, *]; done) | (exfalso; omega) | (exfalso; simp_all; done))) ?_
                  exact J127 _ (lv_sub hl [1, 2, 3, 4, 5, 6, 7, 8, 0] rfl)
                · refine lv_iload hx hb dL_reason_102 (lv_at hl 0 rfl) ?_
                  refine kb_if_eq (tgt := 111) hx hb dL_reason_104 (by decide) (fun c_11 => ?_) (fun c_11 => ?_)
                  · refine lv_iload hx hb dL_reason_111 (lv_at hl 7 rfl) ?_
                    refine lv_iconst (v := nI 1) hx hb dL_reason_113 (by decide) ?_
                    refine kn_icmp_ne (tgt := 126) hx hb dL_reason_114 (by decide) (by omega) (by decide) (fun c_12 => ?_) (fun c_12 => ?_)
                    · refine lv_iconst (v := nI 0) hx hb dL_reason_126 (by decide) ?_
                      refine kx_ci (x := nI (0)) (y := nI (rsM z k x % 4)) (congrArg nI (by first | (simp [rsM, hoB, *]; done) | (exfalso; omega) | (exfalso; simp_all; done))) ?_
                      exact J127 _ (lv_sub hl [1, 2, 3, 4, 5, 6, 7, 8, 0] rfl)
                    · refine lv_iload hx hb dL_reason_117 (lv_at hl 0 rfl) ?_
                      refine kb_if_eq (tgt := 126) hx hb dL_reason_119 (by decide) (fun c_13 => ?_) (fun c_13 => ?_)
                      · refine lv_iconst (v := nI 0) hx hb dL_reason_126 (by decide) ?_
                        refine kx_ci (x := nI (0)) (y := nI (rsM z k x % 4)) (congrArg nI (by first | (simp [rsM, hoB, *]; done) | (exfalso; omega) | (exfalso; simp_all; done))) ?_
                        exact J127 _ (lv_sub hl [1, 2, 3, 4, 5, 6, 7, 8, 0] rfl)
                      · refine lv_iconst (v := nI 3) hx hb dL_reason_122 (by decide) ?_
                        refine lv_goto (tgt := 127) hx hb dL_reason_123 (by decide) ?_
                        refine kx_ci (x := nI (3)) (y := nI (rsM z k x % 4)) (congrArg nI (by first | (simp [rsM, hoB, *]; done) | (exfalso; omega) | (exfalso; simp_all; done))) ?_
                        exact J127 _ (lv_sub hl [1, 2, 3, 4, 5, 6, 7, 8, 0] rfl)
                  · refine lv_iconst (v := nI 2) hx hb dL_reason_107 (by decide) ?_
                    refine lv_goto (tgt := 127) hx hb dL_reason_108 (by decide) ?_
                    refine kx_ci (x := nI (2)) (y := nI (rsM z k x % 4)) (congrArg nI (by first | (simp [rsM, hoB, *]; done) | (exfalso; omega) | (exfalso; simp_all; done))) ?_
                    exact J127 _ (lv_sub hl [1, 2, 3, 4, 5, 6, 7, 8, 0] rfl)
            · refine lv_iconst (v := nI 1) hx hb dL_reason_88 (by decide) ?_
              refine lv_goto (tgt := 127) hx hb dL_reason_89 (by decide) ?_
              refine kx_ci (x := nI (1)) (y := nI (rsM z k x % 4)) (congrArg nI (by first | (simp [rsM, hoB, *]; done) | (exfalso; omega) | (exfalso; simp_all; done))) ?_
              exact J127 _ (lv_sub hl [1, 2, 3, 4, 5, 6, 7, 8, 0] rfl)
          · refine lv_iload hx hb dL_reason_77 (lv_at hl 7 rfl) ?_
            refine lv_iconst (v := nI 2) hx hb dL_reason_79 (by decide) ?_
            refine kn_icmp_ne (tgt := 92) hx hb dL_reason_80 (by decide) (by omega) (by decide) (fun c_14 => ?_) (fun c_14 => ?_)
            · refine lv_iload hx hb dL_reason_92 (lv_at hl 7 rfl) ?_
              refine kn_if_ne (tgt := 111) hx hb dL_reason_94 (by decide) (by omega) (fun c_15 => ?_) (fun c_15 => ?_)
              · refine lv_iload hx hb dL_reason_111 (lv_at hl 7 rfl) ?_
                refine lv_iconst (v := nI 1) hx hb dL_reason_113 (by decide) ?_
                refine kn_icmp_ne (tgt := 126) hx hb dL_reason_114 (by decide) (by omega) (by decide) (fun c_16 => ?_) (fun c_16 => ?_)
                · refine lv_iconst (v := nI 0) hx hb dL_reason_126 (by decide) ?_
                  refine kx_ci (x := nI (0)) (y := nI (rsM z k x % 4)) (congrArg nI (by first | (simp [rsM, hoB, *]; done) | (exfalso; omega) | (exfalso; simp_all; done))) ?_
                  exact J127 _ (lv_sub hl [1, 2, 3, 4, 5, 6, 7, 8, 0] rfl)
                · refine lv_iload hx hb dL_reason_117 (lv_at hl 0 rfl) ?_
                  refine kb_if_eq (tgt := 126) hx hb dL_reason_119 (by decide) (fun c_17 => ?_) (fun c_17 => ?_)
                  · refine lv_iconst (v := nI 0) hx hb dL_reason_126 (by decide) ?_
                    refine kx_ci (x := nI (0)) (y := nI (rsM z k x % 4)) (congrArg nI (by first | (simp [rsM, hoB, *]; done) | (exfalso; omega) | (exfalso; simp_all; done))) ?_
                    exact J127 _ (lv_sub hl [1, 2, 3, 4, 5, 6, 7, 8, 0] rfl)
                  · refine lv_iconst (v := nI 3) hx hb dL_reason_122 (by decide) ?_
                    refine lv_goto (tgt := 127) hx hb dL_reason_123 (by decide) ?_
                    refine kx_ci (x := nI (3)) (y := nI (rsM z k x % 4)) (congrArg nI (by first | (simp [rsM, hoB, *]; done) | (exfalso; omega) | (exfalso; simp_all; done))) ?_
                    exact J127 _ (lv_sub hl [1, 2, 3, 4, 5, 6, 7, 8, 0] rfl)
              · refine lv_iload hx hb dL_reason_97 (lv_at hl 8 rfl) ?_
                refine kb_if_ne (tgt := 107) hx hb dL_reason_99 (by decide) (fun c_18 => ?_) (fun c_18 => ?_)
                · refine lv_iconst (v := nI 2) hx hb dL_reason_107 (by decide) ?_
                  refine lv_goto (tgt := 127) hx hb dL_reason_108 (by decide) ?_
                  refine kx_ci (x := nI (2)) (y := nI (rsM z k x % 4)) (congrArg nI (by first | (simp [rsM, hoB, *]; done) | (exfalso; omega) | (exfalso; simp_all; done))) ?_
                  exact J127 _ (lv_sub hl [1, 2, 3, 4, 5, 6, 7, 8, 0] rfl)
                · refine lv_iload hx hb dL_reason_102 (lv_at hl 0 rfl) ?_
                  refine kb_if_eq (tgt := 111) hx hb dL_reason_104 (by decide) (fun c_19 => ?_) (fun c_19 => ?_)
                  · refine lv_iload hx hb dL_reason_111 (lv_at hl 7 rfl) ?_
                    refine lv_iconst (v := nI 1) hx hb dL_reason_113 (by decide) ?_
                    refine kn_icmp_ne (tgt := 126) hx hb dL_reason_114 (by decide) (by omega) (by decide) (fun c_20 => ?_) (fun c_20 => ?_)
                    · refine lv_iconst (v := nI 0) hx hb dL_reason_126 (by decide) ?_
                      refine kx_ci (x := nI (0)) (y := nI (rsM z k x % 4)) (congrArg nI (by first | (simp [rsM, hoB, *]; done) | (exfalso; omega) | (exfalso; simp_all; done))) ?_
                      exact J127 _ (lv_sub hl [1, 2, 3, 4, 5, 6, 7, 8, 0] rfl)
                    · refine lv_iload hx hb dL_reason_117 (lv_at hl 0 rfl) ?_
                      refine kb_if_eq (tgt := 126) hx hb dL_reason_119 (by decide) (fun c_21 => ?_) (fun c_21 => ?_)
                      · refine lv_iconst (v := nI 0) hx hb dL_reason_126 (by decide) ?_
                        refine kx_ci (x := nI (0)) (y := nI (rsM z k x % 4)) (congrArg nI (by first | (simp [rsM, hoB, *]; done) | (exfalso; omega) | (exfalso; simp_all; done))) ?_
                        exact J127 _ (lv_sub hl [1, 2, 3, 4, 5, 6, 7, 8, 0] rfl)
                      · refine lv_iconst (v := nI 3) hx hb dL_reason_122 (by decide) ?_
                        refine lv_goto (tgt := 127) hx hb dL_reason_123 (by decide) ?_
                        refine kx_ci (x := nI (3)) (y := nI (rsM z k x % 4)) (congrArg nI (by first | (simp [rsM, hoB, *]; done) | (exfalso; omega) | (exfalso; simp_all; done))) ?_
                        exact J127 _ (lv_sub hl [1, 2, 3, 4, 5, 6, 7, 8, 0] rfl)
                  · refine lv_iconst (v := nI 2) hx hb dL_reason_107 (by decide) ?_
                    refine lv_goto (tgt := 127) hx hb dL_reason_108 (by decide) ?_
                    refine kx_ci (x := nI (2)) (y := nI (rsM z k x % 4)) (congrArg nI (by first | (simp [rsM, hoB, *]; done) | (exfalso; omega) | (exfalso; simp_all; done))) ?_
                    exact J127 _ (lv_sub hl [1, 2, 3, 4, 5, 6, 7, 8, 0] rfl)
            · refine lv_iload hx hb dL_reason_83 (lv_at hl 8 rfl) ?_
              refine kb_if_eq (tgt := 92) hx hb dL_reason_85 (by decide) (fun c_22 => ?_) (fun c_22 => ?_)
              · refine lv_iload hx hb dL_reason_92 (lv_at hl 7 rfl) ?_
                refine kn_if_ne (tgt := 111) hx hb dL_reason_94 (by decide) (by omega) (fun c_23 => ?_) (fun c_23 => ?_)
                · refine lv_iload hx hb dL_reason_111 (lv_at hl 7 rfl) ?_
                  refine lv_iconst (v := nI 1) hx hb dL_reason_113 (by decide) ?_
                  refine kn_icmp_ne (tgt := 126) hx hb dL_reason_114 (by decide) (by omega) (by decide) (fun c_24 => ?_) (fun c_24 => ?_)
                  · refine lv_iconst (v := nI 0) hx hb dL_reason_126 (by decide) ?_
                    refine kx_ci (x := nI (0)) (y := nI (rsM z k x % 4)) (congrArg nI (by first | (simp [rsM, hoB, *]; done) | (exfalso; omega) | (exfalso; simp_all; done))) ?_
                    exact J127 _ (lv_sub hl [1, 2, 3, 4, 5, 6, 7, 8, 0] rfl)
                  · refine lv_iload hx hb dL_reason_117 (lv_at hl 0 rfl) ?_
                    refine kb_if_eq (tgt := 126) hx hb dL_reason_119 (by decide) (fun c_25 => ?_) (fun c_25 => ?_)
                    · refine lv_iconst (v := nI 0) hx hb dL_reason_126 (by decide) ?_
                      refine kx_ci (x := nI (0)) (y := nI (rsM z k x % 4)) (congrArg nI (by first | (simp [rsM, hoB, *]; done) | (exfalso; omega) | (exfalso; simp_all; done))) ?_
                      exact J127 _ (lv_sub hl [1, 2, 3, 4, 5, 6, 7, 8, 0] rfl)
                    · refine lv_iconst (v := nI 3) hx hb dL_reason_122 (by decide) ?_
                      refine lv_goto (tgt := 127) hx hb dL_reason_123 (by decide) ?_
                      refine kx_ci (x := nI (3)) (y := nI (rsM z k x % 4)) (congrArg nI (by first | (simp [rsM, hoB, *]; done) | (exfalso; omega) | (exfalso; simp_all; done))) ?_
                      exact J127 _ (lv_sub hl [1, 2, 3, 4, 5, 6, 7, 8, 0] rfl)
                · refine lv_iload hx hb dL_reason_97 (lv_at hl 8 rfl) ?_
                  refine kb_if_ne (tgt := 107) hx hb dL_reason_99 (by decide) (fun c_26 => ?_) (fun c_26 => ?_)
                  · refine lv_iconst (v := nI 2) hx hb dL_reason_107 (by decide) ?_
                    refine lv_goto (tgt := 127) hx hb dL_reason_108 (by decide) ?_
                    refine kx_ci (x := nI (2)) (y := nI (rsM z k x % 4)) (congrArg nI (by first | (simp [rsM, hoB, *]; done) | (exfalso; omega) | (exfalso; simp_all; done))) ?_
                    exact J127 _ (lv_sub hl [1, 2, 3, 4, 5, 6, 7, 8, 0] rfl)
                  · refine lv_iload hx hb dL_reason_102 (lv_at hl 0 rfl) ?_
                    refine kb_if_eq (tgt := 111) hx hb dL_reason_104 (by decide) (fun c_27 => ?_) (fun c_27 => ?_)
                    · refine lv_iload hx hb dL_reason_111 (lv_at hl 7 rfl) ?_
                      refine lv_iconst (v := nI 1) hx hb dL_reason_113 (by decide) ?_
                      refine kn_icmp_ne (tgt := 126) hx hb dL_reason_114 (by decide) (by omega) (by decide) (fun c_28 => ?_) (fun c_28 => ?_)
                      · refine lv_iconst (v := nI 0) hx hb dL_reason_126 (by decide) ?_
                        refine kx_ci (x := nI (0)) (y := nI (rsM z k x % 4)) (congrArg nI (by first | (simp [rsM, hoB, *]; done) | (exfalso; omega) | (exfalso; simp_all; done))) ?_
                        exact J127 _ (lv_sub hl [1, 2, 3, 4, 5, 6, 7, 8, 0] rfl)
                      · refine lv_iload hx hb dL_reason_117 (lv_at hl 0 rfl) ?_
                        refine kb_if_eq (tgt := 126) hx hb dL_reason_119 (by decide) (fun c_29 => ?_) (fun c_29 => ?_)
                        · refine lv_iconst (v := nI 0) hx hb dL_reason_126 (by decide) ?_
                          refine kx_ci (x := nI (0)) (y := nI (rsM z k x % 4)) (congrArg nI (by first | (simp [rsM, hoB, *]; done) | (exfalso; omega) | (exfalso; simp_all; done))) ?_
                          exact J127 _ (lv_sub hl [1, 2, 3, 4, 5, 6, 7, 8, 0] rfl)
                        · refine lv_iconst (v := nI 3) hx hb dL_reason_122 (by decide) ?_
                          refine lv_goto (tgt := 127) hx hb dL_reason_123 (by decide) ?_
                          refine kx_ci (x := nI (3)) (y := nI (rsM z k x % 4)) (congrArg nI (by first | (simp [rsM, hoB, *]; done) | (exfalso; omega) | (exfalso; simp_all; done))) ?_
                          exact J127 _ (lv_sub hl [1, 2, 3, 4, 5, 6, 7, 8, 0] rfl)
                    · refine lv_iconst (v := nI 2) hx hb dL_reason_107 (by decide) ?_
                      refine lv_goto (tgt := 127) hx hb dL_reason_108 (by decide) ?_
                      refine kx_ci (x := nI (2)) (y := nI (rsM z k x % 4)) (congrArg nI (by first | (simp [rsM, hoB, *]; done) | (exfalso; omega) | (exfalso; simp_all; done))) ?_
                      exact J127 _ (lv_sub hl [1, 2, 3, 4, 5, 6, 7, 8, 0] rfl)
              · refine lv_iconst (v := nI 1) hx hb dL_reason_88 (by decide) ?_
                refine lv_goto (tgt := 127) hx hb dL_reason_89 (by decide) ?_
                refine kx_ci (x := nI (1)) (y := nI (rsM z k x % 4)) (congrArg nI (by first | (simp [rsM, hoB, *]; done) | (exfalso; omega) | (exfalso; simp_all; done))) ?_
                exact J127 _ (lv_sub hl [1, 2, 3, 4, 5, 6, 7, 8, 0] rfl)
        have J45 : ∀ (ls : Array Slot), lv_has ls 10 [(0, .int (nI (x))), (1, .ref (a)), (2, .ref (a + 3)), (3, .ref (a + 5)), (4, .int (nI (rsK z x k % 4))), (5, .int (nI (k))), (6, .int (nI (mS z k)))] → W p l en ({ frames := 0, cells := 0, slots := 0, locals := 0 } : Room) s m args below meth c s.heap [] 0 0 (MQ below (QcP (some (.int (nI (rsC z x))))) args s 0 0 nowhere) (F0 m 45 ls [.int (bI (rdB z k x))]) := by
          intro ls hl
          refine lv_istore (lv' := [(7, .int (bI (rdB z k x))), (0, .int (nI (x))), (1, .ref (a)), (2, .ref (a + 3)), (3, .ref (a + 5)), (4, .int (nI (rsK z x k % 4))), (5, .int (nI (k))), (6, .int (nI (mS z k)))]) hx hb dL_reason_45 hl (by decide) rfl (fun ls hl => ?_)
          refine lv_aload_n hx hb dL_reason_47 rfl (lv_at hl 4 rfl) ?_
          refine lv_iconst (v := nI 2) hx hb dL_reason_48 (by decide) ?_
          refine lv_iload hx hb dL_reason_49 (lv_at hl 6 rfl) ?_
          refine kn_mul hx hb dL_reason_51 ?_
          refine lv_iconst (v := nI 1) hx hb dL_reason_52 (by decide) ?_
          refine kn_add hx hb dL_reason_53 ?_
          refine kx_lald (i := 2 * k + 1) hx hb hK hL.ce 5 rfl (by omega) (by decide) dL_reason_54 ?_
          refine kx_cl (x := g (2 * k + 1)) (y := lN (csN z true k)) (hG k (by first | assumption | omega)).2 ?_
          refine lv_iload_n hx hb dL_reason_55 rfl (lv_at hl 1 rfl) ?_
          refine kl_shr hx hb (Nat.lt_of_lt_of_le (csN_lt hI hkM _) (by decide)) (by omega) dL_reason_56 ?_
          refine lv_lconst (v := lN 1) hx hb dL_reason_57 rfl ?_
          refine kl_and hx hb dL_reason_58 ?_
          refine lv_lconst (v := lN 1) hx hb dL_reason_59 rfl ?_
          refine W.lcmp hx hb dL_reason_60 ?_
          refine kl_ne (tgt := 68) hx hb (and_lt (Nat.lt_of_le_of_lt (Nat.div_le_self _ _) (Nat.lt_of_lt_of_le (csN_lt hI hkM _) (by decide)))) (by decide) dL_reason_61 (by decide) (fun c61 => ?_) (fun c61 => ?_)
          · refine lv_iconst (v := nI 0) hx hb dL_reason_68 (by decide) ?_
            refine kx_ci (x := nI (0)) (y := bI (wrB z k x)) (by first | exact bit_tgt c61 | exact bit_tgtN c61) ?_
            exact J69 _ (lv_sub hl [1, 2, 3, 4, 5, 6, 7, 0] rfl)
          · refine lv_iconst (v := nI 1) hx hb dL_reason_64 (by decide) ?_
            refine lv_goto (tgt := 69) hx hb dL_reason_65 (by decide) ?_
            refine kx_ci (x := nI (1)) (y := bI (wrB z k x)) (by first | exact bit_tgt c61 | exact bit_tgtN c61) ?_
            exact J69 _ (lv_sub hl [1, 2, 3, 4, 5, 6, 7, 0] rfl)
        refine lv_aload_n hx hb dL_reason_25 rfl (lv_at hl 4 rfl) ?_
        refine lv_iconst (v := nI 2) hx hb dL_reason_26 (by decide) ?_
        refine lv_iload hx hb dL_reason_27 (lv_at hl 6 rfl) ?_
        refine kn_mul hx hb dL_reason_29 ?_
        refine kx_lald (i := 2 * k) hx hb hK hL.ce 5 rfl (by omega) (by decide) dL_reason_30 ?_
        refine kx_cl (x := g (2 * k)) (y := lN (csN z false k)) (hG k (by first | assumption | omega)).1 ?_
        refine lv_iload_n hx hb dL_reason_31 rfl (lv_at hl 1 rfl) ?_
        refine kl_shr hx hb (Nat.lt_of_lt_of_le (csN_lt hI hkM _) (by decide)) (by omega) dL_reason_32 ?_
        refine lv_lconst (v := lN 1) hx hb dL_reason_33 rfl ?_
        refine kl_and hx hb dL_reason_34 ?_
        refine lv_lconst (v := lN 1) hx hb dL_reason_35 rfl ?_
        refine W.lcmp hx hb dL_reason_36 ?_
        refine kl_ne (tgt := 44) hx hb (and_lt (Nat.lt_of_le_of_lt (Nat.div_le_self _ _) (Nat.lt_of_lt_of_le (csN_lt hI hkM _) (by decide)))) (by decide) dL_reason_37 (by decide) (fun c37 => ?_) (fun c37 => ?_)
        · refine lv_iconst (v := nI 0) hx hb dL_reason_44 (by decide) ?_
          refine kx_ci (x := nI (0)) (y := bI (rdB z k x)) (by first | exact bit_src c37 | exact bit_srcN c37) ?_
          exact J45 _ (lv_sub hl [1, 2, 3, 4, 5, 6, 0] rfl)
        · refine lv_iconst (v := nI 1) hx hb dL_reason_40 (by decide) ?_
          refine lv_goto (tgt := 45) hx hb dL_reason_41 (by decide) ?_
          refine kx_ci (x := nI (1)) (y := bI (rdB z k x)) (by first | exact bit_src c37 | exact bit_srcN c37) ?_
          exact J45 _ (lv_sub hl [1, 2, 3, 4, 5, 6, 0] rfl)
  have hl : lv_has ls 10 [(5, .int (nI (0))), (4, .int (nI (rsK z x 0 % 4))), (0, .int (nI (x))), (1, .ref (a)), (2, .ref (a + 3)), (3, .ref (a + 5))] := by rw [show (rsK z x 0 % 4) = (0) from (by show 4 % 4 = 0; decide)]; exact hl
  exact J6 _ 0 _ (Nat.lt_succ_self _) (by omega) (lv_sub hl [2, 3, 4, 5, 1, 0] rfl)
