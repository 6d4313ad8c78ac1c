set_option maxHeartbeats 500000 in
set_option maxRecDepth 100000 in
theorem k_X8_moveOf (l : Launch) (D : va_G) (cs : Nat → ClassId) (a : Nat) (z : Nat → Int32) (x y : Int32) (hZ : InvZ z) : Met l yX8_moveOf wsX8_moveOf ({ frames := 2, cells := 0, slots := 0, locals := 43 } : Room) (PcK D cs [.ref (a), .int (x), .int (y)] (fun H => MdC D (cs 0) a z H)) (QcM (some (.int (if owN z x y = 0 then (t0 z) (80 + 10 * nn x + nn y) else nI 0))) (fun H => MdC D (cs 0) a (upd z 4403 (nI (owN z x y))) H) (rgM a)) 0 0 ((rgM a)) := by
  refine kx_met (cc := cX8_moveOf) (maxL := 3) (ret := (some .int)) (by decide) rfl (Nat.le_of_ble_eq_true rfl) ?_
  intro p e s m args below meth c hx hb hml hrt hts hown hlk hK hN hP ls hl
  have hl : lv_has ls 3 [(0, .ref (a)), (1, .int (x)), (2, .int (y))] := hl
  obtain ⟨H, hHe⟩ : ∃ H : Heap, H = s.heap := ⟨_, rfl⟩
  rw [← hHe] at hP ⊢
  have hS : va_S ((rgM a)) s.heap H [] := by rw [← hHe]; exact va_S.rf
  have hinX8 : ∀ w ∈ wsX80, w ∈ wsX8_moveOf := by decide +kernel
  have hM := hP
  have hI := hZ.1
  refine lv_aload_n hx hb dX8_moveOf_0 rfl (lv_at hl 0 rfl) ?_
  refine lv_aload_n hx hb dX8_moveOf_1 rfl (lv_at hl 0 rfl) ?_
  refine lv_iload_n hx hb dX8_moveOf_2 rfl (lv_at hl 1 rfl) ?_
  refine kx_retP (va_runV (As := [.int (x)]) (rest := [.ref (a)]) ⟨hx, hb, hml, hown, hts⟩ (k_X8_isMove l D cs a z x hI) (cwV 1 hts gX8_moveOf_X8_isMove rfl rfl rfl (by decide +kernel) ⟨Nat.le_of_ble_eq_true rfl, Nat.le_of_ble_eq_true rfl⟩) (kx_preV hK hN hM.1 rfl hM) rfl rfl hl.1 rfl (lv_room (Nat.le_of_ble_eq_true rfl)) dX8_moveOf_3 ⟨Nat.le_of_ble_eq_true rfl, Nat.le_of_ble_eq_true rfl⟩) ?_
  refine kb_if_ne (tgt := 13) hx hb dX8_moveOf_6 (by decide) (fun c_1 => ?_) (fun c_1 => ?_)
  · refine lv_iload_n hx hb dX8_moveOf_13 rfl (lv_at hl 2 rfl) ?_
    refine lv_iconst (v := nI 0) hx hb dX8_moveOf_14 (by decide) ?_
    refine lv_bipush (v := nI 9) hx hb dX8_moveOf_15 (by decide) ?_
    refine kx_retP (va_runS (As := [.int (y), .int (nI (0)), .int (nI (9))]) (rest := [.ref (a)]) ⟨hx, hb, hml, hown, hts⟩ (k_X8_within l D cs y (nI (0)) (nI (9))) (cwS 3 hts gX8_moveOf_X8_within rfl rfl rfl (by decide +kernel) ⟨Nat.le_of_ble_eq_true rfl, Nat.le_of_ble_eq_true rfl⟩) (kx_preS hK hN trivial) rfl rfl hl.1 rfl (lv_room (Nat.le_of_ble_eq_true rfl)) dX8_moveOf_17 ⟨Nat.le_of_ble_eq_true rfl, Nat.le_of_ble_eq_true rfl⟩) ?_
    refine kb_if_eq (tgt := 27) hx hb dX8_moveOf_20 (by decide) (fun c_2 => ?_) (fun c_2 => ?_)
    · refine lv_iconst (v := nI 2) hx hb dX8_moveOf_27 (by decide) ?_
      refine kx_ci (x := nI (2)) (y := nI (owN z x y)) (congrArg nI (by first | (simp [owN, *]; done) | (exfalso; omega) | (exfalso; simp_all; done))) ?_
      refine kx_put hx hb hts hinX8 tyX8_ok nmX8 hown hK hM.1 rfl hS ⟨by omega, by omega⟩ 0 (by decide) (by decide +kernel) rfl rfl rfl (Nat.le_of_ble_eq_true rfl) dX8_moveOf_28 (fun H locs hc hU hS => ?_)
      have hM := hM.put_thrown hc hU
      clear hc hU
      refine lv_aload_n hx hb dX8_moveOf_31 rfl (lv_at hl 0 rfl) ?_
      refine kx_get (v := .int ((upd z 4403 (nI (owN z x y))) 4403)) hx hb hts hinX8 hown hK hM.1 rfl 0 (by decide) (by decide +kernel) rfl dX8_moveOf_32 ?_
      refine kx_ci (y := nI (owN z x y)) pk_us ?_
      refine kn_if_le (tgt := 42) hx hb dX8_moveOf_35 (by decide) (lt31 (owN_2 _ _ _)) (fun hw0 => ?_) (fun hw0 => ?_)
      · rw [hw0] at hM
        obtain ⟨q, w, hq, hw, rfl, rfl⟩ := owN_0 hI hw0
        have hnq : nn (nI q) = q := nn_nI (by have := hI.M24; have := hI.R6; omega)
        have hnw : nn (nI w) = w := nn_nI (by omega)
        have hq24 : q < 24 := by have := hI.M24; omega
        refine lv_aload_n hx hb dX8_moveOf_42 rfl (lv_at hl 0 rfl) ?_
        refine lv_iload_n hx hb dX8_moveOf_43 rfl (lv_at hl 1 rfl) ?_
        refine lv_iload_n hx hb dX8_moveOf_44 rfl (lv_at hl 2 rfl) ?_
        refine kx_retP (va_runV (As := [.int (nI (q)), .int (nI (w))]) (rest := []) ⟨hx, hb, hml, hown, hts⟩ (k_X8_movePart l D cs a (t0 z) q w (by first | assumption | omega) (by first | assumption | omega)) (cwV 2 hts gX8_moveOf_X8_movePart rfl rfl rfl (by decide +kernel) ⟨Nat.le_of_ble_eq_true rfl, Nat.le_of_ble_eq_true rfl⟩) (kx_preV hK hN hM.1 rfl hM) rfl rfl hl.1 rfl (lv_room (Nat.le_of_ble_eq_true rfl)) dX8_moveOf_45 ⟨Nat.le_of_ble_eq_true rfl, Nat.le_of_ble_eq_true rfl⟩) ?_
        exact kx_iretM hx hb hrt hlk (by first | (rw [if_neg hw0]; done) | (rw [if_pos hw0, hnq, hnw]; done)) (by first | (rw [hw0]; exact hM) | exact hM) hS dX8_moveOf_48
      · refine lv_iconst (v := nI 0) hx hb dX8_moveOf_38 (by decide) ?_
        refine lv_goto (tgt := 48) hx hb dX8_moveOf_39 (by decide) ?_
        exact kx_iretM hx hb hrt hlk (by first | (rw [if_neg hw0]; done) | (rw [if_pos hw0, hnq, hnw]; done)) (by first | (rw [hw0]; exact hM) | exact hM) hS dX8_moveOf_48
    · refine lv_iconst (v := nI 0) hx hb dX8_moveOf_23 (by decide) ?_
      refine lv_goto (tgt := 28) hx hb dX8_moveOf_24 (by decide) ?_
      refine kx_ci (x := nI (0)) (y := nI (owN z x y)) (congrArg nI (by first | (simp [owN, *]; done) | (exfalso; omega) | (exfalso; simp_all; done))) ?_
      refine kx_put hx hb hts hinX8 tyX8_ok nmX8 hown hK hM.1 rfl hS ⟨by omega, by omega⟩ 0 (by decide) (by decide +kernel) rfl rfl rfl (Nat.le_of_ble_eq_true rfl) dX8_moveOf_28 (fun H locs hc hU hS => ?_)
      have hM := hM.put_thrown hc hU
      clear hc hU
      refine lv_aload_n hx hb dX8_moveOf_31 rfl (lv_at hl 0 rfl) ?_
      refine kx_get (v := .int ((upd z 4403 (nI (owN z x y))) 4403)) hx hb hts hinX8 hown hK hM.1 rfl 0 (by decide) (by decide +kernel) rfl dX8_moveOf_32 ?_
      refine kx_ci (y := nI (owN z x y)) pk_us ?_
      refine kn_if_le (tgt := 42) hx hb dX8_moveOf_35 (by decide) (lt31 (owN_2 _ _ _)) (fun hw0 => ?_) (fun hw0 => ?_)
      · rw [hw0] at hM
        obtain ⟨q, w, hq, hw, rfl, rfl⟩ := owN_0 hI hw0
        have hnq : nn (nI q) = q := nn_nI (by have := hI.M24; have := hI.R6; omega)
        have hnw : nn (nI w) = w := nn_nI (by omega)
        have hq24 : q < 24 := by have := hI.M24; omega
        refine lv_aload_n hx hb dX8_moveOf_42 rfl (lv_at hl 0 rfl) ?_
        refine lv_iload_n hx hb dX8_moveOf_43 rfl (lv_at hl 1 rfl) ?_
        refine lv_iload_n hx hb dX8_moveOf_44 rfl (lv_at hl 2 rfl) ?_
        refine kx_retP (va_runV (As := [.int (nI (q)), .int (nI (w))]) (rest := []) ⟨hx, hb, hml, hown, hts⟩ (k_X8_movePart l D cs a (t0 z) q w (by first | assumption | omega) (by first | assumption | omega)) (cwV 2 hts gX8_moveOf_X8_movePart rfl rfl rfl (by decide +kernel) ⟨Nat.le_of_ble_eq_true rfl, Nat.le_of_ble_eq_true rfl⟩) (kx_preV hK hN hM.1 rfl hM) rfl rfl hl.1 rfl (lv_room (Nat.le_of_ble_eq_true rfl)) dX8_moveOf_45 ⟨Nat.le_of_ble_eq_true rfl, Nat.le_of_ble_eq_true rfl⟩) ?_
        exact kx_iretM hx hb hrt hlk (by first | (rw [if_neg hw0]; done) | (rw [if_pos hw0, hnq, hnw]; done)) (by first | (rw [hw0]; exact hM) | exact hM) hS dX8_moveOf_48
      · refine lv_iconst (v := nI 0) hx hb dX8_moveOf_38 (by decide) ?_
        refine lv_goto (tgt := 48) hx hb dX8_moveOf_39 (by decide) ?_
        exact kx_iretM hx hb hrt hlk (by first | (rw [if_neg hw0]; done) | (rw [if_pos hw0, hnq, hnw]; done)) (by first | (rw [hw0]; exact hM) | exact hM) hS dX8_moveOf_48
  · refine lv_iconst (v := nI 1) hx hb dX8_moveOf_9 (by decide) ?_
    refine lv_goto (tgt := 28) hx hb dX8_moveOf_10 (by decide) ?_
    refine kx_ci (x := nI (1)) (y := nI (owN z x y)) (congrArg nI (by first | (simp [owN, *]; done) | (exfalso; omega) | (exfalso; simp_all; done))) ?_
    refine kx_put hx hb hts hinX8 tyX8_ok nmX8 hown hK hM.1 rfl hS ⟨by omega, by omega⟩ 0 (by decide) (by decide +kernel) rfl rfl rfl (Nat.le_of_ble_eq_true rfl) dX8_moveOf_28 (fun H locs hc hU hS => ?_)
    have hM := hM.put_thrown hc hU
    clear hc hU
    refine lv_aload_n hx hb dX8_moveOf_31 rfl (lv_at hl 0 rfl) ?_
    refine kx_get (v := .int ((upd z 4403 (nI (owN z x y))) 4403)) hx hb hts hinX8 hown hK hM.1 rfl 0 (by decide) (by decide +kernel) rfl dX8_moveOf_32 ?_
    refine kx_ci (y := nI (owN z x y)) pk_us ?_
    refine kn_if_le (tgt := 42) hx hb dX8_moveOf_35 (by decide) (lt31 (owN_2 _ _ _)) (fun hw0 => ?_) (fun hw0 => ?_)
    · rw [hw0] at hM
      obtain ⟨q, w, hq, hw, rfl, rfl⟩ := owN_0 hI hw0
      have hnq : nn (nI q) = q := nn_nI (by have := hI.M24; have := hI.R6; omega)
      have hnw : nn (nI w) = w := nn_nI (by omega)
      have hq24 : q < 24 := by have := hI.M24; omega
      refine lv_aload_n hx hb dX8_moveOf_42 rfl (lv_at hl 0 rfl) ?_
      refine lv_iload_n hx hb dX8_moveOf_43 rfl (lv_at hl 1 rfl) ?_
      refine lv_iload_n hx hb dX8_moveOf_44 rfl (lv_at hl 2 rfl) ?_
      refine kx_retP (va_runV (As := [.int (nI (q)), .int (nI (w))]) (rest := []) ⟨hx, hb, hml, hown, hts⟩ (k_X8_movePart l D cs a (t0 z) q w (by first | assumption | omega) (by first | assumption | omega)) (cwV 2 hts gX8_moveOf_X8_movePart rfl rfl rfl (by decide +kernel) ⟨Nat.le_of_ble_eq_true rfl, Nat.le_of_ble_eq_true rfl⟩) (kx_preV hK hN hM.1 rfl hM) rfl rfl hl.1 rfl (lv_room (Nat.le_of_ble_eq_true rfl)) dX8_moveOf_45 ⟨Nat.le_of_ble_eq_true rfl, Nat.le_of_ble_eq_true rfl⟩) ?_
      exact kx_iretM hx hb hrt hlk (by first | (rw [if_neg hw0]; done) | (rw [if_pos hw0, hnq, hnw]; done)) (by first | (rw [hw0]; exact hM) | exact hM) hS dX8_moveOf_48
    · refine lv_iconst (v := nI 0) hx hb dX8_moveOf_38 (by decide) ?_
      refine lv_goto (tgt := 48) hx hb dX8_moveOf_39 (by decide) ?_
      exact kx_iretM hx hb hrt hlk (by first | (rw [if_neg hw0]; done) | (rw [if_pos hw0, hnq, hnw]; done)) (by first | (rw [hw0]; exact hM) | exact hM) hS dX8_moveOf_48
set_option maxHeartbeats 500000 in
set_option maxRecDepth 100000 in
theorem k_X8_hostage (l : Launch) (D : va_G) (cs : Nat → ClassId) (a : Nat) (z : Nat → Int32) (x y : Int32) (hZ : InvZ z) : Met l yX8_hostage wsX8_hostage ({ frames := 2, cells := 0, slots := 0, locals := 44 } : Room) (PcK D cs [.ref (a), .int (x), .int (y)] (fun H => MdC D (cs 0) a z H)) (QcM (some (.int (if hwN z x y = 0 then hsI (t0 z) (nn x) (nn y) else nI 0))) (fun H => MdC D (cs 0) a (upd z 4403 (nI (hwN z x y))) H) (rgM a)) 0 0 ((rgM a)) := by
  refine kx_met (cc := cX8_hostage) (maxL := 3) (ret := (some .int)) (by decide) rfl (Nat.le_of_ble_eq_true rfl) ?_
  intro p e s m args below meth c hx hb hml hrt hts hown hlk hK hN hP ls hl
  have hl : lv_has ls 3 [(0, .ref (a)), (1, .int (x)), (2, .int (y))] := hl
  obtain ⟨H, hHe⟩ : ∃ H : Heap, H = s.heap := ⟨_, rfl⟩
  rw [← hHe] at hP ⊢
  have hS : va_S ((rgM a)) s.heap H [] := by rw [← hHe]; exact va_S.rf
  have hinX8 : ∀ w ∈ wsX80, w ∈ wsX8_hostage := by decide +kernel
  have hM := hP
  have hI := hZ.1
  refine lv_aload_n hx hb dX8_hostage_0 rfl (lv_at hl 0 rfl) ?_
  refine lv_aload_n hx hb dX8_hostage_1 rfl (lv_at hl 0 rfl) ?_
  refine lv_iload_n hx hb dX8_hostage_2 rfl (lv_at hl 1 rfl) ?_
  refine kx_retP (va_runV (As := [.int (x)]) (rest := [.ref (a)]) ⟨hx, hb, hml, hown, hts⟩ (k_X8_isMove l D cs a z x hI) (cwV 1 hts gX8_hostage_X8_isMove rfl rfl rfl (by decide +kernel) ⟨Nat.le_of_ble_eq_true rfl, Nat.le_of_ble_eq_true rfl⟩) (kx_preV hK hN hM.1 rfl hM) rfl rfl hl.1 rfl (lv_room (Nat.le_of_ble_eq_true rfl)) dX8_hostage_3 ⟨Nat.le_of_ble_eq_true rfl, Nat.le_of_ble_eq_true rfl⟩) ?_
  refine kb_if_ne (tgt := 13) hx hb dX8_hostage_6 (by decide) (fun c_1 => ?_) (fun c_1 => ?_)
  · refine lv_iload_n hx hb dX8_hostage_13 rfl (lv_at hl 2 rfl) ?_
    refine lv_if_ge (tgt := 21) hx hb dX8_hostage_14 (by decide) (fun hy0 => ?_) (fun hy0 => ?_)
    · refine lv_iconst (v := nI 0) hx hb dX8_hostage_21 (by decide) ?_
      refine kx_ci (x := nI (0)) (y := nI (hwN z x y)) (congrArg nI (by first | (simp [hwN, *]; done) | (exfalso; omega) | (exfalso; simp_all; done))) ?_
      refine kx_put hx hb hts hinX8 tyX8_ok nmX8 hown hK hM.1 rfl hS ⟨by omega, by omega⟩ 0 (by decide) (by decide +kernel) rfl rfl rfl (Nat.le_of_ble_eq_true rfl) dX8_hostage_22 (fun H locs hc hU hS => ?_)
      have hM := hM.put_thrown hc hU
      clear hc hU
      refine lv_aload_n hx hb dX8_hostage_25 rfl (lv_at hl 0 rfl) ?_
      refine kx_get (v := .int ((upd z 4403 (nI (hwN z x y))) 4403)) hx hb hts hinX8 hown hK hM.1 rfl 0 (by decide) (by decide +kernel) rfl dX8_hostage_26 ?_
      refine kx_ci (y := nI (hwN z x y)) pk_us ?_
      refine kn_if_le (tgt := 34) hx hb dX8_hostage_29 (by decide) (lt31 (hwN_2 _ _ _)) (fun hw0 => ?_) (fun hw0 => ?_)
      · rw [hw0] at hM
        obtain ⟨q, w, hq, hw, rfl, rfl⟩ := hwN_0 hI hw0
        have hnq : nn (nI q) = q := nn_nI (by have := hI.M24; have := hI.R6; omega)
        have hnw : nn (nI w) = w := nn_nI (by omega)
        have hit : Inv (t0 z) := th_inv hI (nI 0)
        have hgl := hgN_le (t0 z) q
        have hc16 := hit.c16 hq
        have hwc := hit.wc hq
        refine lv_iload_n hx hb dX8_hostage_34 rfl (lv_at hl 2 rfl) ?_
        refine lv_aload_n hx hb dX8_hostage_35 rfl (lv_at hl 0 rfl) ?_
        refine lv_iload_n hx hb dX8_hostage_36 rfl (lv_at hl 1 rfl) ?_
        refine kx_retP (va_runV (As := [.int (nI (q))]) (rest := [.int (nI (w))]) ⟨hx, hb, hml, hown, hts⟩ (k_X8_hostages l D cs a (t0 z) q (th_inv hI _) (by first | assumption | omega)) (cwV 1 hts gX8_hostage_X8_hostages rfl rfl rfl (by decide +kernel) ⟨Nat.le_of_ble_eq_true rfl, Nat.le_of_ble_eq_true rfl⟩) (kx_preV hK hN hM.1 rfl hM) rfl rfl hl.1 rfl (lv_room (Nat.le_of_ble_eq_true rfl)) dX8_hostage_37 ⟨Nat.le_of_ble_eq_true rfl, Nat.le_of_ble_eq_true rfl⟩) ?_
        refine kn_icmp_ge (tgt := 52) hx hb dX8_hostage_40 (by decide) (by omega) (by omega) (fun hlt => ?_) (fun hlt => ?_)
        · refine lv_sipush (v := -1000) hx hb dX8_hostage_52 (by decide) ?_
          exact kx_iretM hx hb hrt hlk (by first | rw [if_neg hw0] | (rw [if_pos hw0]; simp only [*]; unfold hsI; first | rw [if_pos (by omega)] | rw [if_neg (by omega)])) (by first | (rw [hw0]; exact hM) | exact hM) hS dX8_hostage_55
        · refine lv_aload_n hx hb dX8_hostage_43 rfl (lv_at hl 0 rfl) ?_
          refine lv_iload_n hx hb dX8_hostage_44 rfl (lv_at hl 1 rfl) ?_
          refine lv_iload_n hx hb dX8_hostage_45 rfl (lv_at hl 2 rfl) ?_
          refine kx_retP (va_runV (As := [.int (nI (q)), .int (nI (w))]) (rest := []) ⟨hx, hb, hml, hown, hts⟩ (k_X8_hostageOf l D cs a (t0 z) q w (th_inv hI _) (by first | assumption | omega) (by omega)) (cwV 2 hts gX8_hostage_X8_hostageOf rfl rfl rfl (by decide +kernel) ⟨Nat.le_of_ble_eq_true rfl, Nat.le_of_ble_eq_true rfl⟩) (kx_preV hK hN hM.1 rfl hM) rfl rfl hl.1 rfl (lv_room (Nat.le_of_ble_eq_true rfl)) dX8_hostage_46 ⟨Nat.le_of_ble_eq_true rfl, Nat.le_of_ble_eq_true rfl⟩) ?_
          refine lv_goto (tgt := 55) hx hb dX8_hostage_49 (by decide) ?_
          exact kx_iretM hx hb hrt hlk (by first | rw [if_neg hw0] | (rw [if_pos hw0]; simp only [*]; unfold hsI; first | rw [if_pos (by omega)] | rw [if_neg (by omega)])) (by first | (rw [hw0]; exact hM) | exact hM) hS dX8_hostage_55
      · refine lv_iconst (v := nI 0) hx hb dX8_hostage_32 (by decide) ?_
        exact kx_iretM hx hb hrt hlk (by rw [if_neg hw0]) hM hS dX8_hostage_33
    · refine lv_iconst (v := nI 2) hx hb dX8_hostage_17 (by decide) ?_
      refine lv_goto (tgt := 22) hx hb dX8_hostage_18 (by decide) ?_
      refine kx_ci (x := nI (2)) (y := nI (hwN z x y)) (congrArg nI (by first | (simp [hwN, *]; done) | (exfalso; omega) | (exfalso; simp_all; done))) ?_
      refine kx_put hx hb hts hinX8 tyX8_ok nmX8 hown hK hM.1 rfl hS ⟨by omega, by omega⟩ 0 (by decide) (by decide +kernel) rfl rfl rfl (Nat.le_of_ble_eq_true rfl) dX8_hostage_22 (fun H locs hc hU hS => ?_)
      have hM := hM.put_thrown hc hU
      clear hc hU
      refine lv_aload_n hx hb dX8_hostage_25 rfl (lv_at hl 0 rfl) ?_
      refine kx_get (v := .int ((upd z 4403 (nI (hwN z x y))) 4403)) hx hb hts hinX8 hown hK hM.1 rfl 0 (by decide) (by decide +kernel) rfl dX8_hostage_26 ?_
      refine kx_ci (y := nI (hwN z x y)) pk_us ?_
      refine kn_if_le (tgt := 34) hx hb dX8_hostage_29 (by decide) (lt31 (hwN_2 _ _ _)) (fun hw0 => ?_) (fun hw0 => ?_)
      · rw [hw0] at hM
        obtain ⟨q, w, hq, hw, rfl, rfl⟩ := hwN_0 hI hw0
        have hnq : nn (nI q) = q := nn_nI (by have := hI.M24; have := hI.R6; omega)
        have hnw : nn (nI w) = w := nn_nI (by omega)
        have hit : Inv (t0 z) := th_inv hI (nI 0)
        have hgl := hgN_le (t0 z) q
        have hc16 := hit.c16 hq
        have hwc := hit.wc hq
        refine lv_iload_n hx hb dX8_hostage_34 rfl (lv_at hl 2 rfl) ?_
        refine lv_aload_n hx hb dX8_hostage_35 rfl (lv_at hl 0 rfl) ?_
        refine lv_iload_n hx hb dX8_hostage_36 rfl (lv_at hl 1 rfl) ?_
        refine kx_retP (va_runV (As := [.int (nI (q))]) (rest := [.int (nI (w))]) ⟨hx, hb, hml, hown, hts⟩ (k_X8_hostages l D cs a (t0 z) q (th_inv hI _) (by first | assumption | omega)) (cwV 1 hts gX8_hostage_X8_hostages rfl rfl rfl (by decide +kernel) ⟨Nat.le_of_ble_eq_true rfl, Nat.le_of_ble_eq_true rfl⟩) (kx_preV hK hN hM.1 rfl hM) rfl rfl hl.1 rfl (lv_room (Nat.le_of_ble_eq_true rfl)) dX8_hostage_37 ⟨Nat.le_of_ble_eq_true rfl, Nat.le_of_ble_eq_true rfl⟩) ?_
        refine kn_icmp_ge (tgt := 52) hx hb dX8_hostage_40 (by decide) (by omega) (by omega) (fun hlt => ?_) (fun hlt => ?_)
        · refine lv_sipush (v := -1000) hx hb dX8_hostage_52 (by decide) ?_
          exact kx_iretM hx hb hrt hlk (by first | rw [if_neg hw0] | (rw [if_pos hw0]; simp only [*]; unfold hsI; first | rw [if_pos (by omega)] | rw [if_neg (by omega)])) (by first | (rw [hw0]; exact hM) | exact hM) hS dX8_hostage_55
        · refine lv_aload_n hx hb dX8_hostage_43 rfl (lv_at hl 0 rfl) ?_
          refine lv_iload_n hx hb dX8_hostage_44 rfl (lv_at hl 1 rfl) ?_
          refine lv_iload_n hx hb dX8_hostage_45 rfl (lv_at hl 2 rfl) ?_
          refine kx_retP (va_runV (As := [.int (nI (q)), .int (nI (w))]) (rest := []) ⟨hx, hb, hml, hown, hts⟩ (k_X8_hostageOf l D cs a (t0 z) q w (th_inv hI _) (by first | assumption | omega) (by omega)) (cwV 2 hts gX8_hostage_X8_hostageOf rfl rfl rfl (by decide +kernel) ⟨Nat.le_of_ble_eq_true rfl, Nat.le_of_ble_eq_true rfl⟩) (kx_preV hK hN hM.1 rfl hM) rfl rfl hl.1 rfl (lv_room (Nat.le_of_ble_eq_true rfl)) dX8_hostage_46 ⟨Nat.le_of_ble_eq_true rfl, Nat.le_of_ble_eq_true rfl⟩) ?_
          refine lv_goto (tgt := 55) hx hb dX8_hostage_49 (by decide) ?_
          exact kx_iretM hx hb hrt hlk (by first | rw [if_neg hw0] | (rw [if_pos hw0]; simp only [*]; unfold hsI; first | rw [if_pos (by omega)] | rw [if_neg (by omega)])) (by first | (rw [hw0]; exact hM) | exact hM) hS dX8_hostage_55
      · refine lv_iconst (v := nI 0) hx hb dX8_hostage_32 (by decide) ?_
        exact kx_iretM hx hb hrt hlk (by rw [if_neg hw0]) hM hS dX8_hostage_33
  · refine lv_iconst (v := nI 1) hx hb dX8_hostage_9 (by decide) ?_
    refine lv_goto (tgt := 22) hx hb dX8_hostage_10 (by decide) ?_
    refine kx_ci (x := nI (1)) (y := nI (hwN z x y)) (congrArg nI (by first | (simp [hwN, *]; done) | (exfalso; omega) | (exfalso; simp_all; done))) ?_
    refine kx_put hx hb hts hinX8 tyX8_ok nmX8 hown hK hM.1 rfl hS ⟨by omega, by omega⟩ 0 (by decide) (by decide +kernel) rfl rfl rfl (Nat.le_of_ble_eq_true rfl) dX8_hostage_22 (fun H locs hc hU hS => ?_)
    have hM := hM.put_thrown hc hU
    clear hc hU
    refine lv_aload_n hx hb dX8_hostage_25 rfl (lv_at hl 0 rfl) ?_
    refine kx_get (v := .int ((upd z 4403 (nI (hwN z x y))) 4403)) hx hb hts hinX8 hown hK hM.1 rfl 0 (by decide) (by decide +kernel) rfl dX8_hostage_26 ?_
    refine kx_ci (y := nI (hwN z x y)) pk_us ?_
    refine kn_if_le (tgt := 34) hx hb dX8_hostage_29 (by decide) (lt31 (hwN_2 _ _ _)) (fun hw0 => ?_) (fun hw0 => ?_)
    · rw [hw0] at hM
      obtain ⟨q, w, hq, hw, rfl, rfl⟩ := hwN_0 hI hw0
      have hnq : nn (nI q) = q := nn_nI (by have := hI.M24; have := hI.R6; omega)
      have hnw : nn (nI w) = w := nn_nI (by omega)
      have hit : Inv (t0 z) := th_inv hI (nI 0)
      have hgl := hgN_le (t0 z) q
      have hc16 := hit.c16 hq
      have hwc := hit.wc hq
      refine lv_iload_n hx hb dX8_hostage_34 rfl (lv_at hl 2 rfl) ?_
      refine lv_aload_n hx hb dX8_hostage_35 rfl (lv_at hl 0 rfl) ?_
      refine lv_iload_n hx hb dX8_hostage_36 rfl (lv_at hl 1 rfl) ?_
      refine kx_retP (va_runV (As := [.int (nI (q))]) (rest := [.int (nI (w))]) ⟨hx, hb, hml, hown, hts⟩ (k_X8_hostages l D cs a (t0 z) q (th_inv hI _) (by first | assumption | omega)) (cwV 1 hts gX8_hostage_X8_hostages rfl rfl rfl (by decide +kernel) ⟨Nat.le_of_ble_eq_true rfl, Nat.le_of_ble_eq_true rfl⟩) (kx_preV hK hN hM.1 rfl hM) rfl rfl hl.1 rfl (lv_room (Nat.le_of_ble_eq_true rfl)) dX8_hostage_37 ⟨Nat.le_of_ble_eq_true rfl, Nat.le_of_ble_eq_true rfl⟩) ?_
      refine kn_icmp_ge (tgt := 52) hx hb dX8_hostage_40 (by decide) (by omega) (by omega) (fun hlt => ?_) (fun hlt => ?_)
      · refine lv_sipush (v := -1000) hx hb dX8_hostage_52 (by decide) ?_
        exact kx_iretM hx hb hrt hlk (by first | rw [if_neg hw0] | (rw [if_pos hw0]; simp only [*]; unfold hsI; first | rw [if_pos (by omega)] | rw [if_neg (by omega)])) (by first | (rw [hw0]; exact hM) | exact hM) hS dX8_hostage_55
      · refine lv_aload_n hx hb dX8_hostage_43 rfl (lv_at hl 0 rfl) ?_
        refine lv_iload_n hx hb dX8_hostage_44 rfl (lv_at hl 1 rfl) ?_
        refine lv_iload_n hx hb dX8_hostage_45 rfl (lv_at hl 2 rfl) ?_
        refine kx_retP (va_runV (As := [.int (nI (q)), .int (nI (w))]) (rest := []) ⟨hx, hb, hml, hown, hts⟩ (k_X8_hostageOf l D cs a (t0 z) q w (th_inv hI _) (by first | assumption | omega) (by omega)) (cwV 2 hts gX8_hostage_X8_hostageOf rfl rfl rfl (by decide +kernel) ⟨Nat.le_of_ble_eq_true rfl, Nat.le_of_ble_eq_true rfl⟩) (kx_preV hK hN hM.1 rfl hM) rfl rfl hl.1 rfl (lv_room (Nat.le_of_ble_eq_true rfl)) dX8_hostage_46 ⟨Nat.le_of_ble_eq_true rfl, Nat.le_of_ble_eq_true rfl⟩) ?_
        refine lv_goto (tgt := 55) hx hb dX8_hostage_49 (by decide) ?_
        exact kx_iretM hx hb hrt hlk (by first | rw [if_neg hw0] | (rw [if_pos hw0]; simp only [*]; unfold hsI; first | rw [if_pos (by omega)] | rw [if_neg (by omega)])) (by first | (rw [hw0]; exact hM) | exact hM) hS dX8_hostage_55
    · refine lv_iconst (v := nI 0) hx hb dX8_hostage_32 (by decide) ?_
      exact kx_iretM hx hb hrt hlk (by rw [if_neg hw0]) hM hS dX8_hostage_33
set_option maxHeartbeats 500000 in
set_option maxRecDepth 100000 in
theorem k_X8_finalValue (l : Launch) (D : va_G) (cs : Nat → ClassId) (a : Nat) (z : Nat → Int32) (x : Int32) (hZ : InvZ z) : Met l yX8_finalValue wsX8_finalValue ({ frames := 4, cells := 0, slots := 0, locals := 91 } : Room) (PcK D cs [.ref (a), .int (x)] (fun H => MdC D (cs 0) a z H)) (QcM (some (.int (if cwN x = 0 then finF (kpt z) (8 + nn x) else nI 0))) (fun H => MdC D (cs 0) a (if cwN x = 0 then cpZ (finF (kpt z)) 704 0 else upd z 4403 (nI (cwN x))) H) (rgM a)) 0 0 ((rgM a)) := by
  refine kx_met (cc := cX8_finalValue) (maxL := 3) (ret := (some .int)) (by decide) rfl (Nat.le_of_ble_eq_true rfl) ?_
  intro p e s m args below meth c hx hb hml hrt hts hown hlk hK hN hP ls hl
  have hl : lv_has ls 3 [(0, .ref (a)), (1, .int (x))] := hl
  obtain ⟨H, hHe⟩ : ∃ H : Heap, H = s.heap := ⟨_, rfl⟩
  rw [← hHe] at hP ⊢
  have hS : va_S ((rgM a)) s.heap H [] := by rw [← hHe]; exact va_S.rf
  have hinX8 : ∀ w ∈ wsX80, w ∈ wsX8_finalValue := by decide +kernel
  have hM := hP
  have hI := hZ.1
  refine lv_aload_n hx hb dX8_finalValue_0 rfl (lv_at hl 0 rfl) ?_
  refine lv_aload_n hx hb dX8_finalValue_1 rfl (lv_at hl 0 rfl) ?_
  refine lv_iload_n hx hb dX8_finalValue_2 rfl (lv_at hl 1 rfl) ?_
  refine kx_retP (va_runV (As := [.int (x)]) (rest := [.ref (a)]) ⟨hx, hb, hml, hown, hts⟩ (k_X8_isCell l D cs a z x) (cwV 1 hts gX8_finalValue_X8_isCell rfl rfl rfl (by decide +kernel) ⟨Nat.le_of_ble_eq_true rfl, Nat.le_of_ble_eq_true rfl⟩) (kx_preV hK hN hM.1 rfl hM) rfl rfl hl.1 rfl (lv_room (Nat.le_of_ble_eq_true rfl)) dX8_finalValue_3 ⟨Nat.le_of_ble_eq_true rfl, Nat.le_of_ble_eq_true rfl⟩) ?_
  refine kb_if_eq (tgt := 13) hx hb dX8_finalValue_6 (by decide) (fun c_1 => ?_) (fun c_1 => ?_)
  · refine lv_iconst (v := nI 1) hx hb dX8_finalValue_13 (by decide) ?_
    refine kx_ci (x := nI (1)) (y := nI (cwN x)) (congrArg nI (by first | (simp [cwN, *]; done) | (exfalso; omega) | (exfalso; simp_all; done))) ?_
    refine kx_put hx hb hts hinX8 tyX8_ok nmX8 hown hK hM.1 rfl hS ⟨by omega, by omega⟩ 0 (by decide) (by decide +kernel) rfl rfl rfl (Nat.le_of_ble_eq_true rfl) dX8_finalValue_14 (fun H locs hc hU hS => ?_)
    have hM := hM.put_thrown hc hU
    clear hc hU
    refine lv_aload_n hx hb dX8_finalValue_17 rfl (lv_at hl 0 rfl) ?_
    refine kx_get (v := .int ((upd z 4403 (nI (cwN x))) 4403)) hx hb hts hinX8 hown hK hM.1 rfl 0 (by decide) (by decide +kernel) rfl dX8_finalValue_18 ?_
    refine kx_ci (y := nI (cwN x)) pk_us ?_
    refine kn_if_le (tgt := 26) hx hb dX8_finalValue_21 (by decide) (lt31 (cwN_2 _)) (fun hw0 => ?_) (fun hw0 => ?_)
    · rw [hw0] at hM
      obtain ⟨q, hq, rfl⟩ := cwN_0 hw0
      have hnq : nn (nI q) = q := nn_nI (by omega)
      refine lv_aload_n hx hb dX8_finalValue_26 rfl (lv_at hl 0 rfl) ?_
      refine kx_get (v := .ref (a + 1)) hx hb hts hinX8 hown hK hM.1 rfl 1 (by decide) (by decide +kernel) rfl dX8_finalValue_27 ?_
      refine lv_iconst (v := nI 0) hx hb dX8_finalValue_30 (by decide) ?_
      refine lv_aload_n hx hb dX8_finalValue_31 rfl (lv_at hl 0 rfl) ?_
      refine kx_get (v := .ref (a + 2)) hx hb hts hinX8 hown hK hM.1 rfl 2 (by decide) (by decide +kernel) rfl dX8_finalValue_32 ?_
      refine lv_iconst (v := nI 0) hx hb dX8_finalValue_35 (by decide) ?_
      refine kx_retM (va_runS (As := [.ref (a + 1), .int (nI (0)), .ref (a + 2), .int (nI (0))]) (rest := []) ⟨hx, hb, hml, hown, hts⟩ (k_X8_copy l D cs (a + 1) (a + 2) 704 704 0 0 (fun j => (t0 z) j) (fun j => (t0 z) (704 + j)) (by omega) (by omega) (by omega) (by decide) (by decide)) (cwS 4 hts gX8_finalValue_X8_copy rfl rfl rfl (by decide +kernel) ⟨Nat.le_of_ble_eq_true rfl, Nat.le_of_ble_eq_true rfl⟩) (kx_preS hK hN ⟨hM.state, hM.kept⟩) rfl rfl hl.1 rfl (lv_room (Nat.le_of_ble_eq_true rfl)) dX8_finalValue_36 ⟨Nat.le_of_ble_eq_true rfl, Nat.le_of_ble_eq_true rfl⟩) hS (fun q h1 (h : q = a + 2) => by subst h; exact ⟨by omega, by omega⟩) (fun q (h : q = a + 2) => by subst h; exact ⟨by omega, by omega⟩) (fun H locs hc hk hS => ?_)
      have hM := hM.cp_kept (src := 0) (F := (fun j => (t0 z) j)) (fun j hj => congrArg (t0 z) (by omega)) hc (fun q h1 h2 h3 => hk.2 q (hM.lt q h1 h2) h3)
      clear hc hk
      have hM : MdC D (cs 0) a (kpt z) H := hM
      refine lv_aload_n hx hb dX8_finalValue_39 rfl (lv_at hl 0 rfl) ?_
      refine kx_retM (va_runV (As := []) (rest := []) ⟨hx, hb, hml, hown, hts⟩ (k_X8_finish l D cs a (kpt z) (kpt_inv hI)) (cwV 0 hts gX8_finalValue_X8_finish rfl rfl rfl (by decide +kernel) ⟨Nat.le_of_ble_eq_true rfl, Nat.le_of_ble_eq_true rfl⟩) (kx_preV hK hN hM.1 rfl hM) rfl rfl hl.1 rfl (lv_room (Nat.le_of_ble_eq_true rfl)) dX8_finalValue_40 ⟨Nat.le_of_ble_eq_true rfl, Nat.le_of_ble_eq_true rfl⟩) hS (fun q _ h => h) (fun q h => h) (fun H locs hM hk hS => ?_)
      clear hk
      have hM : MdC D (cs 0) a (finF (kpt z)) H := hM
      refine lv_aload_n hx hb dX8_finalValue_43 rfl (lv_at hl 0 rfl) ?_
      refine kx_get (v := .ref (a + 1)) hx hb hts hinX8 hown hK hM.1 rfl 1 (by decide) (by decide +kernel) rfl dX8_finalValue_44 ?_
      refine lv_bipush (v := nI 8) hx hb dX8_finalValue_47 (by decide) ?_
      refine lv_iload_n hx hb dX8_finalValue_49 rfl (lv_at hl 1 rfl) ?_
      refine kn_add hx hb dX8_finalValue_50 ?_
      refine kx_iald (i := 8 + q) hx hb hK hM.state 0 rfl (by omega) (by decide) dX8_finalValue_51 ?_
      refine lv_istore_n (lv' := [(2, .int ((finF (kpt z)) (8 + q))), (0, .ref (a)), (1, .int (nI (q)))]) hx hb dX8_finalValue_52 rfl hl (by decide) rfl (fun ls hl => ?_)
      refine lv_aload_n hx hb dX8_finalValue_53 rfl (lv_at hl 1 rfl) ?_
      refine kx_get (v := .ref (a + 2)) hx hb hts hinX8 hown hK hM.1 rfl 2 (by decide) (by decide +kernel) rfl dX8_finalValue_54 ?_
      refine lv_iconst (v := nI 0) hx hb dX8_finalValue_57 (by decide) ?_
      refine lv_aload_n hx hb dX8_finalValue_58 rfl (lv_at hl 1 rfl) ?_
      refine kx_get (v := .ref (a + 1)) hx hb hts hinX8 hown hK hM.1 rfl 1 (by decide) (by decide +kernel) rfl dX8_finalValue_59 ?_
      refine lv_iconst (v := nI 0) hx hb dX8_finalValue_62 (by decide) ?_
      refine kx_retM (va_runS (As := [.ref (a + 2), .int (nI (0)), .ref (a + 1), .int (nI (0))]) (rest := []) ⟨hx, hb, hml, hown, hts⟩ (k_X8_copy l D cs (a + 2) (a + 1) 704 704 0 0 (fun j => (finF (kpt z)) (704 + j)) (fun j => (finF (kpt z)) j) (by omega) (by omega) (by omega) (by decide) (by decide)) (cwS 4 hts gX8_finalValue_X8_copy rfl rfl rfl (by decide +kernel) ⟨Nat.le_of_ble_eq_true rfl, Nat.le_of_ble_eq_true rfl⟩) (kx_preS hK hN ⟨hM.kept, hM.state⟩) rfl rfl hl.1 rfl (lv_room (Nat.le_of_ble_eq_true rfl)) dX8_finalValue_63 ⟨Nat.le_of_ble_eq_true rfl, Nat.le_of_ble_eq_true rfl⟩) hS (fun q h1 (h : q = a + 1) => by subst h; exact ⟨by omega, by omega⟩) (fun q (h : q = a + 1) => by subst h; exact ⟨by omega, by omega⟩) (fun H locs hc hk hS => ?_)
      have hM := hM.cp_state (sp := 0) (src := 704) (F := (fun j => (finF (kpt z)) (704 + j))) (fun j hj => congrArg (finF (kpt z)) (by omega)) hc (fun q h1 h2 h3 => hk.2 q (hM.lt q h1 h2) h3)
      clear hc hk
      refine lv_iload_n hx hb dX8_finalValue_66 rfl (lv_at hl 0 rfl) ?_
      exact kx_iretM hx hb hrt hlk (by rw [if_pos hw0, hnq]) (by rw [if_pos hw0]; exact hM) hS dX8_finalValue_67
    · refine lv_iconst (v := nI 0) hx hb dX8_finalValue_24 (by decide) ?_
      exact kx_iretM hx hb hrt hlk (by rw [if_neg hw0]) (by rw [if_neg hw0]; exact hM) hS dX8_finalValue_25
  · refine lv_iconst (v := nI 0) hx hb dX8_finalValue_9 (by decide) ?_
    refine lv_goto (tgt := 14) hx hb dX8_finalValue_10 (by decide) ?_
    refine kx_ci (x := nI (0)) (y := nI (cwN x)) (congrArg nI (by first | (simp [cwN, *]; done) | (exfalso; omega) | (exfalso; simp_all; done))) ?_
    refine kx_put hx hb hts hinX8 tyX8_ok nmX8 hown hK hM.1 rfl hS ⟨by omega, by omega⟩ 0 (by decide) (by decide +kernel) rfl rfl rfl (Nat.le_of_ble_eq_true rfl) dX8_finalValue_14 (fun H locs hc hU hS => ?_)
    have hM := hM.put_thrown hc hU
    clear hc hU
    refine lv_aload_n hx hb dX8_finalValue_17 rfl (lv_at hl 0 rfl) ?_
    refine kx_get (v := .int ((upd z 4403 (nI (cwN x))) 4403)) hx hb hts hinX8 hown hK hM.1 rfl 0 (by decide) (by decide +kernel) rfl dX8_finalValue_18 ?_
    refine kx_ci (y := nI (cwN x)) pk_us ?_
    refine kn_if_le (tgt := 26) hx hb dX8_finalValue_21 (by decide) (lt31 (cwN_2 _)) (fun hw0 => ?_) (fun hw0 => ?_)
    · rw [hw0] at hM
      obtain ⟨q, hq, rfl⟩ := cwN_0 hw0
      have hnq : nn (nI q) = q := nn_nI (by omega)
      refine lv_aload_n hx hb dX8_finalValue_26 rfl (lv_at hl 0 rfl) ?_
      refine kx_get (v := .ref (a + 1)) hx hb hts hinX8 hown hK hM.1 rfl 1 (by decide) (by decide +kernel) rfl dX8_finalValue_27 ?_
      refine lv_iconst (v := nI 0) hx hb dX8_finalValue_30 (by decide) ?_
      refine lv_aload_n hx hb dX8_finalValue_31 rfl (lv_at hl 0 rfl) ?_
      refine kx_get (v := .ref (a + 2)) hx hb hts hinX8 hown hK hM.1 rfl 2 (by decide) (by decide +kernel) rfl dX8_finalValue_32 ?_
      refine lv_iconst (v := nI 0) hx hb dX8_finalValue_35 (by decide) ?_
      refine kx_retM (va_runS (As := [.ref (a + 1), .int (nI (0)), .ref (a + 2), .int (nI (0))]) (rest := []) ⟨hx, hb, hml, hown, hts⟩ (k_X8_copy l D cs (a + 1) (a + 2) 704 704 0 0 (fun j => (t0 z) j) (fun j => (t0 z) (704 + j)) (by omega) (by omega) (by omega) (by decide) (by decide)) (cwS 4 hts gX8_finalValue_X8_copy rfl rfl rfl (by decide +kernel) ⟨Nat.le_of_ble_eq_true rfl, Nat.le_of_ble_eq_true rfl⟩) (kx_preS hK hN ⟨hM.state, hM.kept⟩) rfl rfl hl.1 rfl (lv_room (Nat.le_of_ble_eq_true rfl)) dX8_finalValue_36 ⟨Nat.le_of_ble_eq_true rfl, Nat.le_of_ble_eq_true rfl⟩) hS (fun q h1 (h : q = a + 2) => by subst h; exact ⟨by omega, by omega⟩) (fun q (h : q = a + 2) => by subst h; exact ⟨by omega, by omega⟩) (fun H locs hc hk hS => ?_)
      have hM := hM.cp_kept (src := 0) (F := (fun j => (t0 z) j)) (fun j hj => congrArg (t0 z) (by omega)) hc (fun q h1 h2 h3 => hk.2 q (hM.lt q h1 h2) h3)
      clear hc hk
      have hM : MdC D (cs 0) a (kpt z) H := hM
      refine lv_aload_n hx hb dX8_finalValue_39 rfl (lv_at hl 0 rfl) ?_
      refine kx_retM (va_runV (As := []) (rest := []) ⟨hx, hb, hml, hown, hts⟩ (k_X8_finish l D cs a (kpt z) (kpt_inv hI)) (cwV 0 hts gX8_finalValue_X8_finish rfl rfl rfl (by decide +kernel) ⟨Nat.le_of_ble_eq_true rfl, Nat.le_of_ble_eq_true rfl⟩) (kx_preV hK hN hM.1 rfl hM) rfl rfl hl.1 rfl (lv_room (Nat.le_of_ble_eq_true rfl)) dX8_finalValue_40 ⟨Nat.le_of_ble_eq_true rfl, Nat.le_of_ble_eq_true rfl⟩) hS (fun q _ h => h) (fun q h => h) (fun H locs hM hk hS => ?_)
      clear hk
      have hM : MdC D (cs 0) a (finF (kpt z)) H := hM
      refine lv_aload_n hx hb dX8_finalValue_43 rfl (lv_at hl 0 rfl) ?_
      refine kx_get (v := .ref (a + 1)) hx hb hts hinX8 hown hK hM.1 rfl 1 (by decide) (by decide +kernel) rfl dX8_finalValue_44 ?_
      refine lv_bipush (v := nI 8) hx hb dX8_finalValue_47 (by decide) ?_
      refine lv_iload_n hx hb dX8_finalValue_49 rfl (lv_at hl 1 rfl) ?_
      refine kn_add hx hb dX8_finalValue_50 ?_
      refine kx_iald (i := 8 + q) hx hb hK hM.state 0 rfl (by omega) (by decide) dX8_finalValue_51 ?_
      refine lv_istore_n (lv' := [(2, .int ((finF (kpt z)) (8 + q))), (0, .ref (a)), (1, .int (nI (q)))]) hx hb dX8_finalValue_52 rfl hl (by decide) rfl (fun ls hl => ?_)
      refine lv_aload_n hx hb dX8_finalValue_53 rfl (lv_at hl 1 rfl) ?_
      refine kx_get (v := .ref (a + 2)) hx hb hts hinX8 hown hK hM.1 rfl 2 (by decide) (by decide +kernel) rfl dX8_finalValue_54 ?_
      refine lv_iconst (v := nI 0) hx hb dX8_finalValue_57 (by decide) ?_
      refine lv_aload_n hx hb dX8_finalValue_58 rfl (lv_at hl 1 rfl) ?_
      refine kx_get (v := .ref (a + 1)) hx hb hts hinX8 hown hK hM.1 rfl 1 (by decide) (by decide +kernel) rfl dX8_finalValue_59 ?_
      refine lv_iconst (v := nI 0) hx hb dX8_finalValue_62 (by decide) ?_
      refine kx_retM (va_runS (As := [.ref (a + 2), .int (nI (0)), .ref (a + 1), .int (nI (0))]) (rest := []) ⟨hx, hb, hml, hown, hts⟩ (k_X8_copy l D cs (a + 2) (a + 1) 704 704 0 0 (fun j => (finF (kpt z)) (704 + j)) (fun j => (finF (kpt z)) j) (by omega) (by omega) (by omega) (by decide) (by decide)) (cwS 4 hts gX8_finalValue_X8_copy rfl rfl rfl (by decide +kernel) ⟨Nat.le_of_ble_eq_true rfl, Nat.le_of_ble_eq_true rfl⟩) (kx_preS hK hN ⟨hM.kept, hM.state⟩) rfl rfl hl.1 rfl (lv_room (Nat.le_of_ble_eq_true rfl)) dX8_finalValue_63 ⟨Nat.le_of_ble_eq_true rfl, Nat.le_of_ble_eq_true rfl⟩) hS (fun q h1 (h : q = a + 1) => by subst h; exact ⟨by omega, by omega⟩) (fun q (h : q = a + 1) => by subst h; exact ⟨by omega, by omega⟩) (fun H locs hc hk hS => ?_)
      have hM := hM.cp_state (sp := 0) (src := 704) (F := (fun j => (finF (kpt z)) (704 + j))) (fun j hj => congrArg (finF (kpt z)) (by omega)) hc (fun q h1 h2 h3 => hk.2 q (hM.lt q h1 h2) h3)
      clear hc hk
      refine lv_iload_n hx hb dX8_finalValue_66 rfl (lv_at hl 0 rfl) ?_
      exact kx_iretM hx hb hrt hlk (by rw [if_pos hw0, hnq]) (by rw [if_pos hw0]; exact hM) hS dX8_finalValue_67
    · refine lv_iconst (v := nI 0) hx hb dX8_finalValue_24 (by decide) ?_
      exact kx_iretM hx hb hrt hlk (by rw [if_neg hw0]) (by rw [if_neg hw0]; exact hM) hS dX8_finalValue_25
set_option maxHeartbeats 500000 in
set_option maxRecDepth 100000 in
theorem k_X8_undo (l : Launch) (D : va_G) (cs : Nat → ClassId) (a : Nat) (z : Nat → Int32)  (hZ : InvZ z) : Met l yX8_undo wsX8_undo ({ frames := 1, cells := 0, slots := 0, locals := 24 } : Room) (PcK D cs [.ref (a)] (fun H => MdC D (cs 0) a z H)) (QcM (some (.int (if uwN z = 0 then nI (Sv z - 1) else nI 0))) (fun H => MdC D (cs 0) a (if uwN z = 0 then udF z else upd z 4403 (nI (uwN z))) H) (rgM a)) 0 0 ((rgM a)) := by
  refine kx_met (cc := cX8_undo) (maxL := 1) (ret := (some .int)) (by decide) rfl (Nat.le_of_ble_eq_true rfl) ?_
  intro p e s m args below meth c hx hb hml hrt hts hown hlk hK hN hP ls hl
  have hl : lv_has ls 1 [(0, .ref (a))] := hl
  obtain ⟨H, hHe⟩ : ∃ H : Heap, H = s.heap := ⟨_, rfl⟩
  rw [← hHe] at hP ⊢
  have hS : va_S ((rgM a)) s.heap H [] := by rw [← hHe]; exact va_S.rf
  have hinX8 : ∀ w ∈ wsX80, w ∈ wsX8_undo := by decide +kernel
  have hM := hP
  have hI := hZ.1
  refine lv_aload_n hx hb dX8_undo_0 rfl (lv_at hl 0 rfl) ?_
  refine lv_aload_n hx hb dX8_undo_1 rfl (lv_at hl 0 rfl) ?_
  refine kx_get (v := .int (z 4404)) hx hb hts hinX8 hown hK hM.1 rfl 4 (by decide) (by decide +kernel) rfl dX8_undo_2 ?_
  refine kx_ci (y := nI (Sv z)) hZ.2.1.1 ?_
  refine kn_if_le (tgt := 12) hx hb dX8_undo_5 (by decide) (by have := hZ.2.1.2; omega) (fun c_1 => ?_) (fun c_1 => ?_)
  · refine lv_iconst (v := nI 1) hx hb dX8_undo_12 (by decide) ?_
    refine kx_ci (x := nI (1)) (y := nI (uwN z)) (congrArg nI (by first | (simp [uwN, *]; done) | (unfold uwN; split <;> omega))) ?_
    refine kx_put hx hb hts hinX8 tyX8_ok nmX8 hown hK hM.1 rfl hS ⟨by omega, by omega⟩ 0 (by decide) (by decide +kernel) rfl rfl rfl (Nat.le_of_ble_eq_true rfl) dX8_undo_13 (fun H locs hc hU hS => ?_)
    have hM := hM.put_thrown hc hU
    clear hc hU
    refine lv_aload_n hx hb dX8_undo_16 rfl (lv_at hl 0 rfl) ?_
    refine kx_get (v := .int ((upd z 4403 (nI (uwN z))) 4403)) hx hb hts hinX8 hown hK hM.1 rfl 0 (by decide) (by decide +kernel) rfl dX8_undo_17 ?_
    refine kx_ci (y := nI (uwN z)) pk_us ?_
    refine kn_if_le (tgt := 25) hx hb dX8_undo_20 (by decide) (lt31 (uwN_2 _)) (fun hw0 => ?_) (fun hw0 => ?_)
    · rw [hw0] at hM
      have hSv : 0 < Sv z := uw_lt hw0
      have hS4 := hZ.2.1.2
      refine lv_aload_n hx hb dX8_undo_25 rfl (lv_at hl 0 rfl) ?_
      refine lv_dup hx hb dX8_undo_26 rfl ?_
      refine kx_get (v := .int ((t0 z) 4404)) hx hb hts hinX8 hown hK hM.1 rfl 4 (by decide) (by decide +kernel) rfl dX8_undo_27 ?_
      refine kx_ci (y := nI (Sv z)) ((t0_at z (by omega)).trans hZ.2.1.1) ?_
      refine lv_iconst (v := nI 1) hx hb dX8_undo_30 (by decide) ?_
      refine kn_sub hx hb (by omega) dX8_undo_31 ?_
      refine kx_put hx hb hts hinX8 tyX8_ok nmX8 hown hK hM.1 rfl hS ⟨by omega, by omega⟩ 4 (by decide) (by decide +kernel) rfl rfl rfl (Nat.le_of_ble_eq_true rfl) dX8_undo_32 (fun H locs hc hU hS => ?_)
      have hM := hM.put_saved hc hU
      clear hc hU
      refine lv_aload_n hx hb dX8_undo_35 rfl (lv_at hl 0 rfl) ?_
      refine kx_get (v := .ref (a + 3)) hx hb hts hinX8 hown hK hM.1 rfl 3 (by decide) (by decide +kernel) rfl dX8_undo_36 ?_
      refine lv_aload_n hx hb dX8_undo_39 rfl (lv_at hl 0 rfl) ?_
      refine kx_get (v := .int ((upd (t0 z) 4404 (nI (Sv z - 1))) 4404)) hx hb hts hinX8 hown hK hM.1 rfl 4 (by decide) (by decide +kernel) rfl dX8_undo_40 ?_
      refine kx_ci (y := nI (Sv z - 1)) pk_us ?_
      refine lv_sipush (v := nI 704) hx hb dX8_undo_43 (by decide) ?_
      refine kn_mul hx hb dX8_undo_46 ?_
      refine lv_aload_n hx hb dX8_undo_47 rfl (lv_at hl 0 rfl) ?_
      refine kx_get (v := .ref (a + 1)) hx hb hts hinX8 hown hK hM.1 rfl 1 (by decide) (by decide +kernel) rfl dX8_undo_48 ?_
      refine lv_iconst (v := nI 0) hx hb dX8_undo_51 (by decide) ?_
      refine kx_retM (va_runS (As := [.ref (a + 3), .int (nI ((Sv z - 1) * 704)), .ref (a + 1), .int (nI (0))]) (rest := []) ⟨hx, hb, hml, hown, hts⟩ (k_X8_copy l D cs (a + 3) (a + 1) 2816 704 ((Sv z - 1) * 704) 0 (fun j => (upd (t0 z) 4404 (nI (Sv z - 1))) (1408 + j)) (fun j => (upd (t0 z) 4404 (nI (Sv z - 1))) j) (by omega) (by omega) (by omega) (by decide) (by decide)) (cwS 4 hts gX8_undo_X8_copy rfl rfl rfl (by decide +kernel) ⟨Nat.le_of_ble_eq_true rfl, Nat.le_of_ble_eq_true rfl⟩) (kx_preS hK hN ⟨hM.stack, hM.state⟩) rfl rfl hl.1 rfl (lv_room (Nat.le_of_ble_eq_true rfl)) dX8_undo_52 ⟨Nat.le_of_ble_eq_true rfl, Nat.le_of_ble_eq_true rfl⟩) hS (fun q h1 (h : q = a + 1) => by subst h; exact ⟨by omega, by omega⟩) (fun q (h : q = a + 1) => by subst h; exact ⟨by omega, by omega⟩) (fun H locs hc hk hS => ?_)
      have hM := hM.cp_state (sp := (Sv z - 1) * 704) (src := 1408 + ((Sv z - 1) * 704)) (F := (fun j => (upd (t0 z) 4404 (nI (Sv z - 1))) (1408 + j))) (fun j hj => congrArg (upd (t0 z) 4404 (nI (Sv z - 1))) (by omega)) hc (fun q h1 h2 h3 => hk.2 q (hM.lt q h1 h2) h3)
      clear hc hk
      refine lv_aload_n hx hb dX8_undo_55 rfl (lv_at hl 0 rfl) ?_
      refine kx_get (v := .int ((cpZ (upd (t0 z) 4404 (nI (Sv z - 1))) (1408 + ((Sv z - 1) * 704)) 0) 4404)) hx hb hts hinX8 hown hK hM.1 rfl 4 (by decide) (by decide +kernel) rfl dX8_undo_56 ?_
      refine kx_ci (y := nI (Sv z - 1)) (by rw [cpZ_at, if_neg (by omega)]; exact pk_us) ?_
      exact kx_iretM hx hb hrt hlk (by first | (rw [if_neg hw0]; done) | (rw [if_pos hw0]; done)) (by first | (rw [if_neg hw0]; exact hM) | (rw [if_pos hw0]; exact hM)) hS dX8_undo_59
    · refine lv_iconst (v := nI 0) hx hb dX8_undo_23 (by decide) ?_
      exact kx_iretM hx hb hrt hlk (by rw [if_neg hw0]) (by rw [if_neg hw0]; exact hM) hS dX8_undo_24
  · refine lv_iconst (v := nI 0) hx hb dX8_undo_8 (by decide) ?_
    refine lv_goto (tgt := 13) hx hb dX8_undo_9 (by decide) ?_
    refine kx_ci (x := nI (0)) (y := nI (uwN z)) (congrArg nI (by first | (simp [uwN, *]; done) | (unfold uwN; split <;> omega))) ?_
    refine kx_put hx hb hts hinX8 tyX8_ok nmX8 hown hK hM.1 rfl hS ⟨by omega, by omega⟩ 0 (by decide) (by decide +kernel) rfl rfl rfl (Nat.le_of_ble_eq_true rfl) dX8_undo_13 (fun H locs hc hU hS => ?_)
    have hM := hM.put_thrown hc hU
    clear hc hU
    refine lv_aload_n hx hb dX8_undo_16 rfl (lv_at hl 0 rfl) ?_
    refine kx_get (v := .int ((upd z 4403 (nI (uwN z))) 4403)) hx hb hts hinX8 hown hK hM.1 rfl 0 (by decide) (by decide +kernel) rfl dX8_undo_17 ?_
    refine kx_ci (y := nI (uwN z)) pk_us ?_
    refine kn_if_le (tgt := 25) hx hb dX8_undo_20 (by decide) (lt31 (uwN_2 _)) (fun hw0 => ?_) (fun hw0 => ?_)
    · rw [hw0] at hM
      have hSv : 0 < Sv z := uw_lt hw0
      have hS4 := hZ.2.1.2
      refine lv_aload_n hx hb dX8_undo_25 rfl (lv_at hl 0 rfl) ?_
      refine lv_dup hx hb dX8_undo_26 rfl ?_
      refine kx_get (v := .int ((t0 z) 4404)) hx hb hts hinX8 hown hK hM.1 rfl 4 (by decide) (by decide +kernel) rfl dX8_undo_27 ?_
      refine kx_ci (y := nI (Sv z)) ((t0_at z (by omega)).trans hZ.2.1.1) ?_
      refine lv_iconst (v := nI 1) hx hb dX8_undo_30 (by decide) ?_
      refine kn_sub hx hb (by omega) dX8_undo_31 ?_
      refine kx_put hx hb hts hinX8 tyX8_ok nmX8 hown hK hM.1 rfl hS ⟨by omega, by omega⟩ 4 (by decide) (by decide +kernel) rfl rfl rfl (Nat.le_of_ble_eq_true rfl) dX8_undo_32 (fun H locs hc hU hS => ?_)
      have hM := hM.put_saved hc hU
      clear hc hU
      refine lv_aload_n hx hb dX8_undo_35 rfl (lv_at hl 0 rfl) ?_
      refine kx_get (v := .ref (a + 3)) hx hb hts hinX8 hown hK hM.1 rfl 3 (by decide) (by decide +kernel) rfl dX8_undo_36 ?_
      refine lv_aload_n hx hb dX8_undo_39 rfl (lv_at hl 0 rfl) ?_
      refine kx_get (v := .int ((upd (t0 z) 4404 (nI (Sv z - 1))) 4404)) hx hb hts hinX8 hown hK hM.1 rfl 4 (by decide) (by decide +kernel) rfl dX8_undo_40 ?_
      refine kx_ci (y := nI (Sv z - 1)) pk_us ?_
      refine lv_sipush (v := nI 704) hx hb dX8_undo_43 (by decide) ?_
      refine kn_mul hx hb dX8_undo_46 ?_
      refine lv_aload_n hx hb dX8_undo_47 rfl (lv_at hl 0 rfl) ?_
      refine kx_get (v := .ref (a + 1)) hx hb hts hinX8 hown hK hM.1 rfl 1 (by decide) (by decide +kernel) rfl dX8_undo_48 ?_
      refine lv_iconst (v := nI 0) hx hb dX8_undo_51 (by decide) ?_
      refine kx_retM (va_runS (As := [.ref (a + 3), .int (nI ((Sv z - 1) * 704)), .ref (a + 1), .int (nI (0))]) (rest := []) ⟨hx, hb, hml, hown, hts⟩ (k_X8_copy l D cs (a + 3) (a + 1) 2816 704 ((Sv z - 1) * 704) 0 (fun j => (upd (t0 z) 4404 (nI (Sv z - 1))) (1408 + j)) (fun j => (upd (t0 z) 4404 (nI (Sv z - 1))) j) (by omega) (by omega) (by omega) (by decide) (by decide)) (cwS 4 hts gX8_undo_X8_copy rfl rfl rfl (by decide +kernel) ⟨Nat.le_of_ble_eq_true rfl, Nat.le_of_ble_eq_true rfl⟩) (kx_preS hK hN ⟨hM.stack, hM.state⟩) rfl rfl hl.1 rfl (lv_room (Nat.le_of_ble_eq_true rfl)) dX8_undo_52 ⟨Nat.le_of_ble_eq_true rfl, Nat.le_of_ble_eq_true rfl⟩) hS (fun q h1 (h : q = a + 1) => by subst h; exact ⟨by omega, by omega⟩) (fun q (h : q = a + 1) => by subst h; exact ⟨by omega, by omega⟩) (fun H locs hc hk hS => ?_)
      have hM := hM.cp_state (sp := (Sv z - 1) * 704) (src := 1408 + ((Sv z - 1) * 704)) (F := (fun j => (upd (t0 z) 4404 (nI (Sv z - 1))) (1408 + j))) (fun j hj => congrArg (upd (t0 z) 4404 (nI (Sv z - 1))) (by omega)) hc (fun q h1 h2 h3 => hk.2 q (hM.lt q h1 h2) h3)
      clear hc hk
      refine lv_aload_n hx hb dX8_undo_55 rfl (lv_at hl 0 rfl) ?_
      refine kx_get (v := .int ((cpZ (upd (t0 z) 4404 (nI (Sv z - 1))) (1408 + ((Sv z - 1) * 704)) 0) 4404)) hx hb hts hinX8 hown hK hM.1 rfl 4 (by decide) (by decide +kernel) rfl dX8_undo_56 ?_
      refine kx_ci (y := nI (Sv z - 1)) (by rw [cpZ_at, if_neg (by omega)]; exact pk_us) ?_
      exact kx_iretM hx hb hrt hlk (by first | (rw [if_neg hw0]; done) | (rw [if_pos hw0]; done)) (by first | (rw [if_neg hw0]; exact hM) | (rw [if_pos hw0]; exact hM)) hS dX8_undo_59
    · refine lv_iconst (v := nI 0) hx hb dX8_undo_23 (by decide) ?_
      exact kx_iretM hx hb hrt hlk (by rw [if_neg hw0]) (by rw [if_neg hw0]; exact hM) hS dX8_undo_24
