set_option maxHeartbeats 500000 in
set_option maxRecDepth 100000 in
theorem k_X8_cell (l : Launch) (D : va_G) (cs : Nat → ClassId) (a : Nat) (z : Nat → Int32) (x : Int32) (hZ : InvZ z) : Met l yX8_cell wsX8_cell ({ frames := 2, cells := 0, slots := 0, locals := 43 } : Room) (PcK D cs [.ref (a), .int (x)] (fun H => MdC D (cs 0) a z H)) (QcM (some (.int (if cwN x = 0 then z (8 + nn x) else nI 0))) (fun H => MdC D (cs 0) a (upd z 4403 (nI (cwN x))) H) (rgM a)) 0 0 ((rgM a)) := by
  refine kx_met (cc := cX8_cell) (maxL := 2) (ret := (some .int)) (by decide) rfl (Nat.le_of_ble_eq_true rfl) ?_
  intro p e s m args below meth c hx hb hml hrt hts hown hlk hK hN hP ls hl
  have hl : lv_has ls 2 [(0, .ref (a)), (1, .int (x))] := hl
  obtain ⟨H, hHe⟩ : ∃ H : Heap, H = s.heap := ⟨_, rfl⟩
  rw [← hHe] at hP ⊢
  have hS : va_S ((rgM a)) s.heap H [] := by rw [← hHe]; exact va_S.rf
  have hinX8 : ∀ w ∈ wsX80, w ∈ wsX8_cell := by decide +kernel
  have hM := hP
  have hI := hZ.1
  refine lv_aload_n hx hb dX8_cell_0 rfl (lv_at hl 0 rfl) ?_
  refine lv_aload_n hx hb dX8_cell_1 rfl (lv_at hl 0 rfl) ?_
  refine lv_iload_n hx hb dX8_cell_2 rfl (lv_at hl 1 rfl) ?_
  refine kx_retP (va_runV (As := [.int (x)]) (rest := [.ref (a)]) ⟨hx, hb, hml, hown, hts⟩ (k_X8_isCell l D cs a z x) (cwV 1 hts gX8_cell_X8_isCell rfl rfl rfl (by decide +kernel) ⟨Nat.le_of_ble_eq_true rfl, Nat.le_of_ble_eq_true rfl⟩) (kx_preV hK hN hM.1 rfl hM) rfl rfl hl.1 rfl (lv_room (Nat.le_of_ble_eq_true rfl)) dX8_cell_3 ⟨Nat.le_of_ble_eq_true rfl, Nat.le_of_ble_eq_true rfl⟩) ?_
  refine kb_if_eq (tgt := 13) hx hb dX8_cell_6 (by decide) (fun c_1 => ?_) (fun c_1 => ?_)
  · refine lv_iconst (v := nI 1) hx hb dX8_cell_13 (by decide) ?_
    refine kx_ci (x := nI (1)) (y := nI (cwN x)) (congrArg nI (by first | (simp [cwN, *]; done) | (exfalso; omega) | (exfalso; simp_all; done))) ?_
    refine kx_put hx hb hts hinX8 tyX8_ok nmX8 hown hK hM.1 rfl hS ⟨by omega, by omega⟩ 0 (by decide) (by decide +kernel) rfl rfl rfl (Nat.le_of_ble_eq_true rfl) dX8_cell_14 (fun H locs hc hU hS => ?_)
    have hM := hM.put_thrown hc hU
    clear hc hU
    refine lv_aload_n hx hb dX8_cell_17 rfl (lv_at hl 0 rfl) ?_
    refine kx_get (v := .int ((upd z 4403 (nI (cwN x))) 4403)) hx hb hts hinX8 hown hK hM.1 rfl 0 (by decide) (by decide +kernel) rfl dX8_cell_18 ?_
    refine kx_ci (y := nI (cwN x)) pk_us ?_
    refine kn_if_le (tgt := 28) hx hb dX8_cell_21 (by decide) (lt31 (cwN_2 _)) (fun hw0 => ?_) (fun hw0 => ?_)
    · rw [hw0] at hM
      obtain ⟨q, hq, rfl⟩ := cwN_0 hw0
      have hnq : nn (nI q) = q := nn_nI (by omega)
      refine lv_aload_n hx hb dX8_cell_28 rfl (lv_at hl 0 rfl) ?_
      refine kx_get (v := .ref (a + 1)) hx hb hts hinX8 hown hK hM.1 rfl 1 (by decide) (by decide +kernel) rfl dX8_cell_29 ?_
      refine lv_bipush (v := nI 8) hx hb dX8_cell_32 (by decide) ?_
      refine lv_iload_n hx hb dX8_cell_34 rfl (lv_at hl 1 rfl) ?_
      refine kn_add hx hb dX8_cell_35 ?_
      refine kx_iald (i := 8 + q) hx hb hK hM.state 0 rfl (by omega) (by decide) dX8_cell_36 ?_
      refine kx_ci (y := z (8 + q)) (by simp only [upd_at]; repeat rw [if_neg (by omega)]) ?_
      exact kx_iretM hx hb hrt hlk (by first | (rw [if_neg hw0]; done) | (rw [if_pos hw0, hnq]; done)) (by first | (rw [hw0]; exact hM) | exact hM) hS dX8_cell_37
    · refine lv_iconst (v := nI 0) hx hb dX8_cell_24 (by decide) ?_
      refine lv_goto (tgt := 37) hx hb dX8_cell_25 (by decide) ?_
      exact kx_iretM hx hb hrt hlk (by first | (rw [if_neg hw0]; done) | (rw [if_pos hw0, hnq]; done)) (by first | (rw [hw0]; exact hM) | exact hM) hS dX8_cell_37
  · refine lv_iconst (v := nI 0) hx hb dX8_cell_9 (by decide) ?_
    refine lv_goto (tgt := 14) hx hb dX8_cell_10 (by decide) ?_
    refine kx_ci (x := nI (0)) (y := nI (cwN x)) (congrArg nI (by first | (simp [cwN, *]; done) | (exfalso; omega) | (exfalso; simp_all; done))) ?_
    refine kx_put hx hb hts hinX8 tyX8_ok nmX8 hown hK hM.1 rfl hS ⟨by omega, by omega⟩ 0 (by decide) (by decide +kernel) rfl rfl rfl (Nat.le_of_ble_eq_true rfl) dX8_cell_14 (fun H locs hc hU hS => ?_)
    have hM := hM.put_thrown hc hU
    clear hc hU
    refine lv_aload_n hx hb dX8_cell_17 rfl (lv_at hl 0 rfl) ?_
    refine kx_get (v := .int ((upd z 4403 (nI (cwN x))) 4403)) hx hb hts hinX8 hown hK hM.1 rfl 0 (by decide) (by decide +kernel) rfl dX8_cell_18 ?_
    refine kx_ci (y := nI (cwN x)) pk_us ?_
    refine kn_if_le (tgt := 28) hx hb dX8_cell_21 (by decide) (lt31 (cwN_2 _)) (fun hw0 => ?_) (fun hw0 => ?_)
    · rw [hw0] at hM
      obtain ⟨q, hq, rfl⟩ := cwN_0 hw0
      have hnq : nn (nI q) = q := nn_nI (by omega)
      refine lv_aload_n hx hb dX8_cell_28 rfl (lv_at hl 0 rfl) ?_
      refine kx_get (v := .ref (a + 1)) hx hb hts hinX8 hown hK hM.1 rfl 1 (by decide) (by decide +kernel) rfl dX8_cell_29 ?_
      refine lv_bipush (v := nI 8) hx hb dX8_cell_32 (by decide) ?_
      refine lv_iload_n hx hb dX8_cell_34 rfl (lv_at hl 1 rfl) ?_
      refine kn_add hx hb dX8_cell_35 ?_
      refine kx_iald (i := 8 + q) hx hb hK hM.state 0 rfl (by omega) (by decide) dX8_cell_36 ?_
      refine kx_ci (y := z (8 + q)) (by simp only [upd_at]; repeat rw [if_neg (by omega)]) ?_
      exact kx_iretM hx hb hrt hlk (by first | (rw [if_neg hw0]; done) | (rw [if_pos hw0, hnq]; done)) (by first | (rw [hw0]; exact hM) | exact hM) hS dX8_cell_37
    · refine lv_iconst (v := nI 0) hx hb dX8_cell_24 (by decide) ?_
      refine lv_goto (tgt := 37) hx hb dX8_cell_25 (by decide) ?_
      exact kx_iretM hx hb hrt hlk (by first | (rw [if_neg hw0]; done) | (rw [if_pos hw0, hnq]; done)) (by first | (rw [hw0]; exact hM) | exact hM) hS dX8_cell_37
set_option maxHeartbeats 500000 in
set_option maxRecDepth 100000 in
theorem k_X8_reason (l : Launch) (D : va_G) (cs : Nat → ClassId) (a : Nat) (z : Nat → Int32) (x : Int32) (hZ : InvZ z) : Met l yX8_reason wsX8_reason ({ frames := 5, cells := 0, slots := 0, locals := 117 } : Room) (PcK D cs [.ref (a), .int (x)] (fun H => MdC D (cs 0) a z H)) (QcM (some (.int (if cwN x = 0 then nI (rsC (t0 z) (nn x)) else nI 0))) (fun H => MdC D (cs 0) a (upd z 4403 (nI (cwN x))) H) (rgM a)) 0 0 ((rgM a)) := by
  refine kx_met (cc := cX8_reason) (maxL := 2) (ret := (some .int)) (by decide) rfl (Nat.le_of_ble_eq_true rfl) ?_
  intro p e s m args below meth c hx hb hml hrt hts hown hlk hK hN hP ls hl
  have hl : lv_has ls 2 [(0, .ref (a)), (1, .int (x))] := hl
  obtain ⟨H, hHe⟩ : ∃ H : Heap, H = s.heap := ⟨_, rfl⟩
  rw [← hHe] at hP ⊢
  have hS : va_S ((rgM a)) s.heap H [] := by rw [← hHe]; exact va_S.rf
  have hinX8 : ∀ w ∈ wsX80, w ∈ wsX8_reason := by decide +kernel
  have hM := hP
  have hI := hZ.1
  refine lv_aload_n hx hb dX8_reason_0 rfl (lv_at hl 0 rfl) ?_
  refine lv_aload_n hx hb dX8_reason_1 rfl (lv_at hl 0 rfl) ?_
  refine lv_iload_n hx hb dX8_reason_2 rfl (lv_at hl 1 rfl) ?_
  refine kx_retP (va_runV (As := [.int (x)]) (rest := [.ref (a)]) ⟨hx, hb, hml, hown, hts⟩ (k_X8_isCell l D cs a z x) (cwV 1 hts gX8_reason_X8_isCell rfl rfl rfl (by decide +kernel) ⟨Nat.le_of_ble_eq_true rfl, Nat.le_of_ble_eq_true rfl⟩) (kx_preV hK hN hM.1 rfl hM) rfl rfl hl.1 rfl (lv_room (Nat.le_of_ble_eq_true rfl)) dX8_reason_3 ⟨Nat.le_of_ble_eq_true rfl, Nat.le_of_ble_eq_true rfl⟩) ?_
  refine kb_if_eq (tgt := 13) hx hb dX8_reason_6 (by decide) (fun c_1 => ?_) (fun c_1 => ?_)
  · refine lv_iconst (v := nI 1) hx hb dX8_reason_13 (by decide) ?_
    refine kx_ci (x := nI (1)) (y := nI (cwN x)) (congrArg nI (by first | (simp [cwN, *]; done) | (exfalso; omega) | (exfalso; simp_all; done))) ?_
    refine kx_put hx hb hts hinX8 tyX8_ok nmX8 hown hK hM.1 rfl hS ⟨by omega, by omega⟩ 0 (by decide) (by decide +kernel) rfl rfl rfl (Nat.le_of_ble_eq_true rfl) dX8_reason_14 (fun H locs hc hU hS => ?_)
    have hM := hM.put_thrown hc hU
    clear hc hU
    refine lv_aload_n hx hb dX8_reason_17 rfl (lv_at hl 0 rfl) ?_
    refine kx_get (v := .int ((upd z 4403 (nI (cwN x))) 4403)) hx hb hts hinX8 hown hK hM.1 rfl 0 (by decide) (by decide +kernel) rfl dX8_reason_18 ?_
    refine kx_ci (y := nI (cwN x)) pk_us ?_
    refine kn_if_le (tgt := 28) hx hb dX8_reason_21 (by decide) (lt31 (cwN_2 _)) (fun hw0 => ?_) (fun hw0 => ?_)
    · rw [hw0] at hM
      obtain ⟨q, hq, rfl⟩ := cwN_0 hw0
      have hnq : nn (nI q) = q := nn_nI (by omega)
      refine lv_aload_n hx hb dX8_reason_28 rfl (lv_at hl 0 rfl) ?_
      refine lv_iload_n hx hb dX8_reason_29 rfl (lv_at hl 1 rfl) ?_
      refine kx_retP (va_runV (As := [.int (nI (q))]) (rest := []) ⟨hx, hb, hml, hown, hts⟩ (k_X8_reasonOf l D cs a (t0 z) q (th_inv hI _) (by first | assumption | omega)) (cwV 1 hts gX8_reason_X8_reasonOf rfl rfl rfl (by decide +kernel) ⟨Nat.le_of_ble_eq_true rfl, Nat.le_of_ble_eq_true rfl⟩) (kx_preV hK hN hM.1 rfl hM) rfl rfl hl.1 rfl (lv_room (Nat.le_of_ble_eq_true rfl)) dX8_reason_30 ⟨Nat.le_of_ble_eq_true rfl, Nat.le_of_ble_eq_true rfl⟩) ?_
      exact kx_iretM hx hb hrt hlk (by first | (rw [if_neg hw0]; done) | (rw [if_pos hw0, hnq]; done)) (by first | (rw [hw0]; exact hM) | exact hM) hS dX8_reason_33
    · refine lv_iconst (v := nI 0) hx hb dX8_reason_24 (by decide) ?_
      refine lv_goto (tgt := 33) hx hb dX8_reason_25 (by decide) ?_
      exact kx_iretM hx hb hrt hlk (by first | (rw [if_neg hw0]; done) | (rw [if_pos hw0, hnq]; done)) (by first | (rw [hw0]; exact hM) | exact hM) hS dX8_reason_33
  · refine lv_iconst (v := nI 0) hx hb dX8_reason_9 (by decide) ?_
    refine lv_goto (tgt := 14) hx hb dX8_reason_10 (by decide) ?_
    refine kx_ci (x := nI (0)) (y := nI (cwN x)) (congrArg nI (by first | (simp [cwN, *]; done) | (exfalso; omega) | (exfalso; simp_all; done))) ?_
    refine kx_put hx hb hts hinX8 tyX8_ok nmX8 hown hK hM.1 rfl hS ⟨by omega, by omega⟩ 0 (by decide) (by decide +kernel) rfl rfl rfl (Nat.le_of_ble_eq_true rfl) dX8_reason_14 (fun H locs hc hU hS => ?_)
    have hM := hM.put_thrown hc hU
    clear hc hU
    refine lv_aload_n hx hb dX8_reason_17 rfl (lv_at hl 0 rfl) ?_
    refine kx_get (v := .int ((upd z 4403 (nI (cwN x))) 4403)) hx hb hts hinX8 hown hK hM.1 rfl 0 (by decide) (by decide +kernel) rfl dX8_reason_18 ?_
    refine kx_ci (y := nI (cwN x)) pk_us ?_
    refine kn_if_le (tgt := 28) hx hb dX8_reason_21 (by decide) (lt31 (cwN_2 _)) (fun hw0 => ?_) (fun hw0 => ?_)
    · rw [hw0] at hM
      obtain ⟨q, hq, rfl⟩ := cwN_0 hw0
      have hnq : nn (nI q) = q := nn_nI (by omega)
      refine lv_aload_n hx hb dX8_reason_28 rfl (lv_at hl 0 rfl) ?_
      refine lv_iload_n hx hb dX8_reason_29 rfl (lv_at hl 1 rfl) ?_
      refine kx_retP (va_runV (As := [.int (nI (q))]) (rest := []) ⟨hx, hb, hml, hown, hts⟩ (k_X8_reasonOf l D cs a (t0 z) q (th_inv hI _) (by first | assumption | omega)) (cwV 1 hts gX8_reason_X8_reasonOf rfl rfl rfl (by decide +kernel) ⟨Nat.le_of_ble_eq_true rfl, Nat.le_of_ble_eq_true rfl⟩) (kx_preV hK hN hM.1 rfl hM) rfl rfl hl.1 rfl (lv_room (Nat.le_of_ble_eq_true rfl)) dX8_reason_30 ⟨Nat.le_of_ble_eq_true rfl, Nat.le_of_ble_eq_true rfl⟩) ?_
      exact kx_iretM hx hb hrt hlk (by first | (rw [if_neg hw0]; done) | (rw [if_pos hw0, hnq]; done)) (by first | (rw [hw0]; exact hM) | exact hM) hS dX8_reason_33
    · refine lv_iconst (v := nI 0) hx hb dX8_reason_24 (by decide) ?_
      refine lv_goto (tgt := 33) hx hb dX8_reason_25 (by decide) ?_
      exact kx_iretM hx hb hrt hlk (by first | (rw [if_neg hw0]; done) | (rw [if_pos hw0, hnq]; done)) (by first | (rw [hw0]; exact hM) | exact hM) hS dX8_reason_33
set_option maxHeartbeats 500000 in
set_option maxRecDepth 100000 in
theorem k_X8_waitsFor (l : Launch) (D : va_G) (cs : Nat → ClassId) (a : Nat) (z : Nat → Int32) (x : Int32) (hZ : InvZ z) : Met l yX8_waitsFor wsX8_waitsFor ({ frames := 5, cells := 0, slots := 0, locals := 118 } : Room) (PcK D cs [.ref (a), .int (x)] (fun H => MdC D (cs 0) a z H)) (QcM (some (.int (if mwN z x = 0 then nI (woN (t0 z) (nn x)) else nI 0))) (fun H => MdC D (cs 0) a (upd z 4403 (nI (mwN z x))) H) (rgM a)) 0 0 ((rgM a)) := by
  refine kx_met (cc := cX8_waitsFor) (maxL := 2) (ret := (some .int)) (by decide) rfl (Nat.le_of_ble_eq_true rfl) ?_
  intro p e s m args below meth c hx hb hml hrt hts hown hlk hK hN hP ls hl
  have hl : lv_has ls 2 [(0, .ref (a)), (1, .int (x))] := hl
  obtain ⟨H, hHe⟩ : ∃ H : Heap, H = s.heap := ⟨_, rfl⟩
  rw [← hHe] at hP ⊢
  have hS : va_S ((rgM a)) s.heap H [] := by rw [← hHe]; exact va_S.rf
  have hinX8 : ∀ w ∈ wsX80, w ∈ wsX8_waitsFor := by decide +kernel
  have hM := hP
  have hI := hZ.1
  refine lv_aload_n hx hb dX8_waitsFor_0 rfl (lv_at hl 0 rfl) ?_
  refine lv_aload_n hx hb dX8_waitsFor_1 rfl (lv_at hl 0 rfl) ?_
  refine lv_iload_n hx hb dX8_waitsFor_2 rfl (lv_at hl 1 rfl) ?_
  refine kx_retP (va_runV (As := [.int (x)]) (rest := [.ref (a)]) ⟨hx, hb, hml, hown, hts⟩ (k_X8_isMove l D cs a z x hI) (cwV 1 hts gX8_waitsFor_X8_isMove rfl rfl rfl (by decide +kernel) ⟨Nat.le_of_ble_eq_true rfl, Nat.le_of_ble_eq_true rfl⟩) (kx_preV hK hN hM.1 rfl hM) rfl rfl hl.1 rfl (lv_room (Nat.le_of_ble_eq_true rfl)) dX8_waitsFor_3 ⟨Nat.le_of_ble_eq_true rfl, Nat.le_of_ble_eq_true rfl⟩) ?_
  refine kb_if_eq (tgt := 13) hx hb dX8_waitsFor_6 (by decide) (fun c_1 => ?_) (fun c_1 => ?_)
  · refine lv_iconst (v := nI 1) hx hb dX8_waitsFor_13 (by decide) ?_
    refine kx_ci (x := nI (1)) (y := nI (mwN z x)) (congrArg nI (by first | (simp [mwN, *]; done) | (exfalso; omega) | (exfalso; simp_all; done))) ?_
    refine kx_put hx hb hts hinX8 tyX8_ok nmX8 hown hK hM.1 rfl hS ⟨by omega, by omega⟩ 0 (by decide) (by decide +kernel) rfl rfl rfl (Nat.le_of_ble_eq_true rfl) dX8_waitsFor_14 (fun H locs hc hU hS => ?_)
    have hM := hM.put_thrown hc hU
    clear hc hU
    refine lv_aload_n hx hb dX8_waitsFor_17 rfl (lv_at hl 0 rfl) ?_
    refine kx_get (v := .int ((upd z 4403 (nI (mwN z x))) 4403)) hx hb hts hinX8 hown hK hM.1 rfl 0 (by decide) (by decide +kernel) rfl dX8_waitsFor_18 ?_
    refine kx_ci (y := nI (mwN z x)) pk_us ?_
    refine kn_if_le (tgt := 28) hx hb dX8_waitsFor_21 (by decide) (lt31 (mwN_2 _ _)) (fun hw0 => ?_) (fun hw0 => ?_)
    · rw [hw0] at hM
      obtain ⟨q, hq, rfl⟩ := mwN_0 hI hw0
      have hnq : nn (nI q) = q := nn_nI (by have := hI.M24; omega)
      refine lv_aload_n hx hb dX8_waitsFor_28 rfl (lv_at hl 0 rfl) ?_
      refine lv_iload_n hx hb dX8_waitsFor_29 rfl (lv_at hl 1 rfl) ?_
      refine kx_retP (va_runV (As := [.int (nI (q))]) (rest := []) ⟨hx, hb, hml, hown, hts⟩ (k_X8_waitsOf l D cs a (t0 z) q (th_inv hI _) (by first | assumption | omega)) (cwV 1 hts gX8_waitsFor_X8_waitsOf rfl rfl rfl (by decide +kernel) ⟨Nat.le_of_ble_eq_true rfl, Nat.le_of_ble_eq_true rfl⟩) (kx_preV hK hN hM.1 rfl hM) rfl rfl hl.1 rfl (lv_room (Nat.le_of_ble_eq_true rfl)) dX8_waitsFor_30 ⟨Nat.le_of_ble_eq_true rfl, Nat.le_of_ble_eq_true rfl⟩) ?_
      exact kx_iretM hx hb hrt hlk (by first | (rw [if_neg hw0]; done) | (rw [if_pos hw0, hnq]; done)) (by first | (rw [hw0]; exact hM) | exact hM) hS dX8_waitsFor_33
    · refine lv_iconst (v := nI 0) hx hb dX8_waitsFor_24 (by decide) ?_
      refine lv_goto (tgt := 33) hx hb dX8_waitsFor_25 (by decide) ?_
      exact kx_iretM hx hb hrt hlk (by first | (rw [if_neg hw0]; done) | (rw [if_pos hw0, hnq]; done)) (by first | (rw [hw0]; exact hM) | exact hM) hS dX8_waitsFor_33
  · refine lv_iconst (v := nI 0) hx hb dX8_waitsFor_9 (by decide) ?_
    refine lv_goto (tgt := 14) hx hb dX8_waitsFor_10 (by decide) ?_
    refine kx_ci (x := nI (0)) (y := nI (mwN z x)) (congrArg nI (by first | (simp [mwN, *]; done) | (exfalso; omega) | (exfalso; simp_all; done))) ?_
    refine kx_put hx hb hts hinX8 tyX8_ok nmX8 hown hK hM.1 rfl hS ⟨by omega, by omega⟩ 0 (by decide) (by decide +kernel) rfl rfl rfl (Nat.le_of_ble_eq_true rfl) dX8_waitsFor_14 (fun H locs hc hU hS => ?_)
    have hM := hM.put_thrown hc hU
    clear hc hU
    refine lv_aload_n hx hb dX8_waitsFor_17 rfl (lv_at hl 0 rfl) ?_
    refine kx_get (v := .int ((upd z 4403 (nI (mwN z x))) 4403)) hx hb hts hinX8 hown hK hM.1 rfl 0 (by decide) (by decide +kernel) rfl dX8_waitsFor_18 ?_
    refine kx_ci (y := nI (mwN z x)) pk_us ?_
    refine kn_if_le (tgt := 28) hx hb dX8_waitsFor_21 (by decide) (lt31 (mwN_2 _ _)) (fun hw0 => ?_) (fun hw0 => ?_)
    · rw [hw0] at hM
      obtain ⟨q, hq, rfl⟩ := mwN_0 hI hw0
      have hnq : nn (nI q) = q := nn_nI (by have := hI.M24; omega)
      refine lv_aload_n hx hb dX8_waitsFor_28 rfl (lv_at hl 0 rfl) ?_
      refine lv_iload_n hx hb dX8_waitsFor_29 rfl (lv_at hl 1 rfl) ?_
      refine kx_retP (va_runV (As := [.int (nI (q))]) (rest := []) ⟨hx, hb, hml, hown, hts⟩ (k_X8_waitsOf l D cs a (t0 z) q (th_inv hI _) (by first | assumption | omega)) (cwV 1 hts gX8_waitsFor_X8_waitsOf rfl rfl rfl (by decide +kernel) ⟨Nat.le_of_ble_eq_true rfl, Nat.le_of_ble_eq_true rfl⟩) (kx_preV hK hN hM.1 rfl hM) rfl rfl hl.1 rfl (lv_room (Nat.le_of_ble_eq_true rfl)) dX8_waitsFor_30 ⟨Nat.le_of_ble_eq_true rfl, Nat.le_of_ble_eq_true rfl⟩) ?_
      exact kx_iretM hx hb hrt hlk (by first | (rw [if_neg hw0]; done) | (rw [if_pos hw0, hnq]; done)) (by first | (rw [hw0]; exact hM) | exact hM) hS dX8_waitsFor_33
    · refine lv_iconst (v := nI 0) hx hb dX8_waitsFor_24 (by decide) ?_
      refine lv_goto (tgt := 33) hx hb dX8_waitsFor_25 (by decide) ?_
      exact kx_iretM hx hb hrt hlk (by first | (rw [if_neg hw0]; done) | (rw [if_pos hw0, hnq]; done)) (by first | (rw [hw0]; exact hM) | exact hM) hS dX8_waitsFor_33
set_option maxHeartbeats 500000 in
set_option maxRecDepth 100000 in
theorem k_X8_depth (l : Launch) (D : va_G) (cs : Nat → ClassId) (a : Nat) (z : Nat → Int32) (x : Int32) (hZ : InvZ z) : Met l yX8_depth wsX8_depth ({ frames := 6, cells := 0, slots := 0, locals := 143 } : Room) (PcK D cs [.ref (a), .int (x)] (fun H => MdC D (cs 0) a z H)) (QcM (some (.int (if mwN z x = 0 then nI (dpN (t0 z) (nn x)) else nI 0))) (fun H => MdC D (cs 0) a (if mwN z x = 0 then dzK (t0 z) (nn x + 1) else upd z 4403 (nI (mwN z x))) H) (rgM a)) 0 0 ((rgM a)) := by
  refine kx_met (cc := cX8_depth) (maxL := 2) (ret := (some .int)) (by decide) rfl (Nat.le_of_ble_eq_true rfl) ?_
  intro p e s m args below meth c hx hb hml hrt hts hown hlk hK hN hP ls hl
  have hl : lv_has ls 2 [(0, .ref (a)), (1, .int (x))] := hl
  obtain ⟨H, hHe⟩ : ∃ H : Heap, H = s.heap := ⟨_, rfl⟩
  rw [← hHe] at hP ⊢
  have hS : va_S ((rgM a)) s.heap H [] := by rw [← hHe]; exact va_S.rf
  have hinX8 : ∀ w ∈ wsX80, w ∈ wsX8_depth := by decide +kernel
  have hM := hP
  have hI := hZ.1
  refine lv_aload_n hx hb dX8_depth_0 rfl (lv_at hl 0 rfl) ?_
  refine lv_aload_n hx hb dX8_depth_1 rfl (lv_at hl 0 rfl) ?_
  refine lv_iload_n hx hb dX8_depth_2 rfl (lv_at hl 1 rfl) ?_
  refine kx_retP (va_runV (As := [.int (x)]) (rest := [.ref (a)]) ⟨hx, hb, hml, hown, hts⟩ (k_X8_isMove l D cs a z x hI) (cwV 1 hts gX8_depth_X8_isMove rfl rfl rfl (by decide +kernel) ⟨Nat.le_of_ble_eq_true rfl, Nat.le_of_ble_eq_true rfl⟩) (kx_preV hK hN hM.1 rfl hM) rfl rfl hl.1 rfl (lv_room (Nat.le_of_ble_eq_true rfl)) dX8_depth_3 ⟨Nat.le_of_ble_eq_true rfl, Nat.le_of_ble_eq_true rfl⟩) ?_
  refine kb_if_eq (tgt := 13) hx hb dX8_depth_6 (by decide) (fun c_1 => ?_) (fun c_1 => ?_)
  · refine lv_iconst (v := nI 1) hx hb dX8_depth_13 (by decide) ?_
    refine kx_ci (x := nI (1)) (y := nI (mwN z x)) (congrArg nI (by first | (simp [mwN, *]; done) | (exfalso; omega) | (exfalso; simp_all; done))) ?_
    refine kx_put hx hb hts hinX8 tyX8_ok nmX8 hown hK hM.1 rfl hS ⟨by omega, by omega⟩ 0 (by decide) (by decide +kernel) rfl rfl rfl (Nat.le_of_ble_eq_true rfl) dX8_depth_14 (fun H locs hc hU hS => ?_)
    have hM := hM.put_thrown hc hU
    clear hc hU
    refine lv_aload_n hx hb dX8_depth_17 rfl (lv_at hl 0 rfl) ?_
    refine kx_get (v := .int ((upd z 4403 (nI (mwN z x))) 4403)) hx hb hts hinX8 hown hK hM.1 rfl 0 (by decide) (by decide +kernel) rfl dX8_depth_18 ?_
    refine kx_ci (y := nI (mwN z x)) pk_us ?_
    refine kn_if_le (tgt := 28) hx hb dX8_depth_21 (by decide) (lt31 (mwN_2 _ _)) (fun hw0 => ?_) (fun hw0 => ?_)
    · rw [hw0] at hM
      obtain ⟨q, hq, rfl⟩ := mwN_0 hI hw0
      have hnq : nn (nI q) = q := nn_nI (by have := hI.M24; omega)
      refine lv_aload_n hx hb dX8_depth_28 rfl (lv_at hl 0 rfl) ?_
      refine lv_iload_n hx hb dX8_depth_29 rfl (lv_at hl 1 rfl) ?_
      refine kx_retM (va_runV (As := [.int (nI (q))]) (rest := []) ⟨hx, hb, hml, hown, hts⟩ (k_X8_depthOf l D cs a (t0 z) q (th_inv hI _) (by first | assumption | omega)) (cwV 1 hts gX8_depth_X8_depthOf rfl rfl rfl (by decide +kernel) ⟨Nat.le_of_ble_eq_true rfl, Nat.le_of_ble_eq_true rfl⟩) (kx_preV hK hN hM.1 rfl hM) rfl rfl hl.1 rfl (lv_room (Nat.le_of_ble_eq_true rfl)) dX8_depth_30 ⟨Nat.le_of_ble_eq_true rfl, Nat.le_of_ble_eq_true rfl⟩) hS (fun q _ h => h) (fun q h => h) (fun H locs hM hk hS => ?_)
      clear hk
      exact kx_iretM hx hb hrt hlk (by first | (rw [if_neg hw0]; done) | (rw [if_pos hw0, hnq]; done)) (by first | (rw [if_neg hw0]; exact hM) | (rw [if_pos hw0, hnq]; exact hM)) hS dX8_depth_33
    · refine lv_iconst (v := nI 0) hx hb dX8_depth_24 (by decide) ?_
      refine lv_goto (tgt := 33) hx hb dX8_depth_25 (by decide) ?_
      exact kx_iretM hx hb hrt hlk (by first | (rw [if_neg hw0]; done) | (rw [if_pos hw0, hnq]; done)) (by first | (rw [if_neg hw0]; exact hM) | (rw [if_pos hw0, hnq]; exact hM)) hS dX8_depth_33
  · refine lv_iconst (v := nI 0) hx hb dX8_depth_9 (by decide) ?_
    refine lv_goto (tgt := 14) hx hb dX8_depth_10 (by decide) ?_
    refine kx_ci (x := nI (0)) (y := nI (mwN z x)) (congrArg nI (by first | (simp [mwN, *]; done) | (exfalso; omega) | (exfalso; simp_all; done))) ?_
    refine kx_put hx hb hts hinX8 tyX8_ok nmX8 hown hK hM.1 rfl hS ⟨by omega, by omega⟩ 0 (by decide) (by decide +kernel) rfl rfl rfl (Nat.le_of_ble_eq_true rfl) dX8_depth_14 (fun H locs hc hU hS => ?_)
    have hM := hM.put_thrown hc hU
    clear hc hU
    refine lv_aload_n hx hb dX8_depth_17 rfl (lv_at hl 0 rfl) ?_
    refine kx_get (v := .int ((upd z 4403 (nI (mwN z x))) 4403)) hx hb hts hinX8 hown hK hM.1 rfl 0 (by decide) (by decide +kernel) rfl dX8_depth_18 ?_
    refine kx_ci (y := nI (mwN z x)) pk_us ?_
    refine kn_if_le (tgt := 28) hx hb dX8_depth_21 (by decide) (lt31 (mwN_2 _ _)) (fun hw0 => ?_) (fun hw0 => ?_)
    · rw [hw0] at hM
      obtain ⟨q, hq, rfl⟩ := mwN_0 hI hw0
      have hnq : nn (nI q) = q := nn_nI (by have := hI.M24; omega)
      refine lv_aload_n hx hb dX8_depth_28 rfl (lv_at hl 0 rfl) ?_
      refine lv_iload_n hx hb dX8_depth_29 rfl (lv_at hl 1 rfl) ?_
      refine kx_retM (va_runV (As := [.int (nI (q))]) (rest := []) ⟨hx, hb, hml, hown, hts⟩ (k_X8_depthOf l D cs a (t0 z) q (th_inv hI _) (by first | assumption | omega)) (cwV 1 hts gX8_depth_X8_depthOf rfl rfl rfl (by decide +kernel) ⟨Nat.le_of_ble_eq_true rfl, Nat.le_of_ble_eq_true rfl⟩) (kx_preV hK hN hM.1 rfl hM) rfl rfl hl.1 rfl (lv_room (Nat.le_of_ble_eq_true rfl)) dX8_depth_30 ⟨Nat.le_of_ble_eq_true rfl, Nat.le_of_ble_eq_true rfl⟩) hS (fun q _ h => h) (fun q h => h) (fun H locs hM hk hS => ?_)
      clear hk
      exact kx_iretM hx hb hrt hlk (by first | (rw [if_neg hw0]; done) | (rw [if_pos hw0, hnq]; done)) (by first | (rw [if_neg hw0]; exact hM) | (rw [if_pos hw0, hnq]; exact hM)) hS dX8_depth_33
    · refine lv_iconst (v := nI 0) hx hb dX8_depth_24 (by decide) ?_
      refine lv_goto (tgt := 33) hx hb dX8_depth_25 (by decide) ?_
      exact kx_iretM hx hb hrt hlk (by first | (rw [if_neg hw0]; done) | (rw [if_pos hw0, hnq]; done)) (by first | (rw [if_neg hw0]; exact hM) | (rw [if_pos hw0, hnq]; exact hM)) hS dX8_depth_33
set_option maxHeartbeats 500000 in
set_option maxRecDepth 100000 in
theorem k_X8_ring (l : Launch) (D : va_G) (cs : Nat → ClassId) (a : Nat) (z : Nat → Int32) (x y : Int32) (hZ : InvZ z) : Met l yX8_ring wsX8_ring ({ frames := 3, cells := 0, slots := 0, locals := 71 } : Room) (PcK D cs [.ref (a), .int (x), .int (y)] (fun H => MdC D (cs 0) a z H)) (QcM (some (.int (if rwN z x y = 0 then rvI (t0 z) (nn x) (nn y) else nI 0))) (fun H => MdC D (cs 0) a (upd z 4403 (nI (rwN z x y))) H) (rgM a)) 0 0 ((rgM a)) := by
  refine kx_met (cc := cX8_ring) (maxL := 3) (ret := (some .int)) (by decide) rfl (Nat.le_of_ble_eq_true rfl) ?_
  intro p e s m args below meth c hx hb hml hrt hts hown hlk hK hN hP ls hl
  have hl : lv_has ls 3 [(0, .ref (a)), (1, .int (x)), (2, .int (y))] := hl
  obtain ⟨H, hHe⟩ : ∃ H : Heap, H = s.heap := ⟨_, rfl⟩
  rw [← hHe] at hP ⊢
  have hS : va_S ((rgM a)) s.heap H [] := by rw [← hHe]; exact va_S.rf
  have hinX8 : ∀ w ∈ wsX80, w ∈ wsX8_ring := by decide +kernel
  have hM := hP
  have hI := hZ.1
  refine lv_aload_n hx hb dX8_ring_0 rfl (lv_at hl 0 rfl) ?_
  refine lv_aload_n hx hb dX8_ring_1 rfl (lv_at hl 0 rfl) ?_
  refine lv_iload_n hx hb dX8_ring_2 rfl (lv_at hl 1 rfl) ?_
  refine kx_retP (va_runV (As := [.int (x)]) (rest := [.ref (a)]) ⟨hx, hb, hml, hown, hts⟩ (k_X8_isRing l D cs a z x hI) (cwV 1 hts gX8_ring_X8_isRing rfl rfl rfl (by decide +kernel) ⟨Nat.le_of_ble_eq_true rfl, Nat.le_of_ble_eq_true rfl⟩) (kx_preV hK hN hM.1 rfl hM) rfl rfl hl.1 rfl (lv_room (Nat.le_of_ble_eq_true rfl)) dX8_ring_3 ⟨Nat.le_of_ble_eq_true rfl, Nat.le_of_ble_eq_true rfl⟩) ?_
  refine kb_if_ne (tgt := 13) hx hb dX8_ring_6 (by decide) (fun c_1 => ?_) (fun c_1 => ?_)
  · refine lv_iload_n hx hb dX8_ring_13 rfl (lv_at hl 2 rfl) ?_
    refine lv_iconst (v := nI 0) hx hb dX8_ring_14 (by decide) ?_
    refine lv_bipush (v := nI 7) hx hb dX8_ring_15 (by decide) ?_
    refine kx_retP (va_runS (As := [.int (y), .int (nI (0)), .int (nI (7))]) (rest := [.ref (a)]) ⟨hx, hb, hml, hown, hts⟩ (k_X8_within l D cs y (nI (0)) (nI (7))) (cwS 3 hts gX8_ring_X8_within rfl rfl rfl (by decide +kernel) ⟨Nat.le_of_ble_eq_true rfl, Nat.le_of_ble_eq_true rfl⟩) (kx_preS hK hN trivial) rfl rfl hl.1 rfl (lv_room (Nat.le_of_ble_eq_true rfl)) dX8_ring_17 ⟨Nat.le_of_ble_eq_true rfl, Nat.le_of_ble_eq_true rfl⟩) ?_
    refine kb_if_eq (tgt := 27) hx hb dX8_ring_20 (by decide) (fun c_2 => ?_) (fun c_2 => ?_)
    · refine lv_iconst (v := nI 2) hx hb dX8_ring_27 (by decide) ?_
      refine kx_ci (x := nI (2)) (y := nI (rwN z x y)) (congrArg nI (by first | (simp [rwN, *]; done) | (exfalso; omega) | (exfalso; simp_all; done))) ?_
      refine kx_put hx hb hts hinX8 tyX8_ok nmX8 hown hK hM.1 rfl hS ⟨by omega, by omega⟩ 0 (by decide) (by decide +kernel) rfl rfl rfl (Nat.le_of_ble_eq_true rfl) dX8_ring_28 (fun H locs hc hU hS => ?_)
      have hM := hM.put_thrown hc hU
      clear hc hU
      refine lv_aload_n hx hb dX8_ring_31 rfl (lv_at hl 0 rfl) ?_
      refine kx_get (v := .int ((upd z 4403 (nI (rwN z x y))) 4403)) hx hb hts hinX8 hown hK hM.1 rfl 0 (by decide) (by decide +kernel) rfl dX8_ring_32 ?_
      refine kx_ci (y := nI (rwN z x y)) pk_us ?_
      refine kn_if_le (tgt := 42) hx hb dX8_ring_35 (by decide) (lt31 (rwN_2 _ _ _)) (fun hw0 => ?_) (fun hw0 => ?_)
      · rw [hw0] at hM
        obtain ⟨q, w, hq, hw, rfl, rfl⟩ := rwN_0 hI hw0
        have hnq : nn (nI q) = q := nn_nI (by have := hI.M24; have := hI.R6; omega)
        have hnw : nn (nI w) = w := nn_nI (by omega)
        refine lv_aload_n hx hb dX8_ring_42 rfl (lv_at hl 0 rfl) ?_
        refine lv_iload_n hx hb dX8_ring_43 rfl (lv_at hl 1 rfl) ?_
        refine lv_iload_n hx hb dX8_ring_44 rfl (lv_at hl 2 rfl) ?_
        refine kx_retP (va_runV (As := [.int (nI (q)), .int (nI (w))]) (rest := []) ⟨hx, hb, hml, hown, hts⟩ (k_X8_ringValue l D cs a (t0 z) q w (th_inv hI _) (by first | assumption | omega) (by first | assumption | omega)) (cwV 2 hts gX8_ring_X8_ringValue rfl rfl rfl (by decide +kernel) ⟨Nat.le_of_ble_eq_true rfl, Nat.le_of_ble_eq_true rfl⟩) (kx_preV hK hN hM.1 rfl hM) rfl rfl hl.1 rfl (lv_room (Nat.le_of_ble_eq_true rfl)) dX8_ring_45 ⟨Nat.le_of_ble_eq_true rfl, Nat.le_of_ble_eq_true rfl⟩) ?_
        exact kx_iretM hx hb hrt hlk (by first | (rw [if_neg hw0]; done) | (rw [if_pos hw0, hnq, hnw]; done)) (by first | (rw [hw0]; exact hM) | exact hM) hS dX8_ring_48
      · refine lv_iconst (v := nI 0) hx hb dX8_ring_38 (by decide) ?_
        refine lv_goto (tgt := 48) hx hb dX8_ring_39 (by decide) ?_
        exact kx_iretM hx hb hrt hlk (by first | (rw [if_neg hw0]; done) | (rw [if_pos hw0, hnq, hnw]; done)) (by first | (rw [hw0]; exact hM) | exact hM) hS dX8_ring_48
    · refine lv_iconst (v := nI 0) hx hb dX8_ring_23 (by decide) ?_
      refine lv_goto (tgt := 28) hx hb dX8_ring_24 (by decide) ?_
      refine kx_ci (x := nI (0)) (y := nI (rwN z x y)) (congrArg nI (by first | (simp [rwN, *]; done) | (exfalso; omega) | (exfalso; simp_all; done))) ?_
      refine kx_put hx hb hts hinX8 tyX8_ok nmX8 hown hK hM.1 rfl hS ⟨by omega, by omega⟩ 0 (by decide) (by decide +kernel) rfl rfl rfl (Nat.le_of_ble_eq_true rfl) dX8_ring_28 (fun H locs hc hU hS => ?_)
      have hM := hM.put_thrown hc hU
      clear hc hU
      refine lv_aload_n hx hb dX8_ring_31 rfl (lv_at hl 0 rfl) ?_
      refine kx_get (v := .int ((upd z 4403 (nI (rwN z x y))) 4403)) hx hb hts hinX8 hown hK hM.1 rfl 0 (by decide) (by decide +kernel) rfl dX8_ring_32 ?_
      refine kx_ci (y := nI (rwN z x y)) pk_us ?_
      refine kn_if_le (tgt := 42) hx hb dX8_ring_35 (by decide) (lt31 (rwN_2 _ _ _)) (fun hw0 => ?_) (fun hw0 => ?_)
      · rw [hw0] at hM
        obtain ⟨q, w, hq, hw, rfl, rfl⟩ := rwN_0 hI hw0
        have hnq : nn (nI q) = q := nn_nI (by have := hI.M24; have := hI.R6; omega)
        have hnw : nn (nI w) = w := nn_nI (by omega)
        refine lv_aload_n hx hb dX8_ring_42 rfl (lv_at hl 0 rfl) ?_
        refine lv_iload_n hx hb dX8_ring_43 rfl (lv_at hl 1 rfl) ?_
        refine lv_iload_n hx hb dX8_ring_44 rfl (lv_at hl 2 rfl) ?_
        refine kx_retP (va_runV (As := [.int (nI (q)), .int (nI (w))]) (rest := []) ⟨hx, hb, hml, hown, hts⟩ (k_X8_ringValue l D cs a (t0 z) q w (th_inv hI _) (by first | assumption | omega) (by first | assumption | omega)) (cwV 2 hts gX8_ring_X8_ringValue rfl rfl rfl (by decide +kernel) ⟨Nat.le_of_ble_eq_true rfl, Nat.le_of_ble_eq_true rfl⟩) (kx_preV hK hN hM.1 rfl hM) rfl rfl hl.1 rfl (lv_room (Nat.le_of_ble_eq_true rfl)) dX8_ring_45 ⟨Nat.le_of_ble_eq_true rfl, Nat.le_of_ble_eq_true rfl⟩) ?_
        exact kx_iretM hx hb hrt hlk (by first | (rw [if_neg hw0]; done) | (rw [if_pos hw0, hnq, hnw]; done)) (by first | (rw [hw0]; exact hM) | exact hM) hS dX8_ring_48
      · refine lv_iconst (v := nI 0) hx hb dX8_ring_38 (by decide) ?_
        refine lv_goto (tgt := 48) hx hb dX8_ring_39 (by decide) ?_
        exact kx_iretM hx hb hrt hlk (by first | (rw [if_neg hw0]; done) | (rw [if_pos hw0, hnq, hnw]; done)) (by first | (rw [hw0]; exact hM) | exact hM) hS dX8_ring_48
  · refine lv_iconst (v := nI 1) hx hb dX8_ring_9 (by decide) ?_
    refine lv_goto (tgt := 28) hx hb dX8_ring_10 (by decide) ?_
    refine kx_ci (x := nI (1)) (y := nI (rwN z x y)) (congrArg nI (by first | (simp [rwN, *]; done) | (exfalso; omega) | (exfalso; simp_all; done))) ?_
    refine kx_put hx hb hts hinX8 tyX8_ok nmX8 hown hK hM.1 rfl hS ⟨by omega, by omega⟩ 0 (by decide) (by decide +kernel) rfl rfl rfl (Nat.le_of_ble_eq_true rfl) dX8_ring_28 (fun H locs hc hU hS => ?_)
    have hM := hM.put_thrown hc hU
    clear hc hU
    refine lv_aload_n hx hb dX8_ring_31 rfl (lv_at hl 0 rfl) ?_
    refine kx_get (v := .int ((upd z 4403 (nI (rwN z x y))) 4403)) hx hb hts hinX8 hown hK hM.1 rfl 0 (by decide) (by decide +kernel) rfl dX8_ring_32 ?_
    refine kx_ci (y := nI (rwN z x y)) pk_us ?_
    refine kn_if_le (tgt := 42) hx hb dX8_ring_35 (by decide) (lt31 (rwN_2 _ _ _)) (fun hw0 => ?_) (fun hw0 => ?_)
    · rw [hw0] at hM
      obtain ⟨q, w, hq, hw, rfl, rfl⟩ := rwN_0 hI hw0
      have hnq : nn (nI q) = q := nn_nI (by have := hI.M24; have := hI.R6; omega)
      have hnw : nn (nI w) = w := nn_nI (by omega)
      refine lv_aload_n hx hb dX8_ring_42 rfl (lv_at hl 0 rfl) ?_
      refine lv_iload_n hx hb dX8_ring_43 rfl (lv_at hl 1 rfl) ?_
      refine lv_iload_n hx hb dX8_ring_44 rfl (lv_at hl 2 rfl) ?_
      refine kx_retP (va_runV (As := [.int (nI (q)), .int (nI (w))]) (rest := []) ⟨hx, hb, hml, hown, hts⟩ (k_X8_ringValue l D cs a (t0 z) q w (th_inv hI _) (by first | assumption | omega) (by first | assumption | omega)) (cwV 2 hts gX8_ring_X8_ringValue rfl rfl rfl (by decide +kernel) ⟨Nat.le_of_ble_eq_true rfl, Nat.le_of_ble_eq_true rfl⟩) (kx_preV hK hN hM.1 rfl hM) rfl rfl hl.1 rfl (lv_room (Nat.le_of_ble_eq_true rfl)) dX8_ring_45 ⟨Nat.le_of_ble_eq_true rfl, Nat.le_of_ble_eq_true rfl⟩) ?_
      exact kx_iretM hx hb hrt hlk (by first | (rw [if_neg hw0]; done) | (rw [if_pos hw0, hnq, hnw]; done)) (by first | (rw [hw0]; exact hM) | exact hM) hS dX8_ring_48
    · refine lv_iconst (v := nI 0) hx hb dX8_ring_38 (by decide) ?_
      refine lv_goto (tgt := 48) hx hb dX8_ring_39 (by decide) ?_
      exact kx_iretM hx hb hrt hlk (by first | (rw [if_neg hw0]; done) | (rw [if_pos hw0, hnq, hnw]; done)) (by first | (rw [hw0]; exact hM) | exact hM) hS dX8_ring_48
set_option maxHeartbeats 500000 in
set_option maxRecDepth 100000 in
theorem k_X8_whole (l : Launch) (D : va_G) (cs : Nat → ClassId) (a : Nat) (z : Nat → Int32) (x : Int32) (hZ : InvZ z) : Met l yX8_whole wsX8_whole ({ frames := 6, cells := 0, slots := 0, locals := 142 } : Room) (PcK D cs [.ref (a), .int (x)] (fun H => MdC D (cs 0) a z H)) (QcM (some (.int (if wwN x = 0 then wvI (t0 z) (nn x) else nI 0))) (fun H => MdC D (cs 0) a (upd z 4403 (nI (wwN x))) H) (rgM a)) 0 0 ((rgM a)) := by
  refine kx_met (cc := cX8_whole) (maxL := 2) (ret := (some .int)) (by decide) rfl (Nat.le_of_ble_eq_true rfl) ?_
  intro p e s m args below meth c hx hb hml hrt hts hown hlk hK hN hP ls hl
  have hl : lv_has ls 2 [(0, .ref (a)), (1, .int (x))] := hl
  obtain ⟨H, hHe⟩ : ∃ H : Heap, H = s.heap := ⟨_, rfl⟩
  rw [← hHe] at hP ⊢
  have hS : va_S ((rgM a)) s.heap H [] := by rw [← hHe]; exact va_S.rf
  have hinX8 : ∀ w ∈ wsX80, w ∈ wsX8_whole := by decide +kernel
  have hM := hP
  have hI := hZ.1
  refine lv_aload_n hx hb dX8_whole_0 rfl (lv_at hl 0 rfl) ?_
  refine lv_iload_n hx hb dX8_whole_1 rfl (lv_at hl 1 rfl) ?_
  refine lv_iconst (v := nI 0) hx hb dX8_whole_2 (by decide) ?_
  refine lv_bipush (v := nI 14) hx hb dX8_whole_3 (by decide) ?_
  refine kx_retP (va_runS (As := [.int (x), .int (nI (0)), .int (nI (14))]) (rest := [.ref (a)]) ⟨hx, hb, hml, hown, hts⟩ (k_X8_within l D cs x (nI (0)) (nI (14))) (cwS 3 hts gX8_whole_X8_within rfl rfl rfl (by decide +kernel) ⟨Nat.le_of_ble_eq_true rfl, Nat.le_of_ble_eq_true rfl⟩) (kx_preS hK hN trivial) rfl rfl hl.1 rfl (lv_room (Nat.le_of_ble_eq_true rfl)) dX8_whole_5 ⟨Nat.le_of_ble_eq_true rfl, Nat.le_of_ble_eq_true rfl⟩) ?_
  refine kb_if_eq (tgt := 15) hx hb dX8_whole_8 (by decide) (fun c_1 => ?_) (fun c_1 => ?_)
  · refine lv_iconst (v := nI 1) hx hb dX8_whole_15 (by decide) ?_
    refine kx_ci (x := nI (1)) (y := nI (wwN x)) (congrArg nI (by first | (simp [wwN, *]; done) | (exfalso; omega) | (exfalso; simp_all; done))) ?_
    refine kx_put hx hb hts hinX8 tyX8_ok nmX8 hown hK hM.1 rfl hS ⟨by omega, by omega⟩ 0 (by decide) (by decide +kernel) rfl rfl rfl (Nat.le_of_ble_eq_true rfl) dX8_whole_16 (fun H locs hc hU hS => ?_)
    have hM := hM.put_thrown hc hU
    clear hc hU
    refine lv_aload_n hx hb dX8_whole_19 rfl (lv_at hl 0 rfl) ?_
    refine kx_get (v := .int ((upd z 4403 (nI (wwN x))) 4403)) hx hb hts hinX8 hown hK hM.1 rfl 0 (by decide) (by decide +kernel) rfl dX8_whole_20 ?_
    refine kx_ci (y := nI (wwN x)) pk_us ?_
    refine kn_if_le (tgt := 30) hx hb dX8_whole_23 (by decide) (lt31 (wwN_2 _)) (fun hw0 => ?_) (fun hw0 => ?_)
    · rw [hw0] at hM
      obtain ⟨q, hq, rfl⟩ := wwN_0 hw0
      have hnq : nn (nI q) = q := nn_nI (by omega)
      refine lv_aload_n hx hb dX8_whole_30 rfl (lv_at hl 0 rfl) ?_
      refine lv_iload_n hx hb dX8_whole_31 rfl (lv_at hl 1 rfl) ?_
      refine kx_retP (va_runV (As := [.int (nI (q))]) (rest := []) ⟨hx, hb, hml, hown, hts⟩ (k_X8_wholeValue l D cs a (t0 z) q (th_inv hI _) (by first | assumption | omega)) (cwV 1 hts gX8_whole_X8_wholeValue rfl rfl rfl (by decide +kernel) ⟨Nat.le_of_ble_eq_true rfl, Nat.le_of_ble_eq_true rfl⟩) (kx_preV hK hN hM.1 rfl hM) rfl rfl hl.1 rfl (lv_room (Nat.le_of_ble_eq_true rfl)) dX8_whole_32 ⟨Nat.le_of_ble_eq_true rfl, Nat.le_of_ble_eq_true rfl⟩) ?_
      exact kx_iretM hx hb hrt hlk (by first | (rw [if_neg hw0]; done) | (rw [if_pos hw0, hnq]; done)) (by first | (rw [hw0]; exact hM) | exact hM) hS dX8_whole_35
    · refine lv_iconst (v := nI 0) hx hb dX8_whole_26 (by decide) ?_
      refine lv_goto (tgt := 35) hx hb dX8_whole_27 (by decide) ?_
      exact kx_iretM hx hb hrt hlk (by first | (rw [if_neg hw0]; done) | (rw [if_pos hw0, hnq]; done)) (by first | (rw [hw0]; exact hM) | exact hM) hS dX8_whole_35
  · refine lv_iconst (v := nI 0) hx hb dX8_whole_11 (by decide) ?_
    refine lv_goto (tgt := 16) hx hb dX8_whole_12 (by decide) ?_
    refine kx_ci (x := nI (0)) (y := nI (wwN x)) (congrArg nI (by first | (simp [wwN, *]; done) | (exfalso; omega) | (exfalso; simp_all; done))) ?_
    refine kx_put hx hb hts hinX8 tyX8_ok nmX8 hown hK hM.1 rfl hS ⟨by omega, by omega⟩ 0 (by decide) (by decide +kernel) rfl rfl rfl (Nat.le_of_ble_eq_true rfl) dX8_whole_16 (fun H locs hc hU hS => ?_)
    have hM := hM.put_thrown hc hU
    clear hc hU
    refine lv_aload_n hx hb dX8_whole_19 rfl (lv_at hl 0 rfl) ?_
    refine kx_get (v := .int ((upd z 4403 (nI (wwN x))) 4403)) hx hb hts hinX8 hown hK hM.1 rfl 0 (by decide) (by decide +kernel) rfl dX8_whole_20 ?_
    refine kx_ci (y := nI (wwN x)) pk_us ?_
    refine kn_if_le (tgt := 30) hx hb dX8_whole_23 (by decide) (lt31 (wwN_2 _)) (fun hw0 => ?_) (fun hw0 => ?_)
    · rw [hw0] at hM
      obtain ⟨q, hq, rfl⟩ := wwN_0 hw0
      have hnq : nn (nI q) = q := nn_nI (by omega)
      refine lv_aload_n hx hb dX8_whole_30 rfl (lv_at hl 0 rfl) ?_
      refine lv_iload_n hx hb dX8_whole_31 rfl (lv_at hl 1 rfl) ?_
      refine kx_retP (va_runV (As := [.int (nI (q))]) (rest := []) ⟨hx, hb, hml, hown, hts⟩ (k_X8_wholeValue l D cs a (t0 z) q (th_inv hI _) (by first | assumption | omega)) (cwV 1 hts gX8_whole_X8_wholeValue rfl rfl rfl (by decide +kernel) ⟨Nat.le_of_ble_eq_true rfl, Nat.le_of_ble_eq_true rfl⟩) (kx_preV hK hN hM.1 rfl hM) rfl rfl hl.1 rfl (lv_room (Nat.le_of_ble_eq_true rfl)) dX8_whole_32 ⟨Nat.le_of_ble_eq_true rfl, Nat.le_of_ble_eq_true rfl⟩) ?_
      exact kx_iretM hx hb hrt hlk (by first | (rw [if_neg hw0]; done) | (rw [if_pos hw0, hnq]; done)) (by first | (rw [hw0]; exact hM) | exact hM) hS dX8_whole_35
    · refine lv_iconst (v := nI 0) hx hb dX8_whole_26 (by decide) ?_
      refine lv_goto (tgt := 35) hx hb dX8_whole_27 (by decide) ?_
      exact kx_iretM hx hb hrt hlk (by first | (rw [if_neg hw0]; done) | (rw [if_pos hw0, hnq]; done)) (by first | (rw [hw0]; exact hM) | exact hM) hS dX8_whole_35
set_option maxHeartbeats 500000 in
set_option maxRecDepth 100000 in
theorem k_X8_held (l : Launch) (D : va_G) (cs : Nat → ClassId) (a : Nat) (z : Nat → Int32) (hZ : InvZ z) : Met l yX8_held wsX8_held ({ frames := 5, cells := 0, slots := 0, locals := 116 } : Room) (PcK D cs [.ref (a)] (fun H => MdC D (cs 0) a z H)) (QcM (some (.long (lN (hcN (t0 z))))) (fun H => MdC D (cs 0) a (t0 z) H) (rgM a)) 0 0 ((rgM a)) := by
  refine kx_met (cc := cX8_held) (maxL := 1) (ret := (some .long)) (by decide) rfl (Nat.le_of_ble_eq_true rfl) ?_
  intro p e s m args below meth c hx hb hml hrt hts hown hlk hK hN hP ls hl
  have hl : lv_has ls 1 [(0, .ref (a))] := hl
  obtain ⟨H, hHe⟩ : ∃ H : Heap, H = s.heap := ⟨_, rfl⟩
  rw [← hHe] at hP ⊢
  have hS : va_S ((rgM a)) s.heap H [] := by rw [← hHe]; exact va_S.rf
  have hinX8 : ∀ w ∈ wsX80, w ∈ wsX8_held := by decide +kernel
  have hM := hP
  have hI := hZ.1
  refine lv_aload_n hx hb dX8_held_0 rfl (lv_at hl 0 rfl) ?_
  refine lv_iconst (v := nI 0) hx hb dX8_held_1 (by decide) ?_
  refine kx_put hx hb hts hinX8 tyX8_ok nmX8 hown hK hM.1 rfl hS ⟨by omega, by omega⟩ 0 (by decide) (by decide +kernel) rfl rfl rfl (Nat.le_of_ble_eq_true rfl) dX8_held_2 (fun H locs hc hU hS => ?_)
  have hM := hM.put_thrown hc hU
  clear hc hU
  have hM : MdC D (cs 0) a (t0 z) H := hM
  refine lv_aload_n hx hb dX8_held_5 rfl (lv_at hl 0 rfl) ?_
  refine kx_retP (va_runV (As := []) (rest := []) ⟨hx, hb, hml, hown, hts⟩ (k_X8_heldCells l D cs a (t0 z) (th_inv hI _)) (cwV 0 hts gX8_held_X8_heldCells rfl rfl rfl (by decide +kernel) ⟨Nat.le_of_ble_eq_true rfl, Nat.le_of_ble_eq_true rfl⟩) (kx_preV hK hN hM.1 rfl hM) rfl rfl hl.1 rfl (lv_room (Nat.le_of_ble_eq_true rfl)) dX8_held_6 ⟨Nat.le_of_ble_eq_true rfl, Nat.le_of_ble_eq_true rfl⟩) ?_
  exact kx_lretM hx hb hrt hlk rfl hM hS dX8_held_9
set_option maxHeartbeats 500000 in
set_option maxRecDepth 100000 in
theorem k_X8_type (l : Launch) (D : va_G) (cs : Nat → ClassId) (a : Nat) (z : Nat → Int32) (x : Int32) (hZ : InvZ z) : Met l yX8_type wsX8_type ({ frames := 1, cells := 0, slots := 0, locals := 22 } : Room) (PcK D cs [.ref (a), .int (x)] (fun H => MdC D (cs 0) a z H)) (QcM (some (.int (if twN z x = 0 then nI (Tl z + 1) else nI 0))) (fun H => MdC D (cs 0) a (if twN z x = 0 then tyF z x else upd z 4403 (nI (twN z x))) H) (rgM a)) 0 0 ((rgM a)) := by
  refine kx_met (cc := cX8_type) (maxL := 2) (ret := (some .int)) (by decide) rfl (Nat.le_of_ble_eq_true rfl) ?_
  intro p e s m args below meth c hx hb hml hrt hts hown hlk hK hN hP ls hl
  have hl : lv_has ls 2 [(0, .ref (a)), (1, .int (x))] := hl
  obtain ⟨H, hHe⟩ : ∃ H : Heap, H = s.heap := ⟨_, rfl⟩
  rw [← hHe] at hP ⊢
  have hS : va_S ((rgM a)) s.heap H [] := by rw [← hHe]; exact va_S.rf
  have hinX8 : ∀ w ∈ wsX80, w ∈ wsX8_type := by decide +kernel
  have hM := hP
  have hI := hZ.1
  refine lv_aload_n hx hb dX8_type_0 rfl (lv_at hl 0 rfl) ?_
  refine lv_iload_n hx hb dX8_type_1 rfl (lv_at hl 1 rfl) ?_
  refine lv_iconst (v := nI 0) hx hb dX8_type_2 (by decide) ?_
  refine lv_bipush (v := nI 127) hx hb dX8_type_3 (by decide) ?_
  refine kx_retP (va_runS (As := [.int (x), .int (nI (0)), .int (nI (127))]) (rest := [.ref (a)]) ⟨hx, hb, hml, hown, hts⟩ (k_X8_within l D cs x (nI (0)) (nI (127))) (cwS 3 hts gX8_type_X8_within rfl rfl rfl (by decide +kernel) ⟨Nat.le_of_ble_eq_true rfl, Nat.le_of_ble_eq_true rfl⟩) (kx_preS hK hN trivial) rfl rfl hl.1 rfl (lv_room (Nat.le_of_ble_eq_true rfl)) dX8_type_5 ⟨Nat.le_of_ble_eq_true rfl, Nat.le_of_ble_eq_true rfl⟩) ?_
  refine kb_if_ne (tgt := 15) hx hb dX8_type_8 (by decide) (fun c_1 => ?_) (fun c_1 => ?_)
  · refine lv_aload_n hx hb dX8_type_15 rfl (lv_at hl 0 rfl) ?_
    refine kx_get (v := .int (z 4405)) hx hb hts hinX8 hown hK hM.1 rfl 6 (by decide) (by decide +kernel) rfl dX8_type_16 ?_
    refine kx_ci (y := nI (Tl z)) hZ.2.2.2.1 ?_
    refine lv_sipush (v := nI 150) hx hb dX8_type_19 (by decide) ?_
    refine kn_icmp_ne (tgt := 29) hx hb dX8_type_22 (by decide) (by have := hZ.2.2.2.2; omega) (by decide) (fun c_2 => ?_) (fun c_2 => ?_)
    · refine lv_iconst (v := nI 0) hx hb dX8_type_29 (by decide) ?_
      refine kx_ci (x := nI (0)) (y := nI (twN z x)) (congrArg nI (by first | (simp [twN, *]; done) | (exfalso; omega) | (exfalso; simp_all; done))) ?_
      refine kx_put hx hb hts hinX8 tyX8_ok nmX8 hown hK hM.1 rfl hS ⟨by omega, by omega⟩ 0 (by decide) (by decide +kernel) rfl rfl rfl (Nat.le_of_ble_eq_true rfl) dX8_type_30 (fun H locs hc hU hS => ?_)
      have hM := hM.put_thrown hc hU
      clear hc hU
      refine lv_aload_n hx hb dX8_type_33 rfl (lv_at hl 0 rfl) ?_
      refine kx_get (v := .int ((upd z 4403 (nI (twN z x))) 4403)) hx hb hts hinX8 hown hK hM.1 rfl 0 (by decide) (by decide +kernel) rfl dX8_type_34 ?_
      refine kx_ci (y := nI (twN z x)) pk_us ?_
      refine kn_if_le (tgt := 42) hx hb dX8_type_37 (by decide) (lt31 (twN_2 _ _)) (fun hw0 => ?_) (fun hw0 => ?_)
      · rw [hw0] at hM
        have hTl : Tl z < 150 := tw_lt hZ hw0
        refine lv_aload_n hx hb dX8_type_42 rfl (lv_at hl 0 rfl) ?_
        refine kx_get (v := .ref (a + 4)) hx hb hts hinX8 hown hK hM.1 rfl 5 (by decide) (by decide +kernel) rfl dX8_type_43 ?_
        refine lv_aload_n hx hb dX8_type_46 rfl (lv_at hl 0 rfl) ?_
        refine kx_get (v := .int ((t0 z) 4405)) hx hb hts hinX8 hown hK hM.1 rfl 6 (by decide) (by decide +kernel) rfl dX8_type_47 ?_
        refine kx_ci (y := nI (Tl z)) ((t0_at z (by omega)).trans hZ.2.2.2.1) ?_
        refine lv_iload_n hx hb dX8_type_50 rfl (lv_at hl 1 rfl) ?_
        refine kx_iast (i := Tl z) hx hb hK hM.text hS ⟨by omega, by omega⟩ 0 rfl (by omega) (by decide) dX8_type_51 (fun H locs hc hU hS => ?_)
        have hM := hM.put_text (by omega) hc hU
        clear hc hU
        refine lv_aload_n hx hb dX8_type_52 rfl (lv_at hl 0 rfl) ?_
        refine lv_dup hx hb dX8_type_53 rfl ?_
        refine kx_get (v := .int ((upd (t0 z) (4224 + (Tl z)) x) 4405)) hx hb hts hinX8 hown hK hM.1 rfl 6 (by decide) (by decide +kernel) rfl dX8_type_54 ?_
        refine kx_ci (y := nI (Tl z)) (by rw [upd_at, if_neg (by omega)]; exact (t0_at z (by omega)).trans hZ.2.2.2.1) ?_
        refine lv_iconst (v := nI 1) hx hb dX8_type_57 (by decide) ?_
        refine kn_add hx hb dX8_type_58 ?_
        refine kx_put hx hb hts hinX8 tyX8_ok nmX8 hown hK hM.1 rfl hS ⟨by omega, by omega⟩ 6 (by decide) (by decide +kernel) rfl rfl rfl (Nat.le_of_ble_eq_true rfl) dX8_type_59 (fun H locs hc hU hS => ?_)
        have hM := hM.put_textLength hc hU
        clear hc hU
        refine lv_aload_n hx hb dX8_type_62 rfl (lv_at hl 0 rfl) ?_
        refine kx_get (v := .int ((upd (upd (t0 z) (4224 + (Tl z)) x) 4405 (nI (Tl z + 1))) 4405)) hx hb hts hinX8 hown hK hM.1 rfl 6 (by decide) (by decide +kernel) rfl dX8_type_63 ?_
        refine kx_ci (y := nI (Tl z + 1)) pk_us ?_
        exact kx_iretM hx hb hrt hlk (by first | (rw [if_neg hw0]; done) | (rw [if_pos hw0]; done)) (by first | (rw [if_neg hw0]; exact hM) | (rw [if_pos hw0]; exact hM)) hS dX8_type_66
      · refine lv_iconst (v := nI 0) hx hb dX8_type_40 (by decide) ?_
        exact kx_iretM hx hb hrt hlk (by rw [if_neg hw0]) (by rw [if_neg hw0]; exact hM) hS dX8_type_41
    · refine lv_iconst (v := nI 2) hx hb dX8_type_25 (by decide) ?_
      refine lv_goto (tgt := 30) hx hb dX8_type_26 (by decide) ?_
      refine kx_ci (x := nI (2)) (y := nI (twN z x)) (congrArg nI (by first | (simp [twN, *]; done) | (exfalso; omega) | (exfalso; simp_all; done))) ?_
      refine kx_put hx hb hts hinX8 tyX8_ok nmX8 hown hK hM.1 rfl hS ⟨by omega, by omega⟩ 0 (by decide) (by decide +kernel) rfl rfl rfl (Nat.le_of_ble_eq_true rfl) dX8_type_30 (fun H locs hc hU hS => ?_)
      have hM := hM.put_thrown hc hU
      clear hc hU
      refine lv_aload_n hx hb dX8_type_33 rfl (lv_at hl 0 rfl) ?_
      refine kx_get (v := .int ((upd z 4403 (nI (twN z x))) 4403)) hx hb hts hinX8 hown hK hM.1 rfl 0 (by decide) (by decide +kernel) rfl dX8_type_34 ?_
      refine kx_ci (y := nI (twN z x)) pk_us ?_
      refine kn_if_le (tgt := 42) hx hb dX8_type_37 (by decide) (lt31 (twN_2 _ _)) (fun hw0 => ?_) (fun hw0 => ?_)
      · rw [hw0] at hM
        have hTl : Tl z < 150 := tw_lt hZ hw0
        refine lv_aload_n hx hb dX8_type_42 rfl (lv_at hl 0 rfl) ?_
        refine kx_get (v := .ref (a + 4)) hx hb hts hinX8 hown hK hM.1 rfl 5 (by decide) (by decide +kernel) rfl dX8_type_43 ?_
        refine lv_aload_n hx hb dX8_type_46 rfl (lv_at hl 0 rfl) ?_
        refine kx_get (v := .int ((t0 z) 4405)) hx hb hts hinX8 hown hK hM.1 rfl 6 (by decide) (by decide +kernel) rfl dX8_type_47 ?_
        refine kx_ci (y := nI (Tl z)) ((t0_at z (by omega)).trans hZ.2.2.2.1) ?_
        refine lv_iload_n hx hb dX8_type_50 rfl (lv_at hl 1 rfl) ?_
        refine kx_iast (i := Tl z) hx hb hK hM.text hS ⟨by omega, by omega⟩ 0 rfl (by omega) (by decide) dX8_type_51 (fun H locs hc hU hS => ?_)
        have hM := hM.put_text (by omega) hc hU
        clear hc hU
        refine lv_aload_n hx hb dX8_type_52 rfl (lv_at hl 0 rfl) ?_
        refine lv_dup hx hb dX8_type_53 rfl ?_
        refine kx_get (v := .int ((upd (t0 z) (4224 + (Tl z)) x) 4405)) hx hb hts hinX8 hown hK hM.1 rfl 6 (by decide) (by decide +kernel) rfl dX8_type_54 ?_
        refine kx_ci (y := nI (Tl z)) (by rw [upd_at, if_neg (by omega)]; exact (t0_at z (by omega)).trans hZ.2.2.2.1) ?_
        refine lv_iconst (v := nI 1) hx hb dX8_type_57 (by decide) ?_
        refine kn_add hx hb dX8_type_58 ?_
        refine kx_put hx hb hts hinX8 tyX8_ok nmX8 hown hK hM.1 rfl hS ⟨by omega, by omega⟩ 6 (by decide) (by decide +kernel) rfl rfl rfl (Nat.le_of_ble_eq_true rfl) dX8_type_59 (fun H locs hc hU hS => ?_)
        have hM := hM.put_textLength hc hU
        clear hc hU
        refine lv_aload_n hx hb dX8_type_62 rfl (lv_at hl 0 rfl) ?_
        refine kx_get (v := .int ((upd (upd (t0 z) (4224 + (Tl z)) x) 4405 (nI (Tl z + 1))) 4405)) hx hb hts hinX8 hown hK hM.1 rfl 6 (by decide) (by decide +kernel) rfl dX8_type_63 ?_
        refine kx_ci (y := nI (Tl z + 1)) pk_us ?_
        exact kx_iretM hx hb hrt hlk (by first | (rw [if_neg hw0]; done) | (rw [if_pos hw0]; done)) (by first | (rw [if_neg hw0]; exact hM) | (rw [if_pos hw0]; exact hM)) hS dX8_type_66
      · refine lv_iconst (v := nI 0) hx hb dX8_type_40 (by decide) ?_
        exact kx_iretM hx hb hrt hlk (by rw [if_neg hw0]) (by rw [if_neg hw0]; exact hM) hS dX8_type_41
  · refine lv_iconst (v := nI 1) hx hb dX8_type_11 (by decide) ?_
    refine lv_goto (tgt := 30) hx hb dX8_type_12 (by decide) ?_
    refine kx_ci (x := nI (1)) (y := nI (twN z x)) (congrArg nI (by first | (simp [twN, *]; done) | (exfalso; omega) | (exfalso; simp_all; done))) ?_
    refine kx_put hx hb hts hinX8 tyX8_ok nmX8 hown hK hM.1 rfl hS ⟨by omega, by omega⟩ 0 (by decide) (by decide +kernel) rfl rfl rfl (Nat.le_of_ble_eq_true rfl) dX8_type_30 (fun H locs hc hU hS => ?_)
    have hM := hM.put_thrown hc hU
    clear hc hU
    refine lv_aload_n hx hb dX8_type_33 rfl (lv_at hl 0 rfl) ?_
    refine kx_get (v := .int ((upd z 4403 (nI (twN z x))) 4403)) hx hb hts hinX8 hown hK hM.1 rfl 0 (by decide) (by decide +kernel) rfl dX8_type_34 ?_
    refine kx_ci (y := nI (twN z x)) pk_us ?_
    refine kn_if_le (tgt := 42) hx hb dX8_type_37 (by decide) (lt31 (twN_2 _ _)) (fun hw0 => ?_) (fun hw0 => ?_)
    · rw [hw0] at hM
      have hTl : Tl z < 150 := tw_lt hZ hw0
      refine lv_aload_n hx hb dX8_type_42 rfl (lv_at hl 0 rfl) ?_
      refine kx_get (v := .ref (a + 4)) hx hb hts hinX8 hown hK hM.1 rfl 5 (by decide) (by decide +kernel) rfl dX8_type_43 ?_
      refine lv_aload_n hx hb dX8_type_46 rfl (lv_at hl 0 rfl) ?_
      refine kx_get (v := .int ((t0 z) 4405)) hx hb hts hinX8 hown hK hM.1 rfl 6 (by decide) (by decide +kernel) rfl dX8_type_47 ?_
      refine kx_ci (y := nI (Tl z)) ((t0_at z (by omega)).trans hZ.2.2.2.1) ?_
      refine lv_iload_n hx hb dX8_type_50 rfl (lv_at hl 1 rfl) ?_
      refine kx_iast (i := Tl z) hx hb hK hM.text hS ⟨by omega, by omega⟩ 0 rfl (by omega) (by decide) dX8_type_51 (fun H locs hc hU hS => ?_)
      have hM := hM.put_text (by omega) hc hU
      clear hc hU
      refine lv_aload_n hx hb dX8_type_52 rfl (lv_at hl 0 rfl) ?_
      refine lv_dup hx hb dX8_type_53 rfl ?_
      refine kx_get (v := .int ((upd (t0 z) (4224 + (Tl z)) x) 4405)) hx hb hts hinX8 hown hK hM.1 rfl 6 (by decide) (by decide +kernel) rfl dX8_type_54 ?_
      refine kx_ci (y := nI (Tl z)) (by rw [upd_at, if_neg (by omega)]; exact (t0_at z (by omega)).trans hZ.2.2.2.1) ?_
      refine lv_iconst (v := nI 1) hx hb dX8_type_57 (by decide) ?_
      refine kn_add hx hb dX8_type_58 ?_
      refine kx_put hx hb hts hinX8 tyX8_ok nmX8 hown hK hM.1 rfl hS ⟨by omega, by omega⟩ 6 (by decide) (by decide +kernel) rfl rfl rfl (Nat.le_of_ble_eq_true rfl) dX8_type_59 (fun H locs hc hU hS => ?_)
      have hM := hM.put_textLength hc hU
      clear hc hU
      refine lv_aload_n hx hb dX8_type_62 rfl (lv_at hl 0 rfl) ?_
      refine kx_get (v := .int ((upd (upd (t0 z) (4224 + (Tl z)) x) 4405 (nI (Tl z + 1))) 4405)) hx hb hts hinX8 hown hK hM.1 rfl 6 (by decide) (by decide +kernel) rfl dX8_type_63 ?_
      refine kx_ci (y := nI (Tl z + 1)) pk_us ?_
      exact kx_iretM hx hb hrt hlk (by first | (rw [if_neg hw0]; done) | (rw [if_pos hw0]; done)) (by first | (rw [if_neg hw0]; exact hM) | (rw [if_pos hw0]; exact hM)) hS dX8_type_66
    · refine lv_iconst (v := nI 0) hx hb dX8_type_40 (by decide) ?_
      exact kx_iretM hx hb hrt hlk (by rw [if_neg hw0]) (by rw [if_neg hw0]; exact hM) hS dX8_type_41
set_option maxHeartbeats 500000 in
set_option maxRecDepth 100000 in
theorem k_X8_clearCommands (l : Launch) (D : va_G) (cs : Nat → ClassId) (a : Nat) (z : Nat → Int32) (hZ : InvZ z) : Met l yX8_clearCommands wsX8_clearCommands ({ frames := 0, cells := 0, slots := 0, locals := 0 } : Room) (PcK D cs [.ref (a)] (fun H => MdC D (cs 0) a z H)) (QcM (some (.int (nI (Tl z)))) (fun H => MdC D (cs 0) a (upd (t0 z) 4405 (nI 0)) H) (rgM a)) 0 0 ((rgM a)) := by
  refine kx_met (cc := cX8_clearCommands) (maxL := 2) (ret := (some .int)) (by decide) rfl (Nat.le_of_ble_eq_true rfl) ?_
  intro p e s m args below meth c hx hb hml hrt hts hown hlk hK hN hP ls hl
  have hl : lv_has ls 2 [(0, .ref (a))] := hl
  obtain ⟨H, hHe⟩ : ∃ H : Heap, H = s.heap := ⟨_, rfl⟩
  rw [← hHe] at hP ⊢
  have hS : va_S ((rgM a)) s.heap H [] := by rw [← hHe]; exact va_S.rf
  have hinX8 : ∀ w ∈ wsX80, w ∈ wsX8_clearCommands := by decide +kernel
  have hM := hP
  have hI := hZ.1
  refine lv_aload_n hx hb dX8_clearCommands_0 rfl (lv_at hl 0 rfl) ?_
  refine lv_iconst (v := nI 0) hx hb dX8_clearCommands_1 (by decide) ?_
  refine kx_put hx hb hts hinX8 tyX8_ok nmX8 hown hK hM.1 rfl hS ⟨by omega, by omega⟩ 0 (by decide) (by decide +kernel) rfl rfl rfl (Nat.le_of_ble_eq_true rfl) dX8_clearCommands_2 (fun H locs hc hU hS => ?_)
  have hM := hM.put_thrown hc hU
  clear hc hU
  refine lv_aload_n hx hb dX8_clearCommands_5 rfl (lv_at hl 0 rfl) ?_
  refine kx_get (v := .int ((upd z 4403 (nI (0))) 4405)) hx hb hts hinX8 hown hK hM.1 rfl 6 (by decide) (by decide +kernel) rfl dX8_clearCommands_6 ?_
  refine kx_ci (y := nI (Tl z)) (by rw [upd_at, if_neg (by omega)]; exact hZ.2.2.2.1) ?_
  refine lv_istore_n (lv' := [(1, .int (nI (Tl z))), (0, .ref (a))]) hx hb dX8_clearCommands_9 rfl hl (by decide) rfl (fun ls hl => ?_)
  refine lv_aload_n hx hb dX8_clearCommands_10 rfl (lv_at hl 1 rfl) ?_
  refine lv_iconst (v := nI 0) hx hb dX8_clearCommands_11 (by decide) ?_
  refine kx_put hx hb hts hinX8 tyX8_ok nmX8 hown hK hM.1 rfl hS ⟨by omega, by omega⟩ 6 (by decide) (by decide +kernel) rfl rfl rfl (Nat.le_of_ble_eq_true rfl) dX8_clearCommands_12 (fun H locs hc hU hS => ?_)
  have hM := hM.put_textLength hc hU
  clear hc hU
  refine lv_iload_n hx hb dX8_clearCommands_15 rfl (lv_at hl 0 rfl) ?_
  exact kx_iretM hx hb hrt hlk rfl hM hS dX8_clearCommands_16
