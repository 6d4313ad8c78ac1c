set_option maxHeartbeats 1500000 in
set_option maxRecDepth 100000 in
theorem k_X8_addRing (l : Launch) (D : va_G) (cs : Nat → ClassId) (a : Nat) (z : Nat → Int32) (f ln pt : Int32) (hZ : InvZ z) : Met l yX8_addRing wsX8_addRing ({ frames := 3, cells := 0, slots := 0, locals := 69 } : Room) (PcK D cs [.ref (a), .int (f), .int (ln), .int (pt)] (fun H => MdC D (cs 0) a z H)) (QcM (some (.int (if wrg z f ln pt = 0 then nI (Rn z) else nI 0))) (fun H => MdC D (cs 0) a (if wrg z f ln pt = 0 then prF (svT z) f ln pt else upd z 4403 (nI (wrg z f ln pt))) H) (rgM a)) 0 0 ((rgM a)) := by
  refine kx_met (cc := cX8_addRing) (maxL := 4) (ret := (some .int)) (by decide) rfl (Nat.le_of_ble_eq_true rfl) ?_
  intro p e s m args below meth c hx hb hml hrt hts hown hlk hK hN hP ls hl
  have hl : lv_has ls 4 [(0, .ref (a)), (1, .int (f)), (2, .int (ln)), (3, .int (pt))] := hl
  obtain ⟨H, hHe⟩ : ∃ H : Heap, H = s.heap := ⟨_, rfl⟩
  rw [← hHe] at hP ⊢
  have hS : va_S ((rgM a)) s.heap H [] := by rw [← hHe]; exact va_S.rf
  have hinX8 : ∀ w ∈ wsX80, w ∈ wsX8_addRing := by decide +kernel
  have hM := hP
  have hI := hZ.1
  refine lv_aload_n hx hb dX8_addRing_0 rfl (lv_at hl 0 rfl) ?_
  refine lv_aload_n hx hb dX8_addRing_1 rfl (lv_at hl 0 rfl) ?_
  refine lv_iload_n hx hb dX8_addRing_2 rfl (lv_at hl 1 rfl) ?_
  refine lv_iload_n hx hb dX8_addRing_3 rfl (lv_at hl 2 rfl) ?_
  refine lv_iload_n hx hb dX8_addRing_4 rfl (lv_at hl 3 rfl) ?_
  refine kx_retP (va_runV (As := [.int (f), .int (ln), .int (pt)]) (rest := [.ref (a)]) ⟨hx, hb, hml, hown, hts⟩ (k_X8_whyNoRing l D cs a z f ln pt hI) (cwV 3 hts gX8_addRing_X8_whyNoRing rfl rfl rfl (by decide +kernel) ⟨Nat.le_of_ble_eq_true rfl, Nat.le_of_ble_eq_true rfl⟩) (kx_preV hK hN hM.1 rfl hM) rfl rfl hl.1 rfl (lv_room (Nat.le_of_ble_eq_true rfl)) dX8_addRing_5 ⟨Nat.le_of_ble_eq_true rfl, Nat.le_of_ble_eq_true rfl⟩) ?_
  refine kx_put hx hb hts hinX8 tyX8_ok nmX8 hown hK hM.1 rfl hS ⟨by omega, by omega⟩ 0 (by decide) (by decide +kernel) rfl rfl rfl (Nat.le_of_ble_eq_true rfl) dX8_addRing_8 (fun H locs hc hU hS => ?_)
  have hM := hM.put_thrown hc hU
  clear hc hU
  refine lv_aload_n hx hb dX8_addRing_11 rfl (lv_at hl 0 rfl) ?_
  refine kx_get (v := .int ((upd z 4403 (nI (wrg z f ln pt))) 4403)) hx hb hts hinX8 hown hK hM.1 rfl 0 (by decide) (by decide +kernel) rfl dX8_addRing_12 ?_
  refine kx_ci (y := nI (wrg z f ln pt)) pk_us ?_
  refine kn_if_le (tgt := 20) hx hb dX8_addRing_15 (by decide) (lt31 (wrg_4 _ _ _ _)) (fun hw0 => ?_) (fun hw0 => ?_)
  · rw [hw0] at hM
    refine lv_aload_n hx hb dX8_addRing_20 rfl (lv_at hl 0 rfl) ?_
    refine kx_retM (va_runV (As := []) (rest := []) ⟨hx, hb, hml, hown, hts⟩ (k_X8_save l D cs a (upd z 4403 (nI 0)) (Sv z) (th_v hZ _) hZ.2.1.2) (cwV 0 hts gX8_addRing_X8_save rfl rfl rfl (by decide +kernel) ⟨Nat.le_of_ble_eq_true rfl, Nat.le_of_ble_eq_true rfl⟩) (kx_preV hK hN hM.1 rfl hM) rfl rfl hl.1 rfl (lv_room (Nat.le_of_ble_eq_true rfl)) dX8_addRing_21 ⟨Nat.le_of_ble_eq_true rfl, Nat.le_of_ble_eq_true rfl⟩) hS (fun q _ h => h) (fun q h => h) (fun H locs hM hk hS => ?_)
    clear hk
    have hM : MdC D (cs 0) a (svT z) H := hM
    refine lv_aload_n hx hb dX8_addRing_24 rfl (lv_at hl 0 rfl) ?_
    refine lv_iload_n hx hb dX8_addRing_25 rfl (lv_at hl 1 rfl) ?_
    refine lv_iload_n hx hb dX8_addRing_26 rfl (lv_at hl 2 rfl) ?_
    refine lv_iload_n hx hb dX8_addRing_27 rfl (lv_at hl 3 rfl) ?_
    refine kx_retM (va_runV (As := [.int (f), .int (ln), .int (pt)]) (rest := []) ⟨hx, hb, hml, hown, hts⟩ (k_X8_putRing l D cs a (svT z) f ln pt (svT_inv hI) (by rw [svT_R]; exact wrg_0 hI hw0)) (cwV 3 hts gX8_addRing_X8_putRing rfl rfl rfl (by decide +kernel) ⟨Nat.le_of_ble_eq_true rfl, Nat.le_of_ble_eq_true rfl⟩) (kx_preV hK hN hM.1 rfl hM) rfl rfl hl.1 rfl (lv_room (Nat.le_of_ble_eq_true rfl)) dX8_addRing_28 ⟨Nat.le_of_ble_eq_true rfl, Nat.le_of_ble_eq_true rfl⟩) hS (fun q _ h => h) (fun q h => h) (fun H locs hM hk hS => ?_)
    clear hk
    exact kx_iretM hx hb hrt hlk (by rw [if_pos hw0, svT_R]) (by rw [if_pos hw0]; exact hM) hS dX8_addRing_31
  · refine lv_iconst (v := nI 0) hx hb dX8_addRing_18 (by decide) ?_
    exact kx_iretM hx hb hrt hlk (by rw [if_neg hw0]) (by rw [if_neg hw0]; exact hM) hS dX8_addRing_19
set_option maxHeartbeats 1500000 in
set_option maxRecDepth 100000 in
theorem k_X8_set (l : Launch) (D : va_G) (cs : Nat → ClassId) (a : Nat) (z : Nat → Int32) (x y : Int32) (hZ : InvZ z) : Met l yX8_set wsX8_set ({ frames := 2, cells := 0, slots := 0, locals := 45 } : Room) (PcK D cs [.ref (a), .int (x), .int (y)] (fun H => MdC D (cs 0) a z H)) (QcM (some (.int (if wse x y = 0 then z (1 + nn x) else nI 0))) (fun H => MdC D (cs 0) a (if wse x y = 0 then upd (svT z) (1 + nn x) y else upd z 4403 (nI (wse x y))) H) (rgM a)) 0 0 ((rgM a)) := by
  refine kx_met (cc := cX8_set) (maxL := 3) (ret := (some .int)) (by decide) rfl (Nat.le_of_ble_eq_true rfl) ?_
  intro p e s m args below meth c hx hb hml hrt hts hown hlk hK hN hP ls hl
  have hl : lv_has ls 3 [(0, .ref (a)), (1, .int (x)), (2, .int (y))] := hl
  obtain ⟨H, hHe⟩ : ∃ H : Heap, H = s.heap := ⟨_, rfl⟩
  rw [← hHe] at hP ⊢
  have hS : va_S ((rgM a)) s.heap H [] := by rw [← hHe]; exact va_S.rf
  have hinX8 : ∀ w ∈ wsX80, w ∈ wsX8_set := by decide +kernel
  have hM := hP
  have hI := hZ.1
  refine lv_aload_n hx hb dX8_set_0 rfl (lv_at hl 0 rfl) ?_
  refine lv_aload_n hx hb dX8_set_1 rfl (lv_at hl 0 rfl) ?_
  refine lv_iload_n hx hb dX8_set_2 rfl (lv_at hl 1 rfl) ?_
  refine lv_iload_n hx hb dX8_set_3 rfl (lv_at hl 2 rfl) ?_
  refine kx_retP (va_runV (As := [.int (x), .int (y)]) (rest := [.ref (a)]) ⟨hx, hb, hml, hown, hts⟩ (k_X8_whyNoSetting l D cs a z x y) (cwV 2 hts gX8_set_X8_whyNoSetting rfl rfl rfl (by decide +kernel) ⟨Nat.le_of_ble_eq_true rfl, Nat.le_of_ble_eq_true rfl⟩) (kx_preV hK hN hM.1 rfl hM) rfl rfl hl.1 rfl (lv_room (Nat.le_of_ble_eq_true rfl)) dX8_set_4 ⟨Nat.le_of_ble_eq_true rfl, Nat.le_of_ble_eq_true rfl⟩) ?_
  refine kx_put hx hb hts hinX8 tyX8_ok nmX8 hown hK hM.1 rfl hS ⟨by omega, by omega⟩ 0 (by decide) (by decide +kernel) rfl rfl rfl (Nat.le_of_ble_eq_true rfl) dX8_set_7 (fun H locs hc hU hS => ?_)
  have hM := hM.put_thrown hc hU
  clear hc hU
  refine lv_aload_n hx hb dX8_set_10 rfl (lv_at hl 0 rfl) ?_
  refine kx_get (v := .int ((upd z 4403 (nI (wse x y))) 4403)) hx hb hts hinX8 hown hK hM.1 rfl 0 (by decide) (by decide +kernel) rfl dX8_set_11 ?_
  refine kx_ci (y := nI (wse x y)) pk_us ?_
  refine kn_if_le (tgt := 19) hx hb dX8_set_14 (by decide) (lt31 (wse_4 _ _)) (fun hw0 => ?_) (fun hw0 => ?_)
  · rw [hw0] at hM
    obtain ⟨q, hq, rfl⟩ := wse_0 hw0
    have hnq : nn (nI q) = q := nn_nI (by omega)
    refine lv_aload_n hx hb dX8_set_19 rfl (lv_at hl 0 rfl) ?_
    refine kx_retM (va_runV (As := []) (rest := []) ⟨hx, hb, hml, hown, hts⟩ (k_X8_save l D cs a (upd z 4403 (nI 0)) (Sv z) (th_v hZ _) hZ.2.1.2) (cwV 0 hts gX8_set_X8_save rfl rfl rfl (by decide +kernel) ⟨Nat.le_of_ble_eq_true rfl, Nat.le_of_ble_eq_true rfl⟩) (kx_preV hK hN hM.1 rfl hM) rfl rfl hl.1 rfl (lv_room (Nat.le_of_ble_eq_true rfl)) dX8_set_20 ⟨Nat.le_of_ble_eq_true rfl, Nat.le_of_ble_eq_true rfl⟩) hS (fun q _ h => h) (fun q h => h) (fun H locs hM hk hS => ?_)
    clear hk
    have hM : MdC D (cs 0) a (svT z) H := hM
    refine lv_aload_n hx hb dX8_set_23 rfl (lv_at hl 0 rfl) ?_
    refine lv_iload_n hx hb dX8_set_24 rfl (lv_at hl 1 rfl) ?_
    refine lv_iload_n hx hb dX8_set_25 rfl (lv_at hl 2 rfl) ?_
    refine kx_retM (va_runV (As := [.int (nI (q)), .int (y)]) (rest := []) ⟨hx, hb, hml, hown, hts⟩ (k_X8_putSetting l D cs a (svT z) q y (by first | assumption | omega)) (cwV 2 hts gX8_set_X8_putSetting rfl rfl rfl (by decide +kernel) ⟨Nat.le_of_ble_eq_true rfl, Nat.le_of_ble_eq_true rfl⟩) (kx_preV hK hN hM.1 rfl hM) rfl rfl hl.1 rfl (lv_room (Nat.le_of_ble_eq_true rfl)) dX8_set_26 ⟨Nat.le_of_ble_eq_true rfl, Nat.le_of_ble_eq_true rfl⟩) hS (fun q _ h => h) (fun q h => h) (fun H locs hM hk hS => ?_)
    clear hk
    exact kx_iretM hx hb hrt hlk (by rw [if_pos hw0, hnq]; exact svT_lo z (by omega)) (by rw [if_pos hw0, hnq]; exact hM) hS dX8_set_29
  · refine lv_iconst (v := nI 0) hx hb dX8_set_17 (by decide) ?_
    exact kx_iretM hx hb hrt hlk (by rw [if_neg hw0]) (by rw [if_neg hw0]; exact hM) hS dX8_set_18
set_option maxHeartbeats 1500000 in
set_option maxRecDepth 100000 in
theorem k_X8_write (l : Launch) (D : va_G) (cs : Nat → ClassId) (a : Nat) (z : Nat → Int32) (x y : Int32) (hZ : InvZ z) : Met l yX8_write wsX8_write ({ frames := 6, cells := 0, slots := 0, locals := 139 } : Room) (PcK D cs [.ref (a), .int (x), .int (y)] (fun H => MdC D (cs 0) a z H)) (QcM (some (.int (if wwr z x y = 0 then z (8 + nn x) else nI 0))) (fun H => MdC D (cs 0) a (if wwr z x y = 0 then upd (svT z) (8 + nn x) y else upd z 4403 (nI (wwr z x y))) H) (rgM a)) 0 0 ((rgM a)) := by
  refine kx_met (cc := cX8_write) (maxL := 3) (ret := (some .int)) (by decide) rfl (Nat.le_of_ble_eq_true rfl) ?_
  intro p e s m args below meth c hx hb hml hrt hts hown hlk hK hN hP ls hl
  have hl : lv_has ls 3 [(0, .ref (a)), (1, .int (x)), (2, .int (y))] := hl
  obtain ⟨H, hHe⟩ : ∃ H : Heap, H = s.heap := ⟨_, rfl⟩
  rw [← hHe] at hP ⊢
  have hS : va_S ((rgM a)) s.heap H [] := by rw [← hHe]; exact va_S.rf
  have hinX8 : ∀ w ∈ wsX80, w ∈ wsX8_write := by decide +kernel
  have hM := hP
  have hI := hZ.1
  refine lv_aload_n hx hb dX8_write_0 rfl (lv_at hl 0 rfl) ?_
  refine lv_aload_n hx hb dX8_write_1 rfl (lv_at hl 0 rfl) ?_
  refine lv_iload_n hx hb dX8_write_2 rfl (lv_at hl 1 rfl) ?_
  refine lv_iload_n hx hb dX8_write_3 rfl (lv_at hl 2 rfl) ?_
  refine kx_retP (va_runV (As := [.int (x), .int (y)]) (rest := [.ref (a)]) ⟨hx, hb, hml, hown, hts⟩ (k_X8_whyNotWritten l D cs a z x y hI) (cwV 2 hts gX8_write_X8_whyNotWritten rfl rfl rfl (by decide +kernel) ⟨Nat.le_of_ble_eq_true rfl, Nat.le_of_ble_eq_true rfl⟩) (kx_preV hK hN hM.1 rfl hM) rfl rfl hl.1 rfl (lv_room (Nat.le_of_ble_eq_true rfl)) dX8_write_4 ⟨Nat.le_of_ble_eq_true rfl, Nat.le_of_ble_eq_true rfl⟩) ?_
  refine kx_put hx hb hts hinX8 tyX8_ok nmX8 hown hK hM.1 rfl hS ⟨by omega, by omega⟩ 0 (by decide) (by decide +kernel) rfl rfl rfl (Nat.le_of_ble_eq_true rfl) dX8_write_7 (fun H locs hc hU hS => ?_)
  have hM := hM.put_thrown hc hU
  clear hc hU
  refine lv_aload_n hx hb dX8_write_10 rfl (lv_at hl 0 rfl) ?_
  refine kx_get (v := .int ((upd z 4403 (nI (wwr z x y))) 4403)) hx hb hts hinX8 hown hK hM.1 rfl 0 (by decide) (by decide +kernel) rfl dX8_write_11 ?_
  refine kx_ci (y := nI (wwr z x y)) pk_us ?_
  refine kn_if_le (tgt := 19) hx hb dX8_write_14 (by decide) (lt31 (wwr_4 _ _ _)) (fun hw0 => ?_) (fun hw0 => ?_)
  · rw [hw0] at hM
    obtain ⟨q, hq, rfl⟩ := wwr_0 hw0
    have hnq : nn (nI q) = q := nn_nI (by omega)
    refine lv_aload_n hx hb dX8_write_19 rfl (lv_at hl 0 rfl) ?_
    refine kx_retM (va_runV (As := []) (rest := []) ⟨hx, hb, hml, hown, hts⟩ (k_X8_save l D cs a (upd z 4403 (nI 0)) (Sv z) (th_v hZ _) hZ.2.1.2) (cwV 0 hts gX8_write_X8_save rfl rfl rfl (by decide +kernel) ⟨Nat.le_of_ble_eq_true rfl, Nat.le_of_ble_eq_true rfl⟩) (kx_preV hK hN hM.1 rfl hM) rfl rfl hl.1 rfl (lv_room (Nat.le_of_ble_eq_true rfl)) dX8_write_20 ⟨Nat.le_of_ble_eq_true rfl, Nat.le_of_ble_eq_true rfl⟩) hS (fun q _ h => h) (fun q h => h) (fun H locs hM hk hS => ?_)
    clear hk
    have hM : MdC D (cs 0) a (svT z) H := hM
    refine lv_aload_n hx hb dX8_write_23 rfl (lv_at hl 0 rfl) ?_
    refine lv_iload_n hx hb dX8_write_24 rfl (lv_at hl 1 rfl) ?_
    refine lv_iload_n hx hb dX8_write_25 rfl (lv_at hl 2 rfl) ?_
    refine kx_retM (va_runV (As := [.int (nI (q)), .int (y)]) (rest := []) ⟨hx, hb, hml, hown, hts⟩ (k_X8_putValue l D cs a (svT z) q y (by first | assumption | omega)) (cwV 2 hts gX8_write_X8_putValue rfl rfl rfl (by decide +kernel) ⟨Nat.le_of_ble_eq_true rfl, Nat.le_of_ble_eq_true rfl⟩) (kx_preV hK hN hM.1 rfl hM) rfl rfl hl.1 rfl (lv_room (Nat.le_of_ble_eq_true rfl)) dX8_write_26 ⟨Nat.le_of_ble_eq_true rfl, Nat.le_of_ble_eq_true rfl⟩) hS (fun q _ h => h) (fun q h => h) (fun H locs hM hk hS => ?_)
    clear hk
    exact kx_iretM hx hb hrt hlk (by rw [if_pos hw0, hnq]; exact svT_lo z (by omega)) (by rw [if_pos hw0, hnq]; exact hM) hS dX8_write_29
  · refine lv_iconst (v := nI 0) hx hb dX8_write_17 (by decide) ?_
    exact kx_iretM hx hb hrt hlk (by rw [if_neg hw0]) (by rw [if_neg hw0]; exact hM) hS dX8_write_18
set_option maxHeartbeats 1500000 in
set_option maxRecDepth 100000 in
theorem k_X8_move (l : Launch) (D : va_G) (cs : Nat → ClassId) (a : Nat) (z : Nat → Int32) (f fp t tp n0 : Int32) (hZ : InvZ z) : Met l yX8_move wsX8_move ({ frames := 3, cells := 0, slots := 0, locals := 69 } : Room) (PcK D cs [.ref (a), .int (f), .int (fp), .int (t), .int (tp), .int (n0)] (fun H => MdC D (cs 0) a z H)) (QcM (some (.int (if wmv z f fp t tp n0 = 0 then nI (Mn z) else nI 0))) (fun H => MdC D (cs 0) a (if wmv z f fp t tp n0 = 0 then pmF (svT z) f fp t tp n0 else upd z 4403 (nI (wmv z f fp t tp n0))) H) (rgM a)) 0 0 ((rgM a)) := by
  refine kx_met (cc := cX8_move) (maxL := 6) (ret := (some .int)) (by decide) rfl (Nat.le_of_ble_eq_true rfl) ?_
  intro p e s m args below meth c hx hb hml hrt hts hown hlk hK hN hP ls hl
  have hl : lv_has ls 6 [(0, .ref (a)), (1, .int (f)), (2, .int (fp)), (3, .int (t)), (4, .int (tp)), (5, .int (n0))] := hl
  obtain ⟨H, hHe⟩ : ∃ H : Heap, H = s.heap := ⟨_, rfl⟩
  rw [← hHe] at hP ⊢
  have hS : va_S ((rgM a)) s.heap H [] := by rw [← hHe]; exact va_S.rf
  have hinX8 : ∀ w ∈ wsX80, w ∈ wsX8_move := by decide +kernel
  have hM := hP
  have hI := hZ.1
  refine lv_aload_n hx hb dX8_move_0 rfl (lv_at hl 0 rfl) ?_
  refine lv_aload_n hx hb dX8_move_1 rfl (lv_at hl 0 rfl) ?_
  refine lv_iload_n hx hb dX8_move_2 rfl (lv_at hl 1 rfl) ?_
  refine lv_iload_n hx hb dX8_move_3 rfl (lv_at hl 2 rfl) ?_
  refine lv_iload_n hx hb dX8_move_4 rfl (lv_at hl 3 rfl) ?_
  refine lv_iload hx hb dX8_move_5 (lv_at hl 4 rfl) ?_
  refine lv_iload hx hb dX8_move_7 (lv_at hl 5 rfl) ?_
  refine kx_retP (va_runV (As := [.int (f), .int (fp), .int (t), .int (tp), .int (n0)]) (rest := [.ref (a)]) ⟨hx, hb, hml, hown, hts⟩ (k_X8_whyNoMove l D cs a z f fp t tp n0 hI) (cwV 5 hts gX8_move_X8_whyNoMove rfl rfl rfl (by decide +kernel) ⟨Nat.le_of_ble_eq_true rfl, Nat.le_of_ble_eq_true rfl⟩) (kx_preV hK hN hM.1 rfl hM) rfl rfl hl.1 rfl (lv_room (Nat.le_of_ble_eq_true rfl)) dX8_move_9 ⟨Nat.le_of_ble_eq_true rfl, Nat.le_of_ble_eq_true rfl⟩) ?_
  refine kx_put hx hb hts hinX8 tyX8_ok nmX8 hown hK hM.1 rfl hS ⟨by omega, by omega⟩ 0 (by decide) (by decide +kernel) rfl rfl rfl (Nat.le_of_ble_eq_true rfl) dX8_move_12 (fun H locs hc hU hS => ?_)
  have hM := hM.put_thrown hc hU
  clear hc hU
  refine lv_aload_n hx hb dX8_move_15 rfl (lv_at hl 0 rfl) ?_
  refine kx_get (v := .int ((upd z 4403 (nI (wmv z f fp t tp n0))) 4403)) hx hb hts hinX8 hown hK hM.1 rfl 0 (by decide) (by decide +kernel) rfl dX8_move_16 ?_
  refine kx_ci (y := nI (wmv z f fp t tp n0)) pk_us ?_
  refine kn_if_le (tgt := 24) hx hb dX8_move_19 (by decide) (lt31 (wmv_4 _ _ _ _ _ _)) (fun hw0 => ?_) (fun hw0 => ?_)
  · rw [hw0] at hM
    refine lv_aload_n hx hb dX8_move_24 rfl (lv_at hl 0 rfl) ?_
    refine kx_retM (va_runV (As := []) (rest := []) ⟨hx, hb, hml, hown, hts⟩ (k_X8_save l D cs a (upd z 4403 (nI 0)) (Sv z) (th_v hZ _) hZ.2.1.2) (cwV 0 hts gX8_move_X8_save rfl rfl rfl (by decide +kernel) ⟨Nat.le_of_ble_eq_true rfl, Nat.le_of_ble_eq_true rfl⟩) (kx_preV hK hN hM.1 rfl hM) rfl rfl hl.1 rfl (lv_room (Nat.le_of_ble_eq_true rfl)) dX8_move_25 ⟨Nat.le_of_ble_eq_true rfl, Nat.le_of_ble_eq_true rfl⟩) hS (fun q _ h => h) (fun q h => h) (fun H locs hM hk hS => ?_)
    clear hk
    have hM : MdC D (cs 0) a (svT z) H := hM
    refine lv_aload_n hx hb dX8_move_28 rfl (lv_at hl 0 rfl) ?_
    refine lv_iload_n hx hb dX8_move_29 rfl (lv_at hl 1 rfl) ?_
    refine lv_iload_n hx hb dX8_move_30 rfl (lv_at hl 2 rfl) ?_
    refine lv_iload_n hx hb dX8_move_31 rfl (lv_at hl 3 rfl) ?_
    refine lv_iload hx hb dX8_move_32 (lv_at hl 4 rfl) ?_
    refine lv_iload hx hb dX8_move_34 (lv_at hl 5 rfl) ?_
    refine kx_retM (va_runV (As := [.int (f), .int (fp), .int (t), .int (tp), .int (n0)]) (rest := []) ⟨hx, hb, hml, hown, hts⟩ (k_X8_putMove l D cs a (svT z) f fp t tp n0 (svT_inv hI) (by rw [svT_M]; exact wmv_0 hI hw0)) (cwV 5 hts gX8_move_X8_putMove rfl rfl rfl (by decide +kernel) ⟨Nat.le_of_ble_eq_true rfl, Nat.le_of_ble_eq_true rfl⟩) (kx_preV hK hN hM.1 rfl hM) rfl rfl hl.1 rfl (lv_room (Nat.le_of_ble_eq_true rfl)) dX8_move_36 ⟨Nat.le_of_ble_eq_true rfl, Nat.le_of_ble_eq_true rfl⟩) hS (fun q _ h => h) (fun q h => h) (fun H locs hM hk hS => ?_)
    clear hk
    exact kx_iretM hx hb hrt hlk (by rw [if_pos hw0, svT_M]) (by rw [if_pos hw0]; exact hM) hS dX8_move_39
  · refine lv_iconst (v := nI 0) hx hb dX8_move_22 (by decide) ?_
    exact kx_iretM hx hb hrt hlk (by rw [if_neg hw0]) (by rw [if_neg hw0]; exact hM) hS dX8_move_23
set_option maxHeartbeats 1500000 in
set_option maxRecDepth 100000 in
theorem k_X8_sign (l : Launch) (D : va_G) (cs : Nat → ClassId) (a : Nat) (z : Nat → Int32) (x : Int32) (hZ : InvZ z) : Met l yX8_sign wsX8_sign ({ frames := 3, cells := 0, slots := 0, locals := 65 } : Room) (PcK D cs [.ref (a), .int (x)] (fun H => MdC D (cs 0) a z H)) (QcM (some (.int (if wsg z x = 0 then nI (fcN z (nn x)) else nI 0))) (fun H => MdC D (cs 0) a (if wsg z x = 0 then signF (svT z) (fcN z (nn x)) else upd z 4403 (nI (wsg z x))) H) (rgM a)) 0 0 ((rgM a)) := by
  refine kx_met (cc := cX8_sign) (maxL := 3) (ret := (some .int)) (by decide) rfl (Nat.le_of_ble_eq_true rfl) ?_
  intro p e s m args below meth c hx hb hml hrt hts hown hlk hK hN hP ls hl
  have hl : lv_has ls 3 [(0, .ref (a)), (1, .int (x))] := hl
  obtain ⟨H, hHe⟩ : ∃ H : Heap, H = s.heap := ⟨_, rfl⟩
  rw [← hHe] at hP ⊢
  have hS : va_S ((rgM a)) s.heap H [] := by rw [← hHe]; exact va_S.rf
  have hinX8 : ∀ w ∈ wsX80, w ∈ wsX8_sign := by decide +kernel
  have hM := hP
  have hI := hZ.1
  refine lv_aload_n hx hb dX8_sign_0 rfl (lv_at hl 0 rfl) ?_
  refine lv_aload_n hx hb dX8_sign_1 rfl (lv_at hl 0 rfl) ?_
  refine lv_iload_n hx hb dX8_sign_2 rfl (lv_at hl 1 rfl) ?_
  refine kx_retP (va_runV (As := [.int (x)]) (rest := [.ref (a)]) ⟨hx, hb, hml, hown, hts⟩ (k_X8_whyNotSigned l D cs a z x hI) (cwV 1 hts gX8_sign_X8_whyNotSigned rfl rfl rfl (by decide +kernel) ⟨Nat.le_of_ble_eq_true rfl, Nat.le_of_ble_eq_true rfl⟩) (kx_preV hK hN hM.1 rfl hM) rfl rfl hl.1 rfl (lv_room (Nat.le_of_ble_eq_true rfl)) dX8_sign_3 ⟨Nat.le_of_ble_eq_true rfl, Nat.le_of_ble_eq_true rfl⟩) ?_
  refine kx_put hx hb hts hinX8 tyX8_ok nmX8 hown hK hM.1 rfl hS ⟨by omega, by omega⟩ 0 (by decide) (by decide +kernel) rfl rfl rfl (Nat.le_of_ble_eq_true rfl) dX8_sign_6 (fun H locs hc hU hS => ?_)
  have hM := hM.put_thrown hc hU
  clear hc hU
  refine lv_aload_n hx hb dX8_sign_9 rfl (lv_at hl 0 rfl) ?_
  refine kx_get (v := .int ((upd z 4403 (nI (wsg z x))) 4403)) hx hb hts hinX8 hown hK hM.1 rfl 0 (by decide) (by decide +kernel) rfl dX8_sign_10 ?_
  refine kx_ci (y := nI (wsg z x)) pk_us ?_
  refine kn_if_le (tgt := 18) hx hb dX8_sign_13 (by decide) (lt31 (wsg_4 _ _)) (fun hw0 => ?_) (fun hw0 => ?_)
  · rw [hw0] at hM
    obtain ⟨r, hr, rfl, hfl⟩ := wsg_0 hI hw0
    have hnq : nn (nI r) = r := nn_nI (by have := hI.R6; omega)
    refine lv_aload_n hx hb dX8_sign_18 rfl (lv_at hl 0 rfl) ?_
    refine kx_retM (va_runV (As := []) (rest := []) ⟨hx, hb, hml, hown, hts⟩ (k_X8_save l D cs a (upd z 4403 (nI 0)) (Sv z) (th_v hZ _) hZ.2.1.2) (cwV 0 hts gX8_sign_X8_save rfl rfl rfl (by decide +kernel) ⟨Nat.le_of_ble_eq_true rfl, Nat.le_of_ble_eq_true rfl⟩) (kx_preV hK hN hM.1 rfl hM) rfl rfl hl.1 rfl (lv_room (Nat.le_of_ble_eq_true rfl)) dX8_sign_19 ⟨Nat.le_of_ble_eq_true rfl, Nat.le_of_ble_eq_true rfl⟩) hS (fun q _ h => h) (fun q h => h) (fun H locs hM hk hS => ?_)
    clear hk
    have hM : MdC D (cs 0) a (svT z) H := hM
    refine lv_aload_n hx hb dX8_sign_22 rfl (lv_at hl 0 rfl) ?_
    refine lv_iload_n hx hb dX8_sign_23 rfl (lv_at hl 1 rfl) ?_
    refine kx_retP (va_runV (As := [.int (nI (r))]) (rest := []) ⟨hx, hb, hml, hown, hts⟩ (k_X8_firstCopied l D cs a (svT z) r (svT_inv hI) (by rw [svT_R]; exact hr)) (cwV 1 hts gX8_sign_X8_firstCopied rfl rfl rfl (by decide +kernel) ⟨Nat.le_of_ble_eq_true rfl, Nat.le_of_ble_eq_true rfl⟩) (kx_preV hK hN hM.1 rfl hM) rfl rfl hl.1 rfl (lv_room (Nat.le_of_ble_eq_true rfl)) dX8_sign_24 ⟨Nat.le_of_ble_eq_true rfl, Nat.le_of_ble_eq_true rfl⟩) ?_
    refine kx_ci (y := nI (fcN z r)) (by rw [(svT_eqv hI).fci]; exact fcI_is hfl) ?_
    refine lv_istore_n (lv' := [(2, .int (nI (fcN z r))), (0, .ref (a)), (1, .int (nI (r)))]) hx hb dX8_sign_27 rfl hl (by decide) rfl (fun ls hl => ?_)
    refine lv_aload_n hx hb dX8_sign_28 rfl (lv_at hl 1 rfl) ?_
    refine lv_iload_n hx hb dX8_sign_29 rfl (lv_at hl 0 rfl) ?_
    refine kx_retM (va_runV (As := [.int (nI (fcN z r))]) (rest := []) ⟨hx, hb, hml, hown, hts⟩ (k_X8_signMove l D cs a (svT z) (fcN z r) (by have := hI.M24; omega)) (cwV 1 hts gX8_sign_X8_signMove rfl rfl rfl (by decide +kernel) ⟨Nat.le_of_ble_eq_true rfl, Nat.le_of_ble_eq_true rfl⟩) (kx_preV hK hN hM.1 rfl hM) rfl rfl hl.1 rfl (lv_room (Nat.le_of_ble_eq_true rfl)) dX8_sign_30 ⟨Nat.le_of_ble_eq_true rfl, Nat.le_of_ble_eq_true rfl⟩) hS (fun q _ h => h) (fun q h => h) (fun H locs hM hk hS => ?_)
    clear hk
    refine lv_iload_n hx hb dX8_sign_33 rfl (lv_at hl 0 rfl) ?_
    exact kx_iretM hx hb hrt hlk (by rw [if_pos hw0, hnq]) (by rw [if_pos hw0, hnq]; exact hM) hS dX8_sign_34
  · refine lv_iconst (v := nI 0) hx hb dX8_sign_16 (by decide) ?_
    exact kx_iretM hx hb hrt hlk (by rw [if_neg hw0]) (by rw [if_neg hw0]; exact hM) hS dX8_sign_17
set_option maxHeartbeats 1500000 in
set_option maxRecDepth 100000 in
theorem k_X8_pass (l : Launch) (D : va_G) (cs : Nat → ClassId) (a : Nat) (z : Nat → Int32) (x : Int32) (hZ : InvZ z) : Met l yX8_pass wsX8_pass ({ frames := 7, cells := 0, slots := 0, locals := 163 } : Room) (PcK D cs [.ref (a), .int (x)] (fun H => MdC D (cs 0) a z H)) (QcM (some (.int (if wtk z x = 0 then nI (psN (svT z) (nn x)) else nI 0))) (fun H => MdC D (cs 0) a (if wtk z x = 0 then psF (svT z) (nn x) else upd z 4403 (nI (wtk z x))) H) (rgM a)) 0 0 ((rgM a)) := by
  refine kx_met (cc := cX8_pass) (maxL := 2) (ret := (some .int)) (by decide) rfl (Nat.le_of_ble_eq_true rfl) ?_
  intro p e s m args below meth c hx hb hml hrt hts hown hlk hK hN hP ls hl
  have hl : lv_has ls 2 [(0, .ref (a)), (1, .int (x))] := hl
  obtain ⟨H, hHe⟩ : ∃ H : Heap, H = s.heap := ⟨_, rfl⟩
  rw [← hHe] at hP ⊢
  have hS : va_S ((rgM a)) s.heap H [] := by rw [← hHe]; exact va_S.rf
  have hinX8 : ∀ w ∈ wsX80, w ∈ wsX8_pass := by decide +kernel
  have hM := hP
  have hI := hZ.1
  refine lv_aload_n hx hb dX8_pass_0 rfl (lv_at hl 0 rfl) ?_
  refine lv_aload_n hx hb dX8_pass_1 rfl (lv_at hl 0 rfl) ?_
  refine lv_iload_n hx hb dX8_pass_2 rfl (lv_at hl 1 rfl) ?_
  refine kx_retP (va_runV (As := [.int (x)]) (rest := [.ref (a)]) ⟨hx, hb, hml, hown, hts⟩ (k_X8_whyNoTicks l D cs a z x) (cwV 1 hts gX8_pass_X8_whyNoTicks rfl rfl rfl (by decide +kernel) ⟨Nat.le_of_ble_eq_true rfl, Nat.le_of_ble_eq_true rfl⟩) (kx_preV hK hN hM.1 rfl hM) rfl rfl hl.1 rfl (lv_room (Nat.le_of_ble_eq_true rfl)) dX8_pass_3 ⟨Nat.le_of_ble_eq_true rfl, Nat.le_of_ble_eq_true rfl⟩) ?_
  refine kx_put hx hb hts hinX8 tyX8_ok nmX8 hown hK hM.1 rfl hS ⟨by omega, by omega⟩ 0 (by decide) (by decide +kernel) rfl rfl rfl (Nat.le_of_ble_eq_true rfl) dX8_pass_6 (fun H locs hc hU hS => ?_)
  have hM := hM.put_thrown hc hU
  clear hc hU
  refine lv_aload_n hx hb dX8_pass_9 rfl (lv_at hl 0 rfl) ?_
  refine kx_get (v := .int ((upd z 4403 (nI (wtk z x))) 4403)) hx hb hts hinX8 hown hK hM.1 rfl 0 (by decide) (by decide +kernel) rfl dX8_pass_10 ?_
  refine kx_ci (y := nI (wtk z x)) pk_us ?_
  refine kn_if_le (tgt := 18) hx hb dX8_pass_13 (by decide) (lt31 (wtk_4 _ _)) (fun hw0 => ?_) (fun hw0 => ?_)
  · rw [hw0] at hM
    obtain ⟨q, hq, rfl⟩ := wtk_0 hw0
    have hnq : nn (nI q) = q := nn_nI (by omega)
    refine lv_aload_n hx hb dX8_pass_18 rfl (lv_at hl 0 rfl) ?_
    refine kx_retM (va_runV (As := []) (rest := []) ⟨hx, hb, hml, hown, hts⟩ (k_X8_save l D cs a (upd z 4403 (nI 0)) (Sv z) (th_v hZ _) hZ.2.1.2) (cwV 0 hts gX8_pass_X8_save rfl rfl rfl (by decide +kernel) ⟨Nat.le_of_ble_eq_true rfl, Nat.le_of_ble_eq_true rfl⟩) (kx_preV hK hN hM.1 rfl hM) rfl rfl hl.1 rfl (lv_room (Nat.le_of_ble_eq_true rfl)) dX8_pass_19 ⟨Nat.le_of_ble_eq_true rfl, Nat.le_of_ble_eq_true rfl⟩) hS (fun q _ h => h) (fun q h => h) (fun H locs hM hk hS => ?_)
    clear hk
    have hM : MdC D (cs 0) a (svT z) H := hM
    refine lv_aload_n hx hb dX8_pass_22 rfl (lv_at hl 0 rfl) ?_
    refine lv_iload_n hx hb dX8_pass_23 rfl (lv_at hl 1 rfl) ?_
    refine kx_retM (va_runV (As := [.int (nI (q))]) (rest := []) ⟨hx, hb, hml, hown, hts⟩ (k_X8_passTicks l D cs a (svT z) q (svT_inv hI) (by first | assumption | omega)) (cwV 1 hts gX8_pass_X8_passTicks rfl rfl rfl (by decide +kernel) ⟨Nat.le_of_ble_eq_true rfl, Nat.le_of_ble_eq_true rfl⟩) (kx_preV hK hN hM.1 rfl hM) rfl rfl hl.1 rfl (lv_room (Nat.le_of_ble_eq_true rfl)) dX8_pass_24 ⟨Nat.le_of_ble_eq_true rfl, Nat.le_of_ble_eq_true rfl⟩) hS (fun q _ h => h) (fun q h => h) (fun H locs hM hk hS => ?_)
    clear hk
    exact kx_iretM hx hb hrt hlk (by rw [if_pos hw0, hnq]) (by rw [if_pos hw0, hnq]; exact hM) hS dX8_pass_27
  · refine lv_iconst (v := nI 0) hx hb dX8_pass_16 (by decide) ?_
    exact kx_iretM hx hb hrt hlk (by rw [if_neg hw0]) (by rw [if_neg hw0]; exact hM) hS dX8_pass_17
set_option maxHeartbeats 1500000 in
set_option maxRecDepth 100000 in
theorem k_X8_strike (l : Launch) (D : va_G) (cs : Nat → ClassId) (a : Nat) (z : Nat → Int32) (x : Int32) (y : Bool) (hZ : InvZ z) : Met l yX8_strike wsX8_strike ({ frames := 3, cells := 0, slots := 0, locals := 65 } : Room) (PcK D cs [.ref (a), .int (x), .int (bI (y))] (fun H => MdC D (cs 0) a z H)) (QcM (some (.int (if wst z x (bI y) = 0 then nI (cpN z (nn x)) else nI 0))) (fun H => MdC D (cs 0) a (if wst z x (bI y) = 0 then upd (svT z) (56 + 4 * nn x + 3) (bI y) else upd z 4403 (nI (wst z x (bI y)))) H) (rgM a)) 0 0 ((rgM a)) := by
  refine kx_met (cc := cX8_strike) (maxL := 3) (ret := (some .int)) (by decide) rfl (Nat.le_of_ble_eq_true rfl) ?_
  intro p e s m args below meth c hx hb hml hrt hts hown hlk hK hN hP ls hl
  have hl : lv_has ls 3 [(0, .ref (a)), (1, .int (x)), (2, .int (bI (y)))] := hl
  obtain ⟨H, hHe⟩ : ∃ H : Heap, H = s.heap := ⟨_, rfl⟩
  rw [← hHe] at hP ⊢
  have hS : va_S ((rgM a)) s.heap H [] := by rw [← hHe]; exact va_S.rf
  have hinX8 : ∀ w ∈ wsX80, w ∈ wsX8_strike := by decide +kernel
  have hM := hP
  have hI := hZ.1
  refine lv_aload_n hx hb dX8_strike_0 rfl (lv_at hl 0 rfl) ?_
  refine lv_aload_n hx hb dX8_strike_1 rfl (lv_at hl 0 rfl) ?_
  refine lv_iload_n hx hb dX8_strike_2 rfl (lv_at hl 1 rfl) ?_
  refine lv_iload_n hx hb dX8_strike_3 rfl (lv_at hl 2 rfl) ?_
  refine kb_if_eq (tgt := 11) hx hb dX8_strike_4 (by decide) (fun c_1 => ?_) (fun c_1 => ?_)
  · refine lv_iconst (v := nI 0) hx hb dX8_strike_11 (by decide) ?_
    refine kx_ci (x := nI (0)) (y := bI y) (by simp [bI_t, bI_f, *]) ?_
    refine kx_retP (va_runV (As := [.int (x), .int (bI y)]) (rest := [.ref (a)]) ⟨hx, hb, hml, hown, hts⟩ (k_X8_whyNoStrike l D cs a z x (bI y) hI) (cwV 2 hts gX8_strike_X8_whyNoStrike rfl rfl rfl (by decide +kernel) ⟨Nat.le_of_ble_eq_true rfl, Nat.le_of_ble_eq_true rfl⟩) (kx_preV hK hN hM.1 rfl hM) rfl rfl hl.1 rfl (lv_room (Nat.le_of_ble_eq_true rfl)) dX8_strike_12 ⟨Nat.le_of_ble_eq_true rfl, Nat.le_of_ble_eq_true rfl⟩) ?_
    refine kx_put hx hb hts hinX8 tyX8_ok nmX8 hown hK hM.1 rfl hS ⟨by omega, by omega⟩ 0 (by decide) (by decide +kernel) rfl rfl rfl (Nat.le_of_ble_eq_true rfl) dX8_strike_15 (fun H locs hc hU hS => ?_)
    have hM := hM.put_thrown hc hU
    clear hc hU
    refine lv_aload_n hx hb dX8_strike_18 rfl (lv_at hl 0 rfl) ?_
    refine kx_get (v := .int ((upd z 4403 (nI (wst z x (bI y)))) 4403)) hx hb hts hinX8 hown hK hM.1 rfl 0 (by decide) (by decide +kernel) rfl dX8_strike_19 ?_
    refine kx_ci (y := nI (wst z x (bI y))) pk_us ?_
    refine kn_if_le (tgt := 27) hx hb dX8_strike_22 (by decide) (lt31 (wst_4 _ _ _)) (fun hw0 => ?_) (fun hw0 => ?_)
    · rw [hw0] at hM
      obtain ⟨r, hr, rfl⟩ := wst_0 hI hw0
      have hnq : nn (nI r) = r := nn_nI (by have := hI.R6; omega)
      have h6 := hI.R6
      refine lv_aload_n hx hb dX8_strike_27 rfl (lv_at hl 0 rfl) ?_
      refine kx_retM (va_runV (As := []) (rest := []) ⟨hx, hb, hml, hown, hts⟩ (k_X8_save l D cs a (upd z 4403 (nI 0)) (Sv z) (th_v hZ _) hZ.2.1.2) (cwV 0 hts gX8_strike_X8_save rfl rfl rfl (by decide +kernel) ⟨Nat.le_of_ble_eq_true rfl, Nat.le_of_ble_eq_true rfl⟩) (kx_preV hK hN hM.1 rfl hM) rfl rfl hl.1 rfl (lv_room (Nat.le_of_ble_eq_true rfl)) dX8_strike_28 ⟨Nat.le_of_ble_eq_true rfl, Nat.le_of_ble_eq_true rfl⟩) hS (fun q _ h => h) (fun q h => h) (fun H locs hM hk hS => ?_)
      clear hk
      have hM : MdC D (cs 0) a (svT z) H := hM
      refine lv_aload_n hx hb dX8_strike_31 rfl (lv_at hl 0 rfl) ?_
      refine kx_get (v := .ref (a + 1)) hx hb hts hinX8 hown hK hM.1 rfl 1 (by decide) (by decide +kernel) rfl dX8_strike_32 ?_
      refine lv_bipush (v := nI 56) hx hb dX8_strike_35 (by decide) ?_
      refine lv_iconst (v := nI 4) hx hb dX8_strike_37 (by decide) ?_
      refine lv_iload_n hx hb dX8_strike_38 rfl (lv_at hl 1 rfl) ?_
      refine kn_mul hx hb dX8_strike_39 ?_
      refine kn_add hx hb dX8_strike_40 ?_
      refine lv_iconst (v := nI 3) hx hb dX8_strike_41 (by decide) ?_
      refine kn_add hx hb dX8_strike_42 ?_
      refine lv_iload_n hx hb dX8_strike_43 rfl (lv_at hl 2 rfl) ?_
      refine kb_if_eq (tgt := 51) hx hb dX8_strike_44 (by decide) (fun c_2 => ?_) (fun c_2 => ?_)
      · refine lv_iconst (v := nI 0) hx hb dX8_strike_51 (by decide) ?_
        refine kx_ci (x := nI (0)) (y := bI y) (by first | (simp [bI_t, bI_f, *]; done) | (exfalso; simp_all; done)) ?_
        refine kx_iast (i := 56 + (4 * r) + 3) hx hb hK hM.state hS ⟨by omega, by omega⟩ 0 rfl (by omega) (by decide) dX8_strike_52 (fun H locs hc hU hS => ?_)
        have hM := hM.put_state (by omega) hc hU
        clear hc hU
        have hM : MdC D (cs 0) a (upd (svT z) (56 + 4 * r + 3) (bI y)) H := hM
        refine lv_aload_n hx hb dX8_strike_53 rfl (lv_at hl 0 rfl) ?_
        refine lv_iload_n hx hb dX8_strike_54 rfl (lv_at hl 1 rfl) ?_
        refine kx_retP (va_runV (As := [.int (nI (r))]) (rest := []) ⟨hx, hb, hml, hown, hts⟩ (k_X8_copiedTo l D cs a (upd (svT z) (56 + 4 * r + 3) (bI y)) r (stk_inv (svT_inv hI) r y) (by rw [stk_R, svT_R]; exact hr)) (cwV 1 hts gX8_strike_X8_copiedTo rfl rfl rfl (by decide +kernel) ⟨Nat.le_of_ble_eq_true rfl, Nat.le_of_ble_eq_true rfl⟩) (kx_preV hK hN hM.1 rfl hM) rfl rfl hl.1 rfl (lv_room (Nat.le_of_ble_eq_true rfl)) dX8_strike_55 ⟨Nat.le_of_ble_eq_true rfl, Nat.le_of_ble_eq_true rfl⟩) ?_
        refine kx_ci (y := nI (cpN z r)) (congrArg nI ((stk_cp _ _ _ _).trans ((svT_eqv hI).cp r))) ?_
        exact kx_iretM hx hb hrt hlk (by rw [if_pos hw0, hnq]) (by rw [if_pos hw0, hnq]; exact hM) hS dX8_strike_58
      · refine lv_iconst (v := nI 1) hx hb dX8_strike_47 (by decide) ?_
        refine lv_goto (tgt := 52) hx hb dX8_strike_48 (by decide) ?_
        refine kx_ci (x := nI (1)) (y := bI y) (by first | (simp [bI_t, bI_f, *]; done) | (exfalso; simp_all; done)) ?_
        refine kx_iast (i := 56 + (4 * r) + 3) hx hb hK hM.state hS ⟨by omega, by omega⟩ 0 rfl (by omega) (by decide) dX8_strike_52 (fun H locs hc hU hS => ?_)
        have hM := hM.put_state (by omega) hc hU
        clear hc hU
        have hM : MdC D (cs 0) a (upd (svT z) (56 + 4 * r + 3) (bI y)) H := hM
        refine lv_aload_n hx hb dX8_strike_53 rfl (lv_at hl 0 rfl) ?_
        refine lv_iload_n hx hb dX8_strike_54 rfl (lv_at hl 1 rfl) ?_
        refine kx_retP (va_runV (As := [.int (nI (r))]) (rest := []) ⟨hx, hb, hml, hown, hts⟩ (k_X8_copiedTo l D cs a (upd (svT z) (56 + 4 * r + 3) (bI y)) r (stk_inv (svT_inv hI) r y) (by rw [stk_R, svT_R]; exact hr)) (cwV 1 hts gX8_strike_X8_copiedTo rfl rfl rfl (by decide +kernel) ⟨Nat.le_of_ble_eq_true rfl, Nat.le_of_ble_eq_true rfl⟩) (kx_preV hK hN hM.1 rfl hM) rfl rfl hl.1 rfl (lv_room (Nat.le_of_ble_eq_true rfl)) dX8_strike_55 ⟨Nat.le_of_ble_eq_true rfl, Nat.le_of_ble_eq_true rfl⟩) ?_
        refine kx_ci (y := nI (cpN z r)) (congrArg nI ((stk_cp _ _ _ _).trans ((svT_eqv hI).cp r))) ?_
        exact kx_iretM hx hb hrt hlk (by rw [if_pos hw0, hnq]) (by rw [if_pos hw0, hnq]; exact hM) hS dX8_strike_58
    · refine lv_iconst (v := nI 0) hx hb dX8_strike_25 (by decide) ?_
      exact kx_iretM hx hb hrt hlk (by rw [if_neg hw0]) (by rw [if_neg hw0]; exact hM) hS dX8_strike_26
  · refine lv_iconst (v := nI 1) hx hb dX8_strike_7 (by decide) ?_
    refine lv_goto (tgt := 12) hx hb dX8_strike_8 (by decide) ?_
    refine kx_ci (x := nI (1)) (y := bI y) (by simp [bI_t, bI_f, *]) ?_
    refine kx_retP (va_runV (As := [.int (x), .int (bI y)]) (rest := [.ref (a)]) ⟨hx, hb, hml, hown, hts⟩ (k_X8_whyNoStrike l D cs a z x (bI y) hI) (cwV 2 hts gX8_strike_X8_whyNoStrike rfl rfl rfl (by decide +kernel) ⟨Nat.le_of_ble_eq_true rfl, Nat.le_of_ble_eq_true rfl⟩) (kx_preV hK hN hM.1 rfl hM) rfl rfl hl.1 rfl (lv_room (Nat.le_of_ble_eq_true rfl)) dX8_strike_12 ⟨Nat.le_of_ble_eq_true rfl, Nat.le_of_ble_eq_true rfl⟩) ?_
    refine kx_put hx hb hts hinX8 tyX8_ok nmX8 hown hK hM.1 rfl hS ⟨by omega, by omega⟩ 0 (by decide) (by decide +kernel) rfl rfl rfl (Nat.le_of_ble_eq_true rfl) dX8_strike_15 (fun H locs hc hU hS => ?_)
    have hM := hM.put_thrown hc hU
    clear hc hU
    refine lv_aload_n hx hb dX8_strike_18 rfl (lv_at hl 0 rfl) ?_
    refine kx_get (v := .int ((upd z 4403 (nI (wst z x (bI y)))) 4403)) hx hb hts hinX8 hown hK hM.1 rfl 0 (by decide) (by decide +kernel) rfl dX8_strike_19 ?_
    refine kx_ci (y := nI (wst z x (bI y))) pk_us ?_
    refine kn_if_le (tgt := 27) hx hb dX8_strike_22 (by decide) (lt31 (wst_4 _ _ _)) (fun hw0 => ?_) (fun hw0 => ?_)
    · rw [hw0] at hM
      obtain ⟨r, hr, rfl⟩ := wst_0 hI hw0
      have hnq : nn (nI r) = r := nn_nI (by have := hI.R6; omega)
      have h6 := hI.R6
      refine lv_aload_n hx hb dX8_strike_27 rfl (lv_at hl 0 rfl) ?_
      refine kx_retM (va_runV (As := []) (rest := []) ⟨hx, hb, hml, hown, hts⟩ (k_X8_save l D cs a (upd z 4403 (nI 0)) (Sv z) (th_v hZ _) hZ.2.1.2) (cwV 0 hts gX8_strike_X8_save rfl rfl rfl (by decide +kernel) ⟨Nat.le_of_ble_eq_true rfl, Nat.le_of_ble_eq_true rfl⟩) (kx_preV hK hN hM.1 rfl hM) rfl rfl hl.1 rfl (lv_room (Nat.le_of_ble_eq_true rfl)) dX8_strike_28 ⟨Nat.le_of_ble_eq_true rfl, Nat.le_of_ble_eq_true rfl⟩) hS (fun q _ h => h) (fun q h => h) (fun H locs hM hk hS => ?_)
      clear hk
      have hM : MdC D (cs 0) a (svT z) H := hM
      refine lv_aload_n hx hb dX8_strike_31 rfl (lv_at hl 0 rfl) ?_
      refine kx_get (v := .ref (a + 1)) hx hb hts hinX8 hown hK hM.1 rfl 1 (by decide) (by decide +kernel) rfl dX8_strike_32 ?_
      refine lv_bipush (v := nI 56) hx hb dX8_strike_35 (by decide) ?_
      refine lv_iconst (v := nI 4) hx hb dX8_strike_37 (by decide) ?_
      refine lv_iload_n hx hb dX8_strike_38 rfl (lv_at hl 1 rfl) ?_
      refine kn_mul hx hb dX8_strike_39 ?_
      refine kn_add hx hb dX8_strike_40 ?_
      refine lv_iconst (v := nI 3) hx hb dX8_strike_41 (by decide) ?_
      refine kn_add hx hb dX8_strike_42 ?_
      refine lv_iload_n hx hb dX8_strike_43 rfl (lv_at hl 2 rfl) ?_
      refine kb_if_eq (tgt := 51) hx hb dX8_strike_44 (by decide) (fun c_3 => ?_) (fun c_3 => ?_)
      · refine lv_iconst (v := nI 0) hx hb dX8_strike_51 (by decide) ?_
        refine kx_ci (x := nI (0)) (y := bI y) (by first | (simp [bI_t, bI_f, *]; done) | (exfalso; simp_all; done)) ?_
        refine kx_iast (i := 56 + (4 * r) + 3) hx hb hK hM.state hS ⟨by omega, by omega⟩ 0 rfl (by omega) (by decide) dX8_strike_52 (fun H locs hc hU hS => ?_)
        have hM := hM.put_state (by omega) hc hU
        clear hc hU
        have hM : MdC D (cs 0) a (upd (svT z) (56 + 4 * r + 3) (bI y)) H := hM
        refine lv_aload_n hx hb dX8_strike_53 rfl (lv_at hl 0 rfl) ?_
        refine lv_iload_n hx hb dX8_strike_54 rfl (lv_at hl 1 rfl) ?_
        refine kx_retP (va_runV (As := [.int (nI (r))]) (rest := []) ⟨hx, hb, hml, hown, hts⟩ (k_X8_copiedTo l D cs a (upd (svT z) (56 + 4 * r + 3) (bI y)) r (stk_inv (svT_inv hI) r y) (by rw [stk_R, svT_R]; exact hr)) (cwV 1 hts gX8_strike_X8_copiedTo rfl rfl rfl (by decide +kernel) ⟨Nat.le_of_ble_eq_true rfl, Nat.le_of_ble_eq_true rfl⟩) (kx_preV hK hN hM.1 rfl hM) rfl rfl hl.1 rfl (lv_room (Nat.le_of_ble_eq_true rfl)) dX8_strike_55 ⟨Nat.le_of_ble_eq_true rfl, Nat.le_of_ble_eq_true rfl⟩) ?_
        refine kx_ci (y := nI (cpN z r)) (congrArg nI ((stk_cp _ _ _ _).trans ((svT_eqv hI).cp r))) ?_
        exact kx_iretM hx hb hrt hlk (by rw [if_pos hw0, hnq]) (by rw [if_pos hw0, hnq]; exact hM) hS dX8_strike_58
      · refine lv_iconst (v := nI 1) hx hb dX8_strike_47 (by decide) ?_
        refine lv_goto (tgt := 52) hx hb dX8_strike_48 (by decide) ?_
        refine kx_ci (x := nI (1)) (y := bI y) (by first | (simp [bI_t, bI_f, *]; done) | (exfalso; simp_all; done)) ?_
        refine kx_iast (i := 56 + (4 * r) + 3) hx hb hK hM.state hS ⟨by omega, by omega⟩ 0 rfl (by omega) (by decide) dX8_strike_52 (fun H locs hc hU hS => ?_)
        have hM := hM.put_state (by omega) hc hU
        clear hc hU
        have hM : MdC D (cs 0) a (upd (svT z) (56 + 4 * r + 3) (bI y)) H := hM
        refine lv_aload_n hx hb dX8_strike_53 rfl (lv_at hl 0 rfl) ?_
        refine lv_iload_n hx hb dX8_strike_54 rfl (lv_at hl 1 rfl) ?_
        refine kx_retP (va_runV (As := [.int (nI (r))]) (rest := []) ⟨hx, hb, hml, hown, hts⟩ (k_X8_copiedTo l D cs a (upd (svT z) (56 + 4 * r + 3) (bI y)) r (stk_inv (svT_inv hI) r y) (by rw [stk_R, svT_R]; exact hr)) (cwV 1 hts gX8_strike_X8_copiedTo rfl rfl rfl (by decide +kernel) ⟨Nat.le_of_ble_eq_true rfl, Nat.le_of_ble_eq_true rfl⟩) (kx_preV hK hN hM.1 rfl hM) rfl rfl hl.1 rfl (lv_room (Nat.le_of_ble_eq_true rfl)) dX8_strike_55 ⟨Nat.le_of_ble_eq_true rfl, Nat.le_of_ble_eq_true rfl⟩) ?_
        refine kx_ci (y := nI (cpN z r)) (congrArg nI ((stk_cp _ _ _ _).trans ((svT_eqv hI).cp r))) ?_
        exact kx_iretM hx hb hrt hlk (by rw [if_pos hw0, hnq]) (by rw [if_pos hw0, hnq]; exact hM) hS dX8_strike_58
    · refine lv_iconst (v := nI 0) hx hb dX8_strike_25 (by decide) ?_
      exact kx_iretM hx hb hrt hlk (by rw [if_neg hw0]) (by rw [if_neg hw0]; exact hM) hS dX8_strike_26
set_option maxHeartbeats 1500000 in
set_option maxRecDepth 100000 in
theorem k_X8_thrown (l : Launch) (D : va_G) (cs : Nat → ClassId) (a : Nat) (z : Nat → Int32)  : Met l yX8_thrown wsX8_thrown ({ frames := 0, cells := 0, slots := 0, locals := 0 } : Room) (PcK D cs [.ref (a)] (fun H => MdC D (cs 0) a z H)) (QcP (some (.int (z 4403)))) 0 0 nowhere := by
  refine kx_met (cc := cX8_thrown) (maxL := 1) (ret := (some .int)) (by decide) rfl (Nat.le_of_ble_eq_true rfl) ?_
  intro p e s m args below meth c hx hb hml hrt hts hown hlk hK hN hP ls hl
  have hl : lv_has ls 1 [(0, .ref (a))] := hl
  have hinX8 : ∀ w ∈ wsX80, w ∈ wsX8_thrown := by decide +kernel
  have hM := hP
  refine lv_aload_n hx hb dX8_thrown_0 rfl (lv_at hl 0 rfl) ?_
  refine kx_get (v := .int (z 4403)) hx hb hts hinX8 hown hK hM.1 rfl 0 (by decide) (by decide +kernel) rfl dX8_thrown_1 ?_
  exact kx_iretP hx hb hrt hlk rfl dX8_thrown_4
