set_option maxHeartbeats 1500000 in
set_option maxRecDepth 100000 in
theorem k_X8_within (l : Launch) (D : va_G) (cs : Nat → ClassId) (v lo hi : Int32) : Met l yX8_within wsX8_within ({ frames := 0, cells := 0, slots := 0, locals := 0 } : Room) (PcK D cs [.int (v), .int (lo), .int (hi)] (fun H => True)) (QcP (some (.int (bI (wiB v lo hi))))) 0 0 nowhere := by
  refine kx_met (cc := cX8_within) (maxL := 3) (ret := (some .boolean)) (by decide) rfl (Nat.le_of_ble_eq_true rfl) ?_
  intro p e s m args below meth c hx hb hml hrt hts hown hlk hK hN hP ls hl
  have hl : lv_has ls 3 [(0, .int (v)), (1, .int (lo)), (2, .int (hi))] := hl
  refine lv_iload_n hx hb dX8_within_0 rfl (lv_at hl 0 rfl) ?_
  refine lv_iload_n hx hb dX8_within_1 rfl (lv_at hl 1 rfl) ?_
  refine lv_icmp_lt (tgt := 14) hx hb dX8_within_2 (by decide) (fun c_1 => ?_) (fun c_1 => ?_)
  · refine lv_iconst (v := nI 0) hx hb dX8_within_14 (by decide) ?_
    exact kx_zretP hx hb hrt hlk (by first | rw [wi_lo (by assumption)]; rfl | rw [wi_hi (by assumption)]; rfl | rw [wi_in (by assumption) (by assumption)]; rfl) dX8_within_15
  · refine lv_iload_n hx hb dX8_within_5 rfl (lv_at hl 0 rfl) ?_
    refine lv_iload_n hx hb dX8_within_6 rfl (lv_at hl 2 rfl) ?_
    refine lv_icmp_gt (tgt := 14) hx hb dX8_within_7 (by decide) (fun c_2 => ?_) (fun c_2 => ?_)
    · refine lv_iconst (v := nI 0) hx hb dX8_within_14 (by decide) ?_
      exact kx_zretP hx hb hrt hlk (by first | rw [wi_lo (by assumption)]; rfl | rw [wi_hi (by assumption)]; rfl | rw [wi_in (by assumption) (by assumption)]; rfl) dX8_within_15
    · refine lv_iconst (v := nI 1) hx hb dX8_within_10 (by decide) ?_
      refine lv_goto (tgt := 15) hx hb dX8_within_11 (by decide) ?_
      exact kx_zretP hx hb hrt hlk (by first | rw [wi_lo (by assumption)]; rfl | rw [wi_hi (by assumption)]; rfl | rw [wi_in (by assumption) (by assumption)]; rfl) dX8_within_15
set_option maxHeartbeats 1500000 in
set_option maxRecDepth 100000 in
theorem k_X8_isCell (l : Launch) (D : va_G) (cs : Nat → ClassId) (a : Nat) (z : Nat → Int32) (x : Int32) : Met l yX8_isCell wsX8_isCell ({ frames := 1, cells := 0, slots := 0, locals := 22 } : Room) (PcK D cs [.ref (a), .int (x)] (fun H => MdC D (cs 0) a z H)) (QcP (some (.int (bI (wiB x (nI 0) (nI 47)))))) 0 0 nowhere := by
  refine kx_met (cc := cX8_isCell) (maxL := 2) (ret := (some .boolean)) (by decide) rfl (Nat.le_of_ble_eq_true rfl) ?_
  intro p e s m args below meth c hx hb hml hrt hts hown hlk hK hN hP ls hl
  have hl : lv_has ls 2 [(0, .ref (a)), (1, .int (x))] := hl
  have hM := hP
  refine lv_iload_n hx hb dX8_isCell_0 rfl (lv_at hl 1 rfl) ?_
  refine lv_iconst (v := nI 0) hx hb dX8_isCell_1 (by decide) ?_
  refine lv_bipush (v := nI 47) hx hb dX8_isCell_2 (by decide) ?_
  refine kx_retP (va_runS (As := [.int (x), .int (nI (0)), .int (nI (47))]) (rest := []) ⟨hx, hb, hml, hown, hts⟩ (k_X8_within l D cs x (nI (0)) (nI (47))) (cwS 3 hts gX8_isCell_X8_within rfl rfl rfl (by decide +kernel) ⟨Nat.le_of_ble_eq_true rfl, Nat.le_of_ble_eq_true rfl⟩) (kx_preS hK hN trivial) rfl rfl hl.1 rfl (lv_room (Nat.le_of_ble_eq_true rfl)) dX8_isCell_4 ⟨Nat.le_of_ble_eq_true rfl, Nat.le_of_ble_eq_true rfl⟩) ?_
  exact kx_zretP hx hb hrt hlk (by first | rfl | simp [*]) dX8_isCell_7
set_option maxHeartbeats 1500000 in
set_option maxRecDepth 100000 in
theorem k_X8_ringPart (l : Launch) (D : va_G) (cs : Nat → ClassId) (a : Nat) (z : Nat → Int32) (r pt : Nat) (hr : r < 6) (hp : pt < 4) : Met l yX8_ringPart wsX8_ringPart ({ frames := 0, cells := 0, slots := 0, locals := 0 } : Room) (PcK D cs [.ref (a), .int (nI (r)), .int (nI (pt))] (fun H => MdC D (cs 0) a z H)) (QcP (some (.int (z (56 + 4 * r + pt))))) 0 0 nowhere := by
  refine kx_met (cc := cX8_ringPart) (maxL := 3) (ret := (some .int)) (by decide) rfl (Nat.le_of_ble_eq_true rfl) ?_
  intro p e s m args below meth c hx hb hml hrt hts hown hlk hK hN hP ls hl
  have hl : lv_has ls 3 [(0, .ref (a)), (1, .int (nI (r))), (2, .int (nI (pt)))] := hl
  have hinX8 : ∀ w ∈ wsX80, w ∈ wsX8_ringPart := by decide +kernel
  have hM := hP
  refine lv_aload_n hx hb dX8_ringPart_0 rfl (lv_at hl 0 rfl) ?_
  refine kx_get (v := .ref (a + 1)) hx hb hts hinX8 hown hK hM.1 rfl 1 (by decide) (by decide +kernel) rfl dX8_ringPart_1 ?_
  refine lv_bipush (v := nI 56) hx hb dX8_ringPart_4 (by decide) ?_
  refine lv_iconst (v := nI 4) hx hb dX8_ringPart_6 (by decide) ?_
  refine lv_iload_n hx hb dX8_ringPart_7 rfl (lv_at hl 1 rfl) ?_
  refine kn_mul hx hb dX8_ringPart_8 ?_
  refine kn_add hx hb dX8_ringPart_9 ?_
  refine lv_iload_n hx hb dX8_ringPart_10 rfl (lv_at hl 2 rfl) ?_
  refine kn_add hx hb dX8_ringPart_11 ?_
  refine kx_iald (i := 56 + (4 * r) + pt) hx hb hK hM.state 0 rfl (by omega) (by decide) dX8_ringPart_12 ?_
  exact kx_iretP hx hb hrt hlk (by first | rfl | simp [*]) dX8_ringPart_13
set_option maxHeartbeats 1500000 in
set_option maxRecDepth 100000 in
theorem k_X8_movePart (l : Launch) (D : va_G) (cs : Nat → ClassId) (a : Nat) (z : Nat → Int32) (mv pt : Nat) (hm : mv < 24) (hp : pt < 10) : Met l yX8_movePart wsX8_movePart ({ frames := 0, cells := 0, slots := 0, locals := 0 } : Room) (PcK D cs [.ref (a), .int (nI (mv)), .int (nI (pt))] (fun H => MdC D (cs 0) a z H)) (QcP (some (.int (z (80 + 10 * mv + pt))))) 0 0 nowhere := by
  refine kx_met (cc := cX8_movePart) (maxL := 3) (ret := (some .int)) (by decide) rfl (Nat.le_of_ble_eq_true rfl) ?_
  intro p e s m args below meth c hx hb hml hrt hts hown hlk hK hN hP ls hl
  have hl : lv_has ls 3 [(0, .ref (a)), (1, .int (nI (mv))), (2, .int (nI (pt)))] := hl
  have hinX8 : ∀ w ∈ wsX80, w ∈ wsX8_movePart := by decide +kernel
  have hM := hP
  refine lv_aload_n hx hb dX8_movePart_0 rfl (lv_at hl 0 rfl) ?_
  refine kx_get (v := .ref (a + 1)) hx hb hts hinX8 hown hK hM.1 rfl 1 (by decide) (by decide +kernel) rfl dX8_movePart_1 ?_
  refine lv_bipush (v := nI 80) hx hb dX8_movePart_4 (by decide) ?_
  refine lv_bipush (v := nI 10) hx hb dX8_movePart_6 (by decide) ?_
  refine lv_iload_n hx hb dX8_movePart_8 rfl (lv_at hl 1 rfl) ?_
  refine kn_mul hx hb dX8_movePart_9 ?_
  refine kn_add hx hb dX8_movePart_10 ?_
  refine lv_iload_n hx hb dX8_movePart_11 rfl (lv_at hl 2 rfl) ?_
  refine kn_add hx hb dX8_movePart_12 ?_
  refine kx_iald (i := 80 + (10 * mv) + pt) hx hb hK hM.state 0 rfl (by omega) (by decide) dX8_movePart_13 ?_
  exact kx_iretP hx hb hrt hlk (by first | rfl | simp [*]) dX8_movePart_14
set_option maxHeartbeats 1500000 in
set_option maxRecDepth 100000 in
theorem k_X8_setMovePart (l : Launch) (D : va_G) (cs : Nat → ClassId) (a : Nat) (z : Nat → Int32) (mv pt : Nat) (v : Int32) (hm : mv < 24) (hp : pt < 10) : Met l yX8_setMovePart wsX8_setMovePart ({ frames := 0, cells := 0, slots := 0, locals := 0 } : Room) (PcK D cs [.ref (a), .int (nI (mv)), .int (nI (pt)), .int (v)] (fun H => MdC D (cs 0) a z H)) (QcM none (fun H => MdC D (cs 0) a (upd z (80 + 10 * mv + pt) v) H) (rgM a)) 0 0 ((rgM a)) := by
  refine kx_met (cc := cX8_setMovePart) (maxL := 4) (ret := none) (by decide) rfl (Nat.le_of_ble_eq_true rfl) ?_
  intro p e s m args below meth c hx hb hml hrt hts hown hlk hK hN hP ls hl
  have hl : lv_has ls 4 [(0, .ref (a)), (1, .int (nI (mv))), (2, .int (nI (pt))), (3, .int (v))] := hl
  obtain ⟨H, hHe⟩ : ∃ H : Heap, H = s.heap := ⟨_, rfl⟩
  rw [← hHe] at hP ⊢
  have hS : va_S ((rgM a)) s.heap H [] := by rw [← hHe]; exact va_S.rf
  have hinX8 : ∀ w ∈ wsX80, w ∈ wsX8_setMovePart := by decide +kernel
  have hM := hP
  refine lv_aload_n hx hb dX8_setMovePart_0 rfl (lv_at hl 0 rfl) ?_
  refine kx_get (v := .ref (a + 1)) hx hb hts hinX8 hown hK hM.1 rfl 1 (by decide) (by decide +kernel) rfl dX8_setMovePart_1 ?_
  refine lv_bipush (v := nI 80) hx hb dX8_setMovePart_4 (by decide) ?_
  refine lv_bipush (v := nI 10) hx hb dX8_setMovePart_6 (by decide) ?_
  refine lv_iload_n hx hb dX8_setMovePart_8 rfl (lv_at hl 1 rfl) ?_
  refine kn_mul hx hb dX8_setMovePart_9 ?_
  refine kn_add hx hb dX8_setMovePart_10 ?_
  refine lv_iload_n hx hb dX8_setMovePart_11 rfl (lv_at hl 2 rfl) ?_
  refine kn_add hx hb dX8_setMovePart_12 ?_
  refine lv_iload_n hx hb dX8_setMovePart_13 rfl (lv_at hl 3 rfl) ?_
  refine kx_iast (i := 80 + (10 * mv) + pt) hx hb hK hM.state hS ⟨by omega, by omega⟩ 0 rfl (by omega) (by decide) dX8_setMovePart_14 (fun H locs hc hU hS => ?_)
  have hM := hM.put_state (by omega) hc hU
  clear hc hU
  exact kx_vretM hx hb hrt hlk hM hS dX8_setMovePart_15
