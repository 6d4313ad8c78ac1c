set_option maxHeartbeats 2500000 in
set_option maxRecDepth 100000 in
theorem k_X1_rewind (l : Launch) (D : va_G) (cs : Nat → ClassId) (tq : Nat) (b nn : Nat → Int32) (wd ln pa : Nat) (ft : Int32)  (hl150 : ln ≤ 150) (hpa : pa ≤ ln) : Met l yX1_rewind wsX1_rewind ({ frames := 0, cells := 0, slots := 0, locals := 0 } : Room) (PcK D cs [.ref (tq)] (fun H => TxC D cs tq b nn wd ln pa ft H)) (QcM none (fun H => TxC D cs tq b nn wd ln 0 ((-1)) H) (rgT tq)) 0 0 ((rgT tq)) := by
  refine kx_met (cc := cX1_rewind) (maxL := 1) (ret := none) (by decide) rfl (Nat.le_of_ble_eq_true rfl) ?_
  intro p en s m args below meth c hx hb hml hrt hts hown hlk hK hN hP ls hl
  have hl : lv_has ls 1 [(0, .ref (tq))] := hl
  obtain ⟨H, hHe⟩ : ∃ H : Heap, H = s.heap := ⟨_, rfl⟩
  rw [← hHe] at hP ⊢
  have hS : va_S ((rgT tq)) s.heap H [] := by rw [← hHe]; exact va_S.rf
  have hinX1 : ∀ w ∈ wsX10, w ∈ wsX1_rewind := by decide +kernel
  have hWto := hP.1
  have hWtb := hP.2.1
  have hWtn := hP.2.2
  refine lv_aload_n hx hb dX1_rewind_0 rfl (lv_at hl 0 rfl) ?_
  refine lv_iconst (v := nI 0) hx hb dX1_rewind_1 (by decide) ?_
  refine kx_put hx hb hts hinX1 tyX1_ok nmX1 hown hK hWto rfl hS ⟨by omega, by omega⟩ 4 (by decide) (by decide +kernel) rfl rfl rfl (Nat.le_of_ble_eq_true rfl) dX1_rewind_2 (fun H locs hc hU hS => ?_)
  have hWto : va_at D vwCl (tq, .inr (0, [.ref (tq + 1), .ref (tq + 2), .ref (wd), .int (nI (ln)), .int (nI (0)), .int (ft)])) H := hc
  have hWtb := hWtb.kept (hU.2 _ (by omega))
  have hWtn := hWtn.kept (hU.2 _ (by omega))
  clear hc hU
  refine lv_aload_n hx hb dX1_rewind_5 rfl (lv_at hl 0 rfl) ?_
  refine lv_iconst (v := -1) hx hb dX1_rewind_6 (by decide) ?_
  refine kx_put hx hb hts hinX1 tyX1_ok nmX1 hown hK hWto rfl hS ⟨by omega, by omega⟩ 5 (by decide) (by decide +kernel) rfl rfl rfl (Nat.le_of_ble_eq_true rfl) dX1_rewind_7 (fun H locs hc hU hS => ?_)
  have hWto : va_at D vwCl (tq, .inr (0, [.ref (tq + 1), .ref (tq + 2), .ref (wd), .int (nI (ln)), .int (nI (0)), .int (-1)])) H := hc
  have hWtb := hWtb.kept (hU.2 _ (by omega))
  have hWtn := hWtn.kept (hU.2 _ (by omega))
  clear hc hU
  exact kx_vretM hx hb hrt hlk ⟨hWto, hWtb, hWtn⟩ hS dX1_rewind_10
set_option maxHeartbeats 2500000 in
set_option maxRecDepth 100000 in
theorem k_X1_failAt (l : Launch) (D : va_G) (cs : Nat → ClassId) (tq : Nat) (b nn : Nat → Int32) (wd ln pa : Nat) (ft : Int32) (x : Int32) (hl150 : ln ≤ 150) (hpa : pa ≤ ln) : Met l yX1_failAt wsX1_failAt ({ frames := 0, cells := 0, slots := 0, locals := 0 } : Room) (PcK D cs [.ref (tq), .int (x)] (fun H => TxC D cs tq b nn wd ln pa ft H)) (QcM (some (.int (bI (false)))) (fun H => TxC D cs tq b nn wd ln pa x H) (rgT tq)) 0 0 ((rgT tq)) := by
  refine kx_met (cc := cX1_failAt) (maxL := 2) (ret := (some .boolean)) (by decide) rfl (Nat.le_of_ble_eq_true rfl) ?_
  intro p en s m args below meth c hx hb hml hrt hts hown hlk hK hN hP ls hl
  have hl : lv_has ls 2 [(0, .ref (tq)), (1, .int (x))] := hl
  obtain ⟨H, hHe⟩ : ∃ H : Heap, H = s.heap := ⟨_, rfl⟩
  rw [← hHe] at hP ⊢
  have hS : va_S ((rgT tq)) s.heap H [] := by rw [← hHe]; exact va_S.rf
  have hinX1 : ∀ w ∈ wsX10, w ∈ wsX1_failAt := by decide +kernel
  have hWto := hP.1
  have hWtb := hP.2.1
  have hWtn := hP.2.2
  refine lv_aload_n hx hb dX1_failAt_0 rfl (lv_at hl 0 rfl) ?_
  refine lv_iload_n hx hb dX1_failAt_1 rfl (lv_at hl 1 rfl) ?_
  refine kx_put hx hb hts hinX1 tyX1_ok nmX1 hown hK hWto rfl hS ⟨by omega, by omega⟩ 5 (by decide) (by decide +kernel) rfl rfl rfl (Nat.le_of_ble_eq_true rfl) dX1_failAt_2 (fun H locs hc hU hS => ?_)
  have hWto : va_at D vwCl (tq, .inr (0, [.ref (tq + 1), .ref (tq + 2), .ref (wd), .int (nI (ln)), .int (nI (pa)), .int (x)])) H := hc
  have hWtb := hWtb.kept (hU.2 _ (by omega))
  have hWtn := hWtn.kept (hU.2 _ (by omega))
  clear hc hU
  refine lv_iconst (v := nI 0) hx hb dX1_failAt_5 (by decide) ?_
  exact kx_zretM hx hb hrt hlk rfl ⟨hWto, hWtb, hWtn⟩ hS dX1_failAt_6
set_option maxHeartbeats 2500000 in
set_option maxRecDepth 100000 in
theorem k_X1_append (l : Launch) (D : va_G) (cs : Nat → ClassId) (tq : Nat) (b nn : Nat → Int32) (wd ln pa : Nat) (ft : Int32) (x : Nat) (hx9 : x < 128) (hl9 : ln < 150) (hl150 : ln ≤ 150) (hpa : pa ≤ ln) : Met l yX1_append wsX1_append ({ frames := 0, cells := 0, slots := 0, locals := 0 } : Room) (PcK D cs [.ref (tq), .int (nI (x))] (fun H => TxC D cs tq b nn wd ln pa ft H)) (QcM (some (.int (nI (ln + 1)))) (fun H => TxC D cs tq ((upd b ln (nI x))) nn wd ((ln + 1)) pa ft H) (rgT tq)) 0 0 ((rgT tq)) := by
  refine kx_met (cc := cX1_append) (maxL := 2) (ret := (some .int)) (by decide) rfl (Nat.le_of_ble_eq_true rfl) ?_
  intro p en s m args below meth c hx hb hml hrt hts hown hlk hK hN hP ls hl
  have hl : lv_has ls 2 [(0, .ref (tq)), (1, .int (nI (x)))] := hl
  obtain ⟨H, hHe⟩ : ∃ H : Heap, H = s.heap := ⟨_, rfl⟩
  rw [← hHe] at hP ⊢
  have hS : va_S ((rgT tq)) s.heap H [] := by rw [← hHe]; exact va_S.rf
  have hinX1 : ∀ w ∈ wsX10, w ∈ wsX1_append := by decide +kernel
  have hWto := hP.1
  have hWtb := hP.2.1
  have hWtn := hP.2.2
  refine lv_aload_n hx hb dX1_append_0 rfl (lv_at hl 0 rfl) ?_
  refine kx_get (v := .ref (tq + 1)) hx hb hts hinX1 hown hK hWto rfl 0 (by decide) (by decide +kernel) rfl dX1_append_1 ?_
  refine lv_aload_n hx hb dX1_append_4 rfl (lv_at hl 0 rfl) ?_
  refine kx_get (v := .int (nI (ln))) hx hb hts hinX1 hown hK hWto rfl 3 (by decide) (by decide +kernel) rfl dX1_append_5 ?_
  refine lv_iload_n hx hb dX1_append_8 rfl (lv_at hl 1 rfl) ?_
  refine lv_i2c (v := nI (x)) hx hb dX1_append_9 (i2c_lo x hx9) ?_
  refine kx_cast (i := ln) hx hb hK hWtb hS ⟨by omega, by omega⟩ 1 rfl (nar_lo x hx9) (by omega) (by omega) dX1_append_10 (fun H locs hc hU hS => ?_)
  have hWtb : va_at D vwCl (tq + 1, .inl (cs 1, 150, .inl (upd b ln (nI (x))))) H := hc
  have hWtn := hWtn.kept (hU.2 _ (by omega))
  have hWto := hWto.kept (hU.2 _ (by omega))
  clear hc hU
  refine lv_aload_n hx hb dX1_append_11 rfl (lv_at hl 0 rfl) ?_
  refine lv_dup hx hb dX1_append_12 rfl ?_
  refine kx_get (v := .int (nI (ln))) hx hb hts hinX1 hown hK hWto rfl 3 (by decide) (by decide +kernel) rfl dX1_append_13 ?_
  refine lv_iconst (v := nI 1) hx hb dX1_append_16 (by decide) ?_
  refine kn_add hx hb dX1_append_17 ?_
  refine kx_put hx hb hts hinX1 tyX1_ok nmX1 hown hK hWto rfl hS ⟨by omega, by omega⟩ 3 (by decide) (by decide +kernel) rfl rfl rfl (Nat.le_of_ble_eq_true rfl) dX1_append_18 (fun H locs hc hU hS => ?_)
  have hWto : va_at D vwCl (tq, .inr (0, [.ref (tq + 1), .ref (tq + 2), .ref (wd), .int (nI (ln + 1)), .int (nI (pa)), .int (ft)])) H := hc
  have hWtb := hWtb.kept (hU.2 _ (by omega))
  have hWtn := hWtn.kept (hU.2 _ (by omega))
  clear hc hU
  refine lv_aload_n hx hb dX1_append_21 rfl (lv_at hl 0 rfl) ?_
  refine kx_get (v := .int (nI (ln + 1))) hx hb hts hinX1 hown hK hWto rfl 3 (by decide) (by decide +kernel) rfl dX1_append_22 ?_
  exact kx_iretM hx hb hrt hlk rfl ⟨hWto, hWtb, hWtn⟩ hS dX1_append_25
set_option maxHeartbeats 2500000 in
set_option maxRecDepth 100000 in
theorem k_X1_skipSpaces (l : Launch) (D : va_G) (cs : Nat → ClassId) (tq : Nat) (b nn : Nat → Int32) (wd ln pa : Nat) (ft : Int32)  (hl150 : ln ≤ 150) (hpa : pa ≤ ln) : Met l yX1_skipSpaces wsX1_skipSpaces ({ frames := 0, cells := 0, slots := 0, locals := 0 } : Room) (PcK D cs [.ref (tq)] (fun H => TxC D cs tq b nn wd ln pa ft H)) (QcM none (fun H => TxC D cs tq b nn wd ln ((skp b ln pa)) ft H) (rgT tq)) 0 0 ((rgT tq)) := by
  refine kx_met (cc := cX1_skipSpaces) (maxL := 1) (ret := none) (by decide) rfl (Nat.le_of_ble_eq_true rfl) ?_
  intro p en s m args below meth c hx hb hml hrt hts hown hlk hK hN hP ls hl
  have hl : lv_has ls 1 [(0, .ref (tq))] := hl
  obtain ⟨H, hHe⟩ : ∃ H : Heap, H = s.heap := ⟨_, rfl⟩
  rw [← hHe] at hP ⊢
  have hS : va_S ((rgT tq)) s.heap H [] := by rw [← hHe]; exact va_S.rf
  have hinX1 : ∀ w ∈ wsX10, w ∈ wsX1_skipSpaces := by decide +kernel
  have hWto := hP.1
  have hWtb := hP.2.1
  have hWtn := hP.2.2
  have J0 : ∀ (fu0 : Nat) (i : Nat) (H : Heap) (locs : List Loc) (ls : Array Slot), (ln - (pa + i)) < fu0 → (pa + i ≤ ln) → (∀ j, j < i → bt b ln (pa + j) = nI 32) → (va_at D vwCl (tq + 1, .inl (cs 1, 150, .inl b)) H) → (va_at D vwCl (tq + 2, .inl (cs 0, 5, .inl nn)) H) → (va_at D vwCl (tq, .inr (0, [.ref (tq + 1), .ref (tq + 2), .ref (wd), .int (nI (ln)), .int (nI (pa + i)), .int (ft)])) H) → va_S ((rgT tq)) s.heap H locs → lv_has ls 1 [(0, .ref (tq))] → W p l en ({ frames := 0, cells := 0, slots := 0, locals := 0 } : Room) s m args below meth c H locs 0 0 (MQ below (QcM none (fun H => TxC D cs tq b nn wd ln ((skp b ln pa)) ft H) (rgT tq)) args s 0 0 ((rgT tq))) (F0 m 0 ls []) := by
    intro fu0; induction fu0 with
    | zero => intro i H locs ls hmu0 hi hsm hWtb hWtn hWto hS hl; exact absurd hmu0 (Nat.not_lt_zero _)
    | succ fu0 ih0 =>
      intro i H locs ls hmu0 hi hsm hWtb hWtn hWto hS hl
      refine lv_aload_n hx hb dX1_skipSpaces_0 rfl (lv_at hl 0 rfl) ?_
      refine kx_get (v := .int (nI (pa + i))) hx hb hts hinX1 hown hK hWto rfl 4 (by decide) (by decide +kernel) rfl dX1_skipSpaces_1 ?_
      refine lv_aload_n hx hb dX1_skipSpaces_4 rfl (lv_at hl 0 rfl) ?_
      refine kx_get (v := .int (nI (ln))) hx hb hts hinX1 hown hK hWto rfl 3 (by decide) (by decide +kernel) rfl dX1_skipSpaces_5 ?_
      refine kn_icmp_ge (tgt := 38) hx hb dX1_skipSpaces_8 (by decide) (by omega) (by omega) (fun hge => ?_) (fun hge => ?_)
      · exact kx_vretM hx hb hrt hlk (by rw [skp_is hsm (by first | (rw [bt_lt hlt]; exact hsp) | (rw [bt_ge (by omega)]; decide)) hpa]; exact ⟨hWto, hWtb, hWtn⟩) hS dX1_skipSpaces_38
      · have hlt : pa + i < ln := by omega
        refine lv_aload_n hx hb dX1_skipSpaces_11 rfl (lv_at hl 0 rfl) ?_
        refine kx_get (v := .ref (tq + 1)) hx hb hts hinX1 hown hK hWto rfl 0 (by decide) (by decide +kernel) rfl dX1_skipSpaces_12 ?_
        refine lv_aload_n hx hb dX1_skipSpaces_15 rfl (lv_at hl 0 rfl) ?_
        refine kx_get (v := .int (nI (pa + i))) hx hb hts hinX1 hown hK hWto rfl 4 (by decide) (by decide +kernel) rfl dX1_skipSpaces_16 ?_
        refine kx_cald (i := pa + i) hx hb hK hWtb 1 rfl (by omega) (by omega) dX1_skipSpaces_19 ?_
        refine lv_bipush (v := nI 32) hx hb dX1_skipSpaces_20 (by decide) ?_
        refine lv_icmp_ne (tgt := 38) hx hb dX1_skipSpaces_22 (by decide) (fun hsp => ?_) (fun hsp => ?_)
        · exact kx_vretM hx hb hrt hlk (by rw [skp_is hsm (by first | (rw [bt_lt hlt]; exact hsp) | (rw [bt_ge (by omega)]; decide)) hpa]; exact ⟨hWto, hWtb, hWtn⟩) hS dX1_skipSpaces_38
        · refine lv_aload_n hx hb dX1_skipSpaces_25 rfl (lv_at hl 0 rfl) ?_
          refine lv_dup hx hb dX1_skipSpaces_26 rfl ?_
          refine kx_get (v := .int (nI (pa + i))) hx hb hts hinX1 hown hK hWto rfl 4 (by decide) (by decide +kernel) rfl dX1_skipSpaces_27 ?_
          refine lv_iconst (v := nI 1) hx hb dX1_skipSpaces_30 (by decide) ?_
          refine kn_add hx hb dX1_skipSpaces_31 ?_
          refine kx_put hx hb hts hinX1 tyX1_ok nmX1 hown hK hWto rfl hS ⟨by omega, by omega⟩ 4 (by decide) (by decide +kernel) rfl rfl rfl (Nat.le_of_ble_eq_true rfl) dX1_skipSpaces_32 (fun H locs hc hU hS => ?_)
          have hWto : va_at D vwCl (tq, .inr (0, [.ref (tq + 1), .ref (tq + 2), .ref (wd), .int (nI (ln)), .int (nI (pa + i + 1)), .int (ft)])) H := hc
          have hWtb := hWtb.kept (hU.2 _ (by omega))
          have hWtn := hWtn.kept (hU.2 _ (by omega))
          clear hc hU
          have hWto : va_at D vwCl (tq, .inr (0, [.ref (tq + 1), .ref (tq + 2), .ref (wd), .int (nI (ln)), .int (nI (pa + (i + 1))), .int (ft)])) H := by rw [show (pa + (i + 1)) = (pa + i + 1) from rfl]; exact hWto
          refine lv_goto (tgt := 0) hx hb dX1_skipSpaces_35 (by decide) ?_
          exact ih0 (i + 1) _ _ _ (by omega) (by omega) (fun j hj => by rcases Nat.lt_succ_iff_lt_or_eq.mp hj with q | q; exact hsm j q; subst q; exact (bt_lt hlt).trans hsp) hWtb hWtn hWto hS (lv_sub hl [0] rfl)
  exact J0 _ 0 _ _ _ (Nat.lt_succ_self _) (by omega) (fun j hj => absurd hj (Nat.not_lt_zero j)) hWtb hWtn hWto hS (lv_sub hl [0] rfl)
set_option maxHeartbeats 2500000 in
set_option maxRecDepth 100000 in
theorem k_X1_readSemicolon (l : Launch) (D : va_G) (cs : Nat → ClassId) (tq : Nat) (b nn : Nat → Int32) (wd ln pa : Nat) (ft : Int32)  (hl150 : ln ≤ 150) (hpa : pa ≤ ln) : Met l yX1_readSemicolon wsX1_readSemicolon ({ frames := 1, cells := 0, slots := 0, locals := 21 } : Room) (PcK D cs [.ref (tq)] (fun H => TxC D cs tq b nn wd ln pa ft H)) (QcM (some (.int (bI (decide (bt b ln (skp b ln pa) = nI 59))))) (fun H => TxC D cs tq b nn wd ln ((smA b ln pa)) ((smF b ln pa ft)) H) (rgT tq)) 0 0 ((rgT tq)) := by
  refine kx_met (cc := cX1_readSemicolon) (maxL := 1) (ret := (some .boolean)) (by decide) rfl (Nat.le_of_ble_eq_true rfl) ?_
  intro p en s m args below meth c hx hb hml hrt hts hown hlk hK hN hP ls hl
  have hl : lv_has ls 1 [(0, .ref (tq))] := hl
  obtain ⟨H, hHe⟩ : ∃ H : Heap, H = s.heap := ⟨_, rfl⟩
  rw [← hHe] at hP ⊢
  have hS : va_S ((rgT tq)) s.heap H [] := by rw [← hHe]; exact va_S.rf
  have hinX1 : ∀ w ∈ wsX10, w ∈ wsX1_readSemicolon := by decide +kernel
  have hWto := hP.1
  have hWtb := hP.2.1
  have hWtn := hP.2.2
  have hsl := skp_le b hpa
  refine lv_aload_n hx hb dX1_readSemicolon_0 rfl (lv_at hl 0 rfl) ?_
  refine kx_retM (va_runV (As := []) (rest := []) ⟨hx, hb, hml, hown, hts⟩ (k_X1_skipSpaces l D cs tq b nn wd ln pa ft (by first | assumption | omega) (by first | assumption | omega)) (cwV 0 hts gX1_readSemicolon_X1_skipSpaces rfl rfl rfl (by decide +kernel) ⟨Nat.le_of_ble_eq_true rfl, Nat.le_of_ble_eq_true rfl⟩) (kx_preV hK hN hWto rfl ⟨hWto, hWtb, hWtn⟩) rfl rfl hl.1 rfl (lv_room (Nat.le_of_ble_eq_true rfl)) dX1_readSemicolon_1 ⟨Nat.le_of_ble_eq_true rfl, Nat.le_of_ble_eq_true rfl⟩) hS (fun x _ h => h) (fun x h => h) (fun H locs hMN hk hS => ?_)
  obtain ⟨hWto, hWtb, hWtn⟩ := hMN
  clear hk
  refine lv_aload_n hx hb dX1_readSemicolon_4 rfl (lv_at hl 0 rfl) ?_
  refine kx_get (v := .int (nI ((skp b ln pa)))) hx hb hts hinX1 hown hK hWto rfl 4 (by decide) (by decide +kernel) rfl dX1_readSemicolon_5 ?_
  refine lv_aload_n hx hb dX1_readSemicolon_8 rfl (lv_at hl 0 rfl) ?_
  refine kx_get (v := .int (nI (ln))) hx hb hts hinX1 hown hK hWto rfl 3 (by decide) (by decide +kernel) rfl dX1_readSemicolon_9 ?_
  refine kn_icmp_ge (tgt := 29) hx hb dX1_readSemicolon_12 (by decide) (by omega) (by omega) (fun hge => ?_) (fun hge => ?_)
  · refine lv_aload_n hx hb dX1_readSemicolon_29 rfl (lv_at hl 0 rfl) ?_
    refine lv_aload_n hx hb dX1_readSemicolon_30 rfl (lv_at hl 0 rfl) ?_
    refine kx_get (v := .int (nI ((skp b ln pa)))) hx hb hts hinX1 hown hK hWto rfl 4 (by decide) (by decide +kernel) rfl dX1_readSemicolon_31 ?_
    refine kx_retM (va_runV (As := [.int (nI ((skp b ln pa)))]) (rest := []) ⟨hx, hb, hml, hown, hts⟩ (k_X1_failAt l D cs tq b nn wd ln ((skp b ln pa)) ft (nI ((skp b ln pa))) (by first | assumption | omega) (by first | assumption | omega)) (cwV 1 hts gX1_readSemicolon_X1_failAt rfl rfl rfl (by decide +kernel) ⟨Nat.le_of_ble_eq_true rfl, Nat.le_of_ble_eq_true rfl⟩) (kx_preV hK hN hWto rfl ⟨hWto, hWtb, hWtn⟩) rfl rfl hl.1 rfl (lv_room (Nat.le_of_ble_eq_true rfl)) dX1_readSemicolon_34 ⟨Nat.le_of_ble_eq_true rfl, Nat.le_of_ble_eq_true rfl⟩) hS (fun x _ h => h) (fun x h => h) (fun H locs hMN hk hS => ?_)
    obtain ⟨hWto, hWtb, hWtn⟩ := hMN
    clear hk
    exact kx_zretM hx hb hrt hlk (congrArg bI (decide_eq_false (by first | (rw [bt_lt hlt]; exact hsc) | (rw [bt_ge hge]; decide))).symm) (by unfold smA smF; rw [if_neg (by first | (rw [bt_lt hlt]; exact hsc) | (rw [bt_ge hge]; decide)), if_neg (by first | (rw [bt_lt hlt]; exact hsc) | (rw [bt_ge hge]; decide))]; exact ⟨hWto, hWtb, hWtn⟩) hS dX1_readSemicolon_37
  · have hlt : skp b ln pa < ln := by omega
    refine lv_aload_n hx hb dX1_readSemicolon_15 rfl (lv_at hl 0 rfl) ?_
    refine kx_get (v := .ref (tq + 1)) hx hb hts hinX1 hown hK hWto rfl 0 (by decide) (by decide +kernel) rfl dX1_readSemicolon_16 ?_
    refine lv_aload_n hx hb dX1_readSemicolon_19 rfl (lv_at hl 0 rfl) ?_
    refine kx_get (v := .int (nI ((skp b ln pa)))) hx hb hts hinX1 hown hK hWto rfl 4 (by decide) (by decide +kernel) rfl dX1_readSemicolon_20 ?_
    refine kx_cald (i := (skp b ln pa)) hx hb hK hWtb 1 rfl (by omega) (by omega) dX1_readSemicolon_23 ?_
    refine lv_bipush (v := nI 59) hx hb dX1_readSemicolon_24 (by decide) ?_
    refine lv_icmp_eq (tgt := 38) hx hb dX1_readSemicolon_26 (by decide) (fun hsc => ?_) (fun hsc => ?_)
    · refine lv_aload_n hx hb dX1_readSemicolon_38 rfl (lv_at hl 0 rfl) ?_
      refine lv_dup hx hb dX1_readSemicolon_39 rfl ?_
      refine kx_get (v := .int (nI ((skp b ln pa)))) hx hb hts hinX1 hown hK hWto rfl 4 (by decide) (by decide +kernel) rfl dX1_readSemicolon_40 ?_
      refine lv_iconst (v := nI 1) hx hb dX1_readSemicolon_43 (by decide) ?_
      refine kn_add hx hb dX1_readSemicolon_44 ?_
      refine kx_put hx hb hts hinX1 tyX1_ok nmX1 hown hK hWto rfl hS ⟨by omega, by omega⟩ 4 (by decide) (by decide +kernel) rfl rfl rfl (Nat.le_of_ble_eq_true rfl) dX1_readSemicolon_45 (fun H locs hc hU hS => ?_)
      have hWto : va_at D vwCl (tq, .inr (0, [.ref (tq + 1), .ref (tq + 2), .ref (wd), .int (nI (ln)), .int (nI ((skp b ln pa) + 1)), .int (ft)])) H := hc
      have hWtb := hWtb.kept (hU.2 _ (by omega))
      have hWtn := hWtn.kept (hU.2 _ (by omega))
      clear hc hU
      refine lv_iconst (v := nI 1) hx hb dX1_readSemicolon_48 (by decide) ?_
      exact kx_zretM hx hb hrt hlk (congrArg bI (decide_eq_true ((bt_lt hlt).trans hsc)).symm) (by unfold smA smF; rw [if_pos ((bt_lt hlt).trans hsc), if_pos ((bt_lt hlt).trans hsc)]; exact ⟨hWto, hWtb, hWtn⟩) hS dX1_readSemicolon_49
    · refine lv_aload_n hx hb dX1_readSemicolon_29 rfl (lv_at hl 0 rfl) ?_
      refine lv_aload_n hx hb dX1_readSemicolon_30 rfl (lv_at hl 0 rfl) ?_
      refine kx_get (v := .int (nI ((skp b ln pa)))) hx hb hts hinX1 hown hK hWto rfl 4 (by decide) (by decide +kernel) rfl dX1_readSemicolon_31 ?_
      refine kx_retM (va_runV (As := [.int (nI ((skp b ln pa)))]) (rest := []) ⟨hx, hb, hml, hown, hts⟩ (k_X1_failAt l D cs tq b nn wd ln ((skp b ln pa)) ft (nI ((skp b ln pa))) (by first | assumption | omega) (by first | assumption | omega)) (cwV 1 hts gX1_readSemicolon_X1_failAt rfl rfl rfl (by decide +kernel) ⟨Nat.le_of_ble_eq_true rfl, Nat.le_of_ble_eq_true rfl⟩) (kx_preV hK hN hWto rfl ⟨hWto, hWtb, hWtn⟩) rfl rfl hl.1 rfl (lv_room (Nat.le_of_ble_eq_true rfl)) dX1_readSemicolon_34 ⟨Nat.le_of_ble_eq_true rfl, Nat.le_of_ble_eq_true rfl⟩) hS (fun x _ h => h) (fun x h => h) (fun H locs hMN hk hS => ?_)
      obtain ⟨hWto, hWtb, hWtn⟩ := hMN
      clear hk
      exact kx_zretM hx hb hrt hlk (congrArg bI (decide_eq_false (by first | (rw [bt_lt hlt]; exact hsc) | (rw [bt_ge hge]; decide))).symm) (by unfold smA smF; rw [if_neg (by first | (rw [bt_lt hlt]; exact hsc) | (rw [bt_ge hge]; decide)), if_neg (by first | (rw [bt_lt hlt]; exact hsc) | (rw [bt_ge hge]; decide))]; exact ⟨hWto, hWtb, hWtn⟩) hS dX1_readSemicolon_37
set_option maxHeartbeats 2500000 in
set_option maxRecDepth 100000 in
theorem k_X1_readNumber (l : Launch) (D : va_G) (cs : Nat → ClassId) (tq : Nat) (b nn : Nat → Int32) (wd ln pa : Nat) (ft : Int32) (w : Nat) (hw : w < 5) (hl150 : ln ≤ 150) (hpa : pa ≤ ln) : Met l yX1_readNumber wsX1_readNumber ({ frames := 1, cells := 0, slots := 0, locals := 22 } : Room) (PcK D cs [.ref (tq), .int (nI (w))] (fun H => TxC D cs tq b nn wd ln pa ft H)) (QcM (some (.int (bI (nmOk b ln pa)))) (fun H => TxC D cs tq b ((rnN b nn ln pa w)) wd ln ((rnA b ln pa)) ((rnF b ln pa ft)) H) (rgT tq)) 0 0 ((rgT tq)) := by
  refine kx_met (cc := cX1_readNumber) (maxL := 5) (ret := (some .boolean)) (by decide) rfl (Nat.le_of_ble_eq_true rfl) ?_
  intro p en s m args below meth c hx hb hml hrt hts hown hlk hK hN hP ls hl
  have hl : lv_has ls 5 [(0, .ref (tq)), (1, .int (nI (w)))] := hl
  obtain ⟨H, hHe⟩ : ∃ H : Heap, H = s.heap := ⟨_, rfl⟩
  rw [← hHe] at hP ⊢
  have hS : va_S ((rgT tq)) s.heap H [] := by rw [← hHe]; exact va_S.rf
  have hinX1 : ∀ w ∈ wsX10, w ∈ wsX1_readNumber := by decide +kernel
  have hWto := hP.1
  have hWtb := hP.2.1
  have hWtn := hP.2.2
  have hsl := skp_le b hpa
  refine lv_aload_n hx hb dX1_readNumber_0 rfl (lv_at hl 0 rfl) ?_
  refine kx_get (v := .int (nI (pa))) hx hb hts hinX1 hown hK hWto rfl 4 (by decide) (by decide +kernel) rfl dX1_readNumber_1 ?_
  refine lv_istore_n (lv' := [(2, .int (nI (pa))), (0, .ref (tq)), (1, .int (nI (w)))]) hx hb dX1_readNumber_4 rfl hl (by decide) rfl (fun ls hl => ?_)
  refine lv_aload_n hx hb dX1_readNumber_5 rfl (lv_at hl 1 rfl) ?_
  refine kx_retM (va_runV (As := []) (rest := []) ⟨hx, hb, hml, hown, hts⟩ (k_X1_skipSpaces l D cs tq b nn wd ln pa ft (by first | assumption | omega) (by first | assumption | omega)) (cwV 0 hts gX1_readNumber_X1_skipSpaces rfl rfl rfl (by decide +kernel) ⟨Nat.le_of_ble_eq_true rfl, Nat.le_of_ble_eq_true rfl⟩) (kx_preV hK hN hWto rfl ⟨hWto, hWtb, hWtn⟩) rfl rfl hl.1 rfl (lv_room (Nat.le_of_ble_eq_true rfl)) dX1_readNumber_6 ⟨Nat.le_of_ble_eq_true rfl, Nat.le_of_ble_eq_true rfl⟩) hS (fun x _ h => h) (fun x h => h) (fun H locs hMN hk hS => ?_)
  obtain ⟨hWto, hWtb, hWtn⟩ := hMN
  clear hk
  refine lv_aload_n hx hb dX1_readNumber_9 rfl (lv_at hl 1 rfl) ?_
  refine kx_get (v := .int (nI ((skp b ln pa)))) hx hb hts hinX1 hown hK hWto rfl 4 (by decide) (by decide +kernel) rfl dX1_readNumber_10 ?_
  refine lv_iload_n hx hb dX1_readNumber_13 rfl (lv_at hl 0 rfl) ?_
  refine kn_icmp_ne (tgt := 26) hx hb dX1_readNumber_14 (by decide) (by omega) (by omega) (fun hgap => ?_) (fun hgap => ?_)
  · have h32 : bt b ln pa = nI 32 := Decidable.not_not.mp (fun q => hgap ((skp_at hpa).mpr q))
    refine lv_aload_n hx hb dX1_readNumber_26 rfl (lv_at hl 1 rfl) ?_
    refine kx_get (v := .int (nI ((skp b ln pa)))) hx hb hts hinX1 hown hK hWto rfl 4 (by decide) (by decide +kernel) rfl dX1_readNumber_27 ?_
    refine lv_istore_n (lv' := [(3, .int (nI ((skp b ln pa)))), (2, .int (nI (pa))), (0, .ref (tq)), (1, .int (nI (w)))]) hx hb dX1_readNumber_30 rfl hl (by decide) rfl (fun ls hl => ?_)
    refine lv_iconst (v := nI 0) hx hb dX1_readNumber_31 (by decide) ?_
    refine lv_istore (lv' := [(4, .int (nI (0))), (3, .int (nI ((skp b ln pa)))), (2, .int (nI (pa))), (0, .ref (tq)), (1, .int (nI (w)))]) hx hb dX1_readNumber_32 hl (by decide) rfl (fun ls hl => ?_)
    have J34 : ∀ (fu34 : Nat) (i : Nat) (H : Heap) (locs : List Loc) (ls : Array Slot), (3 - i) < fu34 → (skp b ln pa + i ≤ ln) → (i ≤ 3) → (∀ j, j < i → isD (bt b ln (skp b ln pa + j)) = true) → (va_at D vwCl (tq + 1, .inl (cs 1, 150, .inl b)) H) → (va_at D vwCl (tq + 2, .inl (cs 0, 5, .inl nn)) H) → (va_at D vwCl (tq, .inr (0, [.ref (tq + 1), .ref (tq + 2), .ref (wd), .int (nI (ln)), .int (nI (skp b ln pa + i)), .int (ft)])) H) → va_S ((rgT tq)) s.heap H locs → lv_has ls 5 [(0, .ref (tq)), (1, .int (nI (w))), (2, .int (nI (pa))), (3, .int (nI (skp b ln pa))), (4, .int (nvI b (skp b ln pa) i))] → W p l en ({ frames := 1, cells := 0, slots := 0, locals := 22 } : Room) s m args below meth c H locs 0 0 (MQ below (QcM (some (.int (bI (nmOk b ln pa)))) (fun H => TxC D cs tq b ((rnN b nn ln pa w)) wd ln ((rnA b ln pa)) ((rnF b ln pa ft)) H) (rgT tq)) args s 0 0 ((rgT tq))) (F0 m 34 ls []) := by
      intro fu34; induction fu34 with
      | zero => intro i H locs ls hmu34 hi hi3 hsm hWtb hWtn hWto hS hl; exact absurd hmu34 (Nat.not_lt_zero _)
      | succ fu34 ih34 =>
        intro i H locs ls hmu34 hi hi3 hsm hWtb hWtn hWto hS hl
        refine lv_aload_n hx hb dX1_readNumber_34 rfl (lv_at hl 0 rfl) ?_
        refine kx_get (v := .int (nI (skp b ln pa + i))) hx hb hts hinX1 hown hK hWto rfl 4 (by decide) (by decide +kernel) rfl dX1_readNumber_35 ?_
        refine lv_aload_n hx hb dX1_readNumber_38 rfl (lv_at hl 0 rfl) ?_
        refine kx_get (v := .int (nI (ln))) hx hb hts hinX1 hown hK hWto rfl 3 (by decide) (by decide +kernel) rfl dX1_readNumber_39 ?_
        refine kn_icmp_ge (tgt := 107) hx hb dX1_readNumber_42 (by decide) (by omega) (by omega) (fun hge => ?_) (fun hge => ?_)
        · have hdn : dgN b ln (skp b ln pa) = i := dgN_is hsm (by first | exact Or.inl (by omega) | exact Or.inr (by rw [bt_lt hlt]; exact hdg) | exact Or.inr (by rw [bt_ge (by omega)]; decide)) hi3
          refine lv_aload_n hx hb dX1_readNumber_107 rfl (lv_at hl 0 rfl) ?_
          refine kx_get (v := .int (nI (skp b ln pa + i))) hx hb hts hinX1 hown hK hWto rfl 4 (by decide) (by decide +kernel) rfl dX1_readNumber_108 ?_
          refine lv_iload_n hx hb dX1_readNumber_111 rfl (lv_at hl 3 rfl) ?_
          refine kn_icmp_ne (tgt := 124) hx hb dX1_readNumber_112 (by decide) (by omega) (by omega) (fun hz9 => ?_) (fun hz9 => ?_)
          · refine lv_aload_n hx hb dX1_readNumber_124 rfl (lv_at hl 0 rfl) ?_
            refine kx_get (v := .ref (tq + 2)) hx hb hts hinX1 hown hK hWto rfl 1 (by decide) (by decide +kernel) rfl dX1_readNumber_125 ?_
            refine lv_iload_n hx hb dX1_readNumber_128 rfl (lv_at hl 1 rfl) ?_
            refine lv_iload hx hb dX1_readNumber_129 (lv_at hl 4 rfl) ?_
            refine kx_iast (i := w) hx hb hK hWtn hS ⟨by omega, by omega⟩ 0 rfl (by omega) (by omega) dX1_readNumber_131 (fun H locs hc hU hS => ?_)
            have hWtn : va_at D vwCl (tq + 2, .inl (cs 0, 5, .inl (upd nn w (nvI b (skp b ln pa) i)))) H := hc
            have hWtb := hWtb.kept (hU.2 _ (by omega))
            have hWto := hWto.kept (hU.2 _ (by omega))
            clear hc hU
            refine lv_iconst (v := nI 1) hx hb dX1_readNumber_132 (by decide) ?_
            exact kx_zretM hx hb hrt hlk (by rw [nm_yes h32 (by omega)]; rfl) (by unfold rnN rnA rnF nmE nmV; rw [nm_yes h32 (by omega), if_pos rfl, if_pos rfl, if_pos rfl, hdn]; exact ⟨hWto, hWtb, hWtn⟩) hS dX1_readNumber_133
          · refine lv_aload_n hx hb dX1_readNumber_115 rfl (lv_at hl 0 rfl) ?_
            refine lv_aload_n hx hb dX1_readNumber_116 rfl (lv_at hl 0 rfl) ?_
            refine kx_get (v := .int (nI (skp b ln pa + i))) hx hb hts hinX1 hown hK hWto rfl 4 (by decide) (by decide +kernel) rfl dX1_readNumber_117 ?_
            refine kx_retM (va_runV (As := [.int (nI (skp b ln pa + i))]) (rest := []) ⟨hx, hb, hml, hown, hts⟩ (k_X1_failAt l D cs tq b nn wd ln (skp b ln pa + i) ft (nI (skp b ln pa + i)) (by first | assumption | omega) (by first | assumption | omega)) (cwV 1 hts gX1_readNumber_X1_failAt rfl rfl rfl (by decide +kernel) ⟨Nat.le_of_ble_eq_true rfl, Nat.le_of_ble_eq_true rfl⟩) (kx_preV hK hN hWto rfl ⟨hWto, hWtb, hWtn⟩) rfl rfl hl.1 rfl (lv_room (Nat.le_of_ble_eq_true rfl)) dX1_readNumber_120 ⟨Nat.le_of_ble_eq_true rfl, Nat.le_of_ble_eq_true rfl⟩) hS (fun x _ h => h) (fun x h => h) (fun H locs hMN hk hS => ?_)
            obtain ⟨hWto, hWtb, hWtn⟩ := hMN
            clear hk
            exact kx_zretM hx hb hrt hlk (by rw [nm_no h32 (by omega)]) (by have hi0 : i = 0 := (by omega); subst hi0; unfold rnN rnA rnF nmFl; rw [nm_no h32 (by omega), if_neg (by decide), if_neg (by decide), if_neg (by decide), if_pos h32]; exact ⟨hWto, hWtb, hWtn⟩) hS dX1_readNumber_123
        · refine lv_aload_n hx hb dX1_readNumber_45 rfl (lv_at hl 0 rfl) ?_
          refine kx_get (v := .int (nI (skp b ln pa + i))) hx hb hts hinX1 hown hK hWto rfl 4 (by decide) (by decide +kernel) rfl dX1_readNumber_46 ?_
          refine lv_iload_n hx hb dX1_readNumber_49 rfl (lv_at hl 3 rfl) ?_
          refine lv_iconst (v := nI 3) hx hb dX1_readNumber_50 (by decide) ?_
          refine kn_add hx hb dX1_readNumber_51 ?_
          refine kn_icmp_ge (tgt := 107) hx hb dX1_readNumber_52 (by decide) (by omega) (by omega) (fun h3 => ?_) (fun h3 => ?_)
          · have hdn : dgN b ln (skp b ln pa) = i := dgN_is hsm (by first | exact Or.inl (by omega) | exact Or.inr (by rw [bt_lt hlt]; exact hdg) | exact Or.inr (by rw [bt_ge (by omega)]; decide)) hi3
            refine lv_aload_n hx hb dX1_readNumber_107 rfl (lv_at hl 0 rfl) ?_
            refine kx_get (v := .int (nI (skp b ln pa + i))) hx hb hts hinX1 hown hK hWto rfl 4 (by decide) (by decide +kernel) rfl dX1_readNumber_108 ?_
            refine lv_iload_n hx hb dX1_readNumber_111 rfl (lv_at hl 3 rfl) ?_
            refine kn_icmp_ne (tgt := 124) hx hb dX1_readNumber_112 (by decide) (by omega) (by omega) (fun hz9 => ?_) (fun hz9 => ?_)
            · refine lv_aload_n hx hb dX1_readNumber_124 rfl (lv_at hl 0 rfl) ?_
              refine kx_get (v := .ref (tq + 2)) hx hb hts hinX1 hown hK hWto rfl 1 (by decide) (by decide +kernel) rfl dX1_readNumber_125 ?_
              refine lv_iload_n hx hb dX1_readNumber_128 rfl (lv_at hl 1 rfl) ?_
              refine lv_iload hx hb dX1_readNumber_129 (lv_at hl 4 rfl) ?_
              refine kx_iast (i := w) hx hb hK hWtn hS ⟨by omega, by omega⟩ 0 rfl (by omega) (by omega) dX1_readNumber_131 (fun H locs hc hU hS => ?_)
              have hWtn : va_at D vwCl (tq + 2, .inl (cs 0, 5, .inl (upd nn w (nvI b (skp b ln pa) i)))) H := hc
              have hWtb := hWtb.kept (hU.2 _ (by omega))
              have hWto := hWto.kept (hU.2 _ (by omega))
              clear hc hU
              refine lv_iconst (v := nI 1) hx hb dX1_readNumber_132 (by decide) ?_
              exact kx_zretM hx hb hrt hlk (by rw [nm_yes h32 (by omega)]; rfl) (by unfold rnN rnA rnF nmE nmV; rw [nm_yes h32 (by omega), if_pos rfl, if_pos rfl, if_pos rfl, hdn]; exact ⟨hWto, hWtb, hWtn⟩) hS dX1_readNumber_133
            · refine lv_aload_n hx hb dX1_readNumber_115 rfl (lv_at hl 0 rfl) ?_
              refine lv_aload_n hx hb dX1_readNumber_116 rfl (lv_at hl 0 rfl) ?_
              refine kx_get (v := .int (nI (skp b ln pa + i))) hx hb hts hinX1 hown hK hWto rfl 4 (by decide) (by decide +kernel) rfl dX1_readNumber_117 ?_
              refine kx_retM (va_runV (As := [.int (nI (skp b ln pa + i))]) (rest := []) ⟨hx, hb, hml, hown, hts⟩ (k_X1_failAt l D cs tq b nn wd ln (skp b ln pa + i) ft (nI (skp b ln pa + i)) (by first | assumption | omega) (by first | assumption | omega)) (cwV 1 hts gX1_readNumber_X1_failAt rfl rfl rfl (by decide +kernel) ⟨Nat.le_of_ble_eq_true rfl, Nat.le_of_ble_eq_true rfl⟩) (kx_preV hK hN hWto rfl ⟨hWto, hWtb, hWtn⟩) rfl rfl hl.1 rfl (lv_room (Nat.le_of_ble_eq_true rfl)) dX1_readNumber_120 ⟨Nat.le_of_ble_eq_true rfl, Nat.le_of_ble_eq_true rfl⟩) hS (fun x _ h => h) (fun x h => h) (fun H locs hMN hk hS => ?_)
              obtain ⟨hWto, hWtb, hWtn⟩ := hMN
              clear hk
              exact kx_zretM hx hb hrt hlk (by rw [nm_no h32 (by omega)]) (by have hi0 : i = 0 := (by omega); subst hi0; unfold rnN rnA rnF nmFl; rw [nm_no h32 (by omega), if_neg (by decide), if_neg (by decide), if_neg (by decide), if_pos h32]; exact ⟨hWto, hWtb, hWtn⟩) hS dX1_readNumber_123
          · have hlt : skp b ln pa + i < ln := by omega
            refine lv_aload_n hx hb dX1_readNumber_55 rfl (lv_at hl 0 rfl) ?_
            refine kx_get (v := .ref (tq + 1)) hx hb hts hinX1 hown hK hWto rfl 0 (by decide) (by decide +kernel) rfl dX1_readNumber_56 ?_
            refine lv_aload_n hx hb dX1_readNumber_59 rfl (lv_at hl 0 rfl) ?_
            refine kx_get (v := .int (nI (skp b ln pa + i))) hx hb hts hinX1 hown hK hWto rfl 4 (by decide) (by decide +kernel) rfl dX1_readNumber_60 ?_
            refine kx_cald (i := skp b ln pa + i) hx hb hK hWtb 1 rfl (by omega) (by omega) dX1_readNumber_63 ?_
            refine lv_bipush (v := nI 48) hx hb dX1_readNumber_64 (by decide) ?_
            refine lv_bipush (v := nI 57) hx hb dX1_readNumber_66 (by decide) ?_
            refine kx_retP (va_runSN (As := [.int (b (skp b ln pa + i)), .int (nI (48)), .int (nI (57))]) (rest := []) ⟨hx, hb, hml, hown, hts⟩ (k_X7_isWithin l D cs (b (skp b ln pa + i)) (nI (48)) (nI (57))) ⟨va_cnB 3 hts ggX1_readNumber_X7_isWithin rfl rfl rfl hN.2.1 (hts (.initialized RX7) (by decide +kernel)) (by decide +kernel) ⟨Nat.le_of_ble_eq_true rfl, Nat.le_of_ble_eq_true rfl⟩, hts (.static yX7_isWithin) (by decide +kernel), trivial⟩ (kx_preS hK hN trivial) rfl rfl hl.1 rfl (lv_room (Nat.le_of_ble_eq_true rfl)) dX1_readNumber_68 ⟨Nat.le_of_ble_eq_true rfl, Nat.le_of_ble_eq_true rfl⟩) ?_
            refine kb_if_eq (tgt := 107) hx hb dX1_readNumber_71 (by decide) (fun hdg => ?_) (fun hdg => ?_)
            · have hdn : dgN b ln (skp b ln pa) = i := dgN_is hsm (by first | exact Or.inl (by omega) | exact Or.inr (by rw [bt_lt hlt]; exact hdg) | exact Or.inr (by rw [bt_ge (by omega)]; decide)) hi3
              refine lv_aload_n hx hb dX1_readNumber_107 rfl (lv_at hl 0 rfl) ?_
              refine kx_get (v := .int (nI (skp b ln pa + i))) hx hb hts hinX1 hown hK hWto rfl 4 (by decide) (by decide +kernel) rfl dX1_readNumber_108 ?_
              refine lv_iload_n hx hb dX1_readNumber_111 rfl (lv_at hl 3 rfl) ?_
              refine kn_icmp_ne (tgt := 124) hx hb dX1_readNumber_112 (by decide) (by omega) (by omega) (fun hz9 => ?_) (fun hz9 => ?_)
              · refine lv_aload_n hx hb dX1_readNumber_124 rfl (lv_at hl 0 rfl) ?_
                refine kx_get (v := .ref (tq + 2)) hx hb hts hinX1 hown hK hWto rfl 1 (by decide) (by decide +kernel) rfl dX1_readNumber_125 ?_
                refine lv_iload_n hx hb dX1_readNumber_128 rfl (lv_at hl 1 rfl) ?_
                refine lv_iload hx hb dX1_readNumber_129 (lv_at hl 4 rfl) ?_
                refine kx_iast (i := w) hx hb hK hWtn hS ⟨by omega, by omega⟩ 0 rfl (by omega) (by omega) dX1_readNumber_131 (fun H locs hc hU hS => ?_)
                have hWtn : va_at D vwCl (tq + 2, .inl (cs 0, 5, .inl (upd nn w (nvI b (skp b ln pa) i)))) H := hc
                have hWtb := hWtb.kept (hU.2 _ (by omega))
                have hWto := hWto.kept (hU.2 _ (by omega))
                clear hc hU
                refine lv_iconst (v := nI 1) hx hb dX1_readNumber_132 (by decide) ?_
                exact kx_zretM hx hb hrt hlk (by rw [nm_yes h32 (by omega)]; rfl) (by unfold rnN rnA rnF nmE nmV; rw [nm_yes h32 (by omega), if_pos rfl, if_pos rfl, if_pos rfl, hdn]; exact ⟨hWto, hWtb, hWtn⟩) hS dX1_readNumber_133
              · refine lv_aload_n hx hb dX1_readNumber_115 rfl (lv_at hl 0 rfl) ?_
                refine lv_aload_n hx hb dX1_readNumber_116 rfl (lv_at hl 0 rfl) ?_
                refine kx_get (v := .int (nI (skp b ln pa + i))) hx hb hts hinX1 hown hK hWto rfl 4 (by decide) (by decide +kernel) rfl dX1_readNumber_117 ?_
                refine kx_retM (va_runV (As := [.int (nI (skp b ln pa + i))]) (rest := []) ⟨hx, hb, hml, hown, hts⟩ (k_X1_failAt l D cs tq b nn wd ln (skp b ln pa + i) ft (nI (skp b ln pa + i)) (by first | assumption | omega) (by first | assumption | omega)) (cwV 1 hts gX1_readNumber_X1_failAt rfl rfl rfl (by decide +kernel) ⟨Nat.le_of_ble_eq_true rfl, Nat.le_of_ble_eq_true rfl⟩) (kx_preV hK hN hWto rfl ⟨hWto, hWtb, hWtn⟩) rfl rfl hl.1 rfl (lv_room (Nat.le_of_ble_eq_true rfl)) dX1_readNumber_120 ⟨Nat.le_of_ble_eq_true rfl, Nat.le_of_ble_eq_true rfl⟩) hS (fun x _ h => h) (fun x h => h) (fun H locs hMN hk hS => ?_)
                obtain ⟨hWto, hWtb, hWtn⟩ := hMN
                clear hk
                exact kx_zretM hx hb hrt hlk (by rw [nm_no h32 (by omega)]) (by have hi0 : i = 0 := (by omega); subst hi0; unfold rnN rnA rnF nmFl; rw [nm_no h32 (by omega), if_neg (by decide), if_neg (by decide), if_neg (by decide), if_pos h32]; exact ⟨hWto, hWtb, hWtn⟩) hS dX1_readNumber_123
            · refine lv_bipush (v := nI 10) hx hb dX1_readNumber_74 (by decide) ?_
              refine lv_iload hx hb dX1_readNumber_76 (lv_at hl 4 rfl) ?_
              refine lv_imul hx hb dX1_readNumber_78 ?_
              refine lv_aload_n hx hb dX1_readNumber_79 rfl (lv_at hl 0 rfl) ?_
              refine kx_get (v := .ref (tq + 1)) hx hb hts hinX1 hown hK hWto rfl 0 (by decide) (by decide +kernel) rfl dX1_readNumber_80 ?_
              refine lv_aload_n hx hb dX1_readNumber_83 rfl (lv_at hl 0 rfl) ?_
              refine kx_get (v := .int (nI (skp b ln pa + i))) hx hb hts hinX1 hown hK hWto rfl 4 (by decide) (by decide +kernel) rfl dX1_readNumber_84 ?_
              refine kx_cald (i := skp b ln pa + i) hx hb hK hWtb 1 rfl (by omega) (by omega) dX1_readNumber_87 ?_
              refine lv_iadd hx hb dX1_readNumber_88 ?_
              refine lv_bipush (v := nI 48) hx hb dX1_readNumber_89 (by decide) ?_
              refine lv_isub hx hb dX1_readNumber_91 ?_
              refine kx_ci (x := (((nI (10)) * (nvI b (skp b ln pa) i)) + (b (skp b ln pa + i))) - (nI (48))) (y := nvI b (skp b ln pa) (i + 1)) rfl ?_
              refine lv_istore (lv' := [(4, .int (nvI b (skp b ln pa) (i + 1))), (0, .ref (tq)), (1, .int (nI (w))), (2, .int (nI (pa))), (3, .int (nI (skp b ln pa)))]) hx hb dX1_readNumber_92 hl (by decide) rfl (fun ls hl => ?_)
              refine lv_aload_n hx hb dX1_readNumber_94 rfl (lv_at hl 1 rfl) ?_
              refine lv_dup hx hb dX1_readNumber_95 rfl ?_
              refine kx_get (v := .int (nI (skp b ln pa + i))) hx hb hts hinX1 hown hK hWto rfl 4 (by decide) (by decide +kernel) rfl dX1_readNumber_96 ?_
              refine lv_iconst (v := nI 1) hx hb dX1_readNumber_99 (by decide) ?_
              refine kn_add hx hb dX1_readNumber_100 ?_
              refine kx_put hx hb hts hinX1 tyX1_ok nmX1 hown hK hWto rfl hS ⟨by omega, by omega⟩ 4 (by decide) (by decide +kernel) rfl rfl rfl (Nat.le_of_ble_eq_true rfl) dX1_readNumber_101 (fun H locs hc hU hS => ?_)
              have hWto : va_at D vwCl (tq, .inr (0, [.ref (tq + 1), .ref (tq + 2), .ref (wd), .int (nI (ln)), .int (nI (skp b ln pa + i + 1)), .int (ft)])) H := hc
              have hWtb := hWtb.kept (hU.2 _ (by omega))
              have hWtn := hWtn.kept (hU.2 _ (by omega))
              clear hc hU
              have hWto : va_at D vwCl (tq, .inr (0, [.ref (tq + 1), .ref (tq + 2), .ref (wd), .int (nI (ln)), .int (nI (skp b ln pa + (i + 1))), .int (ft)])) H := by rw [show (skp b ln pa + (i + 1)) = (skp b ln pa + i + 1) from rfl]; exact hWto
              refine lv_goto (tgt := 34) hx hb dX1_readNumber_104 (by decide) ?_
              exact ih34 (i + 1) _ _ _ (by omega) (by omega) (by omega) (fun j hj => by rcases Nat.lt_succ_iff_lt_or_eq.mp hj with q | q; exact hsm j q; subst q; rw [bt_lt hlt]; exact hdg) hWtb hWtn hWto hS (lv_sub hl [1, 2, 3, 4, 0] rfl)
    exact J34 _ 0 _ _ _ (Nat.lt_succ_self _) (by omega) (by omega) (fun j hj => absurd hj (Nat.not_lt_zero j)) hWtb hWtn hWto hS (by rw [nvI_0]; exact lv_sub hl [3, 4, 2, 1, 0] rfl)
  · refine lv_aload_n hx hb dX1_readNumber_17 rfl (lv_at hl 1 rfl) ?_
    refine lv_aload_n hx hb dX1_readNumber_18 rfl (lv_at hl 1 rfl) ?_
    refine kx_get (v := .int (nI ((skp b ln pa)))) hx hb hts hinX1 hown hK hWto rfl 4 (by decide) (by decide +kernel) rfl dX1_readNumber_19 ?_
    refine kx_retM (va_runV (As := [.int (nI ((skp b ln pa)))]) (rest := []) ⟨hx, hb, hml, hown, hts⟩ (k_X1_failAt l D cs tq b nn wd ln ((skp b ln pa)) ft (nI ((skp b ln pa))) (by first | assumption | omega) (by first | assumption | omega)) (cwV 1 hts gX1_readNumber_X1_failAt rfl rfl rfl (by decide +kernel) ⟨Nat.le_of_ble_eq_true rfl, Nat.le_of_ble_eq_true rfl⟩) (kx_preV hK hN hWto rfl ⟨hWto, hWtb, hWtn⟩) rfl rfl hl.1 rfl (lv_room (Nat.le_of_ble_eq_true rfl)) dX1_readNumber_22 ⟨Nat.le_of_ble_eq_true rfl, Nat.le_of_ble_eq_true rfl⟩) hS (fun x _ h => h) (fun x h => h) (fun H locs hMN hk hS => ?_)
    obtain ⟨hWto, hWtb, hWtn⟩ := hMN
    clear hk
    exact kx_zretM hx hb hrt hlk (by have h9 : nmOk b ln pa = false := (by unfold nmOk; rw [decide_eq_false ((skp_at hpa).mp hgap)]; rfl); rw [h9]) (by have h8 := (skp_at hpa).mp hgap; have h9 : nmOk b ln pa = false := (by unfold nmOk; rw [decide_eq_false h8]; rfl); unfold rnN rnA rnF nmFl; rw [h9, if_neg (by decide), if_neg (by decide), if_neg (by decide), if_neg h8]; rw [hgap] at hWto; rw [hgap]; exact ⟨hWto, hWtb, hWtn⟩) hS dX1_readNumber_25
