set_option maxHeartbeats 1500000 in
set_option maxRecDepth 100000 in
theorem k_X8_hostages (l : Launch) (D : va_G) (cs : Nat → ClassId) (a : Nat) (z : Nat → Int32) (mv : Nat) (hI : Inv z) (hm : mv < Mn z) : Met l yX8_hostages wsX8_hostages ({ frames := 1, cells := 0, slots := 0, locals := 22 } : Room) (PcK D cs [.ref (a), .int (nI (mv))] (fun H => MdC D (cs 0) a z H)) (QcP (some (.int (nI (hgN z mv))))) 0 0 nowhere := by
  refine kx_met (cc := cX8_hostages) (maxL := 2) (ret := (some .int)) (by decide) rfl (Nat.le_of_ble_eq_true rfl) ?_
  intro p e s m args below meth c hx hb hml hrt hts hown hlk hK hN hP ls hl
  have hl : lv_has ls 2 [(0, .ref (a)), (1, .int (nI (mv)))] := hl
  have hM := hP
  have h24 := hI.M24
  have h6 := hI.R6
  have hs3 := hI.s3 hm
  have hc16 := hI.c16 hm
  have hwc := hI.wc hm
  refine lv_aload_n hx hb dX8_hostages_0 rfl (lv_at hl 0 rfl) ?_
  refine lv_iload_n hx hb dX8_hostages_1 rfl (lv_at hl 1 rfl) ?_
  refine lv_iconst (v := nI 5) hx hb dX8_hostages_2 (by decide) ?_
  refine kx_retP (va_runV (As := [.int (nI (mv)), .int (nI (5))]) (rest := []) ⟨hx, hb, hml, hown, hts⟩ (k_X8_movePart l D cs a z mv 5 (by first | assumption | omega) (by first | assumption | omega)) (cwV 2 hts gX8_hostages_X8_movePart rfl rfl rfl (by decide +kernel) ⟨Nat.le_of_ble_eq_true rfl, Nat.le_of_ble_eq_true rfl⟩) (kx_preV hK hN hM.1 rfl hM) rfl rfl hl.1 rfl (lv_room (Nat.le_of_ble_eq_true rfl)) dX8_hostages_3 ⟨Nat.le_of_ble_eq_true rfl, Nat.le_of_ble_eq_true rfl⟩) ?_
  refine kx_ci (y := nI (mS z mv)) (Inv.m5 hI (by first | assumption | omega)) ?_
  refine lv_iconst (v := nI 1) hx hb dX8_hostages_6 (by decide) ?_
  refine kn_icmp_ne (tgt := 27) hx hb dX8_hostages_7 (by decide) (by omega) (by decide) (fun c_1 => ?_) (fun c_1 => ?_)
  · refine lv_iconst (v := nI 0) hx hb dX8_hostages_27 (by decide) ?_
    exact kx_iretP hx hb hrt hlk (congrArg nI (by first | (simp [hgN, *]; done) | (exfalso; omega) | (exfalso; simp_all; done))) dX8_hostages_28
  · refine lv_aload_n hx hb dX8_hostages_10 rfl (lv_at hl 0 rfl) ?_
    refine lv_iload_n hx hb dX8_hostages_11 rfl (lv_at hl 1 rfl) ?_
    refine lv_iconst (v := nI 4) hx hb dX8_hostages_12 (by decide) ?_
    refine kx_retP (va_runV (As := [.int (nI (mv)), .int (nI (4))]) (rest := []) ⟨hx, hb, hml, hown, hts⟩ (k_X8_movePart l D cs a z mv 4 (by first | assumption | omega) (by first | assumption | omega)) (cwV 2 hts gX8_hostages_X8_movePart rfl rfl rfl (by decide +kernel) ⟨Nat.le_of_ble_eq_true rfl, Nat.le_of_ble_eq_true rfl⟩) (kx_preV hK hN hM.1 rfl hM) rfl rfl hl.1 rfl (lv_room (Nat.le_of_ble_eq_true rfl)) dX8_hostages_13 ⟨Nat.le_of_ble_eq_true rfl, Nat.le_of_ble_eq_true rfl⟩) ?_
    refine kx_ci (y := nI (mC z mv)) (Inv.m4 hI (by first | assumption | omega)) ?_
    refine lv_aload_n hx hb dX8_hostages_16 rfl (lv_at hl 0 rfl) ?_
    refine lv_iload_n hx hb dX8_hostages_17 rfl (lv_at hl 1 rfl) ?_
    refine lv_bipush (v := nI 6) hx hb dX8_hostages_18 (by decide) ?_
    refine kx_retP (va_runV (As := [.int (nI (mv)), .int (nI (6))]) (rest := [.int (nI (mC z mv))]) ⟨hx, hb, hml, hown, hts⟩ (k_X8_movePart l D cs a z mv 6 (by first | assumption | omega) (by first | assumption | omega)) (cwV 2 hts gX8_hostages_X8_movePart rfl rfl rfl (by decide +kernel) ⟨Nat.le_of_ble_eq_true rfl, Nat.le_of_ble_eq_true rfl⟩) (kx_preV hK hN hM.1 rfl hM) rfl rfl hl.1 rfl (lv_room (Nat.le_of_ble_eq_true rfl)) dX8_hostages_20 ⟨Nat.le_of_ble_eq_true rfl, Nat.le_of_ble_eq_true rfl⟩) ?_
    refine kx_ci (y := nI (mW z mv)) (Inv.m6 hI (by first | assumption | omega)) ?_
    refine kn_sub hx hb (by omega) dX8_hostages_23 ?_
    refine lv_goto (tgt := 28) hx hb dX8_hostages_24 (by decide) ?_
    exact kx_iretP hx hb hrt hlk (congrArg nI (by first | (simp [hgN, *]; done) | (exfalso; omega) | (exfalso; simp_all; done))) dX8_hostages_28
set_option maxHeartbeats 1500000 in
set_option maxRecDepth 100000 in
theorem k_X8_hostageOf (l : Launch) (D : va_G) (cs : Nat → ClassId) (a : Nat) (z : Nat → Int32) (mv i : Nat) (hI : Inv z) (hm : mv < Mn z) (hi : mW z mv + i < 16) : Met l yX8_hostageOf wsX8_hostageOf ({ frames := 1, cells := 0, slots := 0, locals := 22 } : Room) (PcK D cs [.ref (a), .int (nI (mv)), .int (nI (i))] (fun H => MdC D (cs 0) a z H)) (QcP (some (.int (z (320 + 16 * mv + mW z mv + i))))) 0 0 nowhere := by
  refine kx_met (cc := cX8_hostageOf) (maxL := 3) (ret := (some .int)) (by decide) rfl (Nat.le_of_ble_eq_true rfl) ?_
  intro p e s m args below meth c hx hb hml hrt hts hown hlk hK hN hP ls hl
  have hl : lv_has ls 3 [(0, .ref (a)), (1, .int (nI (mv))), (2, .int (nI (i)))] := hl
  have hinX8 : ∀ w ∈ wsX80, w ∈ wsX8_hostageOf := by decide +kernel
  have hM := hP
  have h24 := hI.M24
  have h6 := hI.R6
  refine lv_aload_n hx hb dX8_hostageOf_0 rfl (lv_at hl 0 rfl) ?_
  refine kx_get (v := .ref (a + 1)) hx hb hts hinX8 hown hK hM.1 rfl 1 (by decide) (by decide +kernel) rfl dX8_hostageOf_1 ?_
  refine lv_sipush (v := nI 320) hx hb dX8_hostageOf_4 (by decide) ?_
  refine lv_bipush (v := nI 16) hx hb dX8_hostageOf_7 (by decide) ?_
  refine lv_iload_n hx hb dX8_hostageOf_9 rfl (lv_at hl 1 rfl) ?_
  refine kn_mul hx hb dX8_hostageOf_10 ?_
  refine kn_add hx hb dX8_hostageOf_11 ?_
  refine lv_aload_n hx hb dX8_hostageOf_12 rfl (lv_at hl 0 rfl) ?_
  refine lv_iload_n hx hb dX8_hostageOf_13 rfl (lv_at hl 1 rfl) ?_
  refine lv_bipush (v := nI 6) hx hb dX8_hostageOf_14 (by decide) ?_
  refine kx_retP (va_runV (As := [.int (nI (mv)), .int (nI (6))]) (rest := [.int (nI (320 + (16 * mv))), .ref (a + 1)]) ⟨hx, hb, hml, hown, hts⟩ (k_X8_movePart l D cs a z mv 6 (by first | assumption | omega) (by first | assumption | omega)) (cwV 2 hts gX8_hostageOf_X8_movePart rfl rfl rfl (by decide +kernel) ⟨Nat.le_of_ble_eq_true rfl, Nat.le_of_ble_eq_true rfl⟩) (kx_preV hK hN hM.1 rfl hM) rfl rfl hl.1 rfl (lv_room (Nat.le_of_ble_eq_true rfl)) dX8_hostageOf_16 ⟨Nat.le_of_ble_eq_true rfl, Nat.le_of_ble_eq_true rfl⟩) ?_
  refine kx_ci (y := nI (mW z mv)) (Inv.m6 hI (by first | assumption | omega)) ?_
  refine kn_add hx hb dX8_hostageOf_19 ?_
  refine lv_iload_n hx hb dX8_hostageOf_20 rfl (lv_at hl 2 rfl) ?_
  refine kn_add hx hb dX8_hostageOf_21 ?_
  refine kx_iald (i := 320 + (16 * mv) + (mW z mv) + i) hx hb hK hM.state 0 rfl (by omega) (by decide) dX8_hostageOf_22 ?_
  exact kx_iretP hx hb hrt hlk (by first | rfl | simp [*]) dX8_hostageOf_23
set_option maxHeartbeats 1500000 in
set_option maxRecDepth 100000 in
theorem k_X8_heldCells (l : Launch) (D : va_G) (cs : Nat → ClassId) (a : Nat) (z : Nat → Int32) (hI : Inv z) : Met l yX8_heldCells wsX8_heldCells ({ frames := 4, cells := 0, slots := 0, locals := 92 } : Room) (PcK D cs [.ref (a)] (fun H => MdC D (cs 0) a z H)) (QcP (some (.long (lN (hcN z))))) 0 0 nowhere := by
  refine kx_met (cc := cX8_heldCells) (maxL := 5) (ret := (some .long)) (by decide) rfl (Nat.le_of_ble_eq_true rfl) ?_
  intro p e s m args below meth c hx hb hml hrt hts hown hlk hK hN hP ls hl
  have hl : lv_has ls 5 [(0, .ref (a))] := hl
  have hinX8 : ∀ w ∈ wsX80, w ∈ wsX8_heldCells := by decide +kernel
  have hM := hP
  have h24 := hI.M24
  have h6 := hI.R6
  refine lv_lconst (v := lN 0) hx hb dX8_heldCells_0 rfl ?_
  refine lv_lstore_n (lv' := [(1, .long (lN (0))), (0, .ref (a))]) hx hb dX8_heldCells_1 rfl hl (by decide) rfl (fun ls hl => ?_)
  refine lv_iconst (v := nI 0) hx hb dX8_heldCells_2 (by decide) ?_
  refine lv_istore_n (lv' := [(3, .int (nI (0))), (1, .long (lN (0))), (0, .ref (a))]) hx hb dX8_heldCells_3 rfl hl (by decide) rfl (fun ls hl => ?_)
  have J4 : ∀ (n4 : Nat) (k : Nat) (ls : Array Slot), (48 - k) < n4 → (k ≤ 48) → lv_has ls 5 [(0, .ref (a)), (1, .long (lN (hcK z k))), (3, .int (nI (k)))] → W p l e ({ frames := 4, cells := 0, slots := 0, locals := 92 } : Room) s m args below meth c s.heap [] 0 0 (MQ below (QcP (some (.long (lN (hcN z))))) args s 0 0 nowhere) (F0 m 4 ls []) := by
    intro n4; induction n4 with
    | zero => intro k ls hmu4 hk hl; exact absurd hmu4 (Nat.not_lt_zero _)
    | succ n4 ih4 =>
      intro k ls hmu4 hk hl
      refine lv_iload_n hx hb dX8_heldCells_4 rfl (lv_at hl 2 rfl) ?_
      refine lv_bipush (v := nI 48) hx hb dX8_heldCells_5 (by decide) ?_
      refine kn_icmp_ge (tgt := 56) hx hb dX8_heldCells_7 (by decide) (by omega) (by decide) (fun c_1 => ?_) (fun c_1 => ?_)
      · refine lv_lload_n hx hb dX8_heldCells_56 rfl (lv_at hl 1 rfl) ?_
        exact kx_lretP hx hb hrt hlk (by rw [show k = 48 by omega]; rfl) dX8_heldCells_57
      · refine lv_iconst (v := nI 0) hx hb dX8_heldCells_10 (by decide) ?_
        refine lv_istore (lv' := [(4, .int (nI (0))), (0, .ref (a)), (1, .long (lN (hcK z k))), (3, .int (nI (k)))]) hx hb dX8_heldCells_11 hl (by decide) rfl (fun ls hl => ?_)
        have J13 : ∀ (n13 : Nat) (j : Nat) (ls : Array Slot), (Mn z - j) < n13 → (j ≤ Mn z) → lv_has ls 5 [(0, .ref (a)), (1, .long (lN (hcM z k j (hcK z k)))), (3, .int (nI (k))), (4, .int (nI (j)))] → W p l e ({ frames := 4, cells := 0, slots := 0, locals := 92 } : Room) s m args below meth c s.heap [] 0 0 (MQ below (QcP (some (.long (lN (hcN z))))) args s 0 0 nowhere) (F0 m 13 ls []) := by
          intro n13; induction n13 with
          | zero => intro j ls hmu13 hj hl; exact absurd hmu13 (Nat.not_lt_zero _)
          | succ n13 ih13 =>
            intro j ls hmu13 hj hl
            refine lv_iload hx hb dX8_heldCells_13 (lv_at hl 3 rfl) ?_
            refine lv_aload_n hx hb dX8_heldCells_15 rfl (lv_at hl 0 rfl) ?_
            refine kx_get (v := .ref (a + 1)) hx hb hts hinX8 hown hK hM.1 rfl 1 (by decide) (by decide +kernel) rfl dX8_heldCells_16 ?_
            refine lv_iconst (v := nI 4) hx hb dX8_heldCells_19 (by decide) ?_
            refine kx_iald (i := 4) hx hb hK hM.state 0 rfl (by decide) (by decide) dX8_heldCells_20 ?_
            refine kx_ci (y := nI (Mn z)) (hI).z4 ?_
            refine kn_icmp_ge (tgt := 50) hx hb dX8_heldCells_21 (by decide) (by omega) (by omega) (fun c_2 => ?_) (fun c_2 => ?_)
            · have hjj : j = Mn z := by omega
              subst hjj
              have hl : lv_has ls 5 [(0, .ref (a)), (1, .long (lN (hcK z (k + 1)))), (3, .int (nI (k))), (4, .int (nI (Mn z)))] := hl
              refine lv_iinc (v := nI (k + 1)) (lv' := [(3, .int (nI (k + 1))), (0, .ref (a)), (1, .long (lN (hcK z (k + 1)))), (4, .int (nI (Mn z)))]) (k := 2) hx hb dX8_heldCells_50 hl rfl (nI_add _ _) (by decide) rfl (fun ls hl => ?_)
              refine lv_goto (tgt := 4) hx hb dX8_heldCells_53 (by decide) ?_
              exact ih4 (k + 1) _ (by omega) (by omega) (lv_sub hl [1, 2, 0] rfl)
            · have hjM : j < Mn z := by omega
              refine lv_lload_n hx hb dX8_heldCells_24 rfl (lv_at hl 1 rfl) ?_
              refine lv_aload_n hx hb dX8_heldCells_25 rfl (lv_at hl 0 rfl) ?_
              refine lv_iload hx hb dX8_heldCells_26 (lv_at hl 3 rfl) ?_
              refine lv_iload_n hx hb dX8_heldCells_28 rfl (lv_at hl 2 rfl) ?_
              refine kx_retP (va_runV (As := [.int (nI (j)), .int (nI (k))]) (rest := [.long (lN (hcM z k j (hcK z k)))]) ⟨hx, hb, hml, hown, hts⟩ (k_X8_holds l D cs a z j k hI (by first | assumption | omega) (by first | assumption | omega)) (cwV 2 hts gX8_heldCells_X8_holds rfl rfl rfl (by decide +kernel) ⟨Nat.le_of_ble_eq_true rfl, Nat.le_of_ble_eq_true rfl⟩) (kx_preV hK hN hM.1 rfl hM) rfl rfl hl.1 rfl (lv_room (Nat.le_of_ble_eq_true rfl)) dX8_heldCells_29 ⟨Nat.le_of_ble_eq_true rfl, Nat.le_of_ble_eq_true rfl⟩) ?_
              refine kb_if_eq (tgt := 41) hx hb dX8_heldCells_32 (by decide) (fun c_3 => ?_) (fun c_3 => ?_)
              · refine lv_lconst (v := lN 0) hx hb dX8_heldCells_41 rfl ?_
                refine kx_cl (x := lN (0)) (y := lN (if hoB z j k = true then 2 ^ k else 0)) (congrArg lN (by simp [*])) ?_
                refine kl_or hx hb dX8_heldCells_42 ?_
                refine kx_cl (x := lN ((hcM z k j (hcK z k)) ||| (if hoB z j k = true then 2 ^ k else 0))) (y := lN (hcM z k (j + 1) (hcK z k))) rfl ?_
                refine lv_lstore_n (lv' := [(1, .long (lN (hcM z k (j + 1) (hcK z k)))), (0, .ref (a)), (3, .int (nI (k))), (4, .int (nI (j)))]) hx hb dX8_heldCells_43 rfl hl (by decide) rfl (fun ls hl => ?_)
                refine lv_iinc (v := nI (j + 1)) (lv' := [(4, .int (nI (j + 1))), (1, .long (lN (hcM z k (j + 1) (hcK z k)))), (0, .ref (a)), (3, .int (nI (k)))]) (k := 3) hx hb dX8_heldCells_44 hl rfl (nI_add _ _) (by decide) rfl (fun ls hl => ?_)
                refine lv_goto (tgt := 13) hx hb dX8_heldCells_47 (by decide) ?_
                exact ih13 (j + 1) _ (by omega) (by omega) (lv_sub hl [2, 1, 3, 0] rfl)
              · refine lv_lconst (v := lN 1) hx hb dX8_heldCells_35 rfl ?_
                refine lv_iload_n hx hb dX8_heldCells_36 rfl (lv_at hl 2 rfl) ?_
                refine kl_bit hx hb (by omega) dX8_heldCells_37 ?_
                refine lv_goto (tgt := 42) hx hb dX8_heldCells_38 (by decide) ?_
                refine kx_cl (x := lN (2 ^ k)) (y := lN (if hoB z j k = true then 2 ^ k else 0)) (congrArg lN (by simp [*])) ?_
                refine kl_or hx hb dX8_heldCells_42 ?_
                refine kx_cl (x := lN ((hcM z k j (hcK z k)) ||| (if hoB z j k = true then 2 ^ k else 0))) (y := lN (hcM z k (j + 1) (hcK z k))) rfl ?_
                refine lv_lstore_n (lv' := [(1, .long (lN (hcM z k (j + 1) (hcK z k)))), (0, .ref (a)), (3, .int (nI (k))), (4, .int (nI (j)))]) hx hb dX8_heldCells_43 rfl hl (by decide) rfl (fun ls hl => ?_)
                refine lv_iinc (v := nI (j + 1)) (lv' := [(4, .int (nI (j + 1))), (1, .long (lN (hcM z k (j + 1) (hcK z k)))), (0, .ref (a)), (3, .int (nI (k)))]) (k := 3) hx hb dX8_heldCells_44 hl rfl (nI_add _ _) (by decide) rfl (fun ls hl => ?_)
                refine lv_goto (tgt := 13) hx hb dX8_heldCells_47 (by decide) ?_
                exact ih13 (j + 1) _ (by omega) (by omega) (lv_sub hl [2, 1, 3, 0] rfl)
        exact J13 _ 0 _ (Nat.lt_succ_self _) (by omega) (lv_sub hl [1, 2, 3, 0] rfl)
  exact J4 _ 0 _ (Nat.lt_succ_self _) (by omega) (lv_sub hl [2, 1, 0] rfl)
set_option maxHeartbeats 1500000 in
set_option maxRecDepth 100000 in
theorem k_X8_ringValue (l : Launch) (D : va_G) (cs : Nat → ClassId) (a : Nat) (z : Nat → Int32) (r w : Nat) (hI : Inv z) (hr : r < Rn z) (hw : w < 8) : Met l yX8_ringValue wsX8_ringValue ({ frames := 2, cells := 0, slots := 0, locals := 45 } : Room) (PcK D cs [.ref (a), .int (nI (r)), .int (nI (w))] (fun H => MdC D (cs 0) a z H)) (QcP (some (.int (rvI z r w)))) 0 0 nowhere := by
  refine kx_met (cc := cX8_ringValue) (maxL := 7) (ret := (some .int)) (by decide) rfl (Nat.le_of_ble_eq_true rfl) ?_
  intro p e s m args below meth c hx hb hml hrt hts hown hlk hK hN hP ls hl
  have hl : lv_has ls 7 [(0, .ref (a)), (1, .int (nI (r))), (2, .int (nI (w)))] := hl
  have hinX8 : ∀ w ∈ wsX80, w ∈ wsX8_ringValue := by decide +kernel
  have hM := hP
  have h24 := hI.M24
  have h6 := hI.R6
  have hl16 := hI.l16 hr
  have hl48 := hI.l48 hr
  refine lv_iconst (v := nI 0) hx hb dX8_ringValue_0 (by decide) ?_
  refine lv_istore_n (lv' := [(3, .int (nI (0))), (0, .ref (a)), (1, .int (nI (r))), (2, .int (nI (w)))]) hx hb dX8_ringValue_1 rfl hl (by decide) rfl (fun ls hl => ?_)
  refine lv_iconst (v := nI 0) hx hb dX8_ringValue_2 (by decide) ?_
  refine lv_istore (lv' := [(4, .int (nI (0))), (3, .int (nI (0))), (0, .ref (a)), (1, .int (nI (r))), (2, .int (nI (w)))]) hx hb dX8_ringValue_3 hl (by decide) rfl (fun ls hl => ?_)
  refine lv_iconst (v := nI 0) hx hb dX8_ringValue_5 (by decide) ?_
  refine lv_istore (lv' := [(5, .int (nI (0))), (4, .int (nI (0))), (3, .int (nI (0))), (0, .ref (a)), (1, .int (nI (r))), (2, .int (nI (w)))]) hx hb dX8_ringValue_6 hl (by decide) rfl (fun ls hl => ?_)
  have J8 : ∀ (n8 : Nat) (k : Nat) (ls : Array Slot), (Mn z - k) < n8 → (k ≤ Mn z) → lv_has ls 7 [(0, .ref (a)), (1, .int (nI (r))), (2, .int (nI (w))), (3, .int (nI (uFK z r k))), (4, .int (nI (uTK z r k))), (5, .int (nI (k)))] → W p l e ({ frames := 2, cells := 0, slots := 0, locals := 45 } : Room) s m args below meth c s.heap [] 0 0 (MQ below (QcP (some (.int (rvI z r w)))) args s 0 0 nowhere) (F0 m 8 ls []) := by
    intro n8; induction n8 with
    | zero => intro k ls hmu8 hk hl; exact absurd hmu8 (Nat.not_lt_zero _)
    | succ n8 ih8 =>
      intro k ls hmu8 hk hl
      refine lv_iload hx hb dX8_ringValue_8 (lv_at hl 5 rfl) ?_
      refine lv_aload_n hx hb dX8_ringValue_10 rfl (lv_at hl 0 rfl) ?_
      refine kx_get (v := .ref (a + 1)) hx hb hts hinX8 hown hK hM.1 rfl 1 (by decide) (by decide +kernel) rfl dX8_ringValue_11 ?_
      refine lv_iconst (v := nI 4) hx hb dX8_ringValue_14 (by decide) ?_
      refine kx_iald (i := 4) hx hb hK hM.state 0 rfl (by decide) (by decide) dX8_ringValue_15 ?_
      refine kx_ci (y := nI (Mn z)) (hI).z4 ?_
      refine kn_icmp_ge (tgt := 85) hx hb dX8_ringValue_16 (by decide) (by omega) (by omega) (fun c_1 => ?_) (fun c_1 => ?_)
      · have hkk : k = Mn z := by omega
        subst hkk
        have hl : lv_has ls 7 [(0, .ref (a)), (1, .int (nI (r))), (2, .int (nI (w))), (3, .int (nI (uFK z r (Mn z)))), (4, .int (nI (uTK z r (Mn z)))), (5, .int (nI (Mn z)))] := hl
        refine lv_iconst (v := nI 0) hx hb dX8_ringValue_85 (by decide) ?_
        refine lv_istore (lv' := [(5, .int (nI (0))), (0, .ref (a)), (1, .int (nI (r))), (2, .int (nI (w))), (3, .int (nI (uFK z r (Mn z)))), (4, .int (nI (uTK z r (Mn z))))]) hx hb dX8_ringValue_86 hl (by decide) rfl (fun ls hl => ?_)
        refine lv_iconst (v := nI 0) hx hb dX8_ringValue_88 (by decide) ?_
        refine lv_istore (lv' := [(6, .int (nI (0))), (5, .int (nI (0))), (0, .ref (a)), (1, .int (nI (r))), (2, .int (nI (w))), (3, .int (nI (uFK z r (Mn z)))), (4, .int (nI (uTK z r (Mn z))))]) hx hb dX8_ringValue_89 hl (by decide) rfl (fun ls hl => ?_)
        have J91 : ∀ (n91 : Nat) (q : Nat) (ls : Array Slot), (rL z r - q) < n91 → (q ≤ rL z r) → lv_has ls 7 [(0, .ref (a)), (1, .int (nI (r))), (2, .int (nI (w))), (3, .int (nI (uFK z r (Mn z)))), (4, .int (nI (uTK z r (Mn z)))), (5, .int (smK z (rF z r) q)), (6, .int (nI (q)))] → W p l e ({ frames := 2, cells := 0, slots := 0, locals := 45 } : Room) s m args below meth c s.heap [] 0 0 (MQ below (QcP (some (.int (rvI z r w)))) args s 0 0 nowhere) (F0 m 91 ls []) := by
          intro n91; induction n91 with
          | zero => intro q ls hmu91 hq hl; exact absurd hmu91 (Nat.not_lt_zero _)
          | succ n91 ih91 =>
            intro q ls hmu91 hq hl
            refine lv_iload hx hb dX8_ringValue_91 (lv_at hl 6 rfl) ?_
            refine lv_aload_n hx hb dX8_ringValue_93 rfl (lv_at hl 0 rfl) ?_
            refine lv_iload_n hx hb dX8_ringValue_94 rfl (lv_at hl 1 rfl) ?_
            refine lv_iconst (v := nI 1) hx hb dX8_ringValue_95 (by decide) ?_
            refine kx_retP (va_runV (As := [.int (nI (r)), .int (nI (1))]) (rest := [.int (nI (q))]) ⟨hx, hb, hml, hown, hts⟩ (k_X8_ringPart l D cs a z r 1 (by first | assumption | omega) (by first | assumption | omega)) (cwV 2 hts gX8_ringValue_X8_ringPart rfl rfl rfl (by decide +kernel) ⟨Nat.le_of_ble_eq_true rfl, Nat.le_of_ble_eq_true rfl⟩) (kx_preV hK hN hM.1 rfl hM) rfl rfl hl.1 rfl (lv_room (Nat.le_of_ble_eq_true rfl)) dX8_ringValue_96 ⟨Nat.le_of_ble_eq_true rfl, Nat.le_of_ble_eq_true rfl⟩) ?_
            refine kx_ci (y := nI (rL z r)) (Inv.r1 hI (by first | assumption | omega)) ?_
            refine kn_icmp_ge (tgt := 130) hx hb dX8_ringValue_99 (by decide) (by omega) (by omega) (fun c_2 => ?_) (fun c_2 => ?_)
            · refine lv_iload_n hx hb dX8_ringValue_130 rfl (lv_at hl 2 rfl) ?_
              rcases (show w = 0 ∨ w = 1 ∨ w = 2 ∨ w = 3 ∨ w = 4 ∨ w = 5 ∨ w = 6 ∨ w = 7 by omega) with rfl | rfl | rfl | rfl | rfl | rfl | rfl | rfl
              · refine lv_tableOut (tgt := 174) hx hb dX8_ringValue_131 (by decide) (by decide) ?_
                refine lv_aload_n hx hb dX8_ringValue_174 rfl (lv_at hl 0 rfl) ?_
                refine lv_iload_n hx hb dX8_ringValue_175 rfl (lv_at hl 1 rfl) ?_
                refine lv_iload_n hx hb dX8_ringValue_176 rfl (lv_at hl 2 rfl) ?_
                refine kx_retP (va_runV (As := [.int (nI (r)), .int (nI (0))]) (rest := []) ⟨hx, hb, hml, hown, hts⟩ (k_X8_ringPart l D cs a z r 0 (by first | assumption | omega) (by first | assumption | omega)) (cwV 2 hts gX8_ringValue_X8_ringPart rfl rfl rfl (by decide +kernel) ⟨Nat.le_of_ble_eq_true rfl, Nat.le_of_ble_eq_true rfl⟩) (kx_preV hK hN hM.1 rfl hM) rfl rfl hl.1 rfl (lv_room (Nat.le_of_ble_eq_true rfl)) dX8_ringValue_177 ⟨Nat.le_of_ble_eq_true rfl, Nat.le_of_ble_eq_true rfl⟩) ?_
                exact kx_iretP hx hb hrt hlk rfl dX8_ringValue_180
              · refine lv_tableOut (tgt := 174) hx hb dX8_ringValue_131 (by decide) (by decide) ?_
                refine lv_aload_n hx hb dX8_ringValue_174 rfl (lv_at hl 0 rfl) ?_
                refine lv_iload_n hx hb dX8_ringValue_175 rfl (lv_at hl 1 rfl) ?_
                refine lv_iload_n hx hb dX8_ringValue_176 rfl (lv_at hl 2 rfl) ?_
                refine kx_retP (va_runV (As := [.int (nI (r)), .int (nI (1))]) (rest := []) ⟨hx, hb, hml, hown, hts⟩ (k_X8_ringPart l D cs a z r 1 (by first | assumption | omega) (by first | assumption | omega)) (cwV 2 hts gX8_ringValue_X8_ringPart rfl rfl rfl (by decide +kernel) ⟨Nat.le_of_ble_eq_true rfl, Nat.le_of_ble_eq_true rfl⟩) (kx_preV hK hN hM.1 rfl hM) rfl rfl hl.1 rfl (lv_room (Nat.le_of_ble_eq_true rfl)) dX8_ringValue_177 ⟨Nat.le_of_ble_eq_true rfl, Nat.le_of_ble_eq_true rfl⟩) ?_
                exact kx_iretP hx hb hrt hlk rfl dX8_ringValue_180
              · refine lv_tableOut (tgt := 174) hx hb dX8_ringValue_131 (by decide) (by decide) ?_
                refine lv_aload_n hx hb dX8_ringValue_174 rfl (lv_at hl 0 rfl) ?_
                refine lv_iload_n hx hb dX8_ringValue_175 rfl (lv_at hl 1 rfl) ?_
                refine lv_iload_n hx hb dX8_ringValue_176 rfl (lv_at hl 2 rfl) ?_
                refine kx_retP (va_runV (As := [.int (nI (r)), .int (nI (2))]) (rest := []) ⟨hx, hb, hml, hown, hts⟩ (k_X8_ringPart l D cs a z r 2 (by first | assumption | omega) (by first | assumption | omega)) (cwV 2 hts gX8_ringValue_X8_ringPart rfl rfl rfl (by decide +kernel) ⟨Nat.le_of_ble_eq_true rfl, Nat.le_of_ble_eq_true rfl⟩) (kx_preV hK hN hM.1 rfl hM) rfl rfl hl.1 rfl (lv_room (Nat.le_of_ble_eq_true rfl)) dX8_ringValue_177 ⟨Nat.le_of_ble_eq_true rfl, Nat.le_of_ble_eq_true rfl⟩) ?_
                exact kx_iretP hx hb hrt hlk rfl dX8_ringValue_180
              · refine lv_tableOut (tgt := 174) hx hb dX8_ringValue_131 (by decide) (by decide) ?_
                refine lv_aload_n hx hb dX8_ringValue_174 rfl (lv_at hl 0 rfl) ?_
                refine lv_iload_n hx hb dX8_ringValue_175 rfl (lv_at hl 1 rfl) ?_
                refine lv_iload_n hx hb dX8_ringValue_176 rfl (lv_at hl 2 rfl) ?_
                refine kx_retP (va_runV (As := [.int (nI (r)), .int (nI (3))]) (rest := []) ⟨hx, hb, hml, hown, hts⟩ (k_X8_ringPart l D cs a z r 3 (by first | assumption | omega) (by first | assumption | omega)) (cwV 2 hts gX8_ringValue_X8_ringPart rfl rfl rfl (by decide +kernel) ⟨Nat.le_of_ble_eq_true rfl, Nat.le_of_ble_eq_true rfl⟩) (kx_preV hK hN hM.1 rfl hM) rfl rfl hl.1 rfl (lv_room (Nat.le_of_ble_eq_true rfl)) dX8_ringValue_177 ⟨Nat.le_of_ble_eq_true rfl, Nat.le_of_ble_eq_true rfl⟩) ?_
                exact kx_iretP hx hb hrt hlk rfl dX8_ringValue_180
              · refine lv_tableIn (off := 29) (tgt := 160) hx hb dX8_ringValue_131 (by decide) (by decide) (by rfl) (by decide) ?_
                refine lv_iload_n hx hb dX8_ringValue_160 rfl (lv_at hl 3 rfl) ?_
                exact kx_iretP hx hb hrt hlk rfl dX8_ringValue_161
              · refine lv_tableIn (off := 31) (tgt := 162) hx hb dX8_ringValue_131 (by decide) (by decide) (by rfl) (by decide) ?_
                refine lv_iload hx hb dX8_ringValue_162 (lv_at hl 4 rfl) ?_
                exact kx_iretP hx hb hrt hlk rfl dX8_ringValue_164
              · refine lv_tableIn (off := 34) (tgt := 165) hx hb dX8_ringValue_131 (by decide) (by decide) (by rfl) (by decide) ?_
                refine lv_aload_n hx hb dX8_ringValue_165 rfl (lv_at hl 0 rfl) ?_
                refine lv_iload_n hx hb dX8_ringValue_166 rfl (lv_at hl 1 rfl) ?_
                refine kx_retP (va_runV (As := [.int (nI (r))]) (rest := []) ⟨hx, hb, hml, hown, hts⟩ (k_X8_copiedTo l D cs a z r hI (by first | assumption | omega)) (cwV 1 hts gX8_ringValue_X8_copiedTo rfl rfl rfl (by decide +kernel) ⟨Nat.le_of_ble_eq_true rfl, Nat.le_of_ble_eq_true rfl⟩) (kx_preV hK hN hM.1 rfl hM) rfl rfl hl.1 rfl (lv_room (Nat.le_of_ble_eq_true rfl)) dX8_ringValue_167 ⟨Nat.le_of_ble_eq_true rfl, Nat.le_of_ble_eq_true rfl⟩) ?_
                exact kx_iretP hx hb hrt hlk rfl dX8_ringValue_170
              · refine lv_tableIn (off := 40) (tgt := 171) hx hb dX8_ringValue_131 (by decide) (by decide) (by rfl) (by decide) ?_
                refine lv_iload hx hb dX8_ringValue_171 (lv_at hl 5 rfl) ?_
                exact kx_iretP hx hb hrt hlk (by rw [show q = rL z r by omega]; rfl) dX8_ringValue_173
            · refine lv_iload hx hb dX8_ringValue_102 (lv_at hl 5 rfl) ?_
              refine lv_aload_n hx hb dX8_ringValue_104 rfl (lv_at hl 0 rfl) ?_
              refine kx_get (v := .ref (a + 1)) hx hb hts hinX8 hown hK hM.1 rfl 1 (by decide) (by decide +kernel) rfl dX8_ringValue_105 ?_
              refine lv_bipush (v := nI 8) hx hb dX8_ringValue_108 (by decide) ?_
              refine lv_aload_n hx hb dX8_ringValue_110 rfl (lv_at hl 0 rfl) ?_
              refine lv_iload_n hx hb dX8_ringValue_111 rfl (lv_at hl 1 rfl) ?_
              refine lv_iconst (v := nI 0) hx hb dX8_ringValue_112 (by decide) ?_
              refine kx_retP (va_runV (As := [.int (nI (r)), .int (nI (0))]) (rest := [.int (nI (8)), .ref (a + 1), .int (smK z (rF z r) q)]) ⟨hx, hb, hml, hown, hts⟩ (k_X8_ringPart l D cs a z r 0 (by first | assumption | omega) (by first | assumption | omega)) (cwV 2 hts gX8_ringValue_X8_ringPart rfl rfl rfl (by decide +kernel) ⟨Nat.le_of_ble_eq_true rfl, Nat.le_of_ble_eq_true rfl⟩) (kx_preV hK hN hM.1 rfl hM) rfl rfl hl.1 rfl (lv_room (Nat.le_of_ble_eq_true rfl)) dX8_ringValue_113 ⟨Nat.le_of_ble_eq_true rfl, Nat.le_of_ble_eq_true rfl⟩) ?_
              refine kx_ci (y := nI (rF z r)) (Inv.r0 hI (by first | assumption | omega)) ?_
              refine kn_add hx hb dX8_ringValue_116 ?_
              refine lv_iload hx hb dX8_ringValue_117 (lv_at hl 6 rfl) ?_
              refine kn_add hx hb dX8_ringValue_119 ?_
              refine kx_iald (i := 8 + (rF z r) + q) hx hb hK hM.state 0 rfl (by omega) (by decide) dX8_ringValue_120 ?_
              refine lv_iadd hx hb dX8_ringValue_121 ?_
              refine kx_ci (x := (smK z (rF z r) q) + (z (8 + (rF z r) + q))) (y := smK z (rF z r) (q + 1)) rfl ?_
              refine lv_istore (lv' := [(5, .int (smK z (rF z r) (q + 1))), (0, .ref (a)), (1, .int (nI (r))), (2, .int (nI (w))), (3, .int (nI (uFK z r (Mn z)))), (4, .int (nI (uTK z r (Mn z)))), (6, .int (nI (q)))]) hx hb dX8_ringValue_122 hl (by decide) rfl (fun ls hl => ?_)
              refine lv_iinc (v := nI (q + 1)) (lv' := [(6, .int (nI (q + 1))), (5, .int (smK z (rF z r) (q + 1))), (0, .ref (a)), (1, .int (nI (r))), (2, .int (nI (w))), (3, .int (nI (uFK z r (Mn z)))), (4, .int (nI (uTK z r (Mn z))))]) (k := 6) hx hb dX8_ringValue_124 hl rfl (nI_add _ _) (by decide) rfl (fun ls hl => ?_)
              refine lv_goto (tgt := 91) hx hb dX8_ringValue_127 (by decide) ?_
              exact ih91 (q + 1) _ (by omega) (by omega) (lv_sub hl [2, 3, 4, 5, 6, 1, 0] rfl)
        exact J91 _ 0 _ (Nat.lt_succ_self _) (by omega) (lv_sub hl [2, 3, 4, 5, 6, 1, 0] rfl)
      · have hkM : k < Mn z := by omega
        have hs3 := hI.s3 hkM
        have hmt := hI.mt hkM
        have hmf := hI.mf hkM
        refine lv_aload_n hx hb dX8_ringValue_19 rfl (lv_at hl 0 rfl) ?_
        refine lv_iload hx hb dX8_ringValue_20 (lv_at hl 5 rfl) ?_
        refine lv_iconst (v := nI 5) hx hb dX8_ringValue_22 (by decide) ?_
        refine kx_retP (va_runV (As := [.int (nI (k)), .int (nI (5))]) (rest := []) ⟨hx, hb, hml, hown, hts⟩ (k_X8_movePart l D cs a z k 5 (by first | assumption | omega) (by first | assumption | omega)) (cwV 2 hts gX8_ringValue_X8_movePart rfl rfl rfl (by decide +kernel) ⟨Nat.le_of_ble_eq_true rfl, Nat.le_of_ble_eq_true rfl⟩) (kx_preV hK hN hM.1 rfl hM) rfl rfl hl.1 rfl (lv_room (Nat.le_of_ble_eq_true rfl)) dX8_ringValue_23 ⟨Nat.le_of_ble_eq_true rfl, Nat.le_of_ble_eq_true rfl⟩) ?_
        refine kx_ci (y := nI (mS z k)) (Inv.m5 hI (by first | assumption | omega)) ?_
        refine lv_iconst (v := nI 3) hx hb dX8_ringValue_26 (by decide) ?_
        refine kn_icmp_ne (tgt := 34) hx hb dX8_ringValue_27 (by decide) (by omega) (by decide) (fun c_3 => ?_) (fun c_3 => ?_)
        · refine lv_iconst (v := nI 1) hx hb dX8_ringValue_34 (by decide) ?_
          refine kx_ci (x := nI (1)) (y := nI (if mS z k = 3 then 0 else 1)) (congrArg nI (by first | (simp [*]; done) | (exfalso; omega) | (exfalso; simp_all; done))) ?_
          refine lv_istore (lv' := [(6, .int (nI (if mS z k = 3 then 0 else 1))), (0, .ref (a)), (1, .int (nI (r))), (2, .int (nI (w))), (3, .int (nI (uFK z r k))), (4, .int (nI (uTK z r k))), (5, .int (nI (k)))]) hx hb dX8_ringValue_35 hl (by decide) rfl (fun ls hl => ?_)
          refine lv_iload_n hx hb dX8_ringValue_37 rfl (lv_at hl 4 rfl) ?_
          refine lv_aload_n hx hb dX8_ringValue_38 rfl (lv_at hl 1 rfl) ?_
          refine lv_iload hx hb dX8_ringValue_39 (lv_at hl 6 rfl) ?_
          refine lv_iconst (v := nI 0) hx hb dX8_ringValue_41 (by decide) ?_
          refine kx_retP (va_runV (As := [.int (nI (k)), .int (nI (0))]) (rest := [.int (nI (uFK z r k))]) ⟨hx, hb, hml, hown, hts⟩ (k_X8_movePart l D cs a z k 0 (by first | assumption | omega) (by first | assumption | omega)) (cwV 2 hts gX8_ringValue_X8_movePart rfl rfl rfl (by decide +kernel) ⟨Nat.le_of_ble_eq_true rfl, Nat.le_of_ble_eq_true rfl⟩) (kx_preV hK hN hM.1 rfl hM) rfl rfl hl.1 rfl (lv_room (Nat.le_of_ble_eq_true rfl)) dX8_ringValue_42 ⟨Nat.le_of_ble_eq_true rfl, Nat.le_of_ble_eq_true rfl⟩) ?_
          refine kx_ci (y := nI (mF z k)) (Inv.m0 hI (by first | assumption | omega)) ?_
          refine lv_iload_n hx hb dX8_ringValue_45 rfl (lv_at hl 2 rfl) ?_
          refine kn_icmp_ne (tgt := 54) hx hb dX8_ringValue_46 (by decide) (by omega) (by omega) (fun c_4 => ?_) (fun c_4 => ?_)
          · refine lv_iconst (v := nI 0) hx hb dX8_ringValue_54 (by decide) ?_
            refine kx_ci (x := nI (0)) (y := nI (if mF z k = r then (if mS z k = 3 then 0 else 1) else 0)) (congrArg nI (by first | (simp [*]; done) | (exfalso; omega) | (exfalso; simp_all; done))) ?_
            refine kn_add hx hb dX8_ringValue_55 ?_
            refine kx_ci (x := nI (uFK z r k + (if mF z k = r then (if mS z k = 3 then 0 else 1) else 0))) (y := nI (uFK z r (k + 1))) rfl ?_
            refine lv_istore_n (lv' := [(3, .int (nI (uFK z r (k + 1)))), (6, .int (nI (if mS z k = 3 then 0 else 1))), (0, .ref (a)), (1, .int (nI (r))), (2, .int (nI (w))), (4, .int (nI (uTK z r k))), (5, .int (nI (k)))]) hx hb dX8_ringValue_56 rfl hl (by decide) rfl (fun ls hl => ?_)
            refine lv_iload hx hb dX8_ringValue_57 (lv_at hl 5 rfl) ?_
            refine lv_aload_n hx hb dX8_ringValue_59 rfl (lv_at hl 2 rfl) ?_
            refine lv_iload hx hb dX8_ringValue_60 (lv_at hl 6 rfl) ?_
            refine lv_iconst (v := nI 2) hx hb dX8_ringValue_62 (by decide) ?_
            refine kx_retP (va_runV (As := [.int (nI (k)), .int (nI (2))]) (rest := [.int (nI (uTK z r k))]) ⟨hx, hb, hml, hown, hts⟩ (k_X8_movePart l D cs a z k 2 (by first | assumption | omega) (by first | assumption | omega)) (cwV 2 hts gX8_ringValue_X8_movePart rfl rfl rfl (by decide +kernel) ⟨Nat.le_of_ble_eq_true rfl, Nat.le_of_ble_eq_true rfl⟩) (kx_preV hK hN hM.1 rfl hM) rfl rfl hl.1 rfl (lv_room (Nat.le_of_ble_eq_true rfl)) dX8_ringValue_63 ⟨Nat.le_of_ble_eq_true rfl, Nat.le_of_ble_eq_true rfl⟩) ?_
            refine kx_ci (y := nI (mT z k)) (Inv.m2 hI (by first | assumption | omega)) ?_
            refine lv_iload_n hx hb dX8_ringValue_66 rfl (lv_at hl 3 rfl) ?_
            refine kn_icmp_ne (tgt := 75) hx hb dX8_ringValue_67 (by decide) (by omega) (by omega) (fun c_5 => ?_) (fun c_5 => ?_)
            · refine lv_iconst (v := nI 0) hx hb dX8_ringValue_75 (by decide) ?_
              refine kx_ci (x := nI (0)) (y := nI (if mT z k = r then (if mS z k = 3 then 0 else 1) else 0)) (congrArg nI (by first | (simp [*]; done) | (exfalso; omega) | (exfalso; simp_all; done))) ?_
              refine kn_add hx hb dX8_ringValue_76 ?_
              refine kx_ci (x := nI (uTK z r k + (if mT z k = r then (if mS z k = 3 then 0 else 1) else 0))) (y := nI (uTK z r (k + 1))) rfl ?_
              refine lv_istore (lv' := [(4, .int (nI (uTK z r (k + 1)))), (3, .int (nI (uFK z r (k + 1)))), (6, .int (nI (if mS z k = 3 then 0 else 1))), (0, .ref (a)), (1, .int (nI (r))), (2, .int (nI (w))), (5, .int (nI (k)))]) hx hb dX8_ringValue_77 hl (by decide) rfl (fun ls hl => ?_)
              refine lv_iinc (v := nI (k + 1)) (lv' := [(5, .int (nI (k + 1))), (4, .int (nI (uTK z r (k + 1)))), (3, .int (nI (uFK z r (k + 1)))), (6, .int (nI (if mS z k = 3 then 0 else 1))), (0, .ref (a)), (1, .int (nI (r))), (2, .int (nI (w)))]) (k := 6) hx hb dX8_ringValue_79 hl rfl (nI_add _ _) (by decide) rfl (fun ls hl => ?_)
              refine lv_goto (tgt := 8) hx hb dX8_ringValue_82 (by decide) ?_
              exact ih8 (k + 1) _ (by omega) (by omega) (lv_sub hl [4, 5, 6, 2, 1, 0] rfl)
            · refine lv_iload hx hb dX8_ringValue_70 (lv_at hl 1 rfl) ?_
              refine lv_goto (tgt := 76) hx hb dX8_ringValue_72 (by decide) ?_
              refine kx_ci (x := nI (if mS z k = 3 then 0 else 1)) (y := nI (if mT z k = r then (if mS z k = 3 then 0 else 1) else 0)) (congrArg nI (by first | (simp [*]; done) | (exfalso; omega) | (exfalso; simp_all; done))) ?_
              refine kn_add hx hb dX8_ringValue_76 ?_
              refine kx_ci (x := nI (uTK z r k + (if mT z k = r then (if mS z k = 3 then 0 else 1) else 0))) (y := nI (uTK z r (k + 1))) rfl ?_
              refine lv_istore (lv' := [(4, .int (nI (uTK z r (k + 1)))), (3, .int (nI (uFK z r (k + 1)))), (6, .int (nI (if mS z k = 3 then 0 else 1))), (0, .ref (a)), (1, .int (nI (r))), (2, .int (nI (w))), (5, .int (nI (k)))]) hx hb dX8_ringValue_77 hl (by decide) rfl (fun ls hl => ?_)
              refine lv_iinc (v := nI (k + 1)) (lv' := [(5, .int (nI (k + 1))), (4, .int (nI (uTK z r (k + 1)))), (3, .int (nI (uFK z r (k + 1)))), (6, .int (nI (if mS z k = 3 then 0 else 1))), (0, .ref (a)), (1, .int (nI (r))), (2, .int (nI (w)))]) (k := 6) hx hb dX8_ringValue_79 hl rfl (nI_add _ _) (by decide) rfl (fun ls hl => ?_)
              refine lv_goto (tgt := 8) hx hb dX8_ringValue_82 (by decide) ?_
              exact ih8 (k + 1) _ (by omega) (by omega) (lv_sub hl [4, 5, 6, 2, 1, 0] rfl)
          · refine lv_iload hx hb dX8_ringValue_49 (lv_at hl 0 rfl) ?_
            refine lv_goto (tgt := 55) hx hb dX8_ringValue_51 (by decide) ?_
            refine kx_ci (x := nI (if mS z k = 3 then 0 else 1)) (y := nI (if mF z k = r then (if mS z k = 3 then 0 else 1) else 0)) (congrArg nI (by first | (simp [*]; done) | (exfalso; omega) | (exfalso; simp_all; done))) ?_
            refine kn_add hx hb dX8_ringValue_55 ?_
            refine kx_ci (x := nI (uFK z r k + (if mF z k = r then (if mS z k = 3 then 0 else 1) else 0))) (y := nI (uFK z r (k + 1))) rfl ?_
            refine lv_istore_n (lv' := [(3, .int (nI (uFK z r (k + 1)))), (6, .int (nI (if mS z k = 3 then 0 else 1))), (0, .ref (a)), (1, .int (nI (r))), (2, .int (nI (w))), (4, .int (nI (uTK z r k))), (5, .int (nI (k)))]) hx hb dX8_ringValue_56 rfl hl (by decide) rfl (fun ls hl => ?_)
            refine lv_iload hx hb dX8_ringValue_57 (lv_at hl 5 rfl) ?_
            refine lv_aload_n hx hb dX8_ringValue_59 rfl (lv_at hl 2 rfl) ?_
            refine lv_iload hx hb dX8_ringValue_60 (lv_at hl 6 rfl) ?_
            refine lv_iconst (v := nI 2) hx hb dX8_ringValue_62 (by decide) ?_
            refine kx_retP (va_runV (As := [.int (nI (k)), .int (nI (2))]) (rest := [.int (nI (uTK z r k))]) ⟨hx, hb, hml, hown, hts⟩ (k_X8_movePart l D cs a z k 2 (by first | assumption | omega) (by first | assumption | omega)) (cwV 2 hts gX8_ringValue_X8_movePart rfl rfl rfl (by decide +kernel) ⟨Nat.le_of_ble_eq_true rfl, Nat.le_of_ble_eq_true rfl⟩) (kx_preV hK hN hM.1 rfl hM) rfl rfl hl.1 rfl (lv_room (Nat.le_of_ble_eq_true rfl)) dX8_ringValue_63 ⟨Nat.le_of_ble_eq_true rfl, Nat.le_of_ble_eq_true rfl⟩) ?_
            refine kx_ci (y := nI (mT z k)) (Inv.m2 hI (by first | assumption | omega)) ?_
            refine lv_iload_n hx hb dX8_ringValue_66 rfl (lv_at hl 3 rfl) ?_
            refine kn_icmp_ne (tgt := 75) hx hb dX8_ringValue_67 (by decide) (by omega) (by omega) (fun c_6 => ?_) (fun c_6 => ?_)
            · refine lv_iconst (v := nI 0) hx hb dX8_ringValue_75 (by decide) ?_
              refine kx_ci (x := nI (0)) (y := nI (if mT z k = r then (if mS z k = 3 then 0 else 1) else 0)) (congrArg nI (by first | (simp [*]; done) | (exfalso; omega) | (exfalso; simp_all; done))) ?_
              refine kn_add hx hb dX8_ringValue_76 ?_
              refine kx_ci (x := nI (uTK z r k + (if mT z k = r then (if mS z k = 3 then 0 else 1) else 0))) (y := nI (uTK z r (k + 1))) rfl ?_
              refine lv_istore (lv' := [(4, .int (nI (uTK z r (k + 1)))), (3, .int (nI (uFK z r (k + 1)))), (6, .int (nI (if mS z k = 3 then 0 else 1))), (0, .ref (a)), (1, .int (nI (r))), (2, .int (nI (w))), (5, .int (nI (k)))]) hx hb dX8_ringValue_77 hl (by decide) rfl (fun ls hl => ?_)
              refine lv_iinc (v := nI (k + 1)) (lv' := [(5, .int (nI (k + 1))), (4, .int (nI (uTK z r (k + 1)))), (3, .int (nI (uFK z r (k + 1)))), (6, .int (nI (if mS z k = 3 then 0 else 1))), (0, .ref (a)), (1, .int (nI (r))), (2, .int (nI (w)))]) (k := 6) hx hb dX8_ringValue_79 hl rfl (nI_add _ _) (by decide) rfl (fun ls hl => ?_)
              refine lv_goto (tgt := 8) hx hb dX8_ringValue_82 (by decide) ?_
              exact ih8 (k + 1) _ (by omega) (by omega) (lv_sub hl [4, 5, 6, 2, 1, 0] rfl)
            · refine lv_iload hx hb dX8_ringValue_70 (lv_at hl 1 rfl) ?_
              refine lv_goto (tgt := 76) hx hb dX8_ringValue_72 (by decide) ?_
              refine kx_ci (x := nI (if mS z k = 3 then 0 else 1)) (y := nI (if mT z k = r then (if mS z k = 3 then 0 else 1) else 0)) (congrArg nI (by first | (simp [*]; done) | (exfalso; omega) | (exfalso; simp_all; done))) ?_
              refine kn_add hx hb dX8_ringValue_76 ?_
              refine kx_ci (x := nI (uTK z r k + (if mT z k = r then (if mS z k = 3 then 0 else 1) else 0))) (y := nI (uTK z r (k + 1))) rfl ?_
              refine lv_istore (lv' := [(4, .int (nI (uTK z r (k + 1)))), (3, .int (nI (uFK z r (k + 1)))), (6, .int (nI (if mS z k = 3 then 0 else 1))), (0, .ref (a)), (1, .int (nI (r))), (2, .int (nI (w))), (5, .int (nI (k)))]) hx hb dX8_ringValue_77 hl (by decide) rfl (fun ls hl => ?_)
              refine lv_iinc (v := nI (k + 1)) (lv' := [(5, .int (nI (k + 1))), (4, .int (nI (uTK z r (k + 1)))), (3, .int (nI (uFK z r (k + 1)))), (6, .int (nI (if mS z k = 3 then 0 else 1))), (0, .ref (a)), (1, .int (nI (r))), (2, .int (nI (w)))]) (k := 6) hx hb dX8_ringValue_79 hl rfl (nI_add _ _) (by decide) rfl (fun ls hl => ?_)
              refine lv_goto (tgt := 8) hx hb dX8_ringValue_82 (by decide) ?_
              exact ih8 (k + 1) _ (by omega) (by omega) (lv_sub hl [4, 5, 6, 2, 1, 0] rfl)
        · refine lv_iconst (v := nI 0) hx hb dX8_ringValue_30 (by decide) ?_
          refine lv_goto (tgt := 35) hx hb dX8_ringValue_31 (by decide) ?_
          refine kx_ci (x := nI (0)) (y := nI (if mS z k = 3 then 0 else 1)) (congrArg nI (by first | (simp [*]; done) | (exfalso; omega) | (exfalso; simp_all; done))) ?_
          refine lv_istore (lv' := [(6, .int (nI (if mS z k = 3 then 0 else 1))), (0, .ref (a)), (1, .int (nI (r))), (2, .int (nI (w))), (3, .int (nI (uFK z r k))), (4, .int (nI (uTK z r k))), (5, .int (nI (k)))]) hx hb dX8_ringValue_35 hl (by decide) rfl (fun ls hl => ?_)
          refine lv_iload_n hx hb dX8_ringValue_37 rfl (lv_at hl 4 rfl) ?_
          refine lv_aload_n hx hb dX8_ringValue_38 rfl (lv_at hl 1 rfl) ?_
          refine lv_iload hx hb dX8_ringValue_39 (lv_at hl 6 rfl) ?_
          refine lv_iconst (v := nI 0) hx hb dX8_ringValue_41 (by decide) ?_
          refine kx_retP (va_runV (As := [.int (nI (k)), .int (nI (0))]) (rest := [.int (nI (uFK z r k))]) ⟨hx, hb, hml, hown, hts⟩ (k_X8_movePart l D cs a z k 0 (by first | assumption | omega) (by first | assumption | omega)) (cwV 2 hts gX8_ringValue_X8_movePart rfl rfl rfl (by decide +kernel) ⟨Nat.le_of_ble_eq_true rfl, Nat.le_of_ble_eq_true rfl⟩) (kx_preV hK hN hM.1 rfl hM) rfl rfl hl.1 rfl (lv_room (Nat.le_of_ble_eq_true rfl)) dX8_ringValue_42 ⟨Nat.le_of_ble_eq_true rfl, Nat.le_of_ble_eq_true rfl⟩) ?_
          refine kx_ci (y := nI (mF z k)) (Inv.m0 hI (by first | assumption | omega)) ?_
          refine lv_iload_n hx hb dX8_ringValue_45 rfl (lv_at hl 2 rfl) ?_
          refine kn_icmp_ne (tgt := 54) hx hb dX8_ringValue_46 (by decide) (by omega) (by omega) (fun c_7 => ?_) (fun c_7 => ?_)
          · refine lv_iconst (v := nI 0) hx hb dX8_ringValue_54 (by decide) ?_
            refine kx_ci (x := nI (0)) (y := nI (if mF z k = r then (if mS z k = 3 then 0 else 1) else 0)) (congrArg nI (by first | (simp [*]; done) | (exfalso; omega) | (exfalso; simp_all; done))) ?_
            refine kn_add hx hb dX8_ringValue_55 ?_
            refine kx_ci (x := nI (uFK z r k + (if mF z k = r then (if mS z k = 3 then 0 else 1) else 0))) (y := nI (uFK z r (k + 1))) rfl ?_
            refine lv_istore_n (lv' := [(3, .int (nI (uFK z r (k + 1)))), (6, .int (nI (if mS z k = 3 then 0 else 1))), (0, .ref (a)), (1, .int (nI (r))), (2, .int (nI (w))), (4, .int (nI (uTK z r k))), (5, .int (nI (k)))]) hx hb dX8_ringValue_56 rfl hl (by decide) rfl (fun ls hl => ?_)
            refine lv_iload hx hb dX8_ringValue_57 (lv_at hl 5 rfl) ?_
            refine lv_aload_n hx hb dX8_ringValue_59 rfl (lv_at hl 2 rfl) ?_
            refine lv_iload hx hb dX8_ringValue_60 (lv_at hl 6 rfl) ?_
            refine lv_iconst (v := nI 2) hx hb dX8_ringValue_62 (by decide) ?_
            refine kx_retP (va_runV (As := [.int (nI (k)), .int (nI (2))]) (rest := [.int (nI (uTK z r k))]) ⟨hx, hb, hml, hown, hts⟩ (k_X8_movePart l D cs a z k 2 (by first | assumption | omega) (by first | assumption | omega)) (cwV 2 hts gX8_ringValue_X8_movePart rfl rfl rfl (by decide +kernel) ⟨Nat.le_of_ble_eq_true rfl, Nat.le_of_ble_eq_true rfl⟩) (kx_preV hK hN hM.1 rfl hM) rfl rfl hl.1 rfl (lv_room (Nat.le_of_ble_eq_true rfl)) dX8_ringValue_63 ⟨Nat.le_of_ble_eq_true rfl, Nat.le_of_ble_eq_true rfl⟩) ?_
            refine kx_ci (y := nI (mT z k)) (Inv.m2 hI (by first | assumption | omega)) ?_
            refine lv_iload_n hx hb dX8_ringValue_66 rfl (lv_at hl 3 rfl) ?_
            refine kn_icmp_ne (tgt := 75) hx hb dX8_ringValue_67 (by decide) (by omega) (by omega) (fun c_8 => ?_) (fun c_8 => ?_)
            · refine lv_iconst (v := nI 0) hx hb dX8_ringValue_75 (by decide) ?_
              refine kx_ci (x := nI (0)) (y := nI (if mT z k = r then (if mS z k = 3 then 0 else 1) else 0)) (congrArg nI (by first | (simp [*]; done) | (exfalso; omega) | (exfalso; simp_all; done))) ?_
              refine kn_add hx hb dX8_ringValue_76 ?_
              refine kx_ci (x := nI (uTK z r k + (if mT z k = r then (if mS z k = 3 then 0 else 1) else 0))) (y := nI (uTK z r (k + 1))) rfl ?_
              refine lv_istore (lv' := [(4, .int (nI (uTK z r (k + 1)))), (3, .int (nI (uFK z r (k + 1)))), (6, .int (nI (if mS z k = 3 then 0 else 1))), (0, .ref (a)), (1, .int (nI (r))), (2, .int (nI (w))), (5, .int (nI (k)))]) hx hb dX8_ringValue_77 hl (by decide) rfl (fun ls hl => ?_)
              refine lv_iinc (v := nI (k + 1)) (lv' := [(5, .int (nI (k + 1))), (4, .int (nI (uTK z r (k + 1)))), (3, .int (nI (uFK z r (k + 1)))), (6, .int (nI (if mS z k = 3 then 0 else 1))), (0, .ref (a)), (1, .int (nI (r))), (2, .int (nI (w)))]) (k := 6) hx hb dX8_ringValue_79 hl rfl (nI_add _ _) (by decide) rfl (fun ls hl => ?_)
              refine lv_goto (tgt := 8) hx hb dX8_ringValue_82 (by decide) ?_
              exact ih8 (k + 1) _ (by omega) (by omega) (lv_sub hl [4, 5, 6, 2, 1, 0] rfl)
            · refine lv_iload hx hb dX8_ringValue_70 (lv_at hl 1 rfl) ?_
              refine lv_goto (tgt := 76) hx hb dX8_ringValue_72 (by decide) ?_
              refine kx_ci (x := nI (if mS z k = 3 then 0 else 1)) (y := nI (if mT z k = r then (if mS z k = 3 then 0 else 1) else 0)) (congrArg nI (by first | (simp [*]; done) | (exfalso; omega) | (exfalso; simp_all; done))) ?_
              refine kn_add hx hb dX8_ringValue_76 ?_
              refine kx_ci (x := nI (uTK z r k + (if mT z k = r then (if mS z k = 3 then 0 else 1) else 0))) (y := nI (uTK z r (k + 1))) rfl ?_
              refine lv_istore (lv' := [(4, .int (nI (uTK z r (k + 1)))), (3, .int (nI (uFK z r (k + 1)))), (6, .int (nI (if mS z k = 3 then 0 else 1))), (0, .ref (a)), (1, .int (nI (r))), (2, .int (nI (w))), (5, .int (nI (k)))]) hx hb dX8_ringValue_77 hl (by decide) rfl (fun ls hl => ?_)
              refine lv_iinc (v := nI (k + 1)) (lv' := [(5, .int (nI (k + 1))), (4, .int (nI (uTK z r (k + 1)))), (3, .int (nI (uFK z r (k + 1)))), (6, .int (nI (if mS z k = 3 then 0 else 1))), (0, .ref (a)), (1, .int (nI (r))), (2, .int (nI (w)))]) (k := 6) hx hb dX8_ringValue_79 hl rfl (nI_add _ _) (by decide) rfl (fun ls hl => ?_)
              refine lv_goto (tgt := 8) hx hb dX8_ringValue_82 (by decide) ?_
              exact ih8 (k + 1) _ (by omega) (by omega) (lv_sub hl [4, 5, 6, 2, 1, 0] rfl)
          · refine lv_iload hx hb dX8_ringValue_49 (lv_at hl 0 rfl) ?_
            refine lv_goto (tgt := 55) hx hb dX8_ringValue_51 (by decide) ?_
            refine kx_ci (x := nI (if mS z k = 3 then 0 else 1)) (y := nI (if mF z k = r then (if mS z k = 3 then 0 else 1) else 0)) (congrArg nI (by first | (simp [*]; done) | (exfalso; omega) | (exfalso; simp_all; done))) ?_
            refine kn_add hx hb dX8_ringValue_55 ?_
            refine kx_ci (x := nI (uFK z r k + (if mF z k = r then (if mS z k = 3 then 0 else 1) else 0))) (y := nI (uFK z r (k + 1))) rfl ?_
            refine lv_istore_n (lv' := [(3, .int (nI (uFK z r (k + 1)))), (6, .int (nI (if mS z k = 3 then 0 else 1))), (0, .ref (a)), (1, .int (nI (r))), (2, .int (nI (w))), (4, .int (nI (uTK z r k))), (5, .int (nI (k)))]) hx hb dX8_ringValue_56 rfl hl (by decide) rfl (fun ls hl => ?_)
            refine lv_iload hx hb dX8_ringValue_57 (lv_at hl 5 rfl) ?_
            refine lv_aload_n hx hb dX8_ringValue_59 rfl (lv_at hl 2 rfl) ?_
            refine lv_iload hx hb dX8_ringValue_60 (lv_at hl 6 rfl) ?_
            refine lv_iconst (v := nI 2) hx hb dX8_ringValue_62 (by decide) ?_
            refine kx_retP (va_runV (As := [.int (nI (k)), .int (nI (2))]) (rest := [.int (nI (uTK z r k))]) ⟨hx, hb, hml, hown, hts⟩ (k_X8_movePart l D cs a z k 2 (by first | assumption | omega) (by first | assumption | omega)) (cwV 2 hts gX8_ringValue_X8_movePart rfl rfl rfl (by decide +kernel) ⟨Nat.le_of_ble_eq_true rfl, Nat.le_of_ble_eq_true rfl⟩) (kx_preV hK hN hM.1 rfl hM) rfl rfl hl.1 rfl (lv_room (Nat.le_of_ble_eq_true rfl)) dX8_ringValue_63 ⟨Nat.le_of_ble_eq_true rfl, Nat.le_of_ble_eq_true rfl⟩) ?_
            refine kx_ci (y := nI (mT z k)) (Inv.m2 hI (by first | assumption | omega)) ?_
            refine lv_iload_n hx hb dX8_ringValue_66 rfl (lv_at hl 3 rfl) ?_
            refine kn_icmp_ne (tgt := 75) hx hb dX8_ringValue_67 (by decide) (by omega) (by omega) (fun c_9 => ?_) (fun c_9 => ?_)
            · refine lv_iconst (v := nI 0) hx hb dX8_ringValue_75 (by decide) ?_
              refine kx_ci (x := nI (0)) (y := nI (if mT z k = r then (if mS z k = 3 then 0 else 1) else 0)) (congrArg nI (by first | (simp [*]; done) | (exfalso; omega) | (exfalso; simp_all; done))) ?_
              refine kn_add hx hb dX8_ringValue_76 ?_
              refine kx_ci (x := nI (uTK z r k + (if mT z k = r then (if mS z k = 3 then 0 else 1) else 0))) (y := nI (uTK z r (k + 1))) rfl ?_
              refine lv_istore (lv' := [(4, .int (nI (uTK z r (k + 1)))), (3, .int (nI (uFK z r (k + 1)))), (6, .int (nI (if mS z k = 3 then 0 else 1))), (0, .ref (a)), (1, .int (nI (r))), (2, .int (nI (w))), (5, .int (nI (k)))]) hx hb dX8_ringValue_77 hl (by decide) rfl (fun ls hl => ?_)
              refine lv_iinc (v := nI (k + 1)) (lv' := [(5, .int (nI (k + 1))), (4, .int (nI (uTK z r (k + 1)))), (3, .int (nI (uFK z r (k + 1)))), (6, .int (nI (if mS z k = 3 then 0 else 1))), (0, .ref (a)), (1, .int (nI (r))), (2, .int (nI (w)))]) (k := 6) hx hb dX8_ringValue_79 hl rfl (nI_add _ _) (by decide) rfl (fun ls hl => ?_)
              refine lv_goto (tgt := 8) hx hb dX8_ringValue_82 (by decide) ?_
              exact ih8 (k + 1) _ (by omega) (by omega) (lv_sub hl [4, 5, 6, 2, 1, 0] rfl)
            · refine lv_iload hx hb dX8_ringValue_70 (lv_at hl 1 rfl) ?_
              refine lv_goto (tgt := 76) hx hb dX8_ringValue_72 (by decide) ?_
              refine kx_ci (x := nI (if mS z k = 3 then 0 else 1)) (y := nI (if mT z k = r then (if mS z k = 3 then 0 else 1) else 0)) (congrArg nI (by first | (simp [*]; done) | (exfalso; omega) | (exfalso; simp_all; done))) ?_
              refine kn_add hx hb dX8_ringValue_76 ?_
              refine kx_ci (x := nI (uTK z r k + (if mT z k = r then (if mS z k = 3 then 0 else 1) else 0))) (y := nI (uTK z r (k + 1))) rfl ?_
              refine lv_istore (lv' := [(4, .int (nI (uTK z r (k + 1)))), (3, .int (nI (uFK z r (k + 1)))), (6, .int (nI (if mS z k = 3 then 0 else 1))), (0, .ref (a)), (1, .int (nI (r))), (2, .int (nI (w))), (5, .int (nI (k)))]) hx hb dX8_ringValue_77 hl (by decide) rfl (fun ls hl => ?_)
              refine lv_iinc (v := nI (k + 1)) (lv' := [(5, .int (nI (k + 1))), (4, .int (nI (uTK z r (k + 1)))), (3, .int (nI (uFK z r (k + 1)))), (6, .int (nI (if mS z k = 3 then 0 else 1))), (0, .ref (a)), (1, .int (nI (r))), (2, .int (nI (w)))]) (k := 6) hx hb dX8_ringValue_79 hl rfl (nI_add _ _) (by decide) rfl (fun ls hl => ?_)
              refine lv_goto (tgt := 8) hx hb dX8_ringValue_82 (by decide) ?_
              exact ih8 (k + 1) _ (by omega) (by omega) (lv_sub hl [4, 5, 6, 2, 1, 0] rfl)
  exact J8 _ 0 _ (Nat.lt_succ_self _) (by omega) (lv_sub hl [3, 4, 5, 2, 1, 0] rfl)
set_option maxHeartbeats 1500000 in
set_option maxRecDepth 100000 in
theorem k_X8_wholeValue (l : Launch) (D : va_G) (cs : Nat → ClassId) (a : Nat) (z : Nat → Int32) (w : Nat) (hI : Inv z) (hw : w < 15) : Met l yX8_wholeValue wsX8_wholeValue ({ frames := 5, cells := 0, slots := 0, locals := 116 } : Room) (PcK D cs [.ref (a), .int (nI (w))] (fun H => MdC D (cs 0) a z H)) (QcP (some (.int (wvI z w)))) 0 0 nowhere := by
  refine kx_met (cc := cX8_wholeValue) (maxL := 7) (ret := (some .int)) (by decide) rfl (Nat.le_of_ble_eq_true rfl) ?_
  intro p e s m args below meth c hx hb hml hrt hts hown hlk hK hN hP ls hl
  have hl : lv_has ls 7 [(0, .ref (a)), (1, .int (nI (w)))] := hl
  have hinX8 : ∀ w ∈ wsX80, w ∈ wsX8_wholeValue := by decide +kernel
  have hM := hP
  have h24 := hI.M24
  have h6 := hI.R6
  have hb48 := hcN_lt z
  refine lv_iconst (v := nI 0) hx hb dX8_wholeValue_0 (by decide) ?_
  refine lv_istore_n (lv' := [(2, .int (nI (0))), (0, .ref (a)), (1, .int (nI (w)))]) hx hb dX8_wholeValue_1 rfl hl (by decide) rfl (fun ls hl => ?_)
  refine lv_iconst (v := nI 0) hx hb dX8_wholeValue_2 (by decide) ?_
  refine lv_istore_n (lv' := [(3, .int (nI (0))), (2, .int (nI (0))), (0, .ref (a)), (1, .int (nI (w)))]) hx hb dX8_wholeValue_3 rfl hl (by decide) rfl (fun ls hl => ?_)
  refine lv_aload_n hx hb dX8_wholeValue_4 rfl (lv_at hl 2 rfl) ?_
  refine kx_retP (va_runV (As := []) (rest := []) ⟨hx, hb, hml, hown, hts⟩ (k_X8_heldCells l D cs a z hI) (cwV 0 hts gX8_wholeValue_X8_heldCells rfl rfl rfl (by decide +kernel) ⟨Nat.le_of_ble_eq_true rfl, Nat.le_of_ble_eq_true rfl⟩) (kx_preV hK hN hM.1 rfl hM) rfl rfl hl.1 rfl (lv_room (Nat.le_of_ble_eq_true rfl)) dX8_wholeValue_5 ⟨Nat.le_of_ble_eq_true rfl, Nat.le_of_ble_eq_true rfl⟩) ?_
  refine lv_lstore (lv' := [(4, .long (lN (hcN z))), (3, .int (nI (0))), (2, .int (nI (0))), (0, .ref (a)), (1, .int (nI (w)))]) hx hb dX8_wholeValue_8 hl (by decide) rfl (fun ls hl => ?_)
  refine lv_iconst (v := nI 0) hx hb dX8_wholeValue_10 (by decide) ?_
  refine lv_istore (lv' := [(6, .int (nI (0))), (4, .long (lN (hcN z))), (3, .int (nI (0))), (2, .int (nI (0))), (0, .ref (a)), (1, .int (nI (w)))]) hx hb dX8_wholeValue_11 hl (by decide) rfl (fun ls hl => ?_)
  have J13 : ∀ (n13 : Nat) (k : Nat) (ls : Array Slot), (48 - k) < n13 → (k ≤ 48) → lv_has ls 7 [(0, .ref (a)), (1, .int (nI (w))), (2, .int (nI (ppK (hcN z) k))), (3, .int (smK z 0 k)), (4, .long (lN (hcN z))), (6, .int (nI (k)))] → W p l e ({ frames := 5, cells := 0, slots := 0, locals := 116 } : Room) s m args below meth c s.heap [] 0 0 (MQ below (QcP (some (.int (wvI z w)))) args s 0 0 nowhere) (F0 m 13 ls []) := by
    intro n13; induction n13 with
    | zero => intro k ls hmu13 hk hl; exact absurd hmu13 (Nat.not_lt_zero _)
    | succ n13 ih13 =>
      intro k ls hmu13 hk hl
      refine lv_iload hx hb dX8_wholeValue_13 (lv_at hl 5 rfl) ?_
      refine lv_bipush (v := nI 48) hx hb dX8_wholeValue_15 (by decide) ?_
      refine kn_icmp_ge (tgt := 59) hx hb dX8_wholeValue_17 (by decide) (by omega) (by decide) (fun c_1 => ?_) (fun c_1 => ?_)
      · have hkk : k = 48 := by omega
        subst hkk
        have hl : lv_has ls 7 [(0, .ref (a)), (1, .int (nI (w))), (2, .int (nI (ppK (hcN z) 48))), (3, .int (smK z 0 48)), (4, .long (lN (hcN z))), (6, .int (nI (48)))] := hl
        refine lv_iload_n hx hb dX8_wholeValue_59 rfl (lv_at hl 1 rfl) ?_
        rcases (show w = 0 ∨ w = 1 ∨ w = 2 ∨ w = 3 ∨ w = 4 ∨ w = 5 ∨ w = 6 ∨ w = 7 ∨ w = 8 ∨ w = 9 ∨ w = 10 ∨ w = 11 ∨ w = 12 ∨ w = 13 ∨ w = 14 by omega) with rfl | rfl | rfl | rfl | rfl | rfl | rfl | rfl | rfl | rfl | rfl | rfl | rfl | rfl | rfl
        · refine lv_tableIn (off := 72) (tgt := 132) hx hb dX8_wholeValue_60 (by decide) (by decide) (by rfl) (by decide) ?_
          refine lv_aload_n hx hb dX8_wholeValue_132 rfl (lv_at hl 0 rfl) ?_
          refine kx_get (v := .ref (a + 1)) hx hb hts hinX8 hown hK hM.1 rfl 1 (by decide) (by decide +kernel) rfl dX8_wholeValue_133 ?_
          refine lv_iconst (v := nI 3) hx hb dX8_wholeValue_136 (by decide) ?_
          refine kx_iald (i := 3) hx hb hK hM.state 0 rfl (by decide) (by decide) dX8_wholeValue_137 ?_
          refine kx_ci (y := nI (Rn z)) (hI).z3 ?_
          exact kx_iretP hx hb hrt hlk rfl dX8_wholeValue_138
        · refine lv_tableIn (off := 79) (tgt := 139) hx hb dX8_wholeValue_60 (by decide) (by decide) (by rfl) (by decide) ?_
          refine lv_aload_n hx hb dX8_wholeValue_139 rfl (lv_at hl 0 rfl) ?_
          refine kx_get (v := .ref (a + 1)) hx hb hts hinX8 hown hK hM.1 rfl 1 (by decide) (by decide +kernel) rfl dX8_wholeValue_140 ?_
          refine lv_iconst (v := nI 4) hx hb dX8_wholeValue_143 (by decide) ?_
          refine kx_iald (i := 4) hx hb hK hM.state 0 rfl (by decide) (by decide) dX8_wholeValue_144 ?_
          refine kx_ci (y := nI (Mn z)) (hI).z4 ?_
          exact kx_iretP hx hb hrt hlk rfl dX8_wholeValue_145
        · refine lv_tableIn (off := 86) (tgt := 146) hx hb dX8_wholeValue_60 (by decide) (by decide) (by rfl) (by decide) ?_
          refine lv_aload_n hx hb dX8_wholeValue_146 rfl (lv_at hl 0 rfl) ?_
          refine lv_iload_n hx hb dX8_wholeValue_147 rfl (lv_at hl 1 rfl) ?_
          refine lv_iconst (v := nI 2) hx hb dX8_wholeValue_148 (by decide) ?_
          refine kn_sub hx hb (by omega) dX8_wholeValue_149 ?_
          refine kx_retP (va_runV (As := [.int (nI (2 - 2))]) (rest := []) ⟨hx, hb, hml, hown, hts⟩ (k_X8_movesIn l D cs a z (2 - 2) hI (by first | assumption | omega)) (cwV 1 hts gX8_wholeValue_X8_movesIn rfl rfl rfl (by decide +kernel) ⟨Nat.le_of_ble_eq_true rfl, Nat.le_of_ble_eq_true rfl⟩) (kx_preV hK hN hM.1 rfl hM) rfl rfl hl.1 rfl (lv_room (Nat.le_of_ble_eq_true rfl)) dX8_wholeValue_150 ⟨Nat.le_of_ble_eq_true rfl, Nat.le_of_ble_eq_true rfl⟩) ?_
          exact kx_iretP hx hb hrt hlk rfl dX8_wholeValue_153
        · refine lv_tableIn (off := 86) (tgt := 146) hx hb dX8_wholeValue_60 (by decide) (by decide) (by rfl) (by decide) ?_
          refine lv_aload_n hx hb dX8_wholeValue_146 rfl (lv_at hl 0 rfl) ?_
          refine lv_iload_n hx hb dX8_wholeValue_147 rfl (lv_at hl 1 rfl) ?_
          refine lv_iconst (v := nI 2) hx hb dX8_wholeValue_148 (by decide) ?_
          refine kn_sub hx hb (by omega) dX8_wholeValue_149 ?_
          refine kx_retP (va_runV (As := [.int (nI (3 - 2))]) (rest := []) ⟨hx, hb, hml, hown, hts⟩ (k_X8_movesIn l D cs a z (3 - 2) hI (by first | assumption | omega)) (cwV 1 hts gX8_wholeValue_X8_movesIn rfl rfl rfl (by decide +kernel) ⟨Nat.le_of_ble_eq_true rfl, Nat.le_of_ble_eq_true rfl⟩) (kx_preV hK hN hM.1 rfl hM) rfl rfl hl.1 rfl (lv_room (Nat.le_of_ble_eq_true rfl)) dX8_wholeValue_150 ⟨Nat.le_of_ble_eq_true rfl, Nat.le_of_ble_eq_true rfl⟩) ?_
          exact kx_iretP hx hb hrt hlk rfl dX8_wholeValue_153
        · refine lv_tableIn (off := 86) (tgt := 146) hx hb dX8_wholeValue_60 (by decide) (by decide) (by rfl) (by decide) ?_
          refine lv_aload_n hx hb dX8_wholeValue_146 rfl (lv_at hl 0 rfl) ?_
          refine lv_iload_n hx hb dX8_wholeValue_147 rfl (lv_at hl 1 rfl) ?_
          refine lv_iconst (v := nI 2) hx hb dX8_wholeValue_148 (by decide) ?_
          refine kn_sub hx hb (by omega) dX8_wholeValue_149 ?_
          refine kx_retP (va_runV (As := [.int (nI (4 - 2))]) (rest := []) ⟨hx, hb, hml, hown, hts⟩ (k_X8_movesIn l D cs a z (4 - 2) hI (by first | assumption | omega)) (cwV 1 hts gX8_wholeValue_X8_movesIn rfl rfl rfl (by decide +kernel) ⟨Nat.le_of_ble_eq_true rfl, Nat.le_of_ble_eq_true rfl⟩) (kx_preV hK hN hM.1 rfl hM) rfl rfl hl.1 rfl (lv_room (Nat.le_of_ble_eq_true rfl)) dX8_wholeValue_150 ⟨Nat.le_of_ble_eq_true rfl, Nat.le_of_ble_eq_true rfl⟩) ?_
          exact kx_iretP hx hb hrt hlk rfl dX8_wholeValue_153
        · refine lv_tableIn (off := 86) (tgt := 146) hx hb dX8_wholeValue_60 (by decide) (by decide) (by rfl) (by decide) ?_
          refine lv_aload_n hx hb dX8_wholeValue_146 rfl (lv_at hl 0 rfl) ?_
          refine lv_iload_n hx hb dX8_wholeValue_147 rfl (lv_at hl 1 rfl) ?_
          refine lv_iconst (v := nI 2) hx hb dX8_wholeValue_148 (by decide) ?_
          refine kn_sub hx hb (by omega) dX8_wholeValue_149 ?_
          refine kx_retP (va_runV (As := [.int (nI (5 - 2))]) (rest := []) ⟨hx, hb, hml, hown, hts⟩ (k_X8_movesIn l D cs a z (5 - 2) hI (by first | assumption | omega)) (cwV 1 hts gX8_wholeValue_X8_movesIn rfl rfl rfl (by decide +kernel) ⟨Nat.le_of_ble_eq_true rfl, Nat.le_of_ble_eq_true rfl⟩) (kx_preV hK hN hM.1 rfl hM) rfl rfl hl.1 rfl (lv_room (Nat.le_of_ble_eq_true rfl)) dX8_wholeValue_150 ⟨Nat.le_of_ble_eq_true rfl, Nat.le_of_ble_eq_true rfl⟩) ?_
          exact kx_iretP hx hb hrt hlk rfl dX8_wholeValue_153
        · refine lv_tableIn (off := 94) (tgt := 154) hx hb dX8_wholeValue_60 (by decide) (by decide) (by rfl) (by decide) ?_
          refine lv_aload_n hx hb dX8_wholeValue_154 rfl (lv_at hl 0 rfl) ?_
          refine kx_get (v := .ref (a + 1)) hx hb hts hinX8 hown hK hM.1 rfl 1 (by decide) (by decide +kernel) rfl dX8_wholeValue_155 ?_
          refine lv_iconst (v := nI 1) hx hb dX8_wholeValue_158 (by decide) ?_
          refine kx_iald (i := 1) hx hb hK hM.state 0 rfl (by decide) (by decide) dX8_wholeValue_159 ?_
          refine kx_ci (y := nI (Sp z)) (hI).z1 ?_
          exact kx_iretP hx hb hrt hlk rfl dX8_wholeValue_160
        · refine lv_tableIn (off := 101) (tgt := 161) hx hb dX8_wholeValue_60 (by decide) (by decide) (by rfl) (by decide) ?_
          refine lv_aload_n hx hb dX8_wholeValue_161 rfl (lv_at hl 0 rfl) ?_
          refine kx_get (v := .ref (a + 1)) hx hb hts hinX8 hown hK hM.1 rfl 1 (by decide) (by decide +kernel) rfl dX8_wholeValue_162 ?_
          refine lv_iconst (v := nI 2) hx hb dX8_wholeValue_165 (by decide) ?_
          refine kx_iald (i := 2) hx hb hK hM.state 0 rfl (by decide) (by decide) dX8_wholeValue_166 ?_
          exact kx_iretP hx hb hrt hlk rfl dX8_wholeValue_167
        · refine lv_tableIn (off := 108) (tgt := 168) hx hb dX8_wholeValue_60 (by decide) (by decide) (by rfl) (by decide) ?_
          refine lv_aload_n hx hb dX8_wholeValue_168 rfl (lv_at hl 0 rfl) ?_
          refine kx_get (v := .ref (a + 1)) hx hb hts hinX8 hown hK hM.1 rfl 1 (by decide) (by decide +kernel) rfl dX8_wholeValue_169 ?_
          refine lv_iconst (v := nI 0) hx hb dX8_wholeValue_172 (by decide) ?_
          refine kx_iald (i := 0) hx hb hK hM.state 0 rfl (by decide) (by decide) dX8_wholeValue_173 ?_
          exact kx_iretP hx hb hrt hlk rfl dX8_wholeValue_174
        · refine lv_tableIn (off := 115) (tgt := 175) hx hb dX8_wholeValue_60 (by decide) (by decide) (by rfl) (by decide) ?_
          refine lv_iload_n hx hb dX8_wholeValue_175 rfl (lv_at hl 2 rfl) ?_
          exact kx_iretP hx hb hrt hlk rfl dX8_wholeValue_176
        · refine lv_tableIn (off := 117) (tgt := 177) hx hb dX8_wholeValue_60 (by decide) (by decide) (by rfl) (by decide) ?_
          refine lv_aload_n hx hb dX8_wholeValue_177 rfl (lv_at hl 0 rfl) ?_
          refine kx_get (v := .ref (a + 1)) hx hb hts hinX8 hown hK hM.1 rfl 1 (by decide) (by decide +kernel) rfl dX8_wholeValue_178 ?_
          refine lv_iconst (v := nI 5) hx hb dX8_wholeValue_181 (by decide) ?_
          refine kx_iald (i := 5) hx hb hK hM.state 0 rfl (by decide) (by decide) dX8_wholeValue_182 ?_
          exact kx_iretP hx hb hrt hlk rfl dX8_wholeValue_183
        · refine lv_tableIn (off := 124) (tgt := 184) hx hb dX8_wholeValue_60 (by decide) (by decide) (by rfl) (by decide) ?_
          refine lv_aload_n hx hb dX8_wholeValue_184 rfl (lv_at hl 0 rfl) ?_
          refine kx_get (v := .ref (a + 1)) hx hb hts hinX8 hown hK hM.1 rfl 1 (by decide) (by decide +kernel) rfl dX8_wholeValue_185 ?_
          refine lv_bipush (v := nI 6) hx hb dX8_wholeValue_188 (by decide) ?_
          refine kx_iald (i := 6) hx hb hK hM.state 0 rfl (by decide) (by decide) dX8_wholeValue_190 ?_
          exact kx_iretP hx hb hrt hlk rfl dX8_wholeValue_191
        · refine lv_tableIn (off := 132) (tgt := 192) hx hb dX8_wholeValue_60 (by decide) (by decide) (by rfl) (by decide) ?_
          refine lv_aload_n hx hb dX8_wholeValue_192 rfl (lv_at hl 0 rfl) ?_
          refine kx_get (v := .ref (a + 1)) hx hb hts hinX8 hown hK hM.1 rfl 1 (by decide) (by decide +kernel) rfl dX8_wholeValue_193 ?_
          refine lv_bipush (v := nI 7) hx hb dX8_wholeValue_196 (by decide) ?_
          refine kx_iald (i := 7) hx hb hK hM.state 0 rfl (by decide) (by decide) dX8_wholeValue_198 ?_
          exact kx_iretP hx hb hrt hlk rfl dX8_wholeValue_199
        · refine lv_tableIn (off := 140) (tgt := 200) hx hb dX8_wholeValue_60 (by decide) (by decide) (by rfl) (by decide) ?_
          refine lv_iload_n hx hb dX8_wholeValue_200 rfl (lv_at hl 3 rfl) ?_
          exact kx_iretP hx hb hrt hlk rfl dX8_wholeValue_201
        · refine lv_tableOut (tgt := 202) hx hb dX8_wholeValue_60 (by decide) (by decide) ?_
          refine lv_aload_n hx hb dX8_wholeValue_202 rfl (lv_at hl 0 rfl) ?_
          refine kx_get (v := .int (z 4405)) hx hb hts hinX8 hown hK hM.1 rfl 6 (by decide) (by decide +kernel) rfl dX8_wholeValue_203 ?_
          exact kx_iretP hx hb hrt hlk rfl dX8_wholeValue_206
      · refine lv_iload_n hx hb dX8_wholeValue_20 rfl (lv_at hl 2 rfl) ?_
        refine lv_lload hx hb dX8_wholeValue_21 (lv_at hl 4 rfl) ?_
        refine lv_iload hx hb dX8_wholeValue_23 (lv_at hl 5 rfl) ?_
        refine kl_shr hx hb (by omega) (by omega) dX8_wholeValue_25 ?_
        refine lv_lconst (v := lN 1) hx hb dX8_wholeValue_26 rfl ?_
        refine kl_and hx hb dX8_wholeValue_27 ?_
        refine lv_lconst (v := lN 1) hx hb dX8_wholeValue_28 rfl ?_
        refine W.lcmp hx hb dX8_wholeValue_29 ?_
        refine kl_if_ne (tgt := 37) hx hb dX8_wholeValue_30 (by decide) (fun hbit => ?_) (fun hbit => ?_)
        · refine lv_iconst (v := nI 0) hx hb dX8_wholeValue_37 (by decide) ?_
          refine kx_ci (x := nI (0)) (y := nI (if hcN z / 2 ^ k % 2 = 1 then 1 else 0)) (congrArg nI (by rw [Nat.and_one_is_mod] at hbit; have hb2 := (lN_eq (a := hcN z / 2 ^ k % 2) (b := 1) (by omega) (by decide)); first | rw [if_pos (hb2.mp hbit)] | rw [if_neg (fun q => hbit (hb2.mpr q))])) ?_
          refine kn_add hx hb dX8_wholeValue_38 ?_
          refine kx_ci (x := nI (ppK (hcN z) k + (if hcN z / 2 ^ k % 2 = 1 then 1 else 0))) (y := nI (ppK (hcN z) (k + 1))) rfl ?_
          refine lv_istore_n (lv' := [(2, .int (nI (ppK (hcN z) (k + 1)))), (0, .ref (a)), (1, .int (nI (w))), (3, .int (smK z 0 k)), (4, .long (lN (hcN z))), (6, .int (nI (k)))]) hx hb dX8_wholeValue_39 rfl hl (by decide) rfl (fun ls hl => ?_)
          refine lv_iload_n hx hb dX8_wholeValue_40 rfl (lv_at hl 3 rfl) ?_
          refine lv_aload_n hx hb dX8_wholeValue_41 rfl (lv_at hl 1 rfl) ?_
          refine kx_get (v := .ref (a + 1)) hx hb hts hinX8 hown hK hM.1 rfl 1 (by decide) (by decide +kernel) rfl dX8_wholeValue_42 ?_
          refine lv_bipush (v := nI 8) hx hb dX8_wholeValue_45 (by decide) ?_
          refine lv_iload hx hb dX8_wholeValue_47 (lv_at hl 5 rfl) ?_
          refine kn_add hx hb dX8_wholeValue_49 ?_
          refine kx_iald (i := 8 + k) hx hb hK hM.state 0 rfl (by omega) (by decide) dX8_wholeValue_50 ?_
          refine lv_iadd hx hb dX8_wholeValue_51 ?_
          refine kx_ci (x := (smK z 0 k) + (z (8 + k))) (y := smK z 0 (k + 1)) rfl ?_
          refine lv_istore_n (lv' := [(3, .int (smK z 0 (k + 1))), (2, .int (nI (ppK (hcN z) (k + 1)))), (0, .ref (a)), (1, .int (nI (w))), (4, .long (lN (hcN z))), (6, .int (nI (k)))]) hx hb dX8_wholeValue_52 rfl hl (by decide) rfl (fun ls hl => ?_)
          refine lv_iinc (v := nI (k + 1)) (lv' := [(6, .int (nI (k + 1))), (3, .int (smK z 0 (k + 1))), (2, .int (nI (ppK (hcN z) (k + 1)))), (0, .ref (a)), (1, .int (nI (w))), (4, .long (lN (hcN z)))]) (k := 5) hx hb dX8_wholeValue_53 hl rfl (nI_add _ _) (by decide) rfl (fun ls hl => ?_)
          refine lv_goto (tgt := 13) hx hb dX8_wholeValue_56 (by decide) ?_
          exact ih13 (k + 1) _ (by omega) (by omega) (lv_sub hl [3, 4, 2, 1, 5, 0] rfl)
        · refine lv_iconst (v := nI 1) hx hb dX8_wholeValue_33 (by decide) ?_
          refine lv_goto (tgt := 38) hx hb dX8_wholeValue_34 (by decide) ?_
          refine kx_ci (x := nI (1)) (y := nI (if hcN z / 2 ^ k % 2 = 1 then 1 else 0)) (congrArg nI (by rw [Nat.and_one_is_mod] at hbit; have hb2 := (lN_eq (a := hcN z / 2 ^ k % 2) (b := 1) (by omega) (by decide)); first | rw [if_pos (hb2.mp hbit)] | rw [if_neg (fun q => hbit (hb2.mpr q))])) ?_
          refine kn_add hx hb dX8_wholeValue_38 ?_
          refine kx_ci (x := nI (ppK (hcN z) k + (if hcN z / 2 ^ k % 2 = 1 then 1 else 0))) (y := nI (ppK (hcN z) (k + 1))) rfl ?_
          refine lv_istore_n (lv' := [(2, .int (nI (ppK (hcN z) (k + 1)))), (0, .ref (a)), (1, .int (nI (w))), (3, .int (smK z 0 k)), (4, .long (lN (hcN z))), (6, .int (nI (k)))]) hx hb dX8_wholeValue_39 rfl hl (by decide) rfl (fun ls hl => ?_)
          refine lv_iload_n hx hb dX8_wholeValue_40 rfl (lv_at hl 3 rfl) ?_
          refine lv_aload_n hx hb dX8_wholeValue_41 rfl (lv_at hl 1 rfl) ?_
          refine kx_get (v := .ref (a + 1)) hx hb hts hinX8 hown hK hM.1 rfl 1 (by decide) (by decide +kernel) rfl dX8_wholeValue_42 ?_
          refine lv_bipush (v := nI 8) hx hb dX8_wholeValue_45 (by decide) ?_
          refine lv_iload hx hb dX8_wholeValue_47 (lv_at hl 5 rfl) ?_
          refine kn_add hx hb dX8_wholeValue_49 ?_
          refine kx_iald (i := 8 + k) hx hb hK hM.state 0 rfl (by omega) (by decide) dX8_wholeValue_50 ?_
          refine lv_iadd hx hb dX8_wholeValue_51 ?_
          refine kx_ci (x := (smK z 0 k) + (z (8 + k))) (y := smK z 0 (k + 1)) rfl ?_
          refine lv_istore_n (lv' := [(3, .int (smK z 0 (k + 1))), (2, .int (nI (ppK (hcN z) (k + 1)))), (0, .ref (a)), (1, .int (nI (w))), (4, .long (lN (hcN z))), (6, .int (nI (k)))]) hx hb dX8_wholeValue_52 rfl hl (by decide) rfl (fun ls hl => ?_)
          refine lv_iinc (v := nI (k + 1)) (lv' := [(6, .int (nI (k + 1))), (3, .int (smK z 0 (k + 1))), (2, .int (nI (ppK (hcN z) (k + 1)))), (0, .ref (a)), (1, .int (nI (w))), (4, .long (lN (hcN z)))]) (k := 5) hx hb dX8_wholeValue_53 hl rfl (nI_add _ _) (by decide) rfl (fun ls hl => ?_)
          refine lv_goto (tgt := 13) hx hb dX8_wholeValue_56 (by decide) ?_
          exact ih13 (k + 1) _ (by omega) (by omega) (lv_sub hl [3, 4, 2, 1, 5, 0] rfl)
  exact J13 _ 0 _ (Nat.lt_succ_self _) (by omega) (lv_sub hl [4, 5, 3, 2, 1, 0] rfl)
set_option maxHeartbeats 1500000 in
set_option maxRecDepth 100000 in
theorem k_X8_depthOf (l : Launch) (D : va_G) (cs : Nat → ClassId) (a : Nat) (z : Nat → Int32) (mv : Nat) (hI : Inv z) (hm : mv < Mn z) : Met l yX8_depthOf wsX8_depthOf ({ frames := 5, cells := 0, slots := 0, locals := 118 } : Room) (PcK D cs [.ref (a), .int (nI (mv))] (fun H => MdC D (cs 0) a z H)) (QcM (some (.int (nI (dpN z mv)))) (fun H => MdC D (cs 0) a (dzK z (mv + 1)) H) (rgM a)) 0 0 ((rgM a)) := by
  refine kx_met (cc := cX8_depthOf) (maxL := 6) (ret := (some .int)) (by decide) rfl (Nat.le_of_ble_eq_true rfl) ?_
  intro p e s m args below meth c hx hb hml hrt hts hown hlk hK hN hP ls hl
  have hl : lv_has ls 6 [(0, .ref (a)), (1, .int (nI (mv)))] := hl
  obtain ⟨H, hHe⟩ : ∃ H : Heap, H = s.heap := ⟨_, rfl⟩
  rw [← hHe] at hP ⊢
  have hS : va_S ((rgM a)) s.heap H [] := by rw [← hHe]; exact va_S.rf
  have hinX8 : ∀ w ∈ wsX80, w ∈ wsX8_depthOf := by decide +kernel
  have hM := hP
  have h24 := hI.M24
  have h6 := hI.R6
  refine lv_iconst (v := nI 0) hx hb dX8_depthOf_0 (by decide) ?_
  refine lv_istore_n (lv' := [(2, .int (nI (0))), (0, .ref (a)), (1, .int (nI (mv)))]) hx hb dX8_depthOf_1 rfl hl (by decide) rfl (fun ls hl => ?_)
  have J2 : ∀ (n2 : Nat) (k : Nat) (H : Heap) (locs : List Loc) (ls : Array Slot), (mv + 1 - k) < n2 → (k ≤ mv + 1) → (MdC D (cs 0) a (dzK z k) H) → va_S ((rgM a)) s.heap H locs → lv_has ls 6 [(0, .ref (a)), (1, .int (nI (mv))), (2, .int (nI (k)))] → W p l e ({ frames := 5, cells := 0, slots := 0, locals := 118 } : Room) s m args below meth c H locs 0 0 (MQ below (QcM (some (.int (nI (dpN z mv)))) (fun H => MdC D (cs 0) a (dzK z (mv + 1)) H) (rgM a)) args s 0 0 ((rgM a))) (F0 m 2 ls []) := by
    intro n2; induction n2 with
    | zero => intro k H locs ls hmu2 hk hM hS hl; exact absurd hmu2 (Nat.not_lt_zero _)
    | succ n2 ih2 =>
      intro k H locs ls hmu2 hk hM hS hl
      have hE : Eqv z (dzK z k) := Eqv.of_eq hI (fun j hj => dzK_lo z k (by omega))
      have hIy := hE.inv hI
      have hMy := hE.M
      refine lv_iload_n hx hb dX8_depthOf_2 rfl (lv_at hl 2 rfl) ?_
      refine lv_iload_n hx hb dX8_depthOf_3 rfl (lv_at hl 1 rfl) ?_
      refine kn_icmp_gt (tgt := 94) hx hb dX8_depthOf_4 (by decide) (by omega) (by omega) (fun c_1 => ?_) (fun c_1 => ?_)
      · have hkk : k = mv + 1 := by omega
        subst hkk
        refine lv_aload_n hx hb dX8_depthOf_94 rfl (lv_at hl 0 rfl) ?_
        refine kx_get (v := .ref (a + 6)) hx hb hts hinX8 hown hK hM.1 rfl 10 (by decide) (by decide +kernel) rfl dX8_depthOf_95 ?_
        refine lv_iload_n hx hb dX8_depthOf_98 rfl (lv_at hl 1 rfl) ?_
        refine kx_iald (i := mv) hx hb hK hM.depths 0 rfl (by omega) (by decide) dX8_depthOf_99 ?_
        refine kx_ci (y := nI (dpN z mv)) (dz_ret z mv) ?_
        exact kx_iretM hx hb hrt hlk rfl hM hS dX8_depthOf_100
      · have hkM : k < Mn z := by omega
        have hwo := woN_lt z (l := k) (by omega)
        refine lv_aload_n hx hb dX8_depthOf_7 rfl (lv_at hl 0 rfl) ?_
        refine lv_iload_n hx hb dX8_depthOf_8 rfl (lv_at hl 2 rfl) ?_
        refine kx_retP (va_runV (As := [.int (nI (k))]) (rest := []) ⟨hx, hb, hml, hown, hts⟩ (k_X8_waitsOf l D cs a (dzK z k) k hIy (by first | assumption | omega)) (cwV 1 hts gX8_depthOf_X8_waitsOf rfl rfl rfl (by decide +kernel) ⟨Nat.le_of_ble_eq_true rfl, Nat.le_of_ble_eq_true rfl⟩) (kx_preV hK hN hM.1 rfl hM) rfl rfl hl.1 rfl (lv_room (Nat.le_of_ble_eq_true rfl)) dX8_depthOf_9 ⟨Nat.le_of_ble_eq_true rfl, Nat.le_of_ble_eq_true rfl⟩) ?_
        refine kx_ci (x := nI (woN (dzK z k) k)) (y := nI (woN z k)) (congrArg nI (hE.wo hI hkM)) ?_
        refine lv_istore_n (lv' := [(3, .int (nI (woN z k))), (0, .ref (a)), (1, .int (nI (mv))), (2, .int (nI (k)))]) hx hb dX8_depthOf_12 rfl hl (by decide) rfl (fun ls hl => ?_)
        refine lv_aload_n hx hb dX8_depthOf_13 rfl (lv_at hl 1 rfl) ?_
        refine kx_get (v := .ref (a + 6)) hx hb hts hinX8 hown hK hM.1 rfl 10 (by decide) (by decide +kernel) rfl dX8_depthOf_14 ?_
        refine lv_iload_n hx hb dX8_depthOf_17 rfl (lv_at hl 3 rfl) ?_
        refine lv_iconst (v := nI 0) hx hb dX8_depthOf_18 (by decide) ?_
        refine kx_iast (i := k) hx hb hK hM.depths hS ⟨by omega, by omega⟩ 0 rfl (by omega) (by decide) dX8_depthOf_19 (fun H locs hc hU hS => ?_)
        have hM := hM.put_depths (by omega) hc hU
        clear hc hU
        have hM : MdC D (cs 0) a (dzE z k 0) H := (by rw [← dzE_0]; exact hM)
        refine lv_iconst (v := nI 0) hx hb dX8_depthOf_20 (by decide) ?_
        refine lv_istore (lv' := [(4, .int (nI (0))), (3, .int (nI (woN z k))), (0, .ref (a)), (1, .int (nI (mv))), (2, .int (nI (k)))]) hx hb dX8_depthOf_21 hl (by decide) rfl (fun ls hl => ?_)
        have J23 : ∀ (n23 : Nat) (e1 : Nat) (H : Heap) (locs : List Loc) (ls : Array Slot), (k - e1) < n23 → (e1 ≤ k) → (MdC D (cs 0) a (dzE z k e1) H) → va_S ((rgM a)) s.heap H locs → lv_has ls 6 [(0, .ref (a)), (1, .int (nI (mv))), (2, .int (nI (k))), (3, .int (nI (woN z k))), (4, .int (nI (e1)))] → W p l e ({ frames := 5, cells := 0, slots := 0, locals := 118 } : Room) s m args below meth c H locs 0 0 (MQ below (QcM (some (.int (nI (dpN z mv)))) (fun H => MdC D (cs 0) a (dzK z (mv + 1)) H) (rgM a)) args s 0 0 ((rgM a))) (F0 m 23 ls []) := by
          intro n23; induction n23 with
          | zero => intro e1 H locs ls hmu23 he1 hM hS hl; exact absurd hmu23 (Nat.not_lt_zero _)
          | succ n23 ih23 =>
            intro e1 H locs ls hmu23 he1 hM hS hl
            refine lv_iload hx hb dX8_depthOf_23 (lv_at hl 4 rfl) ?_
            refine lv_iload_n hx hb dX8_depthOf_25 rfl (lv_at hl 2 rfl) ?_
            refine kn_icmp_ge (tgt := 88) hx hb dX8_depthOf_26 (by decide) (by omega) (by omega) (fun c_2 => ?_) (fun c_2 => ?_)
            · have hee : e1 = k := by omega
              subst hee
              have hM : MdC D (cs 0) a (dzK z (e1 + 1)) H := by rw [← dzE_end]; exact hM
              refine lv_iinc (v := nI (e1 + 1)) (lv' := [(2, .int (nI (e1 + 1))), (0, .ref (a)), (1, .int (nI (mv))), (3, .int (nI (woN z e1))), (4, .int (nI (e1)))]) (k := 2) hx hb dX8_depthOf_88 hl rfl (nI_add _ _) (by decide) rfl (fun ls hl => ?_)
              refine lv_goto (tgt := 2) hx hb dX8_depthOf_91 (by decide) ?_
              exact ih2 (e1 + 1) _ _ _ (by omega) (by omega) hM hS (lv_sub hl [1, 2, 0] rfl)
            · have hek : e1 < k := by omega
              have hdl := dpT_le z k e1
              refine lv_iload_n hx hb dX8_depthOf_29 rfl (lv_at hl 3 rfl) ?_
              refine lv_iload hx hb dX8_depthOf_30 (lv_at hl 4 rfl) ?_
              refine kn_shr hx hb (by omega) (by omega) dX8_depthOf_32 ?_
              refine lv_iconst (v := nI 1) hx hb dX8_depthOf_33 (by decide) ?_
              refine kn_and hx hb dX8_depthOf_34 ?_
              refine lv_iconst (v := nI 1) hx hb dX8_depthOf_35 (by decide) ?_
              refine kn_icmp_ne (tgt := 51) hx hb dX8_depthOf_36 (by decide) (by rw [Nat.and_one_is_mod]; omega) (by decide) (fun hbit => ?_) (fun hbit => ?_)
              · refine lv_iconst (v := nI 0) hx hb dX8_depthOf_51 (by decide) ?_
                refine kx_ci (x := nI (0)) (y := nI (if woN z k / 2 ^ e1 % 2 = 1 then dpT z k e1 + 1 else 0)) (congrArg nI (by rw [Nat.and_one_is_mod] at hbit; simp [*])) ?_
                refine lv_istore (lv' := [(5, .int (nI (if woN z k / 2 ^ e1 % 2 = 1 then dpT z k e1 + 1 else 0))), (0, .ref (a)), (1, .int (nI (mv))), (2, .int (nI (k))), (3, .int (nI (woN z k))), (4, .int (nI (e1)))]) hx hb dX8_depthOf_52 hl (by decide) rfl (fun ls hl => ?_)
                have hdv := dpV_le z (t := dpT z k) (m := k) (n := k) e1 (fun j hj => Nat.lt_of_le_of_lt (dpT_le z k j) (by omega))
                have hX : (if woN z k / 2 ^ e1 % 2 = 1 then dpT z k e1 + 1 else 0) ≤ k := by split <;> omega
                refine lv_aload_n hx hb dX8_depthOf_54 rfl (lv_at hl 1 rfl) ?_
                refine kx_get (v := .ref (a + 6)) hx hb hts hinX8 hown hK hM.1 rfl 10 (by decide) (by decide +kernel) rfl dX8_depthOf_55 ?_
                refine lv_iload_n hx hb dX8_depthOf_58 rfl (lv_at hl 3 rfl) ?_
                refine lv_iload hx hb dX8_depthOf_59 (lv_at hl 0 rfl) ?_
                refine lv_aload_n hx hb dX8_depthOf_61 rfl (lv_at hl 1 rfl) ?_
                refine kx_get (v := .ref (a + 6)) hx hb hts hinX8 hown hK hM.1 rfl 10 (by decide) (by decide +kernel) rfl dX8_depthOf_62 ?_
                refine lv_iload_n hx hb dX8_depthOf_65 rfl (lv_at hl 3 rfl) ?_
                refine kx_iald (i := k) hx hb hK hM.depths 0 rfl (by omega) (by decide) dX8_depthOf_66 ?_
                refine kx_ci (y := nI (dpV z (dpT z k) k e1)) (dzE_at z k e1) ?_
                refine kn_icmp_le (tgt := 75) hx hb dX8_depthOf_67 (by decide) (by omega) (by omega) (fun hle => ?_) (fun hle => ?_)
                · refine lv_aload_n hx hb dX8_depthOf_75 rfl (lv_at hl 1 rfl) ?_
                  refine kx_get (v := .ref (a + 6)) hx hb hts hinX8 hown hK hM.1 rfl 10 (by decide) (by decide +kernel) rfl dX8_depthOf_76 ?_
                  refine lv_iload_n hx hb dX8_depthOf_79 rfl (lv_at hl 3 rfl) ?_
                  refine kx_iald (i := k) hx hb hK hM.depths 0 rfl (by omega) (by decide) dX8_depthOf_80 ?_
                  refine kx_ci (y := nI (dpV z (dpT z k) k e1)) (dzE_at z k e1) ?_
                  refine kx_ci (x := nI (dpV z (dpT z k) k e1)) (y := nI (dpV z (dpT z k) k (e1 + 1))) (congrArg nI (by rw [dpV_s]; first | rw [if_pos hle] | rw [if_neg hle])) ?_
                  refine kx_iast (i := k) hx hb hK hM.depths hS ⟨by omega, by omega⟩ 0 rfl (by omega) (by decide) dX8_depthOf_81 (fun H locs hc hU hS => ?_)
                  have hM := hM.put_depths (by omega) hc hU
                  clear hc hU
                  have hM : MdC D (cs 0) a (dzE z k (e1 + 1)) H := (by rw [← dzE_s]; exact hM)
                  refine lv_iinc (v := nI (e1 + 1)) (lv' := [(4, .int (nI (e1 + 1))), (5, .int (nI (if woN z k / 2 ^ e1 % 2 = 1 then dpT z k e1 + 1 else 0))), (0, .ref (a)), (1, .int (nI (mv))), (2, .int (nI (k))), (3, .int (nI (woN z k)))]) (k := 5) hx hb dX8_depthOf_82 hl rfl (nI_add _ _) (by decide) rfl (fun ls hl => ?_)
                  refine lv_goto (tgt := 23) hx hb dX8_depthOf_85 (by decide) ?_
                  exact ih23 (e1 + 1) _ _ _ (by omega) (by omega) hM hS (lv_sub hl [2, 3, 4, 5, 0] rfl)
                · refine lv_iload hx hb dX8_depthOf_70 (lv_at hl 0 rfl) ?_
                  refine lv_goto (tgt := 81) hx hb dX8_depthOf_72 (by decide) ?_
                  refine kx_ci (x := nI (if woN z k / 2 ^ e1 % 2 = 1 then dpT z k e1 + 1 else 0)) (y := nI (dpV z (dpT z k) k (e1 + 1))) (congrArg nI (by rw [dpV_s]; first | rw [if_pos hle] | rw [if_neg hle])) ?_
                  refine kx_iast (i := k) hx hb hK hM.depths hS ⟨by omega, by omega⟩ 0 rfl (by omega) (by decide) dX8_depthOf_81 (fun H locs hc hU hS => ?_)
                  have hM := hM.put_depths (by omega) hc hU
                  clear hc hU
                  have hM : MdC D (cs 0) a (dzE z k (e1 + 1)) H := (by rw [← dzE_s]; exact hM)
                  refine lv_iinc (v := nI (e1 + 1)) (lv' := [(4, .int (nI (e1 + 1))), (5, .int (nI (if woN z k / 2 ^ e1 % 2 = 1 then dpT z k e1 + 1 else 0))), (0, .ref (a)), (1, .int (nI (mv))), (2, .int (nI (k))), (3, .int (nI (woN z k)))]) (k := 5) hx hb dX8_depthOf_82 hl rfl (nI_add _ _) (by decide) rfl (fun ls hl => ?_)
                  refine lv_goto (tgt := 23) hx hb dX8_depthOf_85 (by decide) ?_
                  exact ih23 (e1 + 1) _ _ _ (by omega) (by omega) hM hS (lv_sub hl [2, 3, 4, 5, 0] rfl)
              · refine lv_aload_n hx hb dX8_depthOf_39 rfl (lv_at hl 0 rfl) ?_
                refine kx_get (v := .ref (a + 6)) hx hb hts hinX8 hown hK hM.1 rfl 10 (by decide) (by decide +kernel) rfl dX8_depthOf_40 ?_
                refine lv_iload hx hb dX8_depthOf_43 (lv_at hl 4 rfl) ?_
                refine kx_iald (i := e1) hx hb hK hM.depths 0 rfl (by omega) (by decide) dX8_depthOf_45 ?_
                refine kx_ci (y := nI (dpT z k e1)) (dzE_in z hek) ?_
                refine lv_iconst (v := nI 1) hx hb dX8_depthOf_46 (by decide) ?_
                refine kn_add hx hb dX8_depthOf_47 ?_
                refine lv_goto (tgt := 52) hx hb dX8_depthOf_48 (by decide) ?_
                refine kx_ci (x := nI (dpT z k e1 + 1)) (y := nI (if woN z k / 2 ^ e1 % 2 = 1 then dpT z k e1 + 1 else 0)) (congrArg nI (by rw [Nat.and_one_is_mod] at hbit; simp [*])) ?_
                refine lv_istore (lv' := [(5, .int (nI (if woN z k / 2 ^ e1 % 2 = 1 then dpT z k e1 + 1 else 0))), (0, .ref (a)), (1, .int (nI (mv))), (2, .int (nI (k))), (3, .int (nI (woN z k))), (4, .int (nI (e1)))]) hx hb dX8_depthOf_52 hl (by decide) rfl (fun ls hl => ?_)
                have hdv := dpV_le z (t := dpT z k) (m := k) (n := k) e1 (fun j hj => Nat.lt_of_le_of_lt (dpT_le z k j) (by omega))
                have hX : (if woN z k / 2 ^ e1 % 2 = 1 then dpT z k e1 + 1 else 0) ≤ k := by split <;> omega
                refine lv_aload_n hx hb dX8_depthOf_54 rfl (lv_at hl 1 rfl) ?_
                refine kx_get (v := .ref (a + 6)) hx hb hts hinX8 hown hK hM.1 rfl 10 (by decide) (by decide +kernel) rfl dX8_depthOf_55 ?_
                refine lv_iload_n hx hb dX8_depthOf_58 rfl (lv_at hl 3 rfl) ?_
                refine lv_iload hx hb dX8_depthOf_59 (lv_at hl 0 rfl) ?_
                refine lv_aload_n hx hb dX8_depthOf_61 rfl (lv_at hl 1 rfl) ?_
                refine kx_get (v := .ref (a + 6)) hx hb hts hinX8 hown hK hM.1 rfl 10 (by decide) (by decide +kernel) rfl dX8_depthOf_62 ?_
                refine lv_iload_n hx hb dX8_depthOf_65 rfl (lv_at hl 3 rfl) ?_
                refine kx_iald (i := k) hx hb hK hM.depths 0 rfl (by omega) (by decide) dX8_depthOf_66 ?_
                refine kx_ci (y := nI (dpV z (dpT z k) k e1)) (dzE_at z k e1) ?_
                refine kn_icmp_le (tgt := 75) hx hb dX8_depthOf_67 (by decide) (by omega) (by omega) (fun hle => ?_) (fun hle => ?_)
                · refine lv_aload_n hx hb dX8_depthOf_75 rfl (lv_at hl 1 rfl) ?_
                  refine kx_get (v := .ref (a + 6)) hx hb hts hinX8 hown hK hM.1 rfl 10 (by decide) (by decide +kernel) rfl dX8_depthOf_76 ?_
                  refine lv_iload_n hx hb dX8_depthOf_79 rfl (lv_at hl 3 rfl) ?_
                  refine kx_iald (i := k) hx hb hK hM.depths 0 rfl (by omega) (by decide) dX8_depthOf_80 ?_
                  refine kx_ci (y := nI (dpV z (dpT z k) k e1)) (dzE_at z k e1) ?_
                  refine kx_ci (x := nI (dpV z (dpT z k) k e1)) (y := nI (dpV z (dpT z k) k (e1 + 1))) (congrArg nI (by rw [dpV_s]; first | rw [if_pos hle] | rw [if_neg hle])) ?_
                  refine kx_iast (i := k) hx hb hK hM.depths hS ⟨by omega, by omega⟩ 0 rfl (by omega) (by decide) dX8_depthOf_81 (fun H locs hc hU hS => ?_)
                  have hM := hM.put_depths (by omega) hc hU
                  clear hc hU
                  have hM : MdC D (cs 0) a (dzE z k (e1 + 1)) H := (by rw [← dzE_s]; exact hM)
                  refine lv_iinc (v := nI (e1 + 1)) (lv' := [(4, .int (nI (e1 + 1))), (5, .int (nI (if woN z k / 2 ^ e1 % 2 = 1 then dpT z k e1 + 1 else 0))), (0, .ref (a)), (1, .int (nI (mv))), (2, .int (nI (k))), (3, .int (nI (woN z k)))]) (k := 5) hx hb dX8_depthOf_82 hl rfl (nI_add _ _) (by decide) rfl (fun ls hl => ?_)
                  refine lv_goto (tgt := 23) hx hb dX8_depthOf_85 (by decide) ?_
                  exact ih23 (e1 + 1) _ _ _ (by omega) (by omega) hM hS (lv_sub hl [2, 3, 4, 5, 0] rfl)
                · refine lv_iload hx hb dX8_depthOf_70 (lv_at hl 0 rfl) ?_
                  refine lv_goto (tgt := 81) hx hb dX8_depthOf_72 (by decide) ?_
                  refine kx_ci (x := nI (if woN z k / 2 ^ e1 % 2 = 1 then dpT z k e1 + 1 else 0)) (y := nI (dpV z (dpT z k) k (e1 + 1))) (congrArg nI (by rw [dpV_s]; first | rw [if_pos hle] | rw [if_neg hle])) ?_
                  refine kx_iast (i := k) hx hb hK hM.depths hS ⟨by omega, by omega⟩ 0 rfl (by omega) (by decide) dX8_depthOf_81 (fun H locs hc hU hS => ?_)
                  have hM := hM.put_depths (by omega) hc hU
                  clear hc hU
                  have hM : MdC D (cs 0) a (dzE z k (e1 + 1)) H := (by rw [← dzE_s]; exact hM)
                  refine lv_iinc (v := nI (e1 + 1)) (lv' := [(4, .int (nI (e1 + 1))), (5, .int (nI (if woN z k / 2 ^ e1 % 2 = 1 then dpT z k e1 + 1 else 0))), (0, .ref (a)), (1, .int (nI (mv))), (2, .int (nI (k))), (3, .int (nI (woN z k)))]) (k := 5) hx hb dX8_depthOf_82 hl rfl (nI_add _ _) (by decide) rfl (fun ls hl => ?_)
                  refine lv_goto (tgt := 23) hx hb dX8_depthOf_85 (by decide) ?_
                  exact ih23 (e1 + 1) _ _ _ (by omega) (by omega) hM hS (lv_sub hl [2, 3, 4, 5, 0] rfl)
        exact J23 _ 0 _ _ _ (Nat.lt_succ_self _) (by omega) hM hS (lv_sub hl [2, 3, 4, 1, 0] rfl)
  exact J2 _ 0 _ _ _ (Nat.lt_succ_self _) (by omega) (by rw [dzK_0]; exact hM) hS (lv_sub hl [1, 2, 0] rfl)
set_option maxHeartbeats 1500000 in
set_option maxRecDepth 100000 in
theorem k_X8_finish (l : Launch) (D : va_G) (cs : Nat → ClassId) (a : Nat) (z : Nat → Int32) (hI : Inv z) : Met l yX8_finish wsX8_finish ({ frames := 3, cells := 0, slots := 0, locals := 70 } : Room) (PcK D cs [.ref (a)] (fun H => MdC D (cs 0) a z H)) (QcM none (fun H => MdC D (cs 0) a (finF z) H) (rgM a)) 0 0 ((rgM a)) := by
  refine kx_met (cc := cX8_finish) (maxL := 2) (ret := none) (by decide) rfl (Nat.le_of_ble_eq_true rfl) ?_
  intro p e s m args below meth c hx hb hml hrt hts hown hlk hK hN hP ls hl
  have hl : lv_has ls 2 [(0, .ref (a))] := hl
  obtain ⟨H, hHe⟩ : ∃ H : Heap, H = s.heap := ⟨_, rfl⟩
  rw [← hHe] at hP ⊢
  have hS : va_S ((rgM a)) s.heap H [] := by rw [← hHe]; exact va_S.rf
  have hinX8 : ∀ w ∈ wsX80, w ∈ wsX8_finish := by decide +kernel
  have hM := hP
  have h24 := hI.M24
  have h6 := hI.R6
  refine lv_iconst (v := nI 0) hx hb dX8_finish_0 (by decide) ?_
  refine lv_istore_n (lv' := [(1, .int (nI (0))), (0, .ref (a))]) hx hb dX8_finish_1 rfl hl (by decide) rfl (fun ls hl => ?_)
  have J2 : ∀ (n2 : Nat) (k : Nat) (H : Heap) (locs : List Loc) (ls : Array Slot), (Mn z - k) < n2 → (k ≤ Mn z) → (MdC D (cs 0) a (finK z k) H) → va_S ((rgM a)) s.heap H locs → lv_has ls 2 [(0, .ref (a)), (1, .int (nI (k)))] → W p l e ({ frames := 3, cells := 0, slots := 0, locals := 70 } : Room) s m args below meth c H locs 0 0 (MQ below (QcM none (fun H => MdC D (cs 0) a (finF z) H) (rgM a)) args s 0 0 ((rgM a))) (F0 m 2 ls []) := by
    intro n2; induction n2 with
    | zero => intro k H locs ls hmu2 hk hM hS hl; exact absurd hmu2 (Nat.not_lt_zero _)
    | succ n2 ih2 =>
      intro k H locs ls hmu2 hk hM hS hl
      obtain ⟨y, hyd⟩ : ∃ y, finK z k = y := ⟨_, rfl⟩
      have hy : SI z y := hyd ▸ finK_si hI k hk
      rw [hyd] at hM
      have hMy := hy.1.M
      refine lv_iload_n hx hb dX8_finish_2 rfl (lv_at hl 1 rfl) ?_
      refine lv_aload_n hx hb dX8_finish_3 rfl (lv_at hl 0 rfl) ?_
      refine kx_get (v := .ref (a + 1)) hx hb hts hinX8 hown hK hM.1 rfl 1 (by decide) (by decide +kernel) rfl dX8_finish_4 ?_
      refine lv_iconst (v := nI 4) hx hb dX8_finish_7 (by decide) ?_
      refine kx_iald (i := 4) hx hb hK hM.state 0 rfl (by decide) (by decide) dX8_finish_8 ?_
      refine kx_ci (y := nI (Mn y)) (hy.2).z4 ?_
      refine kn_icmp_ge (tgt := 50) hx hb dX8_finish_9 (by decide) (by omega) (by omega) (fun c_1 => ?_) (fun c_1 => ?_)
      · exact kx_vretM hx hb hrt hlk (by rw [← hyd, show k = Mn z by omega] at hM; exact hM) hS dX8_finish_50
      · have hkM : k < Mn y := by omega
        have hs3 := hy.2.s3 hkM
        have hsf := startF_mS (z := y) k (by omega)
        have hfy := startF_si hy.2 k
        have hMf := hfy.1.M
        refine lv_aload_n hx hb dX8_finish_12 rfl (lv_at hl 0 rfl) ?_
        refine lv_iload_n hx hb dX8_finish_13 rfl (lv_at hl 1 rfl) ?_
        refine lv_iconst (v := nI 5) hx hb dX8_finish_14 (by decide) ?_
        refine kx_retP (va_runV (As := [.int (nI (k)), .int (nI (5))]) (rest := []) ⟨hx, hb, hml, hown, hts⟩ (k_X8_movePart l D cs a y k 5 (by first | assumption | omega) (by first | assumption | omega)) (cwV 2 hts gX8_finish_X8_movePart rfl rfl rfl (by decide +kernel) ⟨Nat.le_of_ble_eq_true rfl, Nat.le_of_ble_eq_true rfl⟩) (kx_preV hK hN hM.1 rfl hM) rfl rfl hl.1 rfl (lv_room (Nat.le_of_ble_eq_true rfl)) dX8_finish_15 ⟨Nat.le_of_ble_eq_true rfl, Nat.le_of_ble_eq_true rfl⟩) ?_
        refine kx_ci (y := nI (mS y k)) (Inv.m5 hy.2 (by first | assumption | omega)) ?_
        refine kn_if_ne (tgt := 26) hx hb dX8_finish_18 (by decide) (by omega) (fun c_2 => ?_) (fun c_2 => ?_)
        · refine lv_aload_n hx hb dX8_finish_26 rfl (lv_at hl 0 rfl) ?_
          refine lv_iload_n hx hb dX8_finish_27 rfl (lv_at hl 1 rfl) ?_
          refine lv_iconst (v := nI 5) hx hb dX8_finish_28 (by decide) ?_
          refine kx_retP (va_runV (As := [.int (nI (k)), .int (nI (5))]) (rest := []) ⟨hx, hb, hml, hown, hts⟩ (k_X8_movePart l D cs a y k 5 (by first | assumption | omega) (by first | assumption | omega)) (cwV 2 hts gX8_finish_X8_movePart rfl rfl rfl (by decide +kernel) ⟨Nat.le_of_ble_eq_true rfl, Nat.le_of_ble_eq_true rfl⟩) (kx_preV hK hN hM.1 rfl hM) rfl rfl hl.1 rfl (lv_room (Nat.le_of_ble_eq_true rfl)) dX8_finish_29 ⟨Nat.le_of_ble_eq_true rfl, Nat.le_of_ble_eq_true rfl⟩) ?_
          refine kx_ci (y := nI (mS y k)) (Inv.m5 hy.2 (by omega)) ?_
          refine lv_iconst (v := nI 1) hx hb dX8_finish_32 (by decide) ?_
          refine kn_icmp_ne (tgt := 44) hx hb dX8_finish_33 (by decide) (by omega) (by decide) (fun c_3 => ?_) (fun c_3 => ?_)
          · have e9 : finK z (k + 1) = y := by
              show finS k (finK z k) = _
              rw [hyd]; first | (simp [finS, *]; done) | (exfalso; omega)
            have hM : MdC D (cs 0) a (finK z (k + 1)) H := by rw [e9]; exact hM
            refine lv_iinc (v := nI (k + 1)) (lv' := [(1, .int (nI (k + 1))), (0, .ref (a))]) (k := 1) hx hb dX8_finish_44 hl rfl (nI_add _ _) (by decide) rfl (fun ls hl => ?_)
            refine lv_goto (tgt := 2) hx hb dX8_finish_47 (by decide) ?_
            exact ih2 (k + 1) _ _ _ (by omega) (by omega) hM hS (lv_sub hl [1, 0] rfl)
          · refine lv_aload_n hx hb dX8_finish_36 rfl (lv_at hl 0 rfl) ?_
            refine lv_iload_n hx hb dX8_finish_37 rfl (lv_at hl 1 rfl) ?_
            refine lv_bipush (v := nI 16) hx hb dX8_finish_38 (by decide) ?_
            refine kx_retM (va_runV (As := [.int (nI (k)), .int (nI (16))]) (rest := []) ⟨hx, hb, hml, hown, hts⟩ (k_X8_writesOn l D cs a y k 16 hy.2 (by first | assumption | omega) (by first | assumption | omega)) (cwV 2 hts gX8_finish_X8_writesOn rfl rfl rfl (by decide +kernel) ⟨Nat.le_of_ble_eq_true rfl, Nat.le_of_ble_eq_true rfl⟩) (kx_preV hK hN hM.1 rfl hM) rfl rfl hl.1 rfl (lv_room (Nat.le_of_ble_eq_true rfl)) dX8_finish_40 ⟨Nat.le_of_ble_eq_true rfl, Nat.le_of_ble_eq_true rfl⟩) hS (fun q _ h => h) (fun q h => h) (fun H locs hM hk hS => ?_)
            clear hk
            refine lv_pop hx hb dX8_finish_43 rfl ?_
            have e9 : finK z (k + 1) = writesF y k 16 := by
              show finS k (finK z k) = _
              rw [hyd]; first | (simp [finS, *]; done) | (exfalso; omega)
            have hM : MdC D (cs 0) a (finK z (k + 1)) H := by rw [e9]; exact hM
            refine lv_iinc (v := nI (k + 1)) (lv' := [(1, .int (nI (k + 1))), (0, .ref (a))]) (k := 1) hx hb dX8_finish_44 hl rfl (nI_add _ _) (by decide) rfl (fun ls hl => ?_)
            refine lv_goto (tgt := 2) hx hb dX8_finish_47 (by decide) ?_
            exact ih2 (k + 1) _ _ _ (by omega) (by omega) hM hS (lv_sub hl [1, 0] rfl)
        · refine lv_aload_n hx hb dX8_finish_21 rfl (lv_at hl 0 rfl) ?_
          refine lv_iload_n hx hb dX8_finish_22 rfl (lv_at hl 1 rfl) ?_
          refine kx_retM (va_runV (As := [.int (nI (k))]) (rest := []) ⟨hx, hb, hml, hown, hts⟩ (k_X8_startMove l D cs a y k hy.2 (by first | assumption | omega)) (cwV 1 hts gX8_finish_X8_startMove rfl rfl rfl (by decide +kernel) ⟨Nat.le_of_ble_eq_true rfl, Nat.le_of_ble_eq_true rfl⟩) (kx_preV hK hN hM.1 rfl hM) rfl rfl hl.1 rfl (lv_room (Nat.le_of_ble_eq_true rfl)) dX8_finish_23 ⟨Nat.le_of_ble_eq_true rfl, Nat.le_of_ble_eq_true rfl⟩) hS (fun q _ h => h) (fun q h => h) (fun H locs hM hk hS => ?_)
          clear hk
          have hM : MdC D (cs 0) a (startF y k) H := hM
          refine lv_aload_n hx hb dX8_finish_26 rfl (lv_at hl 0 rfl) ?_
          refine lv_iload_n hx hb dX8_finish_27 rfl (lv_at hl 1 rfl) ?_
          refine lv_iconst (v := nI 5) hx hb dX8_finish_28 (by decide) ?_
          refine kx_retP (va_runV (As := [.int (nI (k)), .int (nI (5))]) (rest := []) ⟨hx, hb, hml, hown, hts⟩ (k_X8_movePart l D cs a (startF y k) k 5 (by first | assumption | omega) (by first | assumption | omega)) (cwV 2 hts gX8_finish_X8_movePart rfl rfl rfl (by decide +kernel) ⟨Nat.le_of_ble_eq_true rfl, Nat.le_of_ble_eq_true rfl⟩) (kx_preV hK hN hM.1 rfl hM) rfl rfl hl.1 rfl (lv_room (Nat.le_of_ble_eq_true rfl)) dX8_finish_29 ⟨Nat.le_of_ble_eq_true rfl, Nat.le_of_ble_eq_true rfl⟩) ?_
          refine kx_ci (y := nI (mS (startF y k) k)) (Inv.m5 hfy.2 (by omega)) ?_
          refine lv_iconst (v := nI 1) hx hb dX8_finish_32 (by decide) ?_
          refine kn_icmp_ne (tgt := 44) hx hb dX8_finish_33 (by decide) (by omega) (by decide) (fun c_4 => ?_) (fun c_4 => ?_)
          · have e9 : finK z (k + 1) = startF y k := by
              show finS k (finK z k) = _
              rw [hyd]; first | (simp [finS, *]; done) | (exfalso; omega)
            have hM : MdC D (cs 0) a (finK z (k + 1)) H := by rw [e9]; exact hM
            refine lv_iinc (v := nI (k + 1)) (lv' := [(1, .int (nI (k + 1))), (0, .ref (a))]) (k := 1) hx hb dX8_finish_44 hl rfl (nI_add _ _) (by decide) rfl (fun ls hl => ?_)
            refine lv_goto (tgt := 2) hx hb dX8_finish_47 (by decide) ?_
            exact ih2 (k + 1) _ _ _ (by omega) (by omega) hM hS (lv_sub hl [1, 0] rfl)
          · refine lv_aload_n hx hb dX8_finish_36 rfl (lv_at hl 0 rfl) ?_
            refine lv_iload_n hx hb dX8_finish_37 rfl (lv_at hl 1 rfl) ?_
            refine lv_bipush (v := nI 16) hx hb dX8_finish_38 (by decide) ?_
            refine kx_retM (va_runV (As := [.int (nI (k)), .int (nI (16))]) (rest := []) ⟨hx, hb, hml, hown, hts⟩ (k_X8_writesOn l D cs a (startF y k) k 16 hfy.2 (by first | assumption | omega) (by first | assumption | omega)) (cwV 2 hts gX8_finish_X8_writesOn rfl rfl rfl (by decide +kernel) ⟨Nat.le_of_ble_eq_true rfl, Nat.le_of_ble_eq_true rfl⟩) (kx_preV hK hN hM.1 rfl hM) rfl rfl hl.1 rfl (lv_room (Nat.le_of_ble_eq_true rfl)) dX8_finish_40 ⟨Nat.le_of_ble_eq_true rfl, Nat.le_of_ble_eq_true rfl⟩) hS (fun q _ h => h) (fun q h => h) (fun H locs hM hk hS => ?_)
            clear hk
            refine lv_pop hx hb dX8_finish_43 rfl ?_
            have e9 : finK z (k + 1) = writesF (startF y k) k 16 := by
              show finS k (finK z k) = _
              rw [hyd]; first | (simp [finS, *]; done) | (exfalso; omega)
            have hM : MdC D (cs 0) a (finK z (k + 1)) H := by rw [e9]; exact hM
            refine lv_iinc (v := nI (k + 1)) (lv' := [(1, .int (nI (k + 1))), (0, .ref (a))]) (k := 1) hx hb dX8_finish_44 hl rfl (nI_add _ _) (by decide) rfl (fun ls hl => ?_)
            refine lv_goto (tgt := 2) hx hb dX8_finish_47 (by decide) ?_
            exact ih2 (k + 1) _ _ _ (by omega) (by omega) hM hS (lv_sub hl [1, 0] rfl)
  exact J2 _ 0 _ _ _ (Nat.lt_succ_self _) (by omega) hM hS (lv_sub hl [1, 0] rfl)
set_option maxHeartbeats 1500000 in
set_option maxRecDepth 100000 in
theorem k_X8_save (l : Launch) (D : va_G) (cs : Nat → ClassId) (a : Nat) (z : Nat → Int32) (v : Nat) (hv : z 4404 = nI v) (hv4 : v ≤ 4) : Met l yX8_save wsX8_save ({ frames := 1, cells := 0, slots := 0, locals := 24 } : Room) (PcK D cs [.ref (a)] (fun H => MdC D (cs 0) a z H)) (QcM none (fun H => MdC D (cs 0) a (saveF z v) H) (rgM a)) 0 0 ((rgM a)) := by
  refine kx_met (cc := cX8_save) (maxL := 2) (ret := none) (by decide) rfl (Nat.le_of_ble_eq_true rfl) ?_
  intro p e s m args below meth c hx hb hml hrt hts hown hlk hK hN hP ls hl
  have hl : lv_has ls 2 [(0, .ref (a))] := hl
  obtain ⟨H, hHe⟩ : ∃ H : Heap, H = s.heap := ⟨_, rfl⟩
  rw [← hHe] at hP ⊢
  have hS : va_S ((rgM a)) s.heap H [] := by rw [← hHe]; exact va_S.rf
  have hinX8 : ∀ w ∈ wsX80, w ∈ wsX8_save := by decide +kernel
  have hM := hP
  refine lv_aload_n hx hb dX8_save_0 rfl (lv_at hl 0 rfl) ?_
  refine kx_get (v := .int (z 4404)) hx hb hts hinX8 hown hK hM.1 rfl 4 (by decide) (by decide +kernel) rfl dX8_save_1 ?_
  refine kx_ci (y := nI (v)) hv ?_
  refine lv_iconst (v := nI 4) hx hb dX8_save_4 (by decide) ?_
  refine kn_icmp_ne (tgt := 49) hx hb dX8_save_5 (by decide) (by omega) (by decide) (fun c_1 => ?_) (fun c_1 => ?_)
  · have hM : MdC D (cs 0) a (svA z v) H := by unfold svA; rw [if_neg c_1]; exact hM
    have hvV : svV v ≤ 3 := by unfold svV; split <;> omega
    refine lv_aload_n hx hb dX8_save_49 rfl (lv_at hl 0 rfl) ?_
    refine kx_get (v := .ref (a + 1)) hx hb hts hinX8 hown hK hM.1 rfl 1 (by decide) (by decide +kernel) rfl dX8_save_50 ?_
    refine lv_iconst (v := nI 0) hx hb dX8_save_53 (by decide) ?_
    refine lv_aload_n hx hb dX8_save_54 rfl (lv_at hl 0 rfl) ?_
    refine kx_get (v := .ref (a + 3)) hx hb hts hinX8 hown hK hM.1 rfl 3 (by decide) (by decide +kernel) rfl dX8_save_55 ?_
    refine lv_aload_n hx hb dX8_save_58 rfl (lv_at hl 0 rfl) ?_
    refine kx_get (v := .int ((svA z v) 4404)) hx hb hts hinX8 hown hK hM.1 rfl 4 (by decide) (by decide +kernel) rfl dX8_save_59 ?_
    refine kx_ci (y := nI (svV v)) (svA_v z hv) ?_
    refine lv_sipush (v := nI 704) hx hb dX8_save_62 (by decide) ?_
    refine kn_mul hx hb dX8_save_65 ?_
    refine kx_retM (va_runS (As := [.ref (a + 1), .int (nI (0)), .ref (a + 3), .int (nI ((svV v) * 704))]) (rest := []) ⟨hx, hb, hml, hown, hts⟩ (k_X8_copy l D cs (a + 1) (a + 3) 704 2816 0 ((svV v) * 704) (fun j => (svA z v) j) (fun j => (svA z v) (1408 + j)) (by omega) (by omega) (by omega) (by decide) (by decide)) (cwS 4 hts gX8_save_X8_copy rfl rfl rfl (by decide +kernel) ⟨Nat.le_of_ble_eq_true rfl, Nat.le_of_ble_eq_true rfl⟩) (kx_preS hK hN ⟨hM.state, hM.stack⟩) rfl rfl hl.1 rfl (lv_room (Nat.le_of_ble_eq_true rfl)) dX8_save_66 ⟨Nat.le_of_ble_eq_true rfl, Nat.le_of_ble_eq_true rfl⟩) hS (fun q h1 (h : q = a + 3) => by subst h; exact ⟨by omega, by omega⟩) (fun q (h : q = a + 3) => by subst h; exact ⟨by omega, by omega⟩) (fun H locs hc hk hS => ?_)
    have hM := hM.cp_stack (sp := (svV v) * 704) (src := 0) (by omega) (fun j hj => congrArg _ (by omega)) hc (fun q h1 h2 h3 => hk.2 q (hM.lt q h1 h2) h3)
    clear hc hk
    refine lv_aload_n hx hb dX8_save_69 rfl (lv_at hl 0 rfl) ?_
    refine lv_dup hx hb dX8_save_70 rfl ?_
    refine kx_get (v := .int ((cpZ (svA z v) 0 (1408 + ((svV v) * 704))) 4404)) hx hb hts hinX8 hown hK hM.1 rfl 4 (by decide) (by decide +kernel) rfl dX8_save_71 ?_
    refine kx_ci (y := nI (svV v)) (by rw [cpZ_at, if_neg (by omega)]; exact svA_v z hv) ?_
    refine lv_iconst (v := nI 1) hx hb dX8_save_74 (by decide) ?_
    refine kn_add hx hb dX8_save_75 ?_
    refine kx_put hx hb hts hinX8 tyX8_ok nmX8 hown hK hM.1 rfl hS ⟨by omega, by omega⟩ 4 (by decide) (by decide +kernel) rfl rfl rfl (Nat.le_of_ble_eq_true rfl) dX8_save_76 (fun H locs hc hU hS => ?_)
    have hM := hM.put_saved hc hU
    clear hc hU
    exact kx_vretM hx hb hrt hlk hM hS dX8_save_79
  · refine lv_iconst (v := nI 0) hx hb dX8_save_8 (by decide) ?_
    refine lv_istore_n (lv' := [(1, .int (nI (0))), (0, .ref (a))]) hx hb dX8_save_9 rfl hl (by decide) rfl (fun ls hl => ?_)
    have J10 : ∀ (n10 : Nat) (k : Nat) (H : Heap) (locs : List Loc) (ls : Array Slot), (2112 - k) < n10 → (k ≤ 2112) → (MdC D (cs 0) a (shK z k) H) → va_S ((rgM a)) s.heap H locs → lv_has ls 2 [(0, .ref (a)), (1, .int (nI (k)))] → W p l e ({ frames := 1, cells := 0, slots := 0, locals := 24 } : Room) s m args below meth c H locs 0 0 (MQ below (QcM none (fun H => MdC D (cs 0) a (saveF z v) H) (rgM a)) args s 0 0 ((rgM a))) (F0 m 10 ls []) := by
      intro n10; induction n10 with
      | zero => intro k H locs ls hmu10 hk hM hS hl; exact absurd hmu10 (Nat.not_lt_zero _)
      | succ n10 ih10 =>
        intro k H locs ls hmu10 hk hM hS hl
        refine lv_iload_n hx hb dX8_save_10 rfl (lv_at hl 1 rfl) ?_
        refine lv_sipush (v := nI 2112) hx hb dX8_save_11 (by decide) ?_
        refine kn_icmp_ge (tgt := 39) hx hb dX8_save_14 (by decide) (by omega) (by decide) (fun c_2 => ?_) (fun c_2 => ?_)
        · have hkk : k = 2112 := by omega
          subst hkk
          refine lv_aload_n hx hb dX8_save_39 rfl (lv_at hl 0 rfl) ?_
          refine lv_dup hx hb dX8_save_40 rfl ?_
          refine kx_get (v := .int ((shK z 2112) 4404)) hx hb hts hinX8 hown hK hM.1 rfl 4 (by decide) (by decide +kernel) rfl dX8_save_41 ?_
          refine kx_ci (y := nI (v)) ((shK_out z (by omega)).trans hv) ?_
          refine lv_iconst (v := nI 1) hx hb dX8_save_44 (by decide) ?_
          refine kn_sub hx hb (by omega) dX8_save_45 ?_
          refine kx_put hx hb hts hinX8 tyX8_ok nmX8 hown hK hM.1 rfl hS ⟨by omega, by omega⟩ 4 (by decide) (by decide +kernel) rfl rfl rfl (Nat.le_of_ble_eq_true rfl) dX8_save_46 (fun H locs hc hU hS => ?_)
          have hM := hM.put_saved hc hU
          clear hc hU
          have hM : MdC D (cs 0) a (svA z v) H := (by subst c_1; exact hM)
          have hvV : svV v ≤ 3 := by unfold svV; split <;> omega
          refine lv_aload_n hx hb dX8_save_49 rfl (lv_at hl 0 rfl) ?_
          refine kx_get (v := .ref (a + 1)) hx hb hts hinX8 hown hK hM.1 rfl 1 (by decide) (by decide +kernel) rfl dX8_save_50 ?_
          refine lv_iconst (v := nI 0) hx hb dX8_save_53 (by decide) ?_
          refine lv_aload_n hx hb dX8_save_54 rfl (lv_at hl 0 rfl) ?_
          refine kx_get (v := .ref (a + 3)) hx hb hts hinX8 hown hK hM.1 rfl 3 (by decide) (by decide +kernel) rfl dX8_save_55 ?_
          refine lv_aload_n hx hb dX8_save_58 rfl (lv_at hl 0 rfl) ?_
          refine kx_get (v := .int ((svA z v) 4404)) hx hb hts hinX8 hown hK hM.1 rfl 4 (by decide) (by decide +kernel) rfl dX8_save_59 ?_
          refine kx_ci (y := nI (svV v)) (svA_v z hv) ?_
          refine lv_sipush (v := nI 704) hx hb dX8_save_62 (by decide) ?_
          refine kn_mul hx hb dX8_save_65 ?_
          refine kx_retM (va_runS (As := [.ref (a + 1), .int (nI (0)), .ref (a + 3), .int (nI ((svV v) * 704))]) (rest := []) ⟨hx, hb, hml, hown, hts⟩ (k_X8_copy l D cs (a + 1) (a + 3) 704 2816 0 ((svV v) * 704) (fun j => (svA z v) j) (fun j => (svA z v) (1408 + j)) (by omega) (by omega) (by omega) (by decide) (by decide)) (cwS 4 hts gX8_save_X8_copy rfl rfl rfl (by decide +kernel) ⟨Nat.le_of_ble_eq_true rfl, Nat.le_of_ble_eq_true rfl⟩) (kx_preS hK hN ⟨hM.state, hM.stack⟩) rfl rfl hl.1 rfl (lv_room (Nat.le_of_ble_eq_true rfl)) dX8_save_66 ⟨Nat.le_of_ble_eq_true rfl, Nat.le_of_ble_eq_true rfl⟩) hS (fun q h1 (h : q = a + 3) => by subst h; exact ⟨by omega, by omega⟩) (fun q (h : q = a + 3) => by subst h; exact ⟨by omega, by omega⟩) (fun H locs hc hk hS => ?_)
          have hM := hM.cp_stack (sp := (svV v) * 704) (src := 0) (by omega) (fun j hj => congrArg _ (by omega)) hc (fun q h1 h2 h3 => hk.2 q (hM.lt q h1 h2) h3)
          clear hc hk
          refine lv_aload_n hx hb dX8_save_69 rfl (lv_at hl 0 rfl) ?_
          refine lv_dup hx hb dX8_save_70 rfl ?_
          refine kx_get (v := .int ((cpZ (svA z v) 0 (1408 + ((svV v) * 704))) 4404)) hx hb hts hinX8 hown hK hM.1 rfl 4 (by decide) (by decide +kernel) rfl dX8_save_71 ?_
          refine kx_ci (y := nI (svV v)) (by rw [cpZ_at, if_neg (by omega)]; exact svA_v z hv) ?_
          refine lv_iconst (v := nI 1) hx hb dX8_save_74 (by decide) ?_
          refine kn_add hx hb dX8_save_75 ?_
          refine kx_put hx hb hts hinX8 tyX8_ok nmX8 hown hK hM.1 rfl hS ⟨by omega, by omega⟩ 4 (by decide) (by decide +kernel) rfl rfl rfl (Nat.le_of_ble_eq_true rfl) dX8_save_76 (fun H locs hc hU hS => ?_)
          have hM := hM.put_saved hc hU
          clear hc hU
          exact kx_vretM hx hb hrt hlk hM hS dX8_save_79
        · refine lv_aload_n hx hb dX8_save_17 rfl (lv_at hl 0 rfl) ?_
          refine kx_get (v := .ref (a + 3)) hx hb hts hinX8 hown hK hM.1 rfl 3 (by decide) (by decide +kernel) rfl dX8_save_18 ?_
          refine lv_iload_n hx hb dX8_save_21 rfl (lv_at hl 1 rfl) ?_
          refine lv_aload_n hx hb dX8_save_22 rfl (lv_at hl 0 rfl) ?_
          refine kx_get (v := .ref (a + 3)) hx hb hts hinX8 hown hK hM.1 rfl 3 (by decide) (by decide +kernel) rfl dX8_save_23 ?_
          refine lv_iload_n hx hb dX8_save_26 rfl (lv_at hl 1 rfl) ?_
          refine lv_sipush (v := nI 704) hx hb dX8_save_27 (by decide) ?_
          refine kn_add hx hb dX8_save_30 ?_
          refine kx_iald (i := k + 704) hx hb hK hM.stack 0 rfl (by omega) (by decide) dX8_save_31 ?_
          refine kx_ci (y := z (1408 + (k + 704))) (shK_out z (by omega)) ?_
          refine kx_iast (i := k) hx hb hK hM.stack hS ⟨by omega, by omega⟩ 0 rfl (by omega) (by decide) dX8_save_32 (fun H locs hc hU hS => ?_)
          have hM := hM.put_stack (by omega) hc hU
          clear hc hU
          have hM : MdC D (cs 0) a (shK z (k + 1)) H := (by rw [← shK_s]; exact hM)
          refine lv_iinc (v := nI (k + 1)) (lv' := [(1, .int (nI (k + 1))), (0, .ref (a))]) (k := 1) hx hb dX8_save_33 hl rfl (nI_add _ _) (by decide) rfl (fun ls hl => ?_)
          refine lv_goto (tgt := 10) hx hb dX8_save_36 (by decide) ?_
          exact ih10 (k + 1) _ _ _ (by omega) (by omega) hM hS (lv_sub hl [1, 0] rfl)
    exact J10 _ 0 _ _ _ (Nat.lt_succ_self _) (by omega) (by rw [shK_0]; exact hM) hS (lv_sub hl [1, 0] rfl)
